theorem tX0_open_0 : pm_tb tX0_open 0 = some (.aload_n 0, 1) := rfl
theorem tX0_open_1 : pm_tb tX0_open 1 = some (.iconst 0, 1) := rfl
theorem tX0_open_2 : pm_tb tX0_open 2 = some (.putfield 38, 3) := rfl
theorem tX0_open_5 : pm_tb tX0_open 5 = some (.aload_n 0, 1) := rfl
theorem tX0_open_6 : pm_tb tX0_open 6 = some (.iconst 0, 1) := rfl
theorem tX0_open_7 : pm_tb tX0_open 7 = some (.putfield 41, 3) := rfl
theorem tX0_open_10 : pm_tb tX0_open 10 = some (.return_, 1) := rfl
theorem tJ7_fill_d0a16_0 : pm_tb tJ7_fill_d0a16 0 = some (.iconst 0, 1) := rfl
theorem tJ7_fill_d0a16_1 : pm_tb tJ7_fill_d0a16 1 = some (.istore_n 3, 1) := rfl
theorem tJ7_fill_d0a16_2 : pm_tb tJ7_fill_d0a16 2 = some (.aload_n 0, 1) := rfl
theorem tJ7_fill_d0a16_3 : pm_tb tJ7_fill_d0a16 3 = some (.arraylength, 1) := rfl
theorem tJ7_fill_d0a16_4 : pm_tb tJ7_fill_d0a16 4 = some (.istore 4, 2) := rfl
theorem tJ7_fill_d0a16_6 : pm_tb tJ7_fill_d0a16 6 = some (.iload_n 3, 1) := rfl
theorem tJ7_fill_d0a16_7 : pm_tb tJ7_fill_d0a16 7 = some (.iload 4, 2) := rfl
theorem tJ7_fill_d0a16_9 : pm_tb tJ7_fill_d0a16 9 = some (.if_icmp .ge 13, 3) := rfl
theorem tJ7_fill_d0a16_12 : pm_tb tJ7_fill_d0a16 12 = some (.aload_n 0, 1) := rfl
theorem tJ7_fill_d0a16_13 : pm_tb tJ7_fill_d0a16 13 = some (.iload_n 3, 1) := rfl
theorem tJ7_fill_d0a16_14 : pm_tb tJ7_fill_d0a16 14 = some (.lload_n 1, 1) := rfl
theorem tJ7_fill_d0a16_15 : pm_tb tJ7_fill_d0a16 15 = some (.lastore, 1) := rfl
theorem tJ7_fill_d0a16_16 : pm_tb tJ7_fill_d0a16 16 = some (.iinc 3 1, 3) := rfl
theorem tJ7_fill_d0a16_19 : pm_tb tJ7_fill_d0a16 19 = some (.goto (-13), 3) := rfl
theorem tJ7_fill_d0a16_22 : pm_tb tJ7_fill_d0a16 22 = some (.return_, 1) := rfl
theorem tX0_begin_0 : pm_tb tX0_begin 0 = some (.aload_n 0, 1) := rfl
theorem tX0_begin_1 : pm_tb tX0_begin 1 = some (.dup, 1) := rfl
theorem tX0_begin_2 : pm_tb tX0_begin 2 = some (.getfield 38, 3) := rfl
theorem tX0_begin_5 : pm_tb tX0_begin 5 = some (.iconst 1, 1) := rfl
theorem tX0_begin_6 : pm_tb tX0_begin 6 = some (.iadd, 1) := rfl
theorem tX0_begin_7 : pm_tb tX0_begin 7 = some (.putfield 38, 3) := rfl
theorem tX0_begin_10 : pm_tb tX0_begin 10 = some (.aload_n 0, 1) := rfl
theorem tX0_begin_11 : pm_tb tX0_begin 11 = some (.iconst 0, 1) := rfl
theorem tX0_begin_12 : pm_tb tX0_begin 12 = some (.putfield 44, 3) := rfl
theorem tX0_begin_15 : pm_tb tX0_begin 15 = some (.aload_n 0, 1) := rfl
theorem tX0_begin_16 : pm_tb tX0_begin 16 = some (.iconst 0, 1) := rfl
theorem tX0_begin_17 : pm_tb tX0_begin 17 = some (.putfield 47, 3) := rfl
theorem tX0_begin_20 : pm_tb tX0_begin 20 = some (.aload_n 0, 1) := rfl
theorem tX0_begin_21 : pm_tb tX0_begin 21 = some (.iconst 0, 1) := rfl
theorem tX0_begin_22 : pm_tb tX0_begin 22 = some (.putfield 50, 3) := rfl
theorem tX0_begin_25 : pm_tb tX0_begin 25 = some (.aload_n 0, 1) := rfl
theorem tX0_begin_26 : pm_tb tX0_begin 26 = some (.iconst 0, 1) := rfl
theorem tX0_begin_27 : pm_tb tX0_begin 27 = some (.putfield 54, 3) := rfl
theorem tX0_begin_30 : pm_tb tX0_begin 30 = some (.aload_n 0, 1) := rfl
theorem tX0_begin_31 : pm_tb tX0_begin 31 = some (.iconst 0, 1) := rfl
theorem tX0_begin_32 : pm_tb tX0_begin 32 = some (.putfield 57, 3) := rfl
theorem tX0_begin_35 : pm_tb tX0_begin 35 = some (.aload_n 0, 1) := rfl
theorem tX0_begin_36 : pm_tb tX0_begin 36 = some (.iconst 0, 1) := rfl
theorem tX0_begin_37 : pm_tb tX0_begin 37 = some (.putfield 60, 3) := rfl
theorem tX0_begin_40 : pm_tb tX0_begin 40 = some (.aload_n 0, 1) := rfl
theorem tX0_begin_41 : pm_tb tX0_begin 41 = some (.iconst 0, 1) := rfl
theorem tX0_begin_42 : pm_tb tX0_begin 42 = some (.putfield 63, 3) := rfl
theorem tX0_begin_45 : pm_tb tX0_begin 45 = some (.aload_n 0, 1) := rfl
theorem tX0_begin_46 : pm_tb tX0_begin 46 = some (.getfield 18, 3) := rfl
theorem tX0_begin_49 : pm_tb tX0_begin 49 = some (.lconst 0, 1) := rfl
theorem tX0_begin_50 : pm_tb tX0_begin 50 = some (.invokestatic 66, 3) := rfl
theorem tX0_begin_53 : pm_tb tX0_begin 53 = some (.return_, 1) := rfl
theorem tX2_hasAct_0 : pm_tb tX2_hasAct 0 = some (.iload_n 1, 1) := rfl
theorem tX2_hasAct_1 : pm_tb tX2_hasAct 1 = some (.ifCond .lt 29, 3) := rfl
theorem tX2_hasAct_4 : pm_tb tX2_hasAct 4 = some (.iload_n 1, 1) := rfl
theorem tX2_hasAct_5 : pm_tb tX2_hasAct 5 = some (.aload_n 0, 1) := rfl
theorem tX2_hasAct_6 : pm_tb tX2_hasAct 6 = some (.getfield 28, 3) := rfl
theorem tX2_hasAct_9 : pm_tb tX2_hasAct 9 = some (.if_icmp .ge 21, 3) := rfl
theorem tX2_hasAct_12 : pm_tb tX2_hasAct 12 = some (.iload_n 2, 1) := rfl
theorem tX2_hasAct_13 : pm_tb tX2_hasAct 13 = some (.ifCond .lt 17, 3) := rfl
theorem tX2_hasAct_16 : pm_tb tX2_hasAct 16 = some (.iload_n 2, 1) := rfl
theorem tX2_hasAct_17 : pm_tb tX2_hasAct 17 = some (.aload_n 0, 1) := rfl
theorem tX2_hasAct_18 : pm_tb tX2_hasAct 18 = some (.getfield 9, 3) := rfl
theorem tX2_hasAct_21 : pm_tb tX2_hasAct 21 = some (.iload_n 1, 1) := rfl
theorem tX2_hasAct_22 : pm_tb tX2_hasAct 22 = some (.iaload, 1) := rfl
theorem tX2_hasAct_23 : pm_tb tX2_hasAct 23 = some (.if_icmp .ge 7, 3) := rfl
theorem tX2_hasAct_26 : pm_tb tX2_hasAct 26 = some (.iconst 1, 1) := rfl
theorem tX2_hasAct_27 : pm_tb tX2_hasAct 27 = some (.goto 4, 3) := rfl
theorem tX2_hasAct_30 : pm_tb tX2_hasAct 30 = some (.iconst 0, 1) := rfl
theorem tX2_hasAct_31 : pm_tb tX2_hasAct 31 = some (.ireturn, 1) := rfl
theorem tX0_isOver_0 : pm_tb tX0_isOver 0 = some (.aload_n 0, 1) := rfl
theorem tX0_isOver_1 : pm_tb tX0_isOver 1 = some (.getfield 50, 3) := rfl
theorem tX0_isOver_4 : pm_tb tX0_isOver 4 = some (.ifCond .ne 18, 3) := rfl
theorem tX0_isOver_7 : pm_tb tX0_isOver 7 = some (.aload_n 1, 1) := rfl
theorem tX0_isOver_8 : pm_tb tX0_isOver 8 = some (.aload_n 0, 1) := rfl
theorem tX0_isOver_9 : pm_tb tX0_isOver 9 = some (.getfield 34, 3) := rfl
theorem tX0_isOver_12 : pm_tb tX0_isOver 12 = some (.aload_n 0, 1) := rfl
theorem tX0_isOver_13 : pm_tb tX0_isOver 13 = some (.getfield 44, 3) := rfl
theorem tX0_isOver_16 : pm_tb tX0_isOver 16 = some (.invokevirtual 72, 3) := rfl
theorem tX0_isOver_19 : pm_tb tX0_isOver 19 = some (.ifCond .ne 7, 3) := rfl
theorem tX0_isOver_22 : pm_tb tX0_isOver 22 = some (.iconst 1, 1) := rfl
theorem tX0_isOver_23 : pm_tb tX0_isOver 23 = some (.goto 4, 3) := rfl
theorem tX0_isOver_26 : pm_tb tX0_isOver 26 = some (.iconst 0, 1) := rfl
theorem tX0_isOver_27 : pm_tb tX0_isOver 27 = some (.ireturn, 1) := rfl
theorem tX0_hasWritten_0 : pm_tb tX0_hasWritten 0 = some (.aload_n 0, 1) := rfl
theorem tX0_hasWritten_1 : pm_tb tX0_hasWritten 1 = some (.getfield 60, 3) := rfl
theorem tX0_hasWritten_4 : pm_tb tX0_hasWritten 4 = some (.iconst 1, 1) := rfl
theorem tX0_hasWritten_5 : pm_tb tX0_hasWritten 5 = some (.iload_n 1, 1) := rfl
theorem tX0_hasWritten_6 : pm_tb tX0_hasWritten 6 = some (.ishl, 1) := rfl
theorem tX0_hasWritten_7 : pm_tb tX0_hasWritten 7 = some (.iand, 1) := rfl
theorem tX0_hasWritten_8 : pm_tb tX0_hasWritten 8 = some (.ifCond .eq 7, 3) := rfl
theorem tX0_hasWritten_11 : pm_tb tX0_hasWritten 11 = some (.iconst 1, 1) := rfl
theorem tX0_hasWritten_12 : pm_tb tX0_hasWritten 12 = some (.goto 4, 3) := rfl
theorem tX0_hasWritten_15 : pm_tb tX0_hasWritten 15 = some (.iconst 0, 1) := rfl
theorem tX0_hasWritten_16 : pm_tb tX0_hasWritten 16 = some (.ireturn, 1) := rfl
theorem tJ6_bitCount_0f7a4_0 : pm_tb tJ6_bitCount_0f7a4 0 = some (.iload_n 0, 1) := rfl
theorem tJ6_bitCount_0f7a4_1 : pm_tb tJ6_bitCount_0f7a4 1 = some (.iload_n 0, 1) := rfl
theorem tJ6_bitCount_0f7a4_2 : pm_tb tJ6_bitCount_0f7a4 2 = some (.iconst 1, 1) := rfl
theorem tJ6_bitCount_0f7a4_3 : pm_tb tJ6_bitCount_0f7a4 3 = some (.iushr, 1) := rfl
theorem tJ6_bitCount_0f7a4_4 : pm_tb tJ6_bitCount_0f7a4 4 = some (.ldc_w 265, 3) := rfl
theorem tJ6_bitCount_0f7a4_7 : pm_tb tJ6_bitCount_0f7a4 7 = some (.iand, 1) := rfl
theorem tJ6_bitCount_0f7a4_8 : pm_tb tJ6_bitCount_0f7a4 8 = some (.isub, 1) := rfl
theorem tJ6_bitCount_0f7a4_9 : pm_tb tJ6_bitCount_0f7a4 9 = some (.istore_n 0, 1) := rfl
theorem tJ6_bitCount_0f7a4_10 : pm_tb tJ6_bitCount_0f7a4 10 = some (.iload_n 0, 1) := rfl
theorem tJ6_bitCount_0f7a4_11 : pm_tb tJ6_bitCount_0f7a4 11 = some (.ldc_w 266, 3) := rfl
theorem tJ6_bitCount_0f7a4_14 : pm_tb tJ6_bitCount_0f7a4 14 = some (.iand, 1) := rfl
theorem tJ6_bitCount_0f7a4_15 : pm_tb tJ6_bitCount_0f7a4 15 = some (.iload_n 0, 1) := rfl
theorem tJ6_bitCount_0f7a4_16 : pm_tb tJ6_bitCount_0f7a4 16 = some (.iconst 2, 1) := rfl
theorem tJ6_bitCount_0f7a4_17 : pm_tb tJ6_bitCount_0f7a4 17 = some (.iushr, 1) := rfl
theorem tJ6_bitCount_0f7a4_18 : pm_tb tJ6_bitCount_0f7a4 18 = some (.ldc_w 266, 3) := rfl
theorem tJ6_bitCount_0f7a4_21 : pm_tb tJ6_bitCount_0f7a4 21 = some (.iand, 1) := rfl
theorem tJ6_bitCount_0f7a4_22 : pm_tb tJ6_bitCount_0f7a4 22 = some (.iadd, 1) := rfl
theorem tJ6_bitCount_0f7a4_23 : pm_tb tJ6_bitCount_0f7a4 23 = some (.istore_n 0, 1) := rfl
theorem tJ6_bitCount_0f7a4_24 : pm_tb tJ6_bitCount_0f7a4 24 = some (.iload_n 0, 1) := rfl
theorem tJ6_bitCount_0f7a4_25 : pm_tb tJ6_bitCount_0f7a4 25 = some (.iload_n 0, 1) := rfl
theorem tJ6_bitCount_0f7a4_26 : pm_tb tJ6_bitCount_0f7a4 26 = some (.iconst 4, 1) := rfl
theorem tJ6_bitCount_0f7a4_27 : pm_tb tJ6_bitCount_0f7a4 27 = some (.iushr, 1) := rfl
theorem tJ6_bitCount_0f7a4_28 : pm_tb tJ6_bitCount_0f7a4 28 = some (.iadd, 1) := rfl
theorem tJ6_bitCount_0f7a4_29 : pm_tb tJ6_bitCount_0f7a4 29 = some (.ldc_w 267, 3) := rfl
theorem tJ6_bitCount_0f7a4_32 : pm_tb tJ6_bitCount_0f7a4 32 = some (.iand, 1) := rfl
theorem tJ6_bitCount_0f7a4_33 : pm_tb tJ6_bitCount_0f7a4 33 = some (.istore_n 0, 1) := rfl
theorem tJ6_bitCount_0f7a4_34 : pm_tb tJ6_bitCount_0f7a4 34 = some (.iload_n 0, 1) := rfl
theorem tJ6_bitCount_0f7a4_35 : pm_tb tJ6_bitCount_0f7a4 35 = some (.iload_n 0, 1) := rfl
theorem tJ6_bitCount_0f7a4_36 : pm_tb tJ6_bitCount_0f7a4 36 = some (.bipush 8, 2) := rfl
theorem tJ6_bitCount_0f7a4_38 : pm_tb tJ6_bitCount_0f7a4 38 = some (.iushr, 1) := rfl
theorem tJ6_bitCount_0f7a4_39 : pm_tb tJ6_bitCount_0f7a4 39 = some (.iadd, 1) := rfl
theorem tJ6_bitCount_0f7a4_40 : pm_tb tJ6_bitCount_0f7a4 40 = some (.istore_n 0, 1) := rfl
theorem tJ6_bitCount_0f7a4_41 : pm_tb tJ6_bitCount_0f7a4 41 = some (.iload_n 0, 1) := rfl
theorem tJ6_bitCount_0f7a4_42 : pm_tb tJ6_bitCount_0f7a4 42 = some (.iload_n 0, 1) := rfl
theorem tJ6_bitCount_0f7a4_43 : pm_tb tJ6_bitCount_0f7a4 43 = some (.bipush 16, 2) := rfl
theorem tJ6_bitCount_0f7a4_45 : pm_tb tJ6_bitCount_0f7a4 45 = some (.iushr, 1) := rfl
theorem tJ6_bitCount_0f7a4_46 : pm_tb tJ6_bitCount_0f7a4 46 = some (.iadd, 1) := rfl
theorem tJ6_bitCount_0f7a4_47 : pm_tb tJ6_bitCount_0f7a4 47 = some (.istore_n 0, 1) := rfl
theorem tJ6_bitCount_0f7a4_48 : pm_tb tJ6_bitCount_0f7a4 48 = some (.iload_n 0, 1) := rfl
theorem tJ6_bitCount_0f7a4_49 : pm_tb tJ6_bitCount_0f7a4 49 = some (.bipush 63, 2) := rfl
theorem tJ6_bitCount_0f7a4_51 : pm_tb tJ6_bitCount_0f7a4 51 = some (.iand, 1) := rfl
theorem tJ6_bitCount_0f7a4_52 : pm_tb tJ6_bitCount_0f7a4 52 = some (.ireturn, 1) := rfl
theorem tX0_countWritten_0 : pm_tb tX0_countWritten 0 = some (.aload_n 0, 1) := rfl
theorem tX0_countWritten_1 : pm_tb tX0_countWritten 1 = some (.getfield 60, 3) := rfl
theorem tX0_countWritten_4 : pm_tb tX0_countWritten 4 = some (.invokestatic 78, 3) := rfl
theorem tX0_countWritten_7 : pm_tb tX0_countWritten 7 = some (.ireturn, 1) := rfl
theorem tX0_touched_0 : pm_tb tX0_touched 0 = some (.aload_n 0, 1) := rfl
theorem tX0_touched_1 : pm_tb tX0_touched 1 = some (.getfield 57, 3) := rfl
theorem tX0_touched_4 : pm_tb tX0_touched 4 = some (.aload_n 0, 1) := rfl
theorem tX0_touched_5 : pm_tb tX0_touched 5 = some (.getfield 60, 3) := rfl
theorem tX0_touched_8 : pm_tb tX0_touched 8 = some (.ior, 1) := rfl
theorem tX0_touched_9 : pm_tb tX0_touched 9 = some (.iconst 1, 1) := rfl
theorem tX0_touched_10 : pm_tb tX0_touched 10 = some (.iload_n 1, 1) := rfl
theorem tX0_touched_11 : pm_tb tX0_touched 11 = some (.ishl, 1) := rfl
theorem tX0_touched_12 : pm_tb tX0_touched 12 = some (.iand, 1) := rfl
theorem tX0_touched_13 : pm_tb tX0_touched 13 = some (.ifCond .eq 7, 3) := rfl
theorem tX0_touched_16 : pm_tb tX0_touched 16 = some (.iconst 1, 1) := rfl
theorem tX0_touched_17 : pm_tb tX0_touched 17 = some (.goto 4, 3) := rfl
theorem tX0_touched_20 : pm_tb tX0_touched 20 = some (.iconst 0, 1) := rfl
theorem tX0_touched_21 : pm_tb tX0_touched 21 = some (.ireturn, 1) := rfl
theorem tX0_leafAt_0 : pm_tb tX0_leafAt 0 = some (.lload_n 2, 1) := rfl
theorem tX0_leafAt_1 : pm_tb tX0_leafAt 1 = some (.aload_n 0, 1) := rfl
theorem tX0_leafAt_2 : pm_tb tX0_leafAt 2 = some (.getfield 18, 3) := rfl
theorem tX0_leafAt_5 : pm_tb tX0_leafAt 5 = some (.iload_n 1, 1) := rfl
theorem tX0_leafAt_6 : pm_tb tX0_leafAt 6 = some (.laload, 1) := rfl
theorem tX0_leafAt_7 : pm_tb tX0_leafAt 7 = some (.ladd, 1) := rfl
theorem tX0_leafAt_8 : pm_tb tX0_leafAt 8 = some (.ldc2_w 114, 3) := rfl
theorem tX0_leafAt_11 : pm_tb tX0_leafAt 11 = some (.land, 1) := rfl
theorem tX0_leafAt_12 : pm_tb tX0_leafAt 12 = some (.l2i, 1) := rfl
theorem tX0_leafAt_13 : pm_tb tX0_leafAt 13 = some (.ireturn, 1) := rfl
theorem tX5_writerBelow_0 : pm_tb tX5_writerBelow 0 = some (.iload_n 2, 1) := rfl
theorem tX5_writerBelow_1 : pm_tb tX5_writerBelow 1 = some (.iconst 1, 1) := rfl
theorem tX5_writerBelow_2 : pm_tb tX5_writerBelow 2 = some (.isub, 1) := rfl
theorem tX5_writerBelow_3 : pm_tb tX5_writerBelow 3 = some (.istore_n 3, 1) := rfl
theorem tX5_writerBelow_4 : pm_tb tX5_writerBelow 4 = some (.iload_n 3, 1) := rfl
theorem tX5_writerBelow_5 : pm_tb tX5_writerBelow 5 = some (.ifCond .lt 25, 3) := rfl
theorem tX5_writerBelow_8 : pm_tb tX5_writerBelow 8 = some (.aload_n 0, 1) := rfl
theorem tX5_writerBelow_9 : pm_tb tX5_writerBelow 9 = some (.getfield 15, 3) := rfl
theorem tX5_writerBelow_12 : pm_tb tX5_writerBelow 12 = some (.iload_n 1, 1) := rfl
theorem tX5_writerBelow_13 : pm_tb tX5_writerBelow 13 = some (.bipush 16, 2) := rfl
theorem tX5_writerBelow_15 : pm_tb tX5_writerBelow 15 = some (.imul, 1) := rfl
theorem tX5_writerBelow_16 : pm_tb tX5_writerBelow 16 = some (.iload_n 3, 1) := rfl
theorem tX5_writerBelow_17 : pm_tb tX5_writerBelow 17 = some (.iadd, 1) := rfl
theorem tX5_writerBelow_18 : pm_tb tX5_writerBelow 18 = some (.iaload, 1) := rfl
theorem tX5_writerBelow_19 : pm_tb tX5_writerBelow 19 = some (.ifCond .eq 5, 3) := rfl
theorem tX5_writerBelow_22 : pm_tb tX5_writerBelow 22 = some (.iload_n 3, 1) := rfl
theorem tX5_writerBelow_23 : pm_tb tX5_writerBelow 23 = some (.ireturn, 1) := rfl
theorem tX5_writerBelow_24 : pm_tb tX5_writerBelow 24 = some (.iinc 3 (-1), 3) := rfl
theorem tX5_writerBelow_27 : pm_tb tX5_writerBelow 27 = some (.goto (-23), 3) := rfl
theorem tX5_writerBelow_30 : pm_tb tX5_writerBelow 30 = some (.iconst (-1), 1) := rfl
theorem tX5_writerBelow_31 : pm_tb tX5_writerBelow 31 = some (.ireturn, 1) := rfl
theorem tX5_isPerhaps_0 : pm_tb tX5_isPerhaps 0 = some (.iload_n 2, 1) := rfl
theorem tX5_isPerhaps_1 : pm_tb tX5_isPerhaps 1 = some (.iconst (-1), 1) := rfl
theorem tX5_isPerhaps_2 : pm_tb tX5_isPerhaps 2 = some (.if_icmp .eq 22, 3) := rfl
theorem tX5_isPerhaps_5 : pm_tb tX5_isPerhaps 5 = some (.aload_n 0, 1) := rfl
theorem tX5_isPerhaps_6 : pm_tb tX5_isPerhaps 6 = some (.getfield 15, 3) := rfl
theorem tX5_isPerhaps_9 : pm_tb tX5_isPerhaps 9 = some (.iload_n 1, 1) := rfl
theorem tX5_isPerhaps_10 : pm_tb tX5_isPerhaps 10 = some (.bipush 16, 2) := rfl
theorem tX5_isPerhaps_12 : pm_tb tX5_isPerhaps 12 = some (.imul, 1) := rfl
theorem tX5_isPerhaps_13 : pm_tb tX5_isPerhaps 13 = some (.iload_n 2, 1) := rfl
theorem tX5_isPerhaps_14 : pm_tb tX5_isPerhaps 14 = some (.iadd, 1) := rfl
theorem tX5_isPerhaps_15 : pm_tb tX5_isPerhaps 15 = some (.iaload, 1) := rfl
theorem tX5_isPerhaps_16 : pm_tb tX5_isPerhaps 16 = some (.iconst 2, 1) := rfl
theorem tX5_isPerhaps_17 : pm_tb tX5_isPerhaps 17 = some (.if_icmp .ne 7, 3) := rfl
theorem tX5_isPerhaps_20 : pm_tb tX5_isPerhaps 20 = some (.iconst 1, 1) := rfl
theorem tX5_isPerhaps_21 : pm_tb tX5_isPerhaps 21 = some (.goto 4, 3) := rfl
theorem tX5_isPerhaps_24 : pm_tb tX5_isPerhaps 24 = some (.iconst 0, 1) := rfl
theorem tX5_isPerhaps_25 : pm_tb tX5_isPerhaps 25 = some (.ireturn, 1) := rfl
theorem tX5_numberOf_0 : pm_tb tX5_numberOf 0 = some (.iload_n 2, 1) := rfl
theorem tX5_numberOf_1 : pm_tb tX5_numberOf 1 = some (.iconst (-1), 1) := rfl
theorem tX5_numberOf_2 : pm_tb tX5_numberOf 2 = some (.if_icmp .ne 7, 3) := rfl
theorem tX5_numberOf_5 : pm_tb tX5_numberOf 5 = some (.iconst (-1), 1) := rfl
theorem tX5_numberOf_6 : pm_tb tX5_numberOf 6 = some (.goto 14, 3) := rfl
theorem tX5_numberOf_9 : pm_tb tX5_numberOf 9 = some (.aload_n 0, 1) := rfl
theorem tX5_numberOf_10 : pm_tb tX5_numberOf 10 = some (.getfield 19, 3) := rfl
theorem tX5_numberOf_13 : pm_tb tX5_numberOf 13 = some (.iload_n 1, 1) := rfl
theorem tX5_numberOf_14 : pm_tb tX5_numberOf 14 = some (.bipush 16, 2) := rfl
theorem tX5_numberOf_16 : pm_tb tX5_numberOf 16 = some (.imul, 1) := rfl
theorem tX5_numberOf_17 : pm_tb tX5_numberOf 17 = some (.iload_n 2, 1) := rfl
theorem tX5_numberOf_18 : pm_tb tX5_numberOf 18 = some (.iadd, 1) := rfl
theorem tX5_numberOf_19 : pm_tb tX5_numberOf 19 = some (.iaload, 1) := rfl
theorem tX5_numberOf_20 : pm_tb tX5_numberOf 20 = some (.ireturn, 1) := rfl
theorem tX5_valueOf_0 : pm_tb tX5_valueOf 0 = some (.iload_n 2, 1) := rfl
theorem tX5_valueOf_1 : pm_tb tX5_valueOf 1 = some (.iconst (-1), 1) := rfl
theorem tX5_valueOf_2 : pm_tb tX5_valueOf 2 = some (.if_icmp .ne 12, 3) := rfl
theorem tX5_valueOf_5 : pm_tb tX5_valueOf 5 = some (.aload_n 0, 1) := rfl
theorem tX5_valueOf_6 : pm_tb tX5_valueOf 6 = some (.getfield 9, 3) := rfl
theorem tX5_valueOf_9 : pm_tb tX5_valueOf 9 = some (.iload_n 1, 1) := rfl
theorem tX5_valueOf_10 : pm_tb tX5_valueOf 10 = some (.laload, 1) := rfl
theorem tX5_valueOf_11 : pm_tb tX5_valueOf 11 = some (.goto 14, 3) := rfl
theorem tX5_valueOf_14 : pm_tb tX5_valueOf 14 = some (.aload_n 0, 1) := rfl
theorem tX5_valueOf_15 : pm_tb tX5_valueOf 15 = some (.getfield 22, 3) := rfl
theorem tX5_valueOf_18 : pm_tb tX5_valueOf 18 = some (.iload_n 1, 1) := rfl
theorem tX5_valueOf_19 : pm_tb tX5_valueOf 19 = some (.bipush 16, 2) := rfl
theorem tX5_valueOf_21 : pm_tb tX5_valueOf 21 = some (.imul, 1) := rfl
theorem tX5_valueOf_22 : pm_tb tX5_valueOf 22 = some (.iload_n 2, 1) := rfl
theorem tX5_valueOf_23 : pm_tb tX5_valueOf 23 = some (.iadd, 1) := rfl
theorem tX5_valueOf_24 : pm_tb tX5_valueOf 24 = some (.laload, 1) := rfl
theorem tX5_valueOf_25 : pm_tb tX5_valueOf 25 = some (.lreturn, 1) := rfl
theorem tX0_keep_0 : pm_tb tX0_keep 0 = some (.aload_n 0, 1) := rfl
theorem tX0_keep_1 : pm_tb tX0_keep 1 = some (.getfield 54, 3) := rfl
theorem tX0_keep_4 : pm_tb tX0_keep 4 = some (.bipush 12, 2) := rfl
theorem tX0_keep_6 : pm_tb tX0_keep 6 = some (.if_icmp .lt 4, 3) := rfl
theorem tX0_keep_9 : pm_tb tX0_keep 9 = some (.return_, 1) := rfl
theorem tX0_keep_10 : pm_tb tX0_keep 10 = some (.aload_n 0, 1) := rfl
theorem tX0_keep_11 : pm_tb tX0_keep 11 = some (.getfield 24, 3) := rfl
theorem tX0_keep_14 : pm_tb tX0_keep 14 = some (.aload_n 0, 1) := rfl
theorem tX0_keep_15 : pm_tb tX0_keep 15 = some (.getfield 54, 3) := rfl
theorem tX0_keep_18 : pm_tb tX0_keep 18 = some (.iload_n 1, 1) := rfl
theorem tX0_keep_19 : pm_tb tX0_keep 19 = some (.iastore, 1) := rfl
theorem tX0_keep_20 : pm_tb tX0_keep 20 = some (.aload_n 0, 1) := rfl
theorem tX0_keep_21 : pm_tb tX0_keep 21 = some (.getfield 28, 3) := rfl
theorem tX0_keep_24 : pm_tb tX0_keep 24 = some (.aload_n 0, 1) := rfl
theorem tX0_keep_25 : pm_tb tX0_keep 25 = some (.getfield 54, 3) := rfl
theorem tX0_keep_28 : pm_tb tX0_keep 28 = some (.iload_n 2, 1) := rfl
theorem tX0_keep_29 : pm_tb tX0_keep 29 = some (.iastore, 1) := rfl
theorem tX0_keep_30 : pm_tb tX0_keep 30 = some (.aload_n 0, 1) := rfl
theorem tX0_keep_31 : pm_tb tX0_keep 31 = some (.getfield 31, 3) := rfl
theorem tX0_keep_34 : pm_tb tX0_keep 34 = some (.aload_n 0, 1) := rfl
theorem tX0_keep_35 : pm_tb tX0_keep 35 = some (.getfield 54, 3) := rfl
theorem tX0_keep_38 : pm_tb tX0_keep 38 = some (.iload_n 3, 1) := rfl
theorem tX0_keep_39 : pm_tb tX0_keep 39 = some (.iastore, 1) := rfl
theorem tX0_keep_40 : pm_tb tX0_keep 40 = some (.aload_n 0, 1) := rfl
theorem tX0_keep_41 : pm_tb tX0_keep 41 = some (.getfield 21, 3) := rfl
theorem tX0_keep_44 : pm_tb tX0_keep 44 = some (.iload_n 1, 1) := rfl
theorem tX0_keep_45 : pm_tb tX0_keep 45 = some (.lload 4, 2) := rfl
theorem tX0_keep_47 : pm_tb tX0_keep 47 = some (.lastore, 1) := rfl
theorem tX0_keep_48 : pm_tb tX0_keep 48 = some (.aload_n 0, 1) := rfl
theorem tX0_keep_49 : pm_tb tX0_keep 49 = some (.dup, 1) := rfl
theorem tX0_keep_50 : pm_tb tX0_keep 50 = some (.getfield 57, 3) := rfl
theorem tX0_keep_53 : pm_tb tX0_keep 53 = some (.iconst 1, 1) := rfl
theorem tX0_keep_54 : pm_tb tX0_keep 54 = some (.iload_n 1, 1) := rfl
theorem tX0_keep_55 : pm_tb tX0_keep 55 = some (.ishl, 1) := rfl
theorem tX0_keep_56 : pm_tb tX0_keep 56 = some (.ior, 1) := rfl
theorem tX0_keep_57 : pm_tb tX0_keep 57 = some (.putfield 57, 3) := rfl
theorem tX0_keep_60 : pm_tb tX0_keep 60 = some (.aload_n 0, 1) := rfl
theorem tX0_keep_61 : pm_tb tX0_keep 61 = some (.dup, 1) := rfl
theorem tX0_keep_62 : pm_tb tX0_keep 62 = some (.getfield 54, 3) := rfl
theorem tX0_keep_65 : pm_tb tX0_keep 65 = some (.iconst 1, 1) := rfl
theorem tX0_keep_66 : pm_tb tX0_keep 66 = some (.iadd, 1) := rfl
theorem tX0_keep_67 : pm_tb tX0_keep 67 = some (.putfield 54, 3) := rfl
theorem tX0_keep_70 : pm_tb tX0_keep 70 = some (.return_, 1) := rfl
theorem tX0_read_0 : pm_tb tX0_read 0 = some (.aload_n 0, 1) := rfl
theorem tX0_read_1 : pm_tb tX0_read 1 = some (.iload_n 2, 1) := rfl
theorem tX0_read_2 : pm_tb tX0_read 2 = some (.invokevirtual 116, 3) := rfl
theorem tX0_read_5 : pm_tb tX0_read 5 = some (.ifCond .eq 17, 3) := rfl
theorem tX0_read_8 : pm_tb tX0_read 8 = some (.aload_n 0, 1) := rfl
theorem tX0_read_9 : pm_tb tX0_read 9 = some (.getfield 18, 3) := rfl
theorem tX0_read_12 : pm_tb tX0_read 12 = some (.iload_n 1, 1) := rfl
theorem tX0_read_13 : pm_tb tX0_read 13 = some (.aload_n 0, 1) := rfl
theorem tX0_read_14 : pm_tb tX0_read 14 = some (.getfield 9, 3) := rfl
theorem tX0_read_17 : pm_tb tX0_read 17 = some (.iload_n 2, 1) := rfl
theorem tX0_read_18 : pm_tb tX0_read 18 = some (.laload, 1) := rfl
theorem tX0_read_19 : pm_tb tX0_read 19 = some (.lastore, 1) := rfl
theorem tX0_read_20 : pm_tb tX0_read 20 = some (.iconst (-1), 1) := rfl
theorem tX0_read_21 : pm_tb tX0_read 21 = some (.ireturn, 1) := rfl
theorem tX0_read_22 : pm_tb tX0_read 22 = some (.aload_n 0, 1) := rfl
theorem tX0_read_23 : pm_tb tX0_read 23 = some (.getfield 57, 3) := rfl
theorem tX0_read_26 : pm_tb tX0_read 26 = some (.iconst 1, 1) := rfl
theorem tX0_read_27 : pm_tb tX0_read 27 = some (.iload_n 2, 1) := rfl
theorem tX0_read_28 : pm_tb tX0_read 28 = some (.ishl, 1) := rfl
theorem tX0_read_29 : pm_tb tX0_read 29 = some (.iand, 1) := rfl
theorem tX0_read_30 : pm_tb tX0_read 30 = some (.ifCond .ne 48, 3) := rfl
theorem tX0_read_33 : pm_tb tX0_read 33 = some (.aload_n 3, 1) := rfl
theorem tX0_read_34 : pm_tb tX0_read 34 = some (.iload_n 2, 1) := rfl
theorem tX0_read_35 : pm_tb tX0_read 35 = some (.aload_n 0, 1) := rfl
theorem tX0_read_36 : pm_tb tX0_read 36 = some (.getfield 34, 3) := rfl
theorem tX0_read_39 : pm_tb tX0_read 39 = some (.invokevirtual 120, 3) := rfl
theorem tX0_read_42 : pm_tb tX0_read 42 = some (.istore 4, 2) := rfl
theorem tX0_read_44 : pm_tb tX0_read 44 = some (.aload_n 3, 1) := rfl
theorem tX0_read_45 : pm_tb tX0_read 45 = some (.iload_n 2, 1) := rfl
theorem tX0_read_46 : pm_tb tX0_read 46 = some (.iload 4, 2) := rfl
theorem tX0_read_48 : pm_tb tX0_read 48 = some (.invokevirtual 126, 3) := rfl
theorem tX0_read_51 : pm_tb tX0_read 51 = some (.ifCond .eq 6, 3) := rfl
theorem tX0_read_54 : pm_tb tX0_read 54 = some (.iload 4, 2) := rfl
theorem tX0_read_56 : pm_tb tX0_read 56 = some (.ireturn, 1) := rfl
theorem tX0_read_57 : pm_tb tX0_read 57 = some (.aload_n 0, 1) := rfl
theorem tX0_read_58 : pm_tb tX0_read 58 = some (.iload_n 2, 1) := rfl
theorem tX0_read_59 : pm_tb tX0_read 59 = some (.iload 4, 2) := rfl
theorem tX0_read_61 : pm_tb tX0_read 61 = some (.aload_n 3, 1) := rfl
theorem tX0_read_62 : pm_tb tX0_read 62 = some (.iload_n 2, 1) := rfl
theorem tX0_read_63 : pm_tb tX0_read 63 = some (.iload 4, 2) := rfl
theorem tX0_read_65 : pm_tb tX0_read 65 = some (.invokevirtual 129, 3) := rfl
theorem tX0_read_68 : pm_tb tX0_read 68 = some (.aload_n 3, 1) := rfl
theorem tX0_read_69 : pm_tb tX0_read 69 = some (.iload_n 2, 1) := rfl
theorem tX0_read_70 : pm_tb tX0_read 70 = some (.iload 4, 2) := rfl
theorem tX0_read_72 : pm_tb tX0_read 72 = some (.invokevirtual 132, 3) := rfl
theorem tX0_read_75 : pm_tb tX0_read 75 = some (.invokevirtual 136, 3) := rfl
theorem tX0_read_78 : pm_tb tX0_read 78 = some (.aload_n 0, 1) := rfl
theorem tX0_read_79 : pm_tb tX0_read 79 = some (.getfield 18, 3) := rfl
theorem tX0_read_82 : pm_tb tX0_read 82 = some (.iload_n 1, 1) := rfl
theorem tX0_read_83 : pm_tb tX0_read 83 = some (.aload_n 0, 1) := rfl
theorem tX0_read_84 : pm_tb tX0_read 84 = some (.getfield 21, 3) := rfl
theorem tX0_read_87 : pm_tb tX0_read 87 = some (.iload_n 2, 1) := rfl
theorem tX0_read_88 : pm_tb tX0_read 88 = some (.laload, 1) := rfl
theorem tX0_read_89 : pm_tb tX0_read 89 = some (.lastore, 1) := rfl
theorem tX0_read_90 : pm_tb tX0_read 90 = some (.iconst (-1), 1) := rfl
theorem tX0_read_91 : pm_tb tX0_read 91 = some (.ireturn, 1) := rfl
theorem tX0_write_0 : pm_tb tX0_write 0 = some (.aload_n 0, 1) := rfl
theorem tX0_write_1 : pm_tb tX0_write 1 = some (.getfield 9, 3) := rfl
theorem tX0_write_4 : pm_tb tX0_write 4 = some (.iload_n 1, 1) := rfl
theorem tX0_write_5 : pm_tb tX0_write 5 = some (.lload_n 2, 1) := rfl
theorem tX0_write_6 : pm_tb tX0_write 6 = some (.lastore, 1) := rfl
theorem tX0_write_7 : pm_tb tX0_write 7 = some (.aload_n 0, 1) := rfl
theorem tX0_write_8 : pm_tb tX0_write 8 = some (.dup, 1) := rfl
theorem tX0_write_9 : pm_tb tX0_write 9 = some (.getfield 60, 3) := rfl
theorem tX0_write_12 : pm_tb tX0_write 12 = some (.iconst 1, 1) := rfl
theorem tX0_write_13 : pm_tb tX0_write 13 = some (.iload_n 1, 1) := rfl
theorem tX0_write_14 : pm_tb tX0_write 14 = some (.ishl, 1) := rfl
theorem tX0_write_15 : pm_tb tX0_write 15 = some (.ior, 1) := rfl
theorem tX0_write_16 : pm_tb tX0_write 16 = some (.putfield 60, 3) := rfl
theorem tX0_write_19 : pm_tb tX0_write 19 = some (.return_, 1) := rfl
theorem tX0_raise_0 : pm_tb tX0_raise 0 = some (.aload_n 0, 1) := rfl
theorem tX0_raise_1 : pm_tb tX0_raise 1 = some (.getfield 63, 3) := rfl
theorem tX0_raise_4 : pm_tb tX0_raise 4 = some (.bipush 12, 2) := rfl
theorem tX0_raise_6 : pm_tb tX0_raise 6 = some (.if_icmp .ge 23, 3) := rfl
theorem tX0_raise_9 : pm_tb tX0_raise 9 = some (.aload_n 0, 1) := rfl
theorem tX0_raise_10 : pm_tb tX0_raise 10 = some (.getfield 15, 3) := rfl
theorem tX0_raise_13 : pm_tb tX0_raise 13 = some (.aload_n 0, 1) := rfl
theorem tX0_raise_14 : pm_tb tX0_raise 14 = some (.getfield 63, 3) := rfl
theorem tX0_raise_17 : pm_tb tX0_raise 17 = some (.lload_n 1, 1) := rfl
theorem tX0_raise_18 : pm_tb tX0_raise 18 = some (.lastore, 1) := rfl
theorem tX0_raise_19 : pm_tb tX0_raise 19 = some (.aload_n 0, 1) := rfl
theorem tX0_raise_20 : pm_tb tX0_raise 20 = some (.dup, 1) := rfl
theorem tX0_raise_21 : pm_tb tX0_raise 21 = some (.getfield 63, 3) := rfl
theorem tX0_raise_24 : pm_tb tX0_raise 24 = some (.iconst 1, 1) := rfl
theorem tX0_raise_25 : pm_tb tX0_raise 25 = some (.iadd, 1) := rfl
theorem tX0_raise_26 : pm_tb tX0_raise 26 = some (.putfield 63, 3) := rfl
theorem tX0_raise_29 : pm_tb tX0_raise 29 = some (.return_, 1) := rfl
theorem tX0_fail_0 : pm_tb tX0_fail 0 = some (.aload_n 0, 1) := rfl
theorem tX0_fail_1 : pm_tb tX0_fail 1 = some (.iconst 1, 1) := rfl
theorem tX0_fail_2 : pm_tb tX0_fail 2 = some (.putfield 50, 3) := rfl
theorem tX0_fail_5 : pm_tb tX0_fail 5 = some (.aload_n 0, 1) := rfl
theorem tX0_fail_6 : pm_tb tX0_fail 6 = some (.iconst 0, 1) := rfl
theorem tX0_fail_7 : pm_tb tX0_fail 7 = some (.putfield 60, 3) := rfl
theorem tX0_fail_10 : pm_tb tX0_fail 10 = some (.aload_n 0, 1) := rfl
theorem tX0_fail_11 : pm_tb tX0_fail 11 = some (.iconst 0, 1) := rfl
theorem tX0_fail_12 : pm_tb tX0_fail 12 = some (.putfield 63, 3) := rfl
theorem tX0_fail_15 : pm_tb tX0_fail 15 = some (.return_, 1) := rfl
theorem tX0_perform_0 : pm_tb tX0_perform 0 = some (.iload_n 1, 1) := rfl
theorem tX0_perform_1 : pm_tb tX0_perform 1 = some (.tableswitch 176 0 7 #[47, 176, 58, 78, 96, 114, 132, 163], 47) := rfl
theorem tX0_perform_48 : pm_tb tX0_perform 48 = some (.aload_n 0, 1) := rfl
theorem tX0_perform_49 : pm_tb tX0_perform 49 = some (.getfield 18, 3) := rfl
theorem tX0_perform_52 : pm_tb tX0_perform 52 = some (.iload_n 2, 1) := rfl
theorem tX0_perform_53 : pm_tb tX0_perform 53 = some (.lload 4, 2) := rfl
theorem tX0_perform_55 : pm_tb tX0_perform 55 = some (.lastore, 1) := rfl
theorem tX0_perform_56 : pm_tb tX0_perform 56 = some (.goto 136, 3) := rfl
theorem tX0_perform_59 : pm_tb tX0_perform 59 = some (.aload_n 0, 1) := rfl
theorem tX0_perform_60 : pm_tb tX0_perform 60 = some (.aload_n 0, 1) := rfl
theorem tX0_perform_61 : pm_tb tX0_perform 61 = some (.iload_n 3, 1) := rfl
theorem tX0_perform_62 : pm_tb tX0_perform 62 = some (.lload 4, 2) := rfl
theorem tX0_perform_64 : pm_tb tX0_perform 64 = some (.invokevirtual 102, 3) := rfl
theorem tX0_perform_67 : pm_tb tX0_perform 67 = some (.aload_n 0, 1) := rfl
theorem tX0_perform_68 : pm_tb tX0_perform 68 = some (.getfield 18, 3) := rfl
theorem tX0_perform_71 : pm_tb tX0_perform 71 = some (.iload_n 2, 1) := rfl
theorem tX0_perform_72 : pm_tb tX0_perform 72 = some (.laload, 1) := rfl
theorem tX0_perform_73 : pm_tb tX0_perform 73 = some (.invokevirtual 139, 3) := rfl
theorem tX0_perform_76 : pm_tb tX0_perform 76 = some (.goto 116, 3) := rfl
theorem tX0_perform_79 : pm_tb tX0_perform 79 = some (.aload_n 0, 1) := rfl
theorem tX0_perform_80 : pm_tb tX0_perform 80 = some (.getfield 18, 3) := rfl
theorem tX0_perform_83 : pm_tb tX0_perform 83 = some (.iload_n 2, 1) := rfl
theorem tX0_perform_84 : pm_tb tX0_perform 84 = some (.dup2, 1) := rfl
theorem tX0_perform_85 : pm_tb tX0_perform 85 = some (.laload, 1) := rfl
theorem tX0_perform_86 : pm_tb tX0_perform 86 = some (.aload_n 0, 1) := rfl
theorem tX0_perform_87 : pm_tb tX0_perform 87 = some (.getfield 18, 3) := rfl
theorem tX0_perform_90 : pm_tb tX0_perform 90 = some (.iload_n 3, 1) := rfl
theorem tX0_perform_91 : pm_tb tX0_perform 91 = some (.laload, 1) := rfl
theorem tX0_perform_92 : pm_tb tX0_perform 92 = some (.ladd, 1) := rfl
theorem tX0_perform_93 : pm_tb tX0_perform 93 = some (.lastore, 1) := rfl
theorem tX0_perform_94 : pm_tb tX0_perform 94 = some (.goto 98, 3) := rfl
theorem tX0_perform_97 : pm_tb tX0_perform 97 = some (.aload_n 0, 1) := rfl
theorem tX0_perform_98 : pm_tb tX0_perform 98 = some (.getfield 18, 3) := rfl
theorem tX0_perform_101 : pm_tb tX0_perform 101 = some (.iload_n 2, 1) := rfl
theorem tX0_perform_102 : pm_tb tX0_perform 102 = some (.dup2, 1) := rfl
theorem tX0_perform_103 : pm_tb tX0_perform 103 = some (.laload, 1) := rfl
theorem tX0_perform_104 : pm_tb tX0_perform 104 = some (.aload_n 0, 1) := rfl
theorem tX0_perform_105 : pm_tb tX0_perform 105 = some (.getfield 18, 3) := rfl
theorem tX0_perform_108 : pm_tb tX0_perform 108 = some (.iload_n 3, 1) := rfl
theorem tX0_perform_109 : pm_tb tX0_perform 109 = some (.laload, 1) := rfl
theorem tX0_perform_110 : pm_tb tX0_perform 110 = some (.lsub, 1) := rfl
theorem tX0_perform_111 : pm_tb tX0_perform 111 = some (.lastore, 1) := rfl
theorem tX0_perform_112 : pm_tb tX0_perform 112 = some (.goto 80, 3) := rfl
theorem tX0_perform_115 : pm_tb tX0_perform 115 = some (.aload_n 0, 1) := rfl
theorem tX0_perform_116 : pm_tb tX0_perform 116 = some (.getfield 18, 3) := rfl
theorem tX0_perform_119 : pm_tb tX0_perform 119 = some (.iload_n 2, 1) := rfl
theorem tX0_perform_120 : pm_tb tX0_perform 120 = some (.dup2, 1) := rfl
theorem tX0_perform_121 : pm_tb tX0_perform 121 = some (.laload, 1) := rfl
theorem tX0_perform_122 : pm_tb tX0_perform 122 = some (.aload_n 0, 1) := rfl
theorem tX0_perform_123 : pm_tb tX0_perform 123 = some (.getfield 18, 3) := rfl
theorem tX0_perform_126 : pm_tb tX0_perform 126 = some (.iload_n 3, 1) := rfl
theorem tX0_perform_127 : pm_tb tX0_perform 127 = some (.laload, 1) := rfl
theorem tX0_perform_128 : pm_tb tX0_perform 128 = some (.lmul, 1) := rfl
theorem tX0_perform_129 : pm_tb tX0_perform 129 = some (.lastore, 1) := rfl
theorem tX0_perform_130 : pm_tb tX0_perform 130 = some (.goto 62, 3) := rfl
theorem tX0_perform_133 : pm_tb tX0_perform 133 = some (.aload_n 0, 1) := rfl
theorem tX0_perform_134 : pm_tb tX0_perform 134 = some (.getfield 18, 3) := rfl
theorem tX0_perform_137 : pm_tb tX0_perform 137 = some (.iload_n 2, 1) := rfl
theorem tX0_perform_138 : pm_tb tX0_perform 138 = some (.laload, 1) := rfl
theorem tX0_perform_139 : pm_tb tX0_perform 139 = some (.aload_n 0, 1) := rfl
theorem tX0_perform_140 : pm_tb tX0_perform 140 = some (.getfield 18, 3) := rfl
theorem tX0_perform_143 : pm_tb tX0_perform 143 = some (.iload_n 3, 1) := rfl
theorem tX0_perform_144 : pm_tb tX0_perform 144 = some (.laload, 1) := rfl
theorem tX0_perform_145 : pm_tb tX0_perform 145 = some (.lcmp, 1) := rfl
theorem tX0_perform_146 : pm_tb tX0_perform 146 = some (.ifCond .ge 46, 3) := rfl
theorem tX0_perform_149 : pm_tb tX0_perform 149 = some (.aload_n 0, 1) := rfl
theorem tX0_perform_150 : pm_tb tX0_perform 150 = some (.dup, 1) := rfl
theorem tX0_perform_151 : pm_tb tX0_perform 151 = some (.getfield 44, 3) := rfl
theorem tX0_perform_154 : pm_tb tX0_perform 154 = some (.lload 4, 2) := rfl
theorem tX0_perform_156 : pm_tb tX0_perform 156 = some (.l2i, 1) := rfl
theorem tX0_perform_157 : pm_tb tX0_perform 157 = some (.iadd, 1) := rfl
theorem tX0_perform_158 : pm_tb tX0_perform 158 = some (.putfield 44, 3) := rfl
theorem tX0_perform_161 : pm_tb tX0_perform 161 = some (.goto 31, 3) := rfl
theorem tX0_perform_164 : pm_tb tX0_perform 164 = some (.aload_n 0, 1) := rfl
theorem tX0_perform_165 : pm_tb tX0_perform 165 = some (.aload_n 0, 1) := rfl
theorem tX0_perform_166 : pm_tb tX0_perform 166 = some (.getfield 18, 3) := rfl
theorem tX0_perform_169 : pm_tb tX0_perform 169 = some (.iload_n 2, 1) := rfl
theorem tX0_perform_170 : pm_tb tX0_perform 170 = some (.laload, 1) := rfl
theorem tX0_perform_171 : pm_tb tX0_perform 171 = some (.invokevirtual 143, 3) := rfl
theorem tX0_perform_174 : pm_tb tX0_perform 174 = some (.goto 18, 3) := rfl
theorem tX0_perform_177 : pm_tb tX0_perform 177 = some (.aload_n 0, 1) := rfl
theorem tX0_perform_178 : pm_tb tX0_perform 178 = some (.getfield 18, 3) := rfl
theorem tX0_perform_181 : pm_tb tX0_perform 181 = some (.iload_n 2, 1) := rfl
theorem tX0_perform_182 : pm_tb tX0_perform 182 = some (.laload, 1) := rfl
theorem tX0_perform_183 : pm_tb tX0_perform 183 = some (.lconst 0, 1) := rfl
theorem tX0_perform_184 : pm_tb tX0_perform 184 = some (.lcmp, 1) := rfl
theorem tX0_perform_185 : pm_tb tX0_perform 185 = some (.ifCond .ge 7, 3) := rfl
theorem tX0_perform_188 : pm_tb tX0_perform 188 = some (.aload_n 0, 1) := rfl
theorem tX0_perform_189 : pm_tb tX0_perform 189 = some (.invokevirtual 147, 3) := rfl
theorem tX0_perform_192 : pm_tb tX0_perform 192 = some (.return_, 1) := rfl
theorem tX0_doNext_0 : pm_tb tX0_doNext 0 = some (.aload_n 0, 1) := rfl
theorem tX0_doNext_1 : pm_tb tX0_doNext 1 = some (.aload_n 1, 1) := rfl
theorem tX0_doNext_2 : pm_tb tX0_doNext 2 = some (.invokevirtual 84, 3) := rfl
theorem tX0_doNext_5 : pm_tb tX0_doNext 5 = some (.ifCond .eq 5, 3) := rfl
theorem tX0_doNext_8 : pm_tb tX0_doNext 8 = some (.iconst (-1), 1) := rfl
theorem tX0_doNext_9 : pm_tb tX0_doNext 9 = some (.ireturn, 1) := rfl
theorem tX0_doNext_10 : pm_tb tX0_doNext 10 = some (.aload_n 0, 1) := rfl
theorem tX0_doNext_11 : pm_tb tX0_doNext 11 = some (.getfield 34, 3) := rfl
theorem tX0_doNext_14 : pm_tb tX0_doNext 14 = some (.bipush 12, 2) := rfl
theorem tX0_doNext_16 : pm_tb tX0_doNext 16 = some (.imul, 1) := rfl
theorem tX0_doNext_17 : pm_tb tX0_doNext 17 = some (.aload_n 0, 1) := rfl
theorem tX0_doNext_18 : pm_tb tX0_doNext 18 = some (.getfield 44, 3) := rfl
theorem tX0_doNext_21 : pm_tb tX0_doNext 21 = some (.iadd, 1) := rfl
theorem tX0_doNext_22 : pm_tb tX0_doNext 22 = some (.istore_n 3, 1) := rfl
theorem tX0_doNext_23 : pm_tb tX0_doNext 23 = some (.aload_n 1, 1) := rfl
theorem tX0_doNext_24 : pm_tb tX0_doNext 24 = some (.getfield 88, 3) := rfl
theorem tX0_doNext_27 : pm_tb tX0_doNext 27 = some (.iload_n 3, 1) := rfl
theorem tX0_doNext_28 : pm_tb tX0_doNext 28 = some (.iaload, 1) := rfl
theorem tX0_doNext_29 : pm_tb tX0_doNext 29 = some (.istore 4, 2) := rfl
theorem tX0_doNext_31 : pm_tb tX0_doNext 31 = some (.aload_n 1, 1) := rfl
theorem tX0_doNext_32 : pm_tb tX0_doNext 32 = some (.getfield 91, 3) := rfl
theorem tX0_doNext_35 : pm_tb tX0_doNext 35 = some (.iload_n 3, 1) := rfl
theorem tX0_doNext_36 : pm_tb tX0_doNext 36 = some (.iaload, 1) := rfl
theorem tX0_doNext_37 : pm_tb tX0_doNext 37 = some (.istore 5, 2) := rfl
theorem tX0_doNext_39 : pm_tb tX0_doNext 39 = some (.aload_n 1, 1) := rfl
theorem tX0_doNext_40 : pm_tb tX0_doNext 40 = some (.getfield 94, 3) := rfl
theorem tX0_doNext_43 : pm_tb tX0_doNext 43 = some (.iload_n 3, 1) := rfl
theorem tX0_doNext_44 : pm_tb tX0_doNext 44 = some (.iaload, 1) := rfl
theorem tX0_doNext_45 : pm_tb tX0_doNext 45 = some (.istore 6, 2) := rfl
theorem tX0_doNext_47 : pm_tb tX0_doNext 47 = some (.aload_n 1, 1) := rfl
theorem tX0_doNext_48 : pm_tb tX0_doNext 48 = some (.getfield 97, 3) := rfl
theorem tX0_doNext_51 : pm_tb tX0_doNext 51 = some (.iload_n 3, 1) := rfl
theorem tX0_doNext_52 : pm_tb tX0_doNext 52 = some (.laload, 1) := rfl
theorem tX0_doNext_53 : pm_tb tX0_doNext 53 = some (.lstore 7, 2) := rfl
theorem tX0_doNext_55 : pm_tb tX0_doNext 55 = some (.iload 4, 2) := rfl
theorem tX0_doNext_57 : pm_tb tX0_doNext 57 = some (.iconst 1, 1) := rfl
theorem tX0_doNext_58 : pm_tb tX0_doNext 58 = some (.if_icmp .ne 32, 3) := rfl
theorem tX0_doNext_61 : pm_tb tX0_doNext 61 = some (.aload_n 0, 1) := rfl
theorem tX0_doNext_62 : pm_tb tX0_doNext 62 = some (.iload 5, 2) := rfl
theorem tX0_doNext_64 : pm_tb tX0_doNext 64 = some (.aload_n 0, 1) := rfl
theorem tX0_doNext_65 : pm_tb tX0_doNext 65 = some (.iload 6, 2) := rfl
theorem tX0_doNext_67 : pm_tb tX0_doNext 67 = some (.lload 7, 2) := rfl
theorem tX0_doNext_69 : pm_tb tX0_doNext 69 = some (.invokevirtual 102, 3) := rfl
theorem tX0_doNext_72 : pm_tb tX0_doNext 72 = some (.aload_n 2, 1) := rfl
theorem tX0_doNext_73 : pm_tb tX0_doNext 73 = some (.invokevirtual 106, 3) := rfl
theorem tX0_doNext_76 : pm_tb tX0_doNext 76 = some (.istore 9, 2) := rfl
theorem tX0_doNext_78 : pm_tb tX0_doNext 78 = some (.iload 9, 2) := rfl
theorem tX0_doNext_80 : pm_tb tX0_doNext 80 = some (.iconst (-1), 1) := rfl
theorem tX0_doNext_81 : pm_tb tX0_doNext 81 = some (.if_icmp .eq 6, 3) := rfl
theorem tX0_doNext_84 : pm_tb tX0_doNext 84 = some (.iload 9, 2) := rfl
theorem tX0_doNext_86 : pm_tb tX0_doNext 86 = some (.ireturn, 1) := rfl
theorem tX0_doNext_87 : pm_tb tX0_doNext 87 = some (.goto 15, 3) := rfl
theorem tX0_doNext_90 : pm_tb tX0_doNext 90 = some (.aload_n 0, 1) := rfl
theorem tX0_doNext_91 : pm_tb tX0_doNext 91 = some (.iload 4, 2) := rfl
theorem tX0_doNext_93 : pm_tb tX0_doNext 93 = some (.iload 5, 2) := rfl
theorem tX0_doNext_95 : pm_tb tX0_doNext 95 = some (.iload 6, 2) := rfl
theorem tX0_doNext_97 : pm_tb tX0_doNext 97 = some (.lload 7, 2) := rfl
theorem tX0_doNext_99 : pm_tb tX0_doNext 99 = some (.invokevirtual 110, 3) := rfl
theorem tX0_doNext_102 : pm_tb tX0_doNext 102 = some (.aload_n 0, 1) := rfl
theorem tX0_doNext_103 : pm_tb tX0_doNext 103 = some (.dup, 1) := rfl
theorem tX0_doNext_104 : pm_tb tX0_doNext 104 = some (.getfield 44, 3) := rfl
theorem tX0_doNext_107 : pm_tb tX0_doNext 107 = some (.iconst 1, 1) := rfl
theorem tX0_doNext_108 : pm_tb tX0_doNext 108 = some (.iadd, 1) := rfl
theorem tX0_doNext_109 : pm_tb tX0_doNext 109 = some (.putfield 44, 3) := rfl
theorem tX0_doNext_112 : pm_tb tX0_doNext 112 = some (.aload_n 0, 1) := rfl
theorem tX0_doNext_113 : pm_tb tX0_doNext 113 = some (.dup, 1) := rfl
theorem tX0_doNext_114 : pm_tb tX0_doNext 114 = some (.getfield 47, 3) := rfl
theorem tX0_doNext_117 : pm_tb tX0_doNext 117 = some (.iconst 1, 1) := rfl
theorem tX0_doNext_118 : pm_tb tX0_doNext 118 = some (.iadd, 1) := rfl
theorem tX0_doNext_119 : pm_tb tX0_doNext 119 = some (.putfield 47, 3) := rfl
theorem tX0_doNext_122 : pm_tb tX0_doNext 122 = some (.aload_n 0, 1) := rfl
theorem tX0_doNext_123 : pm_tb tX0_doNext 123 = some (.dup, 1) := rfl
theorem tX0_doNext_124 : pm_tb tX0_doNext 124 = some (.getfield 41, 3) := rfl
theorem tX0_doNext_127 : pm_tb tX0_doNext 127 = some (.iconst 1, 1) := rfl
theorem tX0_doNext_128 : pm_tb tX0_doNext 128 = some (.iadd, 1) := rfl
theorem tX0_doNext_129 : pm_tb tX0_doNext 129 = some (.putfield 41, 3) := rfl
theorem tX0_doNext_132 : pm_tb tX0_doNext 132 = some (.iconst (-1), 1) := rfl
theorem tX0_doNext_133 : pm_tb tX0_doNext 133 = some (.ireturn, 1) := rfl
theorem tX0_firstChanged_0 : pm_tb tX0_firstChanged 0 = some (.iconst 0, 1) := rfl
theorem tX0_firstChanged_1 : pm_tb tX0_firstChanged 1 = some (.istore_n 2, 1) := rfl
theorem tX0_firstChanged_2 : pm_tb tX0_firstChanged 2 = some (.iload_n 2, 1) := rfl
theorem tX0_firstChanged_3 : pm_tb tX0_firstChanged 3 = some (.aload_n 0, 1) := rfl
theorem tX0_firstChanged_4 : pm_tb tX0_firstChanged 4 = some (.getfield 54, 3) := rfl
theorem tX0_firstChanged_7 : pm_tb tX0_firstChanged 7 = some (.if_icmp .ge 66, 3) := rfl
theorem tX0_firstChanged_10 : pm_tb tX0_firstChanged 10 = some (.aload_n 0, 1) := rfl
theorem tX0_firstChanged_11 : pm_tb tX0_firstChanged 11 = some (.getfield 24, 3) := rfl
theorem tX0_firstChanged_14 : pm_tb tX0_firstChanged 14 = some (.iload_n 2, 1) := rfl
theorem tX0_firstChanged_15 : pm_tb tX0_firstChanged 15 = some (.iaload, 1) := rfl
theorem tX0_firstChanged_16 : pm_tb tX0_firstChanged 16 = some (.istore_n 3, 1) := rfl
theorem tX0_firstChanged_17 : pm_tb tX0_firstChanged 17 = some (.aload_n 1, 1) := rfl
theorem tX0_firstChanged_18 : pm_tb tX0_firstChanged 18 = some (.iload_n 3, 1) := rfl
theorem tX0_firstChanged_19 : pm_tb tX0_firstChanged 19 = some (.aload_n 0, 1) := rfl
theorem tX0_firstChanged_20 : pm_tb tX0_firstChanged 20 = some (.getfield 34, 3) := rfl
theorem tX0_firstChanged_23 : pm_tb tX0_firstChanged 23 = some (.invokevirtual 120, 3) := rfl
theorem tX0_firstChanged_26 : pm_tb tX0_firstChanged 26 = some (.istore 4, 2) := rfl
theorem tX0_firstChanged_28 : pm_tb tX0_firstChanged 28 = some (.iload 4, 2) := rfl
theorem tX0_firstChanged_30 : pm_tb tX0_firstChanged 30 = some (.aload_n 0, 1) := rfl
theorem tX0_firstChanged_31 : pm_tb tX0_firstChanged 31 = some (.getfield 28, 3) := rfl
theorem tX0_firstChanged_34 : pm_tb tX0_firstChanged 34 = some (.iload_n 2, 1) := rfl
theorem tX0_firstChanged_35 : pm_tb tX0_firstChanged 35 = some (.iaload, 1) := rfl
theorem tX0_firstChanged_36 : pm_tb tX0_firstChanged 36 = some (.if_icmp .ne 29, 3) := rfl
theorem tX0_firstChanged_39 : pm_tb tX0_firstChanged 39 = some (.aload_n 1, 1) := rfl
theorem tX0_firstChanged_40 : pm_tb tX0_firstChanged 40 = some (.iload_n 3, 1) := rfl
theorem tX0_firstChanged_41 : pm_tb tX0_firstChanged 41 = some (.iload 4, 2) := rfl
theorem tX0_firstChanged_43 : pm_tb tX0_firstChanged 43 = some (.invokevirtual 126, 3) := rfl
theorem tX0_firstChanged_46 : pm_tb tX0_firstChanged 46 = some (.ifCond .ne 19, 3) := rfl
theorem tX0_firstChanged_49 : pm_tb tX0_firstChanged 49 = some (.aload_n 1, 1) := rfl
theorem tX0_firstChanged_50 : pm_tb tX0_firstChanged 50 = some (.iload_n 3, 1) := rfl
theorem tX0_firstChanged_51 : pm_tb tX0_firstChanged 51 = some (.iload 4, 2) := rfl
theorem tX0_firstChanged_53 : pm_tb tX0_firstChanged 53 = some (.invokevirtual 129, 3) := rfl
theorem tX0_firstChanged_56 : pm_tb tX0_firstChanged 56 = some (.aload_n 0, 1) := rfl
theorem tX0_firstChanged_57 : pm_tb tX0_firstChanged 57 = some (.getfield 31, 3) := rfl
theorem tX0_firstChanged_60 : pm_tb tX0_firstChanged 60 = some (.iload_n 2, 1) := rfl
theorem tX0_firstChanged_61 : pm_tb tX0_firstChanged 61 = some (.iaload, 1) := rfl
theorem tX0_firstChanged_62 : pm_tb tX0_firstChanged 62 = some (.if_icmp .eq 5, 3) := rfl
theorem tX0_firstChanged_65 : pm_tb tX0_firstChanged 65 = some (.iload_n 3, 1) := rfl
theorem tX0_firstChanged_66 : pm_tb tX0_firstChanged 66 = some (.ireturn, 1) := rfl
theorem tX0_firstChanged_67 : pm_tb tX0_firstChanged 67 = some (.iinc 2 1, 3) := rfl
theorem tX0_firstChanged_70 : pm_tb tX0_firstChanged 70 = some (.goto (-68), 3) := rfl
theorem tX0_firstChanged_73 : pm_tb tX0_firstChanged 73 = some (.iconst (-1), 1) := rfl
theorem tX0_firstChanged_74 : pm_tb tX0_firstChanged 74 = some (.ireturn, 1) := rfl
theorem tJ7_fill_53178_0 : pm_tb tJ7_fill_53178 0 = some (.iconst 0, 1) := rfl
theorem tJ7_fill_53178_1 : pm_tb tJ7_fill_53178 1 = some (.istore_n 2, 1) := rfl
theorem tJ7_fill_53178_2 : pm_tb tJ7_fill_53178 2 = some (.aload_n 0, 1) := rfl
theorem tJ7_fill_53178_3 : pm_tb tJ7_fill_53178 3 = some (.arraylength, 1) := rfl
theorem tJ7_fill_53178_4 : pm_tb tJ7_fill_53178 4 = some (.istore_n 3, 1) := rfl
theorem tJ7_fill_53178_5 : pm_tb tJ7_fill_53178 5 = some (.iload_n 2, 1) := rfl
theorem tJ7_fill_53178_6 : pm_tb tJ7_fill_53178 6 = some (.iload_n 3, 1) := rfl
theorem tJ7_fill_53178_7 : pm_tb tJ7_fill_53178 7 = some (.if_icmp .ge 13, 3) := rfl
theorem tJ7_fill_53178_10 : pm_tb tJ7_fill_53178 10 = some (.aload_n 0, 1) := rfl
theorem tJ7_fill_53178_11 : pm_tb tJ7_fill_53178 11 = some (.iload_n 2, 1) := rfl
theorem tJ7_fill_53178_12 : pm_tb tJ7_fill_53178 12 = some (.iload_n 1, 1) := rfl
theorem tJ7_fill_53178_13 : pm_tb tJ7_fill_53178 13 = some (.iastore, 1) := rfl
theorem tJ7_fill_53178_14 : pm_tb tJ7_fill_53178 14 = some (.iinc 2 1, 3) := rfl
theorem tJ7_fill_53178_17 : pm_tb tJ7_fill_53178 17 = some (.goto (-12), 3) := rfl
theorem tJ7_fill_53178_20 : pm_tb tJ7_fill_53178 20 = some (.return_, 1) := rfl
theorem tX5_open_0 : pm_tb tX5_open 0 = some (.aload_n 1, 1) := rfl
theorem tX5_open_1 : pm_tb tX5_open 1 = some (.iconst 0, 1) := rfl
theorem tX5_open_2 : pm_tb tX5_open 2 = some (.aload_n 0, 1) := rfl
theorem tX5_open_3 : pm_tb tX5_open 3 = some (.getfield 9, 3) := rfl
theorem tX5_open_6 : pm_tb tX5_open 6 = some (.iconst 0, 1) := rfl
theorem tX5_open_7 : pm_tb tX5_open 7 = some (.bipush 32, 2) := rfl
theorem tX5_open_9 : pm_tb tX5_open 9 = some (.invokestatic 25, 3) := rfl
theorem tX5_open_12 : pm_tb tX5_open 12 = some (.aload_n 0, 1) := rfl
theorem tX5_open_13 : pm_tb tX5_open 13 = some (.getfield 15, 3) := rfl
theorem tX5_open_16 : pm_tb tX5_open 16 = some (.iconst 0, 1) := rfl
theorem tX5_open_17 : pm_tb tX5_open 17 = some (.invokestatic 31, 3) := rfl
theorem tX5_open_20 : pm_tb tX5_open 20 = some (.return_, 1) := rfl
theorem tX1_open_0 : pm_tb tX1_open 0 = some (.aload_n 0, 1) := rfl
theorem tX1_open_1 : pm_tb tX1_open 1 = some (.aload_n 1, 1) := rfl
theorem tX1_open_2 : pm_tb tX1_open 2 = some (.getfield 27, 3) := rfl
theorem tX1_open_5 : pm_tb tX1_open 5 = some (.putfield 33, 3) := rfl
theorem tX1_open_8 : pm_tb tX1_open 8 = some (.aload_n 0, 1) := rfl
theorem tX1_open_9 : pm_tb tX1_open 9 = some (.getfield 12, 3) := rfl
theorem tX1_open_12 : pm_tb tX1_open 12 = some (.aload_n 2, 1) := rfl
theorem tX1_open_13 : pm_tb tX1_open 13 = some (.invokevirtual 34, 3) := rfl
theorem tX1_open_16 : pm_tb tX1_open 16 = some (.iconst 0, 1) := rfl
theorem tX1_open_17 : pm_tb tX1_open 17 = some (.istore_n 3, 1) := rfl
theorem tX1_open_18 : pm_tb tX1_open 18 = some (.iload_n 3, 1) := rfl
theorem tX1_open_19 : pm_tb tX1_open 19 = some (.bipush 16, 2) := rfl
theorem tX1_open_21 : pm_tb tX1_open 21 = some (.if_icmp .ge 18, 3) := rfl
theorem tX1_open_24 : pm_tb tX1_open 24 = some (.aload_n 0, 1) := rfl
theorem tX1_open_25 : pm_tb tX1_open 25 = some (.getfield 20, 3) := rfl
theorem tX1_open_28 : pm_tb tX1_open 28 = some (.iload_n 3, 1) := rfl
theorem tX1_open_29 : pm_tb tX1_open 29 = some (.aaload, 1) := rfl
theorem tX1_open_30 : pm_tb tX1_open 30 = some (.invokevirtual 38, 3) := rfl
theorem tX1_open_33 : pm_tb tX1_open 33 = some (.iinc 3 1, 3) := rfl
theorem tX1_open_36 : pm_tb tX1_open 36 = some (.goto (-18), 3) := rfl
theorem tX1_open_39 : pm_tb tX1_open 39 = some (.return_, 1) := rfl
theorem tX5_publish_0 : pm_tb tX5_publish 0 = some (.iconst 0, 1) := rfl
theorem tX5_publish_1 : pm_tb tX5_publish 1 = some (.istore_n 3, 1) := rfl
theorem tX5_publish_2 : pm_tb tX5_publish 2 = some (.iconst 0, 1) := rfl
theorem tX5_publish_3 : pm_tb tX5_publish 3 = some (.istore 4, 2) := rfl
theorem tX5_publish_5 : pm_tb tX5_publish 5 = some (.iload 4, 2) := rfl
theorem tX5_publish_7 : pm_tb tX5_publish 7 = some (.bipush 32, 2) := rfl
theorem tX5_publish_9 : pm_tb tX5_publish 9 = some (.if_icmp .ge 91, 3) := rfl
theorem tX5_publish_12 : pm_tb tX5_publish 12 = some (.iload 4, 2) := rfl
theorem tX5_publish_14 : pm_tb tX5_publish 14 = some (.bipush 16, 2) := rfl
theorem tX5_publish_16 : pm_tb tX5_publish 16 = some (.imul, 1) := rfl
theorem tX5_publish_17 : pm_tb tX5_publish 17 = some (.aload_n 1, 1) := rfl
theorem tX5_publish_18 : pm_tb tX5_publish 18 = some (.getfield 45, 3) := rfl
theorem tX5_publish_21 : pm_tb tX5_publish 21 = some (.iadd, 1) := rfl
theorem tX5_publish_22 : pm_tb tX5_publish 22 = some (.istore 5, 2) := rfl
theorem tX5_publish_24 : pm_tb tX5_publish 24 = some (.aload_n 1, 1) := rfl
theorem tX5_publish_25 : pm_tb tX5_publish 25 = some (.iload 4, 2) := rfl
theorem tX5_publish_27 : pm_tb tX5_publish 27 = some (.invokevirtual 51, 3) := rfl
theorem tX5_publish_30 : pm_tb tX5_publish 30 = some (.ifCond .eq 56, 3) := rfl
theorem tX5_publish_33 : pm_tb tX5_publish 33 = some (.iload_n 3, 1) := rfl
theorem tX5_publish_34 : pm_tb tX5_publish 34 = some (.ifCond .ne 13, 3) := rfl
theorem tX5_publish_37 : pm_tb tX5_publish 37 = some (.aload_n 0, 1) := rfl
theorem tX5_publish_38 : pm_tb tX5_publish 38 = some (.getfield 15, 3) := rfl
theorem tX5_publish_41 : pm_tb tX5_publish 41 = some (.iload 5, 2) := rfl
theorem tX5_publish_43 : pm_tb tX5_publish 43 = some (.iaload, 1) := rfl
theorem tX5_publish_44 : pm_tb tX5_publish 44 = some (.ifCond .ne 7, 3) := rfl
theorem tX5_publish_47 : pm_tb tX5_publish 47 = some (.iconst 1, 1) := rfl
theorem tX5_publish_48 : pm_tb tX5_publish 48 = some (.goto 4, 3) := rfl
theorem tX5_publish_51 : pm_tb tX5_publish 51 = some (.iconst 0, 1) := rfl
theorem tX5_publish_52 : pm_tb tX5_publish 52 = some (.istore_n 3, 1) := rfl
theorem tX5_publish_53 : pm_tb tX5_publish 53 = some (.aload_n 0, 1) := rfl
theorem tX5_publish_54 : pm_tb tX5_publish 54 = some (.getfield 15, 3) := rfl
theorem tX5_publish_57 : pm_tb tX5_publish 57 = some (.iload 5, 2) := rfl
theorem tX5_publish_59 : pm_tb tX5_publish 59 = some (.iconst 1, 1) := rfl
theorem tX5_publish_60 : pm_tb tX5_publish 60 = some (.iastore, 1) := rfl
theorem tX5_publish_61 : pm_tb tX5_publish 61 = some (.aload_n 0, 1) := rfl
theorem tX5_publish_62 : pm_tb tX5_publish 62 = some (.getfield 19, 3) := rfl
theorem tX5_publish_65 : pm_tb tX5_publish 65 = some (.iload 5, 2) := rfl
theorem tX5_publish_67 : pm_tb tX5_publish 67 = some (.iload_n 2, 1) := rfl
theorem tX5_publish_68 : pm_tb tX5_publish 68 = some (.iastore, 1) := rfl
theorem tX5_publish_69 : pm_tb tX5_publish 69 = some (.aload_n 0, 1) := rfl
theorem tX5_publish_70 : pm_tb tX5_publish 70 = some (.getfield 22, 3) := rfl
theorem tX5_publish_73 : pm_tb tX5_publish 73 = some (.iload 5, 2) := rfl
theorem tX5_publish_75 : pm_tb tX5_publish 75 = some (.aload_n 1, 1) := rfl
theorem tX5_publish_76 : pm_tb tX5_publish 76 = some (.getfield 55, 3) := rfl
theorem tX5_publish_79 : pm_tb tX5_publish 79 = some (.iload 4, 2) := rfl
theorem tX5_publish_81 : pm_tb tX5_publish 81 = some (.laload, 1) := rfl
theorem tX5_publish_82 : pm_tb tX5_publish 82 = some (.lastore, 1) := rfl
theorem tX5_publish_83 : pm_tb tX5_publish 83 = some (.goto 11, 3) := rfl
theorem tX5_publish_86 : pm_tb tX5_publish 86 = some (.aload_n 0, 1) := rfl
theorem tX5_publish_87 : pm_tb tX5_publish 87 = some (.getfield 15, 3) := rfl
theorem tX5_publish_90 : pm_tb tX5_publish 90 = some (.iload 5, 2) := rfl
theorem tX5_publish_92 : pm_tb tX5_publish 92 = some (.iconst 0, 1) := rfl
theorem tX5_publish_93 : pm_tb tX5_publish 93 = some (.iastore, 1) := rfl
theorem tX5_publish_94 : pm_tb tX5_publish 94 = some (.iinc 4 1, 3) := rfl
theorem tX5_publish_97 : pm_tb tX5_publish 97 = some (.goto (-92), 3) := rfl
theorem tX5_publish_100 : pm_tb tX5_publish 100 = some (.iload_n 3, 1) := rfl
theorem tX5_publish_101 : pm_tb tX5_publish 101 = some (.ireturn, 1) := rfl
theorem tX1_runOneByOne_0 : pm_tb tX1_runOneByOne 0 = some (.iconst 0, 1) := rfl
theorem tX1_runOneByOne_1 : pm_tb tX1_runOneByOne 1 = some (.istore_n 2, 1) := rfl
theorem tX1_runOneByOne_2 : pm_tb tX1_runOneByOne 2 = some (.iload_n 2, 1) := rfl
theorem tX1_runOneByOne_3 : pm_tb tX1_runOneByOne 3 = some (.aload_n 0, 1) := rfl
theorem tX1_runOneByOne_4 : pm_tb tX1_runOneByOne 4 = some (.getfield 33, 3) := rfl
theorem tX1_runOneByOne_7 : pm_tb tX1_runOneByOne 7 = some (.if_icmp .ge 64, 3) := rfl
theorem tX1_runOneByOne_10 : pm_tb tX1_runOneByOne 10 = some (.aload_n 0, 1) := rfl
theorem tX1_runOneByOne_11 : pm_tb tX1_runOneByOne 11 = some (.getfield 20, 3) := rfl
theorem tX1_runOneByOne_14 : pm_tb tX1_runOneByOne 14 = some (.iload_n 2, 1) := rfl
theorem tX1_runOneByOne_15 : pm_tb tX1_runOneByOne 15 = some (.aaload, 1) := rfl
theorem tX1_runOneByOne_16 : pm_tb tX1_runOneByOne 16 = some (.astore_n 3, 1) := rfl
theorem tX1_runOneByOne_17 : pm_tb tX1_runOneByOne 17 = some (.aload_n 3, 1) := rfl
theorem tX1_runOneByOne_18 : pm_tb tX1_runOneByOne 18 = some (.invokevirtual 40, 3) := rfl
theorem tX1_runOneByOne_21 : pm_tb tX1_runOneByOne 21 = some (.iconst 0, 1) := rfl
theorem tX1_runOneByOne_22 : pm_tb tX1_runOneByOne 22 = some (.istore 4, 2) := rfl
theorem tX1_runOneByOne_24 : pm_tb tX1_runOneByOne 24 = some (.iload 4, 2) := rfl
theorem tX1_runOneByOne_26 : pm_tb tX1_runOneByOne 26 = some (.bipush 12, 2) := rfl
theorem tX1_runOneByOne_28 : pm_tb tX1_runOneByOne 28 = some (.if_icmp .ge 27, 3) := rfl
theorem tX1_runOneByOne_31 : pm_tb tX1_runOneByOne 31 = some (.aload_n 3, 1) := rfl
theorem tX1_runOneByOne_32 : pm_tb tX1_runOneByOne 32 = some (.aload_n 1, 1) := rfl
theorem tX1_runOneByOne_33 : pm_tb tX1_runOneByOne 33 = some (.invokevirtual 43, 3) := rfl
theorem tX1_runOneByOne_36 : pm_tb tX1_runOneByOne 36 = some (.ifCond .ne 19, 3) := rfl
theorem tX1_runOneByOne_39 : pm_tb tX1_runOneByOne 39 = some (.aload_n 3, 1) := rfl
theorem tX1_runOneByOne_40 : pm_tb tX1_runOneByOne 40 = some (.aload_n 1, 1) := rfl
theorem tX1_runOneByOne_41 : pm_tb tX1_runOneByOne 41 = some (.aload_n 0, 1) := rfl
theorem tX1_runOneByOne_42 : pm_tb tX1_runOneByOne 42 = some (.getfield 12, 3) := rfl
theorem tX1_runOneByOne_45 : pm_tb tX1_runOneByOne 45 = some (.invokevirtual 47, 3) := rfl
theorem tX1_runOneByOne_48 : pm_tb tX1_runOneByOne 48 = some (.pop, 1) := rfl
theorem tX1_runOneByOne_49 : pm_tb tX1_runOneByOne 49 = some (.iinc 4 1, 3) := rfl
theorem tX1_runOneByOne_52 : pm_tb tX1_runOneByOne 52 = some (.goto (-28), 3) := rfl
theorem tX1_runOneByOne_55 : pm_tb tX1_runOneByOne 55 = some (.aload_n 0, 1) := rfl
theorem tX1_runOneByOne_56 : pm_tb tX1_runOneByOne 56 = some (.getfield 12, 3) := rfl
theorem tX1_runOneByOne_59 : pm_tb tX1_runOneByOne 59 = some (.aload_n 3, 1) := rfl
theorem tX1_runOneByOne_60 : pm_tb tX1_runOneByOne 60 = some (.iconst 0, 1) := rfl
theorem tX1_runOneByOne_61 : pm_tb tX1_runOneByOne 61 = some (.invokevirtual 51, 3) := rfl
theorem tX1_runOneByOne_64 : pm_tb tX1_runOneByOne 64 = some (.pop, 1) := rfl
theorem tX1_runOneByOne_65 : pm_tb tX1_runOneByOne 65 = some (.iinc 2 1, 3) := rfl
theorem tX1_runOneByOne_68 : pm_tb tX1_runOneByOne 68 = some (.goto (-66), 3) := rfl
theorem tX1_runOneByOne_71 : pm_tb tX1_runOneByOne 71 = some (.return_, 1) := rfl
theorem tX1_joinGroups_0 : pm_tb tX1_joinGroups 0 = some (.iload_n 1, 1) := rfl
theorem tX1_joinGroups_1 : pm_tb tX1_joinGroups 1 = some (.iload_n 2, 1) := rfl
theorem tX1_joinGroups_2 : pm_tb tX1_joinGroups 2 = some (.invokestatic 69, 3) := rfl
theorem tX1_joinGroups_5 : pm_tb tX1_joinGroups 5 = some (.istore_n 3, 1) := rfl
theorem tX1_joinGroups_6 : pm_tb tX1_joinGroups 6 = some (.iconst 0, 1) := rfl
theorem tX1_joinGroups_7 : pm_tb tX1_joinGroups 7 = some (.istore 4, 2) := rfl
theorem tX1_joinGroups_9 : pm_tb tX1_joinGroups 9 = some (.iload 4, 2) := rfl
theorem tX1_joinGroups_11 : pm_tb tX1_joinGroups 11 = some (.aload_n 0, 1) := rfl
theorem tX1_joinGroups_12 : pm_tb tX1_joinGroups 12 = some (.getfield 33, 3) := rfl
theorem tX1_joinGroups_15 : pm_tb tX1_joinGroups 15 = some (.if_icmp .ge 42, 3) := rfl
theorem tX1_joinGroups_18 : pm_tb tX1_joinGroups 18 = some (.aload_n 0, 1) := rfl
theorem tX1_joinGroups_19 : pm_tb tX1_joinGroups 19 = some (.getfield 20, 3) := rfl
theorem tX1_joinGroups_22 : pm_tb tX1_joinGroups 22 = some (.iload 4, 2) := rfl
theorem tX1_joinGroups_24 : pm_tb tX1_joinGroups 24 = some (.aaload, 1) := rfl
theorem tX1_joinGroups_25 : pm_tb tX1_joinGroups 25 = some (.astore 5, 2) := rfl
theorem tX1_joinGroups_27 : pm_tb tX1_joinGroups 27 = some (.aload 5, 2) := rfl
theorem tX1_joinGroups_29 : pm_tb tX1_joinGroups 29 = some (.getfield 55, 3) := rfl
theorem tX1_joinGroups_32 : pm_tb tX1_joinGroups 32 = some (.iload_n 1, 1) := rfl
theorem tX1_joinGroups_33 : pm_tb tX1_joinGroups 33 = some (.if_icmp .eq 12, 3) := rfl
theorem tX1_joinGroups_36 : pm_tb tX1_joinGroups 36 = some (.aload 5, 2) := rfl
theorem tX1_joinGroups_38 : pm_tb tX1_joinGroups 38 = some (.getfield 55, 3) := rfl
theorem tX1_joinGroups_41 : pm_tb tX1_joinGroups 41 = some (.iload_n 2, 1) := rfl
theorem tX1_joinGroups_42 : pm_tb tX1_joinGroups 42 = some (.if_icmp .ne 9, 3) := rfl
theorem tX1_joinGroups_45 : pm_tb tX1_joinGroups 45 = some (.aload 5, 2) := rfl
theorem tX1_joinGroups_47 : pm_tb tX1_joinGroups 47 = some (.iload_n 3, 1) := rfl
theorem tX1_joinGroups_48 : pm_tb tX1_joinGroups 48 = some (.putfield 55, 3) := rfl
theorem tX1_joinGroups_51 : pm_tb tX1_joinGroups 51 = some (.iinc 4 1, 3) := rfl
theorem tX1_joinGroups_54 : pm_tb tX1_joinGroups 54 = some (.goto (-45), 3) := rfl
theorem tX1_joinGroups_57 : pm_tb tX1_joinGroups 57 = some (.return_, 1) := rfl
theorem tX1_joinTouching_0 : pm_tb tX1_joinTouching 0 = some (.iconst (-1), 1) := rfl
theorem tX1_joinTouching_1 : pm_tb tX1_joinTouching 1 = some (.istore_n 2, 1) := rfl
theorem tX1_joinTouching_2 : pm_tb tX1_joinTouching 2 = some (.iconst 0, 1) := rfl
theorem tX1_joinTouching_3 : pm_tb tX1_joinTouching 3 = some (.istore_n 3, 1) := rfl
theorem tX1_joinTouching_4 : pm_tb tX1_joinTouching 4 = some (.iload_n 3, 1) := rfl
theorem tX1_joinTouching_5 : pm_tb tX1_joinTouching 5 = some (.aload_n 0, 1) := rfl
theorem tX1_joinTouching_6 : pm_tb tX1_joinTouching 6 = some (.getfield 33, 3) := rfl
theorem tX1_joinTouching_9 : pm_tb tX1_joinTouching 9 = some (.if_icmp .ge 51, 3) := rfl
theorem tX1_joinTouching_12 : pm_tb tX1_joinTouching 12 = some (.aload_n 0, 1) := rfl
theorem tX1_joinTouching_13 : pm_tb tX1_joinTouching 13 = some (.getfield 20, 3) := rfl
theorem tX1_joinTouching_16 : pm_tb tX1_joinTouching 16 = some (.iload_n 3, 1) := rfl
theorem tX1_joinTouching_17 : pm_tb tX1_joinTouching 17 = some (.aaload, 1) := rfl
theorem tX1_joinTouching_18 : pm_tb tX1_joinTouching 18 = some (.iload_n 1, 1) := rfl
theorem tX1_joinTouching_19 : pm_tb tX1_joinTouching 19 = some (.invokevirtual 61, 3) := rfl
theorem tX1_joinTouching_22 : pm_tb tX1_joinTouching 22 = some (.ifCond .eq 32, 3) := rfl
theorem tX1_joinTouching_25 : pm_tb tX1_joinTouching 25 = some (.iload_n 2, 1) := rfl
theorem tX1_joinTouching_26 : pm_tb tX1_joinTouching 26 = some (.iconst (-1), 1) := rfl
theorem tX1_joinTouching_27 : pm_tb tX1_joinTouching 27 = some (.if_icmp .ne 5, 3) := rfl
theorem tX1_joinTouching_30 : pm_tb tX1_joinTouching 30 = some (.iload_n 3, 1) := rfl
theorem tX1_joinTouching_31 : pm_tb tX1_joinTouching 31 = some (.istore_n 2, 1) := rfl
theorem tX1_joinTouching_32 : pm_tb tX1_joinTouching 32 = some (.aload_n 0, 1) := rfl
theorem tX1_joinTouching_33 : pm_tb tX1_joinTouching 33 = some (.aload_n 0, 1) := rfl
theorem tX1_joinTouching_34 : pm_tb tX1_joinTouching 34 = some (.getfield 20, 3) := rfl
theorem tX1_joinTouching_37 : pm_tb tX1_joinTouching 37 = some (.iload_n 2, 1) := rfl
theorem tX1_joinTouching_38 : pm_tb tX1_joinTouching 38 = some (.aaload, 1) := rfl
theorem tX1_joinTouching_39 : pm_tb tX1_joinTouching 39 = some (.getfield 55, 3) := rfl
theorem tX1_joinTouching_42 : pm_tb tX1_joinTouching 42 = some (.aload_n 0, 1) := rfl
theorem tX1_joinTouching_43 : pm_tb tX1_joinTouching 43 = some (.getfield 20, 3) := rfl
theorem tX1_joinTouching_46 : pm_tb tX1_joinTouching 46 = some (.iload_n 3, 1) := rfl
theorem tX1_joinTouching_47 : pm_tb tX1_joinTouching 47 = some (.aaload, 1) := rfl
theorem tX1_joinTouching_48 : pm_tb tX1_joinTouching 48 = some (.getfield 55, 3) := rfl
theorem tX1_joinTouching_51 : pm_tb tX1_joinTouching 51 = some (.invokevirtual 65, 3) := rfl
theorem tX1_joinTouching_54 : pm_tb tX1_joinTouching 54 = some (.iinc 3 1, 3) := rfl
theorem tX1_joinTouching_57 : pm_tb tX1_joinTouching 57 = some (.goto (-53), 3) := rfl
theorem tX1_joinTouching_60 : pm_tb tX1_joinTouching 60 = some (.return_, 1) := rfl
theorem tX1_formGroups_0 : pm_tb tX1_formGroups 0 = some (.iconst 0, 1) := rfl
theorem tX1_formGroups_1 : pm_tb tX1_formGroups 1 = some (.istore_n 1, 1) := rfl
theorem tX1_formGroups_2 : pm_tb tX1_formGroups 2 = some (.iload_n 1, 1) := rfl
theorem tX1_formGroups_3 : pm_tb tX1_formGroups 3 = some (.aload_n 0, 1) := rfl
theorem tX1_formGroups_4 : pm_tb tX1_formGroups 4 = some (.getfield 33, 3) := rfl
theorem tX1_formGroups_7 : pm_tb tX1_formGroups 7 = some (.if_icmp .ge 19, 3) := rfl
theorem tX1_formGroups_10 : pm_tb tX1_formGroups 10 = some (.aload_n 0, 1) := rfl
theorem tX1_formGroups_11 : pm_tb tX1_formGroups 11 = some (.getfield 20, 3) := rfl
theorem tX1_formGroups_14 : pm_tb tX1_formGroups 14 = some (.iload_n 1, 1) := rfl
theorem tX1_formGroups_15 : pm_tb tX1_formGroups 15 = some (.aaload, 1) := rfl
theorem tX1_formGroups_16 : pm_tb tX1_formGroups 16 = some (.iload_n 1, 1) := rfl
theorem tX1_formGroups_17 : pm_tb tX1_formGroups 17 = some (.putfield 55, 3) := rfl
theorem tX1_formGroups_20 : pm_tb tX1_formGroups 20 = some (.iinc 1 1, 3) := rfl
theorem tX1_formGroups_23 : pm_tb tX1_formGroups 23 = some (.goto (-21), 3) := rfl
theorem tX1_formGroups_26 : pm_tb tX1_formGroups 26 = some (.iconst 0, 1) := rfl
theorem tX1_formGroups_27 : pm_tb tX1_formGroups 27 = some (.istore_n 1, 1) := rfl
theorem tX1_formGroups_28 : pm_tb tX1_formGroups 28 = some (.iload_n 1, 1) := rfl
theorem tX1_formGroups_29 : pm_tb tX1_formGroups 29 = some (.bipush 32, 2) := rfl
theorem tX1_formGroups_31 : pm_tb tX1_formGroups 31 = some (.if_icmp .ge 14, 3) := rfl
theorem tX1_formGroups_34 : pm_tb tX1_formGroups 34 = some (.aload_n 0, 1) := rfl
theorem tX1_formGroups_35 : pm_tb tX1_formGroups 35 = some (.iload_n 1, 1) := rfl
theorem tX1_formGroups_36 : pm_tb tX1_formGroups 36 = some (.invokevirtual 58, 3) := rfl
theorem tX1_formGroups_39 : pm_tb tX1_formGroups 39 = some (.iinc 1 1, 3) := rfl
theorem tX1_formGroups_42 : pm_tb tX1_formGroups 42 = some (.goto (-14), 3) := rfl
theorem tX1_formGroups_45 : pm_tb tX1_formGroups 45 = some (.return_, 1) := rfl
theorem tX1_countGroups_0 : pm_tb tX1_countGroups 0 = some (.iconst 0, 1) := rfl
theorem tX1_countGroups_1 : pm_tb tX1_countGroups 1 = some (.istore_n 1, 1) := rfl
theorem tX1_countGroups_2 : pm_tb tX1_countGroups 2 = some (.iconst 0, 1) := rfl
theorem tX1_countGroups_3 : pm_tb tX1_countGroups 3 = some (.istore_n 2, 1) := rfl
theorem tX1_countGroups_4 : pm_tb tX1_countGroups 4 = some (.iload_n 2, 1) := rfl
theorem tX1_countGroups_5 : pm_tb tX1_countGroups 5 = some (.aload_n 0, 1) := rfl
theorem tX1_countGroups_6 : pm_tb tX1_countGroups 6 = some (.getfield 33, 3) := rfl
theorem tX1_countGroups_9 : pm_tb tX1_countGroups 9 = some (.if_icmp .ge 25, 3) := rfl
theorem tX1_countGroups_12 : pm_tb tX1_countGroups 12 = some (.aload_n 0, 1) := rfl
theorem tX1_countGroups_13 : pm_tb tX1_countGroups 13 = some (.getfield 20, 3) := rfl
theorem tX1_countGroups_16 : pm_tb tX1_countGroups 16 = some (.iload_n 2, 1) := rfl
theorem tX1_countGroups_17 : pm_tb tX1_countGroups 17 = some (.aaload, 1) := rfl
theorem tX1_countGroups_18 : pm_tb tX1_countGroups 18 = some (.getfield 55, 3) := rfl
theorem tX1_countGroups_21 : pm_tb tX1_countGroups 21 = some (.iload_n 2, 1) := rfl
theorem tX1_countGroups_22 : pm_tb tX1_countGroups 22 = some (.if_icmp .ne 6, 3) := rfl
theorem tX1_countGroups_25 : pm_tb tX1_countGroups 25 = some (.iinc 1 1, 3) := rfl
theorem tX1_countGroups_28 : pm_tb tX1_countGroups 28 = some (.iinc 2 1, 3) := rfl
theorem tX1_countGroups_31 : pm_tb tX1_countGroups 31 = some (.goto (-27), 3) := rfl
theorem tX1_countGroups_34 : pm_tb tX1_countGroups 34 = some (.iload_n 1, 1) := rfl
theorem tX1_countGroups_35 : pm_tb tX1_countGroups 35 = some (.ireturn, 1) := rfl
theorem tX1_countActs_0 : pm_tb tX1_countActs 0 = some (.iconst 0, 1) := rfl
theorem tX1_countActs_1 : pm_tb tX1_countActs 1 = some (.istore_n 1, 1) := rfl
theorem tX1_countActs_2 : pm_tb tX1_countActs 2 = some (.iconst 0, 1) := rfl
theorem tX1_countActs_3 : pm_tb tX1_countActs 3 = some (.istore_n 2, 1) := rfl
theorem tX1_countActs_4 : pm_tb tX1_countActs 4 = some (.iload_n 2, 1) := rfl
theorem tX1_countActs_5 : pm_tb tX1_countActs 5 = some (.aload_n 0, 1) := rfl
theorem tX1_countActs_6 : pm_tb tX1_countActs 6 = some (.getfield 33, 3) := rfl
theorem tX1_countActs_9 : pm_tb tX1_countActs 9 = some (.if_icmp .ge 21, 3) := rfl
theorem tX1_countActs_12 : pm_tb tX1_countActs 12 = some (.iload_n 1, 1) := rfl
theorem tX1_countActs_13 : pm_tb tX1_countActs 13 = some (.aload_n 0, 1) := rfl
theorem tX1_countActs_14 : pm_tb tX1_countActs 14 = some (.getfield 20, 3) := rfl
theorem tX1_countActs_17 : pm_tb tX1_countActs 17 = some (.iload_n 2, 1) := rfl
theorem tX1_countActs_18 : pm_tb tX1_countActs 18 = some (.aaload, 1) := rfl
theorem tX1_countActs_19 : pm_tb tX1_countActs 19 = some (.getfield 75, 3) := rfl
theorem tX1_countActs_22 : pm_tb tX1_countActs 22 = some (.iadd, 1) := rfl
theorem tX1_countActs_23 : pm_tb tX1_countActs 23 = some (.istore_n 1, 1) := rfl
theorem tX1_countActs_24 : pm_tb tX1_countActs 24 = some (.iinc 2 1, 3) := rfl
theorem tX1_countActs_27 : pm_tb tX1_countActs 27 = some (.goto (-23), 3) := rfl
theorem tX1_countActs_30 : pm_tb tX1_countActs 30 = some (.iload_n 1, 1) := rfl
theorem tX1_countActs_31 : pm_tb tX1_countActs 31 = some (.ireturn, 1) := rfl
theorem tX1_countEvents_0 : pm_tb tX1_countEvents 0 = some (.iconst 0, 1) := rfl
theorem tX1_countEvents_1 : pm_tb tX1_countEvents 1 = some (.istore_n 1, 1) := rfl
theorem tX1_countEvents_2 : pm_tb tX1_countEvents 2 = some (.iconst 0, 1) := rfl
theorem tX1_countEvents_3 : pm_tb tX1_countEvents 3 = some (.istore_n 2, 1) := rfl
theorem tX1_countEvents_4 : pm_tb tX1_countEvents 4 = some (.iload_n 2, 1) := rfl
theorem tX1_countEvents_5 : pm_tb tX1_countEvents 5 = some (.aload_n 0, 1) := rfl
theorem tX1_countEvents_6 : pm_tb tX1_countEvents 6 = some (.getfield 33, 3) := rfl
theorem tX1_countEvents_9 : pm_tb tX1_countEvents 9 = some (.if_icmp .ge 21, 3) := rfl
theorem tX1_countEvents_12 : pm_tb tX1_countEvents 12 = some (.iload_n 1, 1) := rfl
theorem tX1_countEvents_13 : pm_tb tX1_countEvents 13 = some (.aload_n 0, 1) := rfl
theorem tX1_countEvents_14 : pm_tb tX1_countEvents 14 = some (.getfield 20, 3) := rfl
theorem tX1_countEvents_17 : pm_tb tX1_countEvents 17 = some (.iload_n 2, 1) := rfl
theorem tX1_countEvents_18 : pm_tb tX1_countEvents 18 = some (.aaload, 1) := rfl
theorem tX1_countEvents_19 : pm_tb tX1_countEvents 19 = some (.getfield 78, 3) := rfl
theorem tX1_countEvents_22 : pm_tb tX1_countEvents 22 = some (.iadd, 1) := rfl
theorem tX1_countEvents_23 : pm_tb tX1_countEvents 23 = some (.istore_n 1, 1) := rfl
theorem tX1_countEvents_24 : pm_tb tX1_countEvents 24 = some (.iinc 2 1, 3) := rfl
theorem tX1_countEvents_27 : pm_tb tX1_countEvents 27 = some (.goto (-23), 3) := rfl
theorem tX1_countEvents_30 : pm_tb tX1_countEvents 30 = some (.iload_n 1, 1) := rfl
theorem tX1_countEvents_31 : pm_tb tX1_countEvents 31 = some (.ireturn, 1) := rfl
theorem tX1_tellEvent_0 : pm_tb tX1_tellEvent 0 = some (.iload_n 1, 1) := rfl
theorem tX1_tellEvent_1 : pm_tb tX1_tellEvent 1 = some (.ifCond .lt 12, 3) := rfl
theorem tX1_tellEvent_4 : pm_tb tX1_tellEvent 4 = some (.iload_n 2, 1) := rfl
theorem tX1_tellEvent_5 : pm_tb tX1_tellEvent 5 = some (.ifCond .lt 8, 3) := rfl
theorem tX1_tellEvent_8 : pm_tb tX1_tellEvent 8 = some (.iload_n 2, 1) := rfl
theorem tX1_tellEvent_9 : pm_tb tX1_tellEvent 9 = some (.iconst 1, 1) := rfl
theorem tX1_tellEvent_10 : pm_tb tX1_tellEvent 10 = some (.if_icmp .le 5, 3) := rfl
theorem tX1_tellEvent_13 : pm_tb tX1_tellEvent 13 = some (.lconst 0, 1) := rfl
theorem tX1_tellEvent_14 : pm_tb tX1_tellEvent 14 = some (.lreturn, 1) := rfl
theorem tX1_tellEvent_15 : pm_tb tX1_tellEvent 15 = some (.iload_n 1, 1) := rfl
theorem tX1_tellEvent_16 : pm_tb tX1_tellEvent 16 = some (.istore_n 3, 1) := rfl
theorem tX1_tellEvent_17 : pm_tb tX1_tellEvent 17 = some (.iconst 0, 1) := rfl
theorem tX1_tellEvent_18 : pm_tb tX1_tellEvent 18 = some (.istore 4, 2) := rfl
theorem tX1_tellEvent_20 : pm_tb tX1_tellEvent 20 = some (.iload 4, 2) := rfl
theorem tX1_tellEvent_22 : pm_tb tX1_tellEvent 22 = some (.aload_n 0, 1) := rfl
theorem tX1_tellEvent_23 : pm_tb tX1_tellEvent 23 = some (.getfield 33, 3) := rfl
theorem tX1_tellEvent_26 : pm_tb tX1_tellEvent 26 = some (.if_icmp .ge 53, 3) := rfl
theorem tX1_tellEvent_29 : pm_tb tX1_tellEvent 29 = some (.aload_n 0, 1) := rfl
theorem tX1_tellEvent_30 : pm_tb tX1_tellEvent 30 = some (.getfield 20, 3) := rfl
theorem tX1_tellEvent_33 : pm_tb tX1_tellEvent 33 = some (.iload 4, 2) := rfl
theorem tX1_tellEvent_35 : pm_tb tX1_tellEvent 35 = some (.aaload, 1) := rfl
theorem tX1_tellEvent_36 : pm_tb tX1_tellEvent 36 = some (.astore 5, 2) := rfl
theorem tX1_tellEvent_38 : pm_tb tX1_tellEvent 38 = some (.iload_n 3, 1) := rfl
theorem tX1_tellEvent_39 : pm_tb tX1_tellEvent 39 = some (.aload 5, 2) := rfl
theorem tX1_tellEvent_41 : pm_tb tX1_tellEvent 41 = some (.getfield 78, 3) := rfl
theorem tX1_tellEvent_44 : pm_tb tX1_tellEvent 44 = some (.if_icmp .ge 21, 3) := rfl
theorem tX1_tellEvent_47 : pm_tb tX1_tellEvent 47 = some (.iload_n 2, 1) := rfl
theorem tX1_tellEvent_48 : pm_tb tX1_tellEvent 48 = some (.ifCond .ne 13, 3) := rfl
theorem tX1_tellEvent_51 : pm_tb tX1_tellEvent 51 = some (.aload 5, 2) := rfl
theorem tX1_tellEvent_53 : pm_tb tX1_tellEvent 53 = some (.getfield 81, 3) := rfl
theorem tX1_tellEvent_56 : pm_tb tX1_tellEvent 56 = some (.iload_n 3, 1) := rfl
theorem tX1_tellEvent_57 : pm_tb tX1_tellEvent 57 = some (.laload, 1) := rfl
theorem tX1_tellEvent_58 : pm_tb tX1_tellEvent 58 = some (.goto 6, 3) := rfl
theorem tX1_tellEvent_61 : pm_tb tX1_tellEvent 61 = some (.iload 4, 2) := rfl
theorem tX1_tellEvent_63 : pm_tb tX1_tellEvent 63 = some (.i2l, 1) := rfl
theorem tX1_tellEvent_64 : pm_tb tX1_tellEvent 64 = some (.lreturn, 1) := rfl
theorem tX1_tellEvent_65 : pm_tb tX1_tellEvent 65 = some (.iload_n 3, 1) := rfl
theorem tX1_tellEvent_66 : pm_tb tX1_tellEvent 66 = some (.aload 5, 2) := rfl
theorem tX1_tellEvent_68 : pm_tb tX1_tellEvent 68 = some (.getfield 78, 3) := rfl
theorem tX1_tellEvent_71 : pm_tb tX1_tellEvent 71 = some (.isub, 1) := rfl
theorem tX1_tellEvent_72 : pm_tb tX1_tellEvent 72 = some (.istore_n 3, 1) := rfl
theorem tX1_tellEvent_73 : pm_tb tX1_tellEvent 73 = some (.iinc 4 1, 3) := rfl
theorem tX1_tellEvent_76 : pm_tb tX1_tellEvent 76 = some (.goto (-56), 3) := rfl
theorem tX1_tellEvent_79 : pm_tb tX1_tellEvent 79 = some (.lconst 0, 1) := rfl
theorem tX1_tellEvent_80 : pm_tb tX1_tellEvent 80 = some (.lreturn, 1) := rfl
theorem tX1_tellCall_0 : pm_tb tX1_tellCall 0 = some (.iload_n 1, 1) := rfl
theorem tX1_tellCall_1 : pm_tb tX1_tellCall 1 = some (.ifCond .lt 11, 3) := rfl
theorem tX1_tellCall_4 : pm_tb tX1_tellCall 4 = some (.iload_n 1, 1) := rfl
theorem tX1_tellCall_5 : pm_tb tX1_tellCall 5 = some (.aload_n 0, 1) := rfl
theorem tX1_tellCall_6 : pm_tb tX1_tellCall 6 = some (.getfield 33, 3) := rfl
theorem tX1_tellCall_9 : pm_tb tX1_tellCall 9 = some (.if_icmp .lt 5, 3) := rfl
theorem tX1_tellCall_12 : pm_tb tX1_tellCall 12 = some (.iconst (-1), 1) := rfl
theorem tX1_tellCall_13 : pm_tb tX1_tellCall 13 = some (.ireturn, 1) := rfl
theorem tX1_tellCall_14 : pm_tb tX1_tellCall 14 = some (.aload_n 0, 1) := rfl
theorem tX1_tellCall_15 : pm_tb tX1_tellCall 15 = some (.getfield 20, 3) := rfl
theorem tX1_tellCall_18 : pm_tb tX1_tellCall 18 = some (.iload_n 1, 1) := rfl
theorem tX1_tellCall_19 : pm_tb tX1_tellCall 19 = some (.aaload, 1) := rfl
theorem tX1_tellCall_20 : pm_tb tX1_tellCall 20 = some (.astore_n 3, 1) := rfl
theorem tX1_tellCall_21 : pm_tb tX1_tellCall 21 = some (.iload_n 2, 1) := rfl
theorem tX1_tellCall_22 : pm_tb tX1_tellCall 22 = some (.tableswitch 76 0 5 #[38, 43, 48, 61, 66, 71], 38) := rfl
theorem tX1_tellCall_60 : pm_tb tX1_tellCall 60 = some (.aload_n 3, 1) := rfl
theorem tX1_tellCall_61 : pm_tb tX1_tellCall 61 = some (.getfield 85, 3) := rfl
theorem tX1_tellCall_64 : pm_tb tX1_tellCall 64 = some (.ireturn, 1) := rfl
theorem tX1_tellCall_65 : pm_tb tX1_tellCall 65 = some (.aload_n 3, 1) := rfl
theorem tX1_tellCall_66 : pm_tb tX1_tellCall 66 = some (.getfield 88, 3) := rfl
theorem tX1_tellCall_69 : pm_tb tX1_tellCall 69 = some (.ireturn, 1) := rfl
theorem tX1_tellCall_70 : pm_tb tX1_tellCall 70 = some (.aload_n 3, 1) := rfl
theorem tX1_tellCall_71 : pm_tb tX1_tellCall 71 = some (.getfield 91, 3) := rfl
theorem tX1_tellCall_74 : pm_tb tX1_tellCall 74 = some (.ifCond .eq 7, 3) := rfl
theorem tX1_tellCall_77 : pm_tb tX1_tellCall 77 = some (.iconst 1, 1) := rfl
theorem tX1_tellCall_78 : pm_tb tX1_tellCall 78 = some (.goto 4, 3) := rfl
theorem tX1_tellCall_81 : pm_tb tX1_tellCall 81 = some (.iconst 0, 1) := rfl
theorem tX1_tellCall_82 : pm_tb tX1_tellCall 82 = some (.ireturn, 1) := rfl
theorem tX1_tellCall_83 : pm_tb tX1_tellCall 83 = some (.aload_n 3, 1) := rfl
theorem tX1_tellCall_84 : pm_tb tX1_tellCall 84 = some (.getfield 95, 3) := rfl
theorem tX1_tellCall_87 : pm_tb tX1_tellCall 87 = some (.ireturn, 1) := rfl
theorem tX1_tellCall_88 : pm_tb tX1_tellCall 88 = some (.aload_n 3, 1) := rfl
theorem tX1_tellCall_89 : pm_tb tX1_tellCall 89 = some (.invokevirtual 98, 3) := rfl
theorem tX1_tellCall_92 : pm_tb tX1_tellCall 92 = some (.ireturn, 1) := rfl
theorem tX1_tellCall_93 : pm_tb tX1_tellCall 93 = some (.aload_n 3, 1) := rfl
theorem tX1_tellCall_94 : pm_tb tX1_tellCall 94 = some (.getfield 55, 3) := rfl
theorem tX1_tellCall_97 : pm_tb tX1_tellCall 97 = some (.ireturn, 1) := rfl
theorem tX1_tellCall_98 : pm_tb tX1_tellCall 98 = some (.iconst (-1), 1) := rfl
theorem tX1_tellCall_99 : pm_tb tX1_tellCall 99 = some (.ireturn, 1) := rfl
theorem tX2_addCall_0 : pm_tb tX2_addCall 0 = some (.aload_n 0, 1) := rfl
theorem tX2_addCall_1 : pm_tb tX2_addCall 1 = some (.getfield 28, 3) := rfl
theorem tX2_addCall_4 : pm_tb tX2_addCall 4 = some (.bipush 16, 2) := rfl
theorem tX2_addCall_6 : pm_tb tX2_addCall 6 = some (.if_icmp .lt 5, 3) := rfl
theorem tX2_addCall_9 : pm_tb tX2_addCall 9 = some (.iconst (-1), 1) := rfl
theorem tX2_addCall_10 : pm_tb tX2_addCall 10 = some (.ireturn, 1) := rfl
theorem tX2_addCall_11 : pm_tb tX2_addCall 11 = some (.aload_n 0, 1) := rfl
theorem tX2_addCall_12 : pm_tb tX2_addCall 12 = some (.getfield 9, 3) := rfl
theorem tX2_addCall_15 : pm_tb tX2_addCall 15 = some (.aload_n 0, 1) := rfl
theorem tX2_addCall_16 : pm_tb tX2_addCall 16 = some (.getfield 28, 3) := rfl
theorem tX2_addCall_19 : pm_tb tX2_addCall 19 = some (.iconst 0, 1) := rfl
theorem tX2_addCall_20 : pm_tb tX2_addCall 20 = some (.iastore, 1) := rfl
theorem tX2_addCall_21 : pm_tb tX2_addCall 21 = some (.aload_n 0, 1) := rfl
theorem tX2_addCall_22 : pm_tb tX2_addCall 22 = some (.dup, 1) := rfl
theorem tX2_addCall_23 : pm_tb tX2_addCall 23 = some (.getfield 28, 3) := rfl
theorem tX2_addCall_26 : pm_tb tX2_addCall 26 = some (.iconst 1, 1) := rfl
theorem tX2_addCall_27 : pm_tb tX2_addCall 27 = some (.iadd, 1) := rfl
theorem tX2_addCall_28 : pm_tb tX2_addCall 28 = some (.putfield 28, 3) := rfl
theorem tX2_addCall_31 : pm_tb tX2_addCall 31 = some (.aload_n 0, 1) := rfl
theorem tX2_addCall_32 : pm_tb tX2_addCall 32 = some (.getfield 28, 3) := rfl
theorem tX2_addCall_35 : pm_tb tX2_addCall 35 = some (.iconst 1, 1) := rfl
theorem tX2_addCall_36 : pm_tb tX2_addCall 36 = some (.isub, 1) := rfl
theorem tX2_addCall_37 : pm_tb tX2_addCall 37 = some (.ireturn, 1) := rfl
theorem tX2_addAct_0 : pm_tb tX2_addAct 0 = some (.iload_n 1, 1) := rfl
theorem tX2_addAct_1 : pm_tb tX2_addAct 1 = some (.ifCond .lt 22, 3) := rfl
theorem tX2_addAct_4 : pm_tb tX2_addAct 4 = some (.iload_n 1, 1) := rfl
theorem tX2_addAct_5 : pm_tb tX2_addAct 5 = some (.aload_n 0, 1) := rfl
theorem tX2_addAct_6 : pm_tb tX2_addAct 6 = some (.getfield 28, 3) := rfl
theorem tX2_addAct_9 : pm_tb tX2_addAct 9 = some (.if_icmp .ge 14, 3) := rfl
theorem tX2_addAct_12 : pm_tb tX2_addAct 12 = some (.aload_n 0, 1) := rfl
theorem tX2_addAct_13 : pm_tb tX2_addAct 13 = some (.getfield 9, 3) := rfl
theorem tX2_addAct_16 : pm_tb tX2_addAct 16 = some (.iload_n 1, 1) := rfl
theorem tX2_addAct_17 : pm_tb tX2_addAct 17 = some (.iaload, 1) := rfl
theorem tX2_addAct_18 : pm_tb tX2_addAct 18 = some (.bipush 12, 2) := rfl
theorem tX2_addAct_20 : pm_tb tX2_addAct 20 = some (.if_icmp .lt 5, 3) := rfl
theorem tX2_addAct_23 : pm_tb tX2_addAct 23 = some (.iconst (-1), 1) := rfl
theorem tX2_addAct_24 : pm_tb tX2_addAct 24 = some (.ireturn, 1) := rfl
theorem tX2_addAct_25 : pm_tb tX2_addAct 25 = some (.iload_n 1, 1) := rfl
theorem tX2_addAct_26 : pm_tb tX2_addAct 26 = some (.bipush 12, 2) := rfl
theorem tX2_addAct_28 : pm_tb tX2_addAct 28 = some (.imul, 1) := rfl
theorem tX2_addAct_29 : pm_tb tX2_addAct 29 = some (.aload_n 0, 1) := rfl
theorem tX2_addAct_30 : pm_tb tX2_addAct 30 = some (.getfield 9, 3) := rfl
theorem tX2_addAct_33 : pm_tb tX2_addAct 33 = some (.iload_n 1, 1) := rfl
theorem tX2_addAct_34 : pm_tb tX2_addAct 34 = some (.iaload, 1) := rfl
theorem tX2_addAct_35 : pm_tb tX2_addAct 35 = some (.iadd, 1) := rfl
theorem tX2_addAct_36 : pm_tb tX2_addAct 36 = some (.istore 7, 2) := rfl
theorem tX2_addAct_38 : pm_tb tX2_addAct 38 = some (.aload_n 0, 1) := rfl
theorem tX2_addAct_39 : pm_tb tX2_addAct 39 = some (.getfield 15, 3) := rfl
theorem tX2_addAct_42 : pm_tb tX2_addAct 42 = some (.iload 7, 2) := rfl
theorem tX2_addAct_44 : pm_tb tX2_addAct 44 = some (.iload_n 2, 1) := rfl
theorem tX2_addAct_45 : pm_tb tX2_addAct 45 = some (.iastore, 1) := rfl
theorem tX2_addAct_46 : pm_tb tX2_addAct 46 = some (.aload_n 0, 1) := rfl
theorem tX2_addAct_47 : pm_tb tX2_addAct 47 = some (.getfield 18, 3) := rfl
theorem tX2_addAct_50 : pm_tb tX2_addAct 50 = some (.iload 7, 2) := rfl
theorem tX2_addAct_52 : pm_tb tX2_addAct 52 = some (.iload_n 3, 1) := rfl
theorem tX2_addAct_53 : pm_tb tX2_addAct 53 = some (.iastore, 1) := rfl
theorem tX2_addAct_54 : pm_tb tX2_addAct 54 = some (.aload_n 0, 1) := rfl
theorem tX2_addAct_55 : pm_tb tX2_addAct 55 = some (.getfield 21, 3) := rfl
theorem tX2_addAct_58 : pm_tb tX2_addAct 58 = some (.iload 7, 2) := rfl
theorem tX2_addAct_60 : pm_tb tX2_addAct 60 = some (.iload 4, 2) := rfl
theorem tX2_addAct_62 : pm_tb tX2_addAct 62 = some (.iastore, 1) := rfl
theorem tX2_addAct_63 : pm_tb tX2_addAct 63 = some (.aload_n 0, 1) := rfl
theorem tX2_addAct_64 : pm_tb tX2_addAct 64 = some (.getfield 24, 3) := rfl
theorem tX2_addAct_67 : pm_tb tX2_addAct 67 = some (.iload 7, 2) := rfl
theorem tX2_addAct_69 : pm_tb tX2_addAct 69 = some (.lload 5, 2) := rfl
theorem tX2_addAct_71 : pm_tb tX2_addAct 71 = some (.lastore, 1) := rfl
theorem tX2_addAct_72 : pm_tb tX2_addAct 72 = some (.aload_n 0, 1) := rfl
theorem tX2_addAct_73 : pm_tb tX2_addAct 73 = some (.getfield 9, 3) := rfl
theorem tX2_addAct_76 : pm_tb tX2_addAct 76 = some (.iload_n 1, 1) := rfl
theorem tX2_addAct_77 : pm_tb tX2_addAct 77 = some (.dup2, 1) := rfl
theorem tX2_addAct_78 : pm_tb tX2_addAct 78 = some (.iaload, 1) := rfl
theorem tX2_addAct_79 : pm_tb tX2_addAct 79 = some (.iconst 1, 1) := rfl
theorem tX2_addAct_80 : pm_tb tX2_addAct 80 = some (.iadd, 1) := rfl
theorem tX2_addAct_81 : pm_tb tX2_addAct 81 = some (.iastore, 1) := rfl
theorem tX2_addAct_82 : pm_tb tX2_addAct 82 = some (.aload_n 0, 1) := rfl
theorem tX2_addAct_83 : pm_tb tX2_addAct 83 = some (.getfield 9, 3) := rfl
theorem tX2_addAct_86 : pm_tb tX2_addAct 86 = some (.iload_n 1, 1) := rfl
theorem tX2_addAct_87 : pm_tb tX2_addAct 87 = some (.iaload, 1) := rfl
theorem tX2_addAct_88 : pm_tb tX2_addAct 88 = some (.ireturn, 1) := rfl
theorem tX2_dropCalls_0 : pm_tb tX2_dropCalls 0 = some (.aload_n 0, 1) := rfl
theorem tX2_dropCalls_1 : pm_tb tX2_dropCalls 1 = some (.getfield 28, 3) := rfl
theorem tX2_dropCalls_4 : pm_tb tX2_dropCalls 4 = some (.istore_n 1, 1) := rfl
theorem tX2_dropCalls_5 : pm_tb tX2_dropCalls 5 = some (.aload_n 0, 1) := rfl
theorem tX2_dropCalls_6 : pm_tb tX2_dropCalls 6 = some (.iconst 0, 1) := rfl
theorem tX2_dropCalls_7 : pm_tb tX2_dropCalls 7 = some (.putfield 28, 3) := rfl
theorem tX2_dropCalls_10 : pm_tb tX2_dropCalls 10 = some (.iload_n 1, 1) := rfl
theorem tX2_dropCalls_11 : pm_tb tX2_dropCalls 11 = some (.ireturn, 1) := rfl
theorem tX3_note_0 : pm_tb tX3_note 0 = some (.aload_n 0, 1) := rfl
theorem tX3_note_1 : pm_tb tX3_note 1 = some (.getfield 16, 3) := rfl
theorem tX3_note_4 : pm_tb tX3_note 4 = some (.sipush 200, 3) := rfl
theorem tX3_note_7 : pm_tb tX3_note 7 = some (.if_icmp .ge 23, 3) := rfl
theorem tX3_note_10 : pm_tb tX3_note 10 = some (.aload_n 0, 1) := rfl
theorem tX3_note_11 : pm_tb tX3_note 11 = some (.getfield 9, 3) := rfl
theorem tX3_note_14 : pm_tb tX3_note 14 = some (.aload_n 0, 1) := rfl
theorem tX3_note_15 : pm_tb tX3_note 15 = some (.getfield 16, 3) := rfl
theorem tX3_note_18 : pm_tb tX3_note 18 = some (.iload_n 1, 1) := rfl
theorem tX3_note_19 : pm_tb tX3_note 19 = some (.iastore, 1) := rfl
theorem tX3_note_20 : pm_tb tX3_note 20 = some (.aload_n 0, 1) := rfl
theorem tX3_note_21 : pm_tb tX3_note 21 = some (.getfield 13, 3) := rfl
theorem tX3_note_24 : pm_tb tX3_note 24 = some (.aload_n 0, 1) := rfl
theorem tX3_note_25 : pm_tb tX3_note 25 = some (.getfield 16, 3) := rfl
theorem tX3_note_28 : pm_tb tX3_note 28 = some (.iload_n 2, 1) := rfl
theorem tX3_note_29 : pm_tb tX3_note 29 = some (.iastore, 1) := rfl
theorem tX3_note_30 : pm_tb tX3_note 30 = some (.aload_n 0, 1) := rfl
theorem tX3_note_31 : pm_tb tX3_note 31 = some (.dup, 1) := rfl
theorem tX3_note_32 : pm_tb tX3_note 32 = some (.getfield 16, 3) := rfl
theorem tX3_note_35 : pm_tb tX3_note 35 = some (.iconst 1, 1) := rfl
theorem tX3_note_36 : pm_tb tX3_note 36 = some (.iadd, 1) := rfl
theorem tX3_note_37 : pm_tb tX3_note 37 = some (.putfield 16, 3) := rfl
theorem tX3_note_40 : pm_tb tX3_note 40 = some (.return_, 1) := rfl
theorem tX3_tell_0 : pm_tb tX3_tell 0 = some (.iload_n 1, 1) := rfl
theorem tX3_tell_1 : pm_tb tX3_tell 1 = some (.ifCond .lt 27, 3) := rfl
theorem tX3_tell_4 : pm_tb tX3_tell 4 = some (.iload_n 1, 1) := rfl
theorem tX3_tell_5 : pm_tb tX3_tell 5 = some (.aload_n 0, 1) := rfl
theorem tX3_tell_6 : pm_tb tX3_tell 6 = some (.getfield 16, 3) := rfl
theorem tX3_tell_9 : pm_tb tX3_tell 9 = some (.if_icmp .ge 19, 3) := rfl
theorem tX3_tell_12 : pm_tb tX3_tell 12 = some (.iload_n 1, 1) := rfl
theorem tX3_tell_13 : pm_tb tX3_tell 13 = some (.sipush 200, 3) := rfl
theorem tX3_tell_16 : pm_tb tX3_tell 16 = some (.if_icmp .ge 12, 3) := rfl
theorem tX3_tell_19 : pm_tb tX3_tell 19 = some (.iload_n 2, 1) := rfl
theorem tX3_tell_20 : pm_tb tX3_tell 20 = some (.ifCond .lt 8, 3) := rfl
theorem tX3_tell_23 : pm_tb tX3_tell 23 = some (.iload_n 2, 1) := rfl
theorem tX3_tell_24 : pm_tb tX3_tell 24 = some (.iconst 1, 1) := rfl
theorem tX3_tell_25 : pm_tb tX3_tell 25 = some (.if_icmp .le 6, 3) := rfl
theorem tX3_tell_28 : pm_tb tX3_tell 28 = some (.bipush (-2), 2) := rfl
theorem tX3_tell_30 : pm_tb tX3_tell 30 = some (.ireturn, 1) := rfl
theorem tX3_tell_31 : pm_tb tX3_tell 31 = some (.iload_n 2, 1) := rfl
theorem tX3_tell_32 : pm_tb tX3_tell 32 = some (.ifCond .ne 12, 3) := rfl
theorem tX3_tell_35 : pm_tb tX3_tell 35 = some (.aload_n 0, 1) := rfl
theorem tX3_tell_36 : pm_tb tX3_tell 36 = some (.getfield 9, 3) := rfl
theorem tX3_tell_39 : pm_tb tX3_tell 39 = some (.iload_n 1, 1) := rfl
theorem tX3_tell_40 : pm_tb tX3_tell 40 = some (.iaload, 1) := rfl
theorem tX3_tell_41 : pm_tb tX3_tell 41 = some (.goto 9, 3) := rfl
theorem tX3_tell_44 : pm_tb tX3_tell 44 = some (.aload_n 0, 1) := rfl
theorem tX3_tell_45 : pm_tb tX3_tell 45 = some (.getfield 13, 3) := rfl
theorem tX3_tell_48 : pm_tb tX3_tell 48 = some (.iload_n 1, 1) := rfl
theorem tX3_tell_49 : pm_tb tX3_tell 49 = some (.iaload, 1) := rfl
theorem tX3_tell_50 : pm_tb tX3_tell 50 = some (.ireturn, 1) := rfl
theorem tX4_isRegister_0 : pm_tb tX4_isRegister 0 = some (.iload_n 0, 1) := rfl
theorem tX4_isRegister_1 : pm_tb tX4_isRegister 1 = some (.ifCond .lt 12, 3) := rfl
theorem tX4_isRegister_4 : pm_tb tX4_isRegister 4 = some (.iload_n 0, 1) := rfl
theorem tX4_isRegister_5 : pm_tb tX4_isRegister 5 = some (.iconst 4, 1) := rfl
theorem tX4_isRegister_6 : pm_tb tX4_isRegister 6 = some (.if_icmp .ge 7, 3) := rfl
theorem tX4_isRegister_9 : pm_tb tX4_isRegister 9 = some (.iconst 1, 1) := rfl
theorem tX4_isRegister_10 : pm_tb tX4_isRegister 10 = some (.goto 4, 3) := rfl
theorem tX4_isRegister_13 : pm_tb tX4_isRegister 13 = some (.iconst 0, 1) := rfl
theorem tX4_isRegister_14 : pm_tb tX4_isRegister 14 = some (.ireturn, 1) := rfl
theorem tX4_hasSecond_0 : pm_tb tX4_hasSecond 0 = some (.iload_n 0, 1) := rfl
theorem tX4_hasSecond_1 : pm_tb tX4_hasSecond 1 = some (.iconst 1, 1) := rfl
theorem tX4_hasSecond_2 : pm_tb tX4_hasSecond 2 = some (.if_icmp .lt 13, 3) := rfl
theorem tX4_hasSecond_5 : pm_tb tX4_hasSecond 5 = some (.iload_n 0, 1) := rfl
theorem tX4_hasSecond_6 : pm_tb tX4_hasSecond 6 = some (.bipush 6, 2) := rfl
theorem tX4_hasSecond_8 : pm_tb tX4_hasSecond 8 = some (.if_icmp .gt 7, 3) := rfl
theorem tX4_hasSecond_11 : pm_tb tX4_hasSecond 11 = some (.iconst 1, 1) := rfl
theorem tX4_hasSecond_12 : pm_tb tX4_hasSecond 12 = some (.goto 4, 3) := rfl
theorem tX4_hasSecond_15 : pm_tb tX4_hasSecond 15 = some (.iconst 0, 1) := rfl
theorem tX4_hasSecond_16 : pm_tb tX4_hasSecond 16 = some (.ireturn, 1) := rfl
theorem tX4_allowsValue_0 : pm_tb tX4_allowsValue 0 = some (.iload_n 0, 1) := rfl
theorem tX4_allowsValue_1 : pm_tb tX4_allowsValue 1 = some (.iconst 2, 1) := rfl
theorem tX4_allowsValue_2 : pm_tb tX4_allowsValue 2 = some (.if_icmp .gt 5, 3) := rfl
theorem tX4_allowsValue_5 : pm_tb tX4_allowsValue 5 = some (.iconst 1, 1) := rfl
theorem tX4_allowsValue_6 : pm_tb tX4_allowsValue 6 = some (.ireturn, 1) := rfl
theorem tX4_allowsValue_7 : pm_tb tX4_allowsValue 7 = some (.iload_n 0, 1) := rfl
theorem tX4_allowsValue_8 : pm_tb tX4_allowsValue 8 = some (.bipush 6, 2) := rfl
theorem tX4_allowsValue_10 : pm_tb tX4_allowsValue 10 = some (.if_icmp .ne 25, 3) := rfl
theorem tX4_allowsValue_13 : pm_tb tX4_allowsValue 13 = some (.lload_n 1, 1) := rfl
theorem tX4_allowsValue_14 : pm_tb tX4_allowsValue 14 = some (.lconst 1, 1) := rfl
theorem tX4_allowsValue_15 : pm_tb tX4_allowsValue 15 = some (.lcmp, 1) := rfl
theorem tX4_allowsValue_16 : pm_tb tX4_allowsValue 16 = some (.ifCond .lt 15, 3) := rfl
theorem tX4_allowsValue_19 : pm_tb tX4_allowsValue 19 = some (.lload_n 1, 1) := rfl
theorem tX4_allowsValue_20 : pm_tb tX4_allowsValue 20 = some (.ldc2_w 22, 3) := rfl
theorem tX4_allowsValue_23 : pm_tb tX4_allowsValue 23 = some (.lcmp, 1) := rfl
theorem tX4_allowsValue_24 : pm_tb tX4_allowsValue 24 = some (.ifCond .gt 7, 3) := rfl
theorem tX4_allowsValue_27 : pm_tb tX4_allowsValue 27 = some (.iconst 1, 1) := rfl
theorem tX4_allowsValue_28 : pm_tb tX4_allowsValue 28 = some (.goto 18, 3) := rfl
theorem tX4_allowsValue_31 : pm_tb tX4_allowsValue 31 = some (.iconst 0, 1) := rfl
theorem tX4_allowsValue_32 : pm_tb tX4_allowsValue 32 = some (.goto 14, 3) := rfl
theorem tX4_allowsValue_35 : pm_tb tX4_allowsValue 35 = some (.lload_n 1, 1) := rfl
theorem tX4_allowsValue_36 : pm_tb tX4_allowsValue 36 = some (.lconst 0, 1) := rfl
theorem tX4_allowsValue_37 : pm_tb tX4_allowsValue 37 = some (.lcmp, 1) := rfl
theorem tX4_allowsValue_38 : pm_tb tX4_allowsValue 38 = some (.ifCond .ne 7, 3) := rfl
theorem tX4_allowsValue_41 : pm_tb tX4_allowsValue 41 = some (.iconst 1, 1) := rfl
theorem tX4_allowsValue_42 : pm_tb tX4_allowsValue 42 = some (.goto 4, 3) := rfl
theorem tX4_allowsValue_45 : pm_tb tX4_allowsValue 45 = some (.iconst 0, 1) := rfl
theorem tX4_allowsValue_46 : pm_tb tX4_allowsValue 46 = some (.ireturn, 1) := rfl
theorem tX4_allows_0 : pm_tb tX4_allows 0 = some (.iload_n 0, 1) := rfl
theorem tX4_allows_1 : pm_tb tX4_allows 1 = some (.ifCond .lt 49, 3) := rfl
theorem tX4_allows_4 : pm_tb tX4_allows 4 = some (.iload_n 0, 1) := rfl
theorem tX4_allows_5 : pm_tb tX4_allows 5 = some (.bipush 8, 2) := rfl
theorem tX4_allows_7 : pm_tb tX4_allows 7 = some (.if_icmp .gt 43, 3) := rfl
theorem tX4_allows_10 : pm_tb tX4_allows 10 = some (.iload_n 1, 1) := rfl
theorem tX4_allows_11 : pm_tb tX4_allows 11 = some (.invokestatic 11, 3) := rfl
theorem tX4_allows_14 : pm_tb tX4_allows 14 = some (.ifCond .eq 36, 3) := rfl
theorem tX4_allows_17 : pm_tb tX4_allows 17 = some (.iload_n 0, 1) := rfl
theorem tX4_allows_18 : pm_tb tX4_allows 18 = some (.invokestatic 15, 3) := rfl
theorem tX4_allows_21 : pm_tb tX4_allows 21 = some (.ifCond .eq 13, 3) := rfl
theorem tX4_allows_24 : pm_tb tX4_allows 24 = some (.iload_n 2, 1) := rfl
theorem tX4_allows_25 : pm_tb tX4_allows 25 = some (.invokestatic 11, 3) := rfl
theorem tX4_allows_28 : pm_tb tX4_allows 28 = some (.ifCond .eq 22, 3) := rfl
theorem tX4_allows_31 : pm_tb tX4_allows 31 = some (.goto 7, 3) := rfl
theorem tX4_allows_34 : pm_tb tX4_allows 34 = some (.iload_n 2, 1) := rfl
theorem tX4_allows_35 : pm_tb tX4_allows 35 = some (.ifCond .ne 15, 3) := rfl
theorem tX4_allows_38 : pm_tb tX4_allows 38 = some (.iload_n 0, 1) := rfl
theorem tX4_allows_39 : pm_tb tX4_allows 39 = some (.lload_n 3, 1) := rfl
theorem tX4_allows_40 : pm_tb tX4_allows 40 = some (.invokestatic 18, 3) := rfl
theorem tX4_allows_43 : pm_tb tX4_allows 43 = some (.ifCond .eq 7, 3) := rfl
theorem tX4_allows_46 : pm_tb tX4_allows 46 = some (.iconst 1, 1) := rfl
theorem tX4_allows_47 : pm_tb tX4_allows 47 = some (.goto 4, 3) := rfl
theorem tX4_allows_50 : pm_tb tX4_allows 50 = some (.iconst 0, 1) := rfl
theorem tX4_allows_51 : pm_tb tX4_allows 51 = some (.ireturn, 1) := rfl
theorem tX5_valueAfter_0 : pm_tb tX5_valueAfter 0 = some (.aload_n 0, 1) := rfl
theorem tX5_valueAfter_1 : pm_tb tX5_valueAfter 1 = some (.iload_n 1, 1) := rfl
theorem tX5_valueAfter_2 : pm_tb tX5_valueAfter 2 = some (.aload_n 0, 1) := rfl
theorem tX5_valueAfter_3 : pm_tb tX5_valueAfter 3 = some (.iload_n 1, 1) := rfl
theorem tX5_valueAfter_4 : pm_tb tX5_valueAfter 4 = some (.bipush 16, 2) := rfl
theorem tX5_valueAfter_6 : pm_tb tX5_valueAfter 6 = some (.invokevirtual 37, 3) := rfl
theorem tX5_valueAfter_9 : pm_tb tX5_valueAfter 9 = some (.invokevirtual 41, 3) := rfl
theorem tX5_valueAfter_12 : pm_tb tX5_valueAfter 12 = some (.lreturn, 1) := rfl
theorem tX5_doubt_0 : pm_tb tX5_doubt 0 = some (.iconst 0, 1) := rfl
theorem tX5_doubt_1 : pm_tb tX5_doubt 1 = some (.istore_n 2, 1) := rfl
theorem tX5_doubt_2 : pm_tb tX5_doubt 2 = some (.iload_n 2, 1) := rfl
theorem tX5_doubt_3 : pm_tb tX5_doubt 3 = some (.bipush 32, 2) := rfl
theorem tX5_doubt_5 : pm_tb tX5_doubt 5 = some (.if_icmp .ge 35, 3) := rfl
theorem tX5_doubt_8 : pm_tb tX5_doubt 8 = some (.aload_n 0, 1) := rfl
theorem tX5_doubt_9 : pm_tb tX5_doubt 9 = some (.getfield 15, 3) := rfl
theorem tX5_doubt_12 : pm_tb tX5_doubt 12 = some (.iload_n 2, 1) := rfl
theorem tX5_doubt_13 : pm_tb tX5_doubt 13 = some (.bipush 16, 2) := rfl
theorem tX5_doubt_15 : pm_tb tX5_doubt 15 = some (.imul, 1) := rfl
theorem tX5_doubt_16 : pm_tb tX5_doubt 16 = some (.iload_n 1, 1) := rfl
theorem tX5_doubt_17 : pm_tb tX5_doubt 17 = some (.iadd, 1) := rfl
theorem tX5_doubt_18 : pm_tb tX5_doubt 18 = some (.iaload, 1) := rfl
theorem tX5_doubt_19 : pm_tb tX5_doubt 19 = some (.ifCond .eq 15, 3) := rfl
theorem tX5_doubt_22 : pm_tb tX5_doubt 22 = some (.aload_n 0, 1) := rfl
theorem tX5_doubt_23 : pm_tb tX5_doubt 23 = some (.getfield 15, 3) := rfl
theorem tX5_doubt_26 : pm_tb tX5_doubt 26 = some (.iload_n 2, 1) := rfl
theorem tX5_doubt_27 : pm_tb tX5_doubt 27 = some (.bipush 16, 2) := rfl
theorem tX5_doubt_29 : pm_tb tX5_doubt 29 = some (.imul, 1) := rfl
theorem tX5_doubt_30 : pm_tb tX5_doubt 30 = some (.iload_n 1, 1) := rfl
theorem tX5_doubt_31 : pm_tb tX5_doubt 31 = some (.iadd, 1) := rfl
theorem tX5_doubt_32 : pm_tb tX5_doubt 32 = some (.iconst 2, 1) := rfl
theorem tX5_doubt_33 : pm_tb tX5_doubt 33 = some (.iastore, 1) := rfl
theorem tX5_doubt_34 : pm_tb tX5_doubt 34 = some (.iinc 2 1, 3) := rfl
theorem tX5_doubt_37 : pm_tb tX5_doubt 37 = some (.goto (-35), 3) := rfl
theorem tX5_doubt_40 : pm_tb tX5_doubt 40 = some (.return_, 1) := rfl
theorem tX6_open_0 : pm_tb tX6_open 0 = some (.aload_n 0, 1) := rfl
theorem tX6_open_1 : pm_tb tX6_open 1 = some (.getfield 12, 3) := rfl
theorem tX6_open_4 : pm_tb tX6_open 4 = some (.aload_n 1, 1) := rfl
theorem tX6_open_5 : pm_tb tX6_open 5 = some (.aload_n 2, 1) := rfl
theorem tX6_open_6 : pm_tb tX6_open 6 = some (.invokevirtual 44, 3) := rfl
theorem tX6_open_9 : pm_tb tX6_open 9 = some (.aload_n 0, 1) := rfl
theorem tX6_open_10 : pm_tb tX6_open 10 = some (.getfield 21, 3) := rfl
theorem tX6_open_13 : pm_tb tX6_open 13 = some (.iconst 0, 1) := rfl
theorem tX6_open_14 : pm_tb tX6_open 14 = some (.putfield 48, 3) := rfl
theorem tX6_open_17 : pm_tb tX6_open 17 = some (.aload_n 0, 1) := rfl
theorem tX6_open_18 : pm_tb tX6_open 18 = some (.iconst 0, 1) := rfl
theorem tX6_open_19 : pm_tb tX6_open 19 = some (.putfield 52, 3) := rfl
theorem tX6_open_22 : pm_tb tX6_open 22 = some (.aload_n 0, 1) := rfl
theorem tX6_open_23 : pm_tb tX6_open 23 = some (.iconst 0, 1) := rfl
theorem tX6_open_24 : pm_tb tX6_open 24 = some (.putfield 55, 3) := rfl
theorem tX6_open_27 : pm_tb tX6_open 27 = some (.aload_n 0, 1) := rfl
theorem tX6_open_28 : pm_tb tX6_open 28 = some (.iconst 0, 1) := rfl
theorem tX6_open_29 : pm_tb tX6_open 29 = some (.putfield 58, 3) := rfl
theorem tX6_open_32 : pm_tb tX6_open 32 = some (.aload_n 0, 1) := rfl
theorem tX6_open_33 : pm_tb tX6_open 33 = some (.iconst 0, 1) := rfl
theorem tX6_open_34 : pm_tb tX6_open 34 = some (.putfield 61, 3) := rfl
theorem tX6_open_37 : pm_tb tX6_open 37 = some (.aload_n 0, 1) := rfl
theorem tX6_open_38 : pm_tb tX6_open 38 = some (.iconst 0, 1) := rfl
theorem tX6_open_39 : pm_tb tX6_open 39 = some (.putfield 64, 3) := rfl
theorem tX6_open_42 : pm_tb tX6_open 42 = some (.aload_n 0, 1) := rfl
theorem tX6_open_43 : pm_tb tX6_open 43 = some (.iload_n 3, 1) := rfl
theorem tX6_open_44 : pm_tb tX6_open 44 = some (.putfield 68, 3) := rfl
theorem tX6_open_47 : pm_tb tX6_open 47 = some (.aload_n 0, 1) := rfl
theorem tX6_open_48 : pm_tb tX6_open 48 = some (.iload 4, 2) := rfl
theorem tX6_open_50 : pm_tb tX6_open 50 = some (.putfield 71, 3) := rfl
theorem tX6_open_53 : pm_tb tX6_open 53 = some (.aload_n 0, 1) := rfl
theorem tX6_open_54 : pm_tb tX6_open 54 = some (.iconst 0, 1) := rfl
theorem tX6_open_55 : pm_tb tX6_open 55 = some (.putfield 74, 3) := rfl
theorem tX6_open_58 : pm_tb tX6_open 58 = some (.aload_n 0, 1) := rfl
theorem tX6_open_59 : pm_tb tX6_open 59 = some (.iconst 0, 1) := rfl
theorem tX6_open_60 : pm_tb tX6_open 60 = some (.putfield 77, 3) := rfl
theorem tX6_open_63 : pm_tb tX6_open 63 = some (.aload_n 0, 1) := rfl
theorem tX6_open_64 : pm_tb tX6_open 64 = some (.getfield 25, 3) := rfl
theorem tX6_open_67 : pm_tb tX6_open 67 = some (.iconst 0, 1) := rfl
theorem tX6_open_68 : pm_tb tX6_open 68 = some (.invokestatic 80, 3) := rfl
theorem tX6_open_71 : pm_tb tX6_open 71 = some (.aload_n 0, 1) := rfl
theorem tX6_open_72 : pm_tb tX6_open 72 = some (.getfield 29, 3) := rfl
theorem tX6_open_75 : pm_tb tX6_open 75 = some (.iconst (-1), 1) := rfl
theorem tX6_open_76 : pm_tb tX6_open 76 = some (.invokestatic 80, 3) := rfl
theorem tX6_open_79 : pm_tb tX6_open 79 = some (.aload_n 0, 1) := rfl
theorem tX6_open_80 : pm_tb tX6_open 80 = some (.getfield 32, 3) := rfl
theorem tX6_open_83 : pm_tb tX6_open 83 = some (.iconst 0, 1) := rfl
theorem tX6_open_84 : pm_tb tX6_open 84 = some (.invokestatic 80, 3) := rfl
theorem tX6_open_87 : pm_tb tX6_open 87 = some (.aload_n 0, 1) := rfl
theorem tX6_open_88 : pm_tb tX6_open 88 = some (.getfield 35, 3) := rfl
theorem tX6_open_91 : pm_tb tX6_open 91 = some (.iconst 0, 1) := rfl
theorem tX6_open_92 : pm_tb tX6_open 92 = some (.invokestatic 80, 3) := rfl
theorem tX6_open_95 : pm_tb tX6_open 95 = some (.return_, 1) := rfl
theorem tX6_isDone_0 : pm_tb tX6_isDone 0 = some (.aload_n 0, 1) := rfl
theorem tX6_isDone_1 : pm_tb tX6_isDone 1 = some (.getfield 74, 3) := rfl
theorem tX6_isDone_4 : pm_tb tX6_isDone 4 = some (.aload_n 0, 1) := rfl
theorem tX6_isDone_5 : pm_tb tX6_isDone 5 = some (.getfield 12, 3) := rfl
theorem tX6_isDone_8 : pm_tb tX6_isDone 8 = some (.getfield 103, 3) := rfl
theorem tX6_isDone_11 : pm_tb tX6_isDone 11 = some (.if_icmp .lt 17, 3) := rfl
theorem tX6_isDone_14 : pm_tb tX6_isDone 14 = some (.aload_n 0, 1) := rfl
theorem tX6_isDone_15 : pm_tb tX6_isDone 15 = some (.getfield 77, 3) := rfl
theorem tX6_isDone_18 : pm_tb tX6_isDone 18 = some (.aload_n 0, 1) := rfl
theorem tX6_isDone_19 : pm_tb tX6_isDone 19 = some (.getfield 12, 3) := rfl
theorem tX6_isDone_22 : pm_tb tX6_isDone 22 = some (.getfield 103, 3) := rfl
theorem tX6_isDone_25 : pm_tb tX6_isDone 25 = some (.if_icmp .ge 5, 3) := rfl
theorem tX6_isDone_28 : pm_tb tX6_isDone 28 = some (.iconst 0, 1) := rfl
theorem tX6_isDone_29 : pm_tb tX6_isDone 29 = some (.ireturn, 1) := rfl
theorem tX6_isDone_30 : pm_tb tX6_isDone 30 = some (.iconst 0, 1) := rfl
theorem tX6_isDone_31 : pm_tb tX6_isDone 31 = some (.istore_n 1, 1) := rfl
theorem tX6_isDone_32 : pm_tb tX6_isDone 32 = some (.iload_n 1, 1) := rfl
theorem tX6_isDone_33 : pm_tb tX6_isDone 33 = some (.aload_n 0, 1) := rfl
theorem tX6_isDone_34 : pm_tb tX6_isDone 34 = some (.getfield 68, 3) := rfl
theorem tX6_isDone_37 : pm_tb tX6_isDone 37 = some (.if_icmp .ge 20, 3) := rfl
theorem tX6_isDone_40 : pm_tb tX6_isDone 40 = some (.aload_n 0, 1) := rfl
theorem tX6_isDone_41 : pm_tb tX6_isDone 41 = some (.getfield 35, 3) := rfl
theorem tX6_isDone_44 : pm_tb tX6_isDone 44 = some (.iload_n 1, 1) := rfl
theorem tX6_isDone_45 : pm_tb tX6_isDone 45 = some (.iaload, 1) := rfl
theorem tX6_isDone_46 : pm_tb tX6_isDone 46 = some (.ifCond .eq 5, 3) := rfl
theorem tX6_isDone_49 : pm_tb tX6_isDone 49 = some (.iconst 0, 1) := rfl
theorem tX6_isDone_50 : pm_tb tX6_isDone 50 = some (.ireturn, 1) := rfl
theorem tX6_isDone_51 : pm_tb tX6_isDone 51 = some (.iinc 1 1, 3) := rfl
theorem tX6_isDone_54 : pm_tb tX6_isDone 54 = some (.goto (-22), 3) := rfl
theorem tX6_isDone_57 : pm_tb tX6_isDone 57 = some (.iconst 1, 1) := rfl
theorem tX6_isDone_58 : pm_tb tX6_isDone 58 = some (.ireturn, 1) := rfl
theorem tX6_giveUp_0 : pm_tb tX6_giveUp 0 = some (.aload_n 0, 1) := rfl
theorem tX6_giveUp_1 : pm_tb tX6_giveUp 1 = some (.getfield 35, 3) := rfl
theorem tX6_giveUp_4 : pm_tb tX6_giveUp 4 = some (.iload_n 1, 1) := rfl
theorem tX6_giveUp_5 : pm_tb tX6_giveUp 5 = some (.iconst 0, 1) := rfl
theorem tX6_giveUp_6 : pm_tb tX6_giveUp 6 = some (.iastore, 1) := rfl
theorem tX6_giveUp_7 : pm_tb tX6_giveUp 7 = some (.aload_n 0, 1) := rfl
theorem tX6_giveUp_8 : pm_tb tX6_giveUp 8 = some (.getfield 25, 3) := rfl
theorem tX6_giveUp_11 : pm_tb tX6_giveUp 11 = some (.iload_n 2, 1) := rfl
theorem tX6_giveUp_12 : pm_tb tX6_giveUp 12 = some (.iconst 3, 1) := rfl
theorem tX6_giveUp_13 : pm_tb tX6_giveUp 13 = some (.iastore, 1) := rfl
theorem tX6_giveUp_14 : pm_tb tX6_giveUp 14 = some (.aload_n 0, 1) := rfl
theorem tX6_giveUp_15 : pm_tb tX6_giveUp 15 = some (.getfield 29, 3) := rfl
theorem tX6_giveUp_18 : pm_tb tX6_giveUp 18 = some (.iload_n 2, 1) := rfl
theorem tX6_giveUp_19 : pm_tb tX6_giveUp 19 = some (.iload_n 3, 1) := rfl
theorem tX6_giveUp_20 : pm_tb tX6_giveUp 20 = some (.iastore, 1) := rfl
theorem tX6_giveUp_21 : pm_tb tX6_giveUp 21 = some (.aload_n 0, 1) := rfl
theorem tX6_giveUp_22 : pm_tb tX6_giveUp 22 = some (.dup, 1) := rfl
theorem tX6_giveUp_23 : pm_tb tX6_giveUp 23 = some (.getfield 61, 3) := rfl
theorem tX6_giveUp_26 : pm_tb tX6_giveUp 26 = some (.iconst 1, 1) := rfl
theorem tX6_giveUp_27 : pm_tb tX6_giveUp 27 = some (.iadd, 1) := rfl
theorem tX6_giveUp_28 : pm_tb tX6_giveUp 28 = some (.putfield 61, 3) := rfl
theorem tX6_giveUp_31 : pm_tb tX6_giveUp 31 = some (.aload_n 0, 1) := rfl
theorem tX6_giveUp_32 : pm_tb tX6_giveUp 32 = some (.getfield 21, 3) := rfl
theorem tX6_giveUp_35 : pm_tb tX6_giveUp 35 = some (.iload_n 2, 1) := rfl
theorem tX6_giveUp_36 : pm_tb tX6_giveUp 36 = some (.iload_n 3, 1) := rfl
theorem tX6_giveUp_37 : pm_tb tX6_giveUp 37 = some (.invokevirtual 151, 3) := rfl
theorem tX6_giveUp_40 : pm_tb tX6_giveUp 40 = some (.return_, 1) := rfl
theorem tX6_wakeThoseWaitingFor_0 : pm_tb tX6_wakeThoseWaitingFor 0 = some (.iconst 0, 1) := rfl
theorem tX6_wakeThoseWaitingFor_1 : pm_tb tX6_wakeThoseWaitingFor 1 = some (.istore_n 2, 1) := rfl
theorem tX6_wakeThoseWaitingFor_2 : pm_tb tX6_wakeThoseWaitingFor 2 = some (.iload_n 2, 1) := rfl
theorem tX6_wakeThoseWaitingFor_3 : pm_tb tX6_wakeThoseWaitingFor 3 = some (.aload_n 0, 1) := rfl
theorem tX6_wakeThoseWaitingFor_4 : pm_tb tX6_wakeThoseWaitingFor 4 = some (.getfield 12, 3) := rfl
theorem tX6_wakeThoseWaitingFor_7 : pm_tb tX6_wakeThoseWaitingFor 7 = some (.getfield 103, 3) := rfl
theorem tX6_wakeThoseWaitingFor_10 : pm_tb tX6_wakeThoseWaitingFor 10 = some (.if_icmp .ge 48, 3) := rfl
theorem tX6_wakeThoseWaitingFor_13 : pm_tb tX6_wakeThoseWaitingFor 13 = some (.aload_n 0, 1) := rfl
theorem tX6_wakeThoseWaitingFor_14 : pm_tb tX6_wakeThoseWaitingFor 14 = some (.getfield 25, 3) := rfl
theorem tX6_wakeThoseWaitingFor_17 : pm_tb tX6_wakeThoseWaitingFor 17 = some (.iload_n 2, 1) := rfl
theorem tX6_wakeThoseWaitingFor_18 : pm_tb tX6_wakeThoseWaitingFor 18 = some (.iaload, 1) := rfl
theorem tX6_wakeThoseWaitingFor_19 : pm_tb tX6_wakeThoseWaitingFor 19 = some (.iconst 3, 1) := rfl
theorem tX6_wakeThoseWaitingFor_20 : pm_tb tX6_wakeThoseWaitingFor 20 = some (.if_icmp .ne 32, 3) := rfl
theorem tX6_wakeThoseWaitingFor_23 : pm_tb tX6_wakeThoseWaitingFor 23 = some (.aload_n 0, 1) := rfl
theorem tX6_wakeThoseWaitingFor_24 : pm_tb tX6_wakeThoseWaitingFor 24 = some (.getfield 29, 3) := rfl
theorem tX6_wakeThoseWaitingFor_27 : pm_tb tX6_wakeThoseWaitingFor 27 = some (.iload_n 2, 1) := rfl
theorem tX6_wakeThoseWaitingFor_28 : pm_tb tX6_wakeThoseWaitingFor 28 = some (.iaload, 1) := rfl
theorem tX6_wakeThoseWaitingFor_29 : pm_tb tX6_wakeThoseWaitingFor 29 = some (.iload_n 1, 1) := rfl
theorem tX6_wakeThoseWaitingFor_30 : pm_tb tX6_wakeThoseWaitingFor 30 = some (.if_icmp .ne 22, 3) := rfl
theorem tX6_wakeThoseWaitingFor_33 : pm_tb tX6_wakeThoseWaitingFor 33 = some (.aload_n 0, 1) := rfl
theorem tX6_wakeThoseWaitingFor_34 : pm_tb tX6_wakeThoseWaitingFor 34 = some (.getfield 25, 3) := rfl
theorem tX6_wakeThoseWaitingFor_37 : pm_tb tX6_wakeThoseWaitingFor 37 = some (.iload_n 2, 1) := rfl
theorem tX6_wakeThoseWaitingFor_38 : pm_tb tX6_wakeThoseWaitingFor 38 = some (.iconst 0, 1) := rfl
theorem tX6_wakeThoseWaitingFor_39 : pm_tb tX6_wakeThoseWaitingFor 39 = some (.iastore, 1) := rfl
theorem tX6_wakeThoseWaitingFor_40 : pm_tb tX6_wakeThoseWaitingFor 40 = some (.aload_n 0, 1) := rfl
theorem tX6_wakeThoseWaitingFor_41 : pm_tb tX6_wakeThoseWaitingFor 41 = some (.aload_n 0, 1) := rfl
theorem tX6_wakeThoseWaitingFor_42 : pm_tb tX6_wakeThoseWaitingFor 42 = some (.getfield 74, 3) := rfl
theorem tX6_wakeThoseWaitingFor_45 : pm_tb tX6_wakeThoseWaitingFor 45 = some (.iload_n 2, 1) := rfl
theorem tX6_wakeThoseWaitingFor_46 : pm_tb tX6_wakeThoseWaitingFor 46 = some (.invokestatic 163, 3) := rfl
theorem tX6_wakeThoseWaitingFor_49 : pm_tb tX6_wakeThoseWaitingFor 49 = some (.putfield 74, 3) := rfl
theorem tX6_wakeThoseWaitingFor_52 : pm_tb tX6_wakeThoseWaitingFor 52 = some (.iinc 2 1, 3) := rfl
theorem tX6_wakeThoseWaitingFor_55 : pm_tb tX6_wakeThoseWaitingFor 55 = some (.goto (-53), 3) := rfl
theorem tX6_wakeThoseWaitingFor_58 : pm_tb tX6_wakeThoseWaitingFor 58 = some (.return_, 1) := rfl
theorem tX6_giveLook_0 : pm_tb tX6_giveLook 0 = some (.aload_n 0, 1) := rfl
theorem tX6_giveLook_1 : pm_tb tX6_giveLook 1 = some (.getfield 35, 3) := rfl
theorem tX6_giveLook_4 : pm_tb tX6_giveLook 4 = some (.iload_n 1, 1) := rfl
theorem tX6_giveLook_5 : pm_tb tX6_giveLook 5 = some (.iconst 2, 1) := rfl
theorem tX6_giveLook_6 : pm_tb tX6_giveLook 6 = some (.iastore, 1) := rfl
theorem tX6_giveLook_7 : pm_tb tX6_giveLook 7 = some (.aload_n 0, 1) := rfl
theorem tX6_giveLook_8 : pm_tb tX6_giveLook 8 = some (.getfield 38, 3) := rfl
theorem tX6_giveLook_11 : pm_tb tX6_giveLook 11 = some (.iload_n 1, 1) := rfl
theorem tX6_giveLook_12 : pm_tb tX6_giveLook 12 = some (.iload_n 2, 1) := rfl
theorem tX6_giveLook_13 : pm_tb tX6_giveLook 13 = some (.iastore, 1) := rfl
theorem tX6_giveLook_14 : pm_tb tX6_giveLook 14 = some (.aload_n 0, 1) := rfl
theorem tX6_giveLook_15 : pm_tb tX6_giveLook 15 = some (.getfield 41, 3) := rfl
theorem tX6_giveLook_18 : pm_tb tX6_giveLook 18 = some (.iload_n 1, 1) := rfl
theorem tX6_giveLook_19 : pm_tb tX6_giveLook 19 = some (.aload_n 0, 1) := rfl
theorem tX6_giveLook_20 : pm_tb tX6_giveLook 20 = some (.getfield 32, 3) := rfl
theorem tX6_giveLook_23 : pm_tb tX6_giveLook 23 = some (.iload_n 2, 1) := rfl
theorem tX6_giveLook_24 : pm_tb tX6_giveLook 24 = some (.iaload, 1) := rfl
theorem tX6_giveLook_25 : pm_tb tX6_giveLook 25 = some (.iastore, 1) := rfl
theorem tX6_giveLook_26 : pm_tb tX6_giveLook 26 = some (.return_, 1) := rfl
theorem tX6_end_0 : pm_tb tX6_end 0 = some (.aload_n 0, 1) := rfl
theorem tX6_end_1 : pm_tb tX6_end 1 = some (.getfield 35, 3) := rfl
theorem tX6_end_4 : pm_tb tX6_end 4 = some (.iload_n 1, 1) := rfl
theorem tX6_end_5 : pm_tb tX6_end 5 = some (.iconst 0, 1) := rfl
theorem tX6_end_6 : pm_tb tX6_end 6 = some (.iastore, 1) := rfl
theorem tX6_end_7 : pm_tb tX6_end 7 = some (.aload_n 0, 1) := rfl
theorem tX6_end_8 : pm_tb tX6_end 8 = some (.getfield 12, 3) := rfl
theorem tX6_end_11 : pm_tb tX6_end 11 = some (.getfield 132, 3) := rfl
theorem tX6_end_14 : pm_tb tX6_end 14 = some (.aload_n 0, 1) := rfl
theorem tX6_end_15 : pm_tb tX6_end 15 = some (.getfield 12, 3) := rfl
theorem tX6_end_18 : pm_tb tX6_end 18 = some (.getfield 123, 3) := rfl
theorem tX6_end_21 : pm_tb tX6_end 21 = some (.iload_n 2, 1) := rfl
theorem tX6_end_22 : pm_tb tX6_end 22 = some (.aaload, 1) := rfl
theorem tX6_end_23 : pm_tb tX6_end 23 = some (.aload_n 0, 1) := rfl
theorem tX6_end_24 : pm_tb tX6_end 24 = some (.getfield 32, 3) := rfl
theorem tX6_end_27 : pm_tb tX6_end 27 = some (.iload_n 2, 1) := rfl
theorem tX6_end_28 : pm_tb tX6_end 28 = some (.iaload, 1) := rfl
theorem tX6_end_29 : pm_tb tX6_end 29 = some (.invokevirtual 154, 3) := rfl
theorem tX6_end_32 : pm_tb tX6_end 32 = some (.istore_n 3, 1) := rfl
theorem tX6_end_33 : pm_tb tX6_end 33 = some (.aload_n 0, 1) := rfl
theorem tX6_end_34 : pm_tb tX6_end 34 = some (.getfield 25, 3) := rfl
theorem tX6_end_37 : pm_tb tX6_end 37 = some (.iload_n 2, 1) := rfl
theorem tX6_end_38 : pm_tb tX6_end 38 = some (.iconst 2, 1) := rfl
theorem tX6_end_39 : pm_tb tX6_end 39 = some (.iastore, 1) := rfl
theorem tX6_end_40 : pm_tb tX6_end 40 = some (.aload_n 0, 1) := rfl
theorem tX6_end_41 : pm_tb tX6_end 41 = some (.iload_n 2, 1) := rfl
theorem tX6_end_42 : pm_tb tX6_end 42 = some (.invokevirtual 160, 3) := rfl
theorem tX6_end_45 : pm_tb tX6_end 45 = some (.aload_n 0, 1) := rfl
theorem tX6_end_46 : pm_tb tX6_end 46 = some (.getfield 77, 3) := rfl
theorem tX6_end_49 : pm_tb tX6_end 49 = some (.iload_n 2, 1) := rfl
theorem tX6_end_50 : pm_tb tX6_end 50 = some (.if_icmp .le 21, 3) := rfl
theorem tX6_end_53 : pm_tb tX6_end 53 = some (.iload_n 3, 1) := rfl
theorem tX6_end_54 : pm_tb tX6_end 54 = some (.ifCond .eq 11, 3) := rfl
theorem tX6_end_57 : pm_tb tX6_end 57 = some (.aload_n 0, 1) := rfl
theorem tX6_end_58 : pm_tb tX6_end 58 = some (.iload_n 2, 1) := rfl
theorem tX6_end_59 : pm_tb tX6_end 59 = some (.putfield 77, 3) := rfl
theorem tX6_end_62 : pm_tb tX6_end 62 = some (.goto 9, 3) := rfl
theorem tX6_end_65 : pm_tb tX6_end 65 = some (.aload_n 0, 1) := rfl
theorem tX6_end_66 : pm_tb tX6_end 66 = some (.iload_n 1, 1) := rfl
theorem tX6_end_67 : pm_tb tX6_end 67 = some (.iload_n 2, 1) := rfl
theorem tX6_end_68 : pm_tb tX6_end 68 = some (.invokevirtual 116, 3) := rfl
theorem tX6_end_71 : pm_tb tX6_end 71 = some (.return_, 1) := rfl
theorem tX6_goOn_0 : pm_tb tX6_goOn 0 = some (.aload_n 0, 1) := rfl
theorem tX6_goOn_1 : pm_tb tX6_goOn 1 = some (.getfield 38, 3) := rfl
theorem tX6_goOn_4 : pm_tb tX6_goOn 4 = some (.iload_n 1, 1) := rfl
theorem tX6_goOn_5 : pm_tb tX6_goOn 5 = some (.iaload, 1) := rfl
theorem tX6_goOn_6 : pm_tb tX6_goOn 6 = some (.istore_n 3, 1) := rfl
theorem tX6_goOn_7 : pm_tb tX6_goOn 7 = some (.aload_n 0, 1) := rfl
theorem tX6_goOn_8 : pm_tb tX6_goOn 8 = some (.getfield 12, 3) := rfl
theorem tX6_goOn_11 : pm_tb tX6_goOn 11 = some (.getfield 123, 3) := rfl
theorem tX6_goOn_14 : pm_tb tX6_goOn 14 = some (.iload_n 3, 1) := rfl
theorem tX6_goOn_15 : pm_tb tX6_goOn 15 = some (.aaload, 1) := rfl
theorem tX6_goOn_16 : pm_tb tX6_goOn 16 = some (.astore 4, 2) := rfl
theorem tX6_goOn_18 : pm_tb tX6_goOn 18 = some (.aload 4, 2) := rfl
theorem tX6_goOn_20 : pm_tb tX6_goOn 20 = some (.aload_n 2, 1) := rfl
theorem tX6_goOn_21 : pm_tb tX6_goOn 21 = some (.aload_n 0, 1) := rfl
theorem tX6_goOn_22 : pm_tb tX6_goOn 22 = some (.getfield 12, 3) := rfl
theorem tX6_goOn_25 : pm_tb tX6_goOn 25 = some (.getfield 132, 3) := rfl
theorem tX6_goOn_28 : pm_tb tX6_goOn 28 = some (.invokevirtual 136, 3) := rfl
theorem tX6_goOn_31 : pm_tb tX6_goOn 31 = some (.istore 5, 2) := rfl
theorem tX6_goOn_33 : pm_tb tX6_goOn 33 = some (.iload 5, 2) := rfl
theorem tX6_goOn_35 : pm_tb tX6_goOn 35 = some (.iconst (-1), 1) := rfl
theorem tX6_goOn_36 : pm_tb tX6_goOn 36 = some (.if_icmp .eq 14, 3) := rfl
theorem tX6_goOn_39 : pm_tb tX6_goOn 39 = some (.aload_n 0, 1) := rfl
theorem tX6_goOn_40 : pm_tb tX6_goOn 40 = some (.iload_n 1, 1) := rfl
theorem tX6_goOn_41 : pm_tb tX6_goOn 41 = some (.iload_n 3, 1) := rfl
theorem tX6_goOn_42 : pm_tb tX6_goOn 42 = some (.iload 5, 2) := rfl
theorem tX6_goOn_44 : pm_tb tX6_goOn 44 = some (.invokevirtual 140, 3) := rfl
theorem tX6_goOn_47 : pm_tb tX6_goOn 47 = some (.goto 18, 3) := rfl
theorem tX6_goOn_50 : pm_tb tX6_goOn 50 = some (.aload 4, 2) := rfl
theorem tX6_goOn_52 : pm_tb tX6_goOn 52 = some (.aload_n 2, 1) := rfl
theorem tX6_goOn_53 : pm_tb tX6_goOn 53 = some (.invokevirtual 144, 3) := rfl
theorem tX6_goOn_56 : pm_tb tX6_goOn 56 = some (.ifCond .eq 9, 3) := rfl
theorem tX6_goOn_59 : pm_tb tX6_goOn 59 = some (.aload_n 0, 1) := rfl
theorem tX6_goOn_60 : pm_tb tX6_goOn 60 = some (.iload_n 1, 1) := rfl
theorem tX6_goOn_61 : pm_tb tX6_goOn 61 = some (.iload_n 3, 1) := rfl
theorem tX6_goOn_62 : pm_tb tX6_goOn 62 = some (.invokevirtual 148, 3) := rfl
theorem tX6_goOn_65 : pm_tb tX6_goOn 65 = some (.return_, 1) := rfl
theorem tX6_undo_0 : pm_tb tX6_undo 0 = some (.aload_n 0, 1) := rfl
theorem tX6_undo_1 : pm_tb tX6_undo 1 = some (.dup, 1) := rfl
theorem tX6_undo_2 : pm_tb tX6_undo 2 = some (.getfield 58, 3) := rfl
theorem tX6_undo_5 : pm_tb tX6_undo 5 = some (.iconst 1, 1) := rfl
theorem tX6_undo_6 : pm_tb tX6_undo 6 = some (.iadd, 1) := rfl
theorem tX6_undo_7 : pm_tb tX6_undo 7 = some (.putfield 58, 3) := rfl
theorem tX6_undo_10 : pm_tb tX6_undo 10 = some (.aload_n 0, 1) := rfl
theorem tX6_undo_11 : pm_tb tX6_undo 11 = some (.getfield 12, 3) := rfl
theorem tX6_undo_14 : pm_tb tX6_undo 14 = some (.getfield 132, 3) := rfl
theorem tX6_undo_17 : pm_tb tX6_undo 17 = some (.iload_n 1, 1) := rfl
theorem tX6_undo_18 : pm_tb tX6_undo 18 = some (.invokevirtual 179, 3) := rfl
theorem tX6_undo_21 : pm_tb tX6_undo 21 = some (.aload_n 0, 1) := rfl
theorem tX6_undo_22 : pm_tb tX6_undo 22 = some (.getfield 32, 3) := rfl
theorem tX6_undo_25 : pm_tb tX6_undo 25 = some (.iload_n 1, 1) := rfl
theorem tX6_undo_26 : pm_tb tX6_undo 26 = some (.dup2, 1) := rfl
theorem tX6_undo_27 : pm_tb tX6_undo 27 = some (.iaload, 1) := rfl
theorem tX6_undo_28 : pm_tb tX6_undo 28 = some (.iconst 1, 1) := rfl
theorem tX6_undo_29 : pm_tb tX6_undo 29 = some (.iadd, 1) := rfl
theorem tX6_undo_30 : pm_tb tX6_undo 30 = some (.iastore, 1) := rfl
theorem tX6_undo_31 : pm_tb tX6_undo 31 = some (.aload_n 0, 1) := rfl
theorem tX6_undo_32 : pm_tb tX6_undo 32 = some (.getfield 25, 3) := rfl
theorem tX6_undo_35 : pm_tb tX6_undo 35 = some (.iload_n 1, 1) := rfl
theorem tX6_undo_36 : pm_tb tX6_undo 36 = some (.iconst 0, 1) := rfl
theorem tX6_undo_37 : pm_tb tX6_undo 37 = some (.iastore, 1) := rfl
theorem tX6_undo_38 : pm_tb tX6_undo 38 = some (.aload_n 0, 1) := rfl
theorem tX6_undo_39 : pm_tb tX6_undo 39 = some (.aload_n 0, 1) := rfl
theorem tX6_undo_40 : pm_tb tX6_undo 40 = some (.getfield 77, 3) := rfl
theorem tX6_undo_43 : pm_tb tX6_undo 43 = some (.iload_n 1, 1) := rfl
theorem tX6_undo_44 : pm_tb tX6_undo 44 = some (.iconst 1, 1) := rfl
theorem tX6_undo_45 : pm_tb tX6_undo 45 = some (.iadd, 1) := rfl
theorem tX6_undo_46 : pm_tb tX6_undo 46 = some (.invokestatic 163, 3) := rfl
theorem tX6_undo_49 : pm_tb tX6_undo 49 = some (.putfield 77, 3) := rfl
theorem tX6_undo_52 : pm_tb tX6_undo 52 = some (.aload_n 0, 1) := rfl
theorem tX6_undo_53 : pm_tb tX6_undo 53 = some (.aload_n 0, 1) := rfl
theorem tX6_undo_54 : pm_tb tX6_undo 54 = some (.getfield 32, 3) := rfl
theorem tX6_undo_57 : pm_tb tX6_undo 57 = some (.iload_n 1, 1) := rfl
theorem tX6_undo_58 : pm_tb tX6_undo 58 = some (.iaload, 1) := rfl
theorem tX6_undo_59 : pm_tb tX6_undo 59 = some (.aload_n 0, 1) := rfl
theorem tX6_undo_60 : pm_tb tX6_undo 60 = some (.getfield 71, 3) := rfl
theorem tX6_undo_63 : pm_tb tX6_undo 63 = some (.if_icmp .lt 7, 3) := rfl
theorem tX6_undo_66 : pm_tb tX6_undo 66 = some (.iconst 1, 1) := rfl
theorem tX6_undo_67 : pm_tb tX6_undo 67 = some (.goto 4, 3) := rfl
theorem tX6_undo_70 : pm_tb tX6_undo 70 = some (.iconst 0, 1) := rfl
theorem tX6_undo_71 : pm_tb tX6_undo 71 = some (.putfield 64, 3) := rfl
theorem tX6_undo_74 : pm_tb tX6_undo 74 = some (.return_, 1) := rfl
theorem tX6_giveRun_0 : pm_tb tX6_giveRun 0 = some (.aload_n 0, 1) := rfl
theorem tX6_giveRun_1 : pm_tb tX6_giveRun 1 = some (.getfield 35, 3) := rfl
theorem tX6_giveRun_4 : pm_tb tX6_giveRun 4 = some (.iload_n 1, 1) := rfl
theorem tX6_giveRun_5 : pm_tb tX6_giveRun 5 = some (.iconst 1, 1) := rfl
theorem tX6_giveRun_6 : pm_tb tX6_giveRun 6 = some (.iastore, 1) := rfl
theorem tX6_giveRun_7 : pm_tb tX6_giveRun 7 = some (.aload_n 0, 1) := rfl
theorem tX6_giveRun_8 : pm_tb tX6_giveRun 8 = some (.getfield 38, 3) := rfl
theorem tX6_giveRun_11 : pm_tb tX6_giveRun 11 = some (.iload_n 1, 1) := rfl
theorem tX6_giveRun_12 : pm_tb tX6_giveRun 12 = some (.iload_n 2, 1) := rfl
theorem tX6_giveRun_13 : pm_tb tX6_giveRun 13 = some (.iastore, 1) := rfl
theorem tX6_giveRun_14 : pm_tb tX6_giveRun 14 = some (.aload_n 0, 1) := rfl
theorem tX6_giveRun_15 : pm_tb tX6_giveRun 15 = some (.getfield 25, 3) := rfl
theorem tX6_giveRun_18 : pm_tb tX6_giveRun 18 = some (.iload_n 2, 1) := rfl
theorem tX6_giveRun_19 : pm_tb tX6_giveRun 19 = some (.iconst 1, 1) := rfl
theorem tX6_giveRun_20 : pm_tb tX6_giveRun 20 = some (.iastore, 1) := rfl
theorem tX6_giveRun_21 : pm_tb tX6_giveRun 21 = some (.aload_n 0, 1) := rfl
theorem tX6_giveRun_22 : pm_tb tX6_giveRun 22 = some (.getfield 12, 3) := rfl
theorem tX6_giveRun_25 : pm_tb tX6_giveRun 25 = some (.getfield 123, 3) := rfl
theorem tX6_giveRun_28 : pm_tb tX6_giveRun 28 = some (.iload_n 2, 1) := rfl
theorem tX6_giveRun_29 : pm_tb tX6_giveRun 29 = some (.aaload, 1) := rfl
theorem tX6_giveRun_30 : pm_tb tX6_giveRun 30 = some (.invokevirtual 127, 3) := rfl
theorem tX6_giveRun_33 : pm_tb tX6_giveRun 33 = some (.return_, 1) := rfl
theorem tX6_look_0 : pm_tb tX6_look 0 = some (.aload_n 0, 1) := rfl
theorem tX6_look_1 : pm_tb tX6_look 1 = some (.getfield 38, 3) := rfl
theorem tX6_look_4 : pm_tb tX6_look 4 = some (.iload_n 1, 1) := rfl
theorem tX6_look_5 : pm_tb tX6_look 5 = some (.iaload, 1) := rfl
theorem tX6_look_6 : pm_tb tX6_look 6 = some (.istore_n 2, 1) := rfl
theorem tX6_look_7 : pm_tb tX6_look 7 = some (.aload_n 0, 1) := rfl
theorem tX6_look_8 : pm_tb tX6_look 8 = some (.getfield 35, 3) := rfl
theorem tX6_look_11 : pm_tb tX6_look 11 = some (.iload_n 1, 1) := rfl
theorem tX6_look_12 : pm_tb tX6_look 12 = some (.iconst 0, 1) := rfl
theorem tX6_look_13 : pm_tb tX6_look 13 = some (.iastore, 1) := rfl
theorem tX6_look_14 : pm_tb tX6_look 14 = some (.aload_n 0, 1) := rfl
theorem tX6_look_15 : pm_tb tX6_look 15 = some (.dup, 1) := rfl
theorem tX6_look_16 : pm_tb tX6_look 16 = some (.getfield 55, 3) := rfl
theorem tX6_look_19 : pm_tb tX6_look 19 = some (.iconst 1, 1) := rfl
theorem tX6_look_20 : pm_tb tX6_look 20 = some (.iadd, 1) := rfl
theorem tX6_look_21 : pm_tb tX6_look 21 = some (.putfield 55, 3) := rfl
theorem tX6_look_24 : pm_tb tX6_look 24 = some (.aload_n 0, 1) := rfl
theorem tX6_look_25 : pm_tb tX6_look 25 = some (.getfield 25, 3) := rfl
theorem tX6_look_28 : pm_tb tX6_look 28 = some (.iload_n 2, 1) := rfl
theorem tX6_look_29 : pm_tb tX6_look 29 = some (.iaload, 1) := rfl
theorem tX6_look_30 : pm_tb tX6_look 30 = some (.iconst 2, 1) := rfl
theorem tX6_look_31 : pm_tb tX6_look 31 = some (.if_icmp .ne 18, 3) := rfl
theorem tX6_look_34 : pm_tb tX6_look 34 = some (.aload_n 0, 1) := rfl
theorem tX6_look_35 : pm_tb tX6_look 35 = some (.getfield 32, 3) := rfl
theorem tX6_look_38 : pm_tb tX6_look 38 = some (.iload_n 2, 1) := rfl
theorem tX6_look_39 : pm_tb tX6_look 39 = some (.iaload, 1) := rfl
theorem tX6_look_40 : pm_tb tX6_look 40 = some (.aload_n 0, 1) := rfl
theorem tX6_look_41 : pm_tb tX6_look 41 = some (.getfield 41, 3) := rfl
theorem tX6_look_44 : pm_tb tX6_look 44 = some (.iload_n 1, 1) := rfl
theorem tX6_look_45 : pm_tb tX6_look 45 = some (.iaload, 1) := rfl
theorem tX6_look_46 : pm_tb tX6_look 46 = some (.if_icmp .eq 4, 3) := rfl
theorem tX6_look_49 : pm_tb tX6_look 49 = some (.return_, 1) := rfl
theorem tX6_look_50 : pm_tb tX6_look 50 = some (.aload_n 0, 1) := rfl
theorem tX6_look_51 : pm_tb tX6_look 51 = some (.getfield 12, 3) := rfl
theorem tX6_look_54 : pm_tb tX6_look 54 = some (.getfield 123, 3) := rfl
theorem tX6_look_57 : pm_tb tX6_look 57 = some (.iload_n 2, 1) := rfl
theorem tX6_look_58 : pm_tb tX6_look 58 = some (.aaload, 1) := rfl
theorem tX6_look_59 : pm_tb tX6_look 59 = some (.aload_n 0, 1) := rfl
theorem tX6_look_60 : pm_tb tX6_look 60 = some (.getfield 12, 3) := rfl
theorem tX6_look_63 : pm_tb tX6_look 63 = some (.getfield 132, 3) := rfl
theorem tX6_look_66 : pm_tb tX6_look 66 = some (.invokevirtual 169, 3) := rfl
theorem tX6_look_69 : pm_tb tX6_look 69 = some (.istore_n 3, 1) := rfl
theorem tX6_look_70 : pm_tb tX6_look 70 = some (.iload_n 3, 1) := rfl
theorem tX6_look_71 : pm_tb tX6_look 71 = some (.iconst (-1), 1) := rfl
theorem tX6_look_72 : pm_tb tX6_look 72 = some (.if_icmp .eq 49, 3) := rfl
theorem tX6_look_75 : pm_tb tX6_look 75 = some (.aload_n 0, 1) := rfl
theorem tX6_look_76 : pm_tb tX6_look 76 = some (.getfield 21, 3) := rfl
theorem tX6_look_79 : pm_tb tX6_look 79 = some (.iload_n 2, 1) := rfl
theorem tX6_look_80 : pm_tb tX6_look 80 = some (.aload_n 0, 1) := rfl
theorem tX6_look_81 : pm_tb tX6_look 81 = some (.getfield 12, 3) := rfl
theorem tX6_look_84 : pm_tb tX6_look 84 = some (.getfield 132, 3) := rfl
theorem tX6_look_87 : pm_tb tX6_look 87 = some (.iload_n 3, 1) := rfl
theorem tX6_look_88 : pm_tb tX6_look 88 = some (.iload_n 2, 1) := rfl
theorem tX6_look_89 : pm_tb tX6_look 89 = some (.invokevirtual 173, 3) := rfl
theorem tX6_look_92 : pm_tb tX6_look 92 = some (.invokevirtual 151, 3) := rfl
theorem tX6_look_95 : pm_tb tX6_look 95 = some (.aload_n 0, 1) := rfl
theorem tX6_look_96 : pm_tb tX6_look 96 = some (.iload_n 2, 1) := rfl
theorem tX6_look_97 : pm_tb tX6_look 97 = some (.invokevirtual 176, 3) := rfl
theorem tX6_look_100 : pm_tb tX6_look 100 = some (.aload_n 0, 1) := rfl
theorem tX6_look_101 : pm_tb tX6_look 101 = some (.getfield 64, 3) := rfl
theorem tX6_look_104 : pm_tb tX6_look 104 = some (.ifCond .ne 17, 3) := rfl
theorem tX6_look_107 : pm_tb tX6_look 107 = some (.aload_n 0, 1) := rfl
theorem tX6_look_108 : pm_tb tX6_look 108 = some (.getfield 74, 3) := rfl
theorem tX6_look_111 : pm_tb tX6_look 111 = some (.iload_n 2, 1) := rfl
theorem tX6_look_112 : pm_tb tX6_look 112 = some (.if_icmp .le 9, 3) := rfl
theorem tX6_look_115 : pm_tb tX6_look 115 = some (.aload_n 0, 1) := rfl
theorem tX6_look_116 : pm_tb tX6_look 116 = some (.iload_n 1, 1) := rfl
theorem tX6_look_117 : pm_tb tX6_look 117 = some (.iload_n 2, 1) := rfl
theorem tX6_look_118 : pm_tb tX6_look 118 = some (.invokevirtual 120, 3) := rfl
theorem tX6_look_121 : pm_tb tX6_look 121 = some (.return_, 1) := rfl
theorem tX6_takeTask_0 : pm_tb tX6_takeTask 0 = some (.aload_n 0, 1) := rfl
theorem tX6_takeTask_1 : pm_tb tX6_takeTask 1 = some (.getfield 77, 3) := rfl
theorem tX6_takeTask_4 : pm_tb tX6_takeTask 4 = some (.aload_n 0, 1) := rfl
theorem tX6_takeTask_5 : pm_tb tX6_takeTask 5 = some (.getfield 74, 3) := rfl
theorem tX6_takeTask_8 : pm_tb tX6_takeTask 8 = some (.if_icmp .ge 37, 3) := rfl
theorem tX6_takeTask_11 : pm_tb tX6_takeTask 11 = some (.aload_n 0, 1) := rfl
theorem tX6_takeTask_12 : pm_tb tX6_takeTask 12 = some (.getfield 77, 3) := rfl
theorem tX6_takeTask_15 : pm_tb tX6_takeTask 15 = some (.istore_n 2, 1) := rfl
theorem tX6_takeTask_16 : pm_tb tX6_takeTask 16 = some (.aload_n 0, 1) := rfl
theorem tX6_takeTask_17 : pm_tb tX6_takeTask 17 = some (.dup, 1) := rfl
theorem tX6_takeTask_18 : pm_tb tX6_takeTask 18 = some (.getfield 77, 3) := rfl
theorem tX6_takeTask_21 : pm_tb tX6_takeTask 21 = some (.iconst 1, 1) := rfl
theorem tX6_takeTask_22 : pm_tb tX6_takeTask 22 = some (.iadd, 1) := rfl
theorem tX6_takeTask_23 : pm_tb tX6_takeTask 23 = some (.putfield 77, 3) := rfl
theorem tX6_takeTask_26 : pm_tb tX6_takeTask 26 = some (.aload_n 0, 1) := rfl
theorem tX6_takeTask_27 : pm_tb tX6_takeTask 27 = some (.getfield 25, 3) := rfl
theorem tX6_takeTask_30 : pm_tb tX6_takeTask 30 = some (.iload_n 2, 1) := rfl
theorem tX6_takeTask_31 : pm_tb tX6_takeTask 31 = some (.iaload, 1) := rfl
theorem tX6_takeTask_32 : pm_tb tX6_takeTask 32 = some (.iconst 2, 1) := rfl
theorem tX6_takeTask_33 : pm_tb tX6_takeTask 33 = some (.if_icmp .ne 9, 3) := rfl
theorem tX6_takeTask_36 : pm_tb tX6_takeTask 36 = some (.aload_n 0, 1) := rfl
theorem tX6_takeTask_37 : pm_tb tX6_takeTask 37 = some (.iload_n 1, 1) := rfl
theorem tX6_takeTask_38 : pm_tb tX6_takeTask 38 = some (.iload_n 2, 1) := rfl
theorem tX6_takeTask_39 : pm_tb tX6_takeTask 39 = some (.invokevirtual 116, 3) := rfl
theorem tX6_takeTask_42 : pm_tb tX6_takeTask 42 = some (.goto 47, 3) := rfl
theorem tX6_takeTask_45 : pm_tb tX6_takeTask 45 = some (.aload_n 0, 1) := rfl
theorem tX6_takeTask_46 : pm_tb tX6_takeTask 46 = some (.getfield 74, 3) := rfl
theorem tX6_takeTask_49 : pm_tb tX6_takeTask 49 = some (.aload_n 0, 1) := rfl
theorem tX6_takeTask_50 : pm_tb tX6_takeTask 50 = some (.getfield 12, 3) := rfl
theorem tX6_takeTask_53 : pm_tb tX6_takeTask 53 = some (.getfield 103, 3) := rfl
theorem tX6_takeTask_56 : pm_tb tX6_takeTask 56 = some (.if_icmp .ge 33, 3) := rfl
theorem tX6_takeTask_59 : pm_tb tX6_takeTask 59 = some (.aload_n 0, 1) := rfl
theorem tX6_takeTask_60 : pm_tb tX6_takeTask 60 = some (.getfield 74, 3) := rfl
theorem tX6_takeTask_63 : pm_tb tX6_takeTask 63 = some (.istore_n 2, 1) := rfl
theorem tX6_takeTask_64 : pm_tb tX6_takeTask 64 = some (.aload_n 0, 1) := rfl
theorem tX6_takeTask_65 : pm_tb tX6_takeTask 65 = some (.dup, 1) := rfl
theorem tX6_takeTask_66 : pm_tb tX6_takeTask 66 = some (.getfield 74, 3) := rfl
theorem tX6_takeTask_69 : pm_tb tX6_takeTask 69 = some (.iconst 1, 1) := rfl
theorem tX6_takeTask_70 : pm_tb tX6_takeTask 70 = some (.iadd, 1) := rfl
theorem tX6_takeTask_71 : pm_tb tX6_takeTask 71 = some (.putfield 74, 3) := rfl
theorem tX6_takeTask_74 : pm_tb tX6_takeTask 74 = some (.aload_n 0, 1) := rfl
theorem tX6_takeTask_75 : pm_tb tX6_takeTask 75 = some (.getfield 25, 3) := rfl
theorem tX6_takeTask_78 : pm_tb tX6_takeTask 78 = some (.iload_n 2, 1) := rfl
theorem tX6_takeTask_79 : pm_tb tX6_takeTask 79 = some (.iaload, 1) := rfl
theorem tX6_takeTask_80 : pm_tb tX6_takeTask 80 = some (.ifCond .ne 9, 3) := rfl
theorem tX6_takeTask_83 : pm_tb tX6_takeTask 83 = some (.aload_n 0, 1) := rfl
theorem tX6_takeTask_84 : pm_tb tX6_takeTask 84 = some (.iload_n 1, 1) := rfl
theorem tX6_takeTask_85 : pm_tb tX6_takeTask 85 = some (.iload_n 2, 1) := rfl
theorem tX6_takeTask_86 : pm_tb tX6_takeTask 86 = some (.invokevirtual 120, 3) := rfl
theorem tX6_takeTask_89 : pm_tb tX6_takeTask 89 = some (.return_, 1) := rfl
theorem tX6_step_0 : pm_tb tX6_step 0 = some (.aload_n 0, 1) := rfl
theorem tX6_step_1 : pm_tb tX6_step 1 = some (.getfield 35, 3) := rfl
theorem tX6_step_4 : pm_tb tX6_step 4 = some (.iload_n 1, 1) := rfl
theorem tX6_step_5 : pm_tb tX6_step 5 = some (.iaload, 1) := rfl
theorem tX6_step_6 : pm_tb tX6_step 6 = some (.lookupswitch 43 #[(1, 26), (2, 35)], 26) := rfl
theorem tX6_step_32 : pm_tb tX6_step 32 = some (.aload_n 0, 1) := rfl
theorem tX6_step_33 : pm_tb tX6_step 33 = some (.iload_n 1, 1) := rfl
theorem tX6_step_34 : pm_tb tX6_step 34 = some (.aload_n 2, 1) := rfl
theorem tX6_step_35 : pm_tb tX6_step 35 = some (.invokevirtual 106, 3) := rfl
theorem tX6_step_38 : pm_tb tX6_step 38 = some (.goto 16, 3) := rfl
theorem tX6_step_41 : pm_tb tX6_step 41 = some (.aload_n 0, 1) := rfl
theorem tX6_step_42 : pm_tb tX6_step 42 = some (.iload_n 1, 1) := rfl
theorem tX6_step_43 : pm_tb tX6_step 43 = some (.invokevirtual 109, 3) := rfl
theorem tX6_step_46 : pm_tb tX6_step 46 = some (.goto 8, 3) := rfl
theorem tX6_step_49 : pm_tb tX6_step 49 = some (.aload_n 0, 1) := rfl
theorem tX6_step_50 : pm_tb tX6_step 50 = some (.iload_n 1, 1) := rfl
theorem tX6_step_51 : pm_tb tX6_step 51 = some (.invokevirtual 113, 3) := rfl
theorem tX6_step_54 : pm_tb tX6_step 54 = some (.return_, 1) := rfl
theorem tX6_work_0 : pm_tb tX6_work 0 = some (.iload_n 2, 1) := rfl
theorem tX6_work_1 : pm_tb tX6_work 1 = some (.istore_n 3, 1) := rfl
theorem tX6_work_2 : pm_tb tX6_work 2 = some (.aload_n 0, 1) := rfl
theorem tX6_work_3 : pm_tb tX6_work 3 = some (.getfield 52, 3) := rfl
theorem tX6_work_6 : pm_tb tX6_work 6 = some (.ldc 86, 2) := rfl
theorem tX6_work_8 : pm_tb tX6_work 8 = some (.if_icmp .ge 60, 3) := rfl
theorem tX6_work_11 : pm_tb tX6_work 11 = some (.aload_n 0, 1) := rfl
theorem tX6_work_12 : pm_tb tX6_work 12 = some (.getfield 68, 3) := rfl
theorem tX6_work_15 : pm_tb tX6_work 15 = some (.ifCond .le 53, 3) := rfl
theorem tX6_work_18 : pm_tb tX6_work 18 = some (.aload_n 0, 1) := rfl
theorem tX6_work_19 : pm_tb tX6_work 19 = some (.getfield 64, 3) := rfl
theorem tX6_work_22 : pm_tb tX6_work 22 = some (.ifCond .ne 46, 3) := rfl
theorem tX6_work_25 : pm_tb tX6_work 25 = some (.aload_n 0, 1) := rfl
theorem tX6_work_26 : pm_tb tX6_work 26 = some (.invokevirtual 87, 3) := rfl
theorem tX6_work_29 : pm_tb tX6_work 29 = some (.ifCond .ne 39, 3) := rfl
theorem tX6_work_32 : pm_tb tX6_work 32 = some (.aload_n 0, 1) := rfl
theorem tX6_work_33 : pm_tb tX6_work 33 = some (.dup, 1) := rfl
theorem tX6_work_34 : pm_tb tX6_work 34 = some (.getfield 52, 3) := rfl
theorem tX6_work_37 : pm_tb tX6_work 37 = some (.iconst 1, 1) := rfl
theorem tX6_work_38 : pm_tb tX6_work 38 = some (.iadd, 1) := rfl
theorem tX6_work_39 : pm_tb tX6_work 39 = some (.putfield 52, 3) := rfl
theorem tX6_work_42 : pm_tb tX6_work 42 = some (.iload_n 3, 1) := rfl
theorem tX6_work_43 : pm_tb tX6_work 43 = some (.ldc 91, 2) := rfl
theorem tX6_work_45 : pm_tb tX6_work 45 = some (.imul, 1) := rfl
theorem tX6_work_46 : pm_tb tX6_work 46 = some (.sipush 12345, 3) := rfl
theorem tX6_work_49 : pm_tb tX6_work 49 = some (.iadd, 1) := rfl
theorem tX6_work_50 : pm_tb tX6_work 50 = some (.istore_n 3, 1) := rfl
theorem tX6_work_51 : pm_tb tX6_work 51 = some (.aload_n 0, 1) := rfl
theorem tX6_work_52 : pm_tb tX6_work 52 = some (.iload_n 3, 1) := rfl
theorem tX6_work_53 : pm_tb tX6_work 53 = some (.bipush 16, 2) := rfl
theorem tX6_work_55 : pm_tb tX6_work 55 = some (.iushr, 1) := rfl
theorem tX6_work_56 : pm_tb tX6_work 56 = some (.aload_n 0, 1) := rfl
theorem tX6_work_57 : pm_tb tX6_work 57 = some (.getfield 68, 3) := rfl
theorem tX6_work_60 : pm_tb tX6_work 60 = some (.irem, 1) := rfl
theorem tX6_work_61 : pm_tb tX6_work 61 = some (.aload_n 1, 1) := rfl
theorem tX6_work_62 : pm_tb tX6_work 62 = some (.invokevirtual 92, 3) := rfl
theorem tX6_work_65 : pm_tb tX6_work 65 = some (.goto (-63), 3) := rfl
theorem tX6_work_68 : pm_tb tX6_work 68 = some (.aload_n 0, 1) := rfl
theorem tX6_work_69 : pm_tb tX6_work 69 = some (.getfield 64, 3) := rfl
theorem tX6_work_72 : pm_tb tX6_work 72 = some (.ifCond .eq 11, 3) := rfl
theorem tX6_work_75 : pm_tb tX6_work 75 = some (.aload_n 0, 1) := rfl
theorem tX6_work_76 : pm_tb tX6_work 76 = some (.getfield 12, 3) := rfl
theorem tX6_work_79 : pm_tb tX6_work 79 = some (.aload_n 1, 1) := rfl
theorem tX6_work_80 : pm_tb tX6_work 80 = some (.invokevirtual 96, 3) := rfl
theorem tX6_work_83 : pm_tb tX6_work 83 = some (.aload_n 0, 1) := rfl
theorem tX6_work_84 : pm_tb tX6_work 84 = some (.getfield 12, 3) := rfl
theorem tX6_work_87 : pm_tb tX6_work 87 = some (.invokevirtual 100, 3) := rfl
theorem tX6_work_90 : pm_tb tX6_work 90 = some (.return_, 1) := rfl
theorem tX6_tell_0 : pm_tb tX6_tell 0 = some (.iload_n 1, 1) := rfl
theorem tX6_tell_1 : pm_tb tX6_tell 1 = some (.tableswitch 104 0 7 #[47, 52, 65, 70, 75, 80, 88, 96], 47) := rfl
theorem tX6_tell_48 : pm_tb tX6_tell 48 = some (.aload_n 0, 1) := rfl
theorem tX6_tell_49 : pm_tb tX6_tell 49 = some (.getfield 52, 3) := rfl
theorem tX6_tell_52 : pm_tb tX6_tell 52 = some (.ireturn, 1) := rfl
theorem tX6_tell_53 : pm_tb tX6_tell 53 = some (.aload_n 0, 1) := rfl
theorem tX6_tell_54 : pm_tb tX6_tell 54 = some (.getfield 64, 3) := rfl
theorem tX6_tell_57 : pm_tb tX6_tell 57 = some (.ifCond .eq 7, 3) := rfl
theorem tX6_tell_60 : pm_tb tX6_tell 60 = some (.iconst 1, 1) := rfl
theorem tX6_tell_61 : pm_tb tX6_tell 61 = some (.goto 4, 3) := rfl
theorem tX6_tell_64 : pm_tb tX6_tell 64 = some (.iconst 0, 1) := rfl
theorem tX6_tell_65 : pm_tb tX6_tell 65 = some (.ireturn, 1) := rfl
theorem tX6_tell_66 : pm_tb tX6_tell 66 = some (.aload_n 0, 1) := rfl
theorem tX6_tell_67 : pm_tb tX6_tell 67 = some (.getfield 55, 3) := rfl
theorem tX6_tell_70 : pm_tb tX6_tell 70 = some (.ireturn, 1) := rfl
theorem tX6_tell_71 : pm_tb tX6_tell 71 = some (.aload_n 0, 1) := rfl
theorem tX6_tell_72 : pm_tb tX6_tell 72 = some (.getfield 58, 3) := rfl
theorem tX6_tell_75 : pm_tb tX6_tell 75 = some (.ireturn, 1) := rfl
theorem tX6_tell_76 : pm_tb tX6_tell 76 = some (.aload_n 0, 1) := rfl
theorem tX6_tell_77 : pm_tb tX6_tell 77 = some (.getfield 61, 3) := rfl
theorem tX6_tell_80 : pm_tb tX6_tell 80 = some (.ireturn, 1) := rfl
theorem tX6_tell_81 : pm_tb tX6_tell 81 = some (.aload_n 0, 1) := rfl
theorem tX6_tell_82 : pm_tb tX6_tell 82 = some (.getfield 12, 3) := rfl
theorem tX6_tell_85 : pm_tb tX6_tell 85 = some (.invokevirtual 182, 3) := rfl
theorem tX6_tell_88 : pm_tb tX6_tell 88 = some (.ireturn, 1) := rfl
theorem tX6_tell_89 : pm_tb tX6_tell 89 = some (.aload_n 0, 1) := rfl
theorem tX6_tell_90 : pm_tb tX6_tell 90 = some (.getfield 12, 3) := rfl
theorem tX6_tell_93 : pm_tb tX6_tell 93 = some (.invokevirtual 186, 3) := rfl
theorem tX6_tell_96 : pm_tb tX6_tell 96 = some (.ireturn, 1) := rfl
theorem tX6_tell_97 : pm_tb tX6_tell 97 = some (.aload_n 0, 1) := rfl
theorem tX6_tell_98 : pm_tb tX6_tell 98 = some (.getfield 12, 3) := rfl
theorem tX6_tell_101 : pm_tb tX6_tell 101 = some (.getfield 103, 3) := rfl
theorem tX6_tell_104 : pm_tb tX6_tell 104 = some (.ireturn, 1) := rfl
theorem tX6_tell_105 : pm_tb tX6_tell 105 = some (.iconst (-1), 1) := rfl
theorem tX6_tell_106 : pm_tb tX6_tell 106 = some (.ireturn, 1) := rfl
theorem tX7_call_0 : pm_tb tX7_call 0 = some (.aload_n 0, 1) := rfl
theorem tX7_call_1 : pm_tb tX7_call 1 = some (.getfield 16, 3) := rfl
theorem tX7_call_4 : pm_tb tX7_call 4 = some (.invokevirtual 38, 3) := rfl
theorem tX7_call_7 : pm_tb tX7_call 7 = some (.ireturn, 1) := rfl
theorem tX7_act_0 : pm_tb tX7_act 0 = some (.iload_n 2, 1) := rfl
theorem tX7_act_1 : pm_tb tX7_act 1 = some (.iload_n 3, 1) := rfl
theorem tX7_act_2 : pm_tb tX7_act 2 = some (.iload 4, 2) := rfl
theorem tX7_act_4 : pm_tb tX7_act 4 = some (.lload 5, 2) := rfl
theorem tX7_act_6 : pm_tb tX7_act 6 = some (.invokestatic 42, 3) := rfl
theorem tX7_act_9 : pm_tb tX7_act 9 = some (.ifCond .ne 5, 3) := rfl
theorem tX7_act_12 : pm_tb tX7_act 12 = some (.iconst (-1), 1) := rfl
theorem tX7_act_13 : pm_tb tX7_act 13 = some (.ireturn, 1) := rfl
theorem tX7_act_14 : pm_tb tX7_act 14 = some (.aload_n 0, 1) := rfl
theorem tX7_act_15 : pm_tb tX7_act 15 = some (.getfield 16, 3) := rfl
theorem tX7_act_18 : pm_tb tX7_act 18 = some (.iload_n 1, 1) := rfl
theorem tX7_act_19 : pm_tb tX7_act 19 = some (.iload_n 2, 1) := rfl
theorem tX7_act_20 : pm_tb tX7_act 20 = some (.iload_n 3, 1) := rfl
theorem tX7_act_21 : pm_tb tX7_act 21 = some (.iload 4, 2) := rfl
theorem tX7_act_23 : pm_tb tX7_act 23 = some (.lload 5, 2) := rfl
theorem tX7_act_25 : pm_tb tX7_act 25 = some (.invokevirtual 48, 3) := rfl
theorem tX7_act_28 : pm_tb tX7_act 28 = some (.ireturn, 1) := rfl
theorem tX7_clear_0 : pm_tb tX7_clear 0 = some (.aload_n 0, 1) := rfl
theorem tX7_clear_1 : pm_tb tX7_clear 1 = some (.getfield 16, 3) := rfl
theorem tX7_clear_4 : pm_tb tX7_clear 4 = some (.invokevirtual 52, 3) := rfl
theorem tX7_clear_7 : pm_tb tX7_clear 7 = some (.ireturn, 1) := rfl
theorem tX7_isLeaf_0 : pm_tb tX7_isLeaf 0 = some (.iload_n 0, 1) := rfl
theorem tX7_isLeaf_1 : pm_tb tX7_isLeaf 1 = some (.ifCond .lt 13, 3) := rfl
theorem tX7_isLeaf_4 : pm_tb tX7_isLeaf 4 = some (.iload_n 0, 1) := rfl
theorem tX7_isLeaf_5 : pm_tb tX7_isLeaf 5 = some (.bipush 32, 2) := rfl
theorem tX7_isLeaf_7 : pm_tb tX7_isLeaf 7 = some (.if_icmp .ge 7, 3) := rfl
theorem tX7_isLeaf_10 : pm_tb tX7_isLeaf 10 = some (.iconst 1, 1) := rfl
theorem tX7_isLeaf_11 : pm_tb tX7_isLeaf 11 = some (.goto 4, 3) := rfl
theorem tX7_isLeaf_14 : pm_tb tX7_isLeaf 14 = some (.iconst 0, 1) := rfl
theorem tX7_isLeaf_15 : pm_tb tX7_isLeaf 15 = some (.ireturn, 1) := rfl
theorem tX7_leaf_0 : pm_tb tX7_leaf 0 = some (.iload_n 1, 1) := rfl
theorem tX7_leaf_1 : pm_tb tX7_leaf 1 = some (.invokestatic 55, 3) := rfl
theorem tX7_leaf_4 : pm_tb tX7_leaf 4 = some (.ifCond .ne 5, 3) := rfl
theorem tX7_leaf_7 : pm_tb tX7_leaf 7 = some (.iconst 0, 1) := rfl
theorem tX7_leaf_8 : pm_tb tX7_leaf 8 = some (.ireturn, 1) := rfl
theorem tX7_leaf_9 : pm_tb tX7_leaf 9 = some (.aload_n 0, 1) := rfl
theorem tX7_leaf_10 : pm_tb tX7_leaf 10 = some (.getfield 9, 3) := rfl
theorem tX7_leaf_13 : pm_tb tX7_leaf 13 = some (.iload_n 1, 1) := rfl
theorem tX7_leaf_14 : pm_tb tX7_leaf 14 = some (.lload_n 2, 1) := rfl
theorem tX7_leaf_15 : pm_tb tX7_leaf 15 = some (.lastore, 1) := rfl
theorem tX7_leaf_16 : pm_tb tX7_leaf 16 = some (.iconst 1, 1) := rfl
theorem tX7_leaf_17 : pm_tb tX7_leaf 17 = some (.ireturn, 1) := rfl
theorem tX7_bound_0 : pm_tb tX7_bound 0 = some (.iload_n 1, 1) := rfl
theorem tX7_bound_1 : pm_tb tX7_bound 1 = some (.iconst 1, 1) := rfl
theorem tX7_bound_2 : pm_tb tX7_bound 2 = some (.if_icmp .lt 9, 3) := rfl
theorem tX7_bound_5 : pm_tb tX7_bound 5 = some (.iload_n 1, 1) := rfl
theorem tX7_bound_6 : pm_tb tX7_bound 6 = some (.bipush 100, 2) := rfl
theorem tX7_bound_8 : pm_tb tX7_bound 8 = some (.if_icmp .le 5, 3) := rfl
theorem tX7_bound_11 : pm_tb tX7_bound 11 = some (.iconst 0, 1) := rfl
theorem tX7_bound_12 : pm_tb tX7_bound 12 = some (.ireturn, 1) := rfl
theorem tX7_bound_13 : pm_tb tX7_bound 13 = some (.aload_n 0, 1) := rfl
theorem tX7_bound_14 : pm_tb tX7_bound 14 = some (.iload_n 1, 1) := rfl
theorem tX7_bound_15 : pm_tb tX7_bound 15 = some (.putfield 34, 3) := rfl
theorem tX7_bound_18 : pm_tb tX7_bound 18 = some (.iconst 1, 1) := rfl
theorem tX7_bound_19 : pm_tb tX7_bound 19 = some (.ireturn, 1) := rfl
theorem tX7_run_0 : pm_tb tX7_run 0 = some (.iload_n 1, 1) := rfl
theorem tX7_run_1 : pm_tb tX7_run 1 = some (.iconst 1, 1) := rfl
theorem tX7_run_2 : pm_tb tX7_run 2 = some (.if_icmp .lt 8, 3) := rfl
theorem tX7_run_5 : pm_tb tX7_run 5 = some (.iload_n 1, 1) := rfl
theorem tX7_run_6 : pm_tb tX7_run 6 = some (.iconst 4, 1) := rfl
theorem tX7_run_7 : pm_tb tX7_run 7 = some (.if_icmp .le 5, 3) := rfl
theorem tX7_run_10 : pm_tb tX7_run 10 = some (.iconst (-1), 1) := rfl
theorem tX7_run_11 : pm_tb tX7_run 11 = some (.ireturn, 1) := rfl
theorem tX7_run_12 : pm_tb tX7_run 12 = some (.aload_n 0, 1) := rfl
theorem tX7_run_13 : pm_tb tX7_run 13 = some (.getfield 23, 3) := rfl
theorem tX7_run_16 : pm_tb tX7_run 16 = some (.aload_n 0, 1) := rfl
theorem tX7_run_17 : pm_tb tX7_run 17 = some (.getfield 16, 3) := rfl
theorem tX7_run_20 : pm_tb tX7_run 20 = some (.aload_n 0, 1) := rfl
theorem tX7_run_21 : pm_tb tX7_run 21 = some (.getfield 9, 3) := rfl
theorem tX7_run_24 : pm_tb tX7_run 24 = some (.iload_n 1, 1) := rfl
theorem tX7_run_25 : pm_tb tX7_run 25 = some (.aload_n 0, 1) := rfl
theorem tX7_run_26 : pm_tb tX7_run 26 = some (.getfield 34, 3) := rfl
theorem tX7_run_29 : pm_tb tX7_run 29 = some (.invokevirtual 59, 3) := rfl
theorem tX7_run_32 : pm_tb tX7_run 32 = some (.aload_n 0, 1) := rfl
theorem tX7_run_33 : pm_tb tX7_run 33 = some (.getfield 23, 3) := rfl
theorem tX7_run_36 : pm_tb tX7_run 36 = some (.aload_n 0, 1) := rfl
theorem tX7_run_37 : pm_tb tX7_run 37 = some (.getfield 16, 3) := rfl
theorem tX7_run_40 : pm_tb tX7_run 40 = some (.iload_n 2, 1) := rfl
theorem tX7_run_41 : pm_tb tX7_run 41 = some (.invokevirtual 63, 3) := rfl
theorem tX7_run_44 : pm_tb tX7_run 44 = some (.iconst 0, 1) := rfl
theorem tX7_run_45 : pm_tb tX7_run 45 = some (.istore_n 3, 1) := rfl
theorem tX7_run_46 : pm_tb tX7_run 46 = some (.iload_n 3, 1) := rfl
theorem tX7_run_47 : pm_tb tX7_run 47 = some (.bipush 32, 2) := rfl
theorem tX7_run_49 : pm_tb tX7_run 49 = some (.if_icmp .ge 29, 3) := rfl
theorem tX7_run_52 : pm_tb tX7_run 52 = some (.aload_n 0, 1) := rfl
theorem tX7_run_53 : pm_tb tX7_run 53 = some (.getfield 9, 3) := rfl
theorem tX7_run_56 : pm_tb tX7_run 56 = some (.iload_n 3, 1) := rfl
theorem tX7_run_57 : pm_tb tX7_run 57 = some (.aload_n 0, 1) := rfl
theorem tX7_run_58 : pm_tb tX7_run 58 = some (.getfield 23, 3) := rfl
theorem tX7_run_61 : pm_tb tX7_run 61 = some (.getfield 67, 3) := rfl
theorem tX7_run_64 : pm_tb tX7_run 64 = some (.getfield 70, 3) := rfl
theorem tX7_run_67 : pm_tb tX7_run 67 = some (.iload_n 3, 1) := rfl
theorem tX7_run_68 : pm_tb tX7_run 68 = some (.invokevirtual 74, 3) := rfl
theorem tX7_run_71 : pm_tb tX7_run 71 = some (.lastore, 1) := rfl
theorem tX7_run_72 : pm_tb tX7_run 72 = some (.iinc 3 1, 3) := rfl
theorem tX7_run_75 : pm_tb tX7_run 75 = some (.goto (-29), 3) := rfl
theorem tX7_run_78 : pm_tb tX7_run 78 = some (.aload_n 0, 1) := rfl
theorem tX7_run_79 : pm_tb tX7_run 79 = some (.getfield 23, 3) := rfl
theorem tX7_run_82 : pm_tb tX7_run 82 = some (.getfield 80, 3) := rfl
theorem tX7_run_85 : pm_tb tX7_run 85 = some (.ireturn, 1) := rfl
theorem tX7_at_0 : pm_tb tX7_at 0 = some (.iload_n 1, 1) := rfl
theorem tX7_at_1 : pm_tb tX7_at 1 = some (.invokestatic 55, 3) := rfl
theorem tX7_at_4 : pm_tb tX7_at 4 = some (.ifCond .eq 12, 3) := rfl
theorem tX7_at_7 : pm_tb tX7_at 7 = some (.aload_n 0, 1) := rfl
theorem tX7_at_8 : pm_tb tX7_at 8 = some (.getfield 9, 3) := rfl
theorem tX7_at_11 : pm_tb tX7_at 11 = some (.iload_n 1, 1) := rfl
theorem tX7_at_12 : pm_tb tX7_at 12 = some (.laload, 1) := rfl
theorem tX7_at_13 : pm_tb tX7_at 13 = some (.goto 4, 3) := rfl
theorem tX7_at_16 : pm_tb tX7_at 16 = some (.lconst 0, 1) := rfl
theorem tX7_at_17 : pm_tb tX7_at 17 = some (.lreturn, 1) := rfl
theorem tX7_inOrder_0 : pm_tb tX7_inOrder 0 = some (.iload_n 1, 1) := rfl
theorem tX7_inOrder_1 : pm_tb tX7_inOrder 1 = some (.invokestatic 55, 3) := rfl
theorem tX7_inOrder_4 : pm_tb tX7_inOrder 4 = some (.ifCond .ne 5, 3) := rfl
theorem tX7_inOrder_7 : pm_tb tX7_inOrder 7 = some (.lconst 0, 1) := rfl
theorem tX7_inOrder_8 : pm_tb tX7_inOrder 8 = some (.lreturn, 1) := rfl
theorem tX7_inOrder_9 : pm_tb tX7_inOrder 9 = some (.aload_n 0, 1) := rfl
theorem tX7_inOrder_10 : pm_tb tX7_inOrder 10 = some (.getfield 30, 3) := rfl
theorem tX7_inOrder_13 : pm_tb tX7_inOrder 13 = some (.aload_n 0, 1) := rfl
theorem tX7_inOrder_14 : pm_tb tX7_inOrder 14 = some (.getfield 16, 3) := rfl
theorem tX7_inOrder_17 : pm_tb tX7_inOrder 17 = some (.aload_n 0, 1) := rfl
theorem tX7_inOrder_18 : pm_tb tX7_inOrder 18 = some (.getfield 9, 3) := rfl
theorem tX7_inOrder_21 : pm_tb tX7_inOrder 21 = some (.invokevirtual 83, 3) := rfl
theorem tX7_inOrder_24 : pm_tb tX7_inOrder 24 = some (.aload_n 0, 1) := rfl
theorem tX7_inOrder_25 : pm_tb tX7_inOrder 25 = some (.getfield 30, 3) := rfl
theorem tX7_inOrder_28 : pm_tb tX7_inOrder 28 = some (.aload_n 0, 1) := rfl
theorem tX7_inOrder_29 : pm_tb tX7_inOrder 29 = some (.getfield 16, 3) := rfl
theorem tX7_inOrder_32 : pm_tb tX7_inOrder 32 = some (.invokevirtual 86, 3) := rfl
theorem tX7_inOrder_35 : pm_tb tX7_inOrder 35 = some (.aload_n 0, 1) := rfl
theorem tX7_inOrder_36 : pm_tb tX7_inOrder 36 = some (.getfield 30, 3) := rfl
theorem tX7_inOrder_39 : pm_tb tX7_inOrder 39 = some (.getfield 70, 3) := rfl
theorem tX7_inOrder_42 : pm_tb tX7_inOrder 42 = some (.iload_n 1, 1) := rfl
theorem tX7_inOrder_43 : pm_tb tX7_inOrder 43 = some (.invokevirtual 74, 3) := rfl
theorem tX7_inOrder_46 : pm_tb tX7_inOrder 46 = some (.lreturn, 1) := rfl
theorem tX7_events_0 : pm_tb tX7_events 0 = some (.aload_n 0, 1) := rfl
theorem tX7_events_1 : pm_tb tX7_events 1 = some (.getfield 23, 3) := rfl
theorem tX7_events_4 : pm_tb tX7_events 4 = some (.getfield 67, 3) := rfl
theorem tX7_events_7 : pm_tb tX7_events 7 = some (.invokevirtual 90, 3) := rfl
theorem tX7_events_10 : pm_tb tX7_events 10 = some (.ireturn, 1) := rfl
theorem tX7_event_0 : pm_tb tX7_event 0 = some (.aload_n 0, 1) := rfl
theorem tX7_event_1 : pm_tb tX7_event 1 = some (.getfield 23, 3) := rfl
theorem tX7_event_4 : pm_tb tX7_event 4 = some (.getfield 67, 3) := rfl
theorem tX7_event_7 : pm_tb tX7_event 7 = some (.iload_n 1, 1) := rfl
theorem tX7_event_8 : pm_tb tX7_event 8 = some (.iload_n 2, 1) := rfl
theorem tX7_event_9 : pm_tb tX7_event 9 = some (.invokevirtual 93, 3) := rfl
theorem tX7_event_12 : pm_tb tX7_event 12 = some (.lreturn, 1) := rfl
theorem tX7_of_0 : pm_tb tX7_of 0 = some (.aload_n 0, 1) := rfl
theorem tX7_of_1 : pm_tb tX7_of 1 = some (.getfield 23, 3) := rfl
theorem tX7_of_4 : pm_tb tX7_of 4 = some (.getfield 67, 3) := rfl
theorem tX7_of_7 : pm_tb tX7_of 7 = some (.iload_n 1, 1) := rfl
theorem tX7_of_8 : pm_tb tX7_of 8 = some (.iload_n 2, 1) := rfl
theorem tX7_of_9 : pm_tb tX7_of 9 = some (.invokevirtual 97, 3) := rfl
theorem tX7_of_12 : pm_tb tX7_of 12 = some (.ireturn, 1) := rfl
theorem tX7_conflicts_0 : pm_tb tX7_conflicts 0 = some (.aload_n 0, 1) := rfl
theorem tX7_conflicts_1 : pm_tb tX7_conflicts 1 = some (.getfield 23, 3) := rfl
theorem tX7_conflicts_4 : pm_tb tX7_conflicts 4 = some (.getfield 101, 3) := rfl
theorem tX7_conflicts_7 : pm_tb tX7_conflicts 7 = some (.getfield 105, 3) := rfl
theorem tX7_conflicts_10 : pm_tb tX7_conflicts 10 = some (.ireturn, 1) := rfl
theorem tX7_conflict_0 : pm_tb tX7_conflict 0 = some (.aload_n 0, 1) := rfl
theorem tX7_conflict_1 : pm_tb tX7_conflict 1 = some (.getfield 23, 3) := rfl
theorem tX7_conflict_4 : pm_tb tX7_conflict 4 = some (.getfield 101, 3) := rfl
theorem tX7_conflict_7 : pm_tb tX7_conflict 7 = some (.iload_n 1, 1) := rfl
theorem tX7_conflict_8 : pm_tb tX7_conflict 8 = some (.iload_n 2, 1) := rfl
theorem tX7_conflict_9 : pm_tb tX7_conflict 9 = some (.invokevirtual 110, 3) := rfl
theorem tX7_conflict_12 : pm_tb tX7_conflict 12 = some (.ireturn, 1) := rfl
theorem tX7_told_0 : pm_tb tX7_told 0 = some (.aload_n 0, 1) := rfl
theorem tX7_told_1 : pm_tb tX7_told 1 = some (.getfield 23, 3) := rfl
theorem tX7_told_4 : pm_tb tX7_told 4 = some (.iload_n 1, 1) := rfl
theorem tX7_told_5 : pm_tb tX7_told 5 = some (.invokevirtual 113, 3) := rfl
theorem tX7_told_8 : pm_tb tX7_told 8 = some (.ireturn, 1) := rfl
