theorem tX8_call_0 : pm_tb tX8_call 0 = some (.aload_n 0, 1) := rfl
theorem tX8_call_1 : pm_tb tX8_call 1 = some (.getfield 145, 3) := rfl
theorem tX8_call_4 : pm_tb tX8_call 4 = some (.bipush 16, 2) := rfl
theorem tX8_call_6 : pm_tb tX8_call 6 = some (.if_icmp .ne 5, 3) := rfl
theorem tX8_call_9 : pm_tb tX8_call 9 = some (.iconst (-1), 1) := rfl
theorem tX8_call_10 : pm_tb tX8_call 10 = some (.ireturn, 1) := rfl
theorem tX8_call_11 : pm_tb tX8_call 11 = some (.aload_n 0, 1) := rfl
theorem tX8_call_12 : pm_tb tX8_call 12 = some (.getfield 13, 3) := rfl
theorem tX8_call_15 : pm_tb tX8_call 15 = some (.aload_n 0, 1) := rfl
theorem tX8_call_16 : pm_tb tX8_call 16 = some (.getfield 145, 3) := rfl
theorem tX8_call_19 : pm_tb tX8_call 19 = some (.iconst 0, 1) := rfl
theorem tX8_call_20 : pm_tb tX8_call 20 = some (.iastore, 1) := rfl
theorem tX8_call_21 : pm_tb tX8_call 21 = some (.aload_n 0, 1) := rfl
theorem tX8_call_22 : pm_tb tX8_call 22 = some (.dup, 1) := rfl
theorem tX8_call_23 : pm_tb tX8_call 23 = some (.getfield 145, 3) := rfl
theorem tX8_call_26 : pm_tb tX8_call 26 = some (.iconst 1, 1) := rfl
theorem tX8_call_27 : pm_tb tX8_call 27 = some (.iadd, 1) := rfl
theorem tX8_call_28 : pm_tb tX8_call 28 = some (.putfield 145, 3) := rfl
theorem tX8_call_31 : pm_tb tX8_call 31 = some (.aload_n 0, 1) := rfl
theorem tX8_call_32 : pm_tb tX8_call 32 = some (.getfield 145, 3) := rfl
theorem tX8_call_35 : pm_tb tX8_call 35 = some (.iconst 1, 1) := rfl
theorem tX8_call_36 : pm_tb tX8_call 36 = some (.isub, 1) := rfl
theorem tX8_call_37 : pm_tb tX8_call 37 = some (.ireturn, 1) := rfl
theorem tX8_act_0 : pm_tb tX8_act 0 = some (.iload_n 1, 1) := rfl
theorem tX8_act_1 : pm_tb tX8_act 1 = some (.ifCond .lt 36, 3) := rfl
theorem tX8_act_4 : pm_tb tX8_act 4 = some (.iload_n 1, 1) := rfl
theorem tX8_act_5 : pm_tb tX8_act 5 = some (.aload_n 0, 1) := rfl
theorem tX8_act_6 : pm_tb tX8_act 6 = some (.getfield 145, 3) := rfl
theorem tX8_act_9 : pm_tb tX8_act 9 = some (.if_icmp .ge 28, 3) := rfl
theorem tX8_act_12 : pm_tb tX8_act 12 = some (.iload_n 2, 1) := rfl
theorem tX8_act_13 : pm_tb tX8_act 13 = some (.ifCond .lt 24, 3) := rfl
theorem tX8_act_16 : pm_tb tX8_act 16 = some (.iload_n 2, 1) := rfl
theorem tX8_act_17 : pm_tb tX8_act 17 = some (.bipush 8, 2) := rfl
theorem tX8_act_19 : pm_tb tX8_act 19 = some (.if_icmp .gt 18, 3) := rfl
theorem tX8_act_22 : pm_tb tX8_act 22 = some (.aload_n 0, 1) := rfl
theorem tX8_act_23 : pm_tb tX8_act 23 = some (.getfield 13, 3) := rfl
theorem tX8_act_26 : pm_tb tX8_act 26 = some (.iload_n 1, 1) := rfl
theorem tX8_act_27 : pm_tb tX8_act 27 = some (.iaload, 1) := rfl
theorem tX8_act_28 : pm_tb tX8_act 28 = some (.bipush 12, 2) := rfl
theorem tX8_act_30 : pm_tb tX8_act 30 = some (.if_icmp .ge 7, 3) := rfl
theorem tX8_act_33 : pm_tb tX8_act 33 = some (.iconst 1, 1) := rfl
theorem tX8_act_34 : pm_tb tX8_act 34 = some (.goto 4, 3) := rfl
theorem tX8_act_37 : pm_tb tX8_act 37 = some (.iconst 0, 1) := rfl
theorem tX8_act_38 : pm_tb tX8_act 38 = some (.istore 7, 2) := rfl
theorem tX8_act_40 : pm_tb tX8_act 40 = some (.iload_n 2, 1) := rfl
theorem tX8_act_41 : pm_tb tX8_act 41 = some (.iconst 1, 1) := rfl
theorem tX8_act_42 : pm_tb tX8_act 42 = some (.if_icmp .lt 13, 3) := rfl
theorem tX8_act_45 : pm_tb tX8_act 45 = some (.iload_n 2, 1) := rfl
theorem tX8_act_46 : pm_tb tX8_act 46 = some (.bipush 6, 2) := rfl
theorem tX8_act_48 : pm_tb tX8_act 48 = some (.if_icmp .gt 7, 3) := rfl
theorem tX8_act_51 : pm_tb tX8_act 51 = some (.iconst 1, 1) := rfl
theorem tX8_act_52 : pm_tb tX8_act 52 = some (.goto 4, 3) := rfl
theorem tX8_act_55 : pm_tb tX8_act 55 = some (.iconst 0, 1) := rfl
theorem tX8_act_56 : pm_tb tX8_act 56 = some (.istore 8, 2) := rfl
theorem tX8_act_58 : pm_tb tX8_act 58 = some (.iload 7, 2) := rfl
theorem tX8_act_60 : pm_tb tX8_act 60 = some (.ifCond .eq 40, 3) := rfl
theorem tX8_act_63 : pm_tb tX8_act 63 = some (.iload_n 3, 1) := rfl
theorem tX8_act_64 : pm_tb tX8_act 64 = some (.ifCond .lt 36, 3) := rfl
theorem tX8_act_67 : pm_tb tX8_act 67 = some (.iload_n 3, 1) := rfl
theorem tX8_act_68 : pm_tb tX8_act 68 = some (.iconst 3, 1) := rfl
theorem tX8_act_69 : pm_tb tX8_act 69 = some (.if_icmp .gt 31, 3) := rfl
theorem tX8_act_72 : pm_tb tX8_act 72 = some (.iload 8, 2) := rfl
theorem tX8_act_74 : pm_tb tX8_act 74 = some (.ifCond .eq 17, 3) := rfl
theorem tX8_act_77 : pm_tb tX8_act 77 = some (.iload 4, 2) := rfl
theorem tX8_act_79 : pm_tb tX8_act 79 = some (.ifCond .lt 21, 3) := rfl
theorem tX8_act_82 : pm_tb tX8_act 82 = some (.iload 4, 2) := rfl
theorem tX8_act_84 : pm_tb tX8_act 84 = some (.iconst 3, 1) := rfl
theorem tX8_act_85 : pm_tb tX8_act 85 = some (.if_icmp .gt 15, 3) := rfl
theorem tX8_act_88 : pm_tb tX8_act 88 = some (.goto 8, 3) := rfl
theorem tX8_act_91 : pm_tb tX8_act 91 = some (.iload 4, 2) := rfl
theorem tX8_act_93 : pm_tb tX8_act 93 = some (.ifCond .ne 7, 3) := rfl
theorem tX8_act_96 : pm_tb tX8_act 96 = some (.iconst 1, 1) := rfl
theorem tX8_act_97 : pm_tb tX8_act 97 = some (.goto 4, 3) := rfl
theorem tX8_act_100 : pm_tb tX8_act 100 = some (.iconst 0, 1) := rfl
theorem tX8_act_101 : pm_tb tX8_act 101 = some (.istore 7, 2) := rfl
theorem tX8_act_103 : pm_tb tX8_act 103 = some (.iload 7, 2) := rfl
theorem tX8_act_105 : pm_tb tX8_act 105 = some (.ifCond .eq 44, 3) := rfl
theorem tX8_act_108 : pm_tb tX8_act 108 = some (.iload_n 2, 1) := rfl
theorem tX8_act_109 : pm_tb tX8_act 109 = some (.iconst 2, 1) := rfl
theorem tX8_act_110 : pm_tb tX8_act 110 = some (.if_icmp .le 35, 3) := rfl
theorem tX8_act_113 : pm_tb tX8_act 113 = some (.iload_n 2, 1) := rfl
theorem tX8_act_114 : pm_tb tX8_act 114 = some (.bipush 6, 2) := rfl
theorem tX8_act_116 : pm_tb tX8_act 116 = some (.if_icmp .ne 22, 3) := rfl
theorem tX8_act_119 : pm_tb tX8_act 119 = some (.lload 5, 2) := rfl
theorem tX8_act_121 : pm_tb tX8_act 121 = some (.lconst 1, 1) := rfl
theorem tX8_act_122 : pm_tb tX8_act 122 = some (.lcmp, 1) := rfl
theorem tX8_act_123 : pm_tb tX8_act 123 = some (.ifCond .lt 26, 3) := rfl
theorem tX8_act_126 : pm_tb tX8_act 126 = some (.lload 5, 2) := rfl
theorem tX8_act_128 : pm_tb tX8_act 128 = some (.ldc2_w 148, 3) := rfl
theorem tX8_act_131 : pm_tb tX8_act 131 = some (.lcmp, 1) := rfl
theorem tX8_act_132 : pm_tb tX8_act 132 = some (.ifCond .gt 17, 3) := rfl
theorem tX8_act_135 : pm_tb tX8_act 135 = some (.goto 10, 3) := rfl
theorem tX8_act_138 : pm_tb tX8_act 138 = some (.lload 5, 2) := rfl
theorem tX8_act_140 : pm_tb tX8_act 140 = some (.lconst 0, 1) := rfl
theorem tX8_act_141 : pm_tb tX8_act 141 = some (.lcmp, 1) := rfl
theorem tX8_act_142 : pm_tb tX8_act 142 = some (.ifCond .ne 7, 3) := rfl
theorem tX8_act_145 : pm_tb tX8_act 145 = some (.iconst 1, 1) := rfl
theorem tX8_act_146 : pm_tb tX8_act 146 = some (.goto 4, 3) := rfl
theorem tX8_act_149 : pm_tb tX8_act 149 = some (.iconst 0, 1) := rfl
theorem tX8_act_150 : pm_tb tX8_act 150 = some (.istore 7, 2) := rfl
theorem tX8_act_152 : pm_tb tX8_act 152 = some (.iload 7, 2) := rfl
theorem tX8_act_154 : pm_tb tX8_act 154 = some (.ifCond .ne 5, 3) := rfl
theorem tX8_act_157 : pm_tb tX8_act 157 = some (.iconst (-1), 1) := rfl
theorem tX8_act_158 : pm_tb tX8_act 158 = some (.ireturn, 1) := rfl
theorem tX8_act_159 : pm_tb tX8_act 159 = some (.bipush 12, 2) := rfl
theorem tX8_act_161 : pm_tb tX8_act 161 = some (.iload_n 1, 1) := rfl
theorem tX8_act_162 : pm_tb tX8_act 162 = some (.imul, 1) := rfl
theorem tX8_act_163 : pm_tb tX8_act 163 = some (.aload_n 0, 1) := rfl
theorem tX8_act_164 : pm_tb tX8_act 164 = some (.getfield 13, 3) := rfl
theorem tX8_act_167 : pm_tb tX8_act 167 = some (.iload_n 1, 1) := rfl
theorem tX8_act_168 : pm_tb tX8_act 168 = some (.iaload, 1) := rfl
theorem tX8_act_169 : pm_tb tX8_act 169 = some (.iadd, 1) := rfl
theorem tX8_act_170 : pm_tb tX8_act 170 = some (.istore 9, 2) := rfl
theorem tX8_act_172 : pm_tb tX8_act 172 = some (.aload_n 0, 1) := rfl
theorem tX8_act_173 : pm_tb tX8_act 173 = some (.getfield 17, 3) := rfl
theorem tX8_act_176 : pm_tb tX8_act 176 = some (.iload 9, 2) := rfl
theorem tX8_act_178 : pm_tb tX8_act 178 = some (.iload_n 2, 1) := rfl
theorem tX8_act_179 : pm_tb tX8_act 179 = some (.iastore, 1) := rfl
theorem tX8_act_180 : pm_tb tX8_act 180 = some (.aload_n 0, 1) := rfl
theorem tX8_act_181 : pm_tb tX8_act 181 = some (.getfield 20, 3) := rfl
theorem tX8_act_184 : pm_tb tX8_act 184 = some (.iload 9, 2) := rfl
theorem tX8_act_186 : pm_tb tX8_act 186 = some (.iload_n 3, 1) := rfl
theorem tX8_act_187 : pm_tb tX8_act 187 = some (.iastore, 1) := rfl
theorem tX8_act_188 : pm_tb tX8_act 188 = some (.aload_n 0, 1) := rfl
theorem tX8_act_189 : pm_tb tX8_act 189 = some (.getfield 23, 3) := rfl
theorem tX8_act_192 : pm_tb tX8_act 192 = some (.iload 9, 2) := rfl
theorem tX8_act_194 : pm_tb tX8_act 194 = some (.iload 4, 2) := rfl
theorem tX8_act_196 : pm_tb tX8_act 196 = some (.iastore, 1) := rfl
theorem tX8_act_197 : pm_tb tX8_act 197 = some (.aload_n 0, 1) := rfl
theorem tX8_act_198 : pm_tb tX8_act 198 = some (.getfield 26, 3) := rfl
theorem tX8_act_201 : pm_tb tX8_act 201 = some (.iload 9, 2) := rfl
theorem tX8_act_203 : pm_tb tX8_act 203 = some (.lload 5, 2) := rfl
theorem tX8_act_205 : pm_tb tX8_act 205 = some (.lastore, 1) := rfl
theorem tX8_act_206 : pm_tb tX8_act 206 = some (.aload_n 0, 1) := rfl
theorem tX8_act_207 : pm_tb tX8_act 207 = some (.getfield 13, 3) := rfl
theorem tX8_act_210 : pm_tb tX8_act 210 = some (.iload_n 1, 1) := rfl
theorem tX8_act_211 : pm_tb tX8_act 211 = some (.dup2, 1) := rfl
theorem tX8_act_212 : pm_tb tX8_act 212 = some (.iaload, 1) := rfl
theorem tX8_act_213 : pm_tb tX8_act 213 = some (.iconst 1, 1) := rfl
theorem tX8_act_214 : pm_tb tX8_act 214 = some (.iadd, 1) := rfl
theorem tX8_act_215 : pm_tb tX8_act 215 = some (.iastore, 1) := rfl
theorem tX8_act_216 : pm_tb tX8_act 216 = some (.aload_n 0, 1) := rfl
theorem tX8_act_217 : pm_tb tX8_act 217 = some (.getfield 13, 3) := rfl
theorem tX8_act_220 : pm_tb tX8_act 220 = some (.iload_n 1, 1) := rfl
theorem tX8_act_221 : pm_tb tX8_act 221 = some (.iaload, 1) := rfl
theorem tX8_act_222 : pm_tb tX8_act 222 = some (.ireturn, 1) := rfl
theorem tX8_clear_0 : pm_tb tX8_clear 0 = some (.aload_n 0, 1) := rfl
theorem tX8_clear_1 : pm_tb tX8_clear 1 = some (.getfield 145, 3) := rfl
theorem tX8_clear_4 : pm_tb tX8_clear 4 = some (.istore_n 1, 1) := rfl
theorem tX8_clear_5 : pm_tb tX8_clear 5 = some (.aload_n 0, 1) := rfl
theorem tX8_clear_6 : pm_tb tX8_clear 6 = some (.iconst 0, 1) := rfl
theorem tX8_clear_7 : pm_tb tX8_clear 7 = some (.putfield 145, 3) := rfl
theorem tX8_clear_10 : pm_tb tX8_clear 10 = some (.iload_n 1, 1) := rfl
theorem tX8_clear_11 : pm_tb tX8_clear 11 = some (.ireturn, 1) := rfl
theorem tX8_leaf_0 : pm_tb tX8_leaf 0 = some (.iload_n 1, 1) := rfl
theorem tX8_leaf_1 : pm_tb tX8_leaf 1 = some (.ifCond .lt 9, 3) := rfl
theorem tX8_leaf_4 : pm_tb tX8_leaf 4 = some (.iload_n 1, 1) := rfl
theorem tX8_leaf_5 : pm_tb tX8_leaf 5 = some (.bipush 32, 2) := rfl
theorem tX8_leaf_7 : pm_tb tX8_leaf 7 = some (.if_icmp .lt 5, 3) := rfl
theorem tX8_leaf_10 : pm_tb tX8_leaf 10 = some (.iconst 0, 1) := rfl
theorem tX8_leaf_11 : pm_tb tX8_leaf 11 = some (.ireturn, 1) := rfl
theorem tX8_leaf_12 : pm_tb tX8_leaf 12 = some (.aload_n 0, 1) := rfl
theorem tX8_leaf_13 : pm_tb tX8_leaf 13 = some (.getfield 7, 3) := rfl
theorem tX8_leaf_16 : pm_tb tX8_leaf 16 = some (.iload_n 1, 1) := rfl
theorem tX8_leaf_17 : pm_tb tX8_leaf 17 = some (.lload_n 2, 1) := rfl
theorem tX8_leaf_18 : pm_tb tX8_leaf 18 = some (.lastore, 1) := rfl
theorem tX8_leaf_19 : pm_tb tX8_leaf 19 = some (.iconst 1, 1) := rfl
theorem tX8_leaf_20 : pm_tb tX8_leaf 20 = some (.ireturn, 1) := rfl
theorem tX8_bound_0 : pm_tb tX8_bound 0 = some (.iload_n 1, 1) := rfl
theorem tX8_bound_1 : pm_tb tX8_bound 1 = some (.iconst 1, 1) := rfl
theorem tX8_bound_2 : pm_tb tX8_bound 2 = some (.if_icmp .lt 9, 3) := rfl
theorem tX8_bound_5 : pm_tb tX8_bound 5 = some (.iload_n 1, 1) := rfl
theorem tX8_bound_6 : pm_tb tX8_bound 6 = some (.bipush 100, 2) := rfl
theorem tX8_bound_8 : pm_tb tX8_bound 8 = some (.if_icmp .le 5, 3) := rfl
theorem tX8_bound_11 : pm_tb tX8_bound 11 = some (.iconst 0, 1) := rfl
theorem tX8_bound_12 : pm_tb tX8_bound 12 = some (.ireturn, 1) := rfl
theorem tX8_bound_13 : pm_tb tX8_bound 13 = some (.aload_n 0, 1) := rfl
theorem tX8_bound_14 : pm_tb tX8_bound 14 = some (.iload_n 1, 1) := rfl
theorem tX8_bound_15 : pm_tb tX8_bound 15 = some (.putfield 141, 3) := rfl
theorem tX8_bound_18 : pm_tb tX8_bound 18 = some (.iconst 1, 1) := rfl
theorem tX8_bound_19 : pm_tb tX8_bound 19 = some (.ireturn, 1) := rfl
theorem tX8_begin_0 : pm_tb tX8_begin 0 = some (.aload_n 0, 1) := rfl
theorem tX8_begin_1 : pm_tb tX8_begin 1 = some (.getfield 66, 3) := rfl
theorem tX8_begin_4 : pm_tb tX8_begin 4 = some (.iload_n 1, 1) := rfl
theorem tX8_begin_5 : pm_tb tX8_begin 5 = some (.dup2, 1) := rfl
theorem tX8_begin_6 : pm_tb tX8_begin 6 = some (.iaload, 1) := rfl
theorem tX8_begin_7 : pm_tb tX8_begin 7 = some (.iconst 1, 1) := rfl
theorem tX8_begin_8 : pm_tb tX8_begin 8 = some (.iadd, 1) := rfl
theorem tX8_begin_9 : pm_tb tX8_begin 9 = some (.iastore, 1) := rfl
theorem tX8_begin_10 : pm_tb tX8_begin 10 = some (.aload_n 0, 1) := rfl
theorem tX8_begin_11 : pm_tb tX8_begin 11 = some (.getfield 29, 3) := rfl
theorem tX8_begin_14 : pm_tb tX8_begin 14 = some (.iload_n 1, 1) := rfl
theorem tX8_begin_15 : pm_tb tX8_begin 15 = some (.iconst 0, 1) := rfl
theorem tX8_begin_16 : pm_tb tX8_begin 16 = some (.iastore, 1) := rfl
theorem tX8_begin_17 : pm_tb tX8_begin 17 = some (.aload_n 0, 1) := rfl
theorem tX8_begin_18 : pm_tb tX8_begin 18 = some (.getfield 69, 3) := rfl
theorem tX8_begin_21 : pm_tb tX8_begin 21 = some (.iload_n 1, 1) := rfl
theorem tX8_begin_22 : pm_tb tX8_begin 22 = some (.iconst 0, 1) := rfl
theorem tX8_begin_23 : pm_tb tX8_begin 23 = some (.iastore, 1) := rfl
theorem tX8_begin_24 : pm_tb tX8_begin 24 = some (.aload_n 0, 1) := rfl
theorem tX8_begin_25 : pm_tb tX8_begin 25 = some (.getfield 35, 3) := rfl
theorem tX8_begin_28 : pm_tb tX8_begin 28 = some (.iload_n 1, 1) := rfl
theorem tX8_begin_29 : pm_tb tX8_begin 29 = some (.iconst 0, 1) := rfl
theorem tX8_begin_30 : pm_tb tX8_begin 30 = some (.bastore, 1) := rfl
theorem tX8_begin_31 : pm_tb tX8_begin 31 = some (.aload_n 0, 1) := rfl
theorem tX8_begin_32 : pm_tb tX8_begin 32 = some (.getfield 45, 3) := rfl
theorem tX8_begin_35 : pm_tb tX8_begin 35 = some (.iload_n 1, 1) := rfl
theorem tX8_begin_36 : pm_tb tX8_begin 36 = some (.iconst 0, 1) := rfl
theorem tX8_begin_37 : pm_tb tX8_begin 37 = some (.iastore, 1) := rfl
theorem tX8_begin_38 : pm_tb tX8_begin 38 = some (.aload_n 0, 1) := rfl
theorem tX8_begin_39 : pm_tb tX8_begin 39 = some (.getfield 60, 3) := rfl
theorem tX8_begin_42 : pm_tb tX8_begin 42 = some (.iload_n 1, 1) := rfl
theorem tX8_begin_43 : pm_tb tX8_begin 43 = some (.iconst 0, 1) := rfl
theorem tX8_begin_44 : pm_tb tX8_begin 44 = some (.iastore, 1) := rfl
theorem tX8_begin_45 : pm_tb tX8_begin 45 = some (.iconst 0, 1) := rfl
theorem tX8_begin_46 : pm_tb tX8_begin 46 = some (.istore_n 2, 1) := rfl
theorem tX8_begin_47 : pm_tb tX8_begin 47 = some (.iload_n 2, 1) := rfl
theorem tX8_begin_48 : pm_tb tX8_begin 48 = some (.iconst 4, 1) := rfl
theorem tX8_begin_49 : pm_tb tX8_begin 49 = some (.if_icmp .ge 20, 3) := rfl
theorem tX8_begin_52 : pm_tb tX8_begin 52 = some (.aload_n 0, 1) := rfl
theorem tX8_begin_53 : pm_tb tX8_begin 53 = some (.getfield 32, 3) := rfl
theorem tX8_begin_56 : pm_tb tX8_begin 56 = some (.iconst 4, 1) := rfl
theorem tX8_begin_57 : pm_tb tX8_begin 57 = some (.iload_n 1, 1) := rfl
theorem tX8_begin_58 : pm_tb tX8_begin 58 = some (.imul, 1) := rfl
theorem tX8_begin_59 : pm_tb tX8_begin 59 = some (.iload_n 2, 1) := rfl
theorem tX8_begin_60 : pm_tb tX8_begin 60 = some (.iadd, 1) := rfl
theorem tX8_begin_61 : pm_tb tX8_begin 61 = some (.lconst 0, 1) := rfl
theorem tX8_begin_62 : pm_tb tX8_begin 62 = some (.lastore, 1) := rfl
theorem tX8_begin_63 : pm_tb tX8_begin 63 = some (.iinc 2 1, 3) := rfl
theorem tX8_begin_66 : pm_tb tX8_begin 66 = some (.goto (-19), 3) := rfl
theorem tX8_begin_69 : pm_tb tX8_begin 69 = some (.iconst 0, 1) := rfl
theorem tX8_begin_70 : pm_tb tX8_begin 70 = some (.istore_n 2, 1) := rfl
theorem tX8_begin_71 : pm_tb tX8_begin 71 = some (.iload_n 2, 1) := rfl
theorem tX8_begin_72 : pm_tb tX8_begin 72 = some (.bipush 32, 2) := rfl
theorem tX8_begin_74 : pm_tb tX8_begin 74 = some (.if_icmp .ge 21, 3) := rfl
theorem tX8_begin_77 : pm_tb tX8_begin 77 = some (.aload_n 0, 1) := rfl
theorem tX8_begin_78 : pm_tb tX8_begin 78 = some (.getfield 39, 3) := rfl
theorem tX8_begin_81 : pm_tb tX8_begin 81 = some (.bipush 32, 2) := rfl
theorem tX8_begin_83 : pm_tb tX8_begin 83 = some (.iload_n 1, 1) := rfl
theorem tX8_begin_84 : pm_tb tX8_begin 84 = some (.imul, 1) := rfl
theorem tX8_begin_85 : pm_tb tX8_begin 85 = some (.iload_n 2, 1) := rfl
theorem tX8_begin_86 : pm_tb tX8_begin 86 = some (.iadd, 1) := rfl
theorem tX8_begin_87 : pm_tb tX8_begin 87 = some (.iconst 0, 1) := rfl
theorem tX8_begin_88 : pm_tb tX8_begin 88 = some (.bastore, 1) := rfl
theorem tX8_begin_89 : pm_tb tX8_begin 89 = some (.iinc 2 1, 3) := rfl
theorem tX8_begin_92 : pm_tb tX8_begin 92 = some (.goto (-21), 3) := rfl
theorem tX8_begin_95 : pm_tb tX8_begin 95 = some (.return_, 1) := rfl
theorem tX8_see_0 : pm_tb tX8_see 0 = some (.aload_n 0, 1) := rfl
theorem tX8_see_1 : pm_tb tX8_see 1 = some (.iconst (-1), 1) := rfl
theorem tX8_see_2 : pm_tb tX8_see 2 = some (.putfield 150, 3) := rfl
theorem tX8_see_5 : pm_tb tX8_see 5 = some (.aload_n 0, 1) := rfl
theorem tX8_see_6 : pm_tb tX8_see 6 = some (.iconst 0, 1) := rfl
theorem tX8_see_7 : pm_tb tX8_see 7 = some (.putfield 153, 3) := rfl
theorem tX8_see_10 : pm_tb tX8_see 10 = some (.aload_n 0, 1) := rfl
theorem tX8_see_11 : pm_tb tX8_see 11 = some (.iconst 0, 1) := rfl
theorem tX8_see_12 : pm_tb tX8_see 12 = some (.putfield 156, 3) := rfl
theorem tX8_see_15 : pm_tb tX8_see 15 = some (.aload_n 0, 1) := rfl
theorem tX8_see_16 : pm_tb tX8_see 16 = some (.aload_n 0, 1) := rfl
theorem tX8_see_17 : pm_tb tX8_see 17 = some (.getfield 7, 3) := rfl
theorem tX8_see_20 : pm_tb tX8_see 20 = some (.iload_n 2, 1) := rfl
theorem tX8_see_21 : pm_tb tX8_see 21 = some (.laload, 1) := rfl
theorem tX8_see_22 : pm_tb tX8_see 22 = some (.putfield 160, 3) := rfl
theorem tX8_see_25 : pm_tb tX8_see 25 = some (.iconst 0, 1) := rfl
theorem tX8_see_26 : pm_tb tX8_see 26 = some (.istore_n 3, 1) := rfl
theorem tX8_see_27 : pm_tb tX8_see 27 = some (.iload_n 3, 1) := rfl
theorem tX8_see_28 : pm_tb tX8_see 28 = some (.iload_n 1, 1) := rfl
theorem tX8_see_29 : pm_tb tX8_see 29 = some (.if_icmp .ge 65, 3) := rfl
theorem tX8_see_32 : pm_tb tX8_see 32 = some (.bipush 32, 2) := rfl
theorem tX8_see_34 : pm_tb tX8_see 34 = some (.iload_n 3, 1) := rfl
theorem tX8_see_35 : pm_tb tX8_see 35 = some (.imul, 1) := rfl
theorem tX8_see_36 : pm_tb tX8_see 36 = some (.iload_n 2, 1) := rfl
theorem tX8_see_37 : pm_tb tX8_see 37 = some (.iadd, 1) := rfl
theorem tX8_see_38 : pm_tb tX8_see 38 = some (.istore 4, 2) := rfl
theorem tX8_see_40 : pm_tb tX8_see 40 = some (.aload_n 0, 1) := rfl
theorem tX8_see_41 : pm_tb tX8_see 41 = some (.getfield 72, 3) := rfl
theorem tX8_see_44 : pm_tb tX8_see 44 = some (.iload 4, 2) := rfl
theorem tX8_see_46 : pm_tb tX8_see 46 = some (.baload, 1) := rfl
theorem tX8_see_47 : pm_tb tX8_see 47 = some (.ifCond .eq 41, 3) := rfl
theorem tX8_see_50 : pm_tb tX8_see 50 = some (.aload_n 0, 1) := rfl
theorem tX8_see_51 : pm_tb tX8_see 51 = some (.iload_n 3, 1) := rfl
theorem tX8_see_52 : pm_tb tX8_see 52 = some (.putfield 150, 3) := rfl
theorem tX8_see_55 : pm_tb tX8_see 55 = some (.aload_n 0, 1) := rfl
theorem tX8_see_56 : pm_tb tX8_see 56 = some (.aload_n 0, 1) := rfl
theorem tX8_see_57 : pm_tb tX8_see 57 = some (.getfield 81, 3) := rfl
theorem tX8_see_60 : pm_tb tX8_see 60 = some (.iload 4, 2) := rfl
theorem tX8_see_62 : pm_tb tX8_see 62 = some (.iaload, 1) := rfl
theorem tX8_see_63 : pm_tb tX8_see 63 = some (.putfield 153, 3) := rfl
theorem tX8_see_66 : pm_tb tX8_see 66 = some (.aload_n 0, 1) := rfl
theorem tX8_see_67 : pm_tb tX8_see 67 = some (.aload_n 0, 1) := rfl
theorem tX8_see_68 : pm_tb tX8_see 68 = some (.getfield 75, 3) := rfl
theorem tX8_see_71 : pm_tb tX8_see 71 = some (.iload 4, 2) := rfl
theorem tX8_see_73 : pm_tb tX8_see 73 = some (.baload, 1) := rfl
theorem tX8_see_74 : pm_tb tX8_see 74 = some (.putfield 156, 3) := rfl
theorem tX8_see_77 : pm_tb tX8_see 77 = some (.aload_n 0, 1) := rfl
theorem tX8_see_78 : pm_tb tX8_see 78 = some (.aload_n 0, 1) := rfl
theorem tX8_see_79 : pm_tb tX8_see 79 = some (.getfield 78, 3) := rfl
theorem tX8_see_82 : pm_tb tX8_see 82 = some (.iload 4, 2) := rfl
theorem tX8_see_84 : pm_tb tX8_see 84 = some (.laload, 1) := rfl
theorem tX8_see_85 : pm_tb tX8_see 85 = some (.putfield 160, 3) := rfl
theorem tX8_see_88 : pm_tb tX8_see 88 = some (.iinc 3 1, 3) := rfl
theorem tX8_see_91 : pm_tb tX8_see 91 = some (.goto (-64), 3) := rfl
theorem tX8_see_94 : pm_tb tX8_see 94 = some (.return_, 1) := rfl
theorem tX8_leafOf_0 : pm_tb tX8_leafOf 0 = some (.lload_n 0, 1) := rfl
theorem tX8_leafOf_1 : pm_tb tX8_leafOf 1 = some (.ldc2_w 164, 3) := rfl
theorem tX8_leafOf_4 : pm_tb tX8_leafOf 4 = some (.lrem, 1) := rfl
theorem tX8_leafOf_5 : pm_tb tX8_leafOf 5 = some (.l2i, 1) := rfl
theorem tX8_leafOf_6 : pm_tb tX8_leafOf 6 = some (.istore_n 2, 1) := rfl
theorem tX8_leafOf_7 : pm_tb tX8_leafOf 7 = some (.iload_n 2, 1) := rfl
theorem tX8_leafOf_8 : pm_tb tX8_leafOf 8 = some (.ifCond .ge 10, 3) := rfl
theorem tX8_leafOf_11 : pm_tb tX8_leafOf 11 = some (.iload_n 2, 1) := rfl
theorem tX8_leafOf_12 : pm_tb tX8_leafOf 12 = some (.bipush 32, 2) := rfl
theorem tX8_leafOf_14 : pm_tb tX8_leafOf 14 = some (.iadd, 1) := rfl
theorem tX8_leafOf_15 : pm_tb tX8_leafOf 15 = some (.goto 4, 3) := rfl
theorem tX8_leafOf_18 : pm_tb tX8_leafOf 18 = some (.iload_n 2, 1) := rfl
theorem tX8_leafOf_19 : pm_tb tX8_leafOf 19 = some (.ireturn, 1) := rfl
theorem tX8_doAct_0 : pm_tb tX8_doAct 0 = some (.bipush 12, 2) := rfl
theorem tX8_doAct_2 : pm_tb tX8_doAct 2 = some (.iload_n 1, 1) := rfl
theorem tX8_doAct_3 : pm_tb tX8_doAct 3 = some (.imul, 1) := rfl
theorem tX8_doAct_4 : pm_tb tX8_doAct 4 = some (.aload_n 0, 1) := rfl
theorem tX8_doAct_5 : pm_tb tX8_doAct 5 = some (.getfield 29, 3) := rfl
theorem tX8_doAct_8 : pm_tb tX8_doAct 8 = some (.iload_n 1, 1) := rfl
theorem tX8_doAct_9 : pm_tb tX8_doAct 9 = some (.iaload, 1) := rfl
theorem tX8_doAct_10 : pm_tb tX8_doAct 10 = some (.iadd, 1) := rfl
theorem tX8_doAct_11 : pm_tb tX8_doAct 11 = some (.istore_n 2, 1) := rfl
theorem tX8_doAct_12 : pm_tb tX8_doAct 12 = some (.iconst 4, 1) := rfl
theorem tX8_doAct_13 : pm_tb tX8_doAct 13 = some (.iload_n 1, 1) := rfl
theorem tX8_doAct_14 : pm_tb tX8_doAct 14 = some (.imul, 1) := rfl
theorem tX8_doAct_15 : pm_tb tX8_doAct 15 = some (.aload_n 0, 1) := rfl
theorem tX8_doAct_16 : pm_tb tX8_doAct 16 = some (.getfield 20, 3) := rfl
theorem tX8_doAct_19 : pm_tb tX8_doAct 19 = some (.iload_n 2, 1) := rfl
theorem tX8_doAct_20 : pm_tb tX8_doAct 20 = some (.iaload, 1) := rfl
theorem tX8_doAct_21 : pm_tb tX8_doAct 21 = some (.iadd, 1) := rfl
theorem tX8_doAct_22 : pm_tb tX8_doAct 22 = some (.istore_n 3, 1) := rfl
theorem tX8_doAct_23 : pm_tb tX8_doAct 23 = some (.iconst 4, 1) := rfl
theorem tX8_doAct_24 : pm_tb tX8_doAct 24 = some (.iload_n 1, 1) := rfl
theorem tX8_doAct_25 : pm_tb tX8_doAct 25 = some (.imul, 1) := rfl
theorem tX8_doAct_26 : pm_tb tX8_doAct 26 = some (.aload_n 0, 1) := rfl
theorem tX8_doAct_27 : pm_tb tX8_doAct 27 = some (.getfield 23, 3) := rfl
theorem tX8_doAct_30 : pm_tb tX8_doAct 30 = some (.iload_n 2, 1) := rfl
theorem tX8_doAct_31 : pm_tb tX8_doAct 31 = some (.iaload, 1) := rfl
theorem tX8_doAct_32 : pm_tb tX8_doAct 32 = some (.iadd, 1) := rfl
theorem tX8_doAct_33 : pm_tb tX8_doAct 33 = some (.istore 4, 2) := rfl
theorem tX8_doAct_35 : pm_tb tX8_doAct 35 = some (.aload_n 0, 1) := rfl
theorem tX8_doAct_36 : pm_tb tX8_doAct 36 = some (.getfield 17, 3) := rfl
theorem tX8_doAct_39 : pm_tb tX8_doAct 39 = some (.iload_n 2, 1) := rfl
theorem tX8_doAct_40 : pm_tb tX8_doAct 40 = some (.iaload, 1) := rfl
theorem tX8_doAct_41 : pm_tb tX8_doAct 41 = some (.istore 5, 2) := rfl
theorem tX8_doAct_43 : pm_tb tX8_doAct 43 = some (.iload 5, 2) := rfl
theorem tX8_doAct_45 : pm_tb tX8_doAct 45 = some (.iconst 1, 1) := rfl
theorem tX8_doAct_46 : pm_tb tX8_doAct 46 = some (.if_icmp .ne 218, 3) := rfl
theorem tX8_doAct_49 : pm_tb tX8_doAct 49 = some (.aload_n 0, 1) := rfl
theorem tX8_doAct_50 : pm_tb tX8_doAct 50 = some (.getfield 26, 3) := rfl
theorem tX8_doAct_53 : pm_tb tX8_doAct 53 = some (.iload_n 2, 1) := rfl
theorem tX8_doAct_54 : pm_tb tX8_doAct 54 = some (.laload, 1) := rfl
theorem tX8_doAct_55 : pm_tb tX8_doAct 55 = some (.aload_n 0, 1) := rfl
theorem tX8_doAct_56 : pm_tb tX8_doAct 56 = some (.getfield 32, 3) := rfl
theorem tX8_doAct_59 : pm_tb tX8_doAct 59 = some (.iload 4, 2) := rfl
theorem tX8_doAct_61 : pm_tb tX8_doAct 61 = some (.laload, 1) := rfl
theorem tX8_doAct_62 : pm_tb tX8_doAct 62 = some (.ladd, 1) := rfl
theorem tX8_doAct_63 : pm_tb tX8_doAct 63 = some (.invokestatic 166, 3) := rfl
theorem tX8_doAct_66 : pm_tb tX8_doAct 66 = some (.istore 6, 2) := rfl
theorem tX8_doAct_68 : pm_tb tX8_doAct 68 = some (.aload_n 0, 1) := rfl
theorem tX8_doAct_69 : pm_tb tX8_doAct 69 = some (.getfield 39, 3) := rfl
theorem tX8_doAct_72 : pm_tb tX8_doAct 72 = some (.bipush 32, 2) := rfl
theorem tX8_doAct_74 : pm_tb tX8_doAct 74 = some (.iload_n 1, 1) := rfl
theorem tX8_doAct_75 : pm_tb tX8_doAct 75 = some (.imul, 1) := rfl
theorem tX8_doAct_76 : pm_tb tX8_doAct 76 = some (.iload 6, 2) := rfl
theorem tX8_doAct_78 : pm_tb tX8_doAct 78 = some (.iadd, 1) := rfl
theorem tX8_doAct_79 : pm_tb tX8_doAct 79 = some (.baload, 1) := rfl
theorem tX8_doAct_80 : pm_tb tX8_doAct 80 = some (.ifCond .eq 24, 3) := rfl
theorem tX8_doAct_83 : pm_tb tX8_doAct 83 = some (.aload_n 0, 1) := rfl
theorem tX8_doAct_84 : pm_tb tX8_doAct 84 = some (.getfield 32, 3) := rfl
theorem tX8_doAct_87 : pm_tb tX8_doAct 87 = some (.iload_n 3, 1) := rfl
theorem tX8_doAct_88 : pm_tb tX8_doAct 88 = some (.aload_n 0, 1) := rfl
theorem tX8_doAct_89 : pm_tb tX8_doAct 89 = some (.getfield 42, 3) := rfl
theorem tX8_doAct_92 : pm_tb tX8_doAct 92 = some (.bipush 32, 2) := rfl
theorem tX8_doAct_94 : pm_tb tX8_doAct 94 = some (.iload_n 1, 1) := rfl
theorem tX8_doAct_95 : pm_tb tX8_doAct 95 = some (.imul, 1) := rfl
theorem tX8_doAct_96 : pm_tb tX8_doAct 96 = some (.iload 6, 2) := rfl
theorem tX8_doAct_98 : pm_tb tX8_doAct 98 = some (.iadd, 1) := rfl
theorem tX8_doAct_99 : pm_tb tX8_doAct 99 = some (.laload, 1) := rfl
theorem tX8_doAct_100 : pm_tb tX8_doAct 100 = some (.lastore, 1) := rfl
theorem tX8_doAct_101 : pm_tb tX8_doAct 101 = some (.goto 160, 3) := rfl
theorem tX8_doAct_104 : pm_tb tX8_doAct 104 = some (.iconst 0, 1) := rfl
theorem tX8_doAct_105 : pm_tb tX8_doAct 105 = some (.istore 7, 2) := rfl
theorem tX8_doAct_107 : pm_tb tX8_doAct 107 = some (.iload 7, 2) := rfl
theorem tX8_doAct_109 : pm_tb tX8_doAct 109 = some (.aload_n 0, 1) := rfl
theorem tX8_doAct_110 : pm_tb tX8_doAct 110 = some (.getfield 45, 3) := rfl
theorem tX8_doAct_113 : pm_tb tX8_doAct 113 = some (.iload_n 1, 1) := rfl
theorem tX8_doAct_114 : pm_tb tX8_doAct 114 = some (.iaload, 1) := rfl
theorem tX8_doAct_115 : pm_tb tX8_doAct 115 = some (.if_icmp .ge 26, 3) := rfl
theorem tX8_doAct_118 : pm_tb tX8_doAct 118 = some (.aload_n 0, 1) := rfl
theorem tX8_doAct_119 : pm_tb tX8_doAct 119 = some (.getfield 48, 3) := rfl
theorem tX8_doAct_122 : pm_tb tX8_doAct 122 = some (.bipush 32, 2) := rfl
theorem tX8_doAct_124 : pm_tb tX8_doAct 124 = some (.iload_n 1, 1) := rfl
theorem tX8_doAct_125 : pm_tb tX8_doAct 125 = some (.imul, 1) := rfl
theorem tX8_doAct_126 : pm_tb tX8_doAct 126 = some (.iload 7, 2) := rfl
theorem tX8_doAct_128 : pm_tb tX8_doAct 128 = some (.iadd, 1) := rfl
theorem tX8_doAct_129 : pm_tb tX8_doAct 129 = some (.iaload, 1) := rfl
theorem tX8_doAct_130 : pm_tb tX8_doAct 130 = some (.iload 6, 2) := rfl
theorem tX8_doAct_132 : pm_tb tX8_doAct 132 = some (.if_icmp .eq 9, 3) := rfl
theorem tX8_doAct_135 : pm_tb tX8_doAct 135 = some (.iinc 7 1, 3) := rfl
theorem tX8_doAct_138 : pm_tb tX8_doAct 138 = some (.goto (-31), 3) := rfl
theorem tX8_doAct_141 : pm_tb tX8_doAct 141 = some (.iload 7, 2) := rfl
theorem tX8_doAct_143 : pm_tb tX8_doAct 143 = some (.aload_n 0, 1) := rfl
theorem tX8_doAct_144 : pm_tb tX8_doAct 144 = some (.getfield 45, 3) := rfl
theorem tX8_doAct_147 : pm_tb tX8_doAct 147 = some (.iload_n 1, 1) := rfl
theorem tX8_doAct_148 : pm_tb tX8_doAct 148 = some (.iaload, 1) := rfl
theorem tX8_doAct_149 : pm_tb tX8_doAct 149 = some (.if_icmp .ne 94, 3) := rfl
theorem tX8_doAct_152 : pm_tb tX8_doAct 152 = some (.aload_n 0, 1) := rfl
theorem tX8_doAct_153 : pm_tb tX8_doAct 153 = some (.iload_n 1, 1) := rfl
theorem tX8_doAct_154 : pm_tb tX8_doAct 154 = some (.iload 6, 2) := rfl
theorem tX8_doAct_156 : pm_tb tX8_doAct 156 = some (.invokevirtual 170, 3) := rfl
theorem tX8_doAct_159 : pm_tb tX8_doAct 159 = some (.aload_n 0, 1) := rfl
theorem tX8_doAct_160 : pm_tb tX8_doAct 160 = some (.getfield 156, 3) := rfl
theorem tX8_doAct_163 : pm_tb tX8_doAct 163 = some (.ifCond .eq 8, 3) := rfl
theorem tX8_doAct_166 : pm_tb tX8_doAct 166 = some (.aload_n 0, 1) := rfl
theorem tX8_doAct_167 : pm_tb tX8_doAct 167 = some (.getfield 150, 3) := rfl
theorem tX8_doAct_170 : pm_tb tX8_doAct 170 = some (.ireturn, 1) := rfl
theorem tX8_doAct_171 : pm_tb tX8_doAct 171 = some (.aload_n 0, 1) := rfl
theorem tX8_doAct_172 : pm_tb tX8_doAct 172 = some (.getfield 48, 3) := rfl
theorem tX8_doAct_175 : pm_tb tX8_doAct 175 = some (.bipush 32, 2) := rfl
theorem tX8_doAct_177 : pm_tb tX8_doAct 177 = some (.iload_n 1, 1) := rfl
theorem tX8_doAct_178 : pm_tb tX8_doAct 178 = some (.imul, 1) := rfl
theorem tX8_doAct_179 : pm_tb tX8_doAct 179 = some (.iload 7, 2) := rfl
theorem tX8_doAct_181 : pm_tb tX8_doAct 181 = some (.iadd, 1) := rfl
theorem tX8_doAct_182 : pm_tb tX8_doAct 182 = some (.iload 6, 2) := rfl
theorem tX8_doAct_184 : pm_tb tX8_doAct 184 = some (.iastore, 1) := rfl
theorem tX8_doAct_185 : pm_tb tX8_doAct 185 = some (.aload_n 0, 1) := rfl
theorem tX8_doAct_186 : pm_tb tX8_doAct 186 = some (.getfield 51, 3) := rfl
theorem tX8_doAct_189 : pm_tb tX8_doAct 189 = some (.bipush 32, 2) := rfl
theorem tX8_doAct_191 : pm_tb tX8_doAct 191 = some (.iload_n 1, 1) := rfl
theorem tX8_doAct_192 : pm_tb tX8_doAct 192 = some (.imul, 1) := rfl
theorem tX8_doAct_193 : pm_tb tX8_doAct 193 = some (.iload 7, 2) := rfl
theorem tX8_doAct_195 : pm_tb tX8_doAct 195 = some (.iadd, 1) := rfl
theorem tX8_doAct_196 : pm_tb tX8_doAct 196 = some (.aload_n 0, 1) := rfl
theorem tX8_doAct_197 : pm_tb tX8_doAct 197 = some (.getfield 150, 3) := rfl
theorem tX8_doAct_200 : pm_tb tX8_doAct 200 = some (.iastore, 1) := rfl
theorem tX8_doAct_201 : pm_tb tX8_doAct 201 = some (.aload_n 0, 1) := rfl
theorem tX8_doAct_202 : pm_tb tX8_doAct 202 = some (.getfield 54, 3) := rfl
theorem tX8_doAct_205 : pm_tb tX8_doAct 205 = some (.bipush 32, 2) := rfl
theorem tX8_doAct_207 : pm_tb tX8_doAct 207 = some (.iload_n 1, 1) := rfl
theorem tX8_doAct_208 : pm_tb tX8_doAct 208 = some (.imul, 1) := rfl
theorem tX8_doAct_209 : pm_tb tX8_doAct 209 = some (.iload 7, 2) := rfl
theorem tX8_doAct_211 : pm_tb tX8_doAct 211 = some (.iadd, 1) := rfl
theorem tX8_doAct_212 : pm_tb tX8_doAct 212 = some (.aload_n 0, 1) := rfl
theorem tX8_doAct_213 : pm_tb tX8_doAct 213 = some (.getfield 153, 3) := rfl
theorem tX8_doAct_216 : pm_tb tX8_doAct 216 = some (.iastore, 1) := rfl
theorem tX8_doAct_217 : pm_tb tX8_doAct 217 = some (.aload_n 0, 1) := rfl
theorem tX8_doAct_218 : pm_tb tX8_doAct 218 = some (.getfield 57, 3) := rfl
theorem tX8_doAct_221 : pm_tb tX8_doAct 221 = some (.bipush 32, 2) := rfl
theorem tX8_doAct_223 : pm_tb tX8_doAct 223 = some (.iload_n 1, 1) := rfl
theorem tX8_doAct_224 : pm_tb tX8_doAct 224 = some (.imul, 1) := rfl
theorem tX8_doAct_225 : pm_tb tX8_doAct 225 = some (.iload 7, 2) := rfl
theorem tX8_doAct_227 : pm_tb tX8_doAct 227 = some (.iadd, 1) := rfl
theorem tX8_doAct_228 : pm_tb tX8_doAct 228 = some (.aload_n 0, 1) := rfl
theorem tX8_doAct_229 : pm_tb tX8_doAct 229 = some (.getfield 160, 3) := rfl
theorem tX8_doAct_232 : pm_tb tX8_doAct 232 = some (.lastore, 1) := rfl
theorem tX8_doAct_233 : pm_tb tX8_doAct 233 = some (.aload_n 0, 1) := rfl
theorem tX8_doAct_234 : pm_tb tX8_doAct 234 = some (.getfield 45, 3) := rfl
theorem tX8_doAct_237 : pm_tb tX8_doAct 237 = some (.iload_n 1, 1) := rfl
theorem tX8_doAct_238 : pm_tb tX8_doAct 238 = some (.dup2, 1) := rfl
theorem tX8_doAct_239 : pm_tb tX8_doAct 239 = some (.iaload, 1) := rfl
theorem tX8_doAct_240 : pm_tb tX8_doAct 240 = some (.iconst 1, 1) := rfl
theorem tX8_doAct_241 : pm_tb tX8_doAct 241 = some (.iadd, 1) := rfl
theorem tX8_doAct_242 : pm_tb tX8_doAct 242 = some (.iastore, 1) := rfl
theorem tX8_doAct_243 : pm_tb tX8_doAct 243 = some (.aload_n 0, 1) := rfl
theorem tX8_doAct_244 : pm_tb tX8_doAct 244 = some (.getfield 32, 3) := rfl
theorem tX8_doAct_247 : pm_tb tX8_doAct 247 = some (.iload_n 3, 1) := rfl
theorem tX8_doAct_248 : pm_tb tX8_doAct 248 = some (.aload_n 0, 1) := rfl
theorem tX8_doAct_249 : pm_tb tX8_doAct 249 = some (.getfield 57, 3) := rfl
theorem tX8_doAct_252 : pm_tb tX8_doAct 252 = some (.bipush 32, 2) := rfl
theorem tX8_doAct_254 : pm_tb tX8_doAct 254 = some (.iload_n 1, 1) := rfl
theorem tX8_doAct_255 : pm_tb tX8_doAct 255 = some (.imul, 1) := rfl
theorem tX8_doAct_256 : pm_tb tX8_doAct 256 = some (.iload 7, 2) := rfl
theorem tX8_doAct_258 : pm_tb tX8_doAct 258 = some (.iadd, 1) := rfl
theorem tX8_doAct_259 : pm_tb tX8_doAct 259 = some (.laload, 1) := rfl
theorem tX8_doAct_260 : pm_tb tX8_doAct 260 = some (.lastore, 1) := rfl
theorem tX8_doAct_261 : pm_tb tX8_doAct 261 = some (.goto 272, 3) := rfl
theorem tX8_doAct_264 : pm_tb tX8_doAct 264 = some (.iload 5, 2) := rfl
theorem tX8_doAct_266 : pm_tb tX8_doAct 266 = some (.ifCond .ne 18, 3) := rfl
theorem tX8_doAct_269 : pm_tb tX8_doAct 269 = some (.aload_n 0, 1) := rfl
theorem tX8_doAct_270 : pm_tb tX8_doAct 270 = some (.getfield 32, 3) := rfl
theorem tX8_doAct_273 : pm_tb tX8_doAct 273 = some (.iload_n 3, 1) := rfl
theorem tX8_doAct_274 : pm_tb tX8_doAct 274 = some (.aload_n 0, 1) := rfl
theorem tX8_doAct_275 : pm_tb tX8_doAct 275 = some (.getfield 26, 3) := rfl
theorem tX8_doAct_278 : pm_tb tX8_doAct 278 = some (.iload_n 2, 1) := rfl
theorem tX8_doAct_279 : pm_tb tX8_doAct 279 = some (.laload, 1) := rfl
theorem tX8_doAct_280 : pm_tb tX8_doAct 280 = some (.lastore, 1) := rfl
theorem tX8_doAct_281 : pm_tb tX8_doAct 281 = some (.goto 252, 3) := rfl
theorem tX8_doAct_284 : pm_tb tX8_doAct 284 = some (.iload 5, 2) := rfl
theorem tX8_doAct_286 : pm_tb tX8_doAct 286 = some (.iconst 2, 1) := rfl
theorem tX8_doAct_287 : pm_tb tX8_doAct 287 = some (.if_icmp .ne 56, 3) := rfl
theorem tX8_doAct_290 : pm_tb tX8_doAct 290 = some (.aload_n 0, 1) := rfl
theorem tX8_doAct_291 : pm_tb tX8_doAct 291 = some (.getfield 26, 3) := rfl
theorem tX8_doAct_294 : pm_tb tX8_doAct 294 = some (.iload_n 2, 1) := rfl
theorem tX8_doAct_295 : pm_tb tX8_doAct 295 = some (.laload, 1) := rfl
theorem tX8_doAct_296 : pm_tb tX8_doAct 296 = some (.aload_n 0, 1) := rfl
theorem tX8_doAct_297 : pm_tb tX8_doAct 297 = some (.getfield 32, 3) := rfl
theorem tX8_doAct_300 : pm_tb tX8_doAct 300 = some (.iload 4, 2) := rfl
theorem tX8_doAct_302 : pm_tb tX8_doAct 302 = some (.laload, 1) := rfl
theorem tX8_doAct_303 : pm_tb tX8_doAct 303 = some (.ladd, 1) := rfl
theorem tX8_doAct_304 : pm_tb tX8_doAct 304 = some (.invokestatic 166, 3) := rfl
theorem tX8_doAct_307 : pm_tb tX8_doAct 307 = some (.istore 6, 2) := rfl
theorem tX8_doAct_309 : pm_tb tX8_doAct 309 = some (.aload_n 0, 1) := rfl
theorem tX8_doAct_310 : pm_tb tX8_doAct 310 = some (.getfield 39, 3) := rfl
theorem tX8_doAct_313 : pm_tb tX8_doAct 313 = some (.bipush 32, 2) := rfl
theorem tX8_doAct_315 : pm_tb tX8_doAct 315 = some (.iload_n 1, 1) := rfl
theorem tX8_doAct_316 : pm_tb tX8_doAct 316 = some (.imul, 1) := rfl
theorem tX8_doAct_317 : pm_tb tX8_doAct 317 = some (.iload 6, 2) := rfl
theorem tX8_doAct_319 : pm_tb tX8_doAct 319 = some (.iadd, 1) := rfl
theorem tX8_doAct_320 : pm_tb tX8_doAct 320 = some (.iconst 1, 1) := rfl
theorem tX8_doAct_321 : pm_tb tX8_doAct 321 = some (.bastore, 1) := rfl
theorem tX8_doAct_322 : pm_tb tX8_doAct 322 = some (.aload_n 0, 1) := rfl
theorem tX8_doAct_323 : pm_tb tX8_doAct 323 = some (.getfield 42, 3) := rfl
theorem tX8_doAct_326 : pm_tb tX8_doAct 326 = some (.bipush 32, 2) := rfl
theorem tX8_doAct_328 : pm_tb tX8_doAct 328 = some (.iload_n 1, 1) := rfl
theorem tX8_doAct_329 : pm_tb tX8_doAct 329 = some (.imul, 1) := rfl
theorem tX8_doAct_330 : pm_tb tX8_doAct 330 = some (.iload 6, 2) := rfl
theorem tX8_doAct_332 : pm_tb tX8_doAct 332 = some (.iadd, 1) := rfl
theorem tX8_doAct_333 : pm_tb tX8_doAct 333 = some (.aload_n 0, 1) := rfl
theorem tX8_doAct_334 : pm_tb tX8_doAct 334 = some (.getfield 32, 3) := rfl
theorem tX8_doAct_337 : pm_tb tX8_doAct 337 = some (.iload_n 3, 1) := rfl
theorem tX8_doAct_338 : pm_tb tX8_doAct 338 = some (.laload, 1) := rfl
theorem tX8_doAct_339 : pm_tb tX8_doAct 339 = some (.lastore, 1) := rfl
theorem tX8_doAct_340 : pm_tb tX8_doAct 340 = some (.goto 193, 3) := rfl
theorem tX8_doAct_343 : pm_tb tX8_doAct 343 = some (.iload 5, 2) := rfl
theorem tX8_doAct_345 : pm_tb tX8_doAct 345 = some (.iconst 3, 1) := rfl
theorem tX8_doAct_346 : pm_tb tX8_doAct 346 = some (.if_icmp .ne 26, 3) := rfl
theorem tX8_doAct_349 : pm_tb tX8_doAct 349 = some (.aload_n 0, 1) := rfl
theorem tX8_doAct_350 : pm_tb tX8_doAct 350 = some (.getfield 32, 3) := rfl
theorem tX8_doAct_353 : pm_tb tX8_doAct 353 = some (.iload_n 3, 1) := rfl
theorem tX8_doAct_354 : pm_tb tX8_doAct 354 = some (.aload_n 0, 1) := rfl
theorem tX8_doAct_355 : pm_tb tX8_doAct 355 = some (.getfield 32, 3) := rfl
theorem tX8_doAct_358 : pm_tb tX8_doAct 358 = some (.iload_n 3, 1) := rfl
theorem tX8_doAct_359 : pm_tb tX8_doAct 359 = some (.laload, 1) := rfl
theorem tX8_doAct_360 : pm_tb tX8_doAct 360 = some (.aload_n 0, 1) := rfl
theorem tX8_doAct_361 : pm_tb tX8_doAct 361 = some (.getfield 32, 3) := rfl
theorem tX8_doAct_364 : pm_tb tX8_doAct 364 = some (.iload 4, 2) := rfl
theorem tX8_doAct_366 : pm_tb tX8_doAct 366 = some (.laload, 1) := rfl
theorem tX8_doAct_367 : pm_tb tX8_doAct 367 = some (.ladd, 1) := rfl
theorem tX8_doAct_368 : pm_tb tX8_doAct 368 = some (.lastore, 1) := rfl
theorem tX8_doAct_369 : pm_tb tX8_doAct 369 = some (.goto 164, 3) := rfl
theorem tX8_doAct_372 : pm_tb tX8_doAct 372 = some (.iload 5, 2) := rfl
theorem tX8_doAct_374 : pm_tb tX8_doAct 374 = some (.iconst 4, 1) := rfl
theorem tX8_doAct_375 : pm_tb tX8_doAct 375 = some (.if_icmp .ne 26, 3) := rfl
theorem tX8_doAct_378 : pm_tb tX8_doAct 378 = some (.aload_n 0, 1) := rfl
theorem tX8_doAct_379 : pm_tb tX8_doAct 379 = some (.getfield 32, 3) := rfl
theorem tX8_doAct_382 : pm_tb tX8_doAct 382 = some (.iload_n 3, 1) := rfl
theorem tX8_doAct_383 : pm_tb tX8_doAct 383 = some (.aload_n 0, 1) := rfl
theorem tX8_doAct_384 : pm_tb tX8_doAct 384 = some (.getfield 32, 3) := rfl
theorem tX8_doAct_387 : pm_tb tX8_doAct 387 = some (.iload_n 3, 1) := rfl
theorem tX8_doAct_388 : pm_tb tX8_doAct 388 = some (.laload, 1) := rfl
theorem tX8_doAct_389 : pm_tb tX8_doAct 389 = some (.aload_n 0, 1) := rfl
theorem tX8_doAct_390 : pm_tb tX8_doAct 390 = some (.getfield 32, 3) := rfl
theorem tX8_doAct_393 : pm_tb tX8_doAct 393 = some (.iload 4, 2) := rfl
theorem tX8_doAct_395 : pm_tb tX8_doAct 395 = some (.laload, 1) := rfl
theorem tX8_doAct_396 : pm_tb tX8_doAct 396 = some (.lsub, 1) := rfl
theorem tX8_doAct_397 : pm_tb tX8_doAct 397 = some (.lastore, 1) := rfl
theorem tX8_doAct_398 : pm_tb tX8_doAct 398 = some (.goto 135, 3) := rfl
theorem tX8_doAct_401 : pm_tb tX8_doAct 401 = some (.iload 5, 2) := rfl
theorem tX8_doAct_403 : pm_tb tX8_doAct 403 = some (.iconst 5, 1) := rfl
theorem tX8_doAct_404 : pm_tb tX8_doAct 404 = some (.if_icmp .ne 26, 3) := rfl
theorem tX8_doAct_407 : pm_tb tX8_doAct 407 = some (.aload_n 0, 1) := rfl
theorem tX8_doAct_408 : pm_tb tX8_doAct 408 = some (.getfield 32, 3) := rfl
theorem tX8_doAct_411 : pm_tb tX8_doAct 411 = some (.iload_n 3, 1) := rfl
theorem tX8_doAct_412 : pm_tb tX8_doAct 412 = some (.aload_n 0, 1) := rfl
theorem tX8_doAct_413 : pm_tb tX8_doAct 413 = some (.getfield 32, 3) := rfl
theorem tX8_doAct_416 : pm_tb tX8_doAct 416 = some (.iload_n 3, 1) := rfl
theorem tX8_doAct_417 : pm_tb tX8_doAct 417 = some (.laload, 1) := rfl
theorem tX8_doAct_418 : pm_tb tX8_doAct 418 = some (.aload_n 0, 1) := rfl
theorem tX8_doAct_419 : pm_tb tX8_doAct 419 = some (.getfield 32, 3) := rfl
theorem tX8_doAct_422 : pm_tb tX8_doAct 422 = some (.iload 4, 2) := rfl
theorem tX8_doAct_424 : pm_tb tX8_doAct 424 = some (.laload, 1) := rfl
theorem tX8_doAct_425 : pm_tb tX8_doAct 425 = some (.lmul, 1) := rfl
theorem tX8_doAct_426 : pm_tb tX8_doAct 426 = some (.lastore, 1) := rfl
theorem tX8_doAct_427 : pm_tb tX8_doAct 427 = some (.goto 106, 3) := rfl
theorem tX8_doAct_430 : pm_tb tX8_doAct 430 = some (.iload 5, 2) := rfl
theorem tX8_doAct_432 : pm_tb tX8_doAct 432 = some (.bipush 6, 2) := rfl
theorem tX8_doAct_434 : pm_tb tX8_doAct 434 = some (.if_icmp .ne 39, 3) := rfl
theorem tX8_doAct_437 : pm_tb tX8_doAct 437 = some (.aload_n 0, 1) := rfl
theorem tX8_doAct_438 : pm_tb tX8_doAct 438 = some (.getfield 32, 3) := rfl
theorem tX8_doAct_441 : pm_tb tX8_doAct 441 = some (.iload_n 3, 1) := rfl
theorem tX8_doAct_442 : pm_tb tX8_doAct 442 = some (.laload, 1) := rfl
theorem tX8_doAct_443 : pm_tb tX8_doAct 443 = some (.aload_n 0, 1) := rfl
theorem tX8_doAct_444 : pm_tb tX8_doAct 444 = some (.getfield 32, 3) := rfl
theorem tX8_doAct_447 : pm_tb tX8_doAct 447 = some (.iload 4, 2) := rfl
theorem tX8_doAct_449 : pm_tb tX8_doAct 449 = some (.laload, 1) := rfl
theorem tX8_doAct_450 : pm_tb tX8_doAct 450 = some (.lcmp, 1) := rfl
theorem tX8_doAct_451 : pm_tb tX8_doAct 451 = some (.ifCond .ge 82, 3) := rfl
theorem tX8_doAct_454 : pm_tb tX8_doAct 454 = some (.aload_n 0, 1) := rfl
theorem tX8_doAct_455 : pm_tb tX8_doAct 455 = some (.getfield 29, 3) := rfl
theorem tX8_doAct_458 : pm_tb tX8_doAct 458 = some (.iload_n 1, 1) := rfl
theorem tX8_doAct_459 : pm_tb tX8_doAct 459 = some (.dup2, 1) := rfl
theorem tX8_doAct_460 : pm_tb tX8_doAct 460 = some (.iaload, 1) := rfl
theorem tX8_doAct_461 : pm_tb tX8_doAct 461 = some (.aload_n 0, 1) := rfl
theorem tX8_doAct_462 : pm_tb tX8_doAct 462 = some (.getfield 26, 3) := rfl
theorem tX8_doAct_465 : pm_tb tX8_doAct 465 = some (.iload_n 2, 1) := rfl
theorem tX8_doAct_466 : pm_tb tX8_doAct 466 = some (.laload, 1) := rfl
theorem tX8_doAct_467 : pm_tb tX8_doAct 467 = some (.l2i, 1) := rfl
theorem tX8_doAct_468 : pm_tb tX8_doAct 468 = some (.iadd, 1) := rfl
theorem tX8_doAct_469 : pm_tb tX8_doAct 469 = some (.iastore, 1) := rfl
theorem tX8_doAct_470 : pm_tb tX8_doAct 470 = some (.goto 63, 3) := rfl
theorem tX8_doAct_473 : pm_tb tX8_doAct 473 = some (.iload 5, 2) := rfl
theorem tX8_doAct_475 : pm_tb tX8_doAct 475 = some (.bipush 7, 2) := rfl
theorem tX8_doAct_477 : pm_tb tX8_doAct 477 = some (.if_icmp .ne 38, 3) := rfl
theorem tX8_doAct_480 : pm_tb tX8_doAct 480 = some (.aload_n 0, 1) := rfl
theorem tX8_doAct_481 : pm_tb tX8_doAct 481 = some (.getfield 63, 3) := rfl
theorem tX8_doAct_484 : pm_tb tX8_doAct 484 = some (.bipush 12, 2) := rfl
theorem tX8_doAct_486 : pm_tb tX8_doAct 486 = some (.iload_n 1, 1) := rfl
theorem tX8_doAct_487 : pm_tb tX8_doAct 487 = some (.imul, 1) := rfl
theorem tX8_doAct_488 : pm_tb tX8_doAct 488 = some (.aload_n 0, 1) := rfl
theorem tX8_doAct_489 : pm_tb tX8_doAct 489 = some (.getfield 60, 3) := rfl
theorem tX8_doAct_492 : pm_tb tX8_doAct 492 = some (.iload_n 1, 1) := rfl
theorem tX8_doAct_493 : pm_tb tX8_doAct 493 = some (.iaload, 1) := rfl
theorem tX8_doAct_494 : pm_tb tX8_doAct 494 = some (.iadd, 1) := rfl
theorem tX8_doAct_495 : pm_tb tX8_doAct 495 = some (.aload_n 0, 1) := rfl
theorem tX8_doAct_496 : pm_tb tX8_doAct 496 = some (.getfield 32, 3) := rfl
theorem tX8_doAct_499 : pm_tb tX8_doAct 499 = some (.iload_n 3, 1) := rfl
theorem tX8_doAct_500 : pm_tb tX8_doAct 500 = some (.laload, 1) := rfl
theorem tX8_doAct_501 : pm_tb tX8_doAct 501 = some (.lastore, 1) := rfl
theorem tX8_doAct_502 : pm_tb tX8_doAct 502 = some (.aload_n 0, 1) := rfl
theorem tX8_doAct_503 : pm_tb tX8_doAct 503 = some (.getfield 60, 3) := rfl
theorem tX8_doAct_506 : pm_tb tX8_doAct 506 = some (.iload_n 1, 1) := rfl
theorem tX8_doAct_507 : pm_tb tX8_doAct 507 = some (.dup2, 1) := rfl
theorem tX8_doAct_508 : pm_tb tX8_doAct 508 = some (.iaload, 1) := rfl
theorem tX8_doAct_509 : pm_tb tX8_doAct 509 = some (.iconst 1, 1) := rfl
theorem tX8_doAct_510 : pm_tb tX8_doAct 510 = some (.iadd, 1) := rfl
theorem tX8_doAct_511 : pm_tb tX8_doAct 511 = some (.iastore, 1) := rfl
theorem tX8_doAct_512 : pm_tb tX8_doAct 512 = some (.goto 21, 3) := rfl
theorem tX8_doAct_515 : pm_tb tX8_doAct 515 = some (.aload_n 0, 1) := rfl
theorem tX8_doAct_516 : pm_tb tX8_doAct 516 = some (.getfield 32, 3) := rfl
theorem tX8_doAct_519 : pm_tb tX8_doAct 519 = some (.iload_n 3, 1) := rfl
theorem tX8_doAct_520 : pm_tb tX8_doAct 520 = some (.laload, 1) := rfl
theorem tX8_doAct_521 : pm_tb tX8_doAct 521 = some (.lconst 0, 1) := rfl
theorem tX8_doAct_522 : pm_tb tX8_doAct 522 = some (.lcmp, 1) := rfl
theorem tX8_doAct_523 : pm_tb tX8_doAct 523 = some (.ifCond .ge 10, 3) := rfl
theorem tX8_doAct_526 : pm_tb tX8_doAct 526 = some (.aload_n 0, 1) := rfl
theorem tX8_doAct_527 : pm_tb tX8_doAct 527 = some (.getfield 35, 3) := rfl
theorem tX8_doAct_530 : pm_tb tX8_doAct 530 = some (.iload_n 1, 1) := rfl
theorem tX8_doAct_531 : pm_tb tX8_doAct 531 = some (.iconst 1, 1) := rfl
theorem tX8_doAct_532 : pm_tb tX8_doAct 532 = some (.bastore, 1) := rfl
theorem tX8_doAct_533 : pm_tb tX8_doAct 533 = some (.aload_n 0, 1) := rfl
theorem tX8_doAct_534 : pm_tb tX8_doAct 534 = some (.getfield 29, 3) := rfl
theorem tX8_doAct_537 : pm_tb tX8_doAct 537 = some (.iload_n 1, 1) := rfl
theorem tX8_doAct_538 : pm_tb tX8_doAct 538 = some (.dup2, 1) := rfl
theorem tX8_doAct_539 : pm_tb tX8_doAct 539 = some (.iaload, 1) := rfl
theorem tX8_doAct_540 : pm_tb tX8_doAct 540 = some (.iconst 1, 1) := rfl
theorem tX8_doAct_541 : pm_tb tX8_doAct 541 = some (.iadd, 1) := rfl
theorem tX8_doAct_542 : pm_tb tX8_doAct 542 = some (.iastore, 1) := rfl
theorem tX8_doAct_543 : pm_tb tX8_doAct 543 = some (.aload_n 0, 1) := rfl
theorem tX8_doAct_544 : pm_tb tX8_doAct 544 = some (.getfield 69, 3) := rfl
theorem tX8_doAct_547 : pm_tb tX8_doAct 547 = some (.iload_n 1, 1) := rfl
theorem tX8_doAct_548 : pm_tb tX8_doAct 548 = some (.dup2, 1) := rfl
theorem tX8_doAct_549 : pm_tb tX8_doAct 549 = some (.iaload, 1) := rfl
theorem tX8_doAct_550 : pm_tb tX8_doAct 550 = some (.iconst 1, 1) := rfl
theorem tX8_doAct_551 : pm_tb tX8_doAct 551 = some (.iadd, 1) := rfl
theorem tX8_doAct_552 : pm_tb tX8_doAct 552 = some (.iastore, 1) := rfl
theorem tX8_doAct_553 : pm_tb tX8_doAct 553 = some (.aload_n 0, 1) := rfl
theorem tX8_doAct_554 : pm_tb tX8_doAct 554 = some (.dup, 1) := rfl
theorem tX8_doAct_555 : pm_tb tX8_doAct 555 = some (.getfield 174, 3) := rfl
theorem tX8_doAct_558 : pm_tb tX8_doAct 558 = some (.iconst 1, 1) := rfl
theorem tX8_doAct_559 : pm_tb tX8_doAct 559 = some (.iadd, 1) := rfl
theorem tX8_doAct_560 : pm_tb tX8_doAct 560 = some (.putfield 174, 3) := rfl
theorem tX8_doAct_563 : pm_tb tX8_doAct 563 = some (.iconst (-1), 1) := rfl
theorem tX8_doAct_564 : pm_tb tX8_doAct 564 = some (.ireturn, 1) := rfl
theorem tX8_isOver_0 : pm_tb tX8_isOver 0 = some (.aload_n 0, 1) := rfl
theorem tX8_isOver_1 : pm_tb tX8_isOver 1 = some (.getfield 35, 3) := rfl
theorem tX8_isOver_4 : pm_tb tX8_isOver 4 = some (.iload_n 1, 1) := rfl
theorem tX8_isOver_5 : pm_tb tX8_isOver 5 = some (.baload, 1) := rfl
theorem tX8_isOver_6 : pm_tb tX8_isOver 6 = some (.ifCond .ne 18, 3) := rfl
theorem tX8_isOver_9 : pm_tb tX8_isOver 9 = some (.aload_n 0, 1) := rfl
theorem tX8_isOver_10 : pm_tb tX8_isOver 10 = some (.getfield 29, 3) := rfl
theorem tX8_isOver_13 : pm_tb tX8_isOver 13 = some (.iload_n 1, 1) := rfl
theorem tX8_isOver_14 : pm_tb tX8_isOver 14 = some (.iaload, 1) := rfl
theorem tX8_isOver_15 : pm_tb tX8_isOver 15 = some (.aload_n 0, 1) := rfl
theorem tX8_isOver_16 : pm_tb tX8_isOver 16 = some (.getfield 13, 3) := rfl
theorem tX8_isOver_19 : pm_tb tX8_isOver 19 = some (.iload_n 1, 1) := rfl
theorem tX8_isOver_20 : pm_tb tX8_isOver 20 = some (.iaload, 1) := rfl
theorem tX8_isOver_21 : pm_tb tX8_isOver 21 = some (.if_icmp .lt 7, 3) := rfl
theorem tX8_isOver_24 : pm_tb tX8_isOver 24 = some (.iconst 1, 1) := rfl
theorem tX8_isOver_25 : pm_tb tX8_isOver 25 = some (.goto 4, 3) := rfl
theorem tX8_isOver_28 : pm_tb tX8_isOver 28 = some (.iconst 0, 1) := rfl
theorem tX8_isOver_29 : pm_tb tX8_isOver 29 = some (.ireturn, 1) := rfl
theorem tX8_conflict0_0 : pm_tb tX8_conflict0 0 = some (.aload_n 0, 1) := rfl
theorem tX8_conflict0_1 : pm_tb tX8_conflict0 1 = some (.getfield 177, 3) := rfl
theorem tX8_conflict0_4 : pm_tb tX8_conflict0 4 = some (.sipush 200, 3) := rfl
theorem tX8_conflict0_7 : pm_tb tX8_conflict0 7 = some (.if_icmp .ge 23, 3) := rfl
theorem tX8_conflict0_10 : pm_tb tX8_conflict0 10 = some (.aload_n 0, 1) := rfl
theorem tX8_conflict0_11 : pm_tb tX8_conflict0 11 = some (.getfield 105, 3) := rfl
theorem tX8_conflict0_14 : pm_tb tX8_conflict0 14 = some (.aload_n 0, 1) := rfl
theorem tX8_conflict0_15 : pm_tb tX8_conflict0 15 = some (.getfield 177, 3) := rfl
theorem tX8_conflict0_18 : pm_tb tX8_conflict0 18 = some (.iload_n 1, 1) := rfl
theorem tX8_conflict0_19 : pm_tb tX8_conflict0 19 = some (.iastore, 1) := rfl
theorem tX8_conflict0_20 : pm_tb tX8_conflict0 20 = some (.aload_n 0, 1) := rfl
theorem tX8_conflict0_21 : pm_tb tX8_conflict0 21 = some (.getfield 108, 3) := rfl
theorem tX8_conflict0_24 : pm_tb tX8_conflict0 24 = some (.aload_n 0, 1) := rfl
theorem tX8_conflict0_25 : pm_tb tX8_conflict0 25 = some (.getfield 177, 3) := rfl
theorem tX8_conflict0_28 : pm_tb tX8_conflict0 28 = some (.iload_n 2, 1) := rfl
theorem tX8_conflict0_29 : pm_tb tX8_conflict0 29 = some (.iastore, 1) := rfl
theorem tX8_conflict0_30 : pm_tb tX8_conflict0 30 = some (.aload_n 0, 1) := rfl
theorem tX8_conflict0_31 : pm_tb tX8_conflict0 31 = some (.dup, 1) := rfl
theorem tX8_conflict0_32 : pm_tb tX8_conflict0 32 = some (.getfield 177, 3) := rfl
theorem tX8_conflict0_35 : pm_tb tX8_conflict0 35 = some (.iconst 1, 1) := rfl
theorem tX8_conflict0_36 : pm_tb tX8_conflict0 36 = some (.iadd, 1) := rfl
theorem tX8_conflict0_37 : pm_tb tX8_conflict0 37 = some (.putfield 177, 3) := rfl
theorem tX8_conflict0_40 : pm_tb tX8_conflict0 40 = some (.return_, 1) := rfl
theorem tX8_isDone_0 : pm_tb tX8_isDone 0 = some (.iconst 1, 1) := rfl
theorem tX8_isDone_1 : pm_tb tX8_isDone 1 = some (.istore_n 2, 1) := rfl
theorem tX8_isDone_2 : pm_tb tX8_isDone 2 = some (.iconst 0, 1) := rfl
theorem tX8_isDone_3 : pm_tb tX8_isDone 3 = some (.istore_n 3, 1) := rfl
theorem tX8_isDone_4 : pm_tb tX8_isDone 4 = some (.iload_n 3, 1) := rfl
theorem tX8_isDone_5 : pm_tb tX8_isDone 5 = some (.iload_n 1, 1) := rfl
theorem tX8_isDone_6 : pm_tb tX8_isDone 6 = some (.if_icmp .ge 28, 3) := rfl
theorem tX8_isDone_9 : pm_tb tX8_isDone 9 = some (.iload_n 2, 1) := rfl
theorem tX8_isDone_10 : pm_tb tX8_isDone 10 = some (.ifCond .eq 16, 3) := rfl
theorem tX8_isDone_13 : pm_tb tX8_isDone 13 = some (.aload_n 0, 1) := rfl
theorem tX8_isDone_14 : pm_tb tX8_isDone 14 = some (.getfield 93, 3) := rfl
theorem tX8_isDone_17 : pm_tb tX8_isDone 17 = some (.iload_n 3, 1) := rfl
theorem tX8_isDone_18 : pm_tb tX8_isDone 18 = some (.iaload, 1) := rfl
theorem tX8_isDone_19 : pm_tb tX8_isDone 19 = some (.ifCond .ne 7, 3) := rfl
theorem tX8_isDone_22 : pm_tb tX8_isDone 22 = some (.iconst 1, 1) := rfl
theorem tX8_isDone_23 : pm_tb tX8_isDone 23 = some (.goto 4, 3) := rfl
theorem tX8_isDone_26 : pm_tb tX8_isDone 26 = some (.iconst 0, 1) := rfl
theorem tX8_isDone_27 : pm_tb tX8_isDone 27 = some (.istore_n 2, 1) := rfl
theorem tX8_isDone_28 : pm_tb tX8_isDone 28 = some (.iinc 3 1, 3) := rfl
theorem tX8_isDone_31 : pm_tb tX8_isDone 31 = some (.goto (-27), 3) := rfl
theorem tX8_isDone_34 : pm_tb tX8_isDone 34 = some (.iload_n 2, 1) := rfl
theorem tX8_isDone_35 : pm_tb tX8_isDone 35 = some (.ifCond .eq 29, 3) := rfl
theorem tX8_isDone_38 : pm_tb tX8_isDone 38 = some (.aload_n 0, 1) := rfl
theorem tX8_isDone_39 : pm_tb tX8_isDone 39 = some (.getfield 198, 3) := rfl
theorem tX8_isDone_42 : pm_tb tX8_isDone 42 = some (.aload_n 0, 1) := rfl
theorem tX8_isDone_43 : pm_tb tX8_isDone 43 = some (.getfield 145, 3) := rfl
theorem tX8_isDone_46 : pm_tb tX8_isDone 46 = some (.if_icmp .lt 18, 3) := rfl
theorem tX8_isDone_49 : pm_tb tX8_isDone 49 = some (.aload_n 0, 1) := rfl
theorem tX8_isDone_50 : pm_tb tX8_isDone 50 = some (.getfield 201, 3) := rfl
theorem tX8_isDone_53 : pm_tb tX8_isDone 53 = some (.aload_n 0, 1) := rfl
theorem tX8_isDone_54 : pm_tb tX8_isDone 54 = some (.getfield 145, 3) := rfl
theorem tX8_isDone_57 : pm_tb tX8_isDone 57 = some (.if_icmp .lt 7, 3) := rfl
theorem tX8_isDone_60 : pm_tb tX8_isDone 60 = some (.iconst 1, 1) := rfl
theorem tX8_isDone_61 : pm_tb tX8_isDone 61 = some (.goto 4, 3) := rfl
theorem tX8_isDone_64 : pm_tb tX8_isDone 64 = some (.iconst 0, 1) := rfl
theorem tX8_isDone_65 : pm_tb tX8_isDone 65 = some (.ireturn, 1) := rfl
theorem tX8_toLook_0 : pm_tb tX8_toLook 0 = some (.aload_n 0, 1) := rfl
theorem tX8_toLook_1 : pm_tb tX8_toLook 1 = some (.getfield 93, 3) := rfl
theorem tX8_toLook_4 : pm_tb tX8_toLook 4 = some (.iload_n 1, 1) := rfl
theorem tX8_toLook_5 : pm_tb tX8_toLook 5 = some (.iconst 2, 1) := rfl
theorem tX8_toLook_6 : pm_tb tX8_toLook 6 = some (.iastore, 1) := rfl
theorem tX8_toLook_7 : pm_tb tX8_toLook 7 = some (.aload_n 0, 1) := rfl
theorem tX8_toLook_8 : pm_tb tX8_toLook 8 = some (.getfield 96, 3) := rfl
theorem tX8_toLook_11 : pm_tb tX8_toLook 11 = some (.iload_n 1, 1) := rfl
theorem tX8_toLook_12 : pm_tb tX8_toLook 12 = some (.iload_n 2, 1) := rfl
theorem tX8_toLook_13 : pm_tb tX8_toLook 13 = some (.iastore, 1) := rfl
theorem tX8_toLook_14 : pm_tb tX8_toLook 14 = some (.aload_n 0, 1) := rfl
theorem tX8_toLook_15 : pm_tb tX8_toLook 15 = some (.getfield 99, 3) := rfl
theorem tX8_toLook_18 : pm_tb tX8_toLook 18 = some (.iload_n 1, 1) := rfl
theorem tX8_toLook_19 : pm_tb tX8_toLook 19 = some (.aload_n 0, 1) := rfl
theorem tX8_toLook_20 : pm_tb tX8_toLook 20 = some (.getfield 87, 3) := rfl
theorem tX8_toLook_23 : pm_tb tX8_toLook 23 = some (.iload_n 2, 1) := rfl
theorem tX8_toLook_24 : pm_tb tX8_toLook 24 = some (.iaload, 1) := rfl
theorem tX8_toLook_25 : pm_tb tX8_toLook 25 = some (.iastore, 1) := rfl
theorem tX8_toLook_26 : pm_tb tX8_toLook 26 = some (.return_, 1) := rfl
theorem tX8_ends_0 : pm_tb tX8_ends 0 = some (.iconst 0, 1) := rfl
theorem tX8_ends_1 : pm_tb tX8_ends 1 = some (.istore_n 3, 1) := rfl
theorem tX8_ends_2 : pm_tb tX8_ends 2 = some (.iconst 0, 1) := rfl
theorem tX8_ends_3 : pm_tb tX8_ends 3 = some (.istore 4, 2) := rfl
theorem tX8_ends_5 : pm_tb tX8_ends 5 = some (.iload 4, 2) := rfl
theorem tX8_ends_7 : pm_tb tX8_ends 7 = some (.bipush 32, 2) := rfl
theorem tX8_ends_9 : pm_tb tX8_ends 9 = some (.if_icmp .ge 119, 3) := rfl
theorem tX8_ends_12 : pm_tb tX8_ends 12 = some (.bipush 32, 2) := rfl
theorem tX8_ends_14 : pm_tb tX8_ends 14 = some (.iload_n 2, 1) := rfl
theorem tX8_ends_15 : pm_tb tX8_ends 15 = some (.imul, 1) := rfl
theorem tX8_ends_16 : pm_tb tX8_ends 16 = some (.iload 4, 2) := rfl
theorem tX8_ends_18 : pm_tb tX8_ends 18 = some (.iadd, 1) := rfl
theorem tX8_ends_19 : pm_tb tX8_ends 19 = some (.istore 5, 2) := rfl
theorem tX8_ends_21 : pm_tb tX8_ends 21 = some (.aload_n 0, 1) := rfl
theorem tX8_ends_22 : pm_tb tX8_ends 22 = some (.getfield 39, 3) := rfl
theorem tX8_ends_25 : pm_tb tX8_ends 25 = some (.iload 5, 2) := rfl
theorem tX8_ends_27 : pm_tb tX8_ends 27 = some (.baload, 1) := rfl
theorem tX8_ends_28 : pm_tb tX8_ends 28 = some (.ifCond .eq 78, 3) := rfl
theorem tX8_ends_31 : pm_tb tX8_ends 31 = some (.aload_n 0, 1) := rfl
theorem tX8_ends_32 : pm_tb tX8_ends 32 = some (.getfield 35, 3) := rfl
theorem tX8_ends_35 : pm_tb tX8_ends 35 = some (.iload_n 2, 1) := rfl
theorem tX8_ends_36 : pm_tb tX8_ends 36 = some (.baload, 1) := rfl
theorem tX8_ends_37 : pm_tb tX8_ends 37 = some (.ifCond .ne 69, 3) := rfl
theorem tX8_ends_40 : pm_tb tX8_ends 40 = some (.iload_n 3, 1) := rfl
theorem tX8_ends_41 : pm_tb tX8_ends 41 = some (.ifCond .ne 13, 3) := rfl
theorem tX8_ends_44 : pm_tb tX8_ends 44 = some (.aload_n 0, 1) := rfl
theorem tX8_ends_45 : pm_tb tX8_ends 45 = some (.getfield 72, 3) := rfl
theorem tX8_ends_48 : pm_tb tX8_ends 48 = some (.iload 5, 2) := rfl
theorem tX8_ends_50 : pm_tb tX8_ends 50 = some (.baload, 1) := rfl
theorem tX8_ends_51 : pm_tb tX8_ends 51 = some (.ifCond .ne 7, 3) := rfl
theorem tX8_ends_54 : pm_tb tX8_ends 54 = some (.iconst 1, 1) := rfl
theorem tX8_ends_55 : pm_tb tX8_ends 55 = some (.goto 4, 3) := rfl
theorem tX8_ends_58 : pm_tb tX8_ends 58 = some (.iconst 0, 1) := rfl
theorem tX8_ends_59 : pm_tb tX8_ends 59 = some (.istore_n 3, 1) := rfl
theorem tX8_ends_60 : pm_tb tX8_ends 60 = some (.aload_n 0, 1) := rfl
theorem tX8_ends_61 : pm_tb tX8_ends 61 = some (.getfield 72, 3) := rfl
theorem tX8_ends_64 : pm_tb tX8_ends 64 = some (.iload 5, 2) := rfl
theorem tX8_ends_66 : pm_tb tX8_ends 66 = some (.iconst 1, 1) := rfl
theorem tX8_ends_67 : pm_tb tX8_ends 67 = some (.bastore, 1) := rfl
theorem tX8_ends_68 : pm_tb tX8_ends 68 = some (.aload_n 0, 1) := rfl
theorem tX8_ends_69 : pm_tb tX8_ends 69 = some (.getfield 75, 3) := rfl
theorem tX8_ends_72 : pm_tb tX8_ends 72 = some (.iload 5, 2) := rfl
theorem tX8_ends_74 : pm_tb tX8_ends 74 = some (.iconst 0, 1) := rfl
theorem tX8_ends_75 : pm_tb tX8_ends 75 = some (.bastore, 1) := rfl
theorem tX8_ends_76 : pm_tb tX8_ends 76 = some (.aload_n 0, 1) := rfl
theorem tX8_ends_77 : pm_tb tX8_ends 77 = some (.getfield 78, 3) := rfl
theorem tX8_ends_80 : pm_tb tX8_ends 80 = some (.iload 5, 2) := rfl
theorem tX8_ends_82 : pm_tb tX8_ends 82 = some (.aload_n 0, 1) := rfl
theorem tX8_ends_83 : pm_tb tX8_ends 83 = some (.getfield 42, 3) := rfl
theorem tX8_ends_86 : pm_tb tX8_ends 86 = some (.iload 5, 2) := rfl
theorem tX8_ends_88 : pm_tb tX8_ends 88 = some (.laload, 1) := rfl
theorem tX8_ends_89 : pm_tb tX8_ends 89 = some (.lastore, 1) := rfl
theorem tX8_ends_90 : pm_tb tX8_ends 90 = some (.aload_n 0, 1) := rfl
theorem tX8_ends_91 : pm_tb tX8_ends 91 = some (.getfield 81, 3) := rfl
theorem tX8_ends_94 : pm_tb tX8_ends 94 = some (.iload 5, 2) := rfl
theorem tX8_ends_96 : pm_tb tX8_ends 96 = some (.aload_n 0, 1) := rfl
theorem tX8_ends_97 : pm_tb tX8_ends 97 = some (.getfield 87, 3) := rfl
theorem tX8_ends_100 : pm_tb tX8_ends 100 = some (.iload_n 2, 1) := rfl
theorem tX8_ends_101 : pm_tb tX8_ends 101 = some (.iaload, 1) := rfl
theorem tX8_ends_102 : pm_tb tX8_ends 102 = some (.iastore, 1) := rfl
theorem tX8_ends_103 : pm_tb tX8_ends 103 = some (.goto 19, 3) := rfl
theorem tX8_ends_106 : pm_tb tX8_ends 106 = some (.aload_n 0, 1) := rfl
theorem tX8_ends_107 : pm_tb tX8_ends 107 = some (.getfield 72, 3) := rfl
theorem tX8_ends_110 : pm_tb tX8_ends 110 = some (.iload 5, 2) := rfl
theorem tX8_ends_112 : pm_tb tX8_ends 112 = some (.iconst 0, 1) := rfl
theorem tX8_ends_113 : pm_tb tX8_ends 113 = some (.bastore, 1) := rfl
theorem tX8_ends_114 : pm_tb tX8_ends 114 = some (.aload_n 0, 1) := rfl
theorem tX8_ends_115 : pm_tb tX8_ends 115 = some (.getfield 75, 3) := rfl
theorem tX8_ends_118 : pm_tb tX8_ends 118 = some (.iload 5, 2) := rfl
theorem tX8_ends_120 : pm_tb tX8_ends 120 = some (.iconst 0, 1) := rfl
theorem tX8_ends_121 : pm_tb tX8_ends 121 = some (.bastore, 1) := rfl
theorem tX8_ends_122 : pm_tb tX8_ends 122 = some (.iinc 4 1, 3) := rfl
theorem tX8_ends_125 : pm_tb tX8_ends 125 = some (.goto (-120), 3) := rfl
theorem tX8_ends_128 : pm_tb tX8_ends 128 = some (.aload_n 0, 1) := rfl
theorem tX8_ends_129 : pm_tb tX8_ends 129 = some (.getfield 84, 3) := rfl
theorem tX8_ends_132 : pm_tb tX8_ends 132 = some (.iload_n 2, 1) := rfl
theorem tX8_ends_133 : pm_tb tX8_ends 133 = some (.iconst 2, 1) := rfl
theorem tX8_ends_134 : pm_tb tX8_ends 134 = some (.iastore, 1) := rfl
theorem tX8_ends_135 : pm_tb tX8_ends 135 = some (.aload_n 0, 1) := rfl
theorem tX8_ends_136 : pm_tb tX8_ends 136 = some (.getfield 145, 3) := rfl
theorem tX8_ends_139 : pm_tb tX8_ends 139 = some (.iconst 1, 1) := rfl
theorem tX8_ends_140 : pm_tb tX8_ends 140 = some (.isub, 1) := rfl
theorem tX8_ends_141 : pm_tb tX8_ends 141 = some (.istore 4, 2) := rfl
theorem tX8_ends_143 : pm_tb tX8_ends 143 = some (.iload 4, 2) := rfl
theorem tX8_ends_145 : pm_tb tX8_ends 145 = some (.ifCond .lt 61, 3) := rfl
theorem tX8_ends_148 : pm_tb tX8_ends 148 = some (.aload_n 0, 1) := rfl
theorem tX8_ends_149 : pm_tb tX8_ends 149 = some (.getfield 84, 3) := rfl
theorem tX8_ends_152 : pm_tb tX8_ends 152 = some (.iload 4, 2) := rfl
theorem tX8_ends_154 : pm_tb tX8_ends 154 = some (.iaload, 1) := rfl
theorem tX8_ends_155 : pm_tb tX8_ends 155 = some (.iconst 3, 1) := rfl
theorem tX8_ends_156 : pm_tb tX8_ends 156 = some (.if_icmp .ne 44, 3) := rfl
theorem tX8_ends_159 : pm_tb tX8_ends 159 = some (.aload_n 0, 1) := rfl
theorem tX8_ends_160 : pm_tb tX8_ends 160 = some (.getfield 90, 3) := rfl
theorem tX8_ends_163 : pm_tb tX8_ends 163 = some (.iload 4, 2) := rfl
theorem tX8_ends_165 : pm_tb tX8_ends 165 = some (.iaload, 1) := rfl
theorem tX8_ends_166 : pm_tb tX8_ends 166 = some (.iload_n 2, 1) := rfl
theorem tX8_ends_167 : pm_tb tX8_ends 167 = some (.if_icmp .ne 33, 3) := rfl
theorem tX8_ends_170 : pm_tb tX8_ends 170 = some (.aload_n 0, 1) := rfl
theorem tX8_ends_171 : pm_tb tX8_ends 171 = some (.getfield 84, 3) := rfl
theorem tX8_ends_174 : pm_tb tX8_ends 174 = some (.iload 4, 2) := rfl
theorem tX8_ends_176 : pm_tb tX8_ends 176 = some (.iconst 0, 1) := rfl
theorem tX8_ends_177 : pm_tb tX8_ends 177 = some (.iastore, 1) := rfl
theorem tX8_ends_178 : pm_tb tX8_ends 178 = some (.aload_n 0, 1) := rfl
theorem tX8_ends_179 : pm_tb tX8_ends 179 = some (.iload 4, 2) := rfl
theorem tX8_ends_181 : pm_tb tX8_ends 181 = some (.aload_n 0, 1) := rfl
theorem tX8_ends_182 : pm_tb tX8_ends 182 = some (.getfield 198, 3) := rfl
theorem tX8_ends_185 : pm_tb tX8_ends 185 = some (.if_icmp .ge 8, 3) := rfl
theorem tX8_ends_188 : pm_tb tX8_ends 188 = some (.iload 4, 2) := rfl
theorem tX8_ends_190 : pm_tb tX8_ends 190 = some (.goto 7, 3) := rfl
theorem tX8_ends_193 : pm_tb tX8_ends 193 = some (.aload_n 0, 1) := rfl
theorem tX8_ends_194 : pm_tb tX8_ends 194 = some (.getfield 198, 3) := rfl
theorem tX8_ends_197 : pm_tb tX8_ends 197 = some (.putfield 198, 3) := rfl
theorem tX8_ends_200 : pm_tb tX8_ends 200 = some (.iinc 4 (-1), 3) := rfl
theorem tX8_ends_203 : pm_tb tX8_ends 203 = some (.goto (-60), 3) := rfl
theorem tX8_ends_206 : pm_tb tX8_ends 206 = some (.aload_n 0, 1) := rfl
theorem tX8_ends_207 : pm_tb tX8_ends 207 = some (.getfield 201, 3) := rfl
theorem tX8_ends_210 : pm_tb tX8_ends 210 = some (.iload_n 2, 1) := rfl
theorem tX8_ends_211 : pm_tb tX8_ends 211 = some (.if_icmp .le 21, 3) := rfl
theorem tX8_ends_214 : pm_tb tX8_ends 214 = some (.iload_n 3, 1) := rfl
theorem tX8_ends_215 : pm_tb tX8_ends 215 = some (.ifCond .eq 11, 3) := rfl
theorem tX8_ends_218 : pm_tb tX8_ends 218 = some (.aload_n 0, 1) := rfl
theorem tX8_ends_219 : pm_tb tX8_ends 219 = some (.iload_n 2, 1) := rfl
theorem tX8_ends_220 : pm_tb tX8_ends 220 = some (.putfield 201, 3) := rfl
theorem tX8_ends_223 : pm_tb tX8_ends 223 = some (.goto 9, 3) := rfl
theorem tX8_ends_226 : pm_tb tX8_ends 226 = some (.aload_n 0, 1) := rfl
theorem tX8_ends_227 : pm_tb tX8_ends 227 = some (.iload_n 1, 1) := rfl
theorem tX8_ends_228 : pm_tb tX8_ends 228 = some (.iload_n 2, 1) := rfl
theorem tX8_ends_229 : pm_tb tX8_ends 229 = some (.invokevirtual 225, 3) := rfl
theorem tX8_ends_232 : pm_tb tX8_ends 232 = some (.return_, 1) := rfl
theorem tX8_runStep_0 : pm_tb tX8_runStep 0 = some (.aload_n 0, 1) := rfl
theorem tX8_runStep_1 : pm_tb tX8_runStep 1 = some (.getfield 96, 3) := rfl
theorem tX8_runStep_4 : pm_tb tX8_runStep 4 = some (.iload_n 1, 1) := rfl
theorem tX8_runStep_5 : pm_tb tX8_runStep 5 = some (.iaload, 1) := rfl
theorem tX8_runStep_6 : pm_tb tX8_runStep 6 = some (.istore_n 2, 1) := rfl
theorem tX8_runStep_7 : pm_tb tX8_runStep 7 = some (.aload_n 0, 1) := rfl
theorem tX8_runStep_8 : pm_tb tX8_runStep 8 = some (.iload_n 2, 1) := rfl
theorem tX8_runStep_9 : pm_tb tX8_runStep 9 = some (.invokevirtual 234, 3) := rfl
theorem tX8_runStep_12 : pm_tb tX8_runStep 12 = some (.ifCond .ne 52, 3) := rfl
theorem tX8_runStep_15 : pm_tb tX8_runStep 15 = some (.aload_n 0, 1) := rfl
theorem tX8_runStep_16 : pm_tb tX8_runStep 16 = some (.iload_n 2, 1) := rfl
theorem tX8_runStep_17 : pm_tb tX8_runStep 17 = some (.invokevirtual 237, 3) := rfl
theorem tX8_runStep_20 : pm_tb tX8_runStep 20 = some (.istore_n 3, 1) := rfl
theorem tX8_runStep_21 : pm_tb tX8_runStep 21 = some (.iload_n 3, 1) := rfl
theorem tX8_runStep_22 : pm_tb tX8_runStep 22 = some (.iconst (-1), 1) := rfl
theorem tX8_runStep_23 : pm_tb tX8_runStep 23 = some (.if_icmp .eq 41, 3) := rfl
theorem tX8_runStep_26 : pm_tb tX8_runStep 26 = some (.aload_n 0, 1) := rfl
theorem tX8_runStep_27 : pm_tb tX8_runStep 27 = some (.getfield 84, 3) := rfl
theorem tX8_runStep_30 : pm_tb tX8_runStep 30 = some (.iload_n 2, 1) := rfl
theorem tX8_runStep_31 : pm_tb tX8_runStep 31 = some (.iconst 3, 1) := rfl
theorem tX8_runStep_32 : pm_tb tX8_runStep 32 = some (.iastore, 1) := rfl
theorem tX8_runStep_33 : pm_tb tX8_runStep 33 = some (.aload_n 0, 1) := rfl
theorem tX8_runStep_34 : pm_tb tX8_runStep 34 = some (.getfield 90, 3) := rfl
theorem tX8_runStep_37 : pm_tb tX8_runStep 37 = some (.iload_n 2, 1) := rfl
theorem tX8_runStep_38 : pm_tb tX8_runStep 38 = some (.iload_n 3, 1) := rfl
theorem tX8_runStep_39 : pm_tb tX8_runStep 39 = some (.iastore, 1) := rfl
theorem tX8_runStep_40 : pm_tb tX8_runStep 40 = some (.aload_n 0, 1) := rfl
theorem tX8_runStep_41 : pm_tb tX8_runStep 41 = some (.getfield 93, 3) := rfl
theorem tX8_runStep_44 : pm_tb tX8_runStep 44 = some (.iload_n 1, 1) := rfl
theorem tX8_runStep_45 : pm_tb tX8_runStep 45 = some (.iconst 0, 1) := rfl
theorem tX8_runStep_46 : pm_tb tX8_runStep 46 = some (.iastore, 1) := rfl
theorem tX8_runStep_47 : pm_tb tX8_runStep 47 = some (.aload_n 0, 1) := rfl
theorem tX8_runStep_48 : pm_tb tX8_runStep 48 = some (.dup, 1) := rfl
theorem tX8_runStep_49 : pm_tb tX8_runStep 49 = some (.getfield 195, 3) := rfl
theorem tX8_runStep_52 : pm_tb tX8_runStep 52 = some (.iconst 1, 1) := rfl
theorem tX8_runStep_53 : pm_tb tX8_runStep 53 = some (.iadd, 1) := rfl
theorem tX8_runStep_54 : pm_tb tX8_runStep 54 = some (.putfield 195, 3) := rfl
theorem tX8_runStep_57 : pm_tb tX8_runStep 57 = some (.aload_n 0, 1) := rfl
theorem tX8_runStep_58 : pm_tb tX8_runStep 58 = some (.iload_n 2, 1) := rfl
theorem tX8_runStep_59 : pm_tb tX8_runStep 59 = some (.iload_n 3, 1) := rfl
theorem tX8_runStep_60 : pm_tb tX8_runStep 60 = some (.invokevirtual 241, 3) := rfl
theorem tX8_runStep_63 : pm_tb tX8_runStep 63 = some (.return_, 1) := rfl
theorem tX8_runStep_64 : pm_tb tX8_runStep 64 = some (.aload_n 0, 1) := rfl
theorem tX8_runStep_65 : pm_tb tX8_runStep 65 = some (.iload_n 2, 1) := rfl
theorem tX8_runStep_66 : pm_tb tX8_runStep 66 = some (.invokevirtual 234, 3) := rfl
theorem tX8_runStep_69 : pm_tb tX8_runStep 69 = some (.ifCond .eq 16, 3) := rfl
theorem tX8_runStep_72 : pm_tb tX8_runStep 72 = some (.aload_n 0, 1) := rfl
theorem tX8_runStep_73 : pm_tb tX8_runStep 73 = some (.getfield 93, 3) := rfl
theorem tX8_runStep_76 : pm_tb tX8_runStep 76 = some (.iload_n 1, 1) := rfl
theorem tX8_runStep_77 : pm_tb tX8_runStep 77 = some (.iconst 0, 1) := rfl
theorem tX8_runStep_78 : pm_tb tX8_runStep 78 = some (.iastore, 1) := rfl
theorem tX8_runStep_79 : pm_tb tX8_runStep 79 = some (.aload_n 0, 1) := rfl
theorem tX8_runStep_80 : pm_tb tX8_runStep 80 = some (.iload_n 1, 1) := rfl
theorem tX8_runStep_81 : pm_tb tX8_runStep 81 = some (.iload_n 2, 1) := rfl
theorem tX8_runStep_82 : pm_tb tX8_runStep 82 = some (.invokevirtual 244, 3) := rfl
theorem tX8_runStep_85 : pm_tb tX8_runStep 85 = some (.return_, 1) := rfl
theorem tX8_toRun_0 : pm_tb tX8_toRun 0 = some (.aload_n 0, 1) := rfl
theorem tX8_toRun_1 : pm_tb tX8_toRun 1 = some (.getfield 84, 3) := rfl
theorem tX8_toRun_4 : pm_tb tX8_toRun 4 = some (.iload_n 2, 1) := rfl
theorem tX8_toRun_5 : pm_tb tX8_toRun 5 = some (.iconst 1, 1) := rfl
theorem tX8_toRun_6 : pm_tb tX8_toRun 6 = some (.iastore, 1) := rfl
theorem tX8_toRun_7 : pm_tb tX8_toRun 7 = some (.aload_n 0, 1) := rfl
theorem tX8_toRun_8 : pm_tb tX8_toRun 8 = some (.getfield 93, 3) := rfl
theorem tX8_toRun_11 : pm_tb tX8_toRun 11 = some (.iload_n 1, 1) := rfl
theorem tX8_toRun_12 : pm_tb tX8_toRun 12 = some (.iconst 1, 1) := rfl
theorem tX8_toRun_13 : pm_tb tX8_toRun 13 = some (.iastore, 1) := rfl
theorem tX8_toRun_14 : pm_tb tX8_toRun 14 = some (.aload_n 0, 1) := rfl
theorem tX8_toRun_15 : pm_tb tX8_toRun 15 = some (.getfield 96, 3) := rfl
theorem tX8_toRun_18 : pm_tb tX8_toRun 18 = some (.iload_n 1, 1) := rfl
theorem tX8_toRun_19 : pm_tb tX8_toRun 19 = some (.iload_n 2, 1) := rfl
theorem tX8_toRun_20 : pm_tb tX8_toRun 20 = some (.iastore, 1) := rfl
theorem tX8_toRun_21 : pm_tb tX8_toRun 21 = some (.aload_n 0, 1) := rfl
theorem tX8_toRun_22 : pm_tb tX8_toRun 22 = some (.iload_n 2, 1) := rfl
theorem tX8_toRun_23 : pm_tb tX8_toRun 23 = some (.invokevirtual 231, 3) := rfl
theorem tX8_toRun_26 : pm_tb tX8_toRun 26 = some (.return_, 1) := rfl
theorem tX8_lookStep_0 : pm_tb tX8_lookStep 0 = some (.aload_n 0, 1) := rfl
theorem tX8_lookStep_1 : pm_tb tX8_lookStep 1 = some (.getfield 96, 3) := rfl
theorem tX8_lookStep_4 : pm_tb tX8_lookStep 4 = some (.iload_n 1, 1) := rfl
theorem tX8_lookStep_5 : pm_tb tX8_lookStep 5 = some (.iaload, 1) := rfl
theorem tX8_lookStep_6 : pm_tb tX8_lookStep 6 = some (.istore_n 2, 1) := rfl
theorem tX8_lookStep_7 : pm_tb tX8_lookStep 7 = some (.aload_n 0, 1) := rfl
theorem tX8_lookStep_8 : pm_tb tX8_lookStep 8 = some (.getfield 93, 3) := rfl
theorem tX8_lookStep_11 : pm_tb tX8_lookStep 11 = some (.iload_n 1, 1) := rfl
theorem tX8_lookStep_12 : pm_tb tX8_lookStep 12 = some (.iconst 0, 1) := rfl
theorem tX8_lookStep_13 : pm_tb tX8_lookStep 13 = some (.iastore, 1) := rfl
theorem tX8_lookStep_14 : pm_tb tX8_lookStep 14 = some (.aload_n 0, 1) := rfl
theorem tX8_lookStep_15 : pm_tb tX8_lookStep 15 = some (.dup, 1) := rfl
theorem tX8_lookStep_16 : pm_tb tX8_lookStep 16 = some (.getfield 189, 3) := rfl
theorem tX8_lookStep_19 : pm_tb tX8_lookStep 19 = some (.iconst 1, 1) := rfl
theorem tX8_lookStep_20 : pm_tb tX8_lookStep 20 = some (.iadd, 1) := rfl
theorem tX8_lookStep_21 : pm_tb tX8_lookStep 21 = some (.putfield 189, 3) := rfl
theorem tX8_lookStep_24 : pm_tb tX8_lookStep 24 = some (.aload_n 0, 1) := rfl
theorem tX8_lookStep_25 : pm_tb tX8_lookStep 25 = some (.getfield 84, 3) := rfl
theorem tX8_lookStep_28 : pm_tb tX8_lookStep 28 = some (.iload_n 2, 1) := rfl
theorem tX8_lookStep_29 : pm_tb tX8_lookStep 29 = some (.iaload, 1) := rfl
theorem tX8_lookStep_30 : pm_tb tX8_lookStep 30 = some (.iconst 2, 1) := rfl
theorem tX8_lookStep_31 : pm_tb tX8_lookStep 31 = some (.if_icmp .ne 18, 3) := rfl
theorem tX8_lookStep_34 : pm_tb tX8_lookStep 34 = some (.aload_n 0, 1) := rfl
theorem tX8_lookStep_35 : pm_tb tX8_lookStep 35 = some (.getfield 87, 3) := rfl
theorem tX8_lookStep_38 : pm_tb tX8_lookStep 38 = some (.iload_n 2, 1) := rfl
theorem tX8_lookStep_39 : pm_tb tX8_lookStep 39 = some (.iaload, 1) := rfl
theorem tX8_lookStep_40 : pm_tb tX8_lookStep 40 = some (.aload_n 0, 1) := rfl
theorem tX8_lookStep_41 : pm_tb tX8_lookStep 41 = some (.getfield 99, 3) := rfl
theorem tX8_lookStep_44 : pm_tb tX8_lookStep 44 = some (.iload_n 1, 1) := rfl
theorem tX8_lookStep_45 : pm_tb tX8_lookStep 45 = some (.iaload, 1) := rfl
theorem tX8_lookStep_46 : pm_tb tX8_lookStep 46 = some (.if_icmp .eq 4, 3) := rfl
theorem tX8_lookStep_49 : pm_tb tX8_lookStep 49 = some (.return_, 1) := rfl
theorem tX8_lookStep_50 : pm_tb tX8_lookStep 50 = some (.iconst 0, 1) := rfl
theorem tX8_lookStep_51 : pm_tb tX8_lookStep 51 = some (.istore_n 3, 1) := rfl
theorem tX8_lookStep_52 : pm_tb tX8_lookStep 52 = some (.iconst 0, 1) := rfl
theorem tX8_lookStep_53 : pm_tb tX8_lookStep 53 = some (.istore 4, 2) := rfl
theorem tX8_lookStep_55 : pm_tb tX8_lookStep 55 = some (.iload 4, 2) := rfl
theorem tX8_lookStep_57 : pm_tb tX8_lookStep 57 = some (.aload_n 0, 1) := rfl
theorem tX8_lookStep_58 : pm_tb tX8_lookStep 58 = some (.getfield 45, 3) := rfl
theorem tX8_lookStep_61 : pm_tb tX8_lookStep 61 = some (.iload_n 2, 1) := rfl
theorem tX8_lookStep_62 : pm_tb tX8_lookStep 62 = some (.iaload, 1) := rfl
theorem tX8_lookStep_63 : pm_tb tX8_lookStep 63 = some (.if_icmp .ge 89, 3) := rfl
theorem tX8_lookStep_66 : pm_tb tX8_lookStep 66 = some (.iload_n 3, 1) := rfl
theorem tX8_lookStep_67 : pm_tb tX8_lookStep 67 = some (.ifCond .ne 85, 3) := rfl
theorem tX8_lookStep_70 : pm_tb tX8_lookStep 70 = some (.aload_n 0, 1) := rfl
theorem tX8_lookStep_71 : pm_tb tX8_lookStep 71 = some (.iload_n 2, 1) := rfl
theorem tX8_lookStep_72 : pm_tb tX8_lookStep 72 = some (.aload_n 0, 1) := rfl
theorem tX8_lookStep_73 : pm_tb tX8_lookStep 73 = some (.getfield 48, 3) := rfl
theorem tX8_lookStep_76 : pm_tb tX8_lookStep 76 = some (.bipush 32, 2) := rfl
theorem tX8_lookStep_78 : pm_tb tX8_lookStep 78 = some (.iload_n 2, 1) := rfl
theorem tX8_lookStep_79 : pm_tb tX8_lookStep 79 = some (.imul, 1) := rfl
theorem tX8_lookStep_80 : pm_tb tX8_lookStep 80 = some (.iload 4, 2) := rfl
theorem tX8_lookStep_82 : pm_tb tX8_lookStep 82 = some (.iadd, 1) := rfl
theorem tX8_lookStep_83 : pm_tb tX8_lookStep 83 = some (.iaload, 1) := rfl
theorem tX8_lookStep_84 : pm_tb tX8_lookStep 84 = some (.invokevirtual 170, 3) := rfl
theorem tX8_lookStep_87 : pm_tb tX8_lookStep 87 = some (.aload_n 0, 1) := rfl
theorem tX8_lookStep_88 : pm_tb tX8_lookStep 88 = some (.getfield 156, 3) := rfl
theorem tX8_lookStep_91 : pm_tb tX8_lookStep 91 = some (.ifCond .ne 49, 3) := rfl
theorem tX8_lookStep_94 : pm_tb tX8_lookStep 94 = some (.aload_n 0, 1) := rfl
theorem tX8_lookStep_95 : pm_tb tX8_lookStep 95 = some (.getfield 150, 3) := rfl
theorem tX8_lookStep_98 : pm_tb tX8_lookStep 98 = some (.aload_n 0, 1) := rfl
theorem tX8_lookStep_99 : pm_tb tX8_lookStep 99 = some (.getfield 51, 3) := rfl
theorem tX8_lookStep_102 : pm_tb tX8_lookStep 102 = some (.bipush 32, 2) := rfl
theorem tX8_lookStep_104 : pm_tb tX8_lookStep 104 = some (.iload_n 2, 1) := rfl
theorem tX8_lookStep_105 : pm_tb tX8_lookStep 105 = some (.imul, 1) := rfl
theorem tX8_lookStep_106 : pm_tb tX8_lookStep 106 = some (.iload 4, 2) := rfl
theorem tX8_lookStep_108 : pm_tb tX8_lookStep 108 = some (.iadd, 1) := rfl
theorem tX8_lookStep_109 : pm_tb tX8_lookStep 109 = some (.iaload, 1) := rfl
theorem tX8_lookStep_110 : pm_tb tX8_lookStep 110 = some (.if_icmp .ne 30, 3) := rfl
theorem tX8_lookStep_113 : pm_tb tX8_lookStep 113 = some (.aload_n 0, 1) := rfl
theorem tX8_lookStep_114 : pm_tb tX8_lookStep 114 = some (.getfield 150, 3) := rfl
theorem tX8_lookStep_117 : pm_tb tX8_lookStep 117 = some (.iconst (-1), 1) := rfl
theorem tX8_lookStep_118 : pm_tb tX8_lookStep 118 = some (.if_icmp .eq 26, 3) := rfl
theorem tX8_lookStep_121 : pm_tb tX8_lookStep 121 = some (.aload_n 0, 1) := rfl
theorem tX8_lookStep_122 : pm_tb tX8_lookStep 122 = some (.getfield 153, 3) := rfl
theorem tX8_lookStep_125 : pm_tb tX8_lookStep 125 = some (.aload_n 0, 1) := rfl
theorem tX8_lookStep_126 : pm_tb tX8_lookStep 126 = some (.getfield 54, 3) := rfl
theorem tX8_lookStep_129 : pm_tb tX8_lookStep 129 = some (.bipush 32, 2) := rfl
theorem tX8_lookStep_131 : pm_tb tX8_lookStep 131 = some (.iload_n 2, 1) := rfl
theorem tX8_lookStep_132 : pm_tb tX8_lookStep 132 = some (.imul, 1) := rfl
theorem tX8_lookStep_133 : pm_tb tX8_lookStep 133 = some (.iload 4, 2) := rfl
theorem tX8_lookStep_135 : pm_tb tX8_lookStep 135 = some (.iadd, 1) := rfl
theorem tX8_lookStep_136 : pm_tb tX8_lookStep 136 = some (.iaload, 1) := rfl
theorem tX8_lookStep_137 : pm_tb tX8_lookStep 137 = some (.if_icmp .eq 7, 3) := rfl
theorem tX8_lookStep_140 : pm_tb tX8_lookStep 140 = some (.iconst 1, 1) := rfl
theorem tX8_lookStep_141 : pm_tb tX8_lookStep 141 = some (.goto 4, 3) := rfl
theorem tX8_lookStep_144 : pm_tb tX8_lookStep 144 = some (.iconst 0, 1) := rfl
theorem tX8_lookStep_145 : pm_tb tX8_lookStep 145 = some (.istore_n 3, 1) := rfl
theorem tX8_lookStep_146 : pm_tb tX8_lookStep 146 = some (.iinc 4 1, 3) := rfl
theorem tX8_lookStep_149 : pm_tb tX8_lookStep 149 = some (.goto (-94), 3) := rfl
theorem tX8_lookStep_152 : pm_tb tX8_lookStep 152 = some (.iload_n 3, 1) := rfl
theorem tX8_lookStep_153 : pm_tb tX8_lookStep 153 = some (.ifCond .ne 4, 3) := rfl
theorem tX8_lookStep_156 : pm_tb tX8_lookStep 156 = some (.return_, 1) := rfl
theorem tX8_lookStep_157 : pm_tb tX8_lookStep 157 = some (.aload_n 0, 1) := rfl
theorem tX8_lookStep_158 : pm_tb tX8_lookStep 158 = some (.iload_n 2, 1) := rfl
theorem tX8_lookStep_159 : pm_tb tX8_lookStep 159 = some (.aload_n 0, 1) := rfl
theorem tX8_lookStep_160 : pm_tb tX8_lookStep 160 = some (.getfield 150, 3) := rfl
theorem tX8_lookStep_163 : pm_tb tX8_lookStep 163 = some (.invokevirtual 241, 3) := rfl
theorem tX8_lookStep_166 : pm_tb tX8_lookStep 166 = some (.aload_n 0, 1) := rfl
theorem tX8_lookStep_167 : pm_tb tX8_lookStep 167 = some (.dup, 1) := rfl
theorem tX8_lookStep_168 : pm_tb tX8_lookStep 168 = some (.getfield 192, 3) := rfl
theorem tX8_lookStep_171 : pm_tb tX8_lookStep 171 = some (.iconst 1, 1) := rfl
theorem tX8_lookStep_172 : pm_tb tX8_lookStep 172 = some (.iadd, 1) := rfl
theorem tX8_lookStep_173 : pm_tb tX8_lookStep 173 = some (.putfield 192, 3) := rfl
theorem tX8_lookStep_176 : pm_tb tX8_lookStep 176 = some (.iconst 0, 1) := rfl
theorem tX8_lookStep_177 : pm_tb tX8_lookStep 177 = some (.istore 4, 2) := rfl
theorem tX8_lookStep_179 : pm_tb tX8_lookStep 179 = some (.iload 4, 2) := rfl
theorem tX8_lookStep_181 : pm_tb tX8_lookStep 181 = some (.bipush 32, 2) := rfl
theorem tX8_lookStep_183 : pm_tb tX8_lookStep 183 = some (.if_icmp .ge 33, 3) := rfl
theorem tX8_lookStep_186 : pm_tb tX8_lookStep 186 = some (.aload_n 0, 1) := rfl
theorem tX8_lookStep_187 : pm_tb tX8_lookStep 187 = some (.getfield 75, 3) := rfl
theorem tX8_lookStep_190 : pm_tb tX8_lookStep 190 = some (.bipush 32, 2) := rfl
theorem tX8_lookStep_192 : pm_tb tX8_lookStep 192 = some (.iload_n 2, 1) := rfl
theorem tX8_lookStep_193 : pm_tb tX8_lookStep 193 = some (.imul, 1) := rfl
theorem tX8_lookStep_194 : pm_tb tX8_lookStep 194 = some (.iload 4, 2) := rfl
theorem tX8_lookStep_196 : pm_tb tX8_lookStep 196 = some (.iadd, 1) := rfl
theorem tX8_lookStep_197 : pm_tb tX8_lookStep 197 = some (.aload_n 0, 1) := rfl
theorem tX8_lookStep_198 : pm_tb tX8_lookStep 198 = some (.getfield 72, 3) := rfl
theorem tX8_lookStep_201 : pm_tb tX8_lookStep 201 = some (.bipush 32, 2) := rfl
theorem tX8_lookStep_203 : pm_tb tX8_lookStep 203 = some (.iload_n 2, 1) := rfl
theorem tX8_lookStep_204 : pm_tb tX8_lookStep 204 = some (.imul, 1) := rfl
theorem tX8_lookStep_205 : pm_tb tX8_lookStep 205 = some (.iload 4, 2) := rfl
theorem tX8_lookStep_207 : pm_tb tX8_lookStep 207 = some (.iadd, 1) := rfl
theorem tX8_lookStep_208 : pm_tb tX8_lookStep 208 = some (.baload, 1) := rfl
theorem tX8_lookStep_209 : pm_tb tX8_lookStep 209 = some (.bastore, 1) := rfl
theorem tX8_lookStep_210 : pm_tb tX8_lookStep 210 = some (.iinc 4 1, 3) := rfl
theorem tX8_lookStep_213 : pm_tb tX8_lookStep 213 = some (.goto (-34), 3) := rfl
theorem tX8_lookStep_216 : pm_tb tX8_lookStep 216 = some (.aload_n 0, 1) := rfl
theorem tX8_lookStep_217 : pm_tb tX8_lookStep 217 = some (.getfield 87, 3) := rfl
theorem tX8_lookStep_220 : pm_tb tX8_lookStep 220 = some (.iload_n 2, 1) := rfl
theorem tX8_lookStep_221 : pm_tb tX8_lookStep 221 = some (.dup2, 1) := rfl
theorem tX8_lookStep_222 : pm_tb tX8_lookStep 222 = some (.iaload, 1) := rfl
theorem tX8_lookStep_223 : pm_tb tX8_lookStep 223 = some (.iconst 1, 1) := rfl
theorem tX8_lookStep_224 : pm_tb tX8_lookStep 224 = some (.iadd, 1) := rfl
theorem tX8_lookStep_225 : pm_tb tX8_lookStep 225 = some (.iastore, 1) := rfl
theorem tX8_lookStep_226 : pm_tb tX8_lookStep 226 = some (.aload_n 0, 1) := rfl
theorem tX8_lookStep_227 : pm_tb tX8_lookStep 227 = some (.getfield 84, 3) := rfl
theorem tX8_lookStep_230 : pm_tb tX8_lookStep 230 = some (.iload_n 2, 1) := rfl
theorem tX8_lookStep_231 : pm_tb tX8_lookStep 231 = some (.iconst 0, 1) := rfl
theorem tX8_lookStep_232 : pm_tb tX8_lookStep 232 = some (.iastore, 1) := rfl
theorem tX8_lookStep_233 : pm_tb tX8_lookStep 233 = some (.aload_n 0, 1) := rfl
theorem tX8_lookStep_234 : pm_tb tX8_lookStep 234 = some (.getfield 87, 3) := rfl
theorem tX8_lookStep_237 : pm_tb tX8_lookStep 237 = some (.iload_n 2, 1) := rfl
theorem tX8_lookStep_238 : pm_tb tX8_lookStep 238 = some (.iaload, 1) := rfl
theorem tX8_lookStep_239 : pm_tb tX8_lookStep 239 = some (.aload_n 0, 1) := rfl
theorem tX8_lookStep_240 : pm_tb tX8_lookStep 240 = some (.getfield 141, 3) := rfl
theorem tX8_lookStep_243 : pm_tb tX8_lookStep 243 = some (.if_icmp .lt 9, 3) := rfl
theorem tX8_lookStep_246 : pm_tb tX8_lookStep 246 = some (.aload_n 0, 1) := rfl
theorem tX8_lookStep_247 : pm_tb tX8_lookStep 247 = some (.iconst 1, 1) := rfl
theorem tX8_lookStep_248 : pm_tb tX8_lookStep 248 = some (.putfield 186, 3) := rfl
theorem tX8_lookStep_251 : pm_tb tX8_lookStep 251 = some (.return_, 1) := rfl
theorem tX8_lookStep_252 : pm_tb tX8_lookStep 252 = some (.aload_n 0, 1) := rfl
theorem tX8_lookStep_253 : pm_tb tX8_lookStep 253 = some (.iload_n 2, 1) := rfl
theorem tX8_lookStep_254 : pm_tb tX8_lookStep 254 = some (.iconst 1, 1) := rfl
theorem tX8_lookStep_255 : pm_tb tX8_lookStep 255 = some (.iadd, 1) := rfl
theorem tX8_lookStep_256 : pm_tb tX8_lookStep 256 = some (.aload_n 0, 1) := rfl
theorem tX8_lookStep_257 : pm_tb tX8_lookStep 257 = some (.getfield 201, 3) := rfl
theorem tX8_lookStep_260 : pm_tb tX8_lookStep 260 = some (.if_icmp .ge 9, 3) := rfl
theorem tX8_lookStep_263 : pm_tb tX8_lookStep 263 = some (.iload_n 2, 1) := rfl
theorem tX8_lookStep_264 : pm_tb tX8_lookStep 264 = some (.iconst 1, 1) := rfl
theorem tX8_lookStep_265 : pm_tb tX8_lookStep 265 = some (.iadd, 1) := rfl
theorem tX8_lookStep_266 : pm_tb tX8_lookStep 266 = some (.goto 7, 3) := rfl
theorem tX8_lookStep_269 : pm_tb tX8_lookStep 269 = some (.aload_n 0, 1) := rfl
theorem tX8_lookStep_270 : pm_tb tX8_lookStep 270 = some (.getfield 201, 3) := rfl
theorem tX8_lookStep_273 : pm_tb tX8_lookStep 273 = some (.putfield 201, 3) := rfl
theorem tX8_lookStep_276 : pm_tb tX8_lookStep 276 = some (.aload_n 0, 1) := rfl
theorem tX8_lookStep_277 : pm_tb tX8_lookStep 277 = some (.getfield 198, 3) := rfl
theorem tX8_lookStep_280 : pm_tb tX8_lookStep 280 = some (.iload_n 2, 1) := rfl
theorem tX8_lookStep_281 : pm_tb tX8_lookStep 281 = some (.if_icmp .le 9, 3) := rfl
theorem tX8_lookStep_284 : pm_tb tX8_lookStep 284 = some (.aload_n 0, 1) := rfl
theorem tX8_lookStep_285 : pm_tb tX8_lookStep 285 = some (.iload_n 1, 1) := rfl
theorem tX8_lookStep_286 : pm_tb tX8_lookStep 286 = some (.iload_n 2, 1) := rfl
theorem tX8_lookStep_287 : pm_tb tX8_lookStep 287 = some (.invokevirtual 228, 3) := rfl
theorem tX8_lookStep_290 : pm_tb tX8_lookStep 290 = some (.return_, 1) := rfl
theorem tX8_step_0 : pm_tb tX8_step 0 = some (.aload_n 0, 1) := rfl
theorem tX8_step_1 : pm_tb tX8_step 1 = some (.getfield 93, 3) := rfl
theorem tX8_step_4 : pm_tb tX8_step 4 = some (.iload_n 1, 1) := rfl
theorem tX8_step_5 : pm_tb tX8_step 5 = some (.iaload, 1) := rfl
theorem tX8_step_6 : pm_tb tX8_step 6 = some (.iconst 1, 1) := rfl
theorem tX8_step_7 : pm_tb tX8_step 7 = some (.if_icmp .ne 11, 3) := rfl
theorem tX8_step_10 : pm_tb tX8_step 10 = some (.aload_n 0, 1) := rfl
theorem tX8_step_11 : pm_tb tX8_step 11 = some (.iload_n 1, 1) := rfl
theorem tX8_step_12 : pm_tb tX8_step 12 = some (.invokevirtual 219, 3) := rfl
theorem tX8_step_15 : pm_tb tX8_step 15 = some (.goto 107, 3) := rfl
theorem tX8_step_18 : pm_tb tX8_step 18 = some (.aload_n 0, 1) := rfl
theorem tX8_step_19 : pm_tb tX8_step 19 = some (.getfield 93, 3) := rfl
theorem tX8_step_22 : pm_tb tX8_step 22 = some (.iload_n 1, 1) := rfl
theorem tX8_step_23 : pm_tb tX8_step 23 = some (.iaload, 1) := rfl
theorem tX8_step_24 : pm_tb tX8_step 24 = some (.iconst 2, 1) := rfl
theorem tX8_step_25 : pm_tb tX8_step 25 = some (.if_icmp .ne 11, 3) := rfl
theorem tX8_step_28 : pm_tb tX8_step 28 = some (.aload_n 0, 1) := rfl
theorem tX8_step_29 : pm_tb tX8_step 29 = some (.iload_n 1, 1) := rfl
theorem tX8_step_30 : pm_tb tX8_step 30 = some (.invokevirtual 222, 3) := rfl
theorem tX8_step_33 : pm_tb tX8_step 33 = some (.goto 89, 3) := rfl
theorem tX8_step_36 : pm_tb tX8_step 36 = some (.aload_n 0, 1) := rfl
theorem tX8_step_37 : pm_tb tX8_step 37 = some (.getfield 201, 3) := rfl
theorem tX8_step_40 : pm_tb tX8_step 40 = some (.aload_n 0, 1) := rfl
theorem tX8_step_41 : pm_tb tX8_step 41 = some (.getfield 198, 3) := rfl
theorem tX8_step_44 : pm_tb tX8_step 44 = some (.if_icmp .ge 37, 3) := rfl
theorem tX8_step_47 : pm_tb tX8_step 47 = some (.aload_n 0, 1) := rfl
theorem tX8_step_48 : pm_tb tX8_step 48 = some (.getfield 201, 3) := rfl
theorem tX8_step_51 : pm_tb tX8_step 51 = some (.istore_n 2, 1) := rfl
theorem tX8_step_52 : pm_tb tX8_step 52 = some (.aload_n 0, 1) := rfl
theorem tX8_step_53 : pm_tb tX8_step 53 = some (.dup, 1) := rfl
theorem tX8_step_54 : pm_tb tX8_step 54 = some (.getfield 201, 3) := rfl
theorem tX8_step_57 : pm_tb tX8_step 57 = some (.iconst 1, 1) := rfl
theorem tX8_step_58 : pm_tb tX8_step 58 = some (.iadd, 1) := rfl
theorem tX8_step_59 : pm_tb tX8_step 59 = some (.putfield 201, 3) := rfl
theorem tX8_step_62 : pm_tb tX8_step 62 = some (.aload_n 0, 1) := rfl
theorem tX8_step_63 : pm_tb tX8_step 63 = some (.getfield 84, 3) := rfl
theorem tX8_step_66 : pm_tb tX8_step 66 = some (.iload_n 2, 1) := rfl
theorem tX8_step_67 : pm_tb tX8_step 67 = some (.iaload, 1) := rfl
theorem tX8_step_68 : pm_tb tX8_step 68 = some (.iconst 2, 1) := rfl
theorem tX8_step_69 : pm_tb tX8_step 69 = some (.if_icmp .ne 9, 3) := rfl
theorem tX8_step_72 : pm_tb tX8_step 72 = some (.aload_n 0, 1) := rfl
theorem tX8_step_73 : pm_tb tX8_step 73 = some (.iload_n 1, 1) := rfl
theorem tX8_step_74 : pm_tb tX8_step 74 = some (.iload_n 2, 1) := rfl
theorem tX8_step_75 : pm_tb tX8_step 75 = some (.invokevirtual 225, 3) := rfl
theorem tX8_step_78 : pm_tb tX8_step 78 = some (.goto 44, 3) := rfl
theorem tX8_step_81 : pm_tb tX8_step 81 = some (.aload_n 0, 1) := rfl
theorem tX8_step_82 : pm_tb tX8_step 82 = some (.getfield 198, 3) := rfl
theorem tX8_step_85 : pm_tb tX8_step 85 = some (.aload_n 0, 1) := rfl
theorem tX8_step_86 : pm_tb tX8_step 86 = some (.getfield 145, 3) := rfl
theorem tX8_step_89 : pm_tb tX8_step 89 = some (.if_icmp .ge 33, 3) := rfl
theorem tX8_step_92 : pm_tb tX8_step 92 = some (.aload_n 0, 1) := rfl
theorem tX8_step_93 : pm_tb tX8_step 93 = some (.getfield 198, 3) := rfl
theorem tX8_step_96 : pm_tb tX8_step 96 = some (.istore_n 2, 1) := rfl
theorem tX8_step_97 : pm_tb tX8_step 97 = some (.aload_n 0, 1) := rfl
theorem tX8_step_98 : pm_tb tX8_step 98 = some (.dup, 1) := rfl
theorem tX8_step_99 : pm_tb tX8_step 99 = some (.getfield 198, 3) := rfl
theorem tX8_step_102 : pm_tb tX8_step 102 = some (.iconst 1, 1) := rfl
theorem tX8_step_103 : pm_tb tX8_step 103 = some (.iadd, 1) := rfl
theorem tX8_step_104 : pm_tb tX8_step 104 = some (.putfield 198, 3) := rfl
theorem tX8_step_107 : pm_tb tX8_step 107 = some (.aload_n 0, 1) := rfl
theorem tX8_step_108 : pm_tb tX8_step 108 = some (.getfield 84, 3) := rfl
theorem tX8_step_111 : pm_tb tX8_step 111 = some (.iload_n 2, 1) := rfl
theorem tX8_step_112 : pm_tb tX8_step 112 = some (.iaload, 1) := rfl
theorem tX8_step_113 : pm_tb tX8_step 113 = some (.ifCond .ne 9, 3) := rfl
theorem tX8_step_116 : pm_tb tX8_step 116 = some (.aload_n 0, 1) := rfl
theorem tX8_step_117 : pm_tb tX8_step 117 = some (.iload_n 1, 1) := rfl
theorem tX8_step_118 : pm_tb tX8_step 118 = some (.iload_n 2, 1) := rfl
theorem tX8_step_119 : pm_tb tX8_step 119 = some (.invokevirtual 228, 3) := rfl
theorem tX8_step_122 : pm_tb tX8_step 122 = some (.return_, 1) := rfl
theorem tX8_allInOrder_0 : pm_tb tX8_allInOrder 0 = some (.iconst 0, 1) := rfl
theorem tX8_allInOrder_1 : pm_tb tX8_allInOrder 1 = some (.istore_n 1, 1) := rfl
theorem tX8_allInOrder_2 : pm_tb tX8_allInOrder 2 = some (.iload_n 1, 1) := rfl
theorem tX8_allInOrder_3 : pm_tb tX8_allInOrder 3 = some (.sipush 512, 3) := rfl
theorem tX8_allInOrder_6 : pm_tb tX8_allInOrder 6 = some (.if_icmp .ge 23, 3) := rfl
theorem tX8_allInOrder_9 : pm_tb tX8_allInOrder 9 = some (.aload_n 0, 1) := rfl
theorem tX8_allInOrder_10 : pm_tb tX8_allInOrder 10 = some (.getfield 72, 3) := rfl
theorem tX8_allInOrder_13 : pm_tb tX8_allInOrder 13 = some (.iload_n 1, 1) := rfl
theorem tX8_allInOrder_14 : pm_tb tX8_allInOrder 14 = some (.iconst 0, 1) := rfl
theorem tX8_allInOrder_15 : pm_tb tX8_allInOrder 15 = some (.bastore, 1) := rfl
theorem tX8_allInOrder_16 : pm_tb tX8_allInOrder 16 = some (.aload_n 0, 1) := rfl
theorem tX8_allInOrder_17 : pm_tb tX8_allInOrder 17 = some (.getfield 75, 3) := rfl
theorem tX8_allInOrder_20 : pm_tb tX8_allInOrder 20 = some (.iload_n 1, 1) := rfl
theorem tX8_allInOrder_21 : pm_tb tX8_allInOrder 21 = some (.iconst 0, 1) := rfl
theorem tX8_allInOrder_22 : pm_tb tX8_allInOrder 22 = some (.bastore, 1) := rfl
theorem tX8_allInOrder_23 : pm_tb tX8_allInOrder 23 = some (.iinc 1 1, 3) := rfl
theorem tX8_allInOrder_26 : pm_tb tX8_allInOrder 26 = some (.goto (-24), 3) := rfl
theorem tX8_allInOrder_29 : pm_tb tX8_allInOrder 29 = some (.iconst 0, 1) := rfl
theorem tX8_allInOrder_30 : pm_tb tX8_allInOrder 30 = some (.istore_n 1, 1) := rfl
theorem tX8_allInOrder_31 : pm_tb tX8_allInOrder 31 = some (.iload_n 1, 1) := rfl
theorem tX8_allInOrder_32 : pm_tb tX8_allInOrder 32 = some (.aload_n 0, 1) := rfl
theorem tX8_allInOrder_33 : pm_tb tX8_allInOrder 33 = some (.getfield 145, 3) := rfl
theorem tX8_allInOrder_36 : pm_tb tX8_allInOrder 36 = some (.if_icmp .ge 100, 3) := rfl
theorem tX8_allInOrder_39 : pm_tb tX8_allInOrder 39 = some (.aload_n 0, 1) := rfl
theorem tX8_allInOrder_40 : pm_tb tX8_allInOrder 40 = some (.iload_n 1, 1) := rfl
theorem tX8_allInOrder_41 : pm_tb tX8_allInOrder 41 = some (.invokevirtual 231, 3) := rfl
theorem tX8_allInOrder_44 : pm_tb tX8_allInOrder 44 = some (.aload_n 0, 1) := rfl
theorem tX8_allInOrder_45 : pm_tb tX8_allInOrder 45 = some (.iload_n 1, 1) := rfl
theorem tX8_allInOrder_46 : pm_tb tX8_allInOrder 46 = some (.invokevirtual 234, 3) := rfl
theorem tX8_allInOrder_49 : pm_tb tX8_allInOrder 49 = some (.ifCond .ne 12, 3) := rfl
theorem tX8_allInOrder_52 : pm_tb tX8_allInOrder 52 = some (.aload_n 0, 1) := rfl
theorem tX8_allInOrder_53 : pm_tb tX8_allInOrder 53 = some (.iload_n 1, 1) := rfl
theorem tX8_allInOrder_54 : pm_tb tX8_allInOrder 54 = some (.invokevirtual 237, 3) := rfl
theorem tX8_allInOrder_57 : pm_tb tX8_allInOrder 57 = some (.istore_n 2, 1) := rfl
theorem tX8_allInOrder_58 : pm_tb tX8_allInOrder 58 = some (.goto (-14), 3) := rfl
theorem tX8_allInOrder_61 : pm_tb tX8_allInOrder 61 = some (.iconst 0, 1) := rfl
theorem tX8_allInOrder_62 : pm_tb tX8_allInOrder 62 = some (.istore_n 2, 1) := rfl
theorem tX8_allInOrder_63 : pm_tb tX8_allInOrder 63 = some (.iload_n 2, 1) := rfl
theorem tX8_allInOrder_64 : pm_tb tX8_allInOrder 64 = some (.bipush 32, 2) := rfl
theorem tX8_allInOrder_66 : pm_tb tX8_allInOrder 66 = some (.if_icmp .ge 64, 3) := rfl
theorem tX8_allInOrder_69 : pm_tb tX8_allInOrder 69 = some (.bipush 32, 2) := rfl
theorem tX8_allInOrder_71 : pm_tb tX8_allInOrder 71 = some (.iload_n 1, 1) := rfl
theorem tX8_allInOrder_72 : pm_tb tX8_allInOrder 72 = some (.imul, 1) := rfl
theorem tX8_allInOrder_73 : pm_tb tX8_allInOrder 73 = some (.iload_n 2, 1) := rfl
theorem tX8_allInOrder_74 : pm_tb tX8_allInOrder 74 = some (.iadd, 1) := rfl
theorem tX8_allInOrder_75 : pm_tb tX8_allInOrder 75 = some (.istore_n 3, 1) := rfl
theorem tX8_allInOrder_76 : pm_tb tX8_allInOrder 76 = some (.aload_n 0, 1) := rfl
theorem tX8_allInOrder_77 : pm_tb tX8_allInOrder 77 = some (.getfield 72, 3) := rfl
theorem tX8_allInOrder_80 : pm_tb tX8_allInOrder 80 = some (.iload_n 3, 1) := rfl
theorem tX8_allInOrder_81 : pm_tb tX8_allInOrder 81 = some (.aload_n 0, 1) := rfl
theorem tX8_allInOrder_82 : pm_tb tX8_allInOrder 82 = some (.getfield 39, 3) := rfl
theorem tX8_allInOrder_85 : pm_tb tX8_allInOrder 85 = some (.iload_n 3, 1) := rfl
theorem tX8_allInOrder_86 : pm_tb tX8_allInOrder 86 = some (.baload, 1) := rfl
theorem tX8_allInOrder_87 : pm_tb tX8_allInOrder 87 = some (.ifCond .eq 16, 3) := rfl
theorem tX8_allInOrder_90 : pm_tb tX8_allInOrder 90 = some (.aload_n 0, 1) := rfl
theorem tX8_allInOrder_91 : pm_tb tX8_allInOrder 91 = some (.getfield 35, 3) := rfl
theorem tX8_allInOrder_94 : pm_tb tX8_allInOrder 94 = some (.iload_n 1, 1) := rfl
theorem tX8_allInOrder_95 : pm_tb tX8_allInOrder 95 = some (.baload, 1) := rfl
theorem tX8_allInOrder_96 : pm_tb tX8_allInOrder 96 = some (.ifCond .ne 7, 3) := rfl
theorem tX8_allInOrder_99 : pm_tb tX8_allInOrder 99 = some (.iconst 1, 1) := rfl
theorem tX8_allInOrder_100 : pm_tb tX8_allInOrder 100 = some (.goto 4, 3) := rfl
theorem tX8_allInOrder_103 : pm_tb tX8_allInOrder 103 = some (.iconst 0, 1) := rfl
theorem tX8_allInOrder_104 : pm_tb tX8_allInOrder 104 = some (.bastore, 1) := rfl
theorem tX8_allInOrder_105 : pm_tb tX8_allInOrder 105 = some (.aload_n 0, 1) := rfl
theorem tX8_allInOrder_106 : pm_tb tX8_allInOrder 106 = some (.getfield 78, 3) := rfl
theorem tX8_allInOrder_109 : pm_tb tX8_allInOrder 109 = some (.iload_n 3, 1) := rfl
theorem tX8_allInOrder_110 : pm_tb tX8_allInOrder 110 = some (.aload_n 0, 1) := rfl
theorem tX8_allInOrder_111 : pm_tb tX8_allInOrder 111 = some (.getfield 42, 3) := rfl
theorem tX8_allInOrder_114 : pm_tb tX8_allInOrder 114 = some (.iload_n 3, 1) := rfl
theorem tX8_allInOrder_115 : pm_tb tX8_allInOrder 115 = some (.laload, 1) := rfl
theorem tX8_allInOrder_116 : pm_tb tX8_allInOrder 116 = some (.lastore, 1) := rfl
theorem tX8_allInOrder_117 : pm_tb tX8_allInOrder 117 = some (.aload_n 0, 1) := rfl
theorem tX8_allInOrder_118 : pm_tb tX8_allInOrder 118 = some (.getfield 81, 3) := rfl
theorem tX8_allInOrder_121 : pm_tb tX8_allInOrder 121 = some (.iload_n 3, 1) := rfl
theorem tX8_allInOrder_122 : pm_tb tX8_allInOrder 122 = some (.iconst 0, 1) := rfl
theorem tX8_allInOrder_123 : pm_tb tX8_allInOrder 123 = some (.iastore, 1) := rfl
theorem tX8_allInOrder_124 : pm_tb tX8_allInOrder 124 = some (.iinc 2 1, 3) := rfl
theorem tX8_allInOrder_127 : pm_tb tX8_allInOrder 127 = some (.goto (-64), 3) := rfl
theorem tX8_allInOrder_130 : pm_tb tX8_allInOrder 130 = some (.iinc 1 1, 3) := rfl
theorem tX8_allInOrder_133 : pm_tb tX8_allInOrder 133 = some (.goto (-102), 3) := rfl
theorem tX8_allInOrder_136 : pm_tb tX8_allInOrder 136 = some (.return_, 1) := rfl
theorem tX8_touches_0 : pm_tb tX8_touches 0 = some (.aload_n 0, 1) := rfl
theorem tX8_touches_1 : pm_tb tX8_touches 1 = some (.getfield 39, 3) := rfl
theorem tX8_touches_4 : pm_tb tX8_touches 4 = some (.bipush 32, 2) := rfl
theorem tX8_touches_6 : pm_tb tX8_touches 6 = some (.iload_n 1, 1) := rfl
theorem tX8_touches_7 : pm_tb tX8_touches 7 = some (.imul, 1) := rfl
theorem tX8_touches_8 : pm_tb tX8_touches 8 = some (.iload_n 2, 1) := rfl
theorem tX8_touches_9 : pm_tb tX8_touches 9 = some (.iadd, 1) := rfl
theorem tX8_touches_10 : pm_tb tX8_touches 10 = some (.baload, 1) := rfl
theorem tX8_touches_11 : pm_tb tX8_touches 11 = some (.ifCond .eq 16, 3) := rfl
theorem tX8_touches_14 : pm_tb tX8_touches 14 = some (.aload_n 0, 1) := rfl
theorem tX8_touches_15 : pm_tb tX8_touches 15 = some (.getfield 35, 3) := rfl
theorem tX8_touches_18 : pm_tb tX8_touches 18 = some (.iload_n 1, 1) := rfl
theorem tX8_touches_19 : pm_tb tX8_touches 19 = some (.baload, 1) := rfl
theorem tX8_touches_20 : pm_tb tX8_touches 20 = some (.ifCond .ne 7, 3) := rfl
theorem tX8_touches_23 : pm_tb tX8_touches 23 = some (.iconst 1, 1) := rfl
theorem tX8_touches_24 : pm_tb tX8_touches 24 = some (.goto 4, 3) := rfl
theorem tX8_touches_27 : pm_tb tX8_touches 27 = some (.iconst 0, 1) := rfl
theorem tX8_touches_28 : pm_tb tX8_touches 28 = some (.istore_n 3, 1) := rfl
theorem tX8_touches_29 : pm_tb tX8_touches 29 = some (.iconst 0, 1) := rfl
theorem tX8_touches_30 : pm_tb tX8_touches 30 = some (.istore 4, 2) := rfl
theorem tX8_touches_32 : pm_tb tX8_touches 32 = some (.iload 4, 2) := rfl
theorem tX8_touches_34 : pm_tb tX8_touches 34 = some (.aload_n 0, 1) := rfl
theorem tX8_touches_35 : pm_tb tX8_touches 35 = some (.getfield 45, 3) := rfl
theorem tX8_touches_38 : pm_tb tX8_touches 38 = some (.iload_n 1, 1) := rfl
theorem tX8_touches_39 : pm_tb tX8_touches 39 = some (.iaload, 1) := rfl
theorem tX8_touches_40 : pm_tb tX8_touches 40 = some (.if_icmp .ge 35, 3) := rfl
theorem tX8_touches_43 : pm_tb tX8_touches 43 = some (.iload_n 3, 1) := rfl
theorem tX8_touches_44 : pm_tb tX8_touches 44 = some (.ifCond .ne 19, 3) := rfl
theorem tX8_touches_47 : pm_tb tX8_touches 47 = some (.aload_n 0, 1) := rfl
theorem tX8_touches_48 : pm_tb tX8_touches 48 = some (.getfield 48, 3) := rfl
theorem tX8_touches_51 : pm_tb tX8_touches 51 = some (.bipush 32, 2) := rfl
theorem tX8_touches_53 : pm_tb tX8_touches 53 = some (.iload_n 1, 1) := rfl
theorem tX8_touches_54 : pm_tb tX8_touches 54 = some (.imul, 1) := rfl
theorem tX8_touches_55 : pm_tb tX8_touches 55 = some (.iload 4, 2) := rfl
theorem tX8_touches_57 : pm_tb tX8_touches 57 = some (.iadd, 1) := rfl
theorem tX8_touches_58 : pm_tb tX8_touches 58 = some (.iaload, 1) := rfl
theorem tX8_touches_59 : pm_tb tX8_touches 59 = some (.iload_n 2, 1) := rfl
theorem tX8_touches_60 : pm_tb tX8_touches 60 = some (.if_icmp .ne 7, 3) := rfl
theorem tX8_touches_63 : pm_tb tX8_touches 63 = some (.iconst 1, 1) := rfl
theorem tX8_touches_64 : pm_tb tX8_touches 64 = some (.goto 4, 3) := rfl
theorem tX8_touches_67 : pm_tb tX8_touches 67 = some (.iconst 0, 1) := rfl
theorem tX8_touches_68 : pm_tb tX8_touches 68 = some (.istore_n 3, 1) := rfl
theorem tX8_touches_69 : pm_tb tX8_touches 69 = some (.iinc 4 1, 3) := rfl
theorem tX8_touches_72 : pm_tb tX8_touches 72 = some (.goto (-40), 3) := rfl
theorem tX8_touches_75 : pm_tb tX8_touches 75 = some (.iload_n 3, 1) := rfl
theorem tX8_touches_76 : pm_tb tX8_touches 76 = some (.ireturn, 1) := rfl
theorem tX8_rootOf_0 : pm_tb tX8_rootOf 0 = some (.iload_n 1, 1) := rfl
theorem tX8_rootOf_1 : pm_tb tX8_rootOf 1 = some (.istore_n 2, 1) := rfl
theorem tX8_rootOf_2 : pm_tb tX8_rootOf 2 = some (.aload_n 0, 1) := rfl
theorem tX8_rootOf_3 : pm_tb tX8_rootOf 3 = some (.getfield 102, 3) := rfl
theorem tX8_rootOf_6 : pm_tb tX8_rootOf 6 = some (.iload_n 2, 1) := rfl
theorem tX8_rootOf_7 : pm_tb tX8_rootOf 7 = some (.iaload, 1) := rfl
theorem tX8_rootOf_8 : pm_tb tX8_rootOf 8 = some (.iload_n 2, 1) := rfl
theorem tX8_rootOf_9 : pm_tb tX8_rootOf 9 = some (.if_icmp .eq 13, 3) := rfl
theorem tX8_rootOf_12 : pm_tb tX8_rootOf 12 = some (.aload_n 0, 1) := rfl
theorem tX8_rootOf_13 : pm_tb tX8_rootOf 13 = some (.getfield 102, 3) := rfl
theorem tX8_rootOf_16 : pm_tb tX8_rootOf 16 = some (.iload_n 2, 1) := rfl
theorem tX8_rootOf_17 : pm_tb tX8_rootOf 17 = some (.iaload, 1) := rfl
theorem tX8_rootOf_18 : pm_tb tX8_rootOf 18 = some (.istore_n 2, 1) := rfl
theorem tX8_rootOf_19 : pm_tb tX8_rootOf 19 = some (.goto (-17), 3) := rfl
theorem tX8_rootOf_22 : pm_tb tX8_rootOf 22 = some (.iload_n 2, 1) := rfl
theorem tX8_rootOf_23 : pm_tb tX8_rootOf 23 = some (.ireturn, 1) := rfl
theorem tX8_settle_0 : pm_tb tX8_settle 0 = some (.aload_n 0, 1) := rfl
theorem tX8_settle_1 : pm_tb tX8_settle 1 = some (.iconst 0, 1) := rfl
theorem tX8_settle_2 : pm_tb tX8_settle 2 = some (.putfield 247, 3) := rfl
theorem tX8_settle_5 : pm_tb tX8_settle 5 = some (.iconst 0, 1) := rfl
theorem tX8_settle_6 : pm_tb tX8_settle 6 = some (.istore_n 1, 1) := rfl
theorem tX8_settle_7 : pm_tb tX8_settle 7 = some (.iload_n 1, 1) := rfl
theorem tX8_settle_8 : pm_tb tX8_settle 8 = some (.aload_n 0, 1) := rfl
theorem tX8_settle_9 : pm_tb tX8_settle 9 = some (.getfield 180, 3) := rfl
theorem tX8_settle_12 : pm_tb tX8_settle 12 = some (.if_icmp .ge 230, 3) := rfl
theorem tX8_settle_15 : pm_tb tX8_settle 15 = some (.iconst 0, 1) := rfl
theorem tX8_settle_16 : pm_tb tX8_settle 16 = some (.istore_n 2, 1) := rfl
theorem tX8_settle_17 : pm_tb tX8_settle 17 = some (.iload_n 2, 1) := rfl
theorem tX8_settle_18 : pm_tb tX8_settle 18 = some (.bipush 32, 2) := rfl
theorem tX8_settle_20 : pm_tb tX8_settle 20 = some (.if_icmp .ge 40, 3) := rfl
theorem tX8_settle_23 : pm_tb tX8_settle 23 = some (.aload_n 0, 1) := rfl
theorem tX8_settle_24 : pm_tb tX8_settle 24 = some (.getfield 72, 3) := rfl
theorem tX8_settle_27 : pm_tb tX8_settle 27 = some (.bipush 32, 2) := rfl
theorem tX8_settle_29 : pm_tb tX8_settle 29 = some (.iload_n 1, 1) := rfl
theorem tX8_settle_30 : pm_tb tX8_settle 30 = some (.imul, 1) := rfl
theorem tX8_settle_31 : pm_tb tX8_settle 31 = some (.iload_n 2, 1) := rfl
theorem tX8_settle_32 : pm_tb tX8_settle 32 = some (.iadd, 1) := rfl
theorem tX8_settle_33 : pm_tb tX8_settle 33 = some (.baload, 1) := rfl
theorem tX8_settle_34 : pm_tb tX8_settle 34 = some (.ifCond .eq 20, 3) := rfl
theorem tX8_settle_37 : pm_tb tX8_settle 37 = some (.aload_n 0, 1) := rfl
theorem tX8_settle_38 : pm_tb tX8_settle 38 = some (.getfield 7, 3) := rfl
theorem tX8_settle_41 : pm_tb tX8_settle 41 = some (.iload_n 2, 1) := rfl
theorem tX8_settle_42 : pm_tb tX8_settle 42 = some (.aload_n 0, 1) := rfl
theorem tX8_settle_43 : pm_tb tX8_settle 43 = some (.getfield 78, 3) := rfl
theorem tX8_settle_46 : pm_tb tX8_settle 46 = some (.bipush 32, 2) := rfl
theorem tX8_settle_48 : pm_tb tX8_settle 48 = some (.iload_n 1, 1) := rfl
theorem tX8_settle_49 : pm_tb tX8_settle 49 = some (.imul, 1) := rfl
theorem tX8_settle_50 : pm_tb tX8_settle 50 = some (.iload_n 2, 1) := rfl
theorem tX8_settle_51 : pm_tb tX8_settle 51 = some (.iadd, 1) := rfl
theorem tX8_settle_52 : pm_tb tX8_settle 52 = some (.laload, 1) := rfl
theorem tX8_settle_53 : pm_tb tX8_settle 53 = some (.lastore, 1) := rfl
theorem tX8_settle_54 : pm_tb tX8_settle 54 = some (.iinc 2 1, 3) := rfl
theorem tX8_settle_57 : pm_tb tX8_settle 57 = some (.goto (-40), 3) := rfl
theorem tX8_settle_60 : pm_tb tX8_settle 60 = some (.iconst 0, 1) := rfl
theorem tX8_settle_61 : pm_tb tX8_settle 61 = some (.istore_n 2, 1) := rfl
theorem tX8_settle_62 : pm_tb tX8_settle 62 = some (.iload_n 2, 1) := rfl
theorem tX8_settle_63 : pm_tb tX8_settle 63 = some (.aload_n 0, 1) := rfl
theorem tX8_settle_64 : pm_tb tX8_settle 64 = some (.getfield 60, 3) := rfl
theorem tX8_settle_67 : pm_tb tX8_settle 67 = some (.iload_n 1, 1) := rfl
theorem tX8_settle_68 : pm_tb tX8_settle 68 = some (.iaload, 1) := rfl
theorem tX8_settle_69 : pm_tb tX8_settle 69 = some (.if_icmp .ge 58, 3) := rfl
theorem tX8_settle_72 : pm_tb tX8_settle 72 = some (.aload_n 0, 1) := rfl
theorem tX8_settle_73 : pm_tb tX8_settle 73 = some (.getfield 35, 3) := rfl
theorem tX8_settle_76 : pm_tb tX8_settle 76 = some (.iload_n 1, 1) := rfl
theorem tX8_settle_77 : pm_tb tX8_settle 77 = some (.baload, 1) := rfl
theorem tX8_settle_78 : pm_tb tX8_settle 78 = some (.ifCond .ne 49, 3) := rfl
theorem tX8_settle_81 : pm_tb tX8_settle 81 = some (.aload_n 0, 1) := rfl
theorem tX8_settle_82 : pm_tb tX8_settle 82 = some (.getfield 111, 3) := rfl
theorem tX8_settle_85 : pm_tb tX8_settle 85 = some (.aload_n 0, 1) := rfl
theorem tX8_settle_86 : pm_tb tX8_settle 86 = some (.getfield 247, 3) := rfl
theorem tX8_settle_89 : pm_tb tX8_settle 89 = some (.aload_n 0, 1) := rfl
theorem tX8_settle_90 : pm_tb tX8_settle 90 = some (.getfield 63, 3) := rfl
theorem tX8_settle_93 : pm_tb tX8_settle 93 = some (.bipush 12, 2) := rfl
theorem tX8_settle_95 : pm_tb tX8_settle 95 = some (.iload_n 1, 1) := rfl
theorem tX8_settle_96 : pm_tb tX8_settle 96 = some (.imul, 1) := rfl
theorem tX8_settle_97 : pm_tb tX8_settle 97 = some (.iload_n 2, 1) := rfl
theorem tX8_settle_98 : pm_tb tX8_settle 98 = some (.iadd, 1) := rfl
theorem tX8_settle_99 : pm_tb tX8_settle 99 = some (.laload, 1) := rfl
theorem tX8_settle_100 : pm_tb tX8_settle 100 = some (.lastore, 1) := rfl
theorem tX8_settle_101 : pm_tb tX8_settle 101 = some (.aload_n 0, 1) := rfl
theorem tX8_settle_102 : pm_tb tX8_settle 102 = some (.getfield 114, 3) := rfl
theorem tX8_settle_105 : pm_tb tX8_settle 105 = some (.aload_n 0, 1) := rfl
theorem tX8_settle_106 : pm_tb tX8_settle 106 = some (.getfield 247, 3) := rfl
theorem tX8_settle_109 : pm_tb tX8_settle 109 = some (.iload_n 1, 1) := rfl
theorem tX8_settle_110 : pm_tb tX8_settle 110 = some (.iastore, 1) := rfl
theorem tX8_settle_111 : pm_tb tX8_settle 111 = some (.aload_n 0, 1) := rfl
theorem tX8_settle_112 : pm_tb tX8_settle 112 = some (.dup, 1) := rfl
theorem tX8_settle_113 : pm_tb tX8_settle 113 = some (.getfield 247, 3) := rfl
theorem tX8_settle_116 : pm_tb tX8_settle 116 = some (.iconst 1, 1) := rfl
theorem tX8_settle_117 : pm_tb tX8_settle 117 = some (.iadd, 1) := rfl
theorem tX8_settle_118 : pm_tb tX8_settle 118 = some (.putfield 247, 3) := rfl
theorem tX8_settle_121 : pm_tb tX8_settle 121 = some (.iinc 2 1, 3) := rfl
theorem tX8_settle_124 : pm_tb tX8_settle 124 = some (.goto (-62), 3) := rfl
theorem tX8_settle_127 : pm_tb tX8_settle 127 = some (.iconst 0, 1) := rfl
theorem tX8_settle_128 : pm_tb tX8_settle 128 = some (.istore_n 2, 1) := rfl
theorem tX8_settle_129 : pm_tb tX8_settle 129 = some (.iconst 0, 1) := rfl
theorem tX8_settle_130 : pm_tb tX8_settle 130 = some (.istore_n 3, 1) := rfl
theorem tX8_settle_131 : pm_tb tX8_settle 131 = some (.iload_n 3, 1) := rfl
theorem tX8_settle_132 : pm_tb tX8_settle 132 = some (.bipush 32, 2) := rfl
theorem tX8_settle_134 : pm_tb tX8_settle 134 = some (.if_icmp .ge 40, 3) := rfl
theorem tX8_settle_137 : pm_tb tX8_settle 137 = some (.iload_n 2, 1) := rfl
theorem tX8_settle_138 : pm_tb tX8_settle 138 = some (.aload_n 0, 1) := rfl
theorem tX8_settle_139 : pm_tb tX8_settle 139 = some (.getfield 39, 3) := rfl
theorem tX8_settle_142 : pm_tb tX8_settle 142 = some (.bipush 32, 2) := rfl
theorem tX8_settle_144 : pm_tb tX8_settle 144 = some (.iload_n 1, 1) := rfl
theorem tX8_settle_145 : pm_tb tX8_settle 145 = some (.imul, 1) := rfl
theorem tX8_settle_146 : pm_tb tX8_settle 146 = some (.iload_n 3, 1) := rfl
theorem tX8_settle_147 : pm_tb tX8_settle 147 = some (.iadd, 1) := rfl
theorem tX8_settle_148 : pm_tb tX8_settle 148 = some (.baload, 1) := rfl
theorem tX8_settle_149 : pm_tb tX8_settle 149 = some (.ifCond .eq 16, 3) := rfl
theorem tX8_settle_152 : pm_tb tX8_settle 152 = some (.aload_n 0, 1) := rfl
theorem tX8_settle_153 : pm_tb tX8_settle 153 = some (.getfield 35, 3) := rfl
theorem tX8_settle_156 : pm_tb tX8_settle 156 = some (.iload_n 1, 1) := rfl
theorem tX8_settle_157 : pm_tb tX8_settle 157 = some (.baload, 1) := rfl
theorem tX8_settle_158 : pm_tb tX8_settle 158 = some (.ifCond .ne 7, 3) := rfl
theorem tX8_settle_161 : pm_tb tX8_settle 161 = some (.iconst 1, 1) := rfl
theorem tX8_settle_162 : pm_tb tX8_settle 162 = some (.goto 4, 3) := rfl
theorem tX8_settle_165 : pm_tb tX8_settle 165 = some (.iconst 0, 1) := rfl
theorem tX8_settle_166 : pm_tb tX8_settle 166 = some (.iadd, 1) := rfl
theorem tX8_settle_167 : pm_tb tX8_settle 167 = some (.istore_n 2, 1) := rfl
theorem tX8_settle_168 : pm_tb tX8_settle 168 = some (.iinc 3 1, 3) := rfl
theorem tX8_settle_171 : pm_tb tX8_settle 171 = some (.goto (-40), 3) := rfl
theorem tX8_settle_174 : pm_tb tX8_settle 174 = some (.aload_n 0, 1) := rfl
theorem tX8_settle_175 : pm_tb tX8_settle 175 = some (.getfield 117, 3) := rfl
theorem tX8_settle_178 : pm_tb tX8_settle 178 = some (.iload_n 1, 1) := rfl
theorem tX8_settle_179 : pm_tb tX8_settle 179 = some (.aload_n 0, 1) := rfl
theorem tX8_settle_180 : pm_tb tX8_settle 180 = some (.getfield 35, 3) := rfl
theorem tX8_settle_183 : pm_tb tX8_settle 183 = some (.iload_n 1, 1) := rfl
theorem tX8_settle_184 : pm_tb tX8_settle 184 = some (.baload, 1) := rfl
theorem tX8_settle_185 : pm_tb tX8_settle 185 = some (.bastore, 1) := rfl
theorem tX8_settle_186 : pm_tb tX8_settle 186 = some (.aload_n 0, 1) := rfl
theorem tX8_settle_187 : pm_tb tX8_settle 187 = some (.getfield 120, 3) := rfl
theorem tX8_settle_190 : pm_tb tX8_settle 190 = some (.iload_n 1, 1) := rfl
theorem tX8_settle_191 : pm_tb tX8_settle 191 = some (.aload_n 0, 1) := rfl
theorem tX8_settle_192 : pm_tb tX8_settle 192 = some (.getfield 45, 3) := rfl
theorem tX8_settle_195 : pm_tb tX8_settle 195 = some (.iload_n 1, 1) := rfl
theorem tX8_settle_196 : pm_tb tX8_settle 196 = some (.iaload, 1) := rfl
theorem tX8_settle_197 : pm_tb tX8_settle 197 = some (.iastore, 1) := rfl
theorem tX8_settle_198 : pm_tb tX8_settle 198 = some (.aload_n 0, 1) := rfl
theorem tX8_settle_199 : pm_tb tX8_settle 199 = some (.getfield 123, 3) := rfl
theorem tX8_settle_202 : pm_tb tX8_settle 202 = some (.iload_n 1, 1) := rfl
theorem tX8_settle_203 : pm_tb tX8_settle 203 = some (.iload_n 2, 1) := rfl
theorem tX8_settle_204 : pm_tb tX8_settle 204 = some (.iastore, 1) := rfl
theorem tX8_settle_205 : pm_tb tX8_settle 205 = some (.aload_n 0, 1) := rfl
theorem tX8_settle_206 : pm_tb tX8_settle 206 = some (.getfield 126, 3) := rfl
theorem tX8_settle_209 : pm_tb tX8_settle 209 = some (.iload_n 1, 1) := rfl
theorem tX8_settle_210 : pm_tb tX8_settle 210 = some (.aload_n 0, 1) := rfl
theorem tX8_settle_211 : pm_tb tX8_settle 211 = some (.getfield 69, 3) := rfl
theorem tX8_settle_214 : pm_tb tX8_settle 214 = some (.iload_n 1, 1) := rfl
theorem tX8_settle_215 : pm_tb tX8_settle 215 = some (.iaload, 1) := rfl
theorem tX8_settle_216 : pm_tb tX8_settle 216 = some (.iastore, 1) := rfl
theorem tX8_settle_217 : pm_tb tX8_settle 217 = some (.aload_n 0, 1) := rfl
theorem tX8_settle_218 : pm_tb tX8_settle 218 = some (.getfield 129, 3) := rfl
theorem tX8_settle_221 : pm_tb tX8_settle 221 = some (.iload_n 1, 1) := rfl
theorem tX8_settle_222 : pm_tb tX8_settle 222 = some (.aload_n 0, 1) := rfl
theorem tX8_settle_223 : pm_tb tX8_settle 223 = some (.getfield 66, 3) := rfl
theorem tX8_settle_226 : pm_tb tX8_settle 226 = some (.iload_n 1, 1) := rfl
theorem tX8_settle_227 : pm_tb tX8_settle 227 = some (.iaload, 1) := rfl
theorem tX8_settle_228 : pm_tb tX8_settle 228 = some (.iastore, 1) := rfl
theorem tX8_settle_229 : pm_tb tX8_settle 229 = some (.aload_n 0, 1) := rfl
theorem tX8_settle_230 : pm_tb tX8_settle 230 = some (.getfield 102, 3) := rfl
theorem tX8_settle_233 : pm_tb tX8_settle 233 = some (.iload_n 1, 1) := rfl
theorem tX8_settle_234 : pm_tb tX8_settle 234 = some (.iload_n 1, 1) := rfl
theorem tX8_settle_235 : pm_tb tX8_settle 235 = some (.iastore, 1) := rfl
theorem tX8_settle_236 : pm_tb tX8_settle 236 = some (.iinc 1 1, 3) := rfl
theorem tX8_settle_239 : pm_tb tX8_settle 239 = some (.goto (-232), 3) := rfl
theorem tX8_settle_242 : pm_tb tX8_settle 242 = some (.iconst 0, 1) := rfl
theorem tX8_settle_243 : pm_tb tX8_settle 243 = some (.istore_n 1, 1) := rfl
theorem tX8_settle_244 : pm_tb tX8_settle 244 = some (.iload_n 1, 1) := rfl
theorem tX8_settle_245 : pm_tb tX8_settle 245 = some (.bipush 32, 2) := rfl
theorem tX8_settle_247 : pm_tb tX8_settle 247 = some (.if_icmp .ge 93, 3) := rfl
theorem tX8_settle_250 : pm_tb tX8_settle 250 = some (.iconst (-1), 1) := rfl
theorem tX8_settle_251 : pm_tb tX8_settle 251 = some (.istore_n 2, 1) := rfl
theorem tX8_settle_252 : pm_tb tX8_settle 252 = some (.iconst 0, 1) := rfl
theorem tX8_settle_253 : pm_tb tX8_settle 253 = some (.istore_n 3, 1) := rfl
theorem tX8_settle_254 : pm_tb tX8_settle 254 = some (.iload_n 3, 1) := rfl
theorem tX8_settle_255 : pm_tb tX8_settle 255 = some (.aload_n 0, 1) := rfl
theorem tX8_settle_256 : pm_tb tX8_settle 256 = some (.getfield 180, 3) := rfl
theorem tX8_settle_259 : pm_tb tX8_settle 259 = some (.if_icmp .ge 75, 3) := rfl
theorem tX8_settle_262 : pm_tb tX8_settle 262 = some (.aload_n 0, 1) := rfl
theorem tX8_settle_263 : pm_tb tX8_settle 263 = some (.iload_n 3, 1) := rfl
theorem tX8_settle_264 : pm_tb tX8_settle 264 = some (.iload_n 1, 1) := rfl
theorem tX8_settle_265 : pm_tb tX8_settle 265 = some (.invokevirtual 250, 3) := rfl
theorem tX8_settle_268 : pm_tb tX8_settle 268 = some (.ifCond .eq 60, 3) := rfl
theorem tX8_settle_271 : pm_tb tX8_settle 271 = some (.iload_n 2, 1) := rfl
theorem tX8_settle_272 : pm_tb tX8_settle 272 = some (.iconst (-1), 1) := rfl
theorem tX8_settle_273 : pm_tb tX8_settle 273 = some (.if_icmp .ne 8, 3) := rfl
theorem tX8_settle_276 : pm_tb tX8_settle 276 = some (.iload_n 3, 1) := rfl
theorem tX8_settle_277 : pm_tb tX8_settle 277 = some (.istore_n 2, 1) := rfl
theorem tX8_settle_278 : pm_tb tX8_settle 278 = some (.goto 50, 3) := rfl
theorem tX8_settle_281 : pm_tb tX8_settle 281 = some (.aload_n 0, 1) := rfl
theorem tX8_settle_282 : pm_tb tX8_settle 282 = some (.iload_n 2, 1) := rfl
theorem tX8_settle_283 : pm_tb tX8_settle 283 = some (.invokevirtual 254, 3) := rfl
theorem tX8_settle_286 : pm_tb tX8_settle 286 = some (.istore 4, 2) := rfl
theorem tX8_settle_288 : pm_tb tX8_settle 288 = some (.aload_n 0, 1) := rfl
theorem tX8_settle_289 : pm_tb tX8_settle 289 = some (.iload_n 3, 1) := rfl
theorem tX8_settle_290 : pm_tb tX8_settle 290 = some (.invokevirtual 254, 3) := rfl
theorem tX8_settle_293 : pm_tb tX8_settle 293 = some (.istore 5, 2) := rfl
theorem tX8_settle_295 : pm_tb tX8_settle 295 = some (.aload_n 0, 1) := rfl
theorem tX8_settle_296 : pm_tb tX8_settle 296 = some (.getfield 102, 3) := rfl
theorem tX8_settle_299 : pm_tb tX8_settle 299 = some (.iload 4, 2) := rfl
theorem tX8_settle_301 : pm_tb tX8_settle 301 = some (.iload 5, 2) := rfl
theorem tX8_settle_303 : pm_tb tX8_settle 303 = some (.if_icmp .ge 8, 3) := rfl
theorem tX8_settle_306 : pm_tb tX8_settle 306 = some (.iload 5, 2) := rfl
theorem tX8_settle_308 : pm_tb tX8_settle 308 = some (.goto 5, 3) := rfl
theorem tX8_settle_311 : pm_tb tX8_settle 311 = some (.iload 4, 2) := rfl
theorem tX8_settle_313 : pm_tb tX8_settle 313 = some (.iload 4, 2) := rfl
theorem tX8_settle_315 : pm_tb tX8_settle 315 = some (.iload 5, 2) := rfl
theorem tX8_settle_317 : pm_tb tX8_settle 317 = some (.if_icmp .ge 8, 3) := rfl
theorem tX8_settle_320 : pm_tb tX8_settle 320 = some (.iload 4, 2) := rfl
theorem tX8_settle_322 : pm_tb tX8_settle 322 = some (.goto 5, 3) := rfl
theorem tX8_settle_325 : pm_tb tX8_settle 325 = some (.iload 5, 2) := rfl
theorem tX8_settle_327 : pm_tb tX8_settle 327 = some (.iastore, 1) := rfl
theorem tX8_settle_328 : pm_tb tX8_settle 328 = some (.iinc 3 1, 3) := rfl
theorem tX8_settle_331 : pm_tb tX8_settle 331 = some (.goto (-77), 3) := rfl
theorem tX8_settle_334 : pm_tb tX8_settle 334 = some (.iinc 1 1, 3) := rfl
theorem tX8_settle_337 : pm_tb tX8_settle 337 = some (.goto (-93), 3) := rfl
theorem tX8_settle_340 : pm_tb tX8_settle 340 = some (.aload_n 0, 1) := rfl
theorem tX8_settle_341 : pm_tb tX8_settle 341 = some (.iconst 0, 1) := rfl
theorem tX8_settle_342 : pm_tb tX8_settle 342 = some (.putfield 257, 3) := rfl
theorem tX8_settle_345 : pm_tb tX8_settle 345 = some (.iconst 0, 1) := rfl
theorem tX8_settle_346 : pm_tb tX8_settle 346 = some (.istore_n 1, 1) := rfl
theorem tX8_settle_347 : pm_tb tX8_settle 347 = some (.iload_n 1, 1) := rfl
theorem tX8_settle_348 : pm_tb tX8_settle 348 = some (.aload_n 0, 1) := rfl
theorem tX8_settle_349 : pm_tb tX8_settle 349 = some (.getfield 180, 3) := rfl
theorem tX8_settle_352 : pm_tb tX8_settle 352 = some (.if_icmp .ge 33, 3) := rfl
theorem tX8_settle_355 : pm_tb tX8_settle 355 = some (.aload_n 0, 1) := rfl
theorem tX8_settle_356 : pm_tb tX8_settle 356 = some (.dup, 1) := rfl
theorem tX8_settle_357 : pm_tb tX8_settle 357 = some (.getfield 257, 3) := rfl
theorem tX8_settle_360 : pm_tb tX8_settle 360 = some (.aload_n 0, 1) := rfl
theorem tX8_settle_361 : pm_tb tX8_settle 361 = some (.getfield 102, 3) := rfl
theorem tX8_settle_364 : pm_tb tX8_settle 364 = some (.iload_n 1, 1) := rfl
theorem tX8_settle_365 : pm_tb tX8_settle 365 = some (.iaload, 1) := rfl
theorem tX8_settle_366 : pm_tb tX8_settle 366 = some (.iload_n 1, 1) := rfl
theorem tX8_settle_367 : pm_tb tX8_settle 367 = some (.if_icmp .ne 7, 3) := rfl
theorem tX8_settle_370 : pm_tb tX8_settle 370 = some (.iconst 1, 1) := rfl
theorem tX8_settle_371 : pm_tb tX8_settle 371 = some (.goto 4, 3) := rfl
theorem tX8_settle_374 : pm_tb tX8_settle 374 = some (.iconst 0, 1) := rfl
theorem tX8_settle_375 : pm_tb tX8_settle 375 = some (.iadd, 1) := rfl
theorem tX8_settle_376 : pm_tb tX8_settle 376 = some (.putfield 257, 3) := rfl
theorem tX8_settle_379 : pm_tb tX8_settle 379 = some (.iinc 1 1, 3) := rfl
theorem tX8_settle_382 : pm_tb tX8_settle 382 = some (.goto (-35), 3) := rfl
theorem tX8_settle_385 : pm_tb tX8_settle 385 = some (.iconst 0, 1) := rfl
theorem tX8_settle_386 : pm_tb tX8_settle 386 = some (.istore_n 1, 1) := rfl
theorem tX8_settle_387 : pm_tb tX8_settle 387 = some (.iload_n 1, 1) := rfl
theorem tX8_settle_388 : pm_tb tX8_settle 388 = some (.aload_n 0, 1) := rfl
theorem tX8_settle_389 : pm_tb tX8_settle 389 = some (.getfield 180, 3) := rfl
theorem tX8_settle_392 : pm_tb tX8_settle 392 = some (.if_icmp .ge 20, 3) := rfl
theorem tX8_settle_395 : pm_tb tX8_settle 395 = some (.aload_n 0, 1) := rfl
theorem tX8_settle_396 : pm_tb tX8_settle 396 = some (.getfield 102, 3) := rfl
theorem tX8_settle_399 : pm_tb tX8_settle 399 = some (.iload_n 1, 1) := rfl
theorem tX8_settle_400 : pm_tb tX8_settle 400 = some (.aload_n 0, 1) := rfl
theorem tX8_settle_401 : pm_tb tX8_settle 401 = some (.iload_n 1, 1) := rfl
theorem tX8_settle_402 : pm_tb tX8_settle 402 = some (.invokevirtual 254, 3) := rfl
theorem tX8_settle_405 : pm_tb tX8_settle 405 = some (.iastore, 1) := rfl
theorem tX8_settle_406 : pm_tb tX8_settle 406 = some (.iinc 1 1, 3) := rfl
theorem tX8_settle_409 : pm_tb tX8_settle 409 = some (.goto (-22), 3) := rfl
theorem tX8_settle_412 : pm_tb tX8_settle 412 = some (.return_, 1) := rfl
theorem tX8_run_0 : pm_tb tX8_run 0 = some (.iload_n 1, 1) := rfl
theorem tX8_run_1 : pm_tb tX8_run 1 = some (.iconst 1, 1) := rfl
theorem tX8_run_2 : pm_tb tX8_run 2 = some (.if_icmp .lt 8, 3) := rfl
theorem tX8_run_5 : pm_tb tX8_run 5 = some (.iload_n 1, 1) := rfl
theorem tX8_run_6 : pm_tb tX8_run 6 = some (.iconst 4, 1) := rfl
theorem tX8_run_7 : pm_tb tX8_run 7 = some (.if_icmp .le 5, 3) := rfl
theorem tX8_run_10 : pm_tb tX8_run 10 = some (.iconst (-1), 1) := rfl
theorem tX8_run_11 : pm_tb tX8_run 11 = some (.ireturn, 1) := rfl
theorem tX8_run_12 : pm_tb tX8_run 12 = some (.aload_n 0, 1) := rfl
theorem tX8_run_13 : pm_tb tX8_run 13 = some (.aload_n 0, 1) := rfl
theorem tX8_run_14 : pm_tb tX8_run 14 = some (.getfield 145, 3) := rfl
theorem tX8_run_17 : pm_tb tX8_run 17 = some (.putfield 180, 3) := rfl
theorem tX8_run_20 : pm_tb tX8_run 20 = some (.aload_n 0, 1) := rfl
theorem tX8_run_21 : pm_tb tX8_run 21 = some (.iconst 0, 1) := rfl
theorem tX8_run_22 : pm_tb tX8_run 22 = some (.putfield 183, 3) := rfl
theorem tX8_run_25 : pm_tb tX8_run 25 = some (.aload_n 0, 1) := rfl
theorem tX8_run_26 : pm_tb tX8_run 26 = some (.iconst 0, 1) := rfl
theorem tX8_run_27 : pm_tb tX8_run 27 = some (.putfield 186, 3) := rfl
theorem tX8_run_30 : pm_tb tX8_run 30 = some (.aload_n 0, 1) := rfl
theorem tX8_run_31 : pm_tb tX8_run 31 = some (.iconst 0, 1) := rfl
theorem tX8_run_32 : pm_tb tX8_run 32 = some (.putfield 189, 3) := rfl
theorem tX8_run_35 : pm_tb tX8_run 35 = some (.aload_n 0, 1) := rfl
theorem tX8_run_36 : pm_tb tX8_run 36 = some (.iconst 0, 1) := rfl
theorem tX8_run_37 : pm_tb tX8_run 37 = some (.putfield 192, 3) := rfl
theorem tX8_run_40 : pm_tb tX8_run 40 = some (.aload_n 0, 1) := rfl
theorem tX8_run_41 : pm_tb tX8_run 41 = some (.iconst 0, 1) := rfl
theorem tX8_run_42 : pm_tb tX8_run 42 = some (.putfield 195, 3) := rfl
theorem tX8_run_45 : pm_tb tX8_run 45 = some (.aload_n 0, 1) := rfl
theorem tX8_run_46 : pm_tb tX8_run 46 = some (.iconst 0, 1) := rfl
theorem tX8_run_47 : pm_tb tX8_run 47 = some (.putfield 177, 3) := rfl
theorem tX8_run_50 : pm_tb tX8_run 50 = some (.aload_n 0, 1) := rfl
theorem tX8_run_51 : pm_tb tX8_run 51 = some (.iconst 0, 1) := rfl
theorem tX8_run_52 : pm_tb tX8_run 52 = some (.putfield 174, 3) := rfl
theorem tX8_run_55 : pm_tb tX8_run 55 = some (.aload_n 0, 1) := rfl
theorem tX8_run_56 : pm_tb tX8_run 56 = some (.iconst 0, 1) := rfl
theorem tX8_run_57 : pm_tb tX8_run 57 = some (.putfield 198, 3) := rfl
theorem tX8_run_60 : pm_tb tX8_run 60 = some (.aload_n 0, 1) := rfl
theorem tX8_run_61 : pm_tb tX8_run 61 = some (.iconst 0, 1) := rfl
theorem tX8_run_62 : pm_tb tX8_run 62 = some (.putfield 201, 3) := rfl
theorem tX8_run_65 : pm_tb tX8_run 65 = some (.iconst 0, 1) := rfl
theorem tX8_run_66 : pm_tb tX8_run 66 = some (.istore_n 3, 1) := rfl
theorem tX8_run_67 : pm_tb tX8_run 67 = some (.iload_n 3, 1) := rfl
theorem tX8_run_68 : pm_tb tX8_run 68 = some (.sipush 512, 3) := rfl
theorem tX8_run_71 : pm_tb tX8_run 71 = some (.if_icmp .ge 23, 3) := rfl
theorem tX8_run_74 : pm_tb tX8_run 74 = some (.aload_n 0, 1) := rfl
theorem tX8_run_75 : pm_tb tX8_run 75 = some (.getfield 72, 3) := rfl
theorem tX8_run_78 : pm_tb tX8_run 78 = some (.iload_n 3, 1) := rfl
theorem tX8_run_79 : pm_tb tX8_run 79 = some (.iconst 0, 1) := rfl
theorem tX8_run_80 : pm_tb tX8_run 80 = some (.bastore, 1) := rfl
theorem tX8_run_81 : pm_tb tX8_run 81 = some (.aload_n 0, 1) := rfl
theorem tX8_run_82 : pm_tb tX8_run 82 = some (.getfield 75, 3) := rfl
theorem tX8_run_85 : pm_tb tX8_run 85 = some (.iload_n 3, 1) := rfl
theorem tX8_run_86 : pm_tb tX8_run 86 = some (.iconst 0, 1) := rfl
theorem tX8_run_87 : pm_tb tX8_run 87 = some (.bastore, 1) := rfl
theorem tX8_run_88 : pm_tb tX8_run 88 = some (.iinc 3 1, 3) := rfl
theorem tX8_run_91 : pm_tb tX8_run 91 = some (.goto (-24), 3) := rfl
theorem tX8_run_94 : pm_tb tX8_run 94 = some (.iconst 0, 1) := rfl
theorem tX8_run_95 : pm_tb tX8_run 95 = some (.istore_n 3, 1) := rfl
theorem tX8_run_96 : pm_tb tX8_run 96 = some (.iload_n 3, 1) := rfl
theorem tX8_run_97 : pm_tb tX8_run 97 = some (.bipush 16, 2) := rfl
theorem tX8_run_99 : pm_tb tX8_run 99 = some (.if_icmp .ge 58, 3) := rfl
theorem tX8_run_102 : pm_tb tX8_run 102 = some (.aload_n 0, 1) := rfl
theorem tX8_run_103 : pm_tb tX8_run 103 = some (.getfield 84, 3) := rfl
theorem tX8_run_106 : pm_tb tX8_run 106 = some (.iload_n 3, 1) := rfl
theorem tX8_run_107 : pm_tb tX8_run 107 = some (.iconst 0, 1) := rfl
theorem tX8_run_108 : pm_tb tX8_run 108 = some (.iastore, 1) := rfl
theorem tX8_run_109 : pm_tb tX8_run 109 = some (.aload_n 0, 1) := rfl
theorem tX8_run_110 : pm_tb tX8_run 110 = some (.getfield 87, 3) := rfl
theorem tX8_run_113 : pm_tb tX8_run 113 = some (.iload_n 3, 1) := rfl
theorem tX8_run_114 : pm_tb tX8_run 114 = some (.iconst 0, 1) := rfl
theorem tX8_run_115 : pm_tb tX8_run 115 = some (.iastore, 1) := rfl
theorem tX8_run_116 : pm_tb tX8_run 116 = some (.aload_n 0, 1) := rfl
theorem tX8_run_117 : pm_tb tX8_run 117 = some (.getfield 66, 3) := rfl
theorem tX8_run_120 : pm_tb tX8_run 120 = some (.iload_n 3, 1) := rfl
theorem tX8_run_121 : pm_tb tX8_run 121 = some (.iconst 0, 1) := rfl
theorem tX8_run_122 : pm_tb tX8_run 122 = some (.iastore, 1) := rfl
theorem tX8_run_123 : pm_tb tX8_run 123 = some (.aload_n 0, 1) := rfl
theorem tX8_run_124 : pm_tb tX8_run 124 = some (.getfield 69, 3) := rfl
theorem tX8_run_127 : pm_tb tX8_run 127 = some (.iload_n 3, 1) := rfl
theorem tX8_run_128 : pm_tb tX8_run 128 = some (.iconst 0, 1) := rfl
theorem tX8_run_129 : pm_tb tX8_run 129 = some (.iastore, 1) := rfl
theorem tX8_run_130 : pm_tb tX8_run 130 = some (.aload_n 0, 1) := rfl
theorem tX8_run_131 : pm_tb tX8_run 131 = some (.getfield 45, 3) := rfl
theorem tX8_run_134 : pm_tb tX8_run 134 = some (.iload_n 3, 1) := rfl
theorem tX8_run_135 : pm_tb tX8_run 135 = some (.iconst 0, 1) := rfl
theorem tX8_run_136 : pm_tb tX8_run 136 = some (.iastore, 1) := rfl
theorem tX8_run_137 : pm_tb tX8_run 137 = some (.aload_n 0, 1) := rfl
theorem tX8_run_138 : pm_tb tX8_run 138 = some (.getfield 35, 3) := rfl
theorem tX8_run_141 : pm_tb tX8_run 141 = some (.iload_n 3, 1) := rfl
theorem tX8_run_142 : pm_tb tX8_run 142 = some (.iconst 0, 1) := rfl
theorem tX8_run_143 : pm_tb tX8_run 143 = some (.bastore, 1) := rfl
theorem tX8_run_144 : pm_tb tX8_run 144 = some (.aload_n 0, 1) := rfl
theorem tX8_run_145 : pm_tb tX8_run 145 = some (.getfield 60, 3) := rfl
theorem tX8_run_148 : pm_tb tX8_run 148 = some (.iload_n 3, 1) := rfl
theorem tX8_run_149 : pm_tb tX8_run 149 = some (.iconst 0, 1) := rfl
theorem tX8_run_150 : pm_tb tX8_run 150 = some (.iastore, 1) := rfl
theorem tX8_run_151 : pm_tb tX8_run 151 = some (.iinc 3 1, 3) := rfl
theorem tX8_run_154 : pm_tb tX8_run 154 = some (.goto (-58), 3) := rfl
theorem tX8_run_157 : pm_tb tX8_run 157 = some (.iconst 0, 1) := rfl
theorem tX8_run_158 : pm_tb tX8_run 158 = some (.istore_n 3, 1) := rfl
theorem tX8_run_159 : pm_tb tX8_run 159 = some (.iload_n 3, 1) := rfl
theorem tX8_run_160 : pm_tb tX8_run 160 = some (.iconst 4, 1) := rfl
theorem tX8_run_161 : pm_tb tX8_run 161 = some (.if_icmp .ge 16, 3) := rfl
theorem tX8_run_164 : pm_tb tX8_run 164 = some (.aload_n 0, 1) := rfl
theorem tX8_run_165 : pm_tb tX8_run 165 = some (.getfield 93, 3) := rfl
theorem tX8_run_168 : pm_tb tX8_run 168 = some (.iload_n 3, 1) := rfl
theorem tX8_run_169 : pm_tb tX8_run 169 = some (.iconst 0, 1) := rfl
theorem tX8_run_170 : pm_tb tX8_run 170 = some (.iastore, 1) := rfl
theorem tX8_run_171 : pm_tb tX8_run 171 = some (.iinc 3 1, 3) := rfl
theorem tX8_run_174 : pm_tb tX8_run 174 = some (.goto (-15), 3) := rfl
theorem tX8_run_177 : pm_tb tX8_run 177 = some (.iload_n 2, 1) := rfl
theorem tX8_run_178 : pm_tb tX8_run 178 = some (.istore_n 3, 1) := rfl
theorem tX8_run_179 : pm_tb tX8_run 179 = some (.aload_n 0, 1) := rfl
theorem tX8_run_180 : pm_tb tX8_run 180 = some (.getfield 186, 3) := rfl
theorem tX8_run_183 : pm_tb tX8_run 183 = some (.ifCond .ne 43, 3) := rfl
theorem tX8_run_186 : pm_tb tX8_run 186 = some (.aload_n 0, 1) := rfl
theorem tX8_run_187 : pm_tb tX8_run 187 = some (.iload_n 1, 1) := rfl
theorem tX8_run_188 : pm_tb tX8_run 188 = some (.invokevirtual 204, 3) := rfl
theorem tX8_run_191 : pm_tb tX8_run 191 = some (.ifCond .ne 35, 3) := rfl
theorem tX8_run_194 : pm_tb tX8_run 194 = some (.iload_n 3, 1) := rfl
theorem tX8_run_195 : pm_tb tX8_run 195 = some (.ldc 208, 2) := rfl
theorem tX8_run_197 : pm_tb tX8_run 197 = some (.imul, 1) := rfl
theorem tX8_run_198 : pm_tb tX8_run 198 = some (.sipush 12345, 3) := rfl
theorem tX8_run_201 : pm_tb tX8_run 201 = some (.iadd, 1) := rfl
theorem tX8_run_202 : pm_tb tX8_run 202 = some (.istore_n 3, 1) := rfl
theorem tX8_run_203 : pm_tb tX8_run 203 = some (.aload_n 0, 1) := rfl
theorem tX8_run_204 : pm_tb tX8_run 204 = some (.dup, 1) := rfl
theorem tX8_run_205 : pm_tb tX8_run 205 = some (.getfield 183, 3) := rfl
theorem tX8_run_208 : pm_tb tX8_run 208 = some (.iconst 1, 1) := rfl
theorem tX8_run_209 : pm_tb tX8_run 209 = some (.iadd, 1) := rfl
theorem tX8_run_210 : pm_tb tX8_run 210 = some (.putfield 183, 3) := rfl
theorem tX8_run_213 : pm_tb tX8_run 213 = some (.aload_n 0, 1) := rfl
theorem tX8_run_214 : pm_tb tX8_run 214 = some (.iload_n 3, 1) := rfl
theorem tX8_run_215 : pm_tb tX8_run 215 = some (.bipush 16, 2) := rfl
theorem tX8_run_217 : pm_tb tX8_run 217 = some (.iushr, 1) := rfl
theorem tX8_run_218 : pm_tb tX8_run 218 = some (.iload_n 1, 1) := rfl
theorem tX8_run_219 : pm_tb tX8_run 219 = some (.irem, 1) := rfl
theorem tX8_run_220 : pm_tb tX8_run 220 = some (.invokevirtual 209, 3) := rfl
theorem tX8_run_223 : pm_tb tX8_run 223 = some (.goto (-44), 3) := rfl
theorem tX8_run_226 : pm_tb tX8_run 226 = some (.aload_n 0, 1) := rfl
theorem tX8_run_227 : pm_tb tX8_run 227 = some (.getfield 186, 3) := rfl
theorem tX8_run_230 : pm_tb tX8_run 230 = some (.ifCond .eq 7, 3) := rfl
theorem tX8_run_233 : pm_tb tX8_run 233 = some (.aload_n 0, 1) := rfl
theorem tX8_run_234 : pm_tb tX8_run 234 = some (.invokevirtual 213, 3) := rfl
theorem tX8_run_237 : pm_tb tX8_run 237 = some (.aload_n 0, 1) := rfl
theorem tX8_run_238 : pm_tb tX8_run 238 = some (.invokevirtual 216, 3) := rfl
theorem tX8_run_241 : pm_tb tX8_run 241 = some (.aload_n 0, 1) := rfl
theorem tX8_run_242 : pm_tb tX8_run 242 = some (.getfield 183, 3) := rfl
theorem tX8_run_245 : pm_tb tX8_run 245 = some (.ireturn, 1) := rfl
theorem tX8_at_0 : pm_tb tX8_at 0 = some (.iload_n 1, 1) := rfl
theorem tX8_at_1 : pm_tb tX8_at 1 = some (.ifCond .lt 18, 3) := rfl
theorem tX8_at_4 : pm_tb tX8_at 4 = some (.iload_n 1, 1) := rfl
theorem tX8_at_5 : pm_tb tX8_at 5 = some (.bipush 32, 2) := rfl
theorem tX8_at_7 : pm_tb tX8_at 7 = some (.if_icmp .ge 12, 3) := rfl
theorem tX8_at_10 : pm_tb tX8_at 10 = some (.aload_n 0, 1) := rfl
theorem tX8_at_11 : pm_tb tX8_at 11 = some (.getfield 7, 3) := rfl
theorem tX8_at_14 : pm_tb tX8_at 14 = some (.iload_n 1, 1) := rfl
theorem tX8_at_15 : pm_tb tX8_at 15 = some (.laload, 1) := rfl
theorem tX8_at_16 : pm_tb tX8_at 16 = some (.goto 4, 3) := rfl
theorem tX8_at_19 : pm_tb tX8_at 19 = some (.lconst 0, 1) := rfl
theorem tX8_at_20 : pm_tb tX8_at 20 = some (.lreturn, 1) := rfl
theorem tX8_inOrder_0 : pm_tb tX8_inOrder 0 = some (.iload_n 1, 1) := rfl
theorem tX8_inOrder_1 : pm_tb tX8_inOrder 1 = some (.ifCond .lt 9, 3) := rfl
theorem tX8_inOrder_4 : pm_tb tX8_inOrder 4 = some (.iload_n 1, 1) := rfl
theorem tX8_inOrder_5 : pm_tb tX8_inOrder 5 = some (.bipush 32, 2) := rfl
theorem tX8_inOrder_7 : pm_tb tX8_inOrder 7 = some (.if_icmp .lt 5, 3) := rfl
theorem tX8_inOrder_10 : pm_tb tX8_inOrder 10 = some (.lconst 0, 1) := rfl
theorem tX8_inOrder_11 : pm_tb tX8_inOrder 11 = some (.lreturn, 1) := rfl
theorem tX8_inOrder_12 : pm_tb tX8_inOrder 12 = some (.iconst 0, 1) := rfl
theorem tX8_inOrder_13 : pm_tb tX8_inOrder 13 = some (.istore_n 2, 1) := rfl
theorem tX8_inOrder_14 : pm_tb tX8_inOrder 14 = some (.iload_n 2, 1) := rfl
theorem tX8_inOrder_15 : pm_tb tX8_inOrder 15 = some (.bipush 32, 2) := rfl
theorem tX8_inOrder_17 : pm_tb tX8_inOrder 17 = some (.if_icmp .ge 21, 3) := rfl
theorem tX8_inOrder_20 : pm_tb tX8_inOrder 20 = some (.aload_n 0, 1) := rfl
theorem tX8_inOrder_21 : pm_tb tX8_inOrder 21 = some (.getfield 132, 3) := rfl
theorem tX8_inOrder_24 : pm_tb tX8_inOrder 24 = some (.iload_n 2, 1) := rfl
theorem tX8_inOrder_25 : pm_tb tX8_inOrder 25 = some (.aload_n 0, 1) := rfl
theorem tX8_inOrder_26 : pm_tb tX8_inOrder 26 = some (.getfield 7, 3) := rfl
theorem tX8_inOrder_29 : pm_tb tX8_inOrder 29 = some (.iload_n 2, 1) := rfl
theorem tX8_inOrder_30 : pm_tb tX8_inOrder 30 = some (.laload, 1) := rfl
theorem tX8_inOrder_31 : pm_tb tX8_inOrder 31 = some (.lastore, 1) := rfl
theorem tX8_inOrder_32 : pm_tb tX8_inOrder 32 = some (.iinc 2 1, 3) := rfl
theorem tX8_inOrder_35 : pm_tb tX8_inOrder 35 = some (.goto (-21), 3) := rfl
theorem tX8_inOrder_38 : pm_tb tX8_inOrder 38 = some (.iconst 0, 1) := rfl
theorem tX8_inOrder_39 : pm_tb tX8_inOrder 39 = some (.istore_n 2, 1) := rfl
theorem tX8_inOrder_40 : pm_tb tX8_inOrder 40 = some (.iload_n 2, 1) := rfl
theorem tX8_inOrder_41 : pm_tb tX8_inOrder 41 = some (.aload_n 0, 1) := rfl
theorem tX8_inOrder_42 : pm_tb tX8_inOrder 42 = some (.getfield 145, 3) := rfl
theorem tX8_inOrder_45 : pm_tb tX8_inOrder 45 = some (.if_icmp .ge 379, 3) := rfl
theorem tX8_inOrder_48 : pm_tb tX8_inOrder 48 = some (.iconst 0, 1) := rfl
theorem tX8_inOrder_49 : pm_tb tX8_inOrder 49 = some (.istore_n 3, 1) := rfl
theorem tX8_inOrder_50 : pm_tb tX8_inOrder 50 = some (.iload_n 3, 1) := rfl
theorem tX8_inOrder_51 : pm_tb tX8_inOrder 51 = some (.bipush 32, 2) := rfl
theorem tX8_inOrder_53 : pm_tb tX8_inOrder 53 = some (.if_icmp .ge 21, 3) := rfl
theorem tX8_inOrder_56 : pm_tb tX8_inOrder 56 = some (.aload_n 0, 1) := rfl
theorem tX8_inOrder_57 : pm_tb tX8_inOrder 57 = some (.getfield 135, 3) := rfl
theorem tX8_inOrder_60 : pm_tb tX8_inOrder 60 = some (.iload_n 3, 1) := rfl
theorem tX8_inOrder_61 : pm_tb tX8_inOrder 61 = some (.aload_n 0, 1) := rfl
theorem tX8_inOrder_62 : pm_tb tX8_inOrder 62 = some (.getfield 132, 3) := rfl
theorem tX8_inOrder_65 : pm_tb tX8_inOrder 65 = some (.iload_n 3, 1) := rfl
theorem tX8_inOrder_66 : pm_tb tX8_inOrder 66 = some (.laload, 1) := rfl
theorem tX8_inOrder_67 : pm_tb tX8_inOrder 67 = some (.lastore, 1) := rfl
theorem tX8_inOrder_68 : pm_tb tX8_inOrder 68 = some (.iinc 3 1, 3) := rfl
theorem tX8_inOrder_71 : pm_tb tX8_inOrder 71 = some (.goto (-21), 3) := rfl
theorem tX8_inOrder_74 : pm_tb tX8_inOrder 74 = some (.iconst 0, 1) := rfl
theorem tX8_inOrder_75 : pm_tb tX8_inOrder 75 = some (.istore_n 3, 1) := rfl
theorem tX8_inOrder_76 : pm_tb tX8_inOrder 76 = some (.iload_n 3, 1) := rfl
theorem tX8_inOrder_77 : pm_tb tX8_inOrder 77 = some (.iconst 4, 1) := rfl
theorem tX8_inOrder_78 : pm_tb tX8_inOrder 78 = some (.if_icmp .ge 16, 3) := rfl
theorem tX8_inOrder_81 : pm_tb tX8_inOrder 81 = some (.aload_n 0, 1) := rfl
theorem tX8_inOrder_82 : pm_tb tX8_inOrder 82 = some (.getfield 138, 3) := rfl
theorem tX8_inOrder_85 : pm_tb tX8_inOrder 85 = some (.iload_n 3, 1) := rfl
theorem tX8_inOrder_86 : pm_tb tX8_inOrder 86 = some (.lconst 0, 1) := rfl
theorem tX8_inOrder_87 : pm_tb tX8_inOrder 87 = some (.lastore, 1) := rfl
theorem tX8_inOrder_88 : pm_tb tX8_inOrder 88 = some (.iinc 3 1, 3) := rfl
theorem tX8_inOrder_91 : pm_tb tX8_inOrder 91 = some (.goto (-15), 3) := rfl
theorem tX8_inOrder_94 : pm_tb tX8_inOrder 94 = some (.iconst 0, 1) := rfl
theorem tX8_inOrder_95 : pm_tb tX8_inOrder 95 = some (.istore_n 3, 1) := rfl
theorem tX8_inOrder_96 : pm_tb tX8_inOrder 96 = some (.iconst 0, 1) := rfl
theorem tX8_inOrder_97 : pm_tb tX8_inOrder 97 = some (.istore 4, 2) := rfl
theorem tX8_inOrder_99 : pm_tb tX8_inOrder 99 = some (.iload 4, 2) := rfl
theorem tX8_inOrder_101 : pm_tb tX8_inOrder 101 = some (.aload_n 0, 1) := rfl
theorem tX8_inOrder_102 : pm_tb tX8_inOrder 102 = some (.getfield 13, 3) := rfl
theorem tX8_inOrder_105 : pm_tb tX8_inOrder 105 = some (.iload_n 2, 1) := rfl
theorem tX8_inOrder_106 : pm_tb tX8_inOrder 106 = some (.iaload, 1) := rfl
theorem tX8_inOrder_107 : pm_tb tX8_inOrder 107 = some (.if_icmp .ge 277, 3) := rfl
theorem tX8_inOrder_110 : pm_tb tX8_inOrder 110 = some (.iload_n 3, 1) := rfl
theorem tX8_inOrder_111 : pm_tb tX8_inOrder 111 = some (.ifCond .ne 273, 3) := rfl
theorem tX8_inOrder_114 : pm_tb tX8_inOrder 114 = some (.bipush 12, 2) := rfl
theorem tX8_inOrder_116 : pm_tb tX8_inOrder 116 = some (.iload_n 2, 1) := rfl
theorem tX8_inOrder_117 : pm_tb tX8_inOrder 117 = some (.imul, 1) := rfl
theorem tX8_inOrder_118 : pm_tb tX8_inOrder 118 = some (.iload 4, 2) := rfl
theorem tX8_inOrder_120 : pm_tb tX8_inOrder 120 = some (.iadd, 1) := rfl
theorem tX8_inOrder_121 : pm_tb tX8_inOrder 121 = some (.istore 5, 2) := rfl
theorem tX8_inOrder_123 : pm_tb tX8_inOrder 123 = some (.aload_n 0, 1) := rfl
theorem tX8_inOrder_124 : pm_tb tX8_inOrder 124 = some (.getfield 20, 3) := rfl
theorem tX8_inOrder_127 : pm_tb tX8_inOrder 127 = some (.iload 5, 2) := rfl
theorem tX8_inOrder_129 : pm_tb tX8_inOrder 129 = some (.iaload, 1) := rfl
theorem tX8_inOrder_130 : pm_tb tX8_inOrder 130 = some (.istore 6, 2) := rfl
theorem tX8_inOrder_132 : pm_tb tX8_inOrder 132 = some (.aload_n 0, 1) := rfl
theorem tX8_inOrder_133 : pm_tb tX8_inOrder 133 = some (.getfield 23, 3) := rfl
theorem tX8_inOrder_136 : pm_tb tX8_inOrder 136 = some (.iload 5, 2) := rfl
theorem tX8_inOrder_138 : pm_tb tX8_inOrder 138 = some (.iaload, 1) := rfl
theorem tX8_inOrder_139 : pm_tb tX8_inOrder 139 = some (.istore 7, 2) := rfl
theorem tX8_inOrder_141 : pm_tb tX8_inOrder 141 = some (.aload_n 0, 1) := rfl
theorem tX8_inOrder_142 : pm_tb tX8_inOrder 142 = some (.getfield 17, 3) := rfl
theorem tX8_inOrder_145 : pm_tb tX8_inOrder 145 = some (.iload 5, 2) := rfl
theorem tX8_inOrder_147 : pm_tb tX8_inOrder 147 = some (.iaload, 1) := rfl
theorem tX8_inOrder_148 : pm_tb tX8_inOrder 148 = some (.istore 8, 2) := rfl
theorem tX8_inOrder_150 : pm_tb tX8_inOrder 150 = some (.aload_n 0, 1) := rfl
theorem tX8_inOrder_151 : pm_tb tX8_inOrder 151 = some (.getfield 26, 3) := rfl
theorem tX8_inOrder_154 : pm_tb tX8_inOrder 154 = some (.iload 5, 2) := rfl
theorem tX8_inOrder_156 : pm_tb tX8_inOrder 156 = some (.laload, 1) := rfl
theorem tX8_inOrder_157 : pm_tb tX8_inOrder 157 = some (.aload_n 0, 1) := rfl
theorem tX8_inOrder_158 : pm_tb tX8_inOrder 158 = some (.getfield 138, 3) := rfl
theorem tX8_inOrder_161 : pm_tb tX8_inOrder 161 = some (.iload 7, 2) := rfl
theorem tX8_inOrder_163 : pm_tb tX8_inOrder 163 = some (.laload, 1) := rfl
theorem tX8_inOrder_164 : pm_tb tX8_inOrder 164 = some (.ladd, 1) := rfl
theorem tX8_inOrder_165 : pm_tb tX8_inOrder 165 = some (.invokestatic 166, 3) := rfl
theorem tX8_inOrder_168 : pm_tb tX8_inOrder 168 = some (.istore 9, 2) := rfl
theorem tX8_inOrder_170 : pm_tb tX8_inOrder 170 = some (.iload 8, 2) := rfl
theorem tX8_inOrder_172 : pm_tb tX8_inOrder 172 = some (.ifCond .ne 20, 3) := rfl
theorem tX8_inOrder_175 : pm_tb tX8_inOrder 175 = some (.aload_n 0, 1) := rfl
theorem tX8_inOrder_176 : pm_tb tX8_inOrder 176 = some (.getfield 138, 3) := rfl
theorem tX8_inOrder_179 : pm_tb tX8_inOrder 179 = some (.iload 6, 2) := rfl
theorem tX8_inOrder_181 : pm_tb tX8_inOrder 181 = some (.aload_n 0, 1) := rfl
theorem tX8_inOrder_182 : pm_tb tX8_inOrder 182 = some (.getfield 26, 3) := rfl
theorem tX8_inOrder_185 : pm_tb tX8_inOrder 185 = some (.iload 5, 2) := rfl
theorem tX8_inOrder_187 : pm_tb tX8_inOrder 187 = some (.laload, 1) := rfl
theorem tX8_inOrder_188 : pm_tb tX8_inOrder 188 = some (.lastore, 1) := rfl
theorem tX8_inOrder_189 : pm_tb tX8_inOrder 189 = some (.goto 189, 3) := rfl
theorem tX8_inOrder_192 : pm_tb tX8_inOrder 192 = some (.iload 8, 2) := rfl
theorem tX8_inOrder_194 : pm_tb tX8_inOrder 194 = some (.iconst 1, 1) := rfl
theorem tX8_inOrder_195 : pm_tb tX8_inOrder 195 = some (.if_icmp .ne 20, 3) := rfl
theorem tX8_inOrder_198 : pm_tb tX8_inOrder 198 = some (.aload_n 0, 1) := rfl
theorem tX8_inOrder_199 : pm_tb tX8_inOrder 199 = some (.getfield 138, 3) := rfl
theorem tX8_inOrder_202 : pm_tb tX8_inOrder 202 = some (.iload 6, 2) := rfl
theorem tX8_inOrder_204 : pm_tb tX8_inOrder 204 = some (.aload_n 0, 1) := rfl
theorem tX8_inOrder_205 : pm_tb tX8_inOrder 205 = some (.getfield 135, 3) := rfl
theorem tX8_inOrder_208 : pm_tb tX8_inOrder 208 = some (.iload 9, 2) := rfl
theorem tX8_inOrder_210 : pm_tb tX8_inOrder 210 = some (.laload, 1) := rfl
theorem tX8_inOrder_211 : pm_tb tX8_inOrder 211 = some (.lastore, 1) := rfl
theorem tX8_inOrder_212 : pm_tb tX8_inOrder 212 = some (.goto 166, 3) := rfl
theorem tX8_inOrder_215 : pm_tb tX8_inOrder 215 = some (.iload 8, 2) := rfl
theorem tX8_inOrder_217 : pm_tb tX8_inOrder 217 = some (.iconst 2, 1) := rfl
theorem tX8_inOrder_218 : pm_tb tX8_inOrder 218 = some (.if_icmp .ne 20, 3) := rfl
theorem tX8_inOrder_221 : pm_tb tX8_inOrder 221 = some (.aload_n 0, 1) := rfl
theorem tX8_inOrder_222 : pm_tb tX8_inOrder 222 = some (.getfield 135, 3) := rfl
theorem tX8_inOrder_225 : pm_tb tX8_inOrder 225 = some (.iload 9, 2) := rfl
theorem tX8_inOrder_227 : pm_tb tX8_inOrder 227 = some (.aload_n 0, 1) := rfl
theorem tX8_inOrder_228 : pm_tb tX8_inOrder 228 = some (.getfield 138, 3) := rfl
theorem tX8_inOrder_231 : pm_tb tX8_inOrder 231 = some (.iload 6, 2) := rfl
theorem tX8_inOrder_233 : pm_tb tX8_inOrder 233 = some (.laload, 1) := rfl
theorem tX8_inOrder_234 : pm_tb tX8_inOrder 234 = some (.lastore, 1) := rfl
theorem tX8_inOrder_235 : pm_tb tX8_inOrder 235 = some (.goto 143, 3) := rfl
theorem tX8_inOrder_238 : pm_tb tX8_inOrder 238 = some (.iload 8, 2) := rfl
theorem tX8_inOrder_240 : pm_tb tX8_inOrder 240 = some (.iconst 3, 1) := rfl
theorem tX8_inOrder_241 : pm_tb tX8_inOrder 241 = some (.if_icmp .ne 23, 3) := rfl
theorem tX8_inOrder_244 : pm_tb tX8_inOrder 244 = some (.aload_n 0, 1) := rfl
theorem tX8_inOrder_245 : pm_tb tX8_inOrder 245 = some (.getfield 138, 3) := rfl
theorem tX8_inOrder_248 : pm_tb tX8_inOrder 248 = some (.iload 6, 2) := rfl
theorem tX8_inOrder_250 : pm_tb tX8_inOrder 250 = some (.dup2, 1) := rfl
theorem tX8_inOrder_251 : pm_tb tX8_inOrder 251 = some (.laload, 1) := rfl
theorem tX8_inOrder_252 : pm_tb tX8_inOrder 252 = some (.aload_n 0, 1) := rfl
theorem tX8_inOrder_253 : pm_tb tX8_inOrder 253 = some (.getfield 138, 3) := rfl
theorem tX8_inOrder_256 : pm_tb tX8_inOrder 256 = some (.iload 7, 2) := rfl
theorem tX8_inOrder_258 : pm_tb tX8_inOrder 258 = some (.laload, 1) := rfl
theorem tX8_inOrder_259 : pm_tb tX8_inOrder 259 = some (.ladd, 1) := rfl
theorem tX8_inOrder_260 : pm_tb tX8_inOrder 260 = some (.lastore, 1) := rfl
theorem tX8_inOrder_261 : pm_tb tX8_inOrder 261 = some (.goto 117, 3) := rfl
theorem tX8_inOrder_264 : pm_tb tX8_inOrder 264 = some (.iload 8, 2) := rfl
theorem tX8_inOrder_266 : pm_tb tX8_inOrder 266 = some (.iconst 4, 1) := rfl
theorem tX8_inOrder_267 : pm_tb tX8_inOrder 267 = some (.if_icmp .ne 23, 3) := rfl
theorem tX8_inOrder_270 : pm_tb tX8_inOrder 270 = some (.aload_n 0, 1) := rfl
theorem tX8_inOrder_271 : pm_tb tX8_inOrder 271 = some (.getfield 138, 3) := rfl
theorem tX8_inOrder_274 : pm_tb tX8_inOrder 274 = some (.iload 6, 2) := rfl
theorem tX8_inOrder_276 : pm_tb tX8_inOrder 276 = some (.dup2, 1) := rfl
theorem tX8_inOrder_277 : pm_tb tX8_inOrder 277 = some (.laload, 1) := rfl
theorem tX8_inOrder_278 : pm_tb tX8_inOrder 278 = some (.aload_n 0, 1) := rfl
theorem tX8_inOrder_279 : pm_tb tX8_inOrder 279 = some (.getfield 138, 3) := rfl
theorem tX8_inOrder_282 : pm_tb tX8_inOrder 282 = some (.iload 7, 2) := rfl
theorem tX8_inOrder_284 : pm_tb tX8_inOrder 284 = some (.laload, 1) := rfl
theorem tX8_inOrder_285 : pm_tb tX8_inOrder 285 = some (.lsub, 1) := rfl
theorem tX8_inOrder_286 : pm_tb tX8_inOrder 286 = some (.lastore, 1) := rfl
theorem tX8_inOrder_287 : pm_tb tX8_inOrder 287 = some (.goto 91, 3) := rfl
theorem tX8_inOrder_290 : pm_tb tX8_inOrder 290 = some (.iload 8, 2) := rfl
theorem tX8_inOrder_292 : pm_tb tX8_inOrder 292 = some (.iconst 5, 1) := rfl
theorem tX8_inOrder_293 : pm_tb tX8_inOrder 293 = some (.if_icmp .ne 23, 3) := rfl
theorem tX8_inOrder_296 : pm_tb tX8_inOrder 296 = some (.aload_n 0, 1) := rfl
theorem tX8_inOrder_297 : pm_tb tX8_inOrder 297 = some (.getfield 138, 3) := rfl
theorem tX8_inOrder_300 : pm_tb tX8_inOrder 300 = some (.iload 6, 2) := rfl
theorem tX8_inOrder_302 : pm_tb tX8_inOrder 302 = some (.dup2, 1) := rfl
theorem tX8_inOrder_303 : pm_tb tX8_inOrder 303 = some (.laload, 1) := rfl
theorem tX8_inOrder_304 : pm_tb tX8_inOrder 304 = some (.aload_n 0, 1) := rfl
theorem tX8_inOrder_305 : pm_tb tX8_inOrder 305 = some (.getfield 138, 3) := rfl
theorem tX8_inOrder_308 : pm_tb tX8_inOrder 308 = some (.iload 7, 2) := rfl
theorem tX8_inOrder_310 : pm_tb tX8_inOrder 310 = some (.laload, 1) := rfl
theorem tX8_inOrder_311 : pm_tb tX8_inOrder 311 = some (.lmul, 1) := rfl
theorem tX8_inOrder_312 : pm_tb tX8_inOrder 312 = some (.lastore, 1) := rfl
theorem tX8_inOrder_313 : pm_tb tX8_inOrder 313 = some (.goto 65, 3) := rfl
theorem tX8_inOrder_316 : pm_tb tX8_inOrder 316 = some (.iload 8, 2) := rfl
theorem tX8_inOrder_318 : pm_tb tX8_inOrder 318 = some (.bipush 6, 2) := rfl
theorem tX8_inOrder_320 : pm_tb tX8_inOrder 320 = some (.if_icmp .ne 37, 3) := rfl
theorem tX8_inOrder_323 : pm_tb tX8_inOrder 323 = some (.aload_n 0, 1) := rfl
theorem tX8_inOrder_324 : pm_tb tX8_inOrder 324 = some (.getfield 138, 3) := rfl
theorem tX8_inOrder_327 : pm_tb tX8_inOrder 327 = some (.iload 6, 2) := rfl
theorem tX8_inOrder_329 : pm_tb tX8_inOrder 329 = some (.laload, 1) := rfl
theorem tX8_inOrder_330 : pm_tb tX8_inOrder 330 = some (.aload_n 0, 1) := rfl
theorem tX8_inOrder_331 : pm_tb tX8_inOrder 331 = some (.getfield 138, 3) := rfl
theorem tX8_inOrder_334 : pm_tb tX8_inOrder 334 = some (.iload 7, 2) := rfl
theorem tX8_inOrder_336 : pm_tb tX8_inOrder 336 = some (.laload, 1) := rfl
theorem tX8_inOrder_337 : pm_tb tX8_inOrder 337 = some (.lcmp, 1) := rfl
theorem tX8_inOrder_338 : pm_tb tX8_inOrder 338 = some (.ifCond .ge 19, 3) := rfl
theorem tX8_inOrder_341 : pm_tb tX8_inOrder 341 = some (.iload 4, 2) := rfl
theorem tX8_inOrder_343 : pm_tb tX8_inOrder 343 = some (.aload_n 0, 1) := rfl
theorem tX8_inOrder_344 : pm_tb tX8_inOrder 344 = some (.getfield 26, 3) := rfl
theorem tX8_inOrder_347 : pm_tb tX8_inOrder 347 = some (.iload 5, 2) := rfl
theorem tX8_inOrder_349 : pm_tb tX8_inOrder 349 = some (.laload, 1) := rfl
theorem tX8_inOrder_350 : pm_tb tX8_inOrder 350 = some (.l2i, 1) := rfl
theorem tX8_inOrder_351 : pm_tb tX8_inOrder 351 = some (.iadd, 1) := rfl
theorem tX8_inOrder_352 : pm_tb tX8_inOrder 352 = some (.istore 4, 2) := rfl
theorem tX8_inOrder_354 : pm_tb tX8_inOrder 354 = some (.goto 24, 3) := rfl
theorem tX8_inOrder_357 : pm_tb tX8_inOrder 357 = some (.iload 8, 2) := rfl
theorem tX8_inOrder_359 : pm_tb tX8_inOrder 359 = some (.bipush 8, 2) := rfl
theorem tX8_inOrder_361 : pm_tb tX8_inOrder 361 = some (.if_icmp .ne 17, 3) := rfl
theorem tX8_inOrder_364 : pm_tb tX8_inOrder 364 = some (.aload_n 0, 1) := rfl
theorem tX8_inOrder_365 : pm_tb tX8_inOrder 365 = some (.getfield 138, 3) := rfl
theorem tX8_inOrder_368 : pm_tb tX8_inOrder 368 = some (.iload 6, 2) := rfl
theorem tX8_inOrder_370 : pm_tb tX8_inOrder 370 = some (.laload, 1) := rfl
theorem tX8_inOrder_371 : pm_tb tX8_inOrder 371 = some (.lconst 0, 1) := rfl
theorem tX8_inOrder_372 : pm_tb tX8_inOrder 372 = some (.lcmp, 1) := rfl
theorem tX8_inOrder_373 : pm_tb tX8_inOrder 373 = some (.ifCond .ge 5, 3) := rfl
theorem tX8_inOrder_376 : pm_tb tX8_inOrder 376 = some (.iconst 1, 1) := rfl
theorem tX8_inOrder_377 : pm_tb tX8_inOrder 377 = some (.istore_n 3, 1) := rfl
theorem tX8_inOrder_378 : pm_tb tX8_inOrder 378 = some (.iinc 4 1, 3) := rfl
theorem tX8_inOrder_381 : pm_tb tX8_inOrder 381 = some (.goto (-282), 3) := rfl
theorem tX8_inOrder_384 : pm_tb tX8_inOrder 384 = some (.iconst 0, 1) := rfl
theorem tX8_inOrder_385 : pm_tb tX8_inOrder 385 = some (.istore 5, 2) := rfl
theorem tX8_inOrder_387 : pm_tb tX8_inOrder 387 = some (.iload 5, 2) := rfl
theorem tX8_inOrder_389 : pm_tb tX8_inOrder 389 = some (.bipush 32, 2) := rfl
theorem tX8_inOrder_391 : pm_tb tX8_inOrder 391 = some (.if_icmp .ge 27, 3) := rfl
theorem tX8_inOrder_394 : pm_tb tX8_inOrder 394 = some (.iload_n 3, 1) := rfl
theorem tX8_inOrder_395 : pm_tb tX8_inOrder 395 = some (.ifCond .ne 23, 3) := rfl
theorem tX8_inOrder_398 : pm_tb tX8_inOrder 398 = some (.aload_n 0, 1) := rfl
theorem tX8_inOrder_399 : pm_tb tX8_inOrder 399 = some (.getfield 132, 3) := rfl
theorem tX8_inOrder_402 : pm_tb tX8_inOrder 402 = some (.iload 5, 2) := rfl
theorem tX8_inOrder_404 : pm_tb tX8_inOrder 404 = some (.aload_n 0, 1) := rfl
theorem tX8_inOrder_405 : pm_tb tX8_inOrder 405 = some (.getfield 135, 3) := rfl
theorem tX8_inOrder_408 : pm_tb tX8_inOrder 408 = some (.iload 5, 2) := rfl
theorem tX8_inOrder_410 : pm_tb tX8_inOrder 410 = some (.laload, 1) := rfl
theorem tX8_inOrder_411 : pm_tb tX8_inOrder 411 = some (.lastore, 1) := rfl
theorem tX8_inOrder_412 : pm_tb tX8_inOrder 412 = some (.iinc 5 1, 3) := rfl
theorem tX8_inOrder_415 : pm_tb tX8_inOrder 415 = some (.goto (-28), 3) := rfl
theorem tX8_inOrder_418 : pm_tb tX8_inOrder 418 = some (.iinc 2 1, 3) := rfl
theorem tX8_inOrder_421 : pm_tb tX8_inOrder 421 = some (.goto (-381), 3) := rfl
theorem tX8_inOrder_424 : pm_tb tX8_inOrder 424 = some (.aload_n 0, 1) := rfl
theorem tX8_inOrder_425 : pm_tb tX8_inOrder 425 = some (.getfield 132, 3) := rfl
theorem tX8_inOrder_428 : pm_tb tX8_inOrder 428 = some (.iload_n 1, 1) := rfl
theorem tX8_inOrder_429 : pm_tb tX8_inOrder 429 = some (.laload, 1) := rfl
theorem tX8_inOrder_430 : pm_tb tX8_inOrder 430 = some (.lreturn, 1) := rfl
theorem tX8_events_0 : pm_tb tX8_events 0 = some (.aload_n 0, 1) := rfl
theorem tX8_events_1 : pm_tb tX8_events 1 = some (.getfield 247, 3) := rfl
theorem tX8_events_4 : pm_tb tX8_events 4 = some (.ireturn, 1) := rfl
theorem tX8_event_0 : pm_tb tX8_event 0 = some (.iload_n 1, 1) := rfl
theorem tX8_event_1 : pm_tb tX8_event 1 = some (.ifCond .lt 20, 3) := rfl
theorem tX8_event_4 : pm_tb tX8_event 4 = some (.iload_n 1, 1) := rfl
theorem tX8_event_5 : pm_tb tX8_event 5 = some (.aload_n 0, 1) := rfl
theorem tX8_event_6 : pm_tb tX8_event 6 = some (.getfield 247, 3) := rfl
theorem tX8_event_9 : pm_tb tX8_event 9 = some (.if_icmp .ge 12, 3) := rfl
theorem tX8_event_12 : pm_tb tX8_event 12 = some (.iload_n 2, 1) := rfl
theorem tX8_event_13 : pm_tb tX8_event 13 = some (.ifCond .lt 8, 3) := rfl
theorem tX8_event_16 : pm_tb tX8_event 16 = some (.iload_n 2, 1) := rfl
theorem tX8_event_17 : pm_tb tX8_event 17 = some (.iconst 1, 1) := rfl
theorem tX8_event_18 : pm_tb tX8_event 18 = some (.if_icmp .le 5, 3) := rfl
theorem tX8_event_21 : pm_tb tX8_event 21 = some (.lconst 0, 1) := rfl
theorem tX8_event_22 : pm_tb tX8_event 22 = some (.lreturn, 1) := rfl
theorem tX8_event_23 : pm_tb tX8_event 23 = some (.iload_n 2, 1) := rfl
theorem tX8_event_24 : pm_tb tX8_event 24 = some (.ifCond .ne 12, 3) := rfl
theorem tX8_event_27 : pm_tb tX8_event 27 = some (.aload_n 0, 1) := rfl
theorem tX8_event_28 : pm_tb tX8_event 28 = some (.getfield 111, 3) := rfl
theorem tX8_event_31 : pm_tb tX8_event 31 = some (.iload_n 1, 1) := rfl
theorem tX8_event_32 : pm_tb tX8_event 32 = some (.laload, 1) := rfl
theorem tX8_event_33 : pm_tb tX8_event 33 = some (.goto 10, 3) := rfl
theorem tX8_event_36 : pm_tb tX8_event 36 = some (.aload_n 0, 1) := rfl
theorem tX8_event_37 : pm_tb tX8_event 37 = some (.getfield 114, 3) := rfl
theorem tX8_event_40 : pm_tb tX8_event 40 = some (.iload_n 1, 1) := rfl
theorem tX8_event_41 : pm_tb tX8_event 41 = some (.iaload, 1) := rfl
theorem tX8_event_42 : pm_tb tX8_event 42 = some (.i2l, 1) := rfl
theorem tX8_event_43 : pm_tb tX8_event 43 = some (.lreturn, 1) := rfl
theorem tX8_of_0 : pm_tb tX8_of 0 = some (.iload_n 1, 1) := rfl
theorem tX8_of_1 : pm_tb tX8_of 1 = some (.ifCond .lt 20, 3) := rfl
theorem tX8_of_4 : pm_tb tX8_of 4 = some (.iload_n 1, 1) := rfl
theorem tX8_of_5 : pm_tb tX8_of 5 = some (.aload_n 0, 1) := rfl
theorem tX8_of_6 : pm_tb tX8_of 6 = some (.getfield 180, 3) := rfl
theorem tX8_of_9 : pm_tb tX8_of 9 = some (.if_icmp .ge 12, 3) := rfl
theorem tX8_of_12 : pm_tb tX8_of 12 = some (.iload_n 2, 1) := rfl
theorem tX8_of_13 : pm_tb tX8_of 13 = some (.ifCond .lt 8, 3) := rfl
theorem tX8_of_16 : pm_tb tX8_of 16 = some (.iload_n 2, 1) := rfl
theorem tX8_of_17 : pm_tb tX8_of 17 = some (.iconst 5, 1) := rfl
theorem tX8_of_18 : pm_tb tX8_of 18 = some (.if_icmp .le 5, 3) := rfl
theorem tX8_of_21 : pm_tb tX8_of 21 = some (.iconst (-1), 1) := rfl
theorem tX8_of_22 : pm_tb tX8_of 22 = some (.ireturn, 1) := rfl
theorem tX8_of_23 : pm_tb tX8_of 23 = some (.iload_n 2, 1) := rfl
theorem tX8_of_24 : pm_tb tX8_of 24 = some (.ifCond .ne 12, 3) := rfl
theorem tX8_of_27 : pm_tb tX8_of 27 = some (.aload_n 0, 1) := rfl
theorem tX8_of_28 : pm_tb tX8_of 28 = some (.getfield 129, 3) := rfl
theorem tX8_of_31 : pm_tb tX8_of 31 = some (.iload_n 1, 1) := rfl
theorem tX8_of_32 : pm_tb tX8_of 32 = some (.iaload, 1) := rfl
theorem tX8_of_33 : pm_tb tX8_of 33 = some (.goto 73, 3) := rfl
theorem tX8_of_36 : pm_tb tX8_of 36 = some (.iload_n 2, 1) := rfl
theorem tX8_of_37 : pm_tb tX8_of 37 = some (.iconst 1, 1) := rfl
theorem tX8_of_38 : pm_tb tX8_of 38 = some (.if_icmp .ne 12, 3) := rfl
theorem tX8_of_41 : pm_tb tX8_of 41 = some (.aload_n 0, 1) := rfl
theorem tX8_of_42 : pm_tb tX8_of 42 = some (.getfield 126, 3) := rfl
theorem tX8_of_45 : pm_tb tX8_of 45 = some (.iload_n 1, 1) := rfl
theorem tX8_of_46 : pm_tb tX8_of 46 = some (.iaload, 1) := rfl
theorem tX8_of_47 : pm_tb tX8_of 47 = some (.goto 59, 3) := rfl
theorem tX8_of_50 : pm_tb tX8_of 50 = some (.iload_n 2, 1) := rfl
theorem tX8_of_51 : pm_tb tX8_of 51 = some (.iconst 2, 1) := rfl
theorem tX8_of_52 : pm_tb tX8_of 52 = some (.if_icmp .ne 20, 3) := rfl
theorem tX8_of_55 : pm_tb tX8_of 55 = some (.aload_n 0, 1) := rfl
theorem tX8_of_56 : pm_tb tX8_of 56 = some (.getfield 117, 3) := rfl
theorem tX8_of_59 : pm_tb tX8_of 59 = some (.iload_n 1, 1) := rfl
theorem tX8_of_60 : pm_tb tX8_of 60 = some (.baload, 1) := rfl
theorem tX8_of_61 : pm_tb tX8_of 61 = some (.ifCond .eq 7, 3) := rfl
theorem tX8_of_64 : pm_tb tX8_of 64 = some (.iconst 1, 1) := rfl
theorem tX8_of_65 : pm_tb tX8_of 65 = some (.goto 41, 3) := rfl
theorem tX8_of_68 : pm_tb tX8_of 68 = some (.iconst 0, 1) := rfl
theorem tX8_of_69 : pm_tb tX8_of 69 = some (.goto 37, 3) := rfl
theorem tX8_of_72 : pm_tb tX8_of 72 = some (.iload_n 2, 1) := rfl
theorem tX8_of_73 : pm_tb tX8_of 73 = some (.iconst 3, 1) := rfl
theorem tX8_of_74 : pm_tb tX8_of 74 = some (.if_icmp .ne 12, 3) := rfl
theorem tX8_of_77 : pm_tb tX8_of 77 = some (.aload_n 0, 1) := rfl
theorem tX8_of_78 : pm_tb tX8_of 78 = some (.getfield 120, 3) := rfl
theorem tX8_of_81 : pm_tb tX8_of 81 = some (.iload_n 1, 1) := rfl
theorem tX8_of_82 : pm_tb tX8_of 82 = some (.iaload, 1) := rfl
theorem tX8_of_83 : pm_tb tX8_of 83 = some (.goto 23, 3) := rfl
theorem tX8_of_86 : pm_tb tX8_of 86 = some (.iload_n 2, 1) := rfl
theorem tX8_of_87 : pm_tb tX8_of 87 = some (.iconst 4, 1) := rfl
theorem tX8_of_88 : pm_tb tX8_of 88 = some (.if_icmp .ne 12, 3) := rfl
theorem tX8_of_91 : pm_tb tX8_of 91 = some (.aload_n 0, 1) := rfl
theorem tX8_of_92 : pm_tb tX8_of 92 = some (.getfield 123, 3) := rfl
theorem tX8_of_95 : pm_tb tX8_of 95 = some (.iload_n 1, 1) := rfl
theorem tX8_of_96 : pm_tb tX8_of 96 = some (.iaload, 1) := rfl
theorem tX8_of_97 : pm_tb tX8_of 97 = some (.goto 9, 3) := rfl
theorem tX8_of_100 : pm_tb tX8_of 100 = some (.aload_n 0, 1) := rfl
theorem tX8_of_101 : pm_tb tX8_of 101 = some (.getfield 102, 3) := rfl
theorem tX8_of_104 : pm_tb tX8_of 104 = some (.iload_n 1, 1) := rfl
theorem tX8_of_105 : pm_tb tX8_of 105 = some (.iaload, 1) := rfl
theorem tX8_of_106 : pm_tb tX8_of 106 = some (.ireturn, 1) := rfl
theorem tX8_conflicts_0 : pm_tb tX8_conflicts 0 = some (.aload_n 0, 1) := rfl
theorem tX8_conflicts_1 : pm_tb tX8_conflicts 1 = some (.getfield 177, 3) := rfl
theorem tX8_conflicts_4 : pm_tb tX8_conflicts 4 = some (.ireturn, 1) := rfl
theorem tX8_conflict_0 : pm_tb tX8_conflict 0 = some (.iload_n 1, 1) := rfl
theorem tX8_conflict_1 : pm_tb tX8_conflict 1 = some (.ifCond .lt 27, 3) := rfl
theorem tX8_conflict_4 : pm_tb tX8_conflict 4 = some (.iload_n 1, 1) := rfl
theorem tX8_conflict_5 : pm_tb tX8_conflict 5 = some (.aload_n 0, 1) := rfl
theorem tX8_conflict_6 : pm_tb tX8_conflict 6 = some (.getfield 177, 3) := rfl
theorem tX8_conflict_9 : pm_tb tX8_conflict 9 = some (.if_icmp .ge 19, 3) := rfl
theorem tX8_conflict_12 : pm_tb tX8_conflict 12 = some (.iload_n 1, 1) := rfl
theorem tX8_conflict_13 : pm_tb tX8_conflict 13 = some (.sipush 200, 3) := rfl
theorem tX8_conflict_16 : pm_tb tX8_conflict 16 = some (.if_icmp .ge 12, 3) := rfl
theorem tX8_conflict_19 : pm_tb tX8_conflict 19 = some (.iload_n 2, 1) := rfl
theorem tX8_conflict_20 : pm_tb tX8_conflict 20 = some (.ifCond .lt 8, 3) := rfl
theorem tX8_conflict_23 : pm_tb tX8_conflict 23 = some (.iload_n 2, 1) := rfl
theorem tX8_conflict_24 : pm_tb tX8_conflict 24 = some (.iconst 1, 1) := rfl
theorem tX8_conflict_25 : pm_tb tX8_conflict 25 = some (.if_icmp .le 6, 3) := rfl
theorem tX8_conflict_28 : pm_tb tX8_conflict 28 = some (.bipush (-2), 2) := rfl
theorem tX8_conflict_30 : pm_tb tX8_conflict 30 = some (.ireturn, 1) := rfl
theorem tX8_conflict_31 : pm_tb tX8_conflict 31 = some (.iload_n 2, 1) := rfl
theorem tX8_conflict_32 : pm_tb tX8_conflict 32 = some (.ifCond .ne 12, 3) := rfl
theorem tX8_conflict_35 : pm_tb tX8_conflict 35 = some (.aload_n 0, 1) := rfl
theorem tX8_conflict_36 : pm_tb tX8_conflict 36 = some (.getfield 105, 3) := rfl
theorem tX8_conflict_39 : pm_tb tX8_conflict 39 = some (.iload_n 1, 1) := rfl
theorem tX8_conflict_40 : pm_tb tX8_conflict 40 = some (.iaload, 1) := rfl
theorem tX8_conflict_41 : pm_tb tX8_conflict 41 = some (.goto 9, 3) := rfl
theorem tX8_conflict_44 : pm_tb tX8_conflict 44 = some (.aload_n 0, 1) := rfl
theorem tX8_conflict_45 : pm_tb tX8_conflict 45 = some (.getfield 108, 3) := rfl
theorem tX8_conflict_48 : pm_tb tX8_conflict 48 = some (.iload_n 1, 1) := rfl
theorem tX8_conflict_49 : pm_tb tX8_conflict 49 = some (.iaload, 1) := rfl
theorem tX8_conflict_50 : pm_tb tX8_conflict 50 = some (.ireturn, 1) := rfl
theorem tX8_told_0 : pm_tb tX8_told 0 = some (.iload_n 1, 1) := rfl
theorem tX8_told_1 : pm_tb tX8_told 1 = some (.tableswitch 95 0 7 #[47, 52, 65, 70, 75, 80, 85, 90], 47) := rfl
theorem tX8_told_48 : pm_tb tX8_told 48 = some (.aload_n 0, 1) := rfl
theorem tX8_told_49 : pm_tb tX8_told 49 = some (.getfield 183, 3) := rfl
theorem tX8_told_52 : pm_tb tX8_told 52 = some (.ireturn, 1) := rfl
theorem tX8_told_53 : pm_tb tX8_told 53 = some (.aload_n 0, 1) := rfl
theorem tX8_told_54 : pm_tb tX8_told 54 = some (.getfield 186, 3) := rfl
theorem tX8_told_57 : pm_tb tX8_told 57 = some (.ifCond .eq 7, 3) := rfl
theorem tX8_told_60 : pm_tb tX8_told 60 = some (.iconst 1, 1) := rfl
theorem tX8_told_61 : pm_tb tX8_told 61 = some (.goto 4, 3) := rfl
theorem tX8_told_64 : pm_tb tX8_told 64 = some (.iconst 0, 1) := rfl
theorem tX8_told_65 : pm_tb tX8_told 65 = some (.ireturn, 1) := rfl
theorem tX8_told_66 : pm_tb tX8_told 66 = some (.aload_n 0, 1) := rfl
theorem tX8_told_67 : pm_tb tX8_told 67 = some (.getfield 189, 3) := rfl
theorem tX8_told_70 : pm_tb tX8_told 70 = some (.ireturn, 1) := rfl
theorem tX8_told_71 : pm_tb tX8_told 71 = some (.aload_n 0, 1) := rfl
theorem tX8_told_72 : pm_tb tX8_told 72 = some (.getfield 192, 3) := rfl
theorem tX8_told_75 : pm_tb tX8_told 75 = some (.ireturn, 1) := rfl
theorem tX8_told_76 : pm_tb tX8_told 76 = some (.aload_n 0, 1) := rfl
theorem tX8_told_77 : pm_tb tX8_told 77 = some (.getfield 195, 3) := rfl
theorem tX8_told_80 : pm_tb tX8_told 80 = some (.ireturn, 1) := rfl
theorem tX8_told_81 : pm_tb tX8_told 81 = some (.aload_n 0, 1) := rfl
theorem tX8_told_82 : pm_tb tX8_told 82 = some (.getfield 174, 3) := rfl
theorem tX8_told_85 : pm_tb tX8_told 85 = some (.ireturn, 1) := rfl
theorem tX8_told_86 : pm_tb tX8_told 86 = some (.aload_n 0, 1) := rfl
theorem tX8_told_87 : pm_tb tX8_told 87 = some (.getfield 257, 3) := rfl
theorem tX8_told_90 : pm_tb tX8_told 90 = some (.ireturn, 1) := rfl
theorem tX8_told_91 : pm_tb tX8_told 91 = some (.aload_n 0, 1) := rfl
theorem tX8_told_92 : pm_tb tX8_told 92 = some (.getfield 180, 3) := rfl
theorem tX8_told_95 : pm_tb tX8_told 95 = some (.ireturn, 1) := rfl
theorem tX8_told_96 : pm_tb tX8_told 96 = some (.iconst (-1), 1) := rfl
theorem tX8_told_97 : pm_tb tX8_told 97 = some (.ireturn, 1) := rfl
