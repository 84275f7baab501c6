/-! the kernel walks all low halves -/
noncomputable def p3 (L : Nat) : Bool := chk2 (mkL 61 60261) L u3
noncomputable def p4 (L : Nat) : Bool := chk4 61 L 0
theorem lqk_0 : allN p3 256 0 = true := by decide +kernel
theorem lq_0 : ∀ L, L < 256 → p3 L = true := allN_x (n := 256) (a := 0) (fun L h => absurd h (Nat.not_lt_zero L)) lqk_0
theorem lqk_1 : allN p3 256 256 = true := by decide +kernel
theorem lq_1 : ∀ L, L < 512 → p3 L = true := allN_x (n := 256) (a := 256) lq_0 lqk_1
theorem lqk_2 : allN p3 256 512 = true := by decide +kernel
theorem lq_2 : ∀ L, L < 768 → p3 L = true := allN_x (n := 256) (a := 512) lq_1 lqk_2
theorem lqk_3 : allN p3 256 768 = true := by decide +kernel
theorem lq_3 : ∀ L, L < 1024 → p3 L = true := allN_x (n := 256) (a := 768) lq_2 lqk_3
theorem lqk_4 : allN p3 256 1024 = true := by decide +kernel
theorem lq_4 : ∀ L, L < 1280 → p3 L = true := allN_x (n := 256) (a := 1024) lq_3 lqk_4
theorem lqk_5 : allN p3 256 1280 = true := by decide +kernel
theorem lq_5 : ∀ L, L < 1536 → p3 L = true := allN_x (n := 256) (a := 1280) lq_4 lqk_5
theorem lqk_6 : allN p3 256 1536 = true := by decide +kernel
theorem lq_6 : ∀ L, L < 1792 → p3 L = true := allN_x (n := 256) (a := 1536) lq_5 lqk_6
theorem lqk_7 : allN p3 256 1792 = true := by decide +kernel
theorem lq_7 : ∀ L, L < 2048 → p3 L = true := allN_x (n := 256) (a := 1792) lq_6 lqk_7
theorem lqk_8 : allN p3 256 2048 = true := by decide +kernel
theorem lq_8 : ∀ L, L < 2304 → p3 L = true := allN_x (n := 256) (a := 2048) lq_7 lqk_8
theorem lqk_9 : allN p3 256 2304 = true := by decide +kernel
theorem lq_9 : ∀ L, L < 2560 → p3 L = true := allN_x (n := 256) (a := 2304) lq_8 lqk_9
theorem lqk_10 : allN p3 256 2560 = true := by decide +kernel
theorem lq_10 : ∀ L, L < 2816 → p3 L = true := allN_x (n := 256) (a := 2560) lq_9 lqk_10
theorem lqk_11 : allN p3 256 2816 = true := by decide +kernel
theorem lq_11 : ∀ L, L < 3072 → p3 L = true := allN_x (n := 256) (a := 2816) lq_10 lqk_11
theorem lqk_12 : allN p3 256 3072 = true := by decide +kernel
theorem lq_12 : ∀ L, L < 3328 → p3 L = true := allN_x (n := 256) (a := 3072) lq_11 lqk_12
theorem lqk_13 : allN p3 256 3328 = true := by decide +kernel
theorem lq_13 : ∀ L, L < 3584 → p3 L = true := allN_x (n := 256) (a := 3328) lq_12 lqk_13
theorem lqk_14 : allN p3 256 3584 = true := by decide +kernel
theorem lq_14 : ∀ L, L < 3840 → p3 L = true := allN_x (n := 256) (a := 3584) lq_13 lqk_14
theorem lqk_15 : allN p3 256 3840 = true := by decide +kernel
theorem lq_15 : ∀ L, L < 4096 → p3 L = true := allN_x (n := 256) (a := 3840) lq_14 lqk_15
theorem lqk_16 : allN p3 256 4096 = true := by decide +kernel
theorem lq_16 : ∀ L, L < 4352 → p3 L = true := allN_x (n := 256) (a := 4096) lq_15 lqk_16
theorem lqk_17 : allN p3 256 4352 = true := by decide +kernel
theorem lq_17 : ∀ L, L < 4608 → p3 L = true := allN_x (n := 256) (a := 4352) lq_16 lqk_17
theorem lqk_18 : allN p3 256 4608 = true := by decide +kernel
theorem lq_18 : ∀ L, L < 4864 → p3 L = true := allN_x (n := 256) (a := 4608) lq_17 lqk_18
theorem lqk_19 : allN p3 256 4864 = true := by decide +kernel
theorem lq_19 : ∀ L, L < 5120 → p3 L = true := allN_x (n := 256) (a := 4864) lq_18 lqk_19
theorem lqk_20 : allN p3 256 5120 = true := by decide +kernel
theorem lq_20 : ∀ L, L < 5376 → p3 L = true := allN_x (n := 256) (a := 5120) lq_19 lqk_20
theorem lqk_21 : allN p3 256 5376 = true := by decide +kernel
theorem lq_21 : ∀ L, L < 5632 → p3 L = true := allN_x (n := 256) (a := 5376) lq_20 lqk_21
theorem lqk_22 : allN p3 256 5632 = true := by decide +kernel
theorem lq_22 : ∀ L, L < 5888 → p3 L = true := allN_x (n := 256) (a := 5632) lq_21 lqk_22
theorem lqk_23 : allN p3 256 5888 = true := by decide +kernel
theorem lq_23 : ∀ L, L < 6144 → p3 L = true := allN_x (n := 256) (a := 5888) lq_22 lqk_23
theorem lqk_24 : allN p3 256 6144 = true := by decide +kernel
theorem lq_24 : ∀ L, L < 6400 → p3 L = true := allN_x (n := 256) (a := 6144) lq_23 lqk_24
theorem lqk_25 : allN p3 256 6400 = true := by decide +kernel
theorem lq_25 : ∀ L, L < 6656 → p3 L = true := allN_x (n := 256) (a := 6400) lq_24 lqk_25
theorem lqk_26 : allN p3 256 6656 = true := by decide +kernel
theorem lq_26 : ∀ L, L < 6912 → p3 L = true := allN_x (n := 256) (a := 6656) lq_25 lqk_26
theorem lqk_27 : allN p3 256 6912 = true := by decide +kernel
theorem lq_27 : ∀ L, L < 7168 → p3 L = true := allN_x (n := 256) (a := 6912) lq_26 lqk_27
theorem lqk_28 : allN p3 256 7168 = true := by decide +kernel
theorem lq_28 : ∀ L, L < 7424 → p3 L = true := allN_x (n := 256) (a := 7168) lq_27 lqk_28
theorem lqk_29 : allN p3 256 7424 = true := by decide +kernel
theorem lq_29 : ∀ L, L < 7680 → p3 L = true := allN_x (n := 256) (a := 7424) lq_28 lqk_29
theorem lqk_30 : allN p3 256 7680 = true := by decide +kernel
theorem lq_30 : ∀ L, L < 7936 → p3 L = true := allN_x (n := 256) (a := 7680) lq_29 lqk_30
theorem lqk_31 : allN p3 256 7936 = true := by decide +kernel
theorem lq_31 : ∀ L, L < 8192 → p3 L = true := allN_x (n := 256) (a := 7936) lq_30 lqk_31
theorem lqk_32 : allN p3 256 8192 = true := by decide +kernel
theorem lq_32 : ∀ L, L < 8448 → p3 L = true := allN_x (n := 256) (a := 8192) lq_31 lqk_32
theorem lqk_33 : allN p3 256 8448 = true := by decide +kernel
theorem lq_33 : ∀ L, L < 8704 → p3 L = true := allN_x (n := 256) (a := 8448) lq_32 lqk_33
theorem lqk_34 : allN p3 256 8704 = true := by decide +kernel
theorem lq_34 : ∀ L, L < 8960 → p3 L = true := allN_x (n := 256) (a := 8704) lq_33 lqk_34
theorem lqk_35 : allN p3 256 8960 = true := by decide +kernel
theorem lq_35 : ∀ L, L < 9216 → p3 L = true := allN_x (n := 256) (a := 8960) lq_34 lqk_35
theorem lqk_36 : allN p3 256 9216 = true := by decide +kernel
theorem lq_36 : ∀ L, L < 9472 → p3 L = true := allN_x (n := 256) (a := 9216) lq_35 lqk_36
theorem lqk_37 : allN p3 256 9472 = true := by decide +kernel
theorem lq_37 : ∀ L, L < 9728 → p3 L = true := allN_x (n := 256) (a := 9472) lq_36 lqk_37
theorem lqk_38 : allN p3 256 9728 = true := by decide +kernel
theorem lq_38 : ∀ L, L < 9984 → p3 L = true := allN_x (n := 256) (a := 9728) lq_37 lqk_38
theorem lqk_39 : allN p3 256 9984 = true := by decide +kernel
theorem lq_39 : ∀ L, L < 10240 → p3 L = true := allN_x (n := 256) (a := 9984) lq_38 lqk_39
theorem lqk_40 : allN p3 256 10240 = true := by decide +kernel
theorem lq_40 : ∀ L, L < 10496 → p3 L = true := allN_x (n := 256) (a := 10240) lq_39 lqk_40
theorem lqk_41 : allN p3 256 10496 = true := by decide +kernel
theorem lq_41 : ∀ L, L < 10752 → p3 L = true := allN_x (n := 256) (a := 10496) lq_40 lqk_41
theorem lqk_42 : allN p3 256 10752 = true := by decide +kernel
theorem lq_42 : ∀ L, L < 11008 → p3 L = true := allN_x (n := 256) (a := 10752) lq_41 lqk_42
theorem lqk_43 : allN p3 256 11008 = true := by decide +kernel
theorem lq_43 : ∀ L, L < 11264 → p3 L = true := allN_x (n := 256) (a := 11008) lq_42 lqk_43
theorem lqk_44 : allN p3 256 11264 = true := by decide +kernel
theorem lq_44 : ∀ L, L < 11520 → p3 L = true := allN_x (n := 256) (a := 11264) lq_43 lqk_44
theorem lqk_45 : allN p3 256 11520 = true := by decide +kernel
theorem lq_45 : ∀ L, L < 11776 → p3 L = true := allN_x (n := 256) (a := 11520) lq_44 lqk_45
theorem lqk_46 : allN p3 256 11776 = true := by decide +kernel
theorem lq_46 : ∀ L, L < 12032 → p3 L = true := allN_x (n := 256) (a := 11776) lq_45 lqk_46
theorem lqk_47 : allN p3 256 12032 = true := by decide +kernel
theorem lq_47 : ∀ L, L < 12288 → p3 L = true := allN_x (n := 256) (a := 12032) lq_46 lqk_47
theorem lqk_48 : allN p3 256 12288 = true := by decide +kernel
theorem lq_48 : ∀ L, L < 12544 → p3 L = true := allN_x (n := 256) (a := 12288) lq_47 lqk_48
theorem lqk_49 : allN p3 256 12544 = true := by decide +kernel
theorem lq_49 : ∀ L, L < 12800 → p3 L = true := allN_x (n := 256) (a := 12544) lq_48 lqk_49
theorem lqk_50 : allN p3 256 12800 = true := by decide +kernel
theorem lq_50 : ∀ L, L < 13056 → p3 L = true := allN_x (n := 256) (a := 12800) lq_49 lqk_50
theorem lqk_51 : allN p3 256 13056 = true := by decide +kernel
theorem lq_51 : ∀ L, L < 13312 → p3 L = true := allN_x (n := 256) (a := 13056) lq_50 lqk_51
theorem lqk_52 : allN p3 256 13312 = true := by decide +kernel
theorem lq_52 : ∀ L, L < 13568 → p3 L = true := allN_x (n := 256) (a := 13312) lq_51 lqk_52
theorem lqk_53 : allN p3 256 13568 = true := by decide +kernel
theorem lq_53 : ∀ L, L < 13824 → p3 L = true := allN_x (n := 256) (a := 13568) lq_52 lqk_53
theorem lqk_54 : allN p3 256 13824 = true := by decide +kernel
theorem lq_54 : ∀ L, L < 14080 → p3 L = true := allN_x (n := 256) (a := 13824) lq_53 lqk_54
theorem lqk_55 : allN p3 256 14080 = true := by decide +kernel
theorem lq_55 : ∀ L, L < 14336 → p3 L = true := allN_x (n := 256) (a := 14080) lq_54 lqk_55
theorem lqk_56 : allN p3 256 14336 = true := by decide +kernel
theorem lq_56 : ∀ L, L < 14592 → p3 L = true := allN_x (n := 256) (a := 14336) lq_55 lqk_56
theorem lqk_57 : allN p3 256 14592 = true := by decide +kernel
theorem lq_57 : ∀ L, L < 14848 → p3 L = true := allN_x (n := 256) (a := 14592) lq_56 lqk_57
theorem lqk_58 : allN p3 256 14848 = true := by decide +kernel
theorem lq_58 : ∀ L, L < 15104 → p3 L = true := allN_x (n := 256) (a := 14848) lq_57 lqk_58
theorem lqk_59 : allN p3 256 15104 = true := by decide +kernel
theorem lq_59 : ∀ L, L < 15360 → p3 L = true := allN_x (n := 256) (a := 15104) lq_58 lqk_59
theorem lqk_60 : allN p3 256 15360 = true := by decide +kernel
theorem lq_60 : ∀ L, L < 15616 → p3 L = true := allN_x (n := 256) (a := 15360) lq_59 lqk_60
theorem lqk_61 : allN p3 256 15616 = true := by decide +kernel
theorem lq_61 : ∀ L, L < 15872 → p3 L = true := allN_x (n := 256) (a := 15616) lq_60 lqk_61
theorem lqk_62 : allN p3 256 15872 = true := by decide +kernel
theorem lq_62 : ∀ L, L < 16128 → p3 L = true := allN_x (n := 256) (a := 15872) lq_61 lqk_62
theorem lqk_63 : allN p3 256 16128 = true := by decide +kernel
theorem lq_63 : ∀ L, L < 16384 → p3 L = true := allN_x (n := 256) (a := 16128) lq_62 lqk_63
theorem lqk_64 : allN p3 256 16384 = true := by decide +kernel
theorem lq_64 : ∀ L, L < 16640 → p3 L = true := allN_x (n := 256) (a := 16384) lq_63 lqk_64
theorem lqk_65 : allN p3 256 16640 = true := by decide +kernel
theorem lq_65 : ∀ L, L < 16896 → p3 L = true := allN_x (n := 256) (a := 16640) lq_64 lqk_65
theorem lqk_66 : allN p3 256 16896 = true := by decide +kernel
theorem lq_66 : ∀ L, L < 17152 → p3 L = true := allN_x (n := 256) (a := 16896) lq_65 lqk_66
theorem lqk_67 : allN p3 256 17152 = true := by decide +kernel
theorem lq_67 : ∀ L, L < 17408 → p3 L = true := allN_x (n := 256) (a := 17152) lq_66 lqk_67
theorem lqk_68 : allN p3 256 17408 = true := by decide +kernel
theorem lq_68 : ∀ L, L < 17664 → p3 L = true := allN_x (n := 256) (a := 17408) lq_67 lqk_68
theorem lqk_69 : allN p3 256 17664 = true := by decide +kernel
theorem lq_69 : ∀ L, L < 17920 → p3 L = true := allN_x (n := 256) (a := 17664) lq_68 lqk_69
theorem lqk_70 : allN p3 256 17920 = true := by decide +kernel
theorem lq_70 : ∀ L, L < 18176 → p3 L = true := allN_x (n := 256) (a := 17920) lq_69 lqk_70
theorem lqk_71 : allN p3 256 18176 = true := by decide +kernel
theorem lq_71 : ∀ L, L < 18432 → p3 L = true := allN_x (n := 256) (a := 18176) lq_70 lqk_71
theorem lqk_72 : allN p3 256 18432 = true := by decide +kernel
theorem lq_72 : ∀ L, L < 18688 → p3 L = true := allN_x (n := 256) (a := 18432) lq_71 lqk_72
theorem lqk_73 : allN p3 256 18688 = true := by decide +kernel
theorem lq_73 : ∀ L, L < 18944 → p3 L = true := allN_x (n := 256) (a := 18688) lq_72 lqk_73
theorem lqk_74 : allN p3 256 18944 = true := by decide +kernel
theorem lq_74 : ∀ L, L < 19200 → p3 L = true := allN_x (n := 256) (a := 18944) lq_73 lqk_74
theorem lqk_75 : allN p3 256 19200 = true := by decide +kernel
theorem lq_75 : ∀ L, L < 19456 → p3 L = true := allN_x (n := 256) (a := 19200) lq_74 lqk_75
theorem lqk_76 : allN p3 256 19456 = true := by decide +kernel
theorem lq_76 : ∀ L, L < 19712 → p3 L = true := allN_x (n := 256) (a := 19456) lq_75 lqk_76
theorem lqk_77 : allN p3 256 19712 = true := by decide +kernel
theorem lq_77 : ∀ L, L < 19968 → p3 L = true := allN_x (n := 256) (a := 19712) lq_76 lqk_77
theorem lqk_78 : allN p3 256 19968 = true := by decide +kernel
theorem lq_78 : ∀ L, L < 20224 → p3 L = true := allN_x (n := 256) (a := 19968) lq_77 lqk_78
theorem lqk_79 : allN p3 256 20224 = true := by decide +kernel
theorem lq_79 : ∀ L, L < 20480 → p3 L = true := allN_x (n := 256) (a := 20224) lq_78 lqk_79
theorem lqk_80 : allN p3 256 20480 = true := by decide +kernel
theorem lq_80 : ∀ L, L < 20736 → p3 L = true := allN_x (n := 256) (a := 20480) lq_79 lqk_80
theorem lqk_81 : allN p3 256 20736 = true := by decide +kernel
theorem lq_81 : ∀ L, L < 20992 → p3 L = true := allN_x (n := 256) (a := 20736) lq_80 lqk_81
theorem lqk_82 : allN p3 256 20992 = true := by decide +kernel
theorem lq_82 : ∀ L, L < 21248 → p3 L = true := allN_x (n := 256) (a := 20992) lq_81 lqk_82
theorem lqk_83 : allN p3 256 21248 = true := by decide +kernel
theorem lq_83 : ∀ L, L < 21504 → p3 L = true := allN_x (n := 256) (a := 21248) lq_82 lqk_83
theorem lqk_84 : allN p3 256 21504 = true := by decide +kernel
theorem lq_84 : ∀ L, L < 21760 → p3 L = true := allN_x (n := 256) (a := 21504) lq_83 lqk_84
theorem lqk_85 : allN p3 256 21760 = true := by decide +kernel
theorem lq_85 : ∀ L, L < 22016 → p3 L = true := allN_x (n := 256) (a := 21760) lq_84 lqk_85
theorem lqk_86 : allN p3 256 22016 = true := by decide +kernel
theorem lq_86 : ∀ L, L < 22272 → p3 L = true := allN_x (n := 256) (a := 22016) lq_85 lqk_86
theorem lqk_87 : allN p3 256 22272 = true := by decide +kernel
theorem lq_87 : ∀ L, L < 22528 → p3 L = true := allN_x (n := 256) (a := 22272) lq_86 lqk_87
theorem lqk_88 : allN p3 256 22528 = true := by decide +kernel
theorem lq_88 : ∀ L, L < 22784 → p3 L = true := allN_x (n := 256) (a := 22528) lq_87 lqk_88
theorem lqk_89 : allN p3 256 22784 = true := by decide +kernel
theorem lq_89 : ∀ L, L < 23040 → p3 L = true := allN_x (n := 256) (a := 22784) lq_88 lqk_89
theorem lqk_90 : allN p3 256 23040 = true := by decide +kernel
theorem lq_90 : ∀ L, L < 23296 → p3 L = true := allN_x (n := 256) (a := 23040) lq_89 lqk_90
theorem lqk_91 : allN p3 256 23296 = true := by decide +kernel
theorem lq_91 : ∀ L, L < 23552 → p3 L = true := allN_x (n := 256) (a := 23296) lq_90 lqk_91
theorem lqk_92 : allN p3 256 23552 = true := by decide +kernel
theorem lq_92 : ∀ L, L < 23808 → p3 L = true := allN_x (n := 256) (a := 23552) lq_91 lqk_92
theorem lqk_93 : allN p3 256 23808 = true := by decide +kernel
theorem lq_93 : ∀ L, L < 24064 → p3 L = true := allN_x (n := 256) (a := 23808) lq_92 lqk_93
theorem lqk_94 : allN p3 256 24064 = true := by decide +kernel
theorem lq_94 : ∀ L, L < 24320 → p3 L = true := allN_x (n := 256) (a := 24064) lq_93 lqk_94
theorem lqk_95 : allN p3 256 24320 = true := by decide +kernel
theorem lq_95 : ∀ L, L < 24576 → p3 L = true := allN_x (n := 256) (a := 24320) lq_94 lqk_95
theorem lqk_96 : allN p3 256 24576 = true := by decide +kernel
theorem lq_96 : ∀ L, L < 24832 → p3 L = true := allN_x (n := 256) (a := 24576) lq_95 lqk_96
theorem lqk_97 : allN p3 256 24832 = true := by decide +kernel
theorem lq_97 : ∀ L, L < 25088 → p3 L = true := allN_x (n := 256) (a := 24832) lq_96 lqk_97
theorem lqk_98 : allN p3 256 25088 = true := by decide +kernel
theorem lq_98 : ∀ L, L < 25344 → p3 L = true := allN_x (n := 256) (a := 25088) lq_97 lqk_98
theorem lqk_99 : allN p3 256 25344 = true := by decide +kernel
theorem lq_99 : ∀ L, L < 25600 → p3 L = true := allN_x (n := 256) (a := 25344) lq_98 lqk_99
theorem lqk_100 : allN p3 256 25600 = true := by decide +kernel
theorem lq_100 : ∀ L, L < 25856 → p3 L = true := allN_x (n := 256) (a := 25600) lq_99 lqk_100
theorem lqk_101 : allN p3 256 25856 = true := by decide +kernel
theorem lq_101 : ∀ L, L < 26112 → p3 L = true := allN_x (n := 256) (a := 25856) lq_100 lqk_101
theorem lqk_102 : allN p3 256 26112 = true := by decide +kernel
theorem lq_102 : ∀ L, L < 26368 → p3 L = true := allN_x (n := 256) (a := 26112) lq_101 lqk_102
theorem lqk_103 : allN p3 256 26368 = true := by decide +kernel
theorem lq_103 : ∀ L, L < 26624 → p3 L = true := allN_x (n := 256) (a := 26368) lq_102 lqk_103
theorem lqk_104 : allN p3 256 26624 = true := by decide +kernel
theorem lq_104 : ∀ L, L < 26880 → p3 L = true := allN_x (n := 256) (a := 26624) lq_103 lqk_104
theorem lqk_105 : allN p3 256 26880 = true := by decide +kernel
theorem lq_105 : ∀ L, L < 27136 → p3 L = true := allN_x (n := 256) (a := 26880) lq_104 lqk_105
theorem lqk_106 : allN p3 256 27136 = true := by decide +kernel
theorem lq_106 : ∀ L, L < 27392 → p3 L = true := allN_x (n := 256) (a := 27136) lq_105 lqk_106
theorem lqk_107 : allN p3 256 27392 = true := by decide +kernel
theorem lq_107 : ∀ L, L < 27648 → p3 L = true := allN_x (n := 256) (a := 27392) lq_106 lqk_107
theorem lqk_108 : allN p3 256 27648 = true := by decide +kernel
theorem lq_108 : ∀ L, L < 27904 → p3 L = true := allN_x (n := 256) (a := 27648) lq_107 lqk_108
theorem lqk_109 : allN p3 256 27904 = true := by decide +kernel
theorem lq_109 : ∀ L, L < 28160 → p3 L = true := allN_x (n := 256) (a := 27904) lq_108 lqk_109
theorem lqk_110 : allN p3 256 28160 = true := by decide +kernel
theorem lq_110 : ∀ L, L < 28416 → p3 L = true := allN_x (n := 256) (a := 28160) lq_109 lqk_110
theorem lqk_111 : allN p3 256 28416 = true := by decide +kernel
theorem lq_111 : ∀ L, L < 28672 → p3 L = true := allN_x (n := 256) (a := 28416) lq_110 lqk_111
theorem lqk_112 : allN p3 256 28672 = true := by decide +kernel
theorem lq_112 : ∀ L, L < 28928 → p3 L = true := allN_x (n := 256) (a := 28672) lq_111 lqk_112
theorem lqk_113 : allN p3 256 28928 = true := by decide +kernel
theorem lq_113 : ∀ L, L < 29184 → p3 L = true := allN_x (n := 256) (a := 28928) lq_112 lqk_113
theorem lqk_114 : allN p3 256 29184 = true := by decide +kernel
theorem lq_114 : ∀ L, L < 29440 → p3 L = true := allN_x (n := 256) (a := 29184) lq_113 lqk_114
theorem lqk_115 : allN p3 256 29440 = true := by decide +kernel
theorem lq_115 : ∀ L, L < 29696 → p3 L = true := allN_x (n := 256) (a := 29440) lq_114 lqk_115
theorem lqk_116 : allN p3 256 29696 = true := by decide +kernel
theorem lq_116 : ∀ L, L < 29952 → p3 L = true := allN_x (n := 256) (a := 29696) lq_115 lqk_116
theorem lqk_117 : allN p3 256 29952 = true := by decide +kernel
theorem lq_117 : ∀ L, L < 30208 → p3 L = true := allN_x (n := 256) (a := 29952) lq_116 lqk_117
theorem lqk_118 : allN p3 256 30208 = true := by decide +kernel
theorem lq_118 : ∀ L, L < 30464 → p3 L = true := allN_x (n := 256) (a := 30208) lq_117 lqk_118
theorem lqk_119 : allN p3 256 30464 = true := by decide +kernel
theorem lq_119 : ∀ L, L < 30720 → p3 L = true := allN_x (n := 256) (a := 30464) lq_118 lqk_119
theorem lqk_120 : allN p3 256 30720 = true := by decide +kernel
theorem lq_120 : ∀ L, L < 30976 → p3 L = true := allN_x (n := 256) (a := 30720) lq_119 lqk_120
theorem lqk_121 : allN p3 256 30976 = true := by decide +kernel
theorem lq_121 : ∀ L, L < 31232 → p3 L = true := allN_x (n := 256) (a := 30976) lq_120 lqk_121
theorem lqk_122 : allN p3 256 31232 = true := by decide +kernel
theorem lq_122 : ∀ L, L < 31488 → p3 L = true := allN_x (n := 256) (a := 31232) lq_121 lqk_122
theorem lqk_123 : allN p3 256 31488 = true := by decide +kernel
theorem lq_123 : ∀ L, L < 31744 → p3 L = true := allN_x (n := 256) (a := 31488) lq_122 lqk_123
theorem lqk_124 : allN p3 256 31744 = true := by decide +kernel
theorem lq_124 : ∀ L, L < 32000 → p3 L = true := allN_x (n := 256) (a := 31744) lq_123 lqk_124
theorem lqk_125 : allN p3 256 32000 = true := by decide +kernel
theorem lq_125 : ∀ L, L < 32256 → p3 L = true := allN_x (n := 256) (a := 32000) lq_124 lqk_125
theorem lqk_126 : allN p3 256 32256 = true := by decide +kernel
theorem lq_126 : ∀ L, L < 32512 → p3 L = true := allN_x (n := 256) (a := 32256) lq_125 lqk_126
theorem lqk_127 : allN p3 256 32512 = true := by decide +kernel
theorem lq_127 : ∀ L, L < 32768 → p3 L = true := allN_x (n := 256) (a := 32512) lq_126 lqk_127
theorem lqk_128 : allN p3 256 32768 = true := by decide +kernel
theorem lq_128 : ∀ L, L < 33024 → p3 L = true := allN_x (n := 256) (a := 32768) lq_127 lqk_128
theorem lqk_129 : allN p3 256 33024 = true := by decide +kernel
theorem lq_129 : ∀ L, L < 33280 → p3 L = true := allN_x (n := 256) (a := 33024) lq_128 lqk_129
theorem lqk_130 : allN p3 256 33280 = true := by decide +kernel
theorem lq_130 : ∀ L, L < 33536 → p3 L = true := allN_x (n := 256) (a := 33280) lq_129 lqk_130
theorem lqk_131 : allN p3 256 33536 = true := by decide +kernel
theorem lq_131 : ∀ L, L < 33792 → p3 L = true := allN_x (n := 256) (a := 33536) lq_130 lqk_131
theorem lqk_132 : allN p3 256 33792 = true := by decide +kernel
theorem lq_132 : ∀ L, L < 34048 → p3 L = true := allN_x (n := 256) (a := 33792) lq_131 lqk_132
theorem lqk_133 : allN p3 256 34048 = true := by decide +kernel
theorem lq_133 : ∀ L, L < 34304 → p3 L = true := allN_x (n := 256) (a := 34048) lq_132 lqk_133
theorem lqk_134 : allN p3 256 34304 = true := by decide +kernel
theorem lq_134 : ∀ L, L < 34560 → p3 L = true := allN_x (n := 256) (a := 34304) lq_133 lqk_134
theorem lqk_135 : allN p3 256 34560 = true := by decide +kernel
theorem lq_135 : ∀ L, L < 34816 → p3 L = true := allN_x (n := 256) (a := 34560) lq_134 lqk_135
theorem lqk_136 : allN p3 256 34816 = true := by decide +kernel
theorem lq_136 : ∀ L, L < 35072 → p3 L = true := allN_x (n := 256) (a := 34816) lq_135 lqk_136
theorem lqk_137 : allN p3 256 35072 = true := by decide +kernel
theorem lq_137 : ∀ L, L < 35328 → p3 L = true := allN_x (n := 256) (a := 35072) lq_136 lqk_137
theorem lqk_138 : allN p3 256 35328 = true := by decide +kernel
theorem lq_138 : ∀ L, L < 35584 → p3 L = true := allN_x (n := 256) (a := 35328) lq_137 lqk_138
theorem lqk_139 : allN p3 256 35584 = true := by decide +kernel
theorem lq_139 : ∀ L, L < 35840 → p3 L = true := allN_x (n := 256) (a := 35584) lq_138 lqk_139
theorem lqk_140 : allN p3 256 35840 = true := by decide +kernel
theorem lq_140 : ∀ L, L < 36096 → p3 L = true := allN_x (n := 256) (a := 35840) lq_139 lqk_140
theorem lqk_141 : allN p3 256 36096 = true := by decide +kernel
theorem lq_141 : ∀ L, L < 36352 → p3 L = true := allN_x (n := 256) (a := 36096) lq_140 lqk_141
theorem lqk_142 : allN p3 256 36352 = true := by decide +kernel
theorem lq_142 : ∀ L, L < 36608 → p3 L = true := allN_x (n := 256) (a := 36352) lq_141 lqk_142
theorem lqk_143 : allN p3 256 36608 = true := by decide +kernel
theorem lq_143 : ∀ L, L < 36864 → p3 L = true := allN_x (n := 256) (a := 36608) lq_142 lqk_143
theorem lqk_144 : allN p3 256 36864 = true := by decide +kernel
theorem lq_144 : ∀ L, L < 37120 → p3 L = true := allN_x (n := 256) (a := 36864) lq_143 lqk_144
theorem lqk_145 : allN p3 256 37120 = true := by decide +kernel
theorem lq_145 : ∀ L, L < 37376 → p3 L = true := allN_x (n := 256) (a := 37120) lq_144 lqk_145
theorem lqk_146 : allN p3 256 37376 = true := by decide +kernel
theorem lq_146 : ∀ L, L < 37632 → p3 L = true := allN_x (n := 256) (a := 37376) lq_145 lqk_146
theorem lqk_147 : allN p3 256 37632 = true := by decide +kernel
theorem lq_147 : ∀ L, L < 37888 → p3 L = true := allN_x (n := 256) (a := 37632) lq_146 lqk_147
theorem lqk_148 : allN p3 256 37888 = true := by decide +kernel
theorem lq_148 : ∀ L, L < 38144 → p3 L = true := allN_x (n := 256) (a := 37888) lq_147 lqk_148
theorem lqk_149 : allN p3 256 38144 = true := by decide +kernel
theorem lq_149 : ∀ L, L < 38400 → p3 L = true := allN_x (n := 256) (a := 38144) lq_148 lqk_149
theorem lqk_150 : allN p3 256 38400 = true := by decide +kernel
theorem lq_150 : ∀ L, L < 38656 → p3 L = true := allN_x (n := 256) (a := 38400) lq_149 lqk_150
theorem lqk_151 : allN p3 256 38656 = true := by decide +kernel
theorem lq_151 : ∀ L, L < 38912 → p3 L = true := allN_x (n := 256) (a := 38656) lq_150 lqk_151
theorem lqk_152 : allN p3 256 38912 = true := by decide +kernel
theorem lq_152 : ∀ L, L < 39168 → p3 L = true := allN_x (n := 256) (a := 38912) lq_151 lqk_152
theorem lqk_153 : allN p3 256 39168 = true := by decide +kernel
theorem lq_153 : ∀ L, L < 39424 → p3 L = true := allN_x (n := 256) (a := 39168) lq_152 lqk_153
theorem lqk_154 : allN p3 256 39424 = true := by decide +kernel
theorem lq_154 : ∀ L, L < 39680 → p3 L = true := allN_x (n := 256) (a := 39424) lq_153 lqk_154
theorem lqk_155 : allN p3 256 39680 = true := by decide +kernel
theorem lq_155 : ∀ L, L < 39936 → p3 L = true := allN_x (n := 256) (a := 39680) lq_154 lqk_155
theorem lqk_156 : allN p3 256 39936 = true := by decide +kernel
theorem lq_156 : ∀ L, L < 40192 → p3 L = true := allN_x (n := 256) (a := 39936) lq_155 lqk_156
theorem lqk_157 : allN p3 256 40192 = true := by decide +kernel
theorem lq_157 : ∀ L, L < 40448 → p3 L = true := allN_x (n := 256) (a := 40192) lq_156 lqk_157
theorem lqk_158 : allN p3 256 40448 = true := by decide +kernel
theorem lq_158 : ∀ L, L < 40704 → p3 L = true := allN_x (n := 256) (a := 40448) lq_157 lqk_158
theorem lqk_159 : allN p3 256 40704 = true := by decide +kernel
theorem lq_159 : ∀ L, L < 40960 → p3 L = true := allN_x (n := 256) (a := 40704) lq_158 lqk_159
theorem lqk_160 : allN p3 256 40960 = true := by decide +kernel
theorem lq_160 : ∀ L, L < 41216 → p3 L = true := allN_x (n := 256) (a := 40960) lq_159 lqk_160
theorem lqk_161 : allN p3 256 41216 = true := by decide +kernel
theorem lq_161 : ∀ L, L < 41472 → p3 L = true := allN_x (n := 256) (a := 41216) lq_160 lqk_161
theorem lqk_162 : allN p3 256 41472 = true := by decide +kernel
theorem lq_162 : ∀ L, L < 41728 → p3 L = true := allN_x (n := 256) (a := 41472) lq_161 lqk_162
theorem lqk_163 : allN p3 256 41728 = true := by decide +kernel
theorem lq_163 : ∀ L, L < 41984 → p3 L = true := allN_x (n := 256) (a := 41728) lq_162 lqk_163
theorem lqk_164 : allN p3 256 41984 = true := by decide +kernel
theorem lq_164 : ∀ L, L < 42240 → p3 L = true := allN_x (n := 256) (a := 41984) lq_163 lqk_164
theorem lqk_165 : allN p3 256 42240 = true := by decide +kernel
theorem lq_165 : ∀ L, L < 42496 → p3 L = true := allN_x (n := 256) (a := 42240) lq_164 lqk_165
theorem lqk_166 : allN p3 256 42496 = true := by decide +kernel
theorem lq_166 : ∀ L, L < 42752 → p3 L = true := allN_x (n := 256) (a := 42496) lq_165 lqk_166
theorem lqk_167 : allN p3 256 42752 = true := by decide +kernel
theorem lq_167 : ∀ L, L < 43008 → p3 L = true := allN_x (n := 256) (a := 42752) lq_166 lqk_167
theorem lqk_168 : allN p3 256 43008 = true := by decide +kernel
theorem lq_168 : ∀ L, L < 43264 → p3 L = true := allN_x (n := 256) (a := 43008) lq_167 lqk_168
theorem lqk_169 : allN p3 256 43264 = true := by decide +kernel
theorem lq_169 : ∀ L, L < 43520 → p3 L = true := allN_x (n := 256) (a := 43264) lq_168 lqk_169
theorem lqk_170 : allN p3 256 43520 = true := by decide +kernel
theorem lq_170 : ∀ L, L < 43776 → p3 L = true := allN_x (n := 256) (a := 43520) lq_169 lqk_170
theorem lqk_171 : allN p3 256 43776 = true := by decide +kernel
theorem lq_171 : ∀ L, L < 44032 → p3 L = true := allN_x (n := 256) (a := 43776) lq_170 lqk_171
theorem lqk_172 : allN p3 256 44032 = true := by decide +kernel
theorem lq_172 : ∀ L, L < 44288 → p3 L = true := allN_x (n := 256) (a := 44032) lq_171 lqk_172
theorem lqk_173 : allN p3 256 44288 = true := by decide +kernel
theorem lq_173 : ∀ L, L < 44544 → p3 L = true := allN_x (n := 256) (a := 44288) lq_172 lqk_173
theorem lqk_174 : allN p3 256 44544 = true := by decide +kernel
theorem lq_174 : ∀ L, L < 44800 → p3 L = true := allN_x (n := 256) (a := 44544) lq_173 lqk_174
theorem lqk_175 : allN p3 256 44800 = true := by decide +kernel
theorem lq_175 : ∀ L, L < 45056 → p3 L = true := allN_x (n := 256) (a := 44800) lq_174 lqk_175
theorem lqk_176 : allN p3 256 45056 = true := by decide +kernel
theorem lq_176 : ∀ L, L < 45312 → p3 L = true := allN_x (n := 256) (a := 45056) lq_175 lqk_176
theorem lqk_177 : allN p3 256 45312 = true := by decide +kernel
theorem lq_177 : ∀ L, L < 45568 → p3 L = true := allN_x (n := 256) (a := 45312) lq_176 lqk_177
theorem lqk_178 : allN p3 256 45568 = true := by decide +kernel
theorem lq_178 : ∀ L, L < 45824 → p3 L = true := allN_x (n := 256) (a := 45568) lq_177 lqk_178
theorem lqk_179 : allN p3 256 45824 = true := by decide +kernel
theorem lq_179 : ∀ L, L < 46080 → p3 L = true := allN_x (n := 256) (a := 45824) lq_178 lqk_179
theorem lqk_180 : allN p3 256 46080 = true := by decide +kernel
theorem lq_180 : ∀ L, L < 46336 → p3 L = true := allN_x (n := 256) (a := 46080) lq_179 lqk_180
theorem lqk_181 : allN p3 256 46336 = true := by decide +kernel
theorem lq_181 : ∀ L, L < 46592 → p3 L = true := allN_x (n := 256) (a := 46336) lq_180 lqk_181
theorem lqk_182 : allN p3 256 46592 = true := by decide +kernel
theorem lq_182 : ∀ L, L < 46848 → p3 L = true := allN_x (n := 256) (a := 46592) lq_181 lqk_182
theorem lqk_183 : allN p3 256 46848 = true := by decide +kernel
theorem lq_183 : ∀ L, L < 47104 → p3 L = true := allN_x (n := 256) (a := 46848) lq_182 lqk_183
theorem lqk_184 : allN p3 256 47104 = true := by decide +kernel
theorem lq_184 : ∀ L, L < 47360 → p3 L = true := allN_x (n := 256) (a := 47104) lq_183 lqk_184
theorem lqk_185 : allN p3 256 47360 = true := by decide +kernel
theorem lq_185 : ∀ L, L < 47616 → p3 L = true := allN_x (n := 256) (a := 47360) lq_184 lqk_185
theorem lqk_186 : allN p3 256 47616 = true := by decide +kernel
theorem lq_186 : ∀ L, L < 47872 → p3 L = true := allN_x (n := 256) (a := 47616) lq_185 lqk_186
theorem lqk_187 : allN p3 256 47872 = true := by decide +kernel
theorem lq_187 : ∀ L, L < 48128 → p3 L = true := allN_x (n := 256) (a := 47872) lq_186 lqk_187
theorem lqk_188 : allN p3 256 48128 = true := by decide +kernel
theorem lq_188 : ∀ L, L < 48384 → p3 L = true := allN_x (n := 256) (a := 48128) lq_187 lqk_188
theorem lqk_189 : allN p3 256 48384 = true := by decide +kernel
theorem lq_189 : ∀ L, L < 48640 → p3 L = true := allN_x (n := 256) (a := 48384) lq_188 lqk_189
theorem lqk_190 : allN p3 256 48640 = true := by decide +kernel
theorem lq_190 : ∀ L, L < 48896 → p3 L = true := allN_x (n := 256) (a := 48640) lq_189 lqk_190
theorem lqk_191 : allN p3 256 48896 = true := by decide +kernel
theorem lq_191 : ∀ L, L < 49152 → p3 L = true := allN_x (n := 256) (a := 48896) lq_190 lqk_191
theorem lqk_192 : allN p3 256 49152 = true := by decide +kernel
theorem lq_192 : ∀ L, L < 49408 → p3 L = true := allN_x (n := 256) (a := 49152) lq_191 lqk_192
theorem lqk_193 : allN p3 256 49408 = true := by decide +kernel
theorem lq_193 : ∀ L, L < 49664 → p3 L = true := allN_x (n := 256) (a := 49408) lq_192 lqk_193
theorem lqk_194 : allN p3 256 49664 = true := by decide +kernel
theorem lq_194 : ∀ L, L < 49920 → p3 L = true := allN_x (n := 256) (a := 49664) lq_193 lqk_194
theorem lqk_195 : allN p3 256 49920 = true := by decide +kernel
theorem lq_195 : ∀ L, L < 50176 → p3 L = true := allN_x (n := 256) (a := 49920) lq_194 lqk_195
theorem lqk_196 : allN p3 256 50176 = true := by decide +kernel
theorem lq_196 : ∀ L, L < 50432 → p3 L = true := allN_x (n := 256) (a := 50176) lq_195 lqk_196
theorem lqk_197 : allN p3 256 50432 = true := by decide +kernel
theorem lq_197 : ∀ L, L < 50688 → p3 L = true := allN_x (n := 256) (a := 50432) lq_196 lqk_197
theorem lqk_198 : allN p3 256 50688 = true := by decide +kernel
theorem lq_198 : ∀ L, L < 50944 → p3 L = true := allN_x (n := 256) (a := 50688) lq_197 lqk_198
theorem lqk_199 : allN p3 256 50944 = true := by decide +kernel
theorem lq_199 : ∀ L, L < 51200 → p3 L = true := allN_x (n := 256) (a := 50944) lq_198 lqk_199
theorem lqk_200 : allN p3 256 51200 = true := by decide +kernel
theorem lq_200 : ∀ L, L < 51456 → p3 L = true := allN_x (n := 256) (a := 51200) lq_199 lqk_200
theorem lqk_201 : allN p3 256 51456 = true := by decide +kernel
theorem lq_201 : ∀ L, L < 51712 → p3 L = true := allN_x (n := 256) (a := 51456) lq_200 lqk_201
theorem lqk_202 : allN p3 256 51712 = true := by decide +kernel
theorem lq_202 : ∀ L, L < 51968 → p3 L = true := allN_x (n := 256) (a := 51712) lq_201 lqk_202
theorem lqk_203 : allN p3 256 51968 = true := by decide +kernel
theorem lq_203 : ∀ L, L < 52224 → p3 L = true := allN_x (n := 256) (a := 51968) lq_202 lqk_203
theorem lqk_204 : allN p3 256 52224 = true := by decide +kernel
theorem lq_204 : ∀ L, L < 52480 → p3 L = true := allN_x (n := 256) (a := 52224) lq_203 lqk_204
theorem lqk_205 : allN p3 256 52480 = true := by decide +kernel
theorem lq_205 : ∀ L, L < 52736 → p3 L = true := allN_x (n := 256) (a := 52480) lq_204 lqk_205
theorem lqk_206 : allN p3 256 52736 = true := by decide +kernel
theorem lq_206 : ∀ L, L < 52992 → p3 L = true := allN_x (n := 256) (a := 52736) lq_205 lqk_206
theorem lqk_207 : allN p3 256 52992 = true := by decide +kernel
theorem lq_207 : ∀ L, L < 53248 → p3 L = true := allN_x (n := 256) (a := 52992) lq_206 lqk_207
theorem lqk_208 : allN p3 256 53248 = true := by decide +kernel
theorem lq_208 : ∀ L, L < 53504 → p3 L = true := allN_x (n := 256) (a := 53248) lq_207 lqk_208
theorem lqk_209 : allN p3 256 53504 = true := by decide +kernel
theorem lq_209 : ∀ L, L < 53760 → p3 L = true := allN_x (n := 256) (a := 53504) lq_208 lqk_209
theorem lqk_210 : allN p3 256 53760 = true := by decide +kernel
theorem lq_210 : ∀ L, L < 54016 → p3 L = true := allN_x (n := 256) (a := 53760) lq_209 lqk_210
theorem lqk_211 : allN p3 256 54016 = true := by decide +kernel
theorem lq_211 : ∀ L, L < 54272 → p3 L = true := allN_x (n := 256) (a := 54016) lq_210 lqk_211
theorem lqk_212 : allN p3 256 54272 = true := by decide +kernel
theorem lq_212 : ∀ L, L < 54528 → p3 L = true := allN_x (n := 256) (a := 54272) lq_211 lqk_212
theorem lqk_213 : allN p3 256 54528 = true := by decide +kernel
theorem lq_213 : ∀ L, L < 54784 → p3 L = true := allN_x (n := 256) (a := 54528) lq_212 lqk_213
theorem lqk_214 : allN p3 256 54784 = true := by decide +kernel
theorem lq_214 : ∀ L, L < 55040 → p3 L = true := allN_x (n := 256) (a := 54784) lq_213 lqk_214
theorem lqk_215 : allN p3 256 55040 = true := by decide +kernel
theorem lq_215 : ∀ L, L < 55296 → p3 L = true := allN_x (n := 256) (a := 55040) lq_214 lqk_215
theorem lqk_216 : allN p3 256 55296 = true := by decide +kernel
theorem lq_216 : ∀ L, L < 55552 → p3 L = true := allN_x (n := 256) (a := 55296) lq_215 lqk_216
theorem lqk_217 : allN p3 256 55552 = true := by decide +kernel
theorem lq_217 : ∀ L, L < 55808 → p3 L = true := allN_x (n := 256) (a := 55552) lq_216 lqk_217
theorem lqk_218 : allN p3 256 55808 = true := by decide +kernel
theorem lq_218 : ∀ L, L < 56064 → p3 L = true := allN_x (n := 256) (a := 55808) lq_217 lqk_218
theorem lqk_219 : allN p3 256 56064 = true := by decide +kernel
theorem lq_219 : ∀ L, L < 56320 → p3 L = true := allN_x (n := 256) (a := 56064) lq_218 lqk_219
theorem lqk_220 : allN p3 256 56320 = true := by decide +kernel
theorem lq_220 : ∀ L, L < 56576 → p3 L = true := allN_x (n := 256) (a := 56320) lq_219 lqk_220
theorem lqk_221 : allN p3 256 56576 = true := by decide +kernel
theorem lq_221 : ∀ L, L < 56832 → p3 L = true := allN_x (n := 256) (a := 56576) lq_220 lqk_221
theorem lqk_222 : allN p3 256 56832 = true := by decide +kernel
theorem lq_222 : ∀ L, L < 57088 → p3 L = true := allN_x (n := 256) (a := 56832) lq_221 lqk_222
theorem lqk_223 : allN p3 256 57088 = true := by decide +kernel
theorem lq_223 : ∀ L, L < 57344 → p3 L = true := allN_x (n := 256) (a := 57088) lq_222 lqk_223
theorem lqk_224 : allN p3 256 57344 = true := by decide +kernel
theorem lq_224 : ∀ L, L < 57600 → p3 L = true := allN_x (n := 256) (a := 57344) lq_223 lqk_224
theorem lqk_225 : allN p3 256 57600 = true := by decide +kernel
theorem lq_225 : ∀ L, L < 57856 → p3 L = true := allN_x (n := 256) (a := 57600) lq_224 lqk_225
theorem lqk_226 : allN p3 256 57856 = true := by decide +kernel
theorem lq_226 : ∀ L, L < 58112 → p3 L = true := allN_x (n := 256) (a := 57856) lq_225 lqk_226
theorem lqk_227 : allN p3 256 58112 = true := by decide +kernel
theorem lq_227 : ∀ L, L < 58368 → p3 L = true := allN_x (n := 256) (a := 58112) lq_226 lqk_227
theorem lqk_228 : allN p3 256 58368 = true := by decide +kernel
theorem lq_228 : ∀ L, L < 58624 → p3 L = true := allN_x (n := 256) (a := 58368) lq_227 lqk_228
theorem lqk_229 : allN p3 256 58624 = true := by decide +kernel
theorem lq_229 : ∀ L, L < 58880 → p3 L = true := allN_x (n := 256) (a := 58624) lq_228 lqk_229
theorem lqk_230 : allN p3 256 58880 = true := by decide +kernel
theorem lq_230 : ∀ L, L < 59136 → p3 L = true := allN_x (n := 256) (a := 58880) lq_229 lqk_230
theorem lqk_231 : allN p3 256 59136 = true := by decide +kernel
theorem lq_231 : ∀ L, L < 59392 → p3 L = true := allN_x (n := 256) (a := 59136) lq_230 lqk_231
theorem lqk_232 : allN p3 256 59392 = true := by decide +kernel
theorem lq_232 : ∀ L, L < 59648 → p3 L = true := allN_x (n := 256) (a := 59392) lq_231 lqk_232
theorem lqk_233 : allN p3 256 59648 = true := by decide +kernel
theorem lq_233 : ∀ L, L < 59904 → p3 L = true := allN_x (n := 256) (a := 59648) lq_232 lqk_233
theorem lqk_234 : allN p3 256 59904 = true := by decide +kernel
theorem lq_234 : ∀ L, L < 60160 → p3 L = true := allN_x (n := 256) (a := 59904) lq_233 lqk_234
theorem lqk_235 : allN p3 256 60160 = true := by decide +kernel
theorem lq_235 : ∀ L, L < 60416 → p3 L = true := allN_x (n := 256) (a := 60160) lq_234 lqk_235
theorem lqk_236 : allN p3 256 60416 = true := by decide +kernel
theorem lq_236 : ∀ L, L < 60672 → p3 L = true := allN_x (n := 256) (a := 60416) lq_235 lqk_236
theorem lqk_237 : allN p3 256 60672 = true := by decide +kernel
theorem lq_237 : ∀ L, L < 60928 → p3 L = true := allN_x (n := 256) (a := 60672) lq_236 lqk_237
theorem lqk_238 : allN p3 256 60928 = true := by decide +kernel
theorem lq_238 : ∀ L, L < 61184 → p3 L = true := allN_x (n := 256) (a := 60928) lq_237 lqk_238
theorem lqk_239 : allN p3 256 61184 = true := by decide +kernel
theorem lq_239 : ∀ L, L < 61440 → p3 L = true := allN_x (n := 256) (a := 61184) lq_238 lqk_239
theorem lqk_240 : allN p3 256 61440 = true := by decide +kernel
theorem lq_240 : ∀ L, L < 61696 → p3 L = true := allN_x (n := 256) (a := 61440) lq_239 lqk_240
theorem lqk_241 : allN p3 256 61696 = true := by decide +kernel
theorem lq_241 : ∀ L, L < 61952 → p3 L = true := allN_x (n := 256) (a := 61696) lq_240 lqk_241
theorem lqk_242 : allN p3 256 61952 = true := by decide +kernel
theorem lq_242 : ∀ L, L < 62208 → p3 L = true := allN_x (n := 256) (a := 61952) lq_241 lqk_242
theorem lqk_243 : allN p3 256 62208 = true := by decide +kernel
theorem lq_243 : ∀ L, L < 62464 → p3 L = true := allN_x (n := 256) (a := 62208) lq_242 lqk_243
theorem lqk_244 : allN p3 256 62464 = true := by decide +kernel
theorem lq_244 : ∀ L, L < 62720 → p3 L = true := allN_x (n := 256) (a := 62464) lq_243 lqk_244
theorem lqk_245 : allN p3 256 62720 = true := by decide +kernel
theorem lq_245 : ∀ L, L < 62976 → p3 L = true := allN_x (n := 256) (a := 62720) lq_244 lqk_245
theorem lqk_246 : allN p3 256 62976 = true := by decide +kernel
theorem lq_246 : ∀ L, L < 63232 → p3 L = true := allN_x (n := 256) (a := 62976) lq_245 lqk_246
theorem lqk_247 : allN p3 256 63232 = true := by decide +kernel
theorem lq_247 : ∀ L, L < 63488 → p3 L = true := allN_x (n := 256) (a := 63232) lq_246 lqk_247
theorem lqk_248 : allN p3 256 63488 = true := by decide +kernel
theorem lq_248 : ∀ L, L < 63744 → p3 L = true := allN_x (n := 256) (a := 63488) lq_247 lqk_248
theorem lqk_249 : allN p3 256 63744 = true := by decide +kernel
theorem lq_249 : ∀ L, L < 64000 → p3 L = true := allN_x (n := 256) (a := 63744) lq_248 lqk_249
theorem lqk_250 : allN p3 256 64000 = true := by decide +kernel
theorem lq_250 : ∀ L, L < 64256 → p3 L = true := allN_x (n := 256) (a := 64000) lq_249 lqk_250
theorem lqk_251 : allN p3 256 64256 = true := by decide +kernel
theorem lq_251 : ∀ L, L < 64512 → p3 L = true := allN_x (n := 256) (a := 64256) lq_250 lqk_251
theorem lqk_252 : allN p3 256 64512 = true := by decide +kernel
theorem lq_252 : ∀ L, L < 64768 → p3 L = true := allN_x (n := 256) (a := 64512) lq_251 lqk_252
theorem lqk_253 : allN p3 256 64768 = true := by decide +kernel
theorem lq_253 : ∀ L, L < 65024 → p3 L = true := allN_x (n := 256) (a := 64768) lq_252 lqk_253
theorem lqk_254 : allN p3 256 65024 = true := by decide +kernel
theorem lq_254 : ∀ L, L < 65280 → p3 L = true := allN_x (n := 256) (a := 65024) lq_253 lqk_254
theorem lqk_255 : allN p3 256 65280 = true := by decide +kernel
theorem lq_255 : ∀ L, L < 65536 → p3 L = true := allN_x (n := 256) (a := 65280) lq_254 lqk_255
theorem lrk_0 : allN p4 1024 0 = true := by decide +kernel
theorem lr_0 : ∀ L, L < 1024 → p4 L = true := allN_x (n := 1024) (a := 0) (fun L h => absurd h (Nat.not_lt_zero L)) lrk_0
theorem lrk_1 : allN p4 1024 1024 = true := by decide +kernel
theorem lr_1 : ∀ L, L < 2048 → p4 L = true := allN_x (n := 1024) (a := 1024) lr_0 lrk_1
theorem lrk_2 : allN p4 1024 2048 = true := by decide +kernel
theorem lr_2 : ∀ L, L < 3072 → p4 L = true := allN_x (n := 1024) (a := 2048) lr_1 lrk_2
theorem lrk_3 : allN p4 1024 3072 = true := by decide +kernel
theorem lr_3 : ∀ L, L < 4096 → p4 L = true := allN_x (n := 1024) (a := 3072) lr_2 lrk_3
theorem lrk_4 : allN p4 1024 4096 = true := by decide +kernel
theorem lr_4 : ∀ L, L < 5120 → p4 L = true := allN_x (n := 1024) (a := 4096) lr_3 lrk_4
theorem lrk_5 : allN p4 1024 5120 = true := by decide +kernel
theorem lr_5 : ∀ L, L < 6144 → p4 L = true := allN_x (n := 1024) (a := 5120) lr_4 lrk_5
theorem lrk_6 : allN p4 1024 6144 = true := by decide +kernel
theorem lr_6 : ∀ L, L < 7168 → p4 L = true := allN_x (n := 1024) (a := 6144) lr_5 lrk_6
theorem lrk_7 : allN p4 1024 7168 = true := by decide +kernel
theorem lr_7 : ∀ L, L < 8192 → p4 L = true := allN_x (n := 1024) (a := 7168) lr_6 lrk_7
theorem lrk_8 : allN p4 1024 8192 = true := by decide +kernel
theorem lr_8 : ∀ L, L < 9216 → p4 L = true := allN_x (n := 1024) (a := 8192) lr_7 lrk_8
theorem lrk_9 : allN p4 1024 9216 = true := by decide +kernel
theorem lr_9 : ∀ L, L < 10240 → p4 L = true := allN_x (n := 1024) (a := 9216) lr_8 lrk_9
theorem lrk_10 : allN p4 1024 10240 = true := by decide +kernel
theorem lr_10 : ∀ L, L < 11264 → p4 L = true := allN_x (n := 1024) (a := 10240) lr_9 lrk_10
theorem lrk_11 : allN p4 1024 11264 = true := by decide +kernel
theorem lr_11 : ∀ L, L < 12288 → p4 L = true := allN_x (n := 1024) (a := 11264) lr_10 lrk_11
theorem lrk_12 : allN p4 1024 12288 = true := by decide +kernel
theorem lr_12 : ∀ L, L < 13312 → p4 L = true := allN_x (n := 1024) (a := 12288) lr_11 lrk_12
theorem lrk_13 : allN p4 1024 13312 = true := by decide +kernel
theorem lr_13 : ∀ L, L < 14336 → p4 L = true := allN_x (n := 1024) (a := 13312) lr_12 lrk_13
theorem lrk_14 : allN p4 1024 14336 = true := by decide +kernel
theorem lr_14 : ∀ L, L < 15360 → p4 L = true := allN_x (n := 1024) (a := 14336) lr_13 lrk_14
theorem lrk_15 : allN p4 1024 15360 = true := by decide +kernel
theorem lr_15 : ∀ L, L < 16384 → p4 L = true := allN_x (n := 1024) (a := 15360) lr_14 lrk_15
theorem lrk_16 : allN p4 1024 16384 = true := by decide +kernel
theorem lr_16 : ∀ L, L < 17408 → p4 L = true := allN_x (n := 1024) (a := 16384) lr_15 lrk_16
theorem lrk_17 : allN p4 1024 17408 = true := by decide +kernel
theorem lr_17 : ∀ L, L < 18432 → p4 L = true := allN_x (n := 1024) (a := 17408) lr_16 lrk_17
theorem lrk_18 : allN p4 1024 18432 = true := by decide +kernel
theorem lr_18 : ∀ L, L < 19456 → p4 L = true := allN_x (n := 1024) (a := 18432) lr_17 lrk_18
theorem lrk_19 : allN p4 1024 19456 = true := by decide +kernel
theorem lr_19 : ∀ L, L < 20480 → p4 L = true := allN_x (n := 1024) (a := 19456) lr_18 lrk_19
theorem lrk_20 : allN p4 1024 20480 = true := by decide +kernel
theorem lr_20 : ∀ L, L < 21504 → p4 L = true := allN_x (n := 1024) (a := 20480) lr_19 lrk_20
theorem lrk_21 : allN p4 1024 21504 = true := by decide +kernel
theorem lr_21 : ∀ L, L < 22528 → p4 L = true := allN_x (n := 1024) (a := 21504) lr_20 lrk_21
theorem lrk_22 : allN p4 1024 22528 = true := by decide +kernel
theorem lr_22 : ∀ L, L < 23552 → p4 L = true := allN_x (n := 1024) (a := 22528) lr_21 lrk_22
theorem lrk_23 : allN p4 1024 23552 = true := by decide +kernel
theorem lr_23 : ∀ L, L < 24576 → p4 L = true := allN_x (n := 1024) (a := 23552) lr_22 lrk_23
theorem lrk_24 : allN p4 1024 24576 = true := by decide +kernel
theorem lr_24 : ∀ L, L < 25600 → p4 L = true := allN_x (n := 1024) (a := 24576) lr_23 lrk_24
theorem lrk_25 : allN p4 1024 25600 = true := by decide +kernel
theorem lr_25 : ∀ L, L < 26624 → p4 L = true := allN_x (n := 1024) (a := 25600) lr_24 lrk_25
theorem lrk_26 : allN p4 1024 26624 = true := by decide +kernel
theorem lr_26 : ∀ L, L < 27648 → p4 L = true := allN_x (n := 1024) (a := 26624) lr_25 lrk_26
theorem lrk_27 : allN p4 1024 27648 = true := by decide +kernel
theorem lr_27 : ∀ L, L < 28672 → p4 L = true := allN_x (n := 1024) (a := 27648) lr_26 lrk_27
theorem lrk_28 : allN p4 1024 28672 = true := by decide +kernel
theorem lr_28 : ∀ L, L < 29696 → p4 L = true := allN_x (n := 1024) (a := 28672) lr_27 lrk_28
theorem lrk_29 : allN p4 1024 29696 = true := by decide +kernel
theorem lr_29 : ∀ L, L < 30720 → p4 L = true := allN_x (n := 1024) (a := 29696) lr_28 lrk_29
theorem lrk_30 : allN p4 1024 30720 = true := by decide +kernel
theorem lr_30 : ∀ L, L < 31744 → p4 L = true := allN_x (n := 1024) (a := 30720) lr_29 lrk_30
theorem lrk_31 : allN p4 1024 31744 = true := by decide +kernel
theorem lr_31 : ∀ L, L < 32768 → p4 L = true := allN_x (n := 1024) (a := 31744) lr_30 lrk_31
theorem lrk_32 : allN p4 1024 32768 = true := by decide +kernel
theorem lr_32 : ∀ L, L < 33792 → p4 L = true := allN_x (n := 1024) (a := 32768) lr_31 lrk_32
theorem lrk_33 : allN p4 1024 33792 = true := by decide +kernel
theorem lr_33 : ∀ L, L < 34816 → p4 L = true := allN_x (n := 1024) (a := 33792) lr_32 lrk_33
theorem lrk_34 : allN p4 1024 34816 = true := by decide +kernel
theorem lr_34 : ∀ L, L < 35840 → p4 L = true := allN_x (n := 1024) (a := 34816) lr_33 lrk_34
theorem lrk_35 : allN p4 1024 35840 = true := by decide +kernel
theorem lr_35 : ∀ L, L < 36864 → p4 L = true := allN_x (n := 1024) (a := 35840) lr_34 lrk_35
theorem lrk_36 : allN p4 1024 36864 = true := by decide +kernel
theorem lr_36 : ∀ L, L < 37888 → p4 L = true := allN_x (n := 1024) (a := 36864) lr_35 lrk_36
theorem lrk_37 : allN p4 1024 37888 = true := by decide +kernel
theorem lr_37 : ∀ L, L < 38912 → p4 L = true := allN_x (n := 1024) (a := 37888) lr_36 lrk_37
theorem lrk_38 : allN p4 1024 38912 = true := by decide +kernel
theorem lr_38 : ∀ L, L < 39936 → p4 L = true := allN_x (n := 1024) (a := 38912) lr_37 lrk_38
theorem lrk_39 : allN p4 1024 39936 = true := by decide +kernel
theorem lr_39 : ∀ L, L < 40960 → p4 L = true := allN_x (n := 1024) (a := 39936) lr_38 lrk_39
theorem lrk_40 : allN p4 1024 40960 = true := by decide +kernel
theorem lr_40 : ∀ L, L < 41984 → p4 L = true := allN_x (n := 1024) (a := 40960) lr_39 lrk_40
theorem lrk_41 : allN p4 1024 41984 = true := by decide +kernel
theorem lr_41 : ∀ L, L < 43008 → p4 L = true := allN_x (n := 1024) (a := 41984) lr_40 lrk_41
theorem lrk_42 : allN p4 1024 43008 = true := by decide +kernel
theorem lr_42 : ∀ L, L < 44032 → p4 L = true := allN_x (n := 1024) (a := 43008) lr_41 lrk_42
theorem lrk_43 : allN p4 1024 44032 = true := by decide +kernel
theorem lr_43 : ∀ L, L < 45056 → p4 L = true := allN_x (n := 1024) (a := 44032) lr_42 lrk_43
theorem lrk_44 : allN p4 1024 45056 = true := by decide +kernel
theorem lr_44 : ∀ L, L < 46080 → p4 L = true := allN_x (n := 1024) (a := 45056) lr_43 lrk_44
theorem lrk_45 : allN p4 1024 46080 = true := by decide +kernel
theorem lr_45 : ∀ L, L < 47104 → p4 L = true := allN_x (n := 1024) (a := 46080) lr_44 lrk_45
theorem lrk_46 : allN p4 1024 47104 = true := by decide +kernel
theorem lr_46 : ∀ L, L < 48128 → p4 L = true := allN_x (n := 1024) (a := 47104) lr_45 lrk_46
theorem lrk_47 : allN p4 1024 48128 = true := by decide +kernel
theorem lr_47 : ∀ L, L < 49152 → p4 L = true := allN_x (n := 1024) (a := 48128) lr_46 lrk_47
theorem lrk_48 : allN p4 1024 49152 = true := by decide +kernel
theorem lr_48 : ∀ L, L < 50176 → p4 L = true := allN_x (n := 1024) (a := 49152) lr_47 lrk_48
theorem lrk_49 : allN p4 1024 50176 = true := by decide +kernel
theorem lr_49 : ∀ L, L < 51200 → p4 L = true := allN_x (n := 1024) (a := 50176) lr_48 lrk_49
theorem lrk_50 : allN p4 1024 51200 = true := by decide +kernel
theorem lr_50 : ∀ L, L < 52224 → p4 L = true := allN_x (n := 1024) (a := 51200) lr_49 lrk_50
theorem lrk_51 : allN p4 1024 52224 = true := by decide +kernel
theorem lr_51 : ∀ L, L < 53248 → p4 L = true := allN_x (n := 1024) (a := 52224) lr_50 lrk_51
theorem lrk_52 : allN p4 1024 53248 = true := by decide +kernel
theorem lr_52 : ∀ L, L < 54272 → p4 L = true := allN_x (n := 1024) (a := 53248) lr_51 lrk_52
theorem lrk_53 : allN p4 1024 54272 = true := by decide +kernel
theorem lr_53 : ∀ L, L < 55296 → p4 L = true := allN_x (n := 1024) (a := 54272) lr_52 lrk_53
theorem lrk_54 : allN p4 1024 55296 = true := by decide +kernel
theorem lr_54 : ∀ L, L < 56320 → p4 L = true := allN_x (n := 1024) (a := 55296) lr_53 lrk_54
theorem lrk_55 : allN p4 1024 56320 = true := by decide +kernel
theorem lr_55 : ∀ L, L < 57344 → p4 L = true := allN_x (n := 1024) (a := 56320) lr_54 lrk_55
theorem lrk_56 : allN p4 1024 57344 = true := by decide +kernel
theorem lr_56 : ∀ L, L < 58368 → p4 L = true := allN_x (n := 1024) (a := 57344) lr_55 lrk_56
theorem lrk_57 : allN p4 1024 58368 = true := by decide +kernel
theorem lr_57 : ∀ L, L < 59392 → p4 L = true := allN_x (n := 1024) (a := 58368) lr_56 lrk_57
theorem lrk_58 : allN p4 1024 59392 = true := by decide +kernel
theorem lr_58 : ∀ L, L < 60416 → p4 L = true := allN_x (n := 1024) (a := 59392) lr_57 lrk_58
theorem lrk_59 : allN p4 1024 60416 = true := by decide +kernel
theorem lr_59 : ∀ L, L < 61440 → p4 L = true := allN_x (n := 1024) (a := 60416) lr_58 lrk_59
theorem lrk_60 : allN p4 1024 61440 = true := by decide +kernel
theorem lr_60 : ∀ L, L < 62464 → p4 L = true := allN_x (n := 1024) (a := 61440) lr_59 lrk_60
theorem lrk_61 : allN p4 1024 62464 = true := by decide +kernel
theorem lr_61 : ∀ L, L < 63488 → p4 L = true := allN_x (n := 1024) (a := 62464) lr_60 lrk_61
theorem lrk_62 : allN p4 1024 63488 = true := by decide +kernel
theorem lr_62 : ∀ L, L < 64512 → p4 L = true := allN_x (n := 1024) (a := 63488) lr_61 lrk_62
theorem lrk_63 : allN p4 1024 64512 = true := by decide +kernel
theorem lr_63 : ∀ L, L < 65536 → p4 L = true := allN_x (n := 1024) (a := 64512) lr_62 lrk_63
theorem fair {x sz : Nat} (hx : x < 4294967296) (h1 : 1 ≤ sz) (h5 : sz ≤ 4) : Fair (pkN x sz) sz 61 := fair_of lq_255 lr_63 hx h1 h5
