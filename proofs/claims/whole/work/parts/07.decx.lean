theorem dX0_firstDay_0 : decode cX0_firstDay 0 = .ok (.iload_n 1, 1) := by decide +kernel
theorem dX0_firstDay_1 : decode cX0_firstDay 1 = .ok (.ifCond .ne 5, 3) := by decide +kernel
theorem dX0_firstDay_4 : decode cX0_firstDay 4 = .ok (.iload_n 0, 1) := by decide +kernel
theorem dX0_firstDay_5 : decode cX0_firstDay 5 = .ok (.ireturn, 1) := by decide +kernel
theorem dX0_firstDay_6 : decode cX0_firstDay 6 = .ok (.iload_n 1, 1) := by decide +kernel
theorem dX0_firstDay_7 : decode cX0_firstDay 7 = .ok (.iconst 1, 1) := by decide +kernel
theorem dX0_firstDay_8 : decode cX0_firstDay 8 = .ok (.if_icmp .ne 14, 3) := by decide +kernel
theorem dX0_firstDay_11 : decode cX0_firstDay 11 = .ok (.iload_n 0, 1) := by decide +kernel
theorem dX0_firstDay_12 : decode cX0_firstDay 12 = .ok (.iload_n 0, 1) := by decide +kernel
theorem dX0_firstDay_13 : decode cX0_firstDay 13 = .ok (.iconst 3, 1) := by decide +kernel
theorem dX0_firstDay_14 : decode cX0_firstDay 14 = .ok (.iadd, 1) := by decide +kernel
theorem dX0_firstDay_15 : decode cX0_firstDay 15 = .ok (.bipush 7, 2) := by decide +kernel
theorem dX0_firstDay_17 : decode cX0_firstDay 17 = .ok (.invokestatic 9, 3) := by decide +kernel
theorem dX0_firstDay_20 : decode cX0_firstDay 20 = .ok (.isub, 1) := by decide +kernel
theorem dX0_firstDay_21 : decode cX0_firstDay 21 = .ok (.ireturn, 1) := by decide +kernel
theorem dX0_firstDay_22 : decode cX0_firstDay 22 = .ok (.iload_n 0, 1) := by decide +kernel
theorem dX0_firstDay_23 : decode cX0_firstDay 23 = .ok (.ldc 15, 2) := by decide +kernel
theorem dX0_firstDay_25 : decode cX0_firstDay 25 = .ok (.iadd, 1) := by decide +kernel
theorem dX0_firstDay_26 : decode cX0_firstDay 26 = .ok (.ldc 16, 2) := by decide +kernel
theorem dX0_firstDay_28 : decode cX0_firstDay 28 = .ok (.invokestatic 9, 3) := by decide +kernel
theorem dX0_firstDay_31 : decode cX0_firstDay 31 = .ok (.istore_n 2, 1) := by decide +kernel
theorem dX0_firstDay_32 : decode cX0_firstDay 32 = .ok (.iload_n 2, 1) := by decide +kernel
theorem dX0_firstDay_33 : decode cX0_firstDay 33 = .ok (.i2l, 1) := by decide +kernel
theorem dX0_firstDay_34 : decode cX0_firstDay 34 = .ok (.ldc2_w 17, 3) := by decide +kernel
theorem dX0_firstDay_37 : decode cX0_firstDay 37 = .ok (.lmul, 1) := by decide +kernel
theorem dX0_firstDay_38 : decode cX0_firstDay 38 = .ok (.ldc2_w 19, 3) := by decide +kernel
theorem dX0_firstDay_41 : decode cX0_firstDay 41 = .ok (.ldiv, 1) := by decide +kernel
theorem dX0_firstDay_42 : decode cX0_firstDay 42 = .ok (.l2i, 1) := by decide +kernel
theorem dX0_firstDay_43 : decode cX0_firstDay 43 = .ok (.istore_n 3, 1) := by decide +kernel
theorem dX0_firstDay_44 : decode cX0_firstDay 44 = .ok (.iload_n 3, 1) := by decide +kernel
theorem dX0_firstDay_45 : decode cX0_firstDay 45 = .ok (.invokestatic 21, 3) := by decide +kernel
theorem dX0_firstDay_48 : decode cX0_firstDay 48 = .ok (.iload_n 2, 1) := by decide +kernel
theorem dX0_firstDay_49 : decode cX0_firstDay 49 = .ok (.if_icmp .le 9, 3) := by decide +kernel
theorem dX0_firstDay_52 : decode cX0_firstDay 52 = .ok (.iinc 3 (-1), 3) := by decide +kernel
theorem dX0_firstDay_55 : decode cX0_firstDay 55 = .ok (.goto 16, 3) := by decide +kernel
theorem dX0_firstDay_58 : decode cX0_firstDay 58 = .ok (.iload_n 3, 1) := by decide +kernel
theorem dX0_firstDay_59 : decode cX0_firstDay 59 = .ok (.iconst 1, 1) := by decide +kernel
theorem dX0_firstDay_60 : decode cX0_firstDay 60 = .ok (.iadd, 1) := by decide +kernel
theorem dX0_firstDay_61 : decode cX0_firstDay 61 = .ok (.invokestatic 21, 3) := by decide +kernel
theorem dX0_firstDay_64 : decode cX0_firstDay 64 = .ok (.iload_n 2, 1) := by decide +kernel
theorem dX0_firstDay_65 : decode cX0_firstDay 65 = .ok (.if_icmp .gt 6, 3) := by decide +kernel
theorem dX0_firstDay_68 : decode cX0_firstDay 68 = .ok (.iinc 3 1, 3) := by decide +kernel
theorem dX0_firstDay_71 : decode cX0_firstDay 71 = .ok (.iload_n 2, 1) := by decide +kernel
theorem dX0_firstDay_72 : decode cX0_firstDay 72 = .ok (.iload_n 3, 1) := by decide +kernel
theorem dX0_firstDay_73 : decode cX0_firstDay 73 = .ok (.invokestatic 21, 3) := by decide +kernel
theorem dX0_firstDay_76 : decode cX0_firstDay 76 = .ok (.isub, 1) := by decide +kernel
theorem dX0_firstDay_77 : decode cX0_firstDay 77 = .ok (.istore 4, 2) := by decide +kernel
theorem dX0_firstDay_79 : decode cX0_firstDay 79 = .ok (.iload_n 1, 1) := by decide +kernel
theorem dX0_firstDay_80 : decode cX0_firstDay 80 = .ok (.iconst 4, 1) := by decide +kernel
theorem dX0_firstDay_81 : decode cX0_firstDay 81 = .ok (.if_icmp .ne 8, 3) := by decide +kernel
theorem dX0_firstDay_84 : decode cX0_firstDay 84 = .ok (.iload_n 0, 1) := by decide +kernel
theorem dX0_firstDay_85 : decode cX0_firstDay 85 = .ok (.iload 4, 2) := by decide +kernel
theorem dX0_firstDay_87 : decode cX0_firstDay 87 = .ok (.isub, 1) := by decide +kernel
theorem dX0_firstDay_88 : decode cX0_firstDay 88 = .ok (.ireturn, 1) := by decide +kernel
theorem dX0_firstDay_89 : decode cX0_firstDay 89 = .ok (.iload_n 3, 1) := by decide +kernel
theorem dX0_firstDay_90 : decode cX0_firstDay 90 = .ok (.iconst 1, 1) := by decide +kernel
theorem dX0_firstDay_91 : decode cX0_firstDay 91 = .ok (.iadd, 1) := by decide +kernel
theorem dX0_firstDay_92 : decode cX0_firstDay 92 = .ok (.invokestatic 21, 3) := by decide +kernel
theorem dX0_firstDay_95 : decode cX0_firstDay 95 = .ok (.iload_n 3, 1) := by decide +kernel
theorem dX0_firstDay_96 : decode cX0_firstDay 96 = .ok (.invokestatic 21, 3) := by decide +kernel
theorem dX0_firstDay_99 : decode cX0_firstDay 99 = .ok (.isub, 1) := by decide +kernel
theorem dX0_firstDay_100 : decode cX0_firstDay 100 = .ok (.sipush 366, 3) := by decide +kernel
theorem dX0_firstDay_103 : decode cX0_firstDay 103 = .ok (.if_icmp .ne 7, 3) := by decide +kernel
theorem dX0_firstDay_106 : decode cX0_firstDay 106 = .ok (.iconst 1, 1) := by decide +kernel
theorem dX0_firstDay_107 : decode cX0_firstDay 107 = .ok (.goto 4, 3) := by decide +kernel
theorem dX0_firstDay_110 : decode cX0_firstDay 110 = .ok (.iconst 0, 1) := by decide +kernel
theorem dX0_firstDay_111 : decode cX0_firstDay 111 = .ok (.istore 5, 2) := by decide +kernel
theorem dX0_firstDay_113 : decode cX0_firstDay 113 = .ok (.iload_n 0, 1) := by decide +kernel
theorem dX0_firstDay_114 : decode cX0_firstDay 114 = .ok (.iload 4, 2) := by decide +kernel
theorem dX0_firstDay_116 : decode cX0_firstDay 116 = .ok (.isub, 1) := by decide +kernel
theorem dX0_firstDay_117 : decode cX0_firstDay 117 = .ok (.iload 4, 2) := by decide +kernel
theorem dX0_firstDay_119 : decode cX0_firstDay 119 = .ok (.iload 5, 2) := by decide +kernel
theorem dX0_firstDay_121 : decode cX0_firstDay 121 = .ok (.iload_n 1, 1) := by decide +kernel
theorem dX0_firstDay_122 : decode cX0_firstDay 122 = .ok (.iconst 3, 1) := by decide +kernel
theorem dX0_firstDay_123 : decode cX0_firstDay 123 = .ok (.if_icmp .ne 7, 3) := by decide +kernel
theorem dX0_firstDay_126 : decode cX0_firstDay 126 = .ok (.iconst 3, 1) := by decide +kernel
theorem dX0_firstDay_127 : decode cX0_firstDay 127 = .ok (.goto 4, 3) := by decide +kernel
theorem dX0_firstDay_130 : decode cX0_firstDay 130 = .ok (.iconst 1, 1) := by decide +kernel
theorem dX0_firstDay_131 : decode cX0_firstDay 131 = .ok (.invokestatic 25, 3) := by decide +kernel
theorem dX0_firstDay_134 : decode cX0_firstDay 134 = .ok (.iadd, 1) := by decide +kernel
theorem dX0_firstDay_135 : decode cX0_firstDay 135 = .ok (.ireturn, 1) := by decide +kernel
theorem dX0_yearStart_0 : decode cX0_yearStart 0 = .ok (.sipush 365, 3) := by decide +kernel
theorem dX0_yearStart_3 : decode cX0_yearStart 3 = .ok (.iload_n 0, 1) := by decide +kernel
theorem dX0_yearStart_4 : decode cX0_yearStart 4 = .ok (.imul, 1) := by decide +kernel
theorem dX0_yearStart_5 : decode cX0_yearStart 5 = .ok (.iload_n 0, 1) := by decide +kernel
theorem dX0_yearStart_6 : decode cX0_yearStart 6 = .ok (.iconst 3, 1) := by decide +kernel
theorem dX0_yearStart_7 : decode cX0_yearStart 7 = .ok (.iadd, 1) := by decide +kernel
theorem dX0_yearStart_8 : decode cX0_yearStart 8 = .ok (.iconst 4, 1) := by decide +kernel
theorem dX0_yearStart_9 : decode cX0_yearStart 9 = .ok (.idiv, 1) := by decide +kernel
theorem dX0_yearStart_10 : decode cX0_yearStart 10 = .ok (.iadd, 1) := by decide +kernel
theorem dX0_yearStart_11 : decode cX0_yearStart 11 = .ok (.iload_n 0, 1) := by decide +kernel
theorem dX0_yearStart_12 : decode cX0_yearStart 12 = .ok (.bipush 99, 2) := by decide +kernel
theorem dX0_yearStart_14 : decode cX0_yearStart 14 = .ok (.iadd, 1) := by decide +kernel
theorem dX0_yearStart_15 : decode cX0_yearStart 15 = .ok (.bipush 100, 2) := by decide +kernel
theorem dX0_yearStart_17 : decode cX0_yearStart 17 = .ok (.idiv, 1) := by decide +kernel
theorem dX0_yearStart_18 : decode cX0_yearStart 18 = .ok (.isub, 1) := by decide +kernel
theorem dX0_yearStart_19 : decode cX0_yearStart 19 = .ok (.iload_n 0, 1) := by decide +kernel
theorem dX0_yearStart_20 : decode cX0_yearStart 20 = .ok (.sipush 399, 3) := by decide +kernel
theorem dX0_yearStart_23 : decode cX0_yearStart 23 = .ok (.iadd, 1) := by decide +kernel
theorem dX0_yearStart_24 : decode cX0_yearStart 24 = .ok (.sipush 400, 3) := by decide +kernel
theorem dX0_yearStart_27 : decode cX0_yearStart 27 = .ok (.idiv, 1) := by decide +kernel
theorem dX0_yearStart_28 : decode cX0_yearStart 28 = .ok (.iadd, 1) := by decide +kernel
theorem dX0_yearStart_29 : decode cX0_yearStart 29 = .ok (.ireturn, 1) := by decide +kernel
theorem dX0_partStart_0 : decode cX0_partStart 0 = .ok (.iconst 0, 1) := by decide +kernel
theorem dX0_partStart_1 : decode cX0_partStart 1 = .ok (.istore_n 3, 1) := by decide +kernel
theorem dX0_partStart_2 : decode cX0_partStart 2 = .ok (.iconst 0, 1) := by decide +kernel
theorem dX0_partStart_3 : decode cX0_partStart 3 = .ok (.istore 4, 2) := by decide +kernel
theorem dX0_partStart_5 : decode cX0_partStart 5 = .ok (.iload 4, 2) := by decide +kernel
theorem dX0_partStart_7 : decode cX0_partStart 7 = .ok (.getstatic 29, 3) := by decide +kernel
theorem dX0_partStart_10 : decode cX0_partStart 10 = .ok (.arraylength, 1) := by decide +kernel
theorem dX0_partStart_11 : decode cX0_partStart 11 = .ok (.if_icmp .ge 49, 3) := by decide +kernel
theorem dX0_partStart_14 : decode cX0_partStart 14 = .ok (.getstatic 29, 3) := by decide +kernel
theorem dX0_partStart_17 : decode cX0_partStart 17 = .ok (.iload 4, 2) := by decide +kernel
theorem dX0_partStart_19 : decode cX0_partStart 19 = .ok (.iaload, 1) := by decide +kernel
theorem dX0_partStart_20 : decode cX0_partStart 20 = .ok (.iload_n 1, 1) := by decide +kernel
theorem dX0_partStart_21 : decode cX0_partStart 21 = .ok (.ifCond .eq 13, 3) := by decide +kernel
theorem dX0_partStart_24 : decode cX0_partStart 24 = .ok (.iload 4, 2) := by decide +kernel
theorem dX0_partStart_26 : decode cX0_partStart 26 = .ok (.iconst 1, 1) := by decide +kernel
theorem dX0_partStart_27 : decode cX0_partStart 27 = .ok (.if_icmp .le 7, 3) := by decide +kernel
theorem dX0_partStart_30 : decode cX0_partStart 30 = .ok (.iconst 1, 1) := by decide +kernel
theorem dX0_partStart_31 : decode cX0_partStart 31 = .ok (.goto 4, 3) := by decide +kernel
theorem dX0_partStart_34 : decode cX0_partStart 34 = .ok (.iconst 0, 1) := by decide +kernel
theorem dX0_partStart_35 : decode cX0_partStart 35 = .ok (.iadd, 1) := by decide +kernel
theorem dX0_partStart_36 : decode cX0_partStart 36 = .ok (.istore 5, 2) := by decide +kernel
theorem dX0_partStart_38 : decode cX0_partStart 38 = .ok (.iload 5, 2) := by decide +kernel
theorem dX0_partStart_40 : decode cX0_partStart 40 = .ok (.iload_n 0, 1) := by decide +kernel
theorem dX0_partStart_41 : decode cX0_partStart 41 = .ok (.if_icmp .gt 13, 3) := by decide +kernel
theorem dX0_partStart_44 : decode cX0_partStart 44 = .ok (.iload 4, 2) := by decide +kernel
theorem dX0_partStart_46 : decode cX0_partStart 46 = .ok (.iload_n 2, 1) := by decide +kernel
theorem dX0_partStart_47 : decode cX0_partStart 47 = .ok (.irem, 1) := by decide +kernel
theorem dX0_partStart_48 : decode cX0_partStart 48 = .ok (.ifCond .ne 6, 3) := by decide +kernel
theorem dX0_partStart_51 : decode cX0_partStart 51 = .ok (.iload 5, 2) := by decide +kernel
theorem dX0_partStart_53 : decode cX0_partStart 53 = .ok (.istore_n 3, 1) := by decide +kernel
theorem dX0_partStart_54 : decode cX0_partStart 54 = .ok (.iinc 4 1, 3) := by decide +kernel
theorem dX0_partStart_57 : decode cX0_partStart 57 = .ok (.goto (-52), 3) := by decide +kernel
theorem dX0_partStart_60 : decode cX0_partStart 60 = .ok (.iload_n 3, 1) := by decide +kernel
theorem dX0_partStart_61 : decode cX0_partStart 61 = .ok (.ireturn, 1) := by decide +kernel
theorem dX1_init_0 : decode cX1_init 0 = .ok (.aload_n 0, 1) := by decide +kernel
theorem dX1_init_1 : decode cX1_init 1 = .ok (.invokespecial 3, 3) := by decide +kernel
theorem dX1_init_4 : decode cX1_init 4 = .ok (.aload_n 0, 1) := by decide +kernel
theorem dX1_init_5 : decode cX1_init 5 = .ok (.bipush 6, 2) := by decide +kernel
theorem dX1_init_7 : decode cX1_init 7 = .ok (.newarray .int, 2) := by decide +kernel
theorem dX1_init_9 : decode cX1_init 9 = .ok (.putfield 9, 3) := by decide +kernel
theorem dX1_init_12 : decode cX1_init 12 = .ok (.aload_n 0, 1) := by decide +kernel
theorem dX1_init_13 : decode cX1_init 13 = .ok (.bipush 6, 2) := by decide +kernel
theorem dX1_init_15 : decode cX1_init 15 = .ok (.newarray .int, 2) := by decide +kernel
theorem dX1_init_17 : decode cX1_init 17 = .ok (.putfield 15, 3) := by decide +kernel
theorem dX1_init_20 : decode cX1_init 20 = .ok (.return_, 1) := by decide +kernel
theorem dX1_startOver_0 : decode cX1_startOver 0 = .ok (.aload_n 0, 1) := by decide +kernel
theorem dX1_startOver_1 : decode cX1_startOver 1 = .ok (.iload_n 1, 1) := by decide +kernel
theorem dX1_startOver_2 : decode cX1_startOver 2 = .ok (.putfield 18, 3) := by decide +kernel
theorem dX1_startOver_5 : decode cX1_startOver 5 = .ok (.aload_n 0, 1) := by decide +kernel
theorem dX1_startOver_6 : decode cX1_startOver 6 = .ok (.iload_n 2, 1) := by decide +kernel
theorem dX1_startOver_7 : decode cX1_startOver 7 = .ok (.putfield 22, 3) := by decide +kernel
theorem dX1_startOver_10 : decode cX1_startOver 10 = .ok (.aload_n 0, 1) := by decide +kernel
theorem dX1_startOver_11 : decode cX1_startOver 11 = .ok (.iload_n 3, 1) := by decide +kernel
theorem dX1_startOver_12 : decode cX1_startOver 12 = .ok (.putfield 25, 3) := by decide +kernel
theorem dX1_startOver_15 : decode cX1_startOver 15 = .ok (.aload_n 0, 1) := by decide +kernel
theorem dX1_startOver_16 : decode cX1_startOver 16 = .ok (.iload 4, 2) := by decide +kernel
theorem dX1_startOver_18 : decode cX1_startOver 18 = .ok (.putfield 28, 3) := by decide +kernel
theorem dX1_startOver_21 : decode cX1_startOver 21 = .ok (.aload_n 0, 1) := by decide +kernel
theorem dX1_startOver_22 : decode cX1_startOver 22 = .ok (.ldc 31, 2) := by decide +kernel
theorem dX1_startOver_24 : decode cX1_startOver 24 = .ok (.putfield 32, 3) := by decide +kernel
theorem dX1_startOver_27 : decode cX1_startOver 27 = .ok (.aload_n 0, 1) := by decide +kernel
theorem dX1_startOver_28 : decode cX1_startOver 28 = .ok (.iconst 0, 1) := by decide +kernel
theorem dX1_startOver_29 : decode cX1_startOver 29 = .ok (.putfield 35, 3) := by decide +kernel
theorem dX1_startOver_32 : decode cX1_startOver 32 = .ok (.aload_n 0, 1) := by decide +kernel
theorem dX1_startOver_33 : decode cX1_startOver 33 = .ok (.iconst 0, 1) := by decide +kernel
theorem dX1_startOver_34 : decode cX1_startOver 34 = .ok (.putfield 38, 3) := by decide +kernel
theorem dX1_startOver_37 : decode cX1_startOver 37 = .ok (.aload_n 0, 1) := by decide +kernel
theorem dX1_startOver_38 : decode cX1_startOver 38 = .ok (.iconst 1, 1) := by decide +kernel
theorem dX1_startOver_39 : decode cX1_startOver 39 = .ok (.putfield 41, 3) := by decide +kernel
theorem dX1_startOver_42 : decode cX1_startOver 42 = .ok (.aload_n 0, 1) := by decide +kernel
theorem dX1_startOver_43 : decode cX1_startOver 43 = .ok (.iconst 0, 1) := by decide +kernel
theorem dX1_startOver_44 : decode cX1_startOver 44 = .ok (.putfield 44, 3) := by decide +kernel
theorem dX1_startOver_47 : decode cX1_startOver 47 = .ok (.aload_n 0, 1) := by decide +kernel
theorem dX1_startOver_48 : decode cX1_startOver 48 = .ok (.iconst 0, 1) := by decide +kernel
theorem dX1_startOver_49 : decode cX1_startOver 49 = .ok (.putfield 48, 3) := by decide +kernel
theorem dX1_startOver_52 : decode cX1_startOver 52 = .ok (.aload_n 0, 1) := by decide +kernel
theorem dX1_startOver_53 : decode cX1_startOver 53 = .ok (.iconst 0, 1) := by decide +kernel
theorem dX1_startOver_54 : decode cX1_startOver 54 = .ok (.putfield 51, 3) := by decide +kernel
theorem dX1_startOver_57 : decode cX1_startOver 57 = .ok (.aload_n 0, 1) := by decide +kernel
theorem dX1_startOver_58 : decode cX1_startOver 58 = .ok (.iconst 0, 1) := by decide +kernel
theorem dX1_startOver_59 : decode cX1_startOver 59 = .ok (.putfield 54, 3) := by decide +kernel
theorem dX1_startOver_62 : decode cX1_startOver 62 = .ok (.return_, 1) := by decide +kernel
theorem dX1_addRange_0 : decode cX1_addRange 0 = .ok (.aload_n 0, 1) := by decide +kernel
theorem dX1_addRange_1 : decode cX1_addRange 1 = .ok (.getfield 9, 3) := by decide +kernel
theorem dX1_addRange_4 : decode cX1_addRange 4 = .ok (.aload_n 0, 1) := by decide +kernel
theorem dX1_addRange_5 : decode cX1_addRange 5 = .ok (.getfield 54, 3) := by decide +kernel
theorem dX1_addRange_8 : decode cX1_addRange 8 = .ok (.iload_n 1, 1) := by decide +kernel
theorem dX1_addRange_9 : decode cX1_addRange 9 = .ok (.iastore, 1) := by decide +kernel
theorem dX1_addRange_10 : decode cX1_addRange 10 = .ok (.aload_n 0, 1) := by decide +kernel
theorem dX1_addRange_11 : decode cX1_addRange 11 = .ok (.getfield 15, 3) := by decide +kernel
theorem dX1_addRange_14 : decode cX1_addRange 14 = .ok (.aload_n 0, 1) := by decide +kernel
theorem dX1_addRange_15 : decode cX1_addRange 15 = .ok (.getfield 54, 3) := by decide +kernel
theorem dX1_addRange_18 : decode cX1_addRange 18 = .ok (.iload_n 2, 1) := by decide +kernel
theorem dX1_addRange_19 : decode cX1_addRange 19 = .ok (.iastore, 1) := by decide +kernel
theorem dX1_addRange_20 : decode cX1_addRange 20 = .ok (.aload_n 0, 1) := by decide +kernel
theorem dX1_addRange_21 : decode cX1_addRange 21 = .ok (.dup, 1) := by decide +kernel
theorem dX1_addRange_22 : decode cX1_addRange 22 = .ok (.getfield 54, 3) := by decide +kernel
theorem dX1_addRange_25 : decode cX1_addRange 25 = .ok (.iconst 1, 1) := by decide +kernel
theorem dX1_addRange_26 : decode cX1_addRange 26 = .ok (.iadd, 1) := by decide +kernel
theorem dX1_addRange_27 : decode cX1_addRange 27 = .ok (.putfield 54, 3) := by decide +kernel
theorem dX1_addRange_30 : decode cX1_addRange 30 = .ok (.aload_n 0, 1) := by decide +kernel
theorem dX1_addRange_31 : decode cX1_addRange 31 = .ok (.getfield 54, 3) := by decide +kernel
theorem dX1_addRange_34 : decode cX1_addRange 34 = .ok (.iconst 1, 1) := by decide +kernel
theorem dX1_addRange_35 : decode cX1_addRange 35 = .ok (.isub, 1) := by decide +kernel
theorem dX1_addRange_36 : decode cX1_addRange 36 = .ok (.ireturn, 1) := by decide +kernel
theorem dX1_counts_0 : decode cX1_counts 0 = .ok (.aload_n 0, 1) := by decide +kernel
theorem dX1_counts_1 : decode cX1_counts 1 = .ok (.getfield 32, 3) := by decide +kernel
theorem dX1_counts_4 : decode cX1_counts 4 = .ok (.ldc 31, 2) := by decide +kernel
theorem dX1_counts_6 : decode cX1_counts 6 = .ok (.if_icmp .eq 23, 3) := by decide +kernel
theorem dX1_counts_9 : decode cX1_counts 9 = .ok (.aload_n 1, 1) := by decide +kernel
theorem dX1_counts_10 : decode cX1_counts 10 = .ok (.iload_n 2, 1) := by decide +kernel
theorem dX1_counts_11 : decode cX1_counts 11 = .ok (.aload_n 0, 1) := by decide +kernel
theorem dX1_counts_12 : decode cX1_counts 12 = .ok (.getfield 32, 3) := by decide +kernel
theorem dX1_counts_15 : decode cX1_counts 15 = .ok (.aload_n 0, 1) := by decide +kernel
theorem dX1_counts_16 : decode cX1_counts 16 = .ok (.getfield 35, 3) := by decide +kernel
theorem dX1_counts_19 : decode cX1_counts 19 = .ok (.aload_n 0, 1) := by decide +kernel
theorem dX1_counts_20 : decode cX1_counts 20 = .ok (.getfield 38, 3) := by decide +kernel
theorem dX1_counts_23 : decode cX1_counts 23 = .ok (.invokevirtual 57, 3) := by decide +kernel
theorem dX1_counts_26 : decode cX1_counts 26 = .ok (.ifCond .eq 7, 3) := by decide +kernel
theorem dX1_counts_29 : decode cX1_counts 29 = .ok (.iconst 1, 1) := by decide +kernel
theorem dX1_counts_30 : decode cX1_counts 30 = .ok (.goto 4, 3) := by decide +kernel
theorem dX1_counts_33 : decode cX1_counts 33 = .ok (.iconst 0, 1) := by decide +kernel
theorem dX1_counts_34 : decode cX1_counts 34 = .ok (.ireturn, 1) := by decide +kernel
theorem dX1_collectKeys_0 : decode cX1_collectKeys 0 = .ok (.aload_n 3, 1) := by decide +kernel
theorem dX1_collectKeys_1 : decode cX1_collectKeys 1 = .ok (.invokevirtual 63, 3) := by decide +kernel
theorem dX1_collectKeys_4 : decode cX1_collectKeys 4 = .ok (.aload_n 1, 1) := by decide +kernel
theorem dX1_collectKeys_5 : decode cX1_collectKeys 5 = .ok (.iload_n 2, 1) := by decide +kernel
theorem dX1_collectKeys_6 : decode cX1_collectKeys 6 = .ok (.aload_n 0, 1) := by decide +kernel
theorem dX1_collectKeys_7 : decode cX1_collectKeys 7 = .ok (.getfield 22, 3) := by decide +kernel
theorem dX1_collectKeys_10 : decode cX1_collectKeys 10 = .ok (.invokevirtual 68, 3) := by decide +kernel
theorem dX1_collectKeys_13 : decode cX1_collectKeys 13 = .ok (.istore 4, 2) := by decide +kernel
theorem dX1_collectKeys_15 : decode cX1_collectKeys 15 = .ok (.iconst 0, 1) := by decide +kernel
theorem dX1_collectKeys_16 : decode cX1_collectKeys 16 = .ok (.istore 5, 2) := by decide +kernel
theorem dX1_collectKeys_18 : decode cX1_collectKeys 18 = .ok (.iload 5, 2) := by decide +kernel
theorem dX1_collectKeys_20 : decode cX1_collectKeys 20 = .ok (.iload 4, 2) := by decide +kernel
theorem dX1_collectKeys_22 : decode cX1_collectKeys 22 = .ok (.if_icmp .ge 25, 3) := by decide +kernel
theorem dX1_collectKeys_25 : decode cX1_collectKeys 25 = .ok (.aload_n 0, 1) := by decide +kernel
theorem dX1_collectKeys_26 : decode cX1_collectKeys 26 = .ok (.aload_n 1, 1) := by decide +kernel
theorem dX1_collectKeys_27 : decode cX1_collectKeys 27 = .ok (.iload_n 2, 1) := by decide +kernel
theorem dX1_collectKeys_28 : decode cX1_collectKeys 28 = .ok (.aload_n 0, 1) := by decide +kernel
theorem dX1_collectKeys_29 : decode cX1_collectKeys 29 = .ok (.getfield 22, 3) := by decide +kernel
theorem dX1_collectKeys_32 : decode cX1_collectKeys 32 = .ok (.iload 5, 2) := by decide +kernel
theorem dX1_collectKeys_34 : decode cX1_collectKeys 34 = .ok (.invokevirtual 72, 3) := by decide +kernel
theorem dX1_collectKeys_37 : decode cX1_collectKeys 37 = .ok (.aload_n 3, 1) := by decide +kernel
theorem dX1_collectKeys_38 : decode cX1_collectKeys 38 = .ok (.invokevirtual 76, 3) := by decide +kernel
theorem dX1_collectKeys_41 : decode cX1_collectKeys 41 = .ok (.iinc 5 1, 3) := by decide +kernel
theorem dX1_collectKeys_44 : decode cX1_collectKeys 44 = .ok (.goto (-26), 3) := by decide +kernel
theorem dX1_collectKeys_47 : decode cX1_collectKeys 47 = .ok (.return_, 1) := by decide +kernel
theorem dX1_addKeysOf_0 : decode cX1_addKeysOf 0 = .ok (.aload_n 0, 1) := by decide +kernel
theorem dX1_addKeysOf_1 : decode cX1_addKeysOf 1 = .ok (.getfield 18, 3) := by decide +kernel
theorem dX1_addKeysOf_4 : decode cX1_addKeysOf 4 = .ok (.tableswitch 117 0 4 #[36, 44, 52, 61, 90], 36) := by decide +kernel
theorem dX1_addKeysOf_40 : decode cX1_addKeysOf 40 = .ok (.aload_n 2, 1) := by decide +kernel
theorem dX1_addKeysOf_41 : decode cX1_addKeysOf 41 = .ok (.iload_n 1, 1) := by decide +kernel
theorem dX1_addKeysOf_42 : decode cX1_addKeysOf 42 = .ok (.invokevirtual 80, 3) := by decide +kernel
theorem dX1_addKeysOf_45 : decode cX1_addKeysOf 45 = .ok (.goto 76, 3) := by decide +kernel
theorem dX1_addKeysOf_48 : decode cX1_addKeysOf 48 = .ok (.iload_n 1, 1) := by decide +kernel
theorem dX1_addKeysOf_49 : decode cX1_addKeysOf 49 = .ok (.aload_n 2, 1) := by decide +kernel
theorem dX1_addKeysOf_50 : decode cX1_addKeysOf 50 = .ok (.invokestatic 84, 3) := by decide +kernel
theorem dX1_addKeysOf_53 : decode cX1_addKeysOf 53 = .ok (.goto 68, 3) := by decide +kernel
theorem dX1_addKeysOf_56 : decode cX1_addKeysOf 56 = .ok (.aload_n 0, 1) := by decide +kernel
theorem dX1_addKeysOf_57 : decode cX1_addKeysOf 57 = .ok (.iload_n 1, 1) := by decide +kernel
theorem dX1_addKeysOf_58 : decode cX1_addKeysOf 58 = .ok (.aload_n 2, 1) := by decide +kernel
theorem dX1_addKeysOf_59 : decode cX1_addKeysOf 59 = .ok (.invokevirtual 87, 3) := by decide +kernel
theorem dX1_addKeysOf_62 : decode cX1_addKeysOf 62 = .ok (.goto 59, 3) := by decide +kernel
theorem dX1_addKeysOf_65 : decode cX1_addKeysOf 65 = .ok (.aload_n 0, 1) := by decide +kernel
theorem dX1_addKeysOf_66 : decode cX1_addKeysOf 66 = .ok (.getfield 25, 3) := by decide +kernel
theorem dX1_addKeysOf_69 : decode cX1_addKeysOf 69 = .ok (.ifCond .le 52, 3) := by decide +kernel
theorem dX1_addKeysOf_72 : decode cX1_addKeysOf 72 = .ok (.aload_n 2, 1) := by decide +kernel
theorem dX1_addKeysOf_73 : decode cX1_addKeysOf 73 = .ok (.iload_n 1, 1) := by decide +kernel
theorem dX1_addKeysOf_74 : decode cX1_addKeysOf 74 = .ok (.iload_n 1, 1) := by decide +kernel
theorem dX1_addKeysOf_75 : decode cX1_addKeysOf 75 = .ok (.aload_n 0, 1) := by decide +kernel
theorem dX1_addKeysOf_76 : decode cX1_addKeysOf 76 = .ok (.getfield 28, 3) := by decide +kernel
theorem dX1_addKeysOf_79 : decode cX1_addKeysOf 79 = .ok (.isub, 1) := by decide +kernel
theorem dX1_addKeysOf_80 : decode cX1_addKeysOf 80 = .ok (.aload_n 0, 1) := by decide +kernel
theorem dX1_addKeysOf_81 : decode cX1_addKeysOf 81 = .ok (.getfield 25, 3) := by decide +kernel
theorem dX1_addKeysOf_84 : decode cX1_addKeysOf 84 = .ok (.invokestatic 90, 3) := by decide +kernel
theorem dX1_addKeysOf_87 : decode cX1_addKeysOf 87 = .ok (.isub, 1) := by decide +kernel
theorem dX1_addKeysOf_88 : decode cX1_addKeysOf 88 = .ok (.invokevirtual 80, 3) := by decide +kernel
theorem dX1_addKeysOf_91 : decode cX1_addKeysOf 91 = .ok (.goto 30, 3) := by decide +kernel
theorem dX1_addKeysOf_94 : decode cX1_addKeysOf 94 = .ok (.iload_n 1, 1) := by decide +kernel
theorem dX1_addKeysOf_95 : decode cX1_addKeysOf 95 = .ok (.ldc 95, 2) := by decide +kernel
theorem dX1_addKeysOf_97 : decode cX1_addKeysOf 97 = .ok (.if_icmp .lt 24, 3) := by decide +kernel
theorem dX1_addKeysOf_100 : decode cX1_addKeysOf 100 = .ok (.iload_n 1, 1) := by decide +kernel
theorem dX1_addKeysOf_101 : decode cX1_addKeysOf 101 = .ok (.ldc 96, 2) := by decide +kernel
theorem dX1_addKeysOf_103 : decode cX1_addKeysOf 103 = .ok (.if_icmp .gt 18, 3) := by decide +kernel
theorem dX1_addKeysOf_106 : decode cX1_addKeysOf 106 = .ok (.aload_n 2, 1) := by decide +kernel
theorem dX1_addKeysOf_107 : decode cX1_addKeysOf 107 = .ok (.iload_n 1, 1) := by decide +kernel
theorem dX1_addKeysOf_108 : decode cX1_addKeysOf 108 = .ok (.aload_n 0, 1) := by decide +kernel
theorem dX1_addKeysOf_109 : decode cX1_addKeysOf 109 = .ok (.getfield 25, 3) := by decide +kernel
theorem dX1_addKeysOf_112 : decode cX1_addKeysOf 112 = .ok (.invokestatic 97, 3) := by decide +kernel
theorem dX1_addKeysOf_115 : decode cX1_addKeysOf 115 = .ok (.invokevirtual 80, 3) := by decide +kernel
theorem dX1_addKeysOf_118 : decode cX1_addKeysOf 118 = .ok (.goto 3, 3) := by decide +kernel
theorem dX1_addKeysOf_121 : decode cX1_addKeysOf 121 = .ok (.return_, 1) := by decide +kernel
theorem dX1_addPathKeys_0 : decode cX1_addPathKeys 0 = .ok (.iload_n 0, 1) := by decide +kernel
theorem dX1_addPathKeys_1 : decode cX1_addPathKeys 1 = .ok (.sipush 10000, 3) := by decide +kernel
theorem dX1_addPathKeys_4 : decode cX1_addPathKeys 4 = .ok (.if_icmp .lt 9, 3) := by decide +kernel
theorem dX1_addPathKeys_7 : decode cX1_addPathKeys 7 = .ok (.iload_n 0, 1) := by decide +kernel
theorem dX1_addPathKeys_8 : decode cX1_addPathKeys 8 = .ok (.ldc 102, 2) := by decide +kernel
theorem dX1_addPathKeys_10 : decode cX1_addPathKeys 10 = .ok (.if_icmp .le 4, 3) := by decide +kernel
theorem dX1_addPathKeys_13 : decode cX1_addPathKeys 13 = .ok (.return_, 1) := by decide +kernel
theorem dX1_addPathKeys_14 : decode cX1_addPathKeys 14 = .ok (.iload_n 0, 1) := by decide +kernel
theorem dX1_addPathKeys_15 : decode cX1_addPathKeys 15 = .ok (.bipush 100, 2) := by decide +kernel
theorem dX1_addPathKeys_17 : decode cX1_addPathKeys 17 = .ok (.idiv, 1) := by decide +kernel
theorem dX1_addPathKeys_18 : decode cX1_addPathKeys 18 = .ok (.bipush 100, 2) := by decide +kernel
theorem dX1_addPathKeys_20 : decode cX1_addPathKeys 20 = .ok (.irem, 1) := by decide +kernel
theorem dX1_addPathKeys_21 : decode cX1_addPathKeys 21 = .ok (.ifCond .eq 7, 3) := by decide +kernel
theorem dX1_addPathKeys_24 : decode cX1_addPathKeys 24 = .ok (.iconst 1, 1) := by decide +kernel
theorem dX1_addPathKeys_25 : decode cX1_addPathKeys 25 = .ok (.goto 4, 3) := by decide +kernel
theorem dX1_addPathKeys_28 : decode cX1_addPathKeys 28 = .ok (.iconst 0, 1) := by decide +kernel
theorem dX1_addPathKeys_29 : decode cX1_addPathKeys 29 = .ok (.istore_n 2, 1) := by decide +kernel
theorem dX1_addPathKeys_30 : decode cX1_addPathKeys 30 = .ok (.iload_n 0, 1) := by decide +kernel
theorem dX1_addPathKeys_31 : decode cX1_addPathKeys 31 = .ok (.bipush 100, 2) := by decide +kernel
theorem dX1_addPathKeys_33 : decode cX1_addPathKeys 33 = .ok (.irem, 1) := by decide +kernel
theorem dX1_addPathKeys_34 : decode cX1_addPathKeys 34 = .ok (.ifCond .eq 7, 3) := by decide +kernel
theorem dX1_addPathKeys_37 : decode cX1_addPathKeys 37 = .ok (.iconst 1, 1) := by decide +kernel
theorem dX1_addPathKeys_38 : decode cX1_addPathKeys 38 = .ok (.goto 4, 3) := by decide +kernel
theorem dX1_addPathKeys_41 : decode cX1_addPathKeys 41 = .ok (.iconst 0, 1) := by decide +kernel
theorem dX1_addPathKeys_42 : decode cX1_addPathKeys 42 = .ok (.istore_n 3, 1) := by decide +kernel
theorem dX1_addPathKeys_43 : decode cX1_addPathKeys 43 = .ok (.iload_n 3, 1) := by decide +kernel
theorem dX1_addPathKeys_44 : decode cX1_addPathKeys 44 = .ok (.ifCond .eq 8, 3) := by decide +kernel
theorem dX1_addPathKeys_47 : decode cX1_addPathKeys 47 = .ok (.iload_n 2, 1) := by decide +kernel
theorem dX1_addPathKeys_48 : decode cX1_addPathKeys 48 = .ok (.ifCond .ne 4, 3) := by decide +kernel
theorem dX1_addPathKeys_51 : decode cX1_addPathKeys 51 = .ok (.return_, 1) := by decide +kernel
theorem dX1_addPathKeys_52 : decode cX1_addPathKeys 52 = .ok (.aload_n 1, 1) := by decide +kernel
theorem dX1_addPathKeys_53 : decode cX1_addPathKeys 53 = .ok (.iload_n 0, 1) := by decide +kernel
theorem dX1_addPathKeys_54 : decode cX1_addPathKeys 54 = .ok (.iload_n 0, 1) := by decide +kernel
theorem dX1_addPathKeys_55 : decode cX1_addPathKeys 55 = .ok (.sipush 10000, 3) := by decide +kernel
theorem dX1_addPathKeys_58 : decode cX1_addPathKeys 58 = .ok (.irem, 1) := by decide +kernel
theorem dX1_addPathKeys_59 : decode cX1_addPathKeys 59 = .ok (.isub, 1) := by decide +kernel
theorem dX1_addPathKeys_60 : decode cX1_addPathKeys 60 = .ok (.invokevirtual 80, 3) := by decide +kernel
theorem dX1_addPathKeys_63 : decode cX1_addPathKeys 63 = .ok (.iload_n 2, 1) := by decide +kernel
theorem dX1_addPathKeys_64 : decode cX1_addPathKeys 64 = .ok (.ifCond .eq 13, 3) := by decide +kernel
theorem dX1_addPathKeys_67 : decode cX1_addPathKeys 67 = .ok (.aload_n 1, 1) := by decide +kernel
theorem dX1_addPathKeys_68 : decode cX1_addPathKeys 68 = .ok (.iload_n 0, 1) := by decide +kernel
theorem dX1_addPathKeys_69 : decode cX1_addPathKeys 69 = .ok (.iload_n 0, 1) := by decide +kernel
theorem dX1_addPathKeys_70 : decode cX1_addPathKeys 70 = .ok (.bipush 100, 2) := by decide +kernel
theorem dX1_addPathKeys_72 : decode cX1_addPathKeys 72 = .ok (.irem, 1) := by decide +kernel
theorem dX1_addPathKeys_73 : decode cX1_addPathKeys 73 = .ok (.isub, 1) := by decide +kernel
theorem dX1_addPathKeys_74 : decode cX1_addPathKeys 74 = .ok (.invokevirtual 80, 3) := by decide +kernel
theorem dX1_addPathKeys_77 : decode cX1_addPathKeys 77 = .ok (.iload_n 3, 1) := by decide +kernel
theorem dX1_addPathKeys_78 : decode cX1_addPathKeys 78 = .ok (.ifCond .eq 8, 3) := by decide +kernel
theorem dX1_addPathKeys_81 : decode cX1_addPathKeys 81 = .ok (.aload_n 1, 1) := by decide +kernel
theorem dX1_addPathKeys_82 : decode cX1_addPathKeys 82 = .ok (.iload_n 0, 1) := by decide +kernel
theorem dX1_addPathKeys_83 : decode cX1_addPathKeys 83 = .ok (.invokevirtual 80, 3) := by decide +kernel
theorem dX1_addPathKeys_86 : decode cX1_addPathKeys 86 = .ok (.return_, 1) := by decide +kernel
theorem dX1_addRangeKeys_0 : decode cX1_addRangeKeys 0 = .ok (.iconst 0, 1) := by decide +kernel
theorem dX1_addRangeKeys_1 : decode cX1_addRangeKeys 1 = .ok (.istore_n 3, 1) := by decide +kernel
theorem dX1_addRangeKeys_2 : decode cX1_addRangeKeys 2 = .ok (.iload_n 3, 1) := by decide +kernel
theorem dX1_addRangeKeys_3 : decode cX1_addRangeKeys 3 = .ok (.aload_n 0, 1) := by decide +kernel
theorem dX1_addRangeKeys_4 : decode cX1_addRangeKeys 4 = .ok (.getfield 54, 3) := by decide +kernel
theorem dX1_addRangeKeys_7 : decode cX1_addRangeKeys 7 = .ok (.if_icmp .ge 34, 3) := by decide +kernel
theorem dX1_addRangeKeys_10 : decode cX1_addRangeKeys 10 = .ok (.iload_n 1, 1) := by decide +kernel
theorem dX1_addRangeKeys_11 : decode cX1_addRangeKeys 11 = .ok (.aload_n 0, 1) := by decide +kernel
theorem dX1_addRangeKeys_12 : decode cX1_addRangeKeys 12 = .ok (.getfield 9, 3) := by decide +kernel
theorem dX1_addRangeKeys_15 : decode cX1_addRangeKeys 15 = .ok (.iload_n 3, 1) := by decide +kernel
theorem dX1_addRangeKeys_16 : decode cX1_addRangeKeys 16 = .ok (.iaload, 1) := by decide +kernel
theorem dX1_addRangeKeys_17 : decode cX1_addRangeKeys 17 = .ok (.if_icmp .lt 18, 3) := by decide +kernel
theorem dX1_addRangeKeys_20 : decode cX1_addRangeKeys 20 = .ok (.iload_n 1, 1) := by decide +kernel
theorem dX1_addRangeKeys_21 : decode cX1_addRangeKeys 21 = .ok (.aload_n 0, 1) := by decide +kernel
theorem dX1_addRangeKeys_22 : decode cX1_addRangeKeys 22 = .ok (.getfield 15, 3) := by decide +kernel
theorem dX1_addRangeKeys_25 : decode cX1_addRangeKeys 25 = .ok (.iload_n 3, 1) := by decide +kernel
theorem dX1_addRangeKeys_26 : decode cX1_addRangeKeys 26 = .ok (.iaload, 1) := by decide +kernel
theorem dX1_addRangeKeys_27 : decode cX1_addRangeKeys 27 = .ok (.if_icmp .gt 8, 3) := by decide +kernel
theorem dX1_addRangeKeys_30 : decode cX1_addRangeKeys 30 = .ok (.aload_n 2, 1) := by decide +kernel
theorem dX1_addRangeKeys_31 : decode cX1_addRangeKeys 31 = .ok (.iload_n 3, 1) := by decide +kernel
theorem dX1_addRangeKeys_32 : decode cX1_addRangeKeys 32 = .ok (.invokevirtual 80, 3) := by decide +kernel
theorem dX1_addRangeKeys_35 : decode cX1_addRangeKeys 35 = .ok (.iinc 3 1, 3) := by decide +kernel
theorem dX1_addRangeKeys_38 : decode cX1_addRangeKeys 38 = .ok (.goto (-36), 3) := by decide +kernel
theorem dX1_addRangeKeys_41 : decode cX1_addRangeKeys 41 = .ok (.return_, 1) := by decide +kernel
theorem dX2_init_0 : decode cX2_init 0 = .ok (.aload_n 0, 1) := by decide +kernel
theorem dX2_init_1 : decode cX2_init 1 = .ok (.invokespecial 3, 3) := by decide +kernel
theorem dX2_init_4 : decode cX2_init 4 = .ok (.aload_n 0, 1) := by decide +kernel
theorem dX2_init_5 : decode cX2_init 5 = .ok (.aload_n 1, 1) := by decide +kernel
theorem dX2_init_6 : decode cX2_init 6 = .ok (.putfield 9, 3) := by decide +kernel
theorem dX2_init_9 : decode cX2_init 9 = .ok (.aload_n 0, 1) := by decide +kernel
theorem dX2_init_10 : decode cX2_init 10 = .ok (.new 15, 3) := by decide +kernel
theorem dX2_init_13 : decode cX2_init 13 = .ok (.dup, 1) := by decide +kernel
theorem dX2_init_14 : decode cX2_init 14 = .ok (.invokespecial 17, 3) := by decide +kernel
theorem dX2_init_17 : decode cX2_init 17 = .ok (.putfield 18, 3) := by decide +kernel
theorem dX2_init_20 : decode cX2_init 20 = .ok (.aload_n 0, 1) := by decide +kernel
theorem dX2_init_21 : decode cX2_init 21 = .ok (.sipush 1080, 3) := by decide +kernel
theorem dX2_init_24 : decode cX2_init 24 = .ok (.newarray .long, 2) := by decide +kernel
theorem dX2_init_26 : decode cX2_init 26 = .ok (.putfield 22, 3) := by decide +kernel
theorem dX2_init_29 : decode cX2_init 29 = .ok (.aload_n 0, 1) := by decide +kernel
theorem dX2_init_30 : decode cX2_init 30 = .ok (.sipush 1080, 3) := by decide +kernel
theorem dX2_init_33 : decode cX2_init 33 = .ok (.newarray .int, 2) := by decide +kernel
theorem dX2_init_35 : decode cX2_init 35 = .ok (.putfield 26, 3) := by decide +kernel
theorem dX2_init_38 : decode cX2_init 38 = .ok (.aload_n 0, 1) := by decide +kernel
theorem dX2_init_39 : decode cX2_init 39 = .ok (.sipush 1080, 3) := by decide +kernel
theorem dX2_init_42 : decode cX2_init 42 = .ok (.newarray .int, 2) := by decide +kernel
theorem dX2_init_44 : decode cX2_init 44 = .ok (.putfield 30, 3) := by decide +kernel
theorem dX2_init_47 : decode cX2_init 47 = .ok (.aload_n 0, 1) := by decide +kernel
theorem dX2_init_48 : decode cX2_init 48 = .ok (.sipush 1080, 3) := by decide +kernel
theorem dX2_init_51 : decode cX2_init 51 = .ok (.newarray .int, 2) := by decide +kernel
theorem dX2_init_53 : decode cX2_init 53 = .ok (.putfield 33, 3) := by decide +kernel
theorem dX2_init_56 : decode cX2_init 56 = .ok (.aload_n 0, 1) := by decide +kernel
theorem dX2_init_57 : decode cX2_init 57 = .ok (.sipush 1080, 3) := by decide +kernel
theorem dX2_init_60 : decode cX2_init 60 = .ok (.newarray .long, 2) := by decide +kernel
theorem dX2_init_62 : decode cX2_init 62 = .ok (.putfield 36, 3) := by decide +kernel
theorem dX2_init_65 : decode cX2_init 65 = .ok (.aload_n 0, 1) := by decide +kernel
theorem dX2_init_66 : decode cX2_init 66 = .ok (.iconst 0, 1) := by decide +kernel
theorem dX2_init_67 : decode cX2_init 67 = .ok (.putfield 39, 3) := by decide +kernel
theorem dX2_init_70 : decode cX2_init 70 = .ok (.aload_n 0, 1) := by decide +kernel
theorem dX2_init_71 : decode cX2_init 71 = .ok (.iconst 0, 1) := by decide +kernel
theorem dX2_init_72 : decode cX2_init 72 = .ok (.putfield 43, 3) := by decide +kernel
theorem dX2_init_75 : decode cX2_init 75 = .ok (.return_, 1) := by decide +kernel
theorem dX2_gather_0 : decode cX2_gather 0 = .ok (.aload_n 0, 1) := by decide +kernel
theorem dX2_gather_1 : decode cX2_gather 1 = .ok (.iconst 0, 1) := by decide +kernel
theorem dX2_gather_2 : decode cX2_gather 2 = .ok (.putfield 43, 3) := by decide +kernel
theorem dX2_gather_5 : decode cX2_gather 5 = .ok (.iconst 0, 1) := by decide +kernel
theorem dX2_gather_6 : decode cX2_gather 6 = .ok (.istore 4, 2) := by decide +kernel
theorem dX2_gather_8 : decode cX2_gather 8 = .ok (.iload 4, 2) := by decide +kernel
theorem dX2_gather_10 : decode cX2_gather 10 = .ok (.aload_n 2, 1) := by decide +kernel
theorem dX2_gather_11 : decode cX2_gather 11 = .ok (.getfield 46, 3) := by decide +kernel
theorem dX2_gather_14 : decode cX2_gather 14 = .ok (.if_icmp .ge 101, 3) := by decide +kernel
theorem dX2_gather_17 : decode cX2_gather 17 = .ok (.aload_n 3, 1) := by decide +kernel
theorem dX2_gather_18 : decode cX2_gather 18 = .ok (.iload 4, 2) := by decide +kernel
theorem dX2_gather_20 : decode cX2_gather 20 = .ok (.invokevirtual 49, 3) := by decide +kernel
theorem dX2_gather_23 : decode cX2_gather 23 = .ok (.ifCond .eq 86, 3) := by decide +kernel
theorem dX2_gather_26 : decode cX2_gather 26 = .ok (.aload_n 1, 1) := by decide +kernel
theorem dX2_gather_27 : decode cX2_gather 27 = .ok (.aload_n 2, 1) := by decide +kernel
theorem dX2_gather_28 : decode cX2_gather 28 = .ok (.iload 4, 2) := by decide +kernel
theorem dX2_gather_30 : decode cX2_gather 30 = .ok (.invokevirtual 55, 3) := by decide +kernel
theorem dX2_gather_33 : decode cX2_gather 33 = .ok (.ifCond .eq 76, 3) := by decide +kernel
theorem dX2_gather_36 : decode cX2_gather 36 = .ok (.aload_n 1, 1) := by decide +kernel
theorem dX2_gather_37 : decode cX2_gather 37 = .ok (.aload_n 2, 1) := by decide +kernel
theorem dX2_gather_38 : decode cX2_gather 38 = .ok (.iload 4, 2) := by decide +kernel
theorem dX2_gather_40 : decode cX2_gather 40 = .ok (.aload_n 0, 1) := by decide +kernel
theorem dX2_gather_41 : decode cX2_gather 41 = .ok (.getfield 18, 3) := by decide +kernel
theorem dX2_gather_44 : decode cX2_gather 44 = .ok (.invokevirtual 61, 3) := by decide +kernel
theorem dX2_gather_47 : decode cX2_gather 47 = .ok (.iconst 0, 1) := by decide +kernel
theorem dX2_gather_48 : decode cX2_gather 48 = .ok (.istore 5, 2) := by decide +kernel
theorem dX2_gather_50 : decode cX2_gather 50 = .ok (.iload 5, 2) := by decide +kernel
theorem dX2_gather_52 : decode cX2_gather 52 = .ok (.aload_n 0, 1) := by decide +kernel
theorem dX2_gather_53 : decode cX2_gather 53 = .ok (.getfield 18, 3) := by decide +kernel
theorem dX2_gather_56 : decode cX2_gather 56 = .ok (.getfield 65, 3) := by decide +kernel
theorem dX2_gather_59 : decode cX2_gather 59 = .ok (.if_icmp .ge 25, 3) := by decide +kernel
theorem dX2_gather_62 : decode cX2_gather 62 = .ok (.aload_n 0, 1) := by decide +kernel
theorem dX2_gather_63 : decode cX2_gather 63 = .ok (.aload_n 0, 1) := by decide +kernel
theorem dX2_gather_64 : decode cX2_gather 64 = .ok (.getfield 18, 3) := by decide +kernel
theorem dX2_gather_67 : decode cX2_gather 67 = .ok (.getfield 66, 3) := by decide +kernel
theorem dX2_gather_70 : decode cX2_gather 70 = .ok (.iload 5, 2) := by decide +kernel
theorem dX2_gather_72 : decode cX2_gather 72 = .ok (.iaload, 1) := by decide +kernel
theorem dX2_gather_73 : decode cX2_gather 73 = .ok (.iload 4, 2) := by decide +kernel
theorem dX2_gather_75 : decode cX2_gather 75 = .ok (.invokevirtual 67, 3) := by decide +kernel
theorem dX2_gather_78 : decode cX2_gather 78 = .ok (.iinc 5 1, 3) := by decide +kernel
theorem dX2_gather_81 : decode cX2_gather 81 = .ok (.goto (-31), 3) := by decide +kernel
theorem dX2_gather_84 : decode cX2_gather 84 = .ok (.aload_n 0, 1) := by decide +kernel
theorem dX2_gather_85 : decode cX2_gather 85 = .ok (.getfield 18, 3) := by decide +kernel
theorem dX2_gather_88 : decode cX2_gather 88 = .ok (.getfield 65, 3) := by decide +kernel
theorem dX2_gather_91 : decode cX2_gather 91 = .ok (.ifCond .ne 18, 3) := by decide +kernel
theorem dX2_gather_94 : decode cX2_gather 94 = .ok (.aload_n 1, 1) := by decide +kernel
theorem dX2_gather_95 : decode cX2_gather 95 = .ok (.getfield 71, 3) := by decide +kernel
theorem dX2_gather_98 : decode cX2_gather 98 = .ok (.ifCond .eq 11, 3) := by decide +kernel
theorem dX2_gather_101 : decode cX2_gather 101 = .ok (.aload_n 0, 1) := by decide +kernel
theorem dX2_gather_102 : decode cX2_gather 102 = .ok (.ldc 75, 2) := by decide +kernel
theorem dX2_gather_104 : decode cX2_gather 104 = .ok (.iload 4, 2) := by decide +kernel
theorem dX2_gather_106 : decode cX2_gather 106 = .ok (.invokevirtual 67, 3) := by decide +kernel
theorem dX2_gather_109 : decode cX2_gather 109 = .ok (.iinc 4 1, 3) := by decide +kernel
theorem dX2_gather_112 : decode cX2_gather 112 = .ok (.goto (-104), 3) := by decide +kernel
theorem dX2_gather_115 : decode cX2_gather 115 = .ok (.aload_n 0, 1) := by decide +kernel
theorem dX2_gather_116 : decode cX2_gather 116 = .ok (.getfield 9, 3) := by decide +kernel
theorem dX2_gather_119 : decode cX2_gather 119 = .ok (.aload_n 0, 1) := by decide +kernel
theorem dX2_gather_120 : decode cX2_gather 120 = .ok (.getfield 22, 3) := by decide +kernel
theorem dX2_gather_123 : decode cX2_gather 123 = .ok (.aload_n 0, 1) := by decide +kernel
theorem dX2_gather_124 : decode cX2_gather 124 = .ok (.getfield 43, 3) := by decide +kernel
theorem dX2_gather_127 : decode cX2_gather 127 = .ok (.invokevirtual 76, 3) := by decide +kernel
theorem dX2_gather_130 : decode cX2_gather 130 = .ok (.return_, 1) := by decide +kernel
theorem dX2_addPair_0 : decode cX2_addPair 0 = .ok (.aload_n 0, 1) := by decide +kernel
theorem dX2_addPair_1 : decode cX2_addPair 1 = .ok (.getfield 43, 3) := by decide +kernel
theorem dX2_addPair_4 : decode cX2_addPair 4 = .ok (.sipush 1080, 3) := by decide +kernel
theorem dX2_addPair_7 : decode cX2_addPair 7 = .ok (.if_icmp .ge 30, 3) := by decide +kernel
theorem dX2_addPair_10 : decode cX2_addPair 10 = .ok (.aload_n 0, 1) := by decide +kernel
theorem dX2_addPair_11 : decode cX2_addPair 11 = .ok (.getfield 22, 3) := by decide +kernel
theorem dX2_addPair_14 : decode cX2_addPair 14 = .ok (.aload_n 0, 1) := by decide +kernel
theorem dX2_addPair_15 : decode cX2_addPair 15 = .ok (.getfield 43, 3) := by decide +kernel
theorem dX2_addPair_18 : decode cX2_addPair 18 = .ok (.iload_n 1, 1) := by decide +kernel
theorem dX2_addPair_19 : decode cX2_addPair 19 = .ok (.i2l, 1) := by decide +kernel
theorem dX2_addPair_20 : decode cX2_addPair 20 = .ok (.bipush 7, 2) := by decide +kernel
theorem dX2_addPair_22 : decode cX2_addPair 22 = .ok (.lshl, 1) := by decide +kernel
theorem dX2_addPair_23 : decode cX2_addPair 23 = .ok (.iload_n 2, 1) := by decide +kernel
theorem dX2_addPair_24 : decode cX2_addPair 24 = .ok (.i2l, 1) := by decide +kernel
theorem dX2_addPair_25 : decode cX2_addPair 25 = .ok (.ladd, 1) := by decide +kernel
theorem dX2_addPair_26 : decode cX2_addPair 26 = .ok (.lastore, 1) := by decide +kernel
theorem dX2_addPair_27 : decode cX2_addPair 27 = .ok (.aload_n 0, 1) := by decide +kernel
theorem dX2_addPair_28 : decode cX2_addPair 28 = .ok (.dup, 1) := by decide +kernel
theorem dX2_addPair_29 : decode cX2_addPair 29 = .ok (.getfield 43, 3) := by decide +kernel
theorem dX2_addPair_32 : decode cX2_addPair 32 = .ok (.iconst 1, 1) := by decide +kernel
theorem dX2_addPair_33 : decode cX2_addPair 33 = .ok (.iadd, 1) := by decide +kernel
theorem dX2_addPair_34 : decode cX2_addPair 34 = .ok (.putfield 43, 3) := by decide +kernel
theorem dX2_addPair_37 : decode cX2_addPair 37 = .ok (.return_, 1) := by decide +kernel
theorem dX2_cut_0 : decode cX2_cut 0 = .ok (.aload_n 0, 1) := by decide +kernel
theorem dX2_cut_1 : decode cX2_cut 1 = .ok (.iconst 0, 1) := by decide +kernel
theorem dX2_cut_2 : decode cX2_cut 2 = .ok (.putfield 39, 3) := by decide +kernel
theorem dX2_cut_5 : decode cX2_cut 5 = .ok (.iconst 0, 1) := by decide +kernel
theorem dX2_cut_6 : decode cX2_cut 6 = .ok (.istore_n 2, 1) := by decide +kernel
theorem dX2_cut_7 : decode cX2_cut 7 = .ok (.iconst 0, 1) := by decide +kernel
theorem dX2_cut_8 : decode cX2_cut 8 = .ok (.istore_n 3, 1) := by decide +kernel
theorem dX2_cut_9 : decode cX2_cut 9 = .ok (.iload_n 3, 1) := by decide +kernel
theorem dX2_cut_10 : decode cX2_cut 10 = .ok (.aload_n 1, 1) := by decide +kernel
theorem dX2_cut_11 : decode cX2_cut 11 = .ok (.getfield 82, 3) := by decide +kernel
theorem dX2_cut_14 : decode cX2_cut 14 = .ok (.if_icmp .ge 17, 3) := by decide +kernel
theorem dX2_cut_17 : decode cX2_cut 17 = .ok (.aload_n 0, 1) := by decide +kernel
theorem dX2_cut_18 : decode cX2_cut 18 = .ok (.aload_n 1, 1) := by decide +kernel
theorem dX2_cut_19 : decode cX2_cut 19 = .ok (.iload_n 3, 1) := by decide +kernel
theorem dX2_cut_20 : decode cX2_cut 20 = .ok (.iload_n 2, 1) := by decide +kernel
theorem dX2_cut_21 : decode cX2_cut 21 = .ok (.invokevirtual 85, 3) := by decide +kernel
theorem dX2_cut_24 : decode cX2_cut 24 = .ok (.istore_n 2, 1) := by decide +kernel
theorem dX2_cut_25 : decode cX2_cut 25 = .ok (.iinc 3 1, 3) := by decide +kernel
theorem dX2_cut_28 : decode cX2_cut 28 = .ok (.goto (-19), 3) := by decide +kernel
theorem dX2_cut_31 : decode cX2_cut 31 = .ok (.iload_n 2, 1) := by decide +kernel
theorem dX2_cut_32 : decode cX2_cut 32 = .ok (.istore_n 3, 1) := by decide +kernel
theorem dX2_cut_33 : decode cX2_cut 33 = .ok (.iload_n 3, 1) := by decide +kernel
theorem dX2_cut_34 : decode cX2_cut 34 = .ok (.aload_n 0, 1) := by decide +kernel
theorem dX2_cut_35 : decode cX2_cut 35 = .ok (.getfield 43, 3) := by decide +kernel
theorem dX2_cut_38 : decode cX2_cut 38 = .ok (.if_icmp .ge 26, 3) := by decide +kernel
theorem dX2_cut_41 : decode cX2_cut 41 = .ok (.iload_n 3, 1) := by decide +kernel
theorem dX2_cut_42 : decode cX2_cut 42 = .ok (.iload_n 2, 1) := by decide +kernel
theorem dX2_cut_43 : decode cX2_cut 43 = .ok (.if_icmp .ne 15, 3) := by decide +kernel
theorem dX2_cut_46 : decode cX2_cut 46 = .ok (.aload_n 0, 1) := by decide +kernel
theorem dX2_cut_47 : decode cX2_cut 47 = .ok (.aload_n 1, 1) := by decide +kernel
theorem dX2_cut_48 : decode cX2_cut 48 = .ok (.aload_n 0, 1) := by decide +kernel
theorem dX2_cut_49 : decode cX2_cut 49 = .ok (.iload_n 3, 1) := by decide +kernel
theorem dX2_cut_50 : decode cX2_cut 50 = .ok (.invokevirtual 89, 3) := by decide +kernel
theorem dX2_cut_53 : decode cX2_cut 53 = .ok (.iload_n 2, 1) := by decide +kernel
theorem dX2_cut_54 : decode cX2_cut 54 = .ok (.invokevirtual 85, 3) := by decide +kernel
theorem dX2_cut_57 : decode cX2_cut 57 = .ok (.istore_n 2, 1) := by decide +kernel
theorem dX2_cut_58 : decode cX2_cut 58 = .ok (.iinc 3 1, 3) := by decide +kernel
theorem dX2_cut_61 : decode cX2_cut 61 = .ok (.goto (-28), 3) := by decide +kernel
theorem dX2_cut_64 : decode cX2_cut 64 = .ok (.return_, 1) := by decide +kernel
theorem dX2_cutRun_0 : decode cX2_cutRun 0 = .ok (.iload_n 3, 1) := by decide +kernel
theorem dX2_cutRun_1 : decode cX2_cutRun 1 = .ok (.istore 4, 2) := by decide +kernel
theorem dX2_cutRun_3 : decode cX2_cutRun 3 = .ok (.iload 4, 2) := by decide +kernel
theorem dX2_cutRun_5 : decode cX2_cutRun 5 = .ok (.aload_n 0, 1) := by decide +kernel
theorem dX2_cutRun_6 : decode cX2_cutRun 6 = .ok (.getfield 43, 3) := by decide +kernel
theorem dX2_cutRun_9 : decode cX2_cutRun 9 = .ok (.if_icmp .ge 19, 3) := by decide +kernel
theorem dX2_cutRun_12 : decode cX2_cutRun 12 = .ok (.aload_n 0, 1) := by decide +kernel
theorem dX2_cutRun_13 : decode cX2_cutRun 13 = .ok (.iload 4, 2) := by decide +kernel
theorem dX2_cutRun_15 : decode cX2_cutRun 15 = .ok (.invokevirtual 89, 3) := by decide +kernel
theorem dX2_cutRun_18 : decode cX2_cutRun 18 = .ok (.iload_n 2, 1) := by decide +kernel
theorem dX2_cutRun_19 : decode cX2_cutRun 19 = .ok (.if_icmp .ne 9, 3) := by decide +kernel
theorem dX2_cutRun_22 : decode cX2_cutRun 22 = .ok (.iinc 4 1, 3) := by decide +kernel
theorem dX2_cutRun_25 : decode cX2_cutRun 25 = .ok (.goto (-22), 3) := by decide +kernel
theorem dX2_cutRun_28 : decode cX2_cutRun 28 = .ok (.iload 4, 2) := by decide +kernel
theorem dX2_cutRun_30 : decode cX2_cutRun 30 = .ok (.iload_n 3, 1) := by decide +kernel
theorem dX2_cutRun_31 : decode cX2_cutRun 31 = .ok (.isub, 1) := by decide +kernel
theorem dX2_cutRun_32 : decode cX2_cutRun 32 = .ok (.aload_n 1, 1) := by decide +kernel
theorem dX2_cutRun_33 : decode cX2_cutRun 33 = .ok (.getfield 93, 3) := by decide +kernel
theorem dX2_cutRun_36 : decode cX2_cutRun 36 = .ok (.if_icmp .lt 54, 3) := by decide +kernel
theorem dX2_cutRun_39 : decode cX2_cutRun 39 = .ok (.aload_n 0, 1) := by decide +kernel
theorem dX2_cutRun_40 : decode cX2_cutRun 40 = .ok (.getfield 39, 3) := by decide +kernel
theorem dX2_cutRun_43 : decode cX2_cutRun 43 = .ok (.sipush 1080, 3) := by decide +kernel
theorem dX2_cutRun_46 : decode cX2_cutRun 46 = .ok (.if_icmp .ge 44, 3) := by decide +kernel
theorem dX2_cutRun_49 : decode cX2_cutRun 49 = .ok (.aload_n 0, 1) := by decide +kernel
theorem dX2_cutRun_50 : decode cX2_cutRun 50 = .ok (.getfield 26, 3) := by decide +kernel
theorem dX2_cutRun_53 : decode cX2_cutRun 53 = .ok (.aload_n 0, 1) := by decide +kernel
theorem dX2_cutRun_54 : decode cX2_cutRun 54 = .ok (.getfield 39, 3) := by decide +kernel
theorem dX2_cutRun_57 : decode cX2_cutRun 57 = .ok (.iload_n 2, 1) := by decide +kernel
theorem dX2_cutRun_58 : decode cX2_cutRun 58 = .ok (.iastore, 1) := by decide +kernel
theorem dX2_cutRun_59 : decode cX2_cutRun 59 = .ok (.aload_n 0, 1) := by decide +kernel
theorem dX2_cutRun_60 : decode cX2_cutRun 60 = .ok (.getfield 30, 3) := by decide +kernel
theorem dX2_cutRun_63 : decode cX2_cutRun 63 = .ok (.aload_n 0, 1) := by decide +kernel
theorem dX2_cutRun_64 : decode cX2_cutRun 64 = .ok (.getfield 39, 3) := by decide +kernel
theorem dX2_cutRun_67 : decode cX2_cutRun 67 = .ok (.iload_n 3, 1) := by decide +kernel
theorem dX2_cutRun_68 : decode cX2_cutRun 68 = .ok (.iastore, 1) := by decide +kernel
theorem dX2_cutRun_69 : decode cX2_cutRun 69 = .ok (.aload_n 0, 1) := by decide +kernel
theorem dX2_cutRun_70 : decode cX2_cutRun 70 = .ok (.getfield 33, 3) := by decide +kernel
theorem dX2_cutRun_73 : decode cX2_cutRun 73 = .ok (.aload_n 0, 1) := by decide +kernel
theorem dX2_cutRun_74 : decode cX2_cutRun 74 = .ok (.getfield 39, 3) := by decide +kernel
theorem dX2_cutRun_77 : decode cX2_cutRun 77 = .ok (.iload 4, 2) := by decide +kernel
theorem dX2_cutRun_79 : decode cX2_cutRun 79 = .ok (.iastore, 1) := by decide +kernel
theorem dX2_cutRun_80 : decode cX2_cutRun 80 = .ok (.aload_n 0, 1) := by decide +kernel
theorem dX2_cutRun_81 : decode cX2_cutRun 81 = .ok (.dup, 1) := by decide +kernel
theorem dX2_cutRun_82 : decode cX2_cutRun 82 = .ok (.getfield 39, 3) := by decide +kernel
theorem dX2_cutRun_85 : decode cX2_cutRun 85 = .ok (.iconst 1, 1) := by decide +kernel
theorem dX2_cutRun_86 : decode cX2_cutRun 86 = .ok (.iadd, 1) := by decide +kernel
theorem dX2_cutRun_87 : decode cX2_cutRun 87 = .ok (.putfield 39, 3) := by decide +kernel
theorem dX2_cutRun_90 : decode cX2_cutRun 90 = .ok (.iload 4, 2) := by decide +kernel
theorem dX2_cutRun_92 : decode cX2_cutRun 92 = .ok (.ireturn, 1) := by decide +kernel
theorem dX2_rank_0 : decode cX2_rank 0 = .ok (.iconst 0, 1) := by decide +kernel
theorem dX2_rank_1 : decode cX2_rank 1 = .ok (.istore_n 3, 1) := by decide +kernel
theorem dX2_rank_2 : decode cX2_rank 2 = .ok (.iload_n 3, 1) := by decide +kernel
theorem dX2_rank_3 : decode cX2_rank 3 = .ok (.aload_n 0, 1) := by decide +kernel
theorem dX2_rank_4 : decode cX2_rank 4 = .ok (.getfield 39, 3) := by decide +kernel
theorem dX2_rank_7 : decode cX2_rank 7 = .ok (.if_icmp .ge 28, 3) := by decide +kernel
theorem dX2_rank_10 : decode cX2_rank 10 = .ok (.aload_n 0, 1) := by decide +kernel
theorem dX2_rank_11 : decode cX2_rank 11 = .ok (.getfield 36, 3) := by decide +kernel
theorem dX2_rank_14 : decode cX2_rank 14 = .ok (.iload_n 3, 1) := by decide +kernel
theorem dX2_rank_15 : decode cX2_rank 15 = .ok (.iload_n 3, 1) := by decide +kernel
theorem dX2_rank_16 : decode cX2_rank 16 = .ok (.i2l, 1) := by decide +kernel
theorem dX2_rank_17 : decode cX2_rank 17 = .ok (.aload_n 0, 1) := by decide +kernel
theorem dX2_rank_18 : decode cX2_rank 18 = .ok (.aload_n 1, 1) := by decide +kernel
theorem dX2_rank_19 : decode cX2_rank 19 = .ok (.aload_n 2, 1) := by decide +kernel
theorem dX2_rank_20 : decode cX2_rank 20 = .ok (.iload_n 3, 1) := by decide +kernel
theorem dX2_rank_21 : decode cX2_rank 21 = .ok (.invokevirtual 96, 3) := by decide +kernel
theorem dX2_rank_24 : decode cX2_rank 24 = .ok (.bipush 11, 2) := by decide +kernel
theorem dX2_rank_26 : decode cX2_rank 26 = .ok (.lshl, 1) := by decide +kernel
theorem dX2_rank_27 : decode cX2_rank 27 = .ok (.lsub, 1) := by decide +kernel
theorem dX2_rank_28 : decode cX2_rank 28 = .ok (.lastore, 1) := by decide +kernel
theorem dX2_rank_29 : decode cX2_rank 29 = .ok (.iinc 3 1, 3) := by decide +kernel
theorem dX2_rank_32 : decode cX2_rank 32 = .ok (.goto (-30), 3) := by decide +kernel
theorem dX2_rank_35 : decode cX2_rank 35 = .ok (.aload_n 0, 1) := by decide +kernel
theorem dX2_rank_36 : decode cX2_rank 36 = .ok (.getfield 39, 3) := by decide +kernel
theorem dX2_rank_39 : decode cX2_rank 39 = .ok (.ifCond .le 23, 3) := by decide +kernel
theorem dX2_rank_42 : decode cX2_rank 42 = .ok (.aload_n 0, 1) := by decide +kernel
theorem dX2_rank_43 : decode cX2_rank 43 = .ok (.getfield 26, 3) := by decide +kernel
theorem dX2_rank_46 : decode cX2_rank 46 = .ok (.aload_n 0, 1) := by decide +kernel
theorem dX2_rank_47 : decode cX2_rank 47 = .ok (.getfield 39, 3) := by decide +kernel
theorem dX2_rank_50 : decode cX2_rank 50 = .ok (.iconst 1, 1) := by decide +kernel
theorem dX2_rank_51 : decode cX2_rank 51 = .ok (.isub, 1) := by decide +kernel
theorem dX2_rank_52 : decode cX2_rank 52 = .ok (.iaload, 1) := by decide +kernel
theorem dX2_rank_53 : decode cX2_rank 53 = .ok (.ldc 75, 2) := by decide +kernel
theorem dX2_rank_55 : decode cX2_rank 55 = .ok (.if_icmp .ne 7, 3) := by decide +kernel
theorem dX2_rank_58 : decode cX2_rank 58 = .ok (.iconst 1, 1) := by decide +kernel
theorem dX2_rank_59 : decode cX2_rank 59 = .ok (.goto 4, 3) := by decide +kernel
theorem dX2_rank_62 : decode cX2_rank 62 = .ok (.iconst 0, 1) := by decide +kernel
theorem dX2_rank_63 : decode cX2_rank 63 = .ok (.istore_n 3, 1) := by decide +kernel
theorem dX2_rank_64 : decode cX2_rank 64 = .ok (.aload_n 0, 1) := by decide +kernel
theorem dX2_rank_65 : decode cX2_rank 65 = .ok (.getfield 9, 3) := by decide +kernel
theorem dX2_rank_68 : decode cX2_rank 68 = .ok (.aload_n 0, 1) := by decide +kernel
theorem dX2_rank_69 : decode cX2_rank 69 = .ok (.getfield 36, 3) := by decide +kernel
theorem dX2_rank_72 : decode cX2_rank 72 = .ok (.iload_n 3, 1) := by decide +kernel
theorem dX2_rank_73 : decode cX2_rank 73 = .ok (.ifCond .eq 12, 3) := by decide +kernel
theorem dX2_rank_76 : decode cX2_rank 76 = .ok (.aload_n 0, 1) := by decide +kernel
theorem dX2_rank_77 : decode cX2_rank 77 = .ok (.getfield 39, 3) := by decide +kernel
theorem dX2_rank_80 : decode cX2_rank 80 = .ok (.iconst 1, 1) := by decide +kernel
theorem dX2_rank_81 : decode cX2_rank 81 = .ok (.isub, 1) := by decide +kernel
theorem dX2_rank_82 : decode cX2_rank 82 = .ok (.goto 7, 3) := by decide +kernel
theorem dX2_rank_85 : decode cX2_rank 85 = .ok (.aload_n 0, 1) := by decide +kernel
theorem dX2_rank_86 : decode cX2_rank 86 = .ok (.getfield 39, 3) := by decide +kernel
theorem dX2_rank_89 : decode cX2_rank 89 = .ok (.invokevirtual 76, 3) := by decide +kernel
theorem dX2_rank_92 : decode cX2_rank 92 = .ok (.return_, 1) := by decide +kernel
theorem dX2_weight_0 : decode cX2_weight 0 = .ok (.aload_n 1, 1) := by decide +kernel
theorem dX2_weight_1 : decode cX2_weight 1 = .ok (.getfield 100, 3) := by decide +kernel
theorem dX2_weight_4 : decode cX2_weight 4 = .ok (.ifCond .ne 18, 3) := by decide +kernel
theorem dX2_weight_7 : decode cX2_weight 7 = .ok (.aload_n 0, 1) := by decide +kernel
theorem dX2_weight_8 : decode cX2_weight 8 = .ok (.getfield 33, 3) := by decide +kernel
theorem dX2_weight_11 : decode cX2_weight 11 = .ok (.iload_n 3, 1) := by decide +kernel
theorem dX2_weight_12 : decode cX2_weight 12 = .ok (.iaload, 1) := by decide +kernel
theorem dX2_weight_13 : decode cX2_weight 13 = .ok (.aload_n 0, 1) := by decide +kernel
theorem dX2_weight_14 : decode cX2_weight 14 = .ok (.getfield 30, 3) := by decide +kernel
theorem dX2_weight_17 : decode cX2_weight 17 = .ok (.iload_n 3, 1) := by decide +kernel
theorem dX2_weight_18 : decode cX2_weight 18 = .ok (.iaload, 1) := by decide +kernel
theorem dX2_weight_19 : decode cX2_weight 19 = .ok (.isub, 1) := by decide +kernel
theorem dX2_weight_20 : decode cX2_weight 20 = .ok (.i2l, 1) := by decide +kernel
theorem dX2_weight_21 : decode cX2_weight 21 = .ok (.lreturn, 1) := by decide +kernel
theorem dX2_weight_22 : decode cX2_weight 22 = .ok (.lconst 0, 1) := by decide +kernel
theorem dX2_weight_23 : decode cX2_weight 23 = .ok (.lstore 4, 2) := by decide +kernel
theorem dX2_weight_25 : decode cX2_weight 25 = .ok (.aload_n 1, 1) := by decide +kernel
theorem dX2_weight_26 : decode cX2_weight 26 = .ok (.getfield 100, 3) := by decide +kernel
theorem dX2_weight_29 : decode cX2_weight 29 = .ok (.iconst 2, 1) := by decide +kernel
theorem dX2_weight_30 : decode cX2_weight 30 = .ok (.if_icmp .ne 47, 3) := by decide +kernel
theorem dX2_weight_33 : decode cX2_weight 33 = .ok (.aload_n 0, 1) := by decide +kernel
theorem dX2_weight_34 : decode cX2_weight 34 = .ok (.getfield 30, 3) := by decide +kernel
theorem dX2_weight_37 : decode cX2_weight 37 = .ok (.iload_n 3, 1) := by decide +kernel
theorem dX2_weight_38 : decode cX2_weight 38 = .ok (.iaload, 1) := by decide +kernel
theorem dX2_weight_39 : decode cX2_weight 39 = .ok (.istore 6, 2) := by decide +kernel
theorem dX2_weight_41 : decode cX2_weight 41 = .ok (.iload 6, 2) := by decide +kernel
theorem dX2_weight_43 : decode cX2_weight 43 = .ok (.aload_n 0, 1) := by decide +kernel
theorem dX2_weight_44 : decode cX2_weight 44 = .ok (.getfield 33, 3) := by decide +kernel
theorem dX2_weight_47 : decode cX2_weight 47 = .ok (.iload_n 3, 1) := by decide +kernel
theorem dX2_weight_48 : decode cX2_weight 48 = .ok (.iaload, 1) := by decide +kernel
theorem dX2_weight_49 : decode cX2_weight 49 = .ok (.if_icmp .ge 28, 3) := by decide +kernel
theorem dX2_weight_52 : decode cX2_weight 52 = .ok (.lload 4, 2) := by decide +kernel
theorem dX2_weight_54 : decode cX2_weight 54 = .ok (.aload_n 2, 1) := by decide +kernel
theorem dX2_weight_55 : decode cX2_weight 55 = .ok (.aload_n 0, 1) := by decide +kernel
theorem dX2_weight_56 : decode cX2_weight 56 = .ok (.iload 6, 2) := by decide +kernel
theorem dX2_weight_58 : decode cX2_weight 58 = .ok (.invokevirtual 103, 3) := by decide +kernel
theorem dX2_weight_61 : decode cX2_weight 61 = .ok (.aload_n 1, 1) := by decide +kernel
theorem dX2_weight_62 : decode cX2_weight 62 = .ok (.getfield 106, 3) := by decide +kernel
theorem dX2_weight_65 : decode cX2_weight 65 = .ok (.invokevirtual 109, 3) := by decide +kernel
theorem dX2_weight_68 : decode cX2_weight 68 = .ok (.ladd, 1) := by decide +kernel
theorem dX2_weight_69 : decode cX2_weight 69 = .ok (.lstore 4, 2) := by decide +kernel
theorem dX2_weight_71 : decode cX2_weight 71 = .ok (.iinc 6 1, 3) := by decide +kernel
theorem dX2_weight_74 : decode cX2_weight 74 = .ok (.goto (-33), 3) := by decide +kernel
theorem dX2_weight_77 : decode cX2_weight 77 = .ok (.lload 4, 2) := by decide +kernel
theorem dX2_weight_79 : decode cX2_weight 79 = .ok (.lreturn, 1) := by decide +kernel
theorem dX2_pairKey_0 : decode cX2_pairKey 0 = .ok (.aload_n 0, 1) := by decide +kernel
theorem dX2_pairKey_1 : decode cX2_pairKey 1 = .ok (.getfield 22, 3) := by decide +kernel
theorem dX2_pairKey_4 : decode cX2_pairKey 4 = .ok (.iload_n 1, 1) := by decide +kernel
theorem dX2_pairKey_5 : decode cX2_pairKey 5 = .ok (.laload, 1) := by decide +kernel
theorem dX2_pairKey_6 : decode cX2_pairKey 6 = .ok (.bipush 7, 2) := by decide +kernel
theorem dX2_pairKey_8 : decode cX2_pairKey 8 = .ok (.lshr, 1) := by decide +kernel
theorem dX2_pairKey_9 : decode cX2_pairKey 9 = .ok (.l2i, 1) := by decide +kernel
theorem dX2_pairKey_10 : decode cX2_pairKey 10 = .ok (.ireturn, 1) := by decide +kernel
theorem dX2_pairObject_0 : decode cX2_pairObject 0 = .ok (.aload_n 0, 1) := by decide +kernel
theorem dX2_pairObject_1 : decode cX2_pairObject 1 = .ok (.getfield 22, 3) := by decide +kernel
theorem dX2_pairObject_4 : decode cX2_pairObject 4 = .ok (.iload_n 1, 1) := by decide +kernel
theorem dX2_pairObject_5 : decode cX2_pairObject 5 = .ok (.laload, 1) := by decide +kernel
theorem dX2_pairObject_6 : decode cX2_pairObject 6 = .ok (.ldc2_w 113, 3) := by decide +kernel
theorem dX2_pairObject_9 : decode cX2_pairObject 9 = .ok (.land, 1) := by decide +kernel
theorem dX2_pairObject_10 : decode cX2_pairObject 10 = .ok (.l2i, 1) := by decide +kernel
theorem dX2_pairObject_11 : decode cX2_pairObject 11 = .ok (.ireturn, 1) := by decide +kernel
theorem dX2_groupAt_0 : decode cX2_groupAt 0 = .ok (.aload_n 0, 1) := by decide +kernel
theorem dX2_groupAt_1 : decode cX2_groupAt 1 = .ok (.getfield 36, 3) := by decide +kernel
theorem dX2_groupAt_4 : decode cX2_groupAt 4 = .ok (.iload_n 1, 1) := by decide +kernel
theorem dX2_groupAt_5 : decode cX2_groupAt 5 = .ok (.laload, 1) := by decide +kernel
theorem dX2_groupAt_6 : decode cX2_groupAt 6 = .ok (.ldc2_w 115, 3) := by decide +kernel
theorem dX2_groupAt_9 : decode cX2_groupAt 9 = .ok (.land, 1) := by decide +kernel
theorem dX2_groupAt_10 : decode cX2_groupAt 10 = .ok (.l2i, 1) := by decide +kernel
theorem dX2_groupAt_11 : decode cX2_groupAt 11 = .ok (.ireturn, 1) := by decide +kernel
theorem dX2_has_0 : decode cX2_has 0 = .ok (.iload_n 1, 1) := by decide +kernel
theorem dX2_has_1 : decode cX2_has 1 = .ok (.ifCond .lt 15, 3) := by decide +kernel
theorem dX2_has_4 : decode cX2_has 4 = .ok (.iload_n 1, 1) := by decide +kernel
theorem dX2_has_5 : decode cX2_has 5 = .ok (.aload_n 0, 1) := by decide +kernel
theorem dX2_has_6 : decode cX2_has 6 = .ok (.getfield 39, 3) := by decide +kernel
theorem dX2_has_9 : decode cX2_has 9 = .ok (.if_icmp .ge 7, 3) := by decide +kernel
theorem dX2_has_12 : decode cX2_has 12 = .ok (.iconst 1, 1) := by decide +kernel
theorem dX2_has_13 : decode cX2_has 13 = .ok (.goto 4, 3) := by decide +kernel
theorem dX2_has_16 : decode cX2_has 16 = .ok (.iconst 0, 1) := by decide +kernel
theorem dX2_has_17 : decode cX2_has 17 = .ok (.ireturn, 1) := by decide +kernel
theorem dX2_isMissing_0 : decode cX2_isMissing 0 = .ok (.aload_n 0, 1) := by decide +kernel
theorem dX2_isMissing_1 : decode cX2_isMissing 1 = .ok (.getfield 26, 3) := by decide +kernel
theorem dX2_isMissing_4 : decode cX2_isMissing 4 = .ok (.aload_n 0, 1) := by decide +kernel
theorem dX2_isMissing_5 : decode cX2_isMissing 5 = .ok (.iload_n 1, 1) := by decide +kernel
theorem dX2_isMissing_6 : decode cX2_isMissing 6 = .ok (.invokevirtual 117, 3) := by decide +kernel
theorem dX2_isMissing_9 : decode cX2_isMissing 9 = .ok (.iaload, 1) := by decide +kernel
theorem dX2_isMissing_10 : decode cX2_isMissing 10 = .ok (.ldc 75, 2) := by decide +kernel
theorem dX2_isMissing_12 : decode cX2_isMissing 12 = .ok (.if_icmp .ne 7, 3) := by decide +kernel
theorem dX2_isMissing_15 : decode cX2_isMissing 15 = .ok (.iconst 1, 1) := by decide +kernel
theorem dX2_isMissing_16 : decode cX2_isMissing 16 = .ok (.goto 4, 3) := by decide +kernel
theorem dX2_isMissing_19 : decode cX2_isMissing 19 = .ok (.iconst 0, 1) := by decide +kernel
theorem dX2_isMissing_20 : decode cX2_isMissing 20 = .ok (.ireturn, 1) := by decide +kernel
theorem dX2_keyOf_0 : decode cX2_keyOf 0 = .ok (.aload_n 0, 1) := by decide +kernel
theorem dX2_keyOf_1 : decode cX2_keyOf 1 = .ok (.iload_n 1, 1) := by decide +kernel
theorem dX2_keyOf_2 : decode cX2_keyOf 2 = .ok (.invokevirtual 120, 3) := by decide +kernel
theorem dX2_keyOf_5 : decode cX2_keyOf 5 = .ok (.ifCond .eq 8, 3) := by decide +kernel
theorem dX2_keyOf_8 : decode cX2_keyOf 8 = .ok (.ldc 123, 2) := by decide +kernel
theorem dX2_keyOf_10 : decode cX2_keyOf 10 = .ok (.goto 13, 3) := by decide +kernel
theorem dX2_keyOf_13 : decode cX2_keyOf 13 = .ok (.aload_n 0, 1) := by decide +kernel
theorem dX2_keyOf_14 : decode cX2_keyOf 14 = .ok (.getfield 26, 3) := by decide +kernel
theorem dX2_keyOf_17 : decode cX2_keyOf 17 = .ok (.aload_n 0, 1) := by decide +kernel
theorem dX2_keyOf_18 : decode cX2_keyOf 18 = .ok (.iload_n 1, 1) := by decide +kernel
theorem dX2_keyOf_19 : decode cX2_keyOf 19 = .ok (.invokevirtual 117, 3) := by decide +kernel
theorem dX2_keyOf_22 : decode cX2_keyOf 22 = .ok (.iaload, 1) := by decide +kernel
theorem dX2_keyOf_23 : decode cX2_keyOf 23 = .ok (.ireturn, 1) := by decide +kernel
theorem dX2_sizeOf_0 : decode cX2_sizeOf 0 = .ok (.aload_n 0, 1) := by decide +kernel
theorem dX2_sizeOf_1 : decode cX2_sizeOf 1 = .ok (.iload_n 1, 1) := by decide +kernel
theorem dX2_sizeOf_2 : decode cX2_sizeOf 2 = .ok (.invokevirtual 117, 3) := by decide +kernel
theorem dX2_sizeOf_5 : decode cX2_sizeOf 5 = .ok (.istore_n 2, 1) := by decide +kernel
theorem dX2_sizeOf_6 : decode cX2_sizeOf 6 = .ok (.aload_n 0, 1) := by decide +kernel
theorem dX2_sizeOf_7 : decode cX2_sizeOf 7 = .ok (.getfield 33, 3) := by decide +kernel
theorem dX2_sizeOf_10 : decode cX2_sizeOf 10 = .ok (.iload_n 2, 1) := by decide +kernel
theorem dX2_sizeOf_11 : decode cX2_sizeOf 11 = .ok (.iaload, 1) := by decide +kernel
theorem dX2_sizeOf_12 : decode cX2_sizeOf 12 = .ok (.aload_n 0, 1) := by decide +kernel
theorem dX2_sizeOf_13 : decode cX2_sizeOf 13 = .ok (.getfield 30, 3) := by decide +kernel
theorem dX2_sizeOf_16 : decode cX2_sizeOf 16 = .ok (.iload_n 2, 1) := by decide +kernel
theorem dX2_sizeOf_17 : decode cX2_sizeOf 17 = .ok (.iaload, 1) := by decide +kernel
theorem dX2_sizeOf_18 : decode cX2_sizeOf 18 = .ok (.isub, 1) := by decide +kernel
theorem dX2_sizeOf_19 : decode cX2_sizeOf 19 = .ok (.ireturn, 1) := by decide +kernel
theorem dX2_memberOf_0 : decode cX2_memberOf 0 = .ok (.aload_n 0, 1) := by decide +kernel
theorem dX2_memberOf_1 : decode cX2_memberOf 1 = .ok (.aload_n 0, 1) := by decide +kernel
theorem dX2_memberOf_2 : decode cX2_memberOf 2 = .ok (.getfield 30, 3) := by decide +kernel
theorem dX2_memberOf_5 : decode cX2_memberOf 5 = .ok (.aload_n 0, 1) := by decide +kernel
theorem dX2_memberOf_6 : decode cX2_memberOf 6 = .ok (.iload_n 1, 1) := by decide +kernel
theorem dX2_memberOf_7 : decode cX2_memberOf 7 = .ok (.invokevirtual 117, 3) := by decide +kernel
theorem dX2_memberOf_10 : decode cX2_memberOf 10 = .ok (.iaload, 1) := by decide +kernel
theorem dX2_memberOf_11 : decode cX2_memberOf 11 = .ok (.iload_n 2, 1) := by decide +kernel
theorem dX2_memberOf_12 : decode cX2_memberOf 12 = .ok (.iadd, 1) := by decide +kernel
theorem dX2_memberOf_13 : decode cX2_memberOf 13 = .ok (.invokevirtual 103, 3) := by decide +kernel
theorem dX2_memberOf_16 : decode cX2_memberOf 16 = .ok (.ireturn, 1) := by decide +kernel
theorem dX2_holds_0 : decode cX2_holds 0 = .ok (.aload_n 0, 1) := by decide +kernel
theorem dX2_holds_1 : decode cX2_holds 1 = .ok (.iload_n 1, 1) := by decide +kernel
theorem dX2_holds_2 : decode cX2_holds 2 = .ok (.invokevirtual 124, 3) := by decide +kernel
theorem dX2_holds_5 : decode cX2_holds 5 = .ok (.istore_n 3, 1) := by decide +kernel
theorem dX2_holds_6 : decode cX2_holds 6 = .ok (.iconst 0, 1) := by decide +kernel
theorem dX2_holds_7 : decode cX2_holds 7 = .ok (.istore 4, 2) := by decide +kernel
theorem dX2_holds_9 : decode cX2_holds 9 = .ok (.iload 4, 2) := by decide +kernel
theorem dX2_holds_11 : decode cX2_holds 11 = .ok (.iload_n 3, 1) := by decide +kernel
theorem dX2_holds_12 : decode cX2_holds 12 = .ok (.if_icmp .ge 22, 3) := by decide +kernel
theorem dX2_holds_15 : decode cX2_holds 15 = .ok (.aload_n 0, 1) := by decide +kernel
theorem dX2_holds_16 : decode cX2_holds 16 = .ok (.iload_n 1, 1) := by decide +kernel
theorem dX2_holds_17 : decode cX2_holds 17 = .ok (.iload 4, 2) := by decide +kernel
theorem dX2_holds_19 : decode cX2_holds 19 = .ok (.invokevirtual 127, 3) := by decide +kernel
theorem dX2_holds_22 : decode cX2_holds 22 = .ok (.iload_n 2, 1) := by decide +kernel
theorem dX2_holds_23 : decode cX2_holds 23 = .ok (.if_icmp .ne 5, 3) := by decide +kernel
theorem dX2_holds_26 : decode cX2_holds 26 = .ok (.iconst 1, 1) := by decide +kernel
theorem dX2_holds_27 : decode cX2_holds 27 = .ok (.ireturn, 1) := by decide +kernel
theorem dX2_holds_28 : decode cX2_holds 28 = .ok (.iinc 4 1, 3) := by decide +kernel
theorem dX2_holds_31 : decode cX2_holds 31 = .ok (.goto (-22), 3) := by decide +kernel
theorem dX2_holds_34 : decode cX2_holds 34 = .ok (.iconst 0, 1) := by decide +kernel
theorem dX2_holds_35 : decode cX2_holds 35 = .ok (.ireturn, 1) := by decide +kernel
theorem dX2_numberOf_0 : decode cX2_numberOf 0 = .ok (.iconst 0, 1) := by decide +kernel
theorem dX2_numberOf_1 : decode cX2_numberOf 1 = .ok (.istore_n 2, 1) := by decide +kernel
theorem dX2_numberOf_2 : decode cX2_numberOf 2 = .ok (.iload_n 2, 1) := by decide +kernel
theorem dX2_numberOf_3 : decode cX2_numberOf 3 = .ok (.aload_n 0, 1) := by decide +kernel
theorem dX2_numberOf_4 : decode cX2_numberOf 4 = .ok (.getfield 39, 3) := by decide +kernel
theorem dX2_numberOf_7 : decode cX2_numberOf 7 = .ok (.if_icmp .ge 28, 3) := by decide +kernel
theorem dX2_numberOf_10 : decode cX2_numberOf 10 = .ok (.aload_n 0, 1) := by decide +kernel
theorem dX2_numberOf_11 : decode cX2_numberOf 11 = .ok (.iload_n 2, 1) := by decide +kernel
theorem dX2_numberOf_12 : decode cX2_numberOf 12 = .ok (.invokevirtual 120, 3) := by decide +kernel
theorem dX2_numberOf_15 : decode cX2_numberOf 15 = .ok (.ifCond .ne 14, 3) := by decide +kernel
theorem dX2_numberOf_18 : decode cX2_numberOf 18 = .ok (.aload_n 0, 1) := by decide +kernel
theorem dX2_numberOf_19 : decode cX2_numberOf 19 = .ok (.iload_n 2, 1) := by decide +kernel
theorem dX2_numberOf_20 : decode cX2_numberOf 20 = .ok (.invokevirtual 131, 3) := by decide +kernel
theorem dX2_numberOf_23 : decode cX2_numberOf 23 = .ok (.iload_n 1, 1) := by decide +kernel
theorem dX2_numberOf_24 : decode cX2_numberOf 24 = .ok (.if_icmp .ne 5, 3) := by decide +kernel
theorem dX2_numberOf_27 : decode cX2_numberOf 27 = .ok (.iload_n 2, 1) := by decide +kernel
theorem dX2_numberOf_28 : decode cX2_numberOf 28 = .ok (.ireturn, 1) := by decide +kernel
theorem dX2_numberOf_29 : decode cX2_numberOf 29 = .ok (.iinc 2 1, 3) := by decide +kernel
theorem dX2_numberOf_32 : decode cX2_numberOf 32 = .ok (.goto (-30), 3) := by decide +kernel
theorem dX2_numberOf_35 : decode cX2_numberOf 35 = .ok (.ldc 123, 2) := by decide +kernel
theorem dX2_numberOf_37 : decode cX2_numberOf 37 = .ok (.ireturn, 1) := by decide +kernel
theorem dX3_init_0 : decode cX3_init 0 = .ok (.aload_n 0, 1) := by decide +kernel
theorem dX3_init_1 : decode cX3_init 1 = .ok (.invokespecial 3, 3) := by decide +kernel
theorem dX3_init_4 : decode cX3_init 4 = .ok (.aload_n 0, 1) := by decide +kernel
theorem dX3_init_5 : decode cX3_init 5 = .ok (.aload_n 1, 1) := by decide +kernel
theorem dX3_init_6 : decode cX3_init 6 = .ok (.putfield 9, 3) := by decide +kernel
theorem dX3_init_9 : decode cX3_init 9 = .ok (.aload_n 0, 1) := by decide +kernel
theorem dX3_init_10 : decode cX3_init 10 = .ok (.iconst 0, 1) := by decide +kernel
theorem dX3_init_11 : decode cX3_init 11 = .ok (.putfield 15, 3) := by decide +kernel
theorem dX3_init_14 : decode cX3_init 14 = .ok (.aload_n 0, 1) := by decide +kernel
theorem dX3_init_15 : decode cX3_init 15 = .ok (.bipush 120, 2) := by decide +kernel
theorem dX3_init_17 : decode cX3_init 17 = .ok (.newarray .int, 2) := by decide +kernel
theorem dX3_init_19 : decode cX3_init 19 = .ok (.putfield 19, 3) := by decide +kernel
theorem dX3_init_22 : decode cX3_init 22 = .ok (.return_, 1) := by decide +kernel
theorem dX3_has_0 : decode cX3_has 0 = .ok (.aload_n 0, 1) := by decide +kernel
theorem dX3_has_1 : decode cX3_has 1 = .ok (.getfield 9, 3) := by decide +kernel
theorem dX3_has_4 : decode cX3_has 4 = .ok (.getfield 23, 3) := by decide +kernel
theorem dX3_has_7 : decode cX3_has 7 = .ok (.iload_n 1, 1) := by decide +kernel
theorem dX3_has_8 : decode cX3_has 8 = .ok (.baload, 1) := by decide +kernel
theorem dX3_has_9 : decode cX3_has 9 = .ok (.ifCond .eq 20, 3) := by decide +kernel
theorem dX3_has_12 : decode cX3_has 12 = .ok (.aload_n 0, 1) := by decide +kernel
theorem dX3_has_13 : decode cX3_has 13 = .ok (.getfield 19, 3) := by decide +kernel
theorem dX3_has_16 : decode cX3_has 16 = .ok (.iload_n 1, 1) := by decide +kernel
theorem dX3_has_17 : decode cX3_has 17 = .ok (.iaload, 1) := by decide +kernel
theorem dX3_has_18 : decode cX3_has 18 = .ok (.aload_n 0, 1) := by decide +kernel
theorem dX3_has_19 : decode cX3_has 19 = .ok (.getfield 15, 3) := by decide +kernel
theorem dX3_has_22 : decode cX3_has 22 = .ok (.if_icmp .lt 7, 3) := by decide +kernel
theorem dX3_has_25 : decode cX3_has 25 = .ok (.iconst 1, 1) := by decide +kernel
theorem dX3_has_26 : decode cX3_has 26 = .ok (.goto 4, 3) := by decide +kernel
theorem dX3_has_29 : decode cX3_has 29 = .ok (.iconst 0, 1) := by decide +kernel
theorem dX3_has_30 : decode cX3_has 30 = .ok (.ireturn, 1) := by decide +kernel
theorem dX3_startNarrowing_0 : decode cX3_startNarrowing 0 = .ok (.aload_n 0, 1) := by decide +kernel
theorem dX3_startNarrowing_1 : decode cX3_startNarrowing 1 = .ok (.dup, 1) := by decide +kernel
theorem dX3_startNarrowing_2 : decode cX3_startNarrowing 2 = .ok (.getfield 15, 3) := by decide +kernel
theorem dX3_startNarrowing_5 : decode cX3_startNarrowing 5 = .ok (.iconst 1, 1) := by decide +kernel
theorem dX3_startNarrowing_6 : decode cX3_startNarrowing 6 = .ok (.iadd, 1) := by decide +kernel
theorem dX3_startNarrowing_7 : decode cX3_startNarrowing 7 = .ok (.putfield 15, 3) := by decide +kernel
theorem dX3_startNarrowing_10 : decode cX3_startNarrowing 10 = .ok (.return_, 1) := by decide +kernel
theorem dX3_keep_0 : decode cX3_keep 0 = .ok (.aload_n 0, 1) := by decide +kernel
theorem dX3_keep_1 : decode cX3_keep 1 = .ok (.getfield 19, 3) := by decide +kernel
theorem dX3_keep_4 : decode cX3_keep 4 = .ok (.iload_n 1, 1) := by decide +kernel
theorem dX3_keep_5 : decode cX3_keep 5 = .ok (.aload_n 0, 1) := by decide +kernel
theorem dX3_keep_6 : decode cX3_keep 6 = .ok (.getfield 15, 3) := by decide +kernel
theorem dX3_keep_9 : decode cX3_keep 9 = .ok (.iastore, 1) := by decide +kernel
theorem dX3_keep_10 : decode cX3_keep 10 = .ok (.return_, 1) := by decide +kernel
theorem dX3_widen_0 : decode cX3_widen 0 = .ok (.aload_n 0, 1) := by decide +kernel
theorem dX3_widen_1 : decode cX3_widen 1 = .ok (.getfield 15, 3) := by decide +kernel
theorem dX3_widen_4 : decode cX3_widen 4 = .ok (.ifCond .le 13, 3) := by decide +kernel
theorem dX3_widen_7 : decode cX3_widen 7 = .ok (.aload_n 0, 1) := by decide +kernel
theorem dX3_widen_8 : decode cX3_widen 8 = .ok (.aload_n 0, 1) := by decide +kernel
theorem dX3_widen_9 : decode cX3_widen 9 = .ok (.getfield 15, 3) := by decide +kernel
theorem dX3_widen_12 : decode cX3_widen 12 = .ok (.iconst 1, 1) := by decide +kernel
theorem dX3_widen_13 : decode cX3_widen 13 = .ok (.isub, 1) := by decide +kernel
theorem dX3_widen_14 : decode cX3_widen 14 = .ok (.invokevirtual 29, 3) := by decide +kernel
theorem dX3_widen_17 : decode cX3_widen 17 = .ok (.return_, 1) := by decide +kernel
theorem dX3_widenWholly_0 : decode cX3_widenWholly 0 = .ok (.aload_n 0, 1) := by decide +kernel
theorem dX3_widenWholly_1 : decode cX3_widenWholly 1 = .ok (.getfield 15, 3) := by decide +kernel
theorem dX3_widenWholly_4 : decode cX3_widenWholly 4 = .ok (.ifCond .le 8, 3) := by decide +kernel
theorem dX3_widenWholly_7 : decode cX3_widenWholly 7 = .ok (.aload_n 0, 1) := by decide +kernel
theorem dX3_widenWholly_8 : decode cX3_widenWholly 8 = .ok (.iconst 0, 1) := by decide +kernel
theorem dX3_widenWholly_9 : decode cX3_widenWholly 9 = .ok (.invokevirtual 29, 3) := by decide +kernel
theorem dX3_widenWholly_12 : decode cX3_widenWholly 12 = .ok (.return_, 1) := by decide +kernel
theorem dX3_shrinkTo_0 : decode cX3_shrinkTo 0 = .ok (.aload_n 0, 1) := by decide +kernel
theorem dX3_shrinkTo_1 : decode cX3_shrinkTo 1 = .ok (.iload_n 1, 1) := by decide +kernel
theorem dX3_shrinkTo_2 : decode cX3_shrinkTo 2 = .ok (.putfield 15, 3) := by decide +kernel
theorem dX3_shrinkTo_5 : decode cX3_shrinkTo 5 = .ok (.iconst 0, 1) := by decide +kernel
theorem dX3_shrinkTo_6 : decode cX3_shrinkTo 6 = .ok (.istore_n 2, 1) := by decide +kernel
theorem dX3_shrinkTo_7 : decode cX3_shrinkTo 7 = .ok (.iload_n 2, 1) := by decide +kernel
theorem dX3_shrinkTo_8 : decode cX3_shrinkTo 8 = .ok (.bipush 120, 2) := by decide +kernel
theorem dX3_shrinkTo_10 : decode cX3_shrinkTo 10 = .ok (.if_icmp .ge 25, 3) := by decide +kernel
theorem dX3_shrinkTo_13 : decode cX3_shrinkTo 13 = .ok (.aload_n 0, 1) := by decide +kernel
theorem dX3_shrinkTo_14 : decode cX3_shrinkTo 14 = .ok (.getfield 19, 3) := by decide +kernel
theorem dX3_shrinkTo_17 : decode cX3_shrinkTo 17 = .ok (.iload_n 2, 1) := by decide +kernel
theorem dX3_shrinkTo_18 : decode cX3_shrinkTo 18 = .ok (.aload_n 0, 1) := by decide +kernel
theorem dX3_shrinkTo_19 : decode cX3_shrinkTo 19 = .ok (.getfield 19, 3) := by decide +kernel
theorem dX3_shrinkTo_22 : decode cX3_shrinkTo 22 = .ok (.iload_n 2, 1) := by decide +kernel
theorem dX3_shrinkTo_23 : decode cX3_shrinkTo 23 = .ok (.iaload, 1) := by decide +kernel
theorem dX3_shrinkTo_24 : decode cX3_shrinkTo 24 = .ok (.iload_n 1, 1) := by decide +kernel
theorem dX3_shrinkTo_25 : decode cX3_shrinkTo 25 = .ok (.invokestatic 33, 3) := by decide +kernel
theorem dX3_shrinkTo_28 : decode cX3_shrinkTo 28 = .ok (.iastore, 1) := by decide +kernel
theorem dX3_shrinkTo_29 : decode cX3_shrinkTo 29 = .ok (.iinc 2 1, 3) := by decide +kernel
theorem dX3_shrinkTo_32 : decode cX3_shrinkTo 32 = .ok (.goto (-25), 3) := by decide +kernel
theorem dX3_shrinkTo_35 : decode cX3_shrinkTo 35 = .ok (.return_, 1) := by decide +kernel
theorem dX4_init_0 : decode cX4_init 0 = .ok (.aload_n 0, 1) := by decide +kernel
theorem dX4_init_1 : decode cX4_init 1 = .ok (.invokespecial 3, 3) := by decide +kernel
theorem dX4_init_4 : decode cX4_init 4 = .ok (.aload_n 0, 1) := by decide +kernel
theorem dX4_init_5 : decode cX4_init 5 = .ok (.iconst 0, 1) := by decide +kernel
theorem dX4_init_6 : decode cX4_init 6 = .ok (.putfield 9, 3) := by decide +kernel
theorem dX4_init_9 : decode cX4_init 9 = .ok (.aload_n 0, 1) := by decide +kernel
theorem dX4_init_10 : decode cX4_init 10 = .ok (.bipush 18, 2) := by decide +kernel
theorem dX4_init_12 : decode cX4_init 12 = .ok (.newarray .int, 2) := by decide +kernel
theorem dX4_init_14 : decode cX4_init 14 = .ok (.putfield 15, 3) := by decide +kernel
theorem dX4_init_17 : decode cX4_init 17 = .ok (.return_, 1) := by decide +kernel
theorem dX4_startOver_0 : decode cX4_startOver 0 = .ok (.aload_n 0, 1) := by decide +kernel
theorem dX4_startOver_1 : decode cX4_startOver 1 = .ok (.iconst 0, 1) := by decide +kernel
theorem dX4_startOver_2 : decode cX4_startOver 2 = .ok (.putfield 9, 3) := by decide +kernel
theorem dX4_startOver_5 : decode cX4_startOver 5 = .ok (.return_, 1) := by decide +kernel
theorem dX4_add_0 : decode cX4_add 0 = .ok (.iconst 0, 1) := by decide +kernel
theorem dX4_add_1 : decode cX4_add 1 = .ok (.istore_n 2, 1) := by decide +kernel
theorem dX4_add_2 : decode cX4_add 2 = .ok (.iload_n 2, 1) := by decide +kernel
theorem dX4_add_3 : decode cX4_add 3 = .ok (.aload_n 0, 1) := by decide +kernel
theorem dX4_add_4 : decode cX4_add 4 = .ok (.getfield 9, 3) := by decide +kernel
theorem dX4_add_7 : decode cX4_add 7 = .ok (.if_icmp .ge 20, 3) := by decide +kernel
theorem dX4_add_10 : decode cX4_add 10 = .ok (.aload_n 0, 1) := by decide +kernel
theorem dX4_add_11 : decode cX4_add 11 = .ok (.getfield 15, 3) := by decide +kernel
theorem dX4_add_14 : decode cX4_add 14 = .ok (.iload_n 2, 1) := by decide +kernel
theorem dX4_add_15 : decode cX4_add 15 = .ok (.iaload, 1) := by decide +kernel
theorem dX4_add_16 : decode cX4_add 16 = .ok (.iload_n 1, 1) := by decide +kernel
theorem dX4_add_17 : decode cX4_add 17 = .ok (.if_icmp .ne 4, 3) := by decide +kernel
theorem dX4_add_20 : decode cX4_add 20 = .ok (.return_, 1) := by decide +kernel
theorem dX4_add_21 : decode cX4_add 21 = .ok (.iinc 2 1, 3) := by decide +kernel
theorem dX4_add_24 : decode cX4_add 24 = .ok (.goto (-22), 3) := by decide +kernel
theorem dX4_add_27 : decode cX4_add 27 = .ok (.aload_n 0, 1) := by decide +kernel
theorem dX4_add_28 : decode cX4_add 28 = .ok (.getfield 9, 3) := by decide +kernel
theorem dX4_add_31 : decode cX4_add 31 = .ok (.bipush 18, 2) := by decide +kernel
theorem dX4_add_33 : decode cX4_add 33 = .ok (.if_icmp .ge 23, 3) := by decide +kernel
theorem dX4_add_36 : decode cX4_add 36 = .ok (.aload_n 0, 1) := by decide +kernel
theorem dX4_add_37 : decode cX4_add 37 = .ok (.getfield 15, 3) := by decide +kernel
theorem dX4_add_40 : decode cX4_add 40 = .ok (.aload_n 0, 1) := by decide +kernel
theorem dX4_add_41 : decode cX4_add 41 = .ok (.getfield 9, 3) := by decide +kernel
theorem dX4_add_44 : decode cX4_add 44 = .ok (.iload_n 1, 1) := by decide +kernel
theorem dX4_add_45 : decode cX4_add 45 = .ok (.iastore, 1) := by decide +kernel
theorem dX4_add_46 : decode cX4_add 46 = .ok (.aload_n 0, 1) := by decide +kernel
theorem dX4_add_47 : decode cX4_add 47 = .ok (.dup, 1) := by decide +kernel
theorem dX4_add_48 : decode cX4_add 48 = .ok (.getfield 9, 3) := by decide +kernel
theorem dX4_add_51 : decode cX4_add 51 = .ok (.iconst 1, 1) := by decide +kernel
theorem dX4_add_52 : decode cX4_add 52 = .ok (.iadd, 1) := by decide +kernel
theorem dX4_add_53 : decode cX4_add 53 = .ok (.putfield 9, 3) := by decide +kernel
theorem dX4_add_56 : decode cX4_add 56 = .ok (.return_, 1) := by decide +kernel
theorem dX5_init_0 : decode cX5_init 0 = .ok (.aload_n 0, 1) := by decide +kernel
theorem dX5_init_1 : decode cX5_init 1 = .ok (.invokespecial 1, 3) := by decide +kernel
theorem dX5_init_4 : decode cX5_init 4 = .ok (.aload_n 0, 1) := by decide +kernel
theorem dX5_init_5 : decode cX5_init 5 = .ok (.sipush 1080, 3) := by decide +kernel
theorem dX5_init_8 : decode cX5_init 8 = .ok (.newarray .long, 2) := by decide +kernel
theorem dX5_init_10 : decode cX5_init 10 = .ok (.putfield 9, 3) := by decide +kernel
theorem dX5_init_13 : decode cX5_init 13 = .ok (.return_, 1) := by decide +kernel
theorem dX5_sort_0 : decode cX5_sort 0 = .ok (.iload_n 2, 1) := by decide +kernel
theorem dX5_sort_1 : decode cX5_sort 1 = .ok (.aload_n 1, 1) := by decide +kernel
theorem dX5_sort_2 : decode cX5_sort 2 = .ok (.arraylength, 1) := by decide +kernel
theorem dX5_sort_3 : decode cX5_sort 3 = .ok (.aload_n 0, 1) := by decide +kernel
theorem dX5_sort_4 : decode cX5_sort 4 = .ok (.getfield 9, 3) := by decide +kernel
theorem dX5_sort_7 : decode cX5_sort 7 = .ok (.arraylength, 1) := by decide +kernel
theorem dX5_sort_8 : decode cX5_sort 8 = .ok (.invokestatic 15, 3) := by decide +kernel
theorem dX5_sort_11 : decode cX5_sort 11 = .ok (.invokestatic 15, 3) := by decide +kernel
theorem dX5_sort_14 : decode cX5_sort 14 = .ok (.istore_n 3, 1) := by decide +kernel
theorem dX5_sort_15 : decode cX5_sort 15 = .ok (.iconst 1, 1) := by decide +kernel
theorem dX5_sort_16 : decode cX5_sort 16 = .ok (.istore 4, 2) := by decide +kernel
theorem dX5_sort_18 : decode cX5_sort 18 = .ok (.iload 4, 2) := by decide +kernel
theorem dX5_sort_20 : decode cX5_sort 20 = .ok (.iload_n 3, 1) := by decide +kernel
theorem dX5_sort_21 : decode cX5_sort 21 = .ok (.if_icmp .ge 71, 3) := by decide +kernel
theorem dX5_sort_24 : decode cX5_sort 24 = .ok (.iconst 0, 1) := by decide +kernel
theorem dX5_sort_25 : decode cX5_sort 25 = .ok (.istore 5, 2) := by decide +kernel
theorem dX5_sort_27 : decode cX5_sort 27 = .ok (.iload 5, 2) := by decide +kernel
theorem dX5_sort_29 : decode cX5_sort 29 = .ok (.iload_n 3, 1) := by decide +kernel
theorem dX5_sort_30 : decode cX5_sort 30 = .ok (.if_icmp .ge 42, 3) := by decide +kernel
theorem dX5_sort_33 : decode cX5_sort 33 = .ok (.aload_n 0, 1) := by decide +kernel
theorem dX5_sort_34 : decode cX5_sort 34 = .ok (.aload_n 1, 1) := by decide +kernel
theorem dX5_sort_35 : decode cX5_sort 35 = .ok (.iload 5, 2) := by decide +kernel
theorem dX5_sort_37 : decode cX5_sort 37 = .ok (.iload 5, 2) := by decide +kernel
theorem dX5_sort_39 : decode cX5_sort 39 = .ok (.iload 4, 2) := by decide +kernel
theorem dX5_sort_41 : decode cX5_sort 41 = .ok (.iadd, 1) := by decide +kernel
theorem dX5_sort_42 : decode cX5_sort 42 = .ok (.iload_n 3, 1) := by decide +kernel
theorem dX5_sort_43 : decode cX5_sort 43 = .ok (.invokestatic 15, 3) := by decide +kernel
theorem dX5_sort_46 : decode cX5_sort 46 = .ok (.iload 5, 2) := by decide +kernel
theorem dX5_sort_48 : decode cX5_sort 48 = .ok (.iconst 2, 1) := by decide +kernel
theorem dX5_sort_49 : decode cX5_sort 49 = .ok (.iload 4, 2) := by decide +kernel
theorem dX5_sort_51 : decode cX5_sort 51 = .ok (.imul, 1) := by decide +kernel
theorem dX5_sort_52 : decode cX5_sort 52 = .ok (.iadd, 1) := by decide +kernel
theorem dX5_sort_53 : decode cX5_sort 53 = .ok (.iload_n 3, 1) := by decide +kernel
theorem dX5_sort_54 : decode cX5_sort 54 = .ok (.invokestatic 15, 3) := by decide +kernel
theorem dX5_sort_57 : decode cX5_sort 57 = .ok (.invokevirtual 21, 3) := by decide +kernel
theorem dX5_sort_60 : decode cX5_sort 60 = .ok (.iload 5, 2) := by decide +kernel
theorem dX5_sort_62 : decode cX5_sort 62 = .ok (.iconst 2, 1) := by decide +kernel
theorem dX5_sort_63 : decode cX5_sort 63 = .ok (.iload 4, 2) := by decide +kernel
theorem dX5_sort_65 : decode cX5_sort 65 = .ok (.imul, 1) := by decide +kernel
theorem dX5_sort_66 : decode cX5_sort 66 = .ok (.iadd, 1) := by decide +kernel
theorem dX5_sort_67 : decode cX5_sort 67 = .ok (.istore 5, 2) := by decide +kernel
theorem dX5_sort_69 : decode cX5_sort 69 = .ok (.goto (-42), 3) := by decide +kernel
theorem dX5_sort_72 : decode cX5_sort 72 = .ok (.aload_n 0, 1) := by decide +kernel
theorem dX5_sort_73 : decode cX5_sort 73 = .ok (.getfield 9, 3) := by decide +kernel
theorem dX5_sort_76 : decode cX5_sort 76 = .ok (.iconst 0, 1) := by decide +kernel
theorem dX5_sort_77 : decode cX5_sort 77 = .ok (.aload_n 1, 1) := by decide +kernel
theorem dX5_sort_78 : decode cX5_sort 78 = .ok (.iconst 0, 1) := by decide +kernel
theorem dX5_sort_79 : decode cX5_sort 79 = .ok (.iload_n 3, 1) := by decide +kernel
theorem dX5_sort_80 : decode cX5_sort 80 = .ok (.invokestatic 25, 3) := by decide +kernel
theorem dX5_sort_83 : decode cX5_sort 83 = .ok (.iload 4, 2) := by decide +kernel
theorem dX5_sort_85 : decode cX5_sort 85 = .ok (.iconst 2, 1) := by decide +kernel
theorem dX5_sort_86 : decode cX5_sort 86 = .ok (.imul, 1) := by decide +kernel
theorem dX5_sort_87 : decode cX5_sort 87 = .ok (.istore 4, 2) := by decide +kernel
theorem dX5_sort_89 : decode cX5_sort 89 = .ok (.goto (-71), 3) := by decide +kernel
theorem dX5_sort_92 : decode cX5_sort 92 = .ok (.return_, 1) := by decide +kernel
theorem dX5_merge_0 : decode cX5_merge 0 = .ok (.iload_n 2, 1) := by decide +kernel
theorem dX5_merge_1 : decode cX5_merge 1 = .ok (.istore 5, 2) := by decide +kernel
theorem dX5_merge_3 : decode cX5_merge 3 = .ok (.iload_n 3, 1) := by decide +kernel
theorem dX5_merge_4 : decode cX5_merge 4 = .ok (.istore 6, 2) := by decide +kernel
theorem dX5_merge_6 : decode cX5_merge 6 = .ok (.iload_n 2, 1) := by decide +kernel
theorem dX5_merge_7 : decode cX5_merge 7 = .ok (.istore 7, 2) := by decide +kernel
theorem dX5_merge_9 : decode cX5_merge 9 = .ok (.iload 7, 2) := by decide +kernel
theorem dX5_merge_11 : decode cX5_merge 11 = .ok (.iload 4, 2) := by decide +kernel
theorem dX5_merge_13 : decode cX5_merge 13 = .ok (.if_icmp .ge 65, 3) := by decide +kernel
theorem dX5_merge_16 : decode cX5_merge 16 = .ok (.iload 5, 2) := by decide +kernel
theorem dX5_merge_18 : decode cX5_merge 18 = .ok (.iload_n 3, 1) := by decide +kernel
theorem dX5_merge_19 : decode cX5_merge 19 = .ok (.if_icmp .ge 39, 3) := by decide +kernel
theorem dX5_merge_22 : decode cX5_merge 22 = .ok (.iload 6, 2) := by decide +kernel
theorem dX5_merge_24 : decode cX5_merge 24 = .ok (.iload 4, 2) := by decide +kernel
theorem dX5_merge_26 : decode cX5_merge 26 = .ok (.if_icmp .ge 15, 3) := by decide +kernel
theorem dX5_merge_29 : decode cX5_merge 29 = .ok (.aload_n 1, 1) := by decide +kernel
theorem dX5_merge_30 : decode cX5_merge 30 = .ok (.iload 5, 2) := by decide +kernel
theorem dX5_merge_32 : decode cX5_merge 32 = .ok (.laload, 1) := by decide +kernel
theorem dX5_merge_33 : decode cX5_merge 33 = .ok (.aload_n 1, 1) := by decide +kernel
theorem dX5_merge_34 : decode cX5_merge 34 = .ok (.iload 6, 2) := by decide +kernel
theorem dX5_merge_36 : decode cX5_merge 36 = .ok (.laload, 1) := by decide +kernel
theorem dX5_merge_37 : decode cX5_merge 37 = .ok (.lcmp, 1) := by decide +kernel
theorem dX5_merge_38 : decode cX5_merge 38 = .ok (.ifCond .gt 20, 3) := by decide +kernel
theorem dX5_merge_41 : decode cX5_merge 41 = .ok (.aload_n 0, 1) := by decide +kernel
theorem dX5_merge_42 : decode cX5_merge 42 = .ok (.getfield 9, 3) := by decide +kernel
theorem dX5_merge_45 : decode cX5_merge 45 = .ok (.iload 7, 2) := by decide +kernel
theorem dX5_merge_47 : decode cX5_merge 47 = .ok (.aload_n 1, 1) := by decide +kernel
theorem dX5_merge_48 : decode cX5_merge 48 = .ok (.iload 5, 2) := by decide +kernel
theorem dX5_merge_50 : decode cX5_merge 50 = .ok (.laload, 1) := by decide +kernel
theorem dX5_merge_51 : decode cX5_merge 51 = .ok (.lastore, 1) := by decide +kernel
theorem dX5_merge_52 : decode cX5_merge 52 = .ok (.iinc 5 1, 3) := by decide +kernel
theorem dX5_merge_55 : decode cX5_merge 55 = .ok (.goto 17, 3) := by decide +kernel
theorem dX5_merge_58 : decode cX5_merge 58 = .ok (.aload_n 0, 1) := by decide +kernel
theorem dX5_merge_59 : decode cX5_merge 59 = .ok (.getfield 9, 3) := by decide +kernel
theorem dX5_merge_62 : decode cX5_merge 62 = .ok (.iload 7, 2) := by decide +kernel
theorem dX5_merge_64 : decode cX5_merge 64 = .ok (.aload_n 1, 1) := by decide +kernel
theorem dX5_merge_65 : decode cX5_merge 65 = .ok (.iload 6, 2) := by decide +kernel
theorem dX5_merge_67 : decode cX5_merge 67 = .ok (.laload, 1) := by decide +kernel
theorem dX5_merge_68 : decode cX5_merge 68 = .ok (.lastore, 1) := by decide +kernel
theorem dX5_merge_69 : decode cX5_merge 69 = .ok (.iinc 6 1, 3) := by decide +kernel
theorem dX5_merge_72 : decode cX5_merge 72 = .ok (.iinc 7 1, 3) := by decide +kernel
theorem dX5_merge_75 : decode cX5_merge 75 = .ok (.goto (-66), 3) := by decide +kernel
theorem dX5_merge_78 : decode cX5_merge 78 = .ok (.return_, 1) := by decide +kernel
theorem dX6_init_0 : decode cX6_init 0 = .ok (.aload_n 0, 1) := by decide +kernel
theorem dX6_init_1 : decode cX6_init 1 = .ok (.invokespecial 3, 3) := by decide +kernel
theorem dX6_init_4 : decode cX6_init 4 = .ok (.aload_n 0, 1) := by decide +kernel
theorem dX6_init_5 : decode cX6_init 5 = .ok (.iconst 0, 1) := by decide +kernel
theorem dX6_init_6 : decode cX6_init 6 = .ok (.putfield 9, 3) := by decide +kernel
theorem dX6_init_9 : decode cX6_init 9 = .ok (.aload_n 0, 1) := by decide +kernel
theorem dX6_init_10 : decode cX6_init 10 = .ok (.bipush 120, 2) := by decide +kernel
theorem dX6_init_12 : decode cX6_init 12 = .ok (.newarray .boolean, 2) := by decide +kernel
theorem dX6_init_14 : decode cX6_init 14 = .ok (.putfield 15, 3) := by decide +kernel
theorem dX6_init_17 : decode cX6_init 17 = .ok (.aload_n 0, 1) := by decide +kernel
theorem dX6_init_18 : decode cX6_init 18 = .ok (.sipush 2160, 3) := by decide +kernel
theorem dX6_init_21 : decode cX6_init 21 = .ok (.newarray .int, 2) := by decide +kernel
theorem dX6_init_23 : decode cX6_init 23 = .ok (.putfield 19, 3) := by decide +kernel
theorem dX6_init_26 : decode cX6_init 26 = .ok (.aload_n 0, 1) := by decide +kernel
theorem dX6_init_27 : decode cX6_init 27 = .ok (.sipush 720, 3) := by decide +kernel
theorem dX6_init_30 : decode cX6_init 30 = .ok (.newarray .int, 2) := by decide +kernel
theorem dX6_init_32 : decode cX6_init 32 = .ok (.putfield 23, 3) := by decide +kernel
theorem dX6_init_35 : decode cX6_init 35 = .ok (.return_, 1) := by decide +kernel
theorem dX6_has_0 : decode cX6_has 0 = .ok (.iload_n 1, 1) := by decide +kernel
theorem dX6_has_1 : decode cX6_has 1 = .ok (.ifCond .lt 15, 3) := by decide +kernel
theorem dX6_has_4 : decode cX6_has 4 = .ok (.iload_n 1, 1) := by decide +kernel
theorem dX6_has_5 : decode cX6_has 5 = .ok (.aload_n 0, 1) := by decide +kernel
theorem dX6_has_6 : decode cX6_has 6 = .ok (.getfield 9, 3) := by decide +kernel
theorem dX6_has_9 : decode cX6_has 9 = .ok (.if_icmp .ge 7, 3) := by decide +kernel
theorem dX6_has_12 : decode cX6_has 12 = .ok (.iconst 1, 1) := by decide +kernel
theorem dX6_has_13 : decode cX6_has 13 = .ok (.goto 4, 3) := by decide +kernel
theorem dX6_has_16 : decode cX6_has 16 = .ok (.iconst 0, 1) := by decide +kernel
theorem dX6_has_17 : decode cX6_has 17 = .ok (.ireturn, 1) := by decide +kernel
theorem dX6_addObject_0 : decode cX6_addObject 0 = .ok (.aload_n 0, 1) := by decide +kernel
theorem dX6_addObject_1 : decode cX6_addObject 1 = .ok (.getfield 9, 3) := by decide +kernel
theorem dX6_addObject_4 : decode cX6_addObject 4 = .ok (.istore_n 1, 1) := by decide +kernel
theorem dX6_addObject_5 : decode cX6_addObject 5 = .ok (.aload_n 0, 1) := by decide +kernel
theorem dX6_addObject_6 : decode cX6_addObject 6 = .ok (.getfield 15, 3) := by decide +kernel
theorem dX6_addObject_9 : decode cX6_addObject 9 = .ok (.iload_n 1, 1) := by decide +kernel
theorem dX6_addObject_10 : decode cX6_addObject 10 = .ok (.iconst 0, 1) := by decide +kernel
theorem dX6_addObject_11 : decode cX6_addObject 11 = .ok (.bastore, 1) := by decide +kernel
theorem dX6_addObject_12 : decode cX6_addObject 12 = .ok (.iconst 0, 1) := by decide +kernel
theorem dX6_addObject_13 : decode cX6_addObject 13 = .ok (.istore_n 2, 1) := by decide +kernel
theorem dX6_addObject_14 : decode cX6_addObject 14 = .ok (.iload_n 2, 1) := by decide +kernel
theorem dX6_addObject_15 : decode cX6_addObject 15 = .ok (.bipush 6, 2) := by decide +kernel
theorem dX6_addObject_17 : decode cX6_addObject 17 = .ok (.if_icmp .ge 21, 3) := by decide +kernel
theorem dX6_addObject_20 : decode cX6_addObject 20 = .ok (.aload_n 0, 1) := by decide +kernel
theorem dX6_addObject_21 : decode cX6_addObject 21 = .ok (.getfield 23, 3) := by decide +kernel
theorem dX6_addObject_24 : decode cX6_addObject 24 = .ok (.iload_n 1, 1) := by decide +kernel
theorem dX6_addObject_25 : decode cX6_addObject 25 = .ok (.bipush 6, 2) := by decide +kernel
theorem dX6_addObject_27 : decode cX6_addObject 27 = .ok (.imul, 1) := by decide +kernel
theorem dX6_addObject_28 : decode cX6_addObject 28 = .ok (.iload_n 2, 1) := by decide +kernel
theorem dX6_addObject_29 : decode cX6_addObject 29 = .ok (.iadd, 1) := by decide +kernel
theorem dX6_addObject_30 : decode cX6_addObject 30 = .ok (.iconst 0, 1) := by decide +kernel
theorem dX6_addObject_31 : decode cX6_addObject 31 = .ok (.iastore, 1) := by decide +kernel
theorem dX6_addObject_32 : decode cX6_addObject 32 = .ok (.iinc 2 1, 3) := by decide +kernel
theorem dX6_addObject_35 : decode cX6_addObject 35 = .ok (.goto (-21), 3) := by decide +kernel
theorem dX6_addObject_38 : decode cX6_addObject 38 = .ok (.aload_n 0, 1) := by decide +kernel
theorem dX6_addObject_39 : decode cX6_addObject 39 = .ok (.dup, 1) := by decide +kernel
theorem dX6_addObject_40 : decode cX6_addObject 40 = .ok (.getfield 9, 3) := by decide +kernel
theorem dX6_addObject_43 : decode cX6_addObject 43 = .ok (.iconst 1, 1) := by decide +kernel
theorem dX6_addObject_44 : decode cX6_addObject 44 = .ok (.iadd, 1) := by decide +kernel
theorem dX6_addObject_45 : decode cX6_addObject 45 = .ok (.putfield 9, 3) := by decide +kernel
theorem dX6_addObject_48 : decode cX6_addObject 48 = .ok (.iload_n 1, 1) := by decide +kernel
theorem dX6_addObject_49 : decode cX6_addObject 49 = .ok (.ireturn, 1) := by decide +kernel
theorem dX6_addValue_0 : decode cX6_addValue 0 = .ok (.iload_n 1, 1) := by decide +kernel
theorem dX6_addValue_1 : decode cX6_addValue 1 = .ok (.bipush 6, 2) := by decide +kernel
theorem dX6_addValue_3 : decode cX6_addValue 3 = .ok (.imul, 1) := by decide +kernel
theorem dX6_addValue_4 : decode cX6_addValue 4 = .ok (.iload_n 2, 1) := by decide +kernel
theorem dX6_addValue_5 : decode cX6_addValue 5 = .ok (.iadd, 1) := by decide +kernel
theorem dX6_addValue_6 : decode cX6_addValue 6 = .ok (.istore 4, 2) := by decide +kernel
theorem dX6_addValue_8 : decode cX6_addValue 8 = .ok (.aload_n 0, 1) := by decide +kernel
theorem dX6_addValue_9 : decode cX6_addValue 9 = .ok (.getfield 19, 3) := by decide +kernel
theorem dX6_addValue_12 : decode cX6_addValue 12 = .ok (.iload 4, 2) := by decide +kernel
theorem dX6_addValue_14 : decode cX6_addValue 14 = .ok (.iconst 3, 1) := by decide +kernel
theorem dX6_addValue_15 : decode cX6_addValue 15 = .ok (.imul, 1) := by decide +kernel
theorem dX6_addValue_16 : decode cX6_addValue 16 = .ok (.aload_n 0, 1) := by decide +kernel
theorem dX6_addValue_17 : decode cX6_addValue 17 = .ok (.getfield 23, 3) := by decide +kernel
theorem dX6_addValue_20 : decode cX6_addValue 20 = .ok (.iload 4, 2) := by decide +kernel
theorem dX6_addValue_22 : decode cX6_addValue 22 = .ok (.iaload, 1) := by decide +kernel
theorem dX6_addValue_23 : decode cX6_addValue 23 = .ok (.iadd, 1) := by decide +kernel
theorem dX6_addValue_24 : decode cX6_addValue 24 = .ok (.iload_n 3, 1) := by decide +kernel
theorem dX6_addValue_25 : decode cX6_addValue 25 = .ok (.iastore, 1) := by decide +kernel
theorem dX6_addValue_26 : decode cX6_addValue 26 = .ok (.aload_n 0, 1) := by decide +kernel
theorem dX6_addValue_27 : decode cX6_addValue 27 = .ok (.getfield 23, 3) := by decide +kernel
theorem dX6_addValue_30 : decode cX6_addValue 30 = .ok (.iload 4, 2) := by decide +kernel
theorem dX6_addValue_32 : decode cX6_addValue 32 = .ok (.dup2, 1) := by decide +kernel
theorem dX6_addValue_33 : decode cX6_addValue 33 = .ok (.iaload, 1) := by decide +kernel
theorem dX6_addValue_34 : decode cX6_addValue 34 = .ok (.iconst 1, 1) := by decide +kernel
theorem dX6_addValue_35 : decode cX6_addValue 35 = .ok (.iadd, 1) := by decide +kernel
theorem dX6_addValue_36 : decode cX6_addValue 36 = .ok (.iastore, 1) := by decide +kernel
theorem dX6_addValue_37 : decode cX6_addValue 37 = .ok (.aload_n 0, 1) := by decide +kernel
theorem dX6_addValue_38 : decode cX6_addValue 38 = .ok (.getfield 23, 3) := by decide +kernel
theorem dX6_addValue_41 : decode cX6_addValue 41 = .ok (.iload 4, 2) := by decide +kernel
theorem dX6_addValue_43 : decode cX6_addValue 43 = .ok (.iaload, 1) := by decide +kernel
theorem dX6_addValue_44 : decode cX6_addValue 44 = .ok (.ireturn, 1) := by decide +kernel
theorem dX6_valueCount_0 : decode cX6_valueCount 0 = .ok (.aload_n 0, 1) := by decide +kernel
theorem dX6_valueCount_1 : decode cX6_valueCount 1 = .ok (.getfield 23, 3) := by decide +kernel
theorem dX6_valueCount_4 : decode cX6_valueCount 4 = .ok (.iload_n 1, 1) := by decide +kernel
theorem dX6_valueCount_5 : decode cX6_valueCount 5 = .ok (.bipush 6, 2) := by decide +kernel
theorem dX6_valueCount_7 : decode cX6_valueCount 7 = .ok (.imul, 1) := by decide +kernel
theorem dX6_valueCount_8 : decode cX6_valueCount 8 = .ok (.iload_n 2, 1) := by decide +kernel
theorem dX6_valueCount_9 : decode cX6_valueCount 9 = .ok (.iadd, 1) := by decide +kernel
theorem dX6_valueCount_10 : decode cX6_valueCount 10 = .ok (.iaload, 1) := by decide +kernel
theorem dX6_valueCount_11 : decode cX6_valueCount 11 = .ok (.ireturn, 1) := by decide +kernel
theorem dX6_valueAt_0 : decode cX6_valueAt 0 = .ok (.aload_n 0, 1) := by decide +kernel
theorem dX6_valueAt_1 : decode cX6_valueAt 1 = .ok (.getfield 19, 3) := by decide +kernel
theorem dX6_valueAt_4 : decode cX6_valueAt 4 = .ok (.iload_n 1, 1) := by decide +kernel
theorem dX6_valueAt_5 : decode cX6_valueAt 5 = .ok (.bipush 6, 2) := by decide +kernel
theorem dX6_valueAt_7 : decode cX6_valueAt 7 = .ok (.imul, 1) := by decide +kernel
theorem dX6_valueAt_8 : decode cX6_valueAt 8 = .ok (.iload_n 2, 1) := by decide +kernel
theorem dX6_valueAt_9 : decode cX6_valueAt 9 = .ok (.iadd, 1) := by decide +kernel
theorem dX6_valueAt_10 : decode cX6_valueAt 10 = .ok (.iconst 3, 1) := by decide +kernel
theorem dX6_valueAt_11 : decode cX6_valueAt 11 = .ok (.imul, 1) := by decide +kernel
theorem dX6_valueAt_12 : decode cX6_valueAt 12 = .ok (.iload_n 3, 1) := by decide +kernel
theorem dX6_valueAt_13 : decode cX6_valueAt 13 = .ok (.iadd, 1) := by decide +kernel
theorem dX6_valueAt_14 : decode cX6_valueAt 14 = .ok (.iaload, 1) := by decide +kernel
theorem dX6_valueAt_15 : decode cX6_valueAt 15 = .ok (.ireturn, 1) := by decide +kernel
theorem dX6_matching_0 : decode cX6_matching 0 = .ok (.iconst 0, 1) := by decide +kernel
theorem dX6_matching_1 : decode cX6_matching 1 = .ok (.istore_n 1, 1) := by decide +kernel
theorem dX6_matching_2 : decode cX6_matching 2 = .ok (.iconst 0, 1) := by decide +kernel
theorem dX6_matching_3 : decode cX6_matching 3 = .ok (.istore_n 2, 1) := by decide +kernel
theorem dX6_matching_4 : decode cX6_matching 4 = .ok (.iload_n 2, 1) := by decide +kernel
theorem dX6_matching_5 : decode cX6_matching 5 = .ok (.aload_n 0, 1) := by decide +kernel
theorem dX6_matching_6 : decode cX6_matching 6 = .ok (.getfield 9, 3) := by decide +kernel
theorem dX6_matching_9 : decode cX6_matching 9 = .ok (.if_icmp .ge 21, 3) := by decide +kernel
theorem dX6_matching_12 : decode cX6_matching 12 = .ok (.aload_n 0, 1) := by decide +kernel
theorem dX6_matching_13 : decode cX6_matching 13 = .ok (.getfield 15, 3) := by decide +kernel
theorem dX6_matching_16 : decode cX6_matching 16 = .ok (.iload_n 2, 1) := by decide +kernel
theorem dX6_matching_17 : decode cX6_matching 17 = .ok (.baload, 1) := by decide +kernel
theorem dX6_matching_18 : decode cX6_matching 18 = .ok (.ifCond .eq 6, 3) := by decide +kernel
theorem dX6_matching_21 : decode cX6_matching 21 = .ok (.iinc 1 1, 3) := by decide +kernel
theorem dX6_matching_24 : decode cX6_matching 24 = .ok (.iinc 2 1, 3) := by decide +kernel
theorem dX6_matching_27 : decode cX6_matching 27 = .ok (.goto (-23), 3) := by decide +kernel
theorem dX6_matching_30 : decode cX6_matching 30 = .ok (.iload_n 1, 1) := by decide +kernel
theorem dX6_matching_31 : decode cX6_matching 31 = .ok (.ireturn, 1) := by decide +kernel
theorem dX6_hasWithin_0 : decode cX6_hasWithin 0 = .ok (.aload_n 0, 1) := by decide +kernel
theorem dX6_hasWithin_1 : decode cX6_hasWithin 1 = .ok (.iload_n 1, 1) := by decide +kernel
theorem dX6_hasWithin_2 : decode cX6_hasWithin 2 = .ok (.iload_n 2, 1) := by decide +kernel
theorem dX6_hasWithin_3 : decode cX6_hasWithin 3 = .ok (.invokevirtual 26, 3) := by decide +kernel
theorem dX6_hasWithin_6 : decode cX6_hasWithin 6 = .ok (.istore 5, 2) := by decide +kernel
theorem dX6_hasWithin_8 : decode cX6_hasWithin 8 = .ok (.iconst 0, 1) := by decide +kernel
theorem dX6_hasWithin_9 : decode cX6_hasWithin 9 = .ok (.istore 6, 2) := by decide +kernel
theorem dX6_hasWithin_11 : decode cX6_hasWithin 11 = .ok (.iload 6, 2) := by decide +kernel
theorem dX6_hasWithin_13 : decode cX6_hasWithin 13 = .ok (.iload 5, 2) := by decide +kernel
theorem dX6_hasWithin_15 : decode cX6_hasWithin 15 = .ok (.if_icmp .ge 34, 3) := by decide +kernel
theorem dX6_hasWithin_18 : decode cX6_hasWithin 18 = .ok (.aload_n 0, 1) := by decide +kernel
theorem dX6_hasWithin_19 : decode cX6_hasWithin 19 = .ok (.iload_n 1, 1) := by decide +kernel
theorem dX6_hasWithin_20 : decode cX6_hasWithin 20 = .ok (.iload_n 2, 1) := by decide +kernel
theorem dX6_hasWithin_21 : decode cX6_hasWithin 21 = .ok (.iload 6, 2) := by decide +kernel
theorem dX6_hasWithin_23 : decode cX6_hasWithin 23 = .ok (.invokevirtual 30, 3) := by decide +kernel
theorem dX6_hasWithin_26 : decode cX6_hasWithin 26 = .ok (.istore 7, 2) := by decide +kernel
theorem dX6_hasWithin_28 : decode cX6_hasWithin 28 = .ok (.iload 7, 2) := by decide +kernel
theorem dX6_hasWithin_30 : decode cX6_hasWithin 30 = .ok (.iload_n 3, 1) := by decide +kernel
theorem dX6_hasWithin_31 : decode cX6_hasWithin 31 = .ok (.if_icmp .lt 12, 3) := by decide +kernel
theorem dX6_hasWithin_34 : decode cX6_hasWithin 34 = .ok (.iload 7, 2) := by decide +kernel
theorem dX6_hasWithin_36 : decode cX6_hasWithin 36 = .ok (.iload 4, 2) := by decide +kernel
theorem dX6_hasWithin_38 : decode cX6_hasWithin 38 = .ok (.if_icmp .gt 5, 3) := by decide +kernel
theorem dX6_hasWithin_41 : decode cX6_hasWithin 41 = .ok (.iconst 1, 1) := by decide +kernel
theorem dX6_hasWithin_42 : decode cX6_hasWithin 42 = .ok (.ireturn, 1) := by decide +kernel
theorem dX6_hasWithin_43 : decode cX6_hasWithin 43 = .ok (.iinc 6 1, 3) := by decide +kernel
theorem dX6_hasWithin_46 : decode cX6_hasWithin 46 = .ok (.goto (-35), 3) := by decide +kernel
theorem dX6_hasWithin_49 : decode cX6_hasWithin 49 = .ok (.iconst 0, 1) := by decide +kernel
theorem dX6_hasWithin_50 : decode cX6_hasWithin 50 = .ok (.ireturn, 1) := by decide +kernel
theorem dX6_sumOf_0 : decode cX6_sumOf 0 = .ok (.lconst 0, 1) := by decide +kernel
theorem dX6_sumOf_1 : decode cX6_sumOf 1 = .ok (.lstore_n 3, 1) := by decide +kernel
theorem dX6_sumOf_2 : decode cX6_sumOf 2 = .ok (.aload_n 0, 1) := by decide +kernel
theorem dX6_sumOf_3 : decode cX6_sumOf 3 = .ok (.iload_n 1, 1) := by decide +kernel
theorem dX6_sumOf_4 : decode cX6_sumOf 4 = .ok (.iload_n 2, 1) := by decide +kernel
theorem dX6_sumOf_5 : decode cX6_sumOf 5 = .ok (.invokevirtual 26, 3) := by decide +kernel
theorem dX6_sumOf_8 : decode cX6_sumOf 8 = .ok (.istore 5, 2) := by decide +kernel
theorem dX6_sumOf_10 : decode cX6_sumOf 10 = .ok (.iconst 0, 1) := by decide +kernel
theorem dX6_sumOf_11 : decode cX6_sumOf 11 = .ok (.istore 6, 2) := by decide +kernel
theorem dX6_sumOf_13 : decode cX6_sumOf 13 = .ok (.iload 6, 2) := by decide +kernel
theorem dX6_sumOf_15 : decode cX6_sumOf 15 = .ok (.iload 5, 2) := by decide +kernel
theorem dX6_sumOf_17 : decode cX6_sumOf 17 = .ok (.if_icmp .ge 21, 3) := by decide +kernel
theorem dX6_sumOf_20 : decode cX6_sumOf 20 = .ok (.lload_n 3, 1) := by decide +kernel
theorem dX6_sumOf_21 : decode cX6_sumOf 21 = .ok (.aload_n 0, 1) := by decide +kernel
theorem dX6_sumOf_22 : decode cX6_sumOf 22 = .ok (.iload_n 1, 1) := by decide +kernel
theorem dX6_sumOf_23 : decode cX6_sumOf 23 = .ok (.iload_n 2, 1) := by decide +kernel
theorem dX6_sumOf_24 : decode cX6_sumOf 24 = .ok (.iload 6, 2) := by decide +kernel
theorem dX6_sumOf_26 : decode cX6_sumOf 26 = .ok (.invokevirtual 30, 3) := by decide +kernel
theorem dX6_sumOf_29 : decode cX6_sumOf 29 = .ok (.i2l, 1) := by decide +kernel
theorem dX6_sumOf_30 : decode cX6_sumOf 30 = .ok (.ladd, 1) := by decide +kernel
theorem dX6_sumOf_31 : decode cX6_sumOf 31 = .ok (.lstore_n 3, 1) := by decide +kernel
theorem dX6_sumOf_32 : decode cX6_sumOf 32 = .ok (.iinc 6 1, 3) := by decide +kernel
theorem dX6_sumOf_35 : decode cX6_sumOf 35 = .ok (.goto (-22), 3) := by decide +kernel
theorem dX6_sumOf_38 : decode cX6_sumOf 38 = .ok (.lload_n 3, 1) := by decide +kernel
theorem dX6_sumOf_39 : decode cX6_sumOf 39 = .ok (.lreturn, 1) := by decide +kernel
theorem dX7_init_0 : decode cX7_init 0 = .ok (.aload_n 0, 1) := by decide +kernel
theorem dX7_init_1 : decode cX7_init 1 = .ok (.invokespecial 3, 3) := by decide +kernel
theorem dX7_init_4 : decode cX7_init 4 = .ok (.aload_n 0, 1) := by decide +kernel
theorem dX7_init_5 : decode cX7_init 5 = .ok (.aload_n 1, 1) := by decide +kernel
theorem dX7_init_6 : decode cX7_init 6 = .ok (.putfield 9, 3) := by decide +kernel
theorem dX7_init_9 : decode cX7_init 9 = .ok (.aload_n 0, 1) := by decide +kernel
theorem dX7_init_10 : decode cX7_init 10 = .ok (.iconst 0, 1) := by decide +kernel
theorem dX7_init_11 : decode cX7_init 11 = .ok (.putfield 15, 3) := by decide +kernel
theorem dX7_init_14 : decode cX7_init 14 = .ok (.aload_n 0, 1) := by decide +kernel
theorem dX7_init_15 : decode cX7_init 15 = .ok (.sipush 360, 3) := by decide +kernel
theorem dX7_init_18 : decode cX7_init 18 = .ok (.newarray .long, 2) := by decide +kernel
theorem dX7_init_20 : decode cX7_init 20 = .ok (.putfield 19, 3) := by decide +kernel
theorem dX7_init_23 : decode cX7_init 23 = .ok (.return_, 1) := by decide +kernel
theorem dX7_startOver_0 : decode cX7_startOver 0 = .ok (.aload_n 0, 1) := by decide +kernel
theorem dX7_startOver_1 : decode cX7_startOver 1 = .ok (.iconst 0, 1) := by decide +kernel
theorem dX7_startOver_2 : decode cX7_startOver 2 = .ok (.putfield 15, 3) := by decide +kernel
theorem dX7_startOver_5 : decode cX7_startOver 5 = .ok (.return_, 1) := by decide +kernel
theorem dX7_take_0 : decode cX7_take 0 = .ok (.aload_n 1, 1) := by decide +kernel
theorem dX7_take_1 : decode cX7_take 1 = .ok (.iload_n 2, 1) := by decide +kernel
theorem dX7_take_2 : decode cX7_take 2 = .ok (.iload_n 3, 1) := by decide +kernel
theorem dX7_take_3 : decode cX7_take 3 = .ok (.invokevirtual 23, 3) := by decide +kernel
theorem dX7_take_6 : decode cX7_take 6 = .ok (.istore 4, 2) := by decide +kernel
theorem dX7_take_8 : decode cX7_take 8 = .ok (.iconst 0, 1) := by decide +kernel
theorem dX7_take_9 : decode cX7_take 9 = .ok (.istore 5, 2) := by decide +kernel
theorem dX7_take_11 : decode cX7_take 11 = .ok (.iload 5, 2) := by decide +kernel
theorem dX7_take_13 : decode cX7_take 13 = .ok (.iload 4, 2) := by decide +kernel
theorem dX7_take_15 : decode cX7_take 15 = .ok (.if_icmp .ge 47, 3) := by decide +kernel
theorem dX7_take_18 : decode cX7_take 18 = .ok (.aload_n 0, 1) := by decide +kernel
theorem dX7_take_19 : decode cX7_take 19 = .ok (.getfield 15, 3) := by decide +kernel
theorem dX7_take_22 : decode cX7_take 22 = .ok (.sipush 360, 3) := by decide +kernel
theorem dX7_take_25 : decode cX7_take 25 = .ok (.if_icmp .ge 37, 3) := by decide +kernel
theorem dX7_take_28 : decode cX7_take 28 = .ok (.aload_n 0, 1) := by decide +kernel
theorem dX7_take_29 : decode cX7_take 29 = .ok (.getfield 19, 3) := by decide +kernel
theorem dX7_take_32 : decode cX7_take 32 = .ok (.aload_n 0, 1) := by decide +kernel
theorem dX7_take_33 : decode cX7_take 33 = .ok (.getfield 15, 3) := by decide +kernel
theorem dX7_take_36 : decode cX7_take 36 = .ok (.aload_n 1, 1) := by decide +kernel
theorem dX7_take_37 : decode cX7_take 37 = .ok (.iload_n 2, 1) := by decide +kernel
theorem dX7_take_38 : decode cX7_take 38 = .ok (.iload_n 3, 1) := by decide +kernel
theorem dX7_take_39 : decode cX7_take 39 = .ok (.iload 5, 2) := by decide +kernel
theorem dX7_take_41 : decode cX7_take 41 = .ok (.invokevirtual 29, 3) := by decide +kernel
theorem dX7_take_44 : decode cX7_take 44 = .ok (.i2l, 1) := by decide +kernel
theorem dX7_take_45 : decode cX7_take 45 = .ok (.lastore, 1) := by decide +kernel
theorem dX7_take_46 : decode cX7_take 46 = .ok (.aload_n 0, 1) := by decide +kernel
theorem dX7_take_47 : decode cX7_take 47 = .ok (.dup, 1) := by decide +kernel
theorem dX7_take_48 : decode cX7_take 48 = .ok (.getfield 15, 3) := by decide +kernel
theorem dX7_take_51 : decode cX7_take 51 = .ok (.iconst 1, 1) := by decide +kernel
theorem dX7_take_52 : decode cX7_take 52 = .ok (.iadd, 1) := by decide +kernel
theorem dX7_take_53 : decode cX7_take 53 = .ok (.putfield 15, 3) := by decide +kernel
theorem dX7_take_56 : decode cX7_take 56 = .ok (.iinc 5 1, 3) := by decide +kernel
theorem dX7_take_59 : decode cX7_take 59 = .ok (.goto (-48), 3) := by decide +kernel
theorem dX7_take_62 : decode cX7_take 62 = .ok (.return_, 1) := by decide +kernel
theorem dX7_tell_0 : decode cX7_tell 0 = .ok (.iload_n 1, 1) := by decide +kernel
theorem dX7_tell_1 : decode cX7_tell 1 = .ok (.tableswitch 69 0 4 #[35, 41, 46, 53, 63], 35) := by decide +kernel
theorem dX7_tell_36 : decode cX7_tell 36 = .ok (.aload_n 0, 1) := by decide +kernel
theorem dX7_tell_37 : decode cX7_tell 37 = .ok (.getfield 15, 3) := by decide +kernel
theorem dX7_tell_40 : decode cX7_tell 40 = .ok (.i2l, 1) := by decide +kernel
theorem dX7_tell_41 : decode cX7_tell 41 = .ok (.lreturn, 1) := by decide +kernel
theorem dX7_tell_42 : decode cX7_tell 42 = .ok (.aload_n 0, 1) := by decide +kernel
theorem dX7_tell_43 : decode cX7_tell 43 = .ok (.invokevirtual 33, 3) := by decide +kernel
theorem dX7_tell_46 : decode cX7_tell 46 = .ok (.lreturn, 1) := by decide +kernel
theorem dX7_tell_47 : decode cX7_tell 47 = .ok (.aload_n 0, 1) := by decide +kernel
theorem dX7_tell_48 : decode cX7_tell 48 = .ok (.iconst 1, 1) := by decide +kernel
theorem dX7_tell_49 : decode cX7_tell 49 = .ok (.invokevirtual 37, 3) := by decide +kernel
theorem dX7_tell_52 : decode cX7_tell 52 = .ok (.i2l, 1) := by decide +kernel
theorem dX7_tell_53 : decode cX7_tell 53 = .ok (.lreturn, 1) := by decide +kernel
theorem dX7_tell_54 : decode cX7_tell 54 = .ok (.aload_n 0, 1) := by decide +kernel
theorem dX7_tell_55 : decode cX7_tell 55 = .ok (.aload_n 0, 1) := by decide +kernel
theorem dX7_tell_56 : decode cX7_tell 56 = .ok (.getfield 15, 3) := by decide +kernel
theorem dX7_tell_59 : decode cX7_tell 59 = .ok (.invokevirtual 37, 3) := by decide +kernel
theorem dX7_tell_62 : decode cX7_tell 62 = .ok (.i2l, 1) := by decide +kernel
theorem dX7_tell_63 : decode cX7_tell 63 = .ok (.lreturn, 1) := by decide +kernel
theorem dX7_tell_64 : decode cX7_tell 64 = .ok (.aload_n 0, 1) := by decide +kernel
theorem dX7_tell_65 : decode cX7_tell 65 = .ok (.invokevirtual 41, 3) := by decide +kernel
theorem dX7_tell_68 : decode cX7_tell 68 = .ok (.i2l, 1) := by decide +kernel
theorem dX7_tell_69 : decode cX7_tell 69 = .ok (.lreturn, 1) := by decide +kernel
theorem dX7_tell_70 : decode cX7_tell 70 = .ok (.ldc2_w 45, 3) := by decide +kernel
theorem dX7_tell_73 : decode cX7_tell 73 = .ok (.lreturn, 1) := by decide +kernel
theorem dX7_atPercent_0 : decode cX7_atPercent 0 = .ok (.aload_n 0, 1) := by decide +kernel
theorem dX7_atPercent_1 : decode cX7_atPercent 1 = .ok (.iconst 1, 1) := by decide +kernel
theorem dX7_atPercent_2 : decode cX7_atPercent 2 = .ok (.iload_n 1, 1) := by decide +kernel
theorem dX7_atPercent_3 : decode cX7_atPercent 3 = .ok (.aload_n 0, 1) := by decide +kernel
theorem dX7_atPercent_4 : decode cX7_atPercent 4 = .ok (.getfield 15, 3) := by decide +kernel
theorem dX7_atPercent_7 : decode cX7_atPercent 7 = .ok (.imul, 1) := by decide +kernel
theorem dX7_atPercent_8 : decode cX7_atPercent 8 = .ok (.bipush 99, 2) := by decide +kernel
theorem dX7_atPercent_10 : decode cX7_atPercent 10 = .ok (.iadd, 1) := by decide +kernel
theorem dX7_atPercent_11 : decode cX7_atPercent 11 = .ok (.bipush 100, 2) := by decide +kernel
theorem dX7_atPercent_13 : decode cX7_atPercent 13 = .ok (.idiv, 1) := by decide +kernel
theorem dX7_atPercent_14 : decode cX7_atPercent 14 = .ok (.invokestatic 47, 3) := by decide +kernel
theorem dX7_atPercent_17 : decode cX7_atPercent 17 = .ok (.invokevirtual 37, 3) := by decide +kernel
theorem dX7_atPercent_20 : decode cX7_atPercent 20 = .ok (.ireturn, 1) := by decide +kernel
theorem dX7_atPlace_0 : decode cX7_atPlace 0 = .ok (.iload_n 1, 1) := by decide +kernel
theorem dX7_atPlace_1 : decode cX7_atPlace 1 = .ok (.iconst 1, 1) := by decide +kernel
theorem dX7_atPlace_2 : decode cX7_atPlace 2 = .ok (.if_icmp .lt 11, 3) := by decide +kernel
theorem dX7_atPlace_5 : decode cX7_atPlace 5 = .ok (.iload_n 1, 1) := by decide +kernel
theorem dX7_atPlace_6 : decode cX7_atPlace 6 = .ok (.aload_n 0, 1) := by decide +kernel
theorem dX7_atPlace_7 : decode cX7_atPlace 7 = .ok (.getfield 15, 3) := by decide +kernel
theorem dX7_atPlace_10 : decode cX7_atPlace 10 = .ok (.if_icmp .le 6, 3) := by decide +kernel
theorem dX7_atPlace_13 : decode cX7_atPlace 13 = .ok (.ldc 52, 2) := by decide +kernel
theorem dX7_atPlace_15 : decode cX7_atPlace 15 = .ok (.ireturn, 1) := by decide +kernel
theorem dX7_atPlace_16 : decode cX7_atPlace 16 = .ok (.aload_n 0, 1) := by decide +kernel
theorem dX7_atPlace_17 : decode cX7_atPlace 17 = .ok (.getfield 9, 3) := by decide +kernel
theorem dX7_atPlace_20 : decode cX7_atPlace 20 = .ok (.aload_n 0, 1) := by decide +kernel
theorem dX7_atPlace_21 : decode cX7_atPlace 21 = .ok (.getfield 19, 3) := by decide +kernel
theorem dX7_atPlace_24 : decode cX7_atPlace 24 = .ok (.aload_n 0, 1) := by decide +kernel
theorem dX7_atPlace_25 : decode cX7_atPlace 25 = .ok (.getfield 15, 3) := by decide +kernel
theorem dX7_atPlace_28 : decode cX7_atPlace 28 = .ok (.invokevirtual 53, 3) := by decide +kernel
theorem dX7_atPlace_31 : decode cX7_atPlace 31 = .ok (.aload_n 0, 1) := by decide +kernel
theorem dX7_atPlace_32 : decode cX7_atPlace 32 = .ok (.getfield 19, 3) := by decide +kernel
theorem dX7_atPlace_35 : decode cX7_atPlace 35 = .ok (.iload_n 1, 1) := by decide +kernel
theorem dX7_atPlace_36 : decode cX7_atPlace 36 = .ok (.iconst 1, 1) := by decide +kernel
theorem dX7_atPlace_37 : decode cX7_atPlace 37 = .ok (.isub, 1) := by decide +kernel
theorem dX7_atPlace_38 : decode cX7_atPlace 38 = .ok (.laload, 1) := by decide +kernel
theorem dX7_atPlace_39 : decode cX7_atPlace 39 = .ok (.l2i, 1) := by decide +kernel
theorem dX7_atPlace_40 : decode cX7_atPlace 40 = .ok (.ireturn, 1) := by decide +kernel
theorem dX7_sum_0 : decode cX7_sum 0 = .ok (.lconst 0, 1) := by decide +kernel
theorem dX7_sum_1 : decode cX7_sum 1 = .ok (.lstore_n 1, 1) := by decide +kernel
theorem dX7_sum_2 : decode cX7_sum 2 = .ok (.iconst 0, 1) := by decide +kernel
theorem dX7_sum_3 : decode cX7_sum 3 = .ok (.istore_n 3, 1) := by decide +kernel
theorem dX7_sum_4 : decode cX7_sum 4 = .ok (.iload_n 3, 1) := by decide +kernel
theorem dX7_sum_5 : decode cX7_sum 5 = .ok (.aload_n 0, 1) := by decide +kernel
theorem dX7_sum_6 : decode cX7_sum 6 = .ok (.getfield 15, 3) := by decide +kernel
theorem dX7_sum_9 : decode cX7_sum 9 = .ok (.if_icmp .ge 18, 3) := by decide +kernel
theorem dX7_sum_12 : decode cX7_sum 12 = .ok (.lload_n 1, 1) := by decide +kernel
theorem dX7_sum_13 : decode cX7_sum 13 = .ok (.aload_n 0, 1) := by decide +kernel
theorem dX7_sum_14 : decode cX7_sum 14 = .ok (.getfield 19, 3) := by decide +kernel
theorem dX7_sum_17 : decode cX7_sum 17 = .ok (.iload_n 3, 1) := by decide +kernel
theorem dX7_sum_18 : decode cX7_sum 18 = .ok (.laload, 1) := by decide +kernel
theorem dX7_sum_19 : decode cX7_sum 19 = .ok (.ladd, 1) := by decide +kernel
theorem dX7_sum_20 : decode cX7_sum 20 = .ok (.lstore_n 1, 1) := by decide +kernel
theorem dX7_sum_21 : decode cX7_sum 21 = .ok (.iinc 3 1, 3) := by decide +kernel
theorem dX7_sum_24 : decode cX7_sum 24 = .ok (.goto (-20), 3) := by decide +kernel
theorem dX7_sum_27 : decode cX7_sum 27 = .ok (.lload_n 1, 1) := by decide +kernel
theorem dX7_sum_28 : decode cX7_sum 28 = .ok (.lreturn, 1) := by decide +kernel
theorem dX7_different_0 : decode cX7_different 0 = .ok (.aload_n 0, 1) := by decide +kernel
theorem dX7_different_1 : decode cX7_different 1 = .ok (.getfield 9, 3) := by decide +kernel
theorem dX7_different_4 : decode cX7_different 4 = .ok (.aload_n 0, 1) := by decide +kernel
theorem dX7_different_5 : decode cX7_different 5 = .ok (.getfield 19, 3) := by decide +kernel
theorem dX7_different_8 : decode cX7_different 8 = .ok (.aload_n 0, 1) := by decide +kernel
theorem dX7_different_9 : decode cX7_different 9 = .ok (.getfield 15, 3) := by decide +kernel
theorem dX7_different_12 : decode cX7_different 12 = .ok (.invokevirtual 53, 3) := by decide +kernel
theorem dX7_different_15 : decode cX7_different 15 = .ok (.iconst 0, 1) := by decide +kernel
theorem dX7_different_16 : decode cX7_different 16 = .ok (.istore_n 1, 1) := by decide +kernel
theorem dX7_different_17 : decode cX7_different 17 = .ok (.iconst 0, 1) := by decide +kernel
theorem dX7_different_18 : decode cX7_different 18 = .ok (.istore_n 2, 1) := by decide +kernel
theorem dX7_different_19 : decode cX7_different 19 = .ok (.iload_n 2, 1) := by decide +kernel
theorem dX7_different_20 : decode cX7_different 20 = .ok (.aload_n 0, 1) := by decide +kernel
theorem dX7_different_21 : decode cX7_different 21 = .ok (.getfield 15, 3) := by decide +kernel
theorem dX7_different_24 : decode cX7_different 24 = .ok (.if_icmp .ge 34, 3) := by decide +kernel
theorem dX7_different_27 : decode cX7_different 27 = .ok (.iload_n 2, 1) := by decide +kernel
theorem dX7_different_28 : decode cX7_different 28 = .ok (.ifCond .eq 21, 3) := by decide +kernel
theorem dX7_different_31 : decode cX7_different 31 = .ok (.aload_n 0, 1) := by decide +kernel
theorem dX7_different_32 : decode cX7_different 32 = .ok (.getfield 19, 3) := by decide +kernel
theorem dX7_different_35 : decode cX7_different 35 = .ok (.iload_n 2, 1) := by decide +kernel
theorem dX7_different_36 : decode cX7_different 36 = .ok (.laload, 1) := by decide +kernel
theorem dX7_different_37 : decode cX7_different 37 = .ok (.aload_n 0, 1) := by decide +kernel
theorem dX7_different_38 : decode cX7_different 38 = .ok (.getfield 19, 3) := by decide +kernel
theorem dX7_different_41 : decode cX7_different 41 = .ok (.iload_n 2, 1) := by decide +kernel
theorem dX7_different_42 : decode cX7_different 42 = .ok (.iconst 1, 1) := by decide +kernel
theorem dX7_different_43 : decode cX7_different 43 = .ok (.isub, 1) := by decide +kernel
theorem dX7_different_44 : decode cX7_different 44 = .ok (.laload, 1) := by decide +kernel
theorem dX7_different_45 : decode cX7_different 45 = .ok (.lcmp, 1) := by decide +kernel
theorem dX7_different_46 : decode cX7_different 46 = .ok (.ifCond .eq 6, 3) := by decide +kernel
theorem dX7_different_49 : decode cX7_different 49 = .ok (.iinc 1 1, 3) := by decide +kernel
theorem dX7_different_52 : decode cX7_different 52 = .ok (.iinc 2 1, 3) := by decide +kernel
theorem dX7_different_55 : decode cX7_different 55 = .ok (.goto (-36), 3) := by decide +kernel
theorem dX7_different_58 : decode cX7_different 58 = .ok (.iload_n 1, 1) := by decide +kernel
theorem dX7_different_59 : decode cX7_different 59 = .ok (.ireturn, 1) := by decide +kernel
theorem dJ9_floorMod_7cf53_0 : decode cJ9_floorMod_7cf53 0 = .ok (.iload_n 0, 1) := by decide +kernel
theorem dJ9_floorMod_7cf53_1 : decode cJ9_floorMod_7cf53 1 = .ok (.iload_n 1, 1) := by decide +kernel
theorem dJ9_floorMod_7cf53_2 : decode cJ9_floorMod_7cf53 2 = .ok (.irem, 1) := by decide +kernel
theorem dJ9_floorMod_7cf53_3 : decode cJ9_floorMod_7cf53 3 = .ok (.istore_n 2, 1) := by decide +kernel
theorem dJ9_floorMod_7cf53_4 : decode cJ9_floorMod_7cf53 4 = .ok (.iload_n 0, 1) := by decide +kernel
theorem dJ9_floorMod_7cf53_5 : decode cJ9_floorMod_7cf53 5 = .ok (.iload_n 1, 1) := by decide +kernel
theorem dJ9_floorMod_7cf53_6 : decode cJ9_floorMod_7cf53 6 = .ok (.ixor, 1) := by decide +kernel
theorem dJ9_floorMod_7cf53_7 : decode cJ9_floorMod_7cf53 7 = .ok (.ifCond .ge 11, 3) := by decide +kernel
theorem dJ9_floorMod_7cf53_10 : decode cJ9_floorMod_7cf53 10 = .ok (.iload_n 2, 1) := by decide +kernel
theorem dJ9_floorMod_7cf53_11 : decode cJ9_floorMod_7cf53 11 = .ok (.ifCond .eq 7, 3) := by decide +kernel
theorem dJ9_floorMod_7cf53_14 : decode cJ9_floorMod_7cf53 14 = .ok (.iload_n 2, 1) := by decide +kernel
theorem dJ9_floorMod_7cf53_15 : decode cJ9_floorMod_7cf53 15 = .ok (.iload_n 1, 1) := by decide +kernel
theorem dJ9_floorMod_7cf53_16 : decode cJ9_floorMod_7cf53 16 = .ok (.iadd, 1) := by decide +kernel
theorem dJ9_floorMod_7cf53_17 : decode cJ9_floorMod_7cf53 17 = .ok (.ireturn, 1) := by decide +kernel
theorem dJ9_floorMod_7cf53_18 : decode cJ9_floorMod_7cf53 18 = .ok (.iload_n 2, 1) := by decide +kernel
theorem dJ9_floorMod_7cf53_19 : decode cJ9_floorMod_7cf53 19 = .ok (.ireturn, 1) := by decide +kernel
theorem dJ9_max_7cf53_0 : decode cJ9_max_7cf53 0 = .ok (.iload_n 0, 1) := by decide +kernel
theorem dJ9_max_7cf53_1 : decode cJ9_max_7cf53 1 = .ok (.iload_n 1, 1) := by decide +kernel
theorem dJ9_max_7cf53_2 : decode cJ9_max_7cf53 2 = .ok (.if_icmp .lt 7, 3) := by decide +kernel
theorem dJ9_max_7cf53_5 : decode cJ9_max_7cf53 5 = .ok (.iload_n 0, 1) := by decide +kernel
theorem dJ9_max_7cf53_6 : decode cJ9_max_7cf53 6 = .ok (.goto 4, 3) := by decide +kernel
theorem dJ9_max_7cf53_9 : decode cJ9_max_7cf53 9 = .ok (.iload_n 1, 1) := by decide +kernel
theorem dJ9_max_7cf53_10 : decode cJ9_max_7cf53 10 = .ok (.ireturn, 1) := by decide +kernel
theorem dJ9_min_7cf53_0 : decode cJ9_min_7cf53 0 = .ok (.iload_n 0, 1) := by decide +kernel
theorem dJ9_min_7cf53_1 : decode cJ9_min_7cf53 1 = .ok (.iload_n 1, 1) := by decide +kernel
theorem dJ9_min_7cf53_2 : decode cJ9_min_7cf53 2 = .ok (.if_icmp .gt 7, 3) := by decide +kernel
theorem dJ9_min_7cf53_5 : decode cJ9_min_7cf53 5 = .ok (.iload_n 0, 1) := by decide +kernel
theorem dJ9_min_7cf53_6 : decode cJ9_min_7cf53 6 = .ok (.goto 4, 3) := by decide +kernel
theorem dJ9_min_7cf53_9 : decode cJ9_min_7cf53 9 = .ok (.iload_n 1, 1) := by decide +kernel
theorem dJ9_min_7cf53_10 : decode cJ9_min_7cf53 10 = .ok (.ireturn, 1) := by decide +kernel
