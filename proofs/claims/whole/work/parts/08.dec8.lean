theorem dX8_init_0 : decode cX8_init 0 = .ok (.aload_n 0, 1) := by decide +kernel
theorem dX8_init_1 : decode cX8_init 1 = .ok (.invokespecial 1, 3) := by decide +kernel
theorem dX8_init_4 : decode cX8_init 4 = .ok (.new 7, 3) := by decide +kernel
theorem dX8_init_7 : decode cX8_init 7 = .ok (.dup, 1) := by decide +kernel
theorem dX8_init_8 : decode cX8_init 8 = .ok (.invokespecial 9, 3) := by decide +kernel
theorem dX8_init_11 : decode cX8_init 11 = .ok (.astore_n 1, 1) := by decide +kernel
theorem dX8_init_12 : decode cX8_init 12 = .ok (.aload_n 0, 1) := by decide +kernel
theorem dX8_init_13 : decode cX8_init 13 = .ok (.new 10, 3) := by decide +kernel
theorem dX8_init_16 : decode cX8_init 16 = .ok (.dup, 1) := by decide +kernel
theorem dX8_init_17 : decode cX8_init 17 = .ok (.invokespecial 12, 3) := by decide +kernel
theorem dX8_init_20 : decode cX8_init 20 = .ok (.putfield 13, 3) := by decide +kernel
theorem dX8_init_23 : decode cX8_init 23 = .ok (.aload_n 0, 1) := by decide +kernel
theorem dX8_init_24 : decode cX8_init 24 = .ok (.new 19, 3) := by decide +kernel
theorem dX8_init_27 : decode cX8_init 27 = .ok (.dup, 1) := by decide +kernel
theorem dX8_init_28 : decode cX8_init 28 = .ok (.aload_n 0, 1) := by decide +kernel
theorem dX8_init_29 : decode cX8_init 29 = .ok (.getfield 13, 3) := by decide +kernel
theorem dX8_init_32 : decode cX8_init 32 = .ok (.invokespecial 21, 3) := by decide +kernel
theorem dX8_init_35 : decode cX8_init 35 = .ok (.putfield 24, 3) := by decide +kernel
theorem dX8_init_38 : decode cX8_init 38 = .ok (.aload_n 0, 1) := by decide +kernel
theorem dX8_init_39 : decode cX8_init 39 = .ok (.bipush 10, 2) := by decide +kernel
theorem dX8_init_41 : decode cX8_init 41 = .ok (.anewarray 28, 3) := by decide +kernel
theorem dX8_init_44 : decode cX8_init 44 = .ok (.putfield 30, 3) := by decide +kernel
theorem dX8_init_47 : decode cX8_init 47 = .ok (.iconst 0, 1) := by decide +kernel
theorem dX8_init_48 : decode cX8_init 48 = .ok (.istore_n 2, 1) := by decide +kernel
theorem dX8_init_49 : decode cX8_init 49 = .ok (.iload_n 2, 1) := by decide +kernel
theorem dX8_init_50 : decode cX8_init 50 = .ok (.bipush 10, 2) := by decide +kernel
theorem dX8_init_52 : decode cX8_init 52 = .ok (.if_icmp .ge 22, 3) := by decide +kernel
theorem dX8_init_55 : decode cX8_init 55 = .ok (.aload_n 0, 1) := by decide +kernel
theorem dX8_init_56 : decode cX8_init 56 = .ok (.getfield 30, 3) := by decide +kernel
theorem dX8_init_59 : decode cX8_init 59 = .ok (.iload_n 2, 1) := by decide +kernel
theorem dX8_init_60 : decode cX8_init 60 = .ok (.new 28, 3) := by decide +kernel
theorem dX8_init_63 : decode cX8_init 63 = .ok (.dup, 1) := by decide +kernel
theorem dX8_init_64 : decode cX8_init 64 = .ok (.invokespecial 34, 3) := by decide +kernel
theorem dX8_init_67 : decode cX8_init 67 = .ok (.aastore, 1) := by decide +kernel
theorem dX8_init_68 : decode cX8_init 68 = .ok (.iinc 2 1, 3) := by decide +kernel
theorem dX8_init_71 : decode cX8_init 71 = .ok (.goto (-22), 3) := by decide +kernel
theorem dX8_init_74 : decode cX8_init 74 = .ok (.aload_n 0, 1) := by decide +kernel
theorem dX8_init_75 : decode cX8_init 75 = .ok (.new 35, 3) := by decide +kernel
theorem dX8_init_78 : decode cX8_init 78 = .ok (.dup, 1) := by decide +kernel
theorem dX8_init_79 : decode cX8_init 79 = .ok (.aload_n 1, 1) := by decide +kernel
theorem dX8_init_80 : decode cX8_init 80 = .ok (.invokespecial 37, 3) := by decide +kernel
theorem dX8_init_83 : decode cX8_init 83 = .ok (.putfield 40, 3) := by decide +kernel
theorem dX8_init_86 : decode cX8_init 86 = .ok (.aload_n 0, 1) := by decide +kernel
theorem dX8_init_87 : decode cX8_init 87 = .ok (.new 44, 3) := by decide +kernel
theorem dX8_init_90 : decode cX8_init 90 = .ok (.dup, 1) := by decide +kernel
theorem dX8_init_91 : decode cX8_init 91 = .ok (.aload_n 1, 1) := by decide +kernel
theorem dX8_init_92 : decode cX8_init 92 = .ok (.invokespecial 46, 3) := by decide +kernel
theorem dX8_init_95 : decode cX8_init 95 = .ok (.putfield 47, 3) := by decide +kernel
theorem dX8_init_98 : decode cX8_init 98 = .ok (.aload_n 0, 1) := by decide +kernel
theorem dX8_init_99 : decode cX8_init 99 = .ok (.iconst 0, 1) := by decide +kernel
theorem dX8_init_100 : decode cX8_init 100 = .ok (.putfield 51, 3) := by decide +kernel
theorem dX8_init_103 : decode cX8_init 103 = .ok (.aload_n 0, 1) := by decide +kernel
theorem dX8_init_104 : decode cX8_init 104 = .ok (.ldc 55, 2) := by decide +kernel
theorem dX8_init_106 : decode cX8_init 106 = .ok (.putfield 56, 3) := by decide +kernel
theorem dX8_init_109 : decode cX8_init 109 = .ok (.return_, 1) := by decide +kernel
theorem dX8_object_0 : decode cX8_object 0 = .ok (.aload_n 0, 1) := by decide +kernel
theorem dX8_object_1 : decode cX8_object 1 = .ok (.getfield 13, 3) := by decide +kernel
theorem dX8_object_4 : decode cX8_object 4 = .ok (.getfield 59, 3) := by decide +kernel
theorem dX8_object_7 : decode cX8_object 7 = .ok (.bipush 120, 2) := by decide +kernel
theorem dX8_object_9 : decode cX8_object 9 = .ok (.if_icmp .lt 6, 3) := by decide +kernel
theorem dX8_object_12 : decode cX8_object 12 = .ok (.ldc 62, 2) := by decide +kernel
theorem dX8_object_14 : decode cX8_object 14 = .ok (.ireturn, 1) := by decide +kernel
theorem dX8_object_15 : decode cX8_object 15 = .ok (.aload_n 0, 1) := by decide +kernel
theorem dX8_object_16 : decode cX8_object 16 = .ok (.invokevirtual 63, 3) := by decide +kernel
theorem dX8_object_19 : decode cX8_object 19 = .ok (.aload_n 0, 1) := by decide +kernel
theorem dX8_object_20 : decode cX8_object 20 = .ok (.getfield 13, 3) := by decide +kernel
theorem dX8_object_23 : decode cX8_object 23 = .ok (.invokevirtual 66, 3) := by decide +kernel
theorem dX8_object_26 : decode cX8_object 26 = .ok (.ireturn, 1) := by decide +kernel
theorem dX8_value_0 : decode cX8_value 0 = .ok (.aload_n 0, 1) := by decide +kernel
theorem dX8_value_1 : decode cX8_value 1 = .ok (.getfield 13, 3) := by decide +kernel
theorem dX8_value_4 : decode cX8_value 4 = .ok (.iload_n 1, 1) := by decide +kernel
theorem dX8_value_5 : decode cX8_value 5 = .ok (.invokevirtual 70, 3) := by decide +kernel
theorem dX8_value_8 : decode cX8_value 8 = .ok (.ifCond .eq 17, 3) := by decide +kernel
theorem dX8_value_11 : decode cX8_value 11 = .ok (.iload_n 2, 1) := by decide +kernel
theorem dX8_value_12 : decode cX8_value 12 = .ok (.invokestatic 74, 3) := by decide +kernel
theorem dX8_value_15 : decode cX8_value 15 = .ok (.ifCond .eq 10, 3) := by decide +kernel
theorem dX8_value_18 : decode cX8_value 18 = .ok (.iload_n 3, 1) := by decide +kernel
theorem dX8_value_19 : decode cX8_value 19 = .ok (.invokestatic 77, 3) := by decide +kernel
theorem dX8_value_22 : decode cX8_value 22 = .ok (.ifCond .ne 6, 3) := by decide +kernel
theorem dX8_value_25 : decode cX8_value 25 = .ok (.ldc 80, 2) := by decide +kernel
theorem dX8_value_27 : decode cX8_value 27 = .ok (.ireturn, 1) := by decide +kernel
theorem dX8_value_28 : decode cX8_value 28 = .ok (.aload_n 0, 1) := by decide +kernel
theorem dX8_value_29 : decode cX8_value 29 = .ok (.getfield 13, 3) := by decide +kernel
theorem dX8_value_32 : decode cX8_value 32 = .ok (.iload_n 1, 1) := by decide +kernel
theorem dX8_value_33 : decode cX8_value 33 = .ok (.iload_n 2, 1) := by decide +kernel
theorem dX8_value_34 : decode cX8_value 34 = .ok (.invokevirtual 81, 3) := by decide +kernel
theorem dX8_value_37 : decode cX8_value 37 = .ok (.iconst 3, 1) := by decide +kernel
theorem dX8_value_38 : decode cX8_value 38 = .ok (.if_icmp .lt 6, 3) := by decide +kernel
theorem dX8_value_41 : decode cX8_value 41 = .ok (.ldc 62, 2) := by decide +kernel
theorem dX8_value_43 : decode cX8_value 43 = .ok (.ireturn, 1) := by decide +kernel
theorem dX8_value_44 : decode cX8_value 44 = .ok (.aload_n 0, 1) := by decide +kernel
theorem dX8_value_45 : decode cX8_value 45 = .ok (.invokevirtual 63, 3) := by decide +kernel
theorem dX8_value_48 : decode cX8_value 48 = .ok (.aload_n 0, 1) := by decide +kernel
theorem dX8_value_49 : decode cX8_value 49 = .ok (.getfield 13, 3) := by decide +kernel
theorem dX8_value_52 : decode cX8_value 52 = .ok (.iload_n 1, 1) := by decide +kernel
theorem dX8_value_53 : decode cX8_value 53 = .ok (.iload_n 2, 1) := by decide +kernel
theorem dX8_value_54 : decode cX8_value 54 = .ok (.iload_n 3, 1) := by decide +kernel
theorem dX8_value_55 : decode cX8_value 55 = .ok (.invokevirtual 85, 3) := by decide +kernel
theorem dX8_value_58 : decode cX8_value 58 = .ok (.ireturn, 1) := by decide +kernel
theorem dX8_match_0 : decode cX8_match 0 = .ok (.aload_n 0, 1) := by decide +kernel
theorem dX8_match_1 : decode cX8_match 1 = .ok (.getfield 13, 3) := by decide +kernel
theorem dX8_match_4 : decode cX8_match 4 = .ok (.iload_n 1, 1) := by decide +kernel
theorem dX8_match_5 : decode cX8_match 5 = .ok (.invokevirtual 70, 3) := by decide +kernel
theorem dX8_match_8 : decode cX8_match 8 = .ok (.ifCond .ne 6, 3) := by decide +kernel
theorem dX8_match_11 : decode cX8_match 11 = .ok (.ldc 80, 2) := by decide +kernel
theorem dX8_match_13 : decode cX8_match 13 = .ok (.ireturn, 1) := by decide +kernel
theorem dX8_match_14 : decode cX8_match 14 = .ok (.aload_n 0, 1) := by decide +kernel
theorem dX8_match_15 : decode cX8_match 15 = .ok (.invokevirtual 63, 3) := by decide +kernel
theorem dX8_match_18 : decode cX8_match 18 = .ok (.aload_n 0, 1) := by decide +kernel
theorem dX8_match_19 : decode cX8_match 19 = .ok (.getfield 13, 3) := by decide +kernel
theorem dX8_match_22 : decode cX8_match 22 = .ok (.getfield 89, 3) := by decide +kernel
theorem dX8_match_25 : decode cX8_match 25 = .ok (.iload_n 1, 1) := by decide +kernel
theorem dX8_match_26 : decode cX8_match 26 = .ok (.baload, 1) := by decide +kernel
theorem dX8_match_27 : decode cX8_match 27 = .ok (.istore_n 3, 1) := by decide +kernel
theorem dX8_match_28 : decode cX8_match 28 = .ok (.aload_n 0, 1) := by decide +kernel
theorem dX8_match_29 : decode cX8_match 29 = .ok (.getfield 13, 3) := by decide +kernel
theorem dX8_match_32 : decode cX8_match 32 = .ok (.getfield 89, 3) := by decide +kernel
theorem dX8_match_35 : decode cX8_match 35 = .ok (.iload_n 1, 1) := by decide +kernel
theorem dX8_match_36 : decode cX8_match 36 = .ok (.iload_n 2, 1) := by decide +kernel
theorem dX8_match_37 : decode cX8_match 37 = .ok (.bastore, 1) := by decide +kernel
theorem dX8_match_38 : decode cX8_match 38 = .ok (.iload_n 3, 1) := by decide +kernel
theorem dX8_match_39 : decode cX8_match 39 = .ok (.ifCond .eq 7, 3) := by decide +kernel
theorem dX8_match_42 : decode cX8_match 42 = .ok (.iconst 1, 1) := by decide +kernel
theorem dX8_match_43 : decode cX8_match 43 = .ok (.goto 4, 3) := by decide +kernel
theorem dX8_match_46 : decode cX8_match 46 = .ok (.iconst 0, 1) := by decide +kernel
theorem dX8_match_47 : decode cX8_match 47 = .ok (.ireturn, 1) := by decide +kernel
theorem dX8_clear_0 : decode cX8_clear 0 = .ok (.aload_n 0, 1) := by decide +kernel
theorem dX8_clear_1 : decode cX8_clear 1 = .ok (.getfield 13, 3) := by decide +kernel
theorem dX8_clear_4 : decode cX8_clear 4 = .ok (.getfield 59, 3) := by decide +kernel
theorem dX8_clear_7 : decode cX8_clear 7 = .ok (.istore_n 1, 1) := by decide +kernel
theorem dX8_clear_8 : decode cX8_clear 8 = .ok (.aload_n 0, 1) := by decide +kernel
theorem dX8_clear_9 : decode cX8_clear 9 = .ok (.invokevirtual 63, 3) := by decide +kernel
theorem dX8_clear_12 : decode cX8_clear 12 = .ok (.aload_n 0, 1) := by decide +kernel
theorem dX8_clear_13 : decode cX8_clear 13 = .ok (.getfield 13, 3) := by decide +kernel
theorem dX8_clear_16 : decode cX8_clear 16 = .ok (.iconst 0, 1) := by decide +kernel
theorem dX8_clear_17 : decode cX8_clear 17 = .ok (.putfield 59, 3) := by decide +kernel
theorem dX8_clear_20 : decode cX8_clear 20 = .ok (.aload_n 0, 1) := by decide +kernel
theorem dX8_clear_21 : decode cX8_clear 21 = .ok (.iconst 0, 1) := by decide +kernel
theorem dX8_clear_22 : decode cX8_clear 22 = .ok (.putfield 51, 3) := by decide +kernel
theorem dX8_clear_25 : decode cX8_clear 25 = .ok (.iload_n 1, 1) := by decide +kernel
theorem dX8_clear_26 : decode cX8_clear 26 = .ok (.ireturn, 1) := by decide +kernel
theorem dX8_facet_0 : decode cX8_facet 0 = .ok (.iload_n 1, 1) := by decide +kernel
theorem dX8_facet_1 : decode cX8_facet 1 = .ok (.ifCond .lt 15, 3) := by decide +kernel
theorem dX8_facet_4 : decode cX8_facet 4 = .ok (.iload_n 1, 1) := by decide +kernel
theorem dX8_facet_5 : decode cX8_facet 5 = .ok (.iconst 4, 1) := by decide +kernel
theorem dX8_facet_6 : decode cX8_facet 6 = .ok (.if_icmp .gt 10, 3) := by decide +kernel
theorem dX8_facet_9 : decode cX8_facet 9 = .ok (.iload_n 2, 1) := by decide +kernel
theorem dX8_facet_10 : decode cX8_facet 10 = .ok (.invokestatic 74, 3) := by decide +kernel
theorem dX8_facet_13 : decode cX8_facet 13 = .ok (.ifCond .ne 6, 3) := by decide +kernel
theorem dX8_facet_16 : decode cX8_facet 16 = .ok (.ldc 80, 2) := by decide +kernel
theorem dX8_facet_18 : decode cX8_facet 18 = .ok (.ireturn, 1) := by decide +kernel
theorem dX8_facet_19 : decode cX8_facet 19 = .ok (.iload_n 1, 1) := by decide +kernel
theorem dX8_facet_20 : decode cX8_facet 20 = .ok (.iconst 3, 1) := by decide +kernel
theorem dX8_facet_21 : decode cX8_facet 21 = .ok (.if_icmp .ne 28, 3) := by decide +kernel
theorem dX8_facet_24 : decode cX8_facet 24 = .ok (.iload_n 3, 1) := by decide +kernel
theorem dX8_facet_25 : decode cX8_facet 25 = .ok (.iconst 1, 1) := by decide +kernel
theorem dX8_facet_26 : decode cX8_facet 26 = .ok (.if_icmp .lt 20, 3) := by decide +kernel
theorem dX8_facet_29 : decode cX8_facet 29 = .ok (.iload_n 3, 1) := by decide +kernel
theorem dX8_facet_30 : decode cX8_facet 30 = .ok (.ldc 93, 2) := by decide +kernel
theorem dX8_facet_32 : decode cX8_facet 32 = .ok (.if_icmp .gt 14, 3) := by decide +kernel
theorem dX8_facet_35 : decode cX8_facet 35 = .ok (.iload 4, 2) := by decide +kernel
theorem dX8_facet_37 : decode cX8_facet 37 = .ok (.ifCond .lt 9, 3) := by decide +kernel
theorem dX8_facet_40 : decode cX8_facet 40 = .ok (.iload 4, 2) := by decide +kernel
theorem dX8_facet_42 : decode cX8_facet 42 = .ok (.iload_n 3, 1) := by decide +kernel
theorem dX8_facet_43 : decode cX8_facet 43 = .ok (.if_icmp .lt 6, 3) := by decide +kernel
theorem dX8_facet_46 : decode cX8_facet 46 = .ok (.ldc 80, 2) := by decide +kernel
theorem dX8_facet_48 : decode cX8_facet 48 = .ok (.ireturn, 1) := by decide +kernel
theorem dX8_facet_49 : decode cX8_facet 49 = .ok (.iload_n 1, 1) := by decide +kernel
theorem dX8_facet_50 : decode cX8_facet 50 = .ok (.iconst 4, 1) := by decide +kernel
theorem dX8_facet_51 : decode cX8_facet 51 = .ok (.if_icmp .ne 15, 3) := by decide +kernel
theorem dX8_facet_54 : decode cX8_facet 54 = .ok (.iload_n 3, 1) := by decide +kernel
theorem dX8_facet_55 : decode cX8_facet 55 = .ok (.ifCond .lt 8, 3) := by decide +kernel
theorem dX8_facet_58 : decode cX8_facet 58 = .ok (.iload_n 3, 1) := by decide +kernel
theorem dX8_facet_59 : decode cX8_facet 59 = .ok (.iconst 4, 1) := by decide +kernel
theorem dX8_facet_60 : decode cX8_facet 60 = .ok (.if_icmp .le 6, 3) := by decide +kernel
theorem dX8_facet_63 : decode cX8_facet 63 = .ok (.ldc 80, 2) := by decide +kernel
theorem dX8_facet_65 : decode cX8_facet 65 = .ok (.ireturn, 1) := by decide +kernel
theorem dX8_facet_66 : decode cX8_facet 66 = .ok (.aload_n 0, 1) := by decide +kernel
theorem dX8_facet_67 : decode cX8_facet 67 = .ok (.getfield 51, 3) := by decide +kernel
theorem dX8_facet_70 : decode cX8_facet 70 = .ok (.bipush 10, 2) := by decide +kernel
theorem dX8_facet_72 : decode cX8_facet 72 = .ok (.if_icmp .lt 6, 3) := by decide +kernel
theorem dX8_facet_75 : decode cX8_facet 75 = .ok (.ldc 62, 2) := by decide +kernel
theorem dX8_facet_77 : decode cX8_facet 77 = .ok (.ireturn, 1) := by decide +kernel
theorem dX8_facet_78 : decode cX8_facet 78 = .ok (.aload_n 0, 1) := by decide +kernel
theorem dX8_facet_79 : decode cX8_facet 79 = .ok (.invokevirtual 63, 3) := by decide +kernel
theorem dX8_facet_82 : decode cX8_facet 82 = .ok (.aload_n 0, 1) := by decide +kernel
theorem dX8_facet_83 : decode cX8_facet 83 = .ok (.getfield 30, 3) := by decide +kernel
theorem dX8_facet_86 : decode cX8_facet 86 = .ok (.aload_n 0, 1) := by decide +kernel
theorem dX8_facet_87 : decode cX8_facet 87 = .ok (.getfield 51, 3) := by decide +kernel
theorem dX8_facet_90 : decode cX8_facet 90 = .ok (.aaload, 1) := by decide +kernel
theorem dX8_facet_91 : decode cX8_facet 91 = .ok (.iload_n 1, 1) := by decide +kernel
theorem dX8_facet_92 : decode cX8_facet 92 = .ok (.iload_n 2, 1) := by decide +kernel
theorem dX8_facet_93 : decode cX8_facet 93 = .ok (.iload_n 3, 1) := by decide +kernel
theorem dX8_facet_94 : decode cX8_facet 94 = .ok (.iload 4, 2) := by decide +kernel
theorem dX8_facet_96 : decode cX8_facet 96 = .ok (.invokevirtual 96, 3) := by decide +kernel
theorem dX8_facet_99 : decode cX8_facet 99 = .ok (.aload_n 0, 1) := by decide +kernel
theorem dX8_facet_100 : decode cX8_facet 100 = .ok (.dup, 1) := by decide +kernel
theorem dX8_facet_101 : decode cX8_facet 101 = .ok (.getfield 51, 3) := by decide +kernel
theorem dX8_facet_104 : decode cX8_facet 104 = .ok (.iconst 1, 1) := by decide +kernel
theorem dX8_facet_105 : decode cX8_facet 105 = .ok (.iadd, 1) := by decide +kernel
theorem dX8_facet_106 : decode cX8_facet 106 = .ok (.putfield 51, 3) := by decide +kernel
theorem dX8_facet_109 : decode cX8_facet 109 = .ok (.aload_n 0, 1) := by decide +kernel
theorem dX8_facet_110 : decode cX8_facet 110 = .ok (.getfield 51, 3) := by decide +kernel
theorem dX8_facet_113 : decode cX8_facet 113 = .ok (.iconst 1, 1) := by decide +kernel
theorem dX8_facet_114 : decode cX8_facet 114 = .ok (.isub, 1) := by decide +kernel
theorem dX8_facet_115 : decode cX8_facet 115 = .ok (.ireturn, 1) := by decide +kernel
theorem dX8_range_0 : decode cX8_range 0 = .ok (.aload_n 0, 1) := by decide +kernel
theorem dX8_range_1 : decode cX8_range 1 = .ok (.iload_n 1, 1) := by decide +kernel
theorem dX8_range_2 : decode cX8_range 2 = .ok (.invokevirtual 100, 3) := by decide +kernel
theorem dX8_range_5 : decode cX8_range 5 = .ok (.astore 4, 2) := by decide +kernel
theorem dX8_range_7 : decode cX8_range 7 = .ok (.aload 4, 2) := by decide +kernel
theorem dX8_range_9 : decode cX8_range 9 = .ok (.ifnull 22, 3) := by decide +kernel
theorem dX8_range_12 : decode cX8_range 12 = .ok (.iload_n 2, 1) := by decide +kernel
theorem dX8_range_13 : decode cX8_range 13 = .ok (.invokestatic 77, 3) := by decide +kernel
theorem dX8_range_16 : decode cX8_range 16 = .ok (.ifCond .eq 15, 3) := by decide +kernel
theorem dX8_range_19 : decode cX8_range 19 = .ok (.iload_n 3, 1) := by decide +kernel
theorem dX8_range_20 : decode cX8_range 20 = .ok (.invokestatic 77, 3) := by decide +kernel
theorem dX8_range_23 : decode cX8_range 23 = .ok (.ifCond .eq 8, 3) := by decide +kernel
theorem dX8_range_26 : decode cX8_range 26 = .ok (.iload_n 2, 1) := by decide +kernel
theorem dX8_range_27 : decode cX8_range 27 = .ok (.iload_n 3, 1) := by decide +kernel
theorem dX8_range_28 : decode cX8_range 28 = .ok (.if_icmp .le 6, 3) := by decide +kernel
theorem dX8_range_31 : decode cX8_range 31 = .ok (.ldc 80, 2) := by decide +kernel
theorem dX8_range_33 : decode cX8_range 33 = .ok (.ireturn, 1) := by decide +kernel
theorem dX8_range_34 : decode cX8_range 34 = .ok (.aload 4, 2) := by decide +kernel
theorem dX8_range_36 : decode cX8_range 36 = .ok (.getfield 104, 3) := by decide +kernel
theorem dX8_range_39 : decode cX8_range 39 = .ok (.iconst 2, 1) := by decide +kernel
theorem dX8_range_40 : decode cX8_range 40 = .ok (.if_icmp .eq 6, 3) := by decide +kernel
theorem dX8_range_43 : decode cX8_range 43 = .ok (.ldc 107, 2) := by decide +kernel
theorem dX8_range_45 : decode cX8_range 45 = .ok (.ireturn, 1) := by decide +kernel
theorem dX8_range_46 : decode cX8_range 46 = .ok (.aload 4, 2) := by decide +kernel
theorem dX8_range_48 : decode cX8_range 48 = .ok (.getfield 108, 3) := by decide +kernel
theorem dX8_range_51 : decode cX8_range 51 = .ok (.bipush 6, 2) := by decide +kernel
theorem dX8_range_53 : decode cX8_range 53 = .ok (.if_icmp .lt 6, 3) := by decide +kernel
theorem dX8_range_56 : decode cX8_range 56 = .ok (.ldc 62, 2) := by decide +kernel
theorem dX8_range_58 : decode cX8_range 58 = .ok (.ireturn, 1) := by decide +kernel
theorem dX8_range_59 : decode cX8_range 59 = .ok (.aload_n 0, 1) := by decide +kernel
theorem dX8_range_60 : decode cX8_range 60 = .ok (.invokevirtual 63, 3) := by decide +kernel
theorem dX8_range_63 : decode cX8_range 63 = .ok (.aload 4, 2) := by decide +kernel
theorem dX8_range_65 : decode cX8_range 65 = .ok (.iload_n 2, 1) := by decide +kernel
theorem dX8_range_66 : decode cX8_range 66 = .ok (.iload_n 3, 1) := by decide +kernel
theorem dX8_range_67 : decode cX8_range 67 = .ok (.invokevirtual 111, 3) := by decide +kernel
theorem dX8_range_70 : decode cX8_range 70 = .ok (.ireturn, 1) := by decide +kernel
theorem dX8_filter_0 : decode cX8_filter 0 = .ok (.aload_n 0, 1) := by decide +kernel
theorem dX8_filter_1 : decode cX8_filter 1 = .ok (.iload_n 1, 1) := by decide +kernel
theorem dX8_filter_2 : decode cX8_filter 2 = .ok (.invokevirtual 100, 3) := by decide +kernel
theorem dX8_filter_5 : decode cX8_filter 5 = .ok (.astore 5, 2) := by decide +kernel
theorem dX8_filter_7 : decode cX8_filter 7 = .ok (.aload 5, 2) := by decide +kernel
theorem dX8_filter_9 : decode cX8_filter 9 = .ok (.ifnull 22, 3) := by decide +kernel
theorem dX8_filter_12 : decode cX8_filter 12 = .ok (.iload_n 2, 1) := by decide +kernel
theorem dX8_filter_13 : decode cX8_filter 13 = .ok (.ldc 55, 2) := by decide +kernel
theorem dX8_filter_15 : decode cX8_filter 15 = .ok (.if_icmp .eq 19, 3) := by decide +kernel
theorem dX8_filter_18 : decode cX8_filter 18 = .ok (.iload_n 2, 1) := by decide +kernel
theorem dX8_filter_19 : decode cX8_filter 19 = .ok (.invokestatic 74, 3) := by decide +kernel
theorem dX8_filter_22 : decode cX8_filter 22 = .ok (.ifCond .eq 9, 3) := by decide +kernel
theorem dX8_filter_25 : decode cX8_filter 25 = .ok (.iload_n 3, 1) := by decide +kernel
theorem dX8_filter_26 : decode cX8_filter 26 = .ok (.iload 4, 2) := by decide +kernel
theorem dX8_filter_28 : decode cX8_filter 28 = .ok (.if_icmp .le 6, 3) := by decide +kernel
theorem dX8_filter_31 : decode cX8_filter 31 = .ok (.ldc 80, 2) := by decide +kernel
theorem dX8_filter_33 : decode cX8_filter 33 = .ok (.ireturn, 1) := by decide +kernel
theorem dX8_filter_34 : decode cX8_filter 34 = .ok (.aload_n 0, 1) := by decide +kernel
theorem dX8_filter_35 : decode cX8_filter 35 = .ok (.invokevirtual 63, 3) := by decide +kernel
theorem dX8_filter_38 : decode cX8_filter 38 = .ok (.aload 5, 2) := by decide +kernel
theorem dX8_filter_40 : decode cX8_filter 40 = .ok (.getfield 114, 3) := by decide +kernel
theorem dX8_filter_43 : decode cX8_filter 43 = .ok (.ldc 55, 2) := by decide +kernel
theorem dX8_filter_45 : decode cX8_filter 45 = .ok (.if_icmp .eq 7, 3) := by decide +kernel
theorem dX8_filter_48 : decode cX8_filter 48 = .ok (.iconst 1, 1) := by decide +kernel
theorem dX8_filter_49 : decode cX8_filter 49 = .ok (.goto 4, 3) := by decide +kernel
theorem dX8_filter_52 : decode cX8_filter 52 = .ok (.iconst 0, 1) := by decide +kernel
theorem dX8_filter_53 : decode cX8_filter 53 = .ok (.istore 6, 2) := by decide +kernel
theorem dX8_filter_55 : decode cX8_filter 55 = .ok (.aload 5, 2) := by decide +kernel
theorem dX8_filter_57 : decode cX8_filter 57 = .ok (.iload_n 2, 1) := by decide +kernel
theorem dX8_filter_58 : decode cX8_filter 58 = .ok (.putfield 114, 3) := by decide +kernel
theorem dX8_filter_61 : decode cX8_filter 61 = .ok (.aload 5, 2) := by decide +kernel
theorem dX8_filter_63 : decode cX8_filter 63 = .ok (.iload_n 3, 1) := by decide +kernel
theorem dX8_filter_64 : decode cX8_filter 64 = .ok (.putfield 117, 3) := by decide +kernel
theorem dX8_filter_67 : decode cX8_filter 67 = .ok (.aload 5, 2) := by decide +kernel
theorem dX8_filter_69 : decode cX8_filter 69 = .ok (.iload 4, 2) := by decide +kernel
theorem dX8_filter_71 : decode cX8_filter 71 = .ok (.putfield 120, 3) := by decide +kernel
theorem dX8_filter_74 : decode cX8_filter 74 = .ok (.iload 6, 2) := by decide +kernel
theorem dX8_filter_76 : decode cX8_filter 76 = .ok (.ireturn, 1) := by decide +kernel
theorem dX8_least_0 : decode cX8_least 0 = .ok (.aload_n 0, 1) := by decide +kernel
theorem dX8_least_1 : decode cX8_least 1 = .ok (.iload_n 1, 1) := by decide +kernel
theorem dX8_least_2 : decode cX8_least 2 = .ok (.invokevirtual 100, 3) := by decide +kernel
theorem dX8_least_5 : decode cX8_least 5 = .ok (.astore_n 3, 1) := by decide +kernel
theorem dX8_least_6 : decode cX8_least 6 = .ok (.aload_n 3, 1) := by decide +kernel
theorem dX8_least_7 : decode cX8_least 7 = .ok (.ifnull 13, 3) := by decide +kernel
theorem dX8_least_10 : decode cX8_least 10 = .ok (.iload_n 2, 1) := by decide +kernel
theorem dX8_least_11 : decode cX8_least 11 = .ok (.ifCond .lt 9, 3) := by decide +kernel
theorem dX8_least_14 : decode cX8_least 14 = .ok (.iload_n 2, 1) := by decide +kernel
theorem dX8_least_15 : decode cX8_least 15 = .ok (.bipush 120, 2) := by decide +kernel
theorem dX8_least_17 : decode cX8_least 17 = .ok (.if_icmp .le 6, 3) := by decide +kernel
theorem dX8_least_20 : decode cX8_least 20 = .ok (.ldc 80, 2) := by decide +kernel
theorem dX8_least_22 : decode cX8_least 22 = .ok (.ireturn, 1) := by decide +kernel
theorem dX8_least_23 : decode cX8_least 23 = .ok (.aload_n 0, 1) := by decide +kernel
theorem dX8_least_24 : decode cX8_least 24 = .ok (.invokevirtual 63, 3) := by decide +kernel
theorem dX8_least_27 : decode cX8_least 27 = .ok (.aload_n 3, 1) := by decide +kernel
theorem dX8_least_28 : decode cX8_least 28 = .ok (.getfield 123, 3) := by decide +kernel
theorem dX8_least_31 : decode cX8_least 31 = .ok (.istore 4, 2) := by decide +kernel
theorem dX8_least_33 : decode cX8_least 33 = .ok (.aload_n 3, 1) := by decide +kernel
theorem dX8_least_34 : decode cX8_least 34 = .ok (.iload_n 2, 1) := by decide +kernel
theorem dX8_least_35 : decode cX8_least 35 = .ok (.putfield 123, 3) := by decide +kernel
theorem dX8_least_38 : decode cX8_least 38 = .ok (.iload 4, 2) := by decide +kernel
theorem dX8_least_40 : decode cX8_least 40 = .ok (.ireturn, 1) := by decide +kernel
theorem dX8_missing_0 : decode cX8_missing 0 = .ok (.aload_n 0, 1) := by decide +kernel
theorem dX8_missing_1 : decode cX8_missing 1 = .ok (.iload_n 1, 1) := by decide +kernel
theorem dX8_missing_2 : decode cX8_missing 2 = .ok (.invokevirtual 100, 3) := by decide +kernel
theorem dX8_missing_5 : decode cX8_missing 5 = .ok (.astore_n 3, 1) := by decide +kernel
theorem dX8_missing_6 : decode cX8_missing 6 = .ok (.aload_n 3, 1) := by decide +kernel
theorem dX8_missing_7 : decode cX8_missing 7 = .ok (.ifnonnull 6, 3) := by decide +kernel
theorem dX8_missing_10 : decode cX8_missing 10 = .ok (.ldc 80, 2) := by decide +kernel
theorem dX8_missing_12 : decode cX8_missing 12 = .ok (.ireturn, 1) := by decide +kernel
theorem dX8_missing_13 : decode cX8_missing 13 = .ok (.aload_n 0, 1) := by decide +kernel
theorem dX8_missing_14 : decode cX8_missing 14 = .ok (.invokevirtual 63, 3) := by decide +kernel
theorem dX8_missing_17 : decode cX8_missing 17 = .ok (.aload_n 3, 1) := by decide +kernel
theorem dX8_missing_18 : decode cX8_missing 18 = .ok (.getfield 126, 3) := by decide +kernel
theorem dX8_missing_21 : decode cX8_missing 21 = .ok (.istore 4, 2) := by decide +kernel
theorem dX8_missing_23 : decode cX8_missing 23 = .ok (.aload_n 3, 1) := by decide +kernel
theorem dX8_missing_24 : decode cX8_missing 24 = .ok (.iload_n 2, 1) := by decide +kernel
theorem dX8_missing_25 : decode cX8_missing 25 = .ok (.putfield 126, 3) := by decide +kernel
theorem dX8_missing_28 : decode cX8_missing 28 = .ok (.iload 4, 2) := by decide +kernel
theorem dX8_missing_30 : decode cX8_missing 30 = .ok (.ifCond .eq 7, 3) := by decide +kernel
theorem dX8_missing_33 : decode cX8_missing 33 = .ok (.iconst 1, 1) := by decide +kernel
theorem dX8_missing_34 : decode cX8_missing 34 = .ok (.goto 4, 3) := by decide +kernel
theorem dX8_missing_37 : decode cX8_missing 37 = .ok (.iconst 0, 1) := by decide +kernel
theorem dX8_missing_38 : decode cX8_missing 38 = .ok (.ireturn, 1) := by decide +kernel
theorem dX8_order_0 : decode cX8_order 0 = .ok (.aload_n 0, 1) := by decide +kernel
theorem dX8_order_1 : decode cX8_order 1 = .ok (.iload_n 1, 1) := by decide +kernel
theorem dX8_order_2 : decode cX8_order 2 = .ok (.invokevirtual 100, 3) := by decide +kernel
theorem dX8_order_5 : decode cX8_order 5 = .ok (.astore 4, 2) := by decide +kernel
theorem dX8_order_7 : decode cX8_order 7 = .ok (.aload 4, 2) := by decide +kernel
theorem dX8_order_9 : decode cX8_order 9 = .ok (.ifnull 24, 3) := by decide +kernel
theorem dX8_order_12 : decode cX8_order 12 = .ok (.iload_n 2, 1) := by decide +kernel
theorem dX8_order_13 : decode cX8_order 13 = .ok (.ifCond .lt 20, 3) := by decide +kernel
theorem dX8_order_16 : decode cX8_order 16 = .ok (.iload_n 2, 1) := by decide +kernel
theorem dX8_order_17 : decode cX8_order 17 = .ok (.iconst 2, 1) := by decide +kernel
theorem dX8_order_18 : decode cX8_order 18 = .ok (.if_icmp .gt 15, 3) := by decide +kernel
theorem dX8_order_21 : decode cX8_order 21 = .ok (.iload_n 2, 1) := by decide +kernel
theorem dX8_order_22 : decode cX8_order 22 = .ok (.iconst 2, 1) := by decide +kernel
theorem dX8_order_23 : decode cX8_order 23 = .ok (.if_icmp .ne 13, 3) := by decide +kernel
theorem dX8_order_26 : decode cX8_order 26 = .ok (.iload_n 3, 1) := by decide +kernel
theorem dX8_order_27 : decode cX8_order 27 = .ok (.invokestatic 74, 3) := by decide +kernel
theorem dX8_order_30 : decode cX8_order 30 = .ok (.ifCond .ne 6, 3) := by decide +kernel
theorem dX8_order_33 : decode cX8_order 33 = .ok (.ldc 80, 2) := by decide +kernel
theorem dX8_order_35 : decode cX8_order 35 = .ok (.ireturn, 1) := by decide +kernel
theorem dX8_order_36 : decode cX8_order 36 = .ok (.aload_n 0, 1) := by decide +kernel
theorem dX8_order_37 : decode cX8_order 37 = .ok (.invokevirtual 63, 3) := by decide +kernel
theorem dX8_order_40 : decode cX8_order 40 = .ok (.aload 4, 2) := by decide +kernel
theorem dX8_order_42 : decode cX8_order 42 = .ok (.getfield 130, 3) := by decide +kernel
theorem dX8_order_45 : decode cX8_order 45 = .ok (.istore 5, 2) := by decide +kernel
theorem dX8_order_47 : decode cX8_order 47 = .ok (.aload 4, 2) := by decide +kernel
theorem dX8_order_49 : decode cX8_order 49 = .ok (.iload_n 2, 1) := by decide +kernel
theorem dX8_order_50 : decode cX8_order 50 = .ok (.putfield 130, 3) := by decide +kernel
theorem dX8_order_53 : decode cX8_order 53 = .ok (.aload 4, 2) := by decide +kernel
theorem dX8_order_55 : decode cX8_order 55 = .ok (.iload_n 2, 1) := by decide +kernel
theorem dX8_order_56 : decode cX8_order 56 = .ok (.iconst 2, 1) := by decide +kernel
theorem dX8_order_57 : decode cX8_order 57 = .ok (.if_icmp .ne 7, 3) := by decide +kernel
theorem dX8_order_60 : decode cX8_order 60 = .ok (.iload_n 3, 1) := by decide +kernel
theorem dX8_order_61 : decode cX8_order 61 = .ok (.goto 4, 3) := by decide +kernel
theorem dX8_order_64 : decode cX8_order 64 = .ok (.iconst 0, 1) := by decide +kernel
theorem dX8_order_65 : decode cX8_order 65 = .ok (.putfield 133, 3) := by decide +kernel
theorem dX8_order_68 : decode cX8_order 68 = .ok (.iload 5, 2) := by decide +kernel
theorem dX8_order_70 : decode cX8_order 70 = .ok (.ireturn, 1) := by decide +kernel
theorem dX8_groups_0 : decode cX8_groups 0 = .ok (.aload_n 0, 1) := by decide +kernel
theorem dX8_groups_1 : decode cX8_groups 1 = .ok (.iload_n 1, 1) := by decide +kernel
theorem dX8_groups_2 : decode cX8_groups 2 = .ok (.invokevirtual 136, 3) := by decide +kernel
theorem dX8_groups_5 : decode cX8_groups 5 = .ok (.astore_n 2, 1) := by decide +kernel
theorem dX8_groups_6 : decode cX8_groups 6 = .ok (.aload_n 2, 1) := by decide +kernel
theorem dX8_groups_7 : decode cX8_groups 7 = .ok (.ifnonnull 8, 3) := by decide +kernel
theorem dX8_groups_10 : decode cX8_groups 10 = .ok (.ldc 80, 2) := by decide +kernel
theorem dX8_groups_12 : decode cX8_groups 12 = .ok (.goto 7, 3) := by decide +kernel
theorem dX8_groups_15 : decode cX8_groups 15 = .ok (.aload_n 2, 1) := by decide +kernel
theorem dX8_groups_16 : decode cX8_groups 16 = .ok (.getfield 140, 3) := by decide +kernel
theorem dX8_groups_19 : decode cX8_groups 19 = .ok (.ireturn, 1) := by decide +kernel
theorem dX8_group_0 : decode cX8_group 0 = .ok (.aload_n 0, 1) := by decide +kernel
theorem dX8_group_1 : decode cX8_group 1 = .ok (.iload_n 1, 1) := by decide +kernel
theorem dX8_group_2 : decode cX8_group 2 = .ok (.invokevirtual 136, 3) := by decide +kernel
theorem dX8_group_5 : decode cX8_group 5 = .ok (.astore 4, 2) := by decide +kernel
theorem dX8_group_7 : decode cX8_group 7 = .ok (.aload 4, 2) := by decide +kernel
theorem dX8_group_9 : decode cX8_group 9 = .ok (.ifnull 12, 3) := by decide +kernel
theorem dX8_group_12 : decode cX8_group 12 = .ok (.aload 4, 2) := by decide +kernel
theorem dX8_group_14 : decode cX8_group 14 = .ok (.iload_n 2, 1) := by decide +kernel
theorem dX8_group_15 : decode cX8_group 15 = .ok (.invokevirtual 141, 3) := by decide +kernel
theorem dX8_group_18 : decode cX8_group 18 = .ok (.ifCond .ne 6, 3) := by decide +kernel
theorem dX8_group_21 : decode cX8_group 21 = .ok (.ldc 80, 2) := by decide +kernel
theorem dX8_group_23 : decode cX8_group 23 = .ok (.ireturn, 1) := by decide +kernel
theorem dX8_group_24 : decode cX8_group 24 = .ok (.iload_n 3, 1) := by decide +kernel
theorem dX8_group_25 : decode cX8_group 25 = .ok (.tableswitch 56 0 2 #[27, 34, 41], 27) := by decide +kernel
theorem dX8_group_52 : decode cX8_group 52 = .ok (.aload 4, 2) := by decide +kernel
theorem dX8_group_54 : decode cX8_group 54 = .ok (.iload_n 2, 1) := by decide +kernel
theorem dX8_group_55 : decode cX8_group 55 = .ok (.invokevirtual 142, 3) := by decide +kernel
theorem dX8_group_58 : decode cX8_group 58 = .ok (.ireturn, 1) := by decide +kernel
theorem dX8_group_59 : decode cX8_group 59 = .ok (.aload 4, 2) := by decide +kernel
theorem dX8_group_61 : decode cX8_group 61 = .ok (.iload_n 2, 1) := by decide +kernel
theorem dX8_group_62 : decode cX8_group 62 = .ok (.invokevirtual 146, 3) := by decide +kernel
theorem dX8_group_65 : decode cX8_group 65 = .ok (.ireturn, 1) := by decide +kernel
theorem dX8_group_66 : decode cX8_group 66 = .ok (.aload 4, 2) := by decide +kernel
theorem dX8_group_68 : decode cX8_group 68 = .ok (.iload_n 2, 1) := by decide +kernel
theorem dX8_group_69 : decode cX8_group 69 = .ok (.invokevirtual 149, 3) := by decide +kernel
theorem dX8_group_72 : decode cX8_group 72 = .ok (.ifCond .eq 7, 3) := by decide +kernel
theorem dX8_group_75 : decode cX8_group 75 = .ok (.iconst 1, 1) := by decide +kernel
theorem dX8_group_76 : decode cX8_group 76 = .ok (.goto 4, 3) := by decide +kernel
theorem dX8_group_79 : decode cX8_group 79 = .ok (.iconst 0, 1) := by decide +kernel
theorem dX8_group_80 : decode cX8_group 80 = .ok (.ireturn, 1) := by decide +kernel
theorem dX8_group_81 : decode cX8_group 81 = .ok (.ldc 80, 2) := by decide +kernel
theorem dX8_group_83 : decode cX8_group 83 = .ok (.ireturn, 1) := by decide +kernel
theorem dX8_find_0 : decode cX8_find 0 = .ok (.aload_n 0, 1) := by decide +kernel
theorem dX8_find_1 : decode cX8_find 1 = .ok (.iload_n 1, 1) := by decide +kernel
theorem dX8_find_2 : decode cX8_find 2 = .ok (.invokevirtual 136, 3) := by decide +kernel
theorem dX8_find_5 : decode cX8_find 5 = .ok (.astore_n 3, 1) := by decide +kernel
theorem dX8_find_6 : decode cX8_find 6 = .ok (.aload_n 3, 1) := by decide +kernel
theorem dX8_find_7 : decode cX8_find 7 = .ok (.ifnonnull 8, 3) := by decide +kernel
theorem dX8_find_10 : decode cX8_find 10 = .ok (.ldc 80, 2) := by decide +kernel
theorem dX8_find_12 : decode cX8_find 12 = .ok (.goto 8, 3) := by decide +kernel
theorem dX8_find_15 : decode cX8_find 15 = .ok (.aload_n 3, 1) := by decide +kernel
theorem dX8_find_16 : decode cX8_find 16 = .ok (.iload_n 2, 1) := by decide +kernel
theorem dX8_find_17 : decode cX8_find 17 = .ok (.invokevirtual 152, 3) := by decide +kernel
theorem dX8_find_20 : decode cX8_find 20 = .ok (.ireturn, 1) := by decide +kernel
theorem dX8_in_0 : decode cX8_in 0 = .ok (.aload_n 0, 1) := by decide +kernel
theorem dX8_in_1 : decode cX8_in 1 = .ok (.iload_n 1, 1) := by decide +kernel
theorem dX8_in_2 : decode cX8_in 2 = .ok (.invokevirtual 136, 3) := by decide +kernel
theorem dX8_in_5 : decode cX8_in 5 = .ok (.astore 4, 2) := by decide +kernel
theorem dX8_in_7 : decode cX8_in 7 = .ok (.aload 4, 2) := by decide +kernel
theorem dX8_in_9 : decode cX8_in 9 = .ok (.ifnull 23, 3) := by decide +kernel
theorem dX8_in_12 : decode cX8_in 12 = .ok (.aload 4, 2) := by decide +kernel
theorem dX8_in_14 : decode cX8_in 14 = .ok (.iload_n 2, 1) := by decide +kernel
theorem dX8_in_15 : decode cX8_in 15 = .ok (.invokevirtual 141, 3) := by decide +kernel
theorem dX8_in_18 : decode cX8_in 18 = .ok (.ifCond .eq 14, 3) := by decide +kernel
theorem dX8_in_21 : decode cX8_in 21 = .ok (.aload_n 0, 1) := by decide +kernel
theorem dX8_in_22 : decode cX8_in 22 = .ok (.getfield 13, 3) := by decide +kernel
theorem dX8_in_25 : decode cX8_in 25 = .ok (.iload_n 3, 1) := by decide +kernel
theorem dX8_in_26 : decode cX8_in 26 = .ok (.invokevirtual 70, 3) := by decide +kernel
theorem dX8_in_29 : decode cX8_in 29 = .ok (.ifCond .ne 6, 3) := by decide +kernel
theorem dX8_in_32 : decode cX8_in 32 = .ok (.ldc 80, 2) := by decide +kernel
theorem dX8_in_34 : decode cX8_in 34 = .ok (.ireturn, 1) := by decide +kernel
theorem dX8_in_35 : decode cX8_in 35 = .ok (.aload 4, 2) := by decide +kernel
theorem dX8_in_37 : decode cX8_in 37 = .ok (.iload_n 2, 1) := by decide +kernel
theorem dX8_in_38 : decode cX8_in 38 = .ok (.iload_n 3, 1) := by decide +kernel
theorem dX8_in_39 : decode cX8_in 39 = .ok (.invokevirtual 155, 3) := by decide +kernel
theorem dX8_in_42 : decode cX8_in 42 = .ok (.ifCond .eq 7, 3) := by decide +kernel
theorem dX8_in_45 : decode cX8_in 45 = .ok (.iconst 1, 1) := by decide +kernel
theorem dX8_in_46 : decode cX8_in 46 = .ok (.goto 4, 3) := by decide +kernel
theorem dX8_in_49 : decode cX8_in 49 = .ok (.iconst 0, 1) := by decide +kernel
theorem dX8_in_50 : decode cX8_in 50 = .ok (.ireturn, 1) := by decide +kernel
theorem dX8_enter_0 : decode cX8_enter 0 = .ok (.aload_n 0, 1) := by decide +kernel
theorem dX8_enter_1 : decode cX8_enter 1 = .ok (.iload_n 1, 1) := by decide +kernel
theorem dX8_enter_2 : decode cX8_enter 2 = .ok (.invokevirtual 136, 3) := by decide +kernel
theorem dX8_enter_5 : decode cX8_enter 5 = .ok (.astore_n 3, 1) := by decide +kernel
theorem dX8_enter_6 : decode cX8_enter 6 = .ok (.aload_n 3, 1) := by decide +kernel
theorem dX8_enter_7 : decode cX8_enter 7 = .ok (.ifnull 11, 3) := by decide +kernel
theorem dX8_enter_10 : decode cX8_enter 10 = .ok (.aload_n 3, 1) := by decide +kernel
theorem dX8_enter_11 : decode cX8_enter 11 = .ok (.iload_n 2, 1) := by decide +kernel
theorem dX8_enter_12 : decode cX8_enter 12 = .ok (.invokevirtual 141, 3) := by decide +kernel
theorem dX8_enter_15 : decode cX8_enter 15 = .ok (.ifCond .ne 6, 3) := by decide +kernel
theorem dX8_enter_18 : decode cX8_enter 18 = .ok (.ldc 80, 2) := by decide +kernel
theorem dX8_enter_20 : decode cX8_enter 20 = .ok (.ireturn, 1) := by decide +kernel
theorem dX8_enter_21 : decode cX8_enter 21 = .ok (.aload_n 0, 1) := by decide +kernel
theorem dX8_enter_22 : decode cX8_enter 22 = .ok (.getfield 24, 3) := by decide +kernel
theorem dX8_enter_25 : decode cX8_enter 25 = .ok (.getfield 159, 3) := by decide +kernel
theorem dX8_enter_28 : decode cX8_enter 28 = .ok (.bipush 6, 2) := by decide +kernel
theorem dX8_enter_30 : decode cX8_enter 30 = .ok (.if_icmp .lt 6, 3) := by decide +kernel
theorem dX8_enter_33 : decode cX8_enter 33 = .ok (.ldc 62, 2) := by decide +kernel
theorem dX8_enter_35 : decode cX8_enter 35 = .ok (.ireturn, 1) := by decide +kernel
theorem dX8_enter_36 : decode cX8_enter 36 = .ok (.aload_n 3, 1) := by decide +kernel
theorem dX8_enter_37 : decode cX8_enter 37 = .ok (.iload_n 2, 1) := by decide +kernel
theorem dX8_enter_38 : decode cX8_enter 38 = .ok (.invokevirtual 146, 3) := by decide +kernel
theorem dX8_enter_41 : decode cX8_enter 41 = .ok (.istore 4, 2) := by decide +kernel
theorem dX8_enter_43 : decode cX8_enter 43 = .ok (.aload_n 0, 1) := by decide +kernel
theorem dX8_enter_44 : decode cX8_enter 44 = .ok (.getfield 24, 3) := by decide +kernel
theorem dX8_enter_47 : decode cX8_enter 47 = .ok (.invokevirtual 162, 3) := by decide +kernel
theorem dX8_enter_50 : decode cX8_enter 50 = .ok (.iconst 0, 1) := by decide +kernel
theorem dX8_enter_51 : decode cX8_enter 51 = .ok (.istore 5, 2) := by decide +kernel
theorem dX8_enter_53 : decode cX8_enter 53 = .ok (.iload 5, 2) := by decide +kernel
theorem dX8_enter_55 : decode cX8_enter 55 = .ok (.iload 4, 2) := by decide +kernel
theorem dX8_enter_57 : decode cX8_enter 57 = .ok (.if_icmp .ge 23, 3) := by decide +kernel
theorem dX8_enter_60 : decode cX8_enter 60 = .ok (.aload_n 0, 1) := by decide +kernel
theorem dX8_enter_61 : decode cX8_enter 61 = .ok (.getfield 24, 3) := by decide +kernel
theorem dX8_enter_64 : decode cX8_enter 64 = .ok (.aload_n 3, 1) := by decide +kernel
theorem dX8_enter_65 : decode cX8_enter 65 = .ok (.iload_n 2, 1) := by decide +kernel
theorem dX8_enter_66 : decode cX8_enter 66 = .ok (.iload 5, 2) := by decide +kernel
theorem dX8_enter_68 : decode cX8_enter 68 = .ok (.invokevirtual 165, 3) := by decide +kernel
theorem dX8_enter_71 : decode cX8_enter 71 = .ok (.invokevirtual 168, 3) := by decide +kernel
theorem dX8_enter_74 : decode cX8_enter 74 = .ok (.iinc 5 1, 3) := by decide +kernel
theorem dX8_enter_77 : decode cX8_enter 77 = .ok (.goto (-24), 3) := by decide +kernel
theorem dX8_enter_80 : decode cX8_enter 80 = .ok (.aload_n 0, 1) := by decide +kernel
theorem dX8_enter_81 : decode cX8_enter 81 = .ok (.ldc 55, 2) := by decide +kernel
theorem dX8_enter_83 : decode cX8_enter 83 = .ok (.putfield 56, 3) := by decide +kernel
theorem dX8_enter_86 : decode cX8_enter 86 = .ok (.iload 4, 2) := by decide +kernel
theorem dX8_enter_88 : decode cX8_enter 88 = .ok (.ireturn, 1) := by decide +kernel
theorem dX8_leave_0 : decode cX8_leave 0 = .ok (.aload_n 0, 1) := by decide +kernel
theorem dX8_leave_1 : decode cX8_leave 1 = .ok (.getfield 24, 3) := by decide +kernel
theorem dX8_leave_4 : decode cX8_leave 4 = .ok (.getfield 159, 3) := by decide +kernel
theorem dX8_leave_7 : decode cX8_leave 7 = .ok (.ifCond .ne 6, 3) := by decide +kernel
theorem dX8_leave_10 : decode cX8_leave 10 = .ok (.ldc 107, 2) := by decide +kernel
theorem dX8_leave_12 : decode cX8_leave 12 = .ok (.ireturn, 1) := by decide +kernel
theorem dX8_leave_13 : decode cX8_leave 13 = .ok (.aload_n 0, 1) := by decide +kernel
theorem dX8_leave_14 : decode cX8_leave 14 = .ok (.getfield 24, 3) := by decide +kernel
theorem dX8_leave_17 : decode cX8_leave 17 = .ok (.invokevirtual 172, 3) := by decide +kernel
theorem dX8_leave_20 : decode cX8_leave 20 = .ok (.aload_n 0, 1) := by decide +kernel
theorem dX8_leave_21 : decode cX8_leave 21 = .ok (.ldc 55, 2) := by decide +kernel
theorem dX8_leave_23 : decode cX8_leave 23 = .ok (.putfield 56, 3) := by decide +kernel
theorem dX8_leave_26 : decode cX8_leave 26 = .ok (.aload_n 0, 1) := by decide +kernel
theorem dX8_leave_27 : decode cX8_leave 27 = .ok (.getfield 24, 3) := by decide +kernel
theorem dX8_leave_30 : decode cX8_leave 30 = .ok (.getfield 159, 3) := by decide +kernel
theorem dX8_leave_33 : decode cX8_leave 33 = .ok (.ireturn, 1) := by decide +kernel
theorem dX8_hand_0 : decode cX8_hand 0 = .ok (.iconst 0, 1) := by decide +kernel
theorem dX8_hand_1 : decode cX8_hand 1 = .ok (.istore_n 1, 1) := by decide +kernel
theorem dX8_hand_2 : decode cX8_hand 2 = .ok (.iconst 0, 1) := by decide +kernel
theorem dX8_hand_3 : decode cX8_hand 3 = .ok (.istore_n 2, 1) := by decide +kernel
theorem dX8_hand_4 : decode cX8_hand 4 = .ok (.iload_n 2, 1) := by decide +kernel
theorem dX8_hand_5 : decode cX8_hand 5 = .ok (.aload_n 0, 1) := by decide +kernel
theorem dX8_hand_6 : decode cX8_hand 6 = .ok (.getfield 13, 3) := by decide +kernel
theorem dX8_hand_9 : decode cX8_hand 9 = .ok (.getfield 59, 3) := by decide +kernel
theorem dX8_hand_12 : decode cX8_hand 12 = .ok (.if_icmp .ge 23, 3) := by decide +kernel
theorem dX8_hand_15 : decode cX8_hand 15 = .ok (.aload_n 0, 1) := by decide +kernel
theorem dX8_hand_16 : decode cX8_hand 16 = .ok (.getfield 24, 3) := by decide +kernel
theorem dX8_hand_19 : decode cX8_hand 19 = .ok (.iload_n 2, 1) := by decide +kernel
theorem dX8_hand_20 : decode cX8_hand 20 = .ok (.invokevirtual 175, 3) := by decide +kernel
theorem dX8_hand_23 : decode cX8_hand 23 = .ok (.ifCond .eq 6, 3) := by decide +kernel
theorem dX8_hand_26 : decode cX8_hand 26 = .ok (.iinc 1 1, 3) := by decide +kernel
theorem dX8_hand_29 : decode cX8_hand 29 = .ok (.iinc 2 1, 3) := by decide +kernel
theorem dX8_hand_32 : decode cX8_hand 32 = .ok (.goto (-28), 3) := by decide +kernel
theorem dX8_hand_35 : decode cX8_hand 35 = .ok (.iload_n 1, 1) := by decide +kernel
theorem dX8_hand_36 : decode cX8_hand 36 = .ok (.ireturn, 1) := by decide +kernel
theorem dX8_figure_0 : decode cX8_figure 0 = .ok (.aload_n 0, 1) := by decide +kernel
theorem dX8_figure_1 : decode cX8_figure 1 = .ok (.iload_n 1, 1) := by decide +kernel
theorem dX8_figure_2 : decode cX8_figure 2 = .ok (.iload_n 2, 1) := by decide +kernel
theorem dX8_figure_3 : decode cX8_figure 3 = .ok (.iload_n 3, 1) := by decide +kernel
theorem dX8_figure_4 : decode cX8_figure 4 = .ok (.invokevirtual 176, 3) := by decide +kernel
theorem dX8_figure_7 : decode cX8_figure 7 = .ok (.ifCond .eq 15, 3) := by decide +kernel
theorem dX8_figure_10 : decode cX8_figure 10 = .ok (.aload_n 0, 1) := by decide +kernel
theorem dX8_figure_11 : decode cX8_figure 11 = .ok (.getfield 47, 3) := by decide +kernel
theorem dX8_figure_14 : decode cX8_figure 14 = .ok (.iload 4, 2) := by decide +kernel
theorem dX8_figure_16 : decode cX8_figure 16 = .ok (.invokevirtual 180, 3) := by decide +kernel
theorem dX8_figure_19 : decode cX8_figure 19 = .ok (.goto 6, 3) := by decide +kernel
theorem dX8_figure_22 : decode cX8_figure 22 = .ok (.ldc2_w 184, 3) := by decide +kernel
theorem dX8_figure_25 : decode cX8_figure 25 = .ok (.lreturn, 1) := by decide +kernel
theorem dX8_place_0 : decode cX8_place 0 = .ok (.iload 4, 2) := by decide +kernel
theorem dX8_place_2 : decode cX8_place 2 = .ok (.ifCond .lt 20, 3) := by decide +kernel
theorem dX8_place_5 : decode cX8_place 5 = .ok (.iload 4, 2) := by decide +kernel
theorem dX8_place_7 : decode cX8_place 7 = .ok (.bipush 100, 2) := by decide +kernel
theorem dX8_place_9 : decode cX8_place 9 = .ok (.if_icmp .gt 13, 3) := by decide +kernel
theorem dX8_place_12 : decode cX8_place 12 = .ok (.aload_n 0, 1) := by decide +kernel
theorem dX8_place_13 : decode cX8_place 13 = .ok (.iload_n 1, 1) := by decide +kernel
theorem dX8_place_14 : decode cX8_place 14 = .ok (.iload_n 2, 1) := by decide +kernel
theorem dX8_place_15 : decode cX8_place 15 = .ok (.iload_n 3, 1) := by decide +kernel
theorem dX8_place_16 : decode cX8_place 16 = .ok (.invokevirtual 176, 3) := by decide +kernel
theorem dX8_place_19 : decode cX8_place 19 = .ok (.ifCond .ne 6, 3) := by decide +kernel
theorem dX8_place_22 : decode cX8_place 22 = .ok (.ldc 80, 2) := by decide +kernel
theorem dX8_place_24 : decode cX8_place 24 = .ok (.ireturn, 1) := by decide +kernel
theorem dX8_place_25 : decode cX8_place 25 = .ok (.aload_n 0, 1) := by decide +kernel
theorem dX8_place_26 : decode cX8_place 26 = .ok (.getfield 47, 3) := by decide +kernel
theorem dX8_place_29 : decode cX8_place 29 = .ok (.iload 4, 2) := by decide +kernel
theorem dX8_place_31 : decode cX8_place 31 = .ok (.invokevirtual 186, 3) := by decide +kernel
theorem dX8_place_34 : decode cX8_place 34 = .ok (.ireturn, 1) := by decide +kernel
theorem dX8_told_0 : decode cX8_told 0 = .ok (.iload_n 1, 1) := by decide +kernel
theorem dX8_told_1 : decode cX8_told 1 = .ok (.tableswitch 60 0 3 #[31, 39, 47, 52], 31) := by decide +kernel
theorem dX8_told_32 : decode cX8_told 32 = .ok (.aload_n 0, 1) := by decide +kernel
theorem dX8_told_33 : decode cX8_told 33 = .ok (.getfield 13, 3) := by decide +kernel
theorem dX8_told_36 : decode cX8_told 36 = .ok (.getfield 59, 3) := by decide +kernel
theorem dX8_told_39 : decode cX8_told 39 = .ok (.ireturn, 1) := by decide +kernel
theorem dX8_told_40 : decode cX8_told 40 = .ok (.aload_n 0, 1) := by decide +kernel
theorem dX8_told_41 : decode cX8_told 41 = .ok (.getfield 13, 3) := by decide +kernel
theorem dX8_told_44 : decode cX8_told 44 = .ok (.invokevirtual 189, 3) := by decide +kernel
theorem dX8_told_47 : decode cX8_told 47 = .ok (.ireturn, 1) := by decide +kernel
theorem dX8_told_48 : decode cX8_told 48 = .ok (.aload_n 0, 1) := by decide +kernel
theorem dX8_told_49 : decode cX8_told 49 = .ok (.getfield 51, 3) := by decide +kernel
theorem dX8_told_52 : decode cX8_told 52 = .ok (.ireturn, 1) := by decide +kernel
theorem dX8_told_53 : decode cX8_told 53 = .ok (.aload_n 0, 1) := by decide +kernel
theorem dX8_told_54 : decode cX8_told 54 = .ok (.getfield 24, 3) := by decide +kernel
theorem dX8_told_57 : decode cX8_told 57 = .ok (.getfield 159, 3) := by decide +kernel
theorem dX8_told_60 : decode cX8_told 60 = .ok (.ireturn, 1) := by decide +kernel
theorem dX8_told_61 : decode cX8_told 61 = .ok (.ldc 80, 2) := by decide +kernel
theorem dX8_told_63 : decode cX8_told 63 = .ok (.ireturn, 1) := by decide +kernel
theorem dX8_isColumn_0 : decode cX8_isColumn 0 = .ok (.iload_n 0, 1) := by decide +kernel
theorem dX8_isColumn_1 : decode cX8_isColumn 1 = .ok (.ifCond .lt 13, 3) := by decide +kernel
theorem dX8_isColumn_4 : decode cX8_isColumn 4 = .ok (.iload_n 0, 1) := by decide +kernel
theorem dX8_isColumn_5 : decode cX8_isColumn 5 = .ok (.bipush 6, 2) := by decide +kernel
theorem dX8_isColumn_7 : decode cX8_isColumn 7 = .ok (.if_icmp .ge 7, 3) := by decide +kernel
theorem dX8_isColumn_10 : decode cX8_isColumn 10 = .ok (.iconst 1, 1) := by decide +kernel
theorem dX8_isColumn_11 : decode cX8_isColumn 11 = .ok (.goto 4, 3) := by decide +kernel
theorem dX8_isColumn_14 : decode cX8_isColumn 14 = .ok (.iconst 0, 1) := by decide +kernel
theorem dX8_isColumn_15 : decode cX8_isColumn 15 = .ok (.ireturn, 1) := by decide +kernel
theorem dX8_isValue_0 : decode cX8_isValue 0 = .ok (.iload_n 0, 1) := by decide +kernel
theorem dX8_isValue_1 : decode cX8_isValue 1 = .ok (.ldc 192, 2) := by decide +kernel
theorem dX8_isValue_3 : decode cX8_isValue 3 = .ok (.if_icmp .lt 13, 3) := by decide +kernel
theorem dX8_isValue_6 : decode cX8_isValue 6 = .ok (.iload_n 0, 1) := by decide +kernel
theorem dX8_isValue_7 : decode cX8_isValue 7 = .ok (.ldc 193, 2) := by decide +kernel
theorem dX8_isValue_9 : decode cX8_isValue 9 = .ok (.if_icmp .gt 7, 3) := by decide +kernel
theorem dX8_isValue_12 : decode cX8_isValue 12 = .ok (.iconst 1, 1) := by decide +kernel
theorem dX8_isValue_13 : decode cX8_isValue 13 = .ok (.goto 4, 3) := by decide +kernel
theorem dX8_isValue_16 : decode cX8_isValue 16 = .ok (.iconst 0, 1) := by decide +kernel
theorem dX8_isValue_17 : decode cX8_isValue 17 = .ok (.ireturn, 1) := by decide +kernel
theorem dX8_facetAt_0 : decode cX8_facetAt 0 = .ok (.iload_n 1, 1) := by decide +kernel
theorem dX8_facetAt_1 : decode cX8_facetAt 1 = .ok (.ifCond .lt 20, 3) := by decide +kernel
theorem dX8_facetAt_4 : decode cX8_facetAt 4 = .ok (.iload_n 1, 1) := by decide +kernel
theorem dX8_facetAt_5 : decode cX8_facetAt 5 = .ok (.aload_n 0, 1) := by decide +kernel
theorem dX8_facetAt_6 : decode cX8_facetAt 6 = .ok (.getfield 51, 3) := by decide +kernel
theorem dX8_facetAt_9 : decode cX8_facetAt 9 = .ok (.if_icmp .ge 12, 3) := by decide +kernel
theorem dX8_facetAt_12 : decode cX8_facetAt 12 = .ok (.aload_n 0, 1) := by decide +kernel
theorem dX8_facetAt_13 : decode cX8_facetAt 13 = .ok (.getfield 30, 3) := by decide +kernel
theorem dX8_facetAt_16 : decode cX8_facetAt 16 = .ok (.iload_n 1, 1) := by decide +kernel
theorem dX8_facetAt_17 : decode cX8_facetAt 17 = .ok (.aaload, 1) := by decide +kernel
theorem dX8_facetAt_18 : decode cX8_facetAt 18 = .ok (.goto 4, 3) := by decide +kernel
theorem dX8_facetAt_21 : decode cX8_facetAt 21 = .ok (.aconst_null, 1) := by decide +kernel
theorem dX8_facetAt_22 : decode cX8_facetAt 22 = .ok (.areturn, 1) := by decide +kernel
theorem dX8_leaveAll_0 : decode cX8_leaveAll 0 = .ok (.aload_n 0, 1) := by decide +kernel
theorem dX8_leaveAll_1 : decode cX8_leaveAll 1 = .ok (.getfield 24, 3) := by decide +kernel
theorem dX8_leaveAll_4 : decode cX8_leaveAll 4 = .ok (.invokevirtual 194, 3) := by decide +kernel
theorem dX8_leaveAll_7 : decode cX8_leaveAll 7 = .ok (.aload_n 0, 1) := by decide +kernel
theorem dX8_leaveAll_8 : decode cX8_leaveAll 8 = .ok (.ldc 55, 2) := by decide +kernel
theorem dX8_leaveAll_10 : decode cX8_leaveAll 10 = .ok (.putfield 56, 3) := by decide +kernel
theorem dX8_leaveAll_13 : decode cX8_leaveAll 13 = .ok (.return_, 1) := by decide +kernel
theorem dX8_groupsOf_0 : decode cX8_groupsOf 0 = .ok (.aload_n 0, 1) := by decide +kernel
theorem dX8_groupsOf_1 : decode cX8_groupsOf 1 = .ok (.iload_n 1, 1) := by decide +kernel
theorem dX8_groupsOf_2 : decode cX8_groupsOf 2 = .ok (.invokevirtual 100, 3) := by decide +kernel
theorem dX8_groupsOf_5 : decode cX8_groupsOf 5 = .ok (.astore_n 2, 1) := by decide +kernel
theorem dX8_groupsOf_6 : decode cX8_groupsOf 6 = .ok (.aload_n 2, 1) := by decide +kernel
theorem dX8_groupsOf_7 : decode cX8_groupsOf 7 = .ok (.ifnull 52, 3) := by decide +kernel
theorem dX8_groupsOf_10 : decode cX8_groupsOf 10 = .ok (.aload_n 0, 1) := by decide +kernel
theorem dX8_groupsOf_11 : decode cX8_groupsOf 11 = .ok (.getfield 56, 3) := by decide +kernel
theorem dX8_groupsOf_14 : decode cX8_groupsOf 14 = .ok (.iload_n 1, 1) := by decide +kernel
theorem dX8_groupsOf_15 : decode cX8_groupsOf 15 = .ok (.if_icmp .eq 44, 3) := by decide +kernel
theorem dX8_groupsOf_18 : decode cX8_groupsOf 18 = .ok (.aload_n 0, 1) := by decide +kernel
theorem dX8_groupsOf_19 : decode cX8_groupsOf 19 = .ok (.getfield 40, 3) := by decide +kernel
theorem dX8_groupsOf_22 : decode cX8_groupsOf 22 = .ok (.aload_n 2, 1) := by decide +kernel
theorem dX8_groupsOf_23 : decode cX8_groupsOf 23 = .ok (.aload_n 0, 1) := by decide +kernel
theorem dX8_groupsOf_24 : decode cX8_groupsOf 24 = .ok (.getfield 13, 3) := by decide +kernel
theorem dX8_groupsOf_27 : decode cX8_groupsOf 27 = .ok (.aload_n 0, 1) := by decide +kernel
theorem dX8_groupsOf_28 : decode cX8_groupsOf 28 = .ok (.getfield 24, 3) := by decide +kernel
theorem dX8_groupsOf_31 : decode cX8_groupsOf 31 = .ok (.invokevirtual 197, 3) := by decide +kernel
theorem dX8_groupsOf_34 : decode cX8_groupsOf 34 = .ok (.aload_n 0, 1) := by decide +kernel
theorem dX8_groupsOf_35 : decode cX8_groupsOf 35 = .ok (.getfield 40, 3) := by decide +kernel
theorem dX8_groupsOf_38 : decode cX8_groupsOf 38 = .ok (.aload_n 2, 1) := by decide +kernel
theorem dX8_groupsOf_39 : decode cX8_groupsOf 39 = .ok (.invokevirtual 201, 3) := by decide +kernel
theorem dX8_groupsOf_42 : decode cX8_groupsOf 42 = .ok (.aload_n 0, 1) := by decide +kernel
theorem dX8_groupsOf_43 : decode cX8_groupsOf 43 = .ok (.getfield 40, 3) := by decide +kernel
theorem dX8_groupsOf_46 : decode cX8_groupsOf 46 = .ok (.aload_n 2, 1) := by decide +kernel
theorem dX8_groupsOf_47 : decode cX8_groupsOf 47 = .ok (.aload_n 0, 1) := by decide +kernel
theorem dX8_groupsOf_48 : decode cX8_groupsOf 48 = .ok (.getfield 13, 3) := by decide +kernel
theorem dX8_groupsOf_51 : decode cX8_groupsOf 51 = .ok (.invokevirtual 205, 3) := by decide +kernel
theorem dX8_groupsOf_54 : decode cX8_groupsOf 54 = .ok (.aload_n 0, 1) := by decide +kernel
theorem dX8_groupsOf_55 : decode cX8_groupsOf 55 = .ok (.iload_n 1, 1) := by decide +kernel
theorem dX8_groupsOf_56 : decode cX8_groupsOf 56 = .ok (.putfield 56, 3) := by decide +kernel
theorem dX8_groupsOf_59 : decode cX8_groupsOf 59 = .ok (.aload_n 2, 1) := by decide +kernel
theorem dX8_groupsOf_60 : decode cX8_groupsOf 60 = .ok (.ifnonnull 7, 3) := by decide +kernel
theorem dX8_groupsOf_63 : decode cX8_groupsOf 63 = .ok (.aconst_null, 1) := by decide +kernel
theorem dX8_groupsOf_64 : decode cX8_groupsOf 64 = .ok (.goto 7, 3) := by decide +kernel
theorem dX8_groupsOf_67 : decode cX8_groupsOf 67 = .ok (.aload_n 0, 1) := by decide +kernel
theorem dX8_groupsOf_68 : decode cX8_groupsOf 68 = .ok (.getfield 40, 3) := by decide +kernel
theorem dX8_groupsOf_71 : decode cX8_groupsOf 71 = .ok (.areturn, 1) := by decide +kernel
theorem dX8_sampleIsTaken_0 : decode cX8_sampleIsTaken 0 = .ok (.iload_n 3, 1) := by decide +kernel
theorem dX8_sampleIsTaken_1 : decode cX8_sampleIsTaken 1 = .ok (.invokestatic 74, 3) := by decide +kernel
theorem dX8_sampleIsTaken_4 : decode cX8_sampleIsTaken 4 = .ok (.ifCond .ne 5, 3) := by decide +kernel
theorem dX8_sampleIsTaken_7 : decode cX8_sampleIsTaken 7 = .ok (.iconst 0, 1) := by decide +kernel
theorem dX8_sampleIsTaken_8 : decode cX8_sampleIsTaken 8 = .ok (.ireturn, 1) := by decide +kernel
theorem dX8_sampleIsTaken_9 : decode cX8_sampleIsTaken 9 = .ok (.aload_n 0, 1) := by decide +kernel
theorem dX8_sampleIsTaken_10 : decode cX8_sampleIsTaken 10 = .ok (.getfield 47, 3) := by decide +kernel
theorem dX8_sampleIsTaken_13 : decode cX8_sampleIsTaken 13 = .ok (.invokevirtual 209, 3) := by decide +kernel
theorem dX8_sampleIsTaken_16 : decode cX8_sampleIsTaken 16 = .ok (.iload_n 2, 1) := by decide +kernel
theorem dX8_sampleIsTaken_17 : decode cX8_sampleIsTaken 17 = .ok (.ldc 55, 2) := by decide +kernel
theorem dX8_sampleIsTaken_19 : decode cX8_sampleIsTaken 19 = .ok (.if_icmp .ne 52, 3) := by decide +kernel
theorem dX8_sampleIsTaken_22 : decode cX8_sampleIsTaken 22 = .ok (.iconst 0, 1) := by decide +kernel
theorem dX8_sampleIsTaken_23 : decode cX8_sampleIsTaken 23 = .ok (.istore 4, 2) := by decide +kernel
theorem dX8_sampleIsTaken_25 : decode cX8_sampleIsTaken 25 = .ok (.iload 4, 2) := by decide +kernel
theorem dX8_sampleIsTaken_27 : decode cX8_sampleIsTaken 27 = .ok (.aload_n 0, 1) := by decide +kernel
theorem dX8_sampleIsTaken_28 : decode cX8_sampleIsTaken 28 = .ok (.getfield 13, 3) := by decide +kernel
theorem dX8_sampleIsTaken_31 : decode cX8_sampleIsTaken 31 = .ok (.getfield 59, 3) := by decide +kernel
theorem dX8_sampleIsTaken_34 : decode cX8_sampleIsTaken 34 = .ok (.if_icmp .ge 35, 3) := by decide +kernel
theorem dX8_sampleIsTaken_37 : decode cX8_sampleIsTaken 37 = .ok (.aload_n 0, 1) := by decide +kernel
theorem dX8_sampleIsTaken_38 : decode cX8_sampleIsTaken 38 = .ok (.getfield 24, 3) := by decide +kernel
theorem dX8_sampleIsTaken_41 : decode cX8_sampleIsTaken 41 = .ok (.iload 4, 2) := by decide +kernel
theorem dX8_sampleIsTaken_43 : decode cX8_sampleIsTaken 43 = .ok (.invokevirtual 175, 3) := by decide +kernel
theorem dX8_sampleIsTaken_46 : decode cX8_sampleIsTaken 46 = .ok (.ifCond .eq 17, 3) := by decide +kernel
theorem dX8_sampleIsTaken_49 : decode cX8_sampleIsTaken 49 = .ok (.aload_n 0, 1) := by decide +kernel
theorem dX8_sampleIsTaken_50 : decode cX8_sampleIsTaken 50 = .ok (.getfield 47, 3) := by decide +kernel
theorem dX8_sampleIsTaken_53 : decode cX8_sampleIsTaken 53 = .ok (.aload_n 0, 1) := by decide +kernel
theorem dX8_sampleIsTaken_54 : decode cX8_sampleIsTaken 54 = .ok (.getfield 13, 3) := by decide +kernel
theorem dX8_sampleIsTaken_57 : decode cX8_sampleIsTaken 57 = .ok (.iload 4, 2) := by decide +kernel
theorem dX8_sampleIsTaken_59 : decode cX8_sampleIsTaken 59 = .ok (.iload_n 3, 1) := by decide +kernel
theorem dX8_sampleIsTaken_60 : decode cX8_sampleIsTaken 60 = .ok (.invokevirtual 211, 3) := by decide +kernel
theorem dX8_sampleIsTaken_63 : decode cX8_sampleIsTaken 63 = .ok (.iinc 4 1, 3) := by decide +kernel
theorem dX8_sampleIsTaken_66 : decode cX8_sampleIsTaken 66 = .ok (.goto (-41), 3) := by decide +kernel
theorem dX8_sampleIsTaken_69 : decode cX8_sampleIsTaken 69 = .ok (.iconst 1, 1) := by decide +kernel
theorem dX8_sampleIsTaken_70 : decode cX8_sampleIsTaken 70 = .ok (.ireturn, 1) := by decide +kernel
theorem dX8_sampleIsTaken_71 : decode cX8_sampleIsTaken 71 = .ok (.aload_n 0, 1) := by decide +kernel
theorem dX8_sampleIsTaken_72 : decode cX8_sampleIsTaken 72 = .ok (.iload_n 1, 1) := by decide +kernel
theorem dX8_sampleIsTaken_73 : decode cX8_sampleIsTaken 73 = .ok (.invokevirtual 136, 3) := by decide +kernel
theorem dX8_sampleIsTaken_76 : decode cX8_sampleIsTaken 76 = .ok (.astore 4, 2) := by decide +kernel
theorem dX8_sampleIsTaken_78 : decode cX8_sampleIsTaken 78 = .ok (.aload 4, 2) := by decide +kernel
theorem dX8_sampleIsTaken_80 : decode cX8_sampleIsTaken 80 = .ok (.ifnull 12, 3) := by decide +kernel
theorem dX8_sampleIsTaken_83 : decode cX8_sampleIsTaken 83 = .ok (.aload 4, 2) := by decide +kernel
theorem dX8_sampleIsTaken_85 : decode cX8_sampleIsTaken 85 = .ok (.iload_n 2, 1) := by decide +kernel
theorem dX8_sampleIsTaken_86 : decode cX8_sampleIsTaken 86 = .ok (.invokevirtual 141, 3) := by decide +kernel
theorem dX8_sampleIsTaken_89 : decode cX8_sampleIsTaken 89 = .ok (.ifCond .ne 5, 3) := by decide +kernel
theorem dX8_sampleIsTaken_92 : decode cX8_sampleIsTaken 92 = .ok (.iconst 0, 1) := by decide +kernel
theorem dX8_sampleIsTaken_93 : decode cX8_sampleIsTaken 93 = .ok (.ireturn, 1) := by decide +kernel
theorem dX8_sampleIsTaken_94 : decode cX8_sampleIsTaken 94 = .ok (.aload 4, 2) := by decide +kernel
theorem dX8_sampleIsTaken_96 : decode cX8_sampleIsTaken 96 = .ok (.iload_n 2, 1) := by decide +kernel
theorem dX8_sampleIsTaken_97 : decode cX8_sampleIsTaken 97 = .ok (.invokevirtual 146, 3) := by decide +kernel
theorem dX8_sampleIsTaken_100 : decode cX8_sampleIsTaken 100 = .ok (.istore 5, 2) := by decide +kernel
theorem dX8_sampleIsTaken_102 : decode cX8_sampleIsTaken 102 = .ok (.iconst 0, 1) := by decide +kernel
theorem dX8_sampleIsTaken_103 : decode cX8_sampleIsTaken 103 = .ok (.istore 6, 2) := by decide +kernel
theorem dX8_sampleIsTaken_105 : decode cX8_sampleIsTaken 105 = .ok (.iload 6, 2) := by decide +kernel
theorem dX8_sampleIsTaken_107 : decode cX8_sampleIsTaken 107 = .ok (.iload 5, 2) := by decide +kernel
theorem dX8_sampleIsTaken_109 : decode cX8_sampleIsTaken 109 = .ok (.if_icmp .ge 29, 3) := by decide +kernel
theorem dX8_sampleIsTaken_112 : decode cX8_sampleIsTaken 112 = .ok (.aload_n 0, 1) := by decide +kernel
theorem dX8_sampleIsTaken_113 : decode cX8_sampleIsTaken 113 = .ok (.getfield 47, 3) := by decide +kernel
theorem dX8_sampleIsTaken_116 : decode cX8_sampleIsTaken 116 = .ok (.aload_n 0, 1) := by decide +kernel
theorem dX8_sampleIsTaken_117 : decode cX8_sampleIsTaken 117 = .ok (.getfield 13, 3) := by decide +kernel
theorem dX8_sampleIsTaken_120 : decode cX8_sampleIsTaken 120 = .ok (.aload 4, 2) := by decide +kernel
theorem dX8_sampleIsTaken_122 : decode cX8_sampleIsTaken 122 = .ok (.iload_n 2, 1) := by decide +kernel
theorem dX8_sampleIsTaken_123 : decode cX8_sampleIsTaken 123 = .ok (.iload 6, 2) := by decide +kernel
theorem dX8_sampleIsTaken_125 : decode cX8_sampleIsTaken 125 = .ok (.invokevirtual 165, 3) := by decide +kernel
theorem dX8_sampleIsTaken_128 : decode cX8_sampleIsTaken 128 = .ok (.iload_n 3, 1) := by decide +kernel
theorem dX8_sampleIsTaken_129 : decode cX8_sampleIsTaken 129 = .ok (.invokevirtual 211, 3) := by decide +kernel
theorem dX8_sampleIsTaken_132 : decode cX8_sampleIsTaken 132 = .ok (.iinc 6 1, 3) := by decide +kernel
theorem dX8_sampleIsTaken_135 : decode cX8_sampleIsTaken 135 = .ok (.goto (-30), 3) := by decide +kernel
theorem dX8_sampleIsTaken_138 : decode cX8_sampleIsTaken 138 = .ok (.iconst 1, 1) := by decide +kernel
theorem dX8_sampleIsTaken_139 : decode cX8_sampleIsTaken 139 = .ok (.ireturn, 1) := by decide +kernel
