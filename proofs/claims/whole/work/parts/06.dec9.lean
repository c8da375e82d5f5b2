theorem dX9_init_0 : decode cX9_init 0 = .ok (.aload_n 0, 1) := by decide +kernel
theorem dX9_init_1 : decode cX9_init 1 = .ok (.invokespecial 1, 3) := by decide +kernel
theorem dX9_init_4 : decode cX9_init 4 = .ok (.aload_n 0, 1) := by decide +kernel
theorem dX9_init_5 : decode cX9_init 5 = .ok (.sipush 720, 3) := by decide +kernel
theorem dX9_init_8 : decode cX9_init 8 = .ok (.newarray .int, 2) := by decide +kernel
theorem dX9_init_10 : decode cX9_init 10 = .ok (.putfield 7, 3) := by decide +kernel
theorem dX9_init_13 : decode cX9_init 13 = .ok (.aload_n 0, 1) := by decide +kernel
theorem dX9_init_14 : decode cX9_init 14 = .ok (.sipush 2160, 3) := by decide +kernel
theorem dX9_init_17 : decode cX9_init 17 = .ok (.newarray .int, 2) := by decide +kernel
theorem dX9_init_19 : decode cX9_init 19 = .ok (.putfield 13, 3) := by decide +kernel
theorem dX9_init_22 : decode cX9_init 22 = .ok (.aload_n 0, 1) := by decide +kernel
theorem dX9_init_23 : decode cX9_init 23 = .ok (.bipush 120, 2) := by decide +kernel
theorem dX9_init_25 : decode cX9_init 25 = .ok (.newarray .boolean, 2) := by decide +kernel
theorem dX9_init_27 : decode cX9_init 27 = .ok (.putfield 16, 3) := by decide +kernel
theorem dX9_init_30 : decode cX9_init 30 = .ok (.aload_n 0, 1) := by decide +kernel
theorem dX9_init_31 : decode cX9_init 31 = .ok (.bipush 10, 2) := by decide +kernel
theorem dX9_init_33 : decode cX9_init 33 = .ok (.newarray .int, 2) := by decide +kernel
theorem dX9_init_35 : decode cX9_init 35 = .ok (.putfield 20, 3) := by decide +kernel
theorem dX9_init_38 : decode cX9_init 38 = .ok (.aload_n 0, 1) := by decide +kernel
theorem dX9_init_39 : decode cX9_init 39 = .ok (.bipush 10, 2) := by decide +kernel
theorem dX9_init_41 : decode cX9_init 41 = .ok (.newarray .int, 2) := by decide +kernel
theorem dX9_init_43 : decode cX9_init 43 = .ok (.putfield 23, 3) := by decide +kernel
theorem dX9_init_46 : decode cX9_init 46 = .ok (.aload_n 0, 1) := by decide +kernel
theorem dX9_init_47 : decode cX9_init 47 = .ok (.bipush 10, 2) := by decide +kernel
theorem dX9_init_49 : decode cX9_init 49 = .ok (.newarray .int, 2) := by decide +kernel
theorem dX9_init_51 : decode cX9_init 51 = .ok (.putfield 26, 3) := by decide +kernel
theorem dX9_init_54 : decode cX9_init 54 = .ok (.aload_n 0, 1) := by decide +kernel
theorem dX9_init_55 : decode cX9_init 55 = .ok (.bipush 10, 2) := by decide +kernel
theorem dX9_init_57 : decode cX9_init 57 = .ok (.newarray .int, 2) := by decide +kernel
theorem dX9_init_59 : decode cX9_init 59 = .ok (.putfield 29, 3) := by decide +kernel
theorem dX9_init_62 : decode cX9_init 62 = .ok (.aload_n 0, 1) := by decide +kernel
theorem dX9_init_63 : decode cX9_init 63 = .ok (.bipush 10, 2) := by decide +kernel
theorem dX9_init_65 : decode cX9_init 65 = .ok (.newarray .int, 2) := by decide +kernel
theorem dX9_init_67 : decode cX9_init 67 = .ok (.putfield 32, 3) := by decide +kernel
theorem dX9_init_70 : decode cX9_init 70 = .ok (.aload_n 0, 1) := by decide +kernel
theorem dX9_init_71 : decode cX9_init 71 = .ok (.bipush 60, 2) := by decide +kernel
theorem dX9_init_73 : decode cX9_init 73 = .ok (.newarray .int, 2) := by decide +kernel
theorem dX9_init_75 : decode cX9_init 75 = .ok (.putfield 35, 3) := by decide +kernel
theorem dX9_init_78 : decode cX9_init 78 = .ok (.aload_n 0, 1) := by decide +kernel
theorem dX9_init_79 : decode cX9_init 79 = .ok (.bipush 60, 2) := by decide +kernel
theorem dX9_init_81 : decode cX9_init 81 = .ok (.newarray .int, 2) := by decide +kernel
theorem dX9_init_83 : decode cX9_init 83 = .ok (.putfield 38, 3) := by decide +kernel
theorem dX9_init_86 : decode cX9_init 86 = .ok (.aload_n 0, 1) := by decide +kernel
theorem dX9_init_87 : decode cX9_init 87 = .ok (.bipush 10, 2) := by decide +kernel
theorem dX9_init_89 : decode cX9_init 89 = .ok (.newarray .int, 2) := by decide +kernel
theorem dX9_init_91 : decode cX9_init 91 = .ok (.putfield 41, 3) := by decide +kernel
theorem dX9_init_94 : decode cX9_init 94 = .ok (.aload_n 0, 1) := by decide +kernel
theorem dX9_init_95 : decode cX9_init 95 = .ok (.bipush 10, 2) := by decide +kernel
theorem dX9_init_97 : decode cX9_init 97 = .ok (.newarray .int, 2) := by decide +kernel
theorem dX9_init_99 : decode cX9_init 99 = .ok (.putfield 44, 3) := by decide +kernel
theorem dX9_init_102 : decode cX9_init 102 = .ok (.aload_n 0, 1) := by decide +kernel
theorem dX9_init_103 : decode cX9_init 103 = .ok (.bipush 10, 2) := by decide +kernel
theorem dX9_init_105 : decode cX9_init 105 = .ok (.newarray .int, 2) := by decide +kernel
theorem dX9_init_107 : decode cX9_init 107 = .ok (.putfield 47, 3) := by decide +kernel
theorem dX9_init_110 : decode cX9_init 110 = .ok (.aload_n 0, 1) := by decide +kernel
theorem dX9_init_111 : decode cX9_init 111 = .ok (.bipush 10, 2) := by decide +kernel
theorem dX9_init_113 : decode cX9_init 113 = .ok (.newarray .int, 2) := by decide +kernel
theorem dX9_init_115 : decode cX9_init 115 = .ok (.putfield 50, 3) := by decide +kernel
theorem dX9_init_118 : decode cX9_init 118 = .ok (.aload_n 0, 1) := by decide +kernel
theorem dX9_init_119 : decode cX9_init 119 = .ok (.bipush 10, 2) := by decide +kernel
theorem dX9_init_121 : decode cX9_init 121 = .ok (.newarray .boolean, 2) := by decide +kernel
theorem dX9_init_123 : decode cX9_init 123 = .ok (.putfield 53, 3) := by decide +kernel
theorem dX9_init_126 : decode cX9_init 126 = .ok (.aload_n 0, 1) := by decide +kernel
theorem dX9_init_127 : decode cX9_init 127 = .ok (.bipush 10, 2) := by decide +kernel
theorem dX9_init_129 : decode cX9_init 129 = .ok (.newarray .int, 2) := by decide +kernel
theorem dX9_init_131 : decode cX9_init 131 = .ok (.putfield 56, 3) := by decide +kernel
theorem dX9_init_134 : decode cX9_init 134 = .ok (.aload_n 0, 1) := by decide +kernel
theorem dX9_init_135 : decode cX9_init 135 = .ok (.bipush 10, 2) := by decide +kernel
theorem dX9_init_137 : decode cX9_init 137 = .ok (.newarray .int, 2) := by decide +kernel
theorem dX9_init_139 : decode cX9_init 139 = .ok (.putfield 59, 3) := by decide +kernel
theorem dX9_init_142 : decode cX9_init 142 = .ok (.aload_n 0, 1) := by decide +kernel
theorem dX9_init_143 : decode cX9_init 143 = .ok (.sipush 840, 3) := by decide +kernel
theorem dX9_init_146 : decode cX9_init 146 = .ok (.newarray .boolean, 2) := by decide +kernel
theorem dX9_init_148 : decode cX9_init 148 = .ok (.putfield 62, 3) := by decide +kernel
theorem dX9_init_151 : decode cX9_init 151 = .ok (.aload_n 0, 1) := by decide +kernel
theorem dX9_init_152 : decode cX9_init 152 = .ok (.bipush 6, 2) := by decide +kernel
theorem dX9_init_154 : decode cX9_init 154 = .ok (.newarray .int, 2) := by decide +kernel
theorem dX9_init_156 : decode cX9_init 156 = .ok (.putfield 65, 3) := by decide +kernel
theorem dX9_init_159 : decode cX9_init 159 = .ok (.aload_n 0, 1) := by decide +kernel
theorem dX9_init_160 : decode cX9_init 160 = .ok (.sipush 1100, 3) := by decide +kernel
theorem dX9_init_163 : decode cX9_init 163 = .ok (.newarray .int, 2) := by decide +kernel
theorem dX9_init_165 : decode cX9_init 165 = .ok (.putfield 68, 3) := by decide +kernel
theorem dX9_init_168 : decode cX9_init 168 = .ok (.aload_n 0, 1) := by decide +kernel
theorem dX9_init_169 : decode cX9_init 169 = .ok (.sipush 1100, 3) := by decide +kernel
theorem dX9_init_172 : decode cX9_init 172 = .ok (.newarray .int, 2) := by decide +kernel
theorem dX9_init_174 : decode cX9_init 174 = .ok (.putfield 71, 3) := by decide +kernel
theorem dX9_init_177 : decode cX9_init 177 = .ok (.aload_n 0, 1) := by decide +kernel
theorem dX9_init_178 : decode cX9_init 178 = .ok (.sipush 1100, 3) := by decide +kernel
theorem dX9_init_181 : decode cX9_init 181 = .ok (.newarray .long, 2) := by decide +kernel
theorem dX9_init_183 : decode cX9_init 183 = .ok (.putfield 74, 3) := by decide +kernel
theorem dX9_init_186 : decode cX9_init 186 = .ok (.aload_n 0, 1) := by decide +kernel
theorem dX9_init_187 : decode cX9_init 187 = .ok (.bipush 120, 2) := by decide +kernel
theorem dX9_init_189 : decode cX9_init 189 = .ok (.newarray .int, 2) := by decide +kernel
theorem dX9_init_191 : decode cX9_init 191 = .ok (.putfield 78, 3) := by decide +kernel
theorem dX9_init_194 : decode cX9_init 194 = .ok (.aload_n 0, 1) := by decide +kernel
theorem dX9_init_195 : decode cX9_init 195 = .ok (.sipush 2160, 3) := by decide +kernel
theorem dX9_init_198 : decode cX9_init 198 = .ok (.newarray .int, 2) := by decide +kernel
theorem dX9_init_200 : decode cX9_init 200 = .ok (.putfield 81, 3) := by decide +kernel
theorem dX9_init_203 : decode cX9_init 203 = .ok (.aload_n 0, 1) := by decide +kernel
theorem dX9_init_204 : decode cX9_init 204 = .ok (.bipush 120, 2) := by decide +kernel
theorem dX9_init_206 : decode cX9_init 206 = .ok (.newarray .boolean, 2) := by decide +kernel
theorem dX9_init_208 : decode cX9_init 208 = .ok (.putfield 84, 3) := by decide +kernel
theorem dX9_init_211 : decode cX9_init 211 = .ok (.aload_n 0, 1) := by decide +kernel
theorem dX9_init_212 : decode cX9_init 212 = .ok (.sipush 360, 3) := by decide +kernel
theorem dX9_init_215 : decode cX9_init 215 = .ok (.newarray .int, 2) := by decide +kernel
theorem dX9_init_217 : decode cX9_init 217 = .ok (.putfield 87, 3) := by decide +kernel
theorem dX9_init_220 : decode cX9_init 220 = .ok (.return_, 1) := by decide +kernel
theorem dX9_within_0 : decode cX9_within 0 = .ok (.iload_n 0, 1) := by decide +kernel
theorem dX9_within_1 : decode cX9_within 1 = .ok (.iload_n 1, 1) := by decide +kernel
theorem dX9_within_2 : decode cX9_within 2 = .ok (.if_icmp .lt 12, 3) := by decide +kernel
theorem dX9_within_5 : decode cX9_within 5 = .ok (.iload_n 0, 1) := by decide +kernel
theorem dX9_within_6 : decode cX9_within 6 = .ok (.iload_n 2, 1) := by decide +kernel
theorem dX9_within_7 : decode cX9_within 7 = .ok (.if_icmp .gt 7, 3) := by decide +kernel
theorem dX9_within_10 : decode cX9_within 10 = .ok (.iconst 1, 1) := by decide +kernel
theorem dX9_within_11 : decode cX9_within 11 = .ok (.goto 4, 3) := by decide +kernel
theorem dX9_within_14 : decode cX9_within 14 = .ok (.iconst 0, 1) := by decide +kernel
theorem dX9_within_15 : decode cX9_within 15 = .ok (.ireturn, 1) := by decide +kernel
theorem dX9_isObject_0 : decode cX9_isObject 0 = .ok (.iload_n 1, 1) := by decide +kernel
theorem dX9_isObject_1 : decode cX9_isObject 1 = .ok (.iconst 0, 1) := by decide +kernel
theorem dX9_isObject_2 : decode cX9_isObject 2 = .ok (.aload_n 0, 1) := by decide +kernel
theorem dX9_isObject_3 : decode cX9_isObject 3 = .ok (.getfield 90, 3) := by decide +kernel
theorem dX9_isObject_6 : decode cX9_isObject 6 = .ok (.iconst 1, 1) := by decide +kernel
theorem dX9_isObject_7 : decode cX9_isObject 7 = .ok (.isub, 1) := by decide +kernel
theorem dX9_isObject_8 : decode cX9_isObject 8 = .ok (.invokestatic 94, 3) := by decide +kernel
theorem dX9_isObject_11 : decode cX9_isObject 11 = .ok (.ireturn, 1) := by decide +kernel
theorem dX9_isFacet_0 : decode cX9_isFacet 0 = .ok (.iload_n 1, 1) := by decide +kernel
theorem dX9_isFacet_1 : decode cX9_isFacet 1 = .ok (.iconst 0, 1) := by decide +kernel
theorem dX9_isFacet_2 : decode cX9_isFacet 2 = .ok (.aload_n 0, 1) := by decide +kernel
theorem dX9_isFacet_3 : decode cX9_isFacet 3 = .ok (.getfield 98, 3) := by decide +kernel
theorem dX9_isFacet_6 : decode cX9_isFacet 6 = .ok (.iconst 1, 1) := by decide +kernel
theorem dX9_isFacet_7 : decode cX9_isFacet 7 = .ok (.isub, 1) := by decide +kernel
theorem dX9_isFacet_8 : decode cX9_isFacet 8 = .ok (.invokestatic 94, 3) := by decide +kernel
theorem dX9_isFacet_11 : decode cX9_isFacet 11 = .ok (.ireturn, 1) := by decide +kernel
theorem dX9_isColumn_0 : decode cX9_isColumn 0 = .ok (.iload_n 0, 1) := by decide +kernel
theorem dX9_isColumn_1 : decode cX9_isColumn 1 = .ok (.iconst 0, 1) := by decide +kernel
theorem dX9_isColumn_2 : decode cX9_isColumn 2 = .ok (.iconst 5, 1) := by decide +kernel
theorem dX9_isColumn_3 : decode cX9_isColumn 3 = .ok (.invokestatic 94, 3) := by decide +kernel
theorem dX9_isColumn_6 : decode cX9_isColumn 6 = .ok (.ireturn, 1) := by decide +kernel
theorem dX9_isValue_0 : decode cX9_isValue 0 = .ok (.iload_n 0, 1) := by decide +kernel
theorem dX9_isValue_1 : decode cX9_isValue 1 = .ok (.ldc 101, 2) := by decide +kernel
theorem dX9_isValue_3 : decode cX9_isValue 3 = .ok (.ldc 102, 2) := by decide +kernel
theorem dX9_isValue_5 : decode cX9_isValue 5 = .ok (.invokestatic 94, 3) := by decide +kernel
theorem dX9_isValue_8 : decode cX9_isValue 8 = .ok (.ireturn, 1) := by decide +kernel
theorem dX9_changes_0 : decode cX9_changes 0 = .ok (.aload_n 0, 1) := by decide +kernel
theorem dX9_changes_1 : decode cX9_changes 1 = .ok (.iconst 0, 1) := by decide +kernel
theorem dX9_changes_2 : decode cX9_changes 2 = .ok (.putfield 103, 3) := by decide +kernel
theorem dX9_changes_5 : decode cX9_changes 5 = .ok (.return_, 1) := by decide +kernel
theorem dX9_object_0 : decode cX9_object 0 = .ok (.aload_n 0, 1) := by decide +kernel
theorem dX9_object_1 : decode cX9_object 1 = .ok (.getfield 90, 3) := by decide +kernel
theorem dX9_object_4 : decode cX9_object 4 = .ok (.bipush 120, 2) := by decide +kernel
theorem dX9_object_6 : decode cX9_object 6 = .ok (.if_icmp .ne 6, 3) := by decide +kernel
theorem dX9_object_9 : decode cX9_object 9 = .ok (.ldc 106, 2) := by decide +kernel
theorem dX9_object_11 : decode cX9_object 11 = .ok (.ireturn, 1) := by decide +kernel
theorem dX9_object_12 : decode cX9_object 12 = .ok (.iconst 0, 1) := by decide +kernel
theorem dX9_object_13 : decode cX9_object 13 = .ok (.istore_n 1, 1) := by decide +kernel
theorem dX9_object_14 : decode cX9_object 14 = .ok (.iload_n 1, 1) := by decide +kernel
theorem dX9_object_15 : decode cX9_object 15 = .ok (.bipush 6, 2) := by decide +kernel
theorem dX9_object_17 : decode cX9_object 17 = .ok (.if_icmp .ge 24, 3) := by decide +kernel
theorem dX9_object_20 : decode cX9_object 20 = .ok (.aload_n 0, 1) := by decide +kernel
theorem dX9_object_21 : decode cX9_object 21 = .ok (.getfield 7, 3) := by decide +kernel
theorem dX9_object_24 : decode cX9_object 24 = .ok (.bipush 6, 2) := by decide +kernel
theorem dX9_object_26 : decode cX9_object 26 = .ok (.aload_n 0, 1) := by decide +kernel
theorem dX9_object_27 : decode cX9_object 27 = .ok (.getfield 90, 3) := by decide +kernel
theorem dX9_object_30 : decode cX9_object 30 = .ok (.imul, 1) := by decide +kernel
theorem dX9_object_31 : decode cX9_object 31 = .ok (.iload_n 1, 1) := by decide +kernel
theorem dX9_object_32 : decode cX9_object 32 = .ok (.iadd, 1) := by decide +kernel
theorem dX9_object_33 : decode cX9_object 33 = .ok (.iconst 0, 1) := by decide +kernel
theorem dX9_object_34 : decode cX9_object 34 = .ok (.iastore, 1) := by decide +kernel
theorem dX9_object_35 : decode cX9_object 35 = .ok (.iinc 1 1, 3) := by decide +kernel
theorem dX9_object_38 : decode cX9_object 38 = .ok (.goto (-24), 3) := by decide +kernel
theorem dX9_object_41 : decode cX9_object 41 = .ok (.aload_n 0, 1) := by decide +kernel
theorem dX9_object_42 : decode cX9_object 42 = .ok (.getfield 16, 3) := by decide +kernel
theorem dX9_object_45 : decode cX9_object 45 = .ok (.aload_n 0, 1) := by decide +kernel
theorem dX9_object_46 : decode cX9_object 46 = .ok (.getfield 90, 3) := by decide +kernel
theorem dX9_object_49 : decode cX9_object 49 = .ok (.iconst 0, 1) := by decide +kernel
theorem dX9_object_50 : decode cX9_object 50 = .ok (.bastore, 1) := by decide +kernel
theorem dX9_object_51 : decode cX9_object 51 = .ok (.aload_n 0, 1) := by decide +kernel
theorem dX9_object_52 : decode cX9_object 52 = .ok (.dup, 1) := by decide +kernel
theorem dX9_object_53 : decode cX9_object 53 = .ok (.getfield 90, 3) := by decide +kernel
theorem dX9_object_56 : decode cX9_object 56 = .ok (.iconst 1, 1) := by decide +kernel
theorem dX9_object_57 : decode cX9_object 57 = .ok (.iadd, 1) := by decide +kernel
theorem dX9_object_58 : decode cX9_object 58 = .ok (.putfield 90, 3) := by decide +kernel
theorem dX9_object_61 : decode cX9_object 61 = .ok (.aload_n 0, 1) := by decide +kernel
theorem dX9_object_62 : decode cX9_object 62 = .ok (.invokevirtual 107, 3) := by decide +kernel
theorem dX9_object_65 : decode cX9_object 65 = .ok (.aload_n 0, 1) := by decide +kernel
theorem dX9_object_66 : decode cX9_object 66 = .ok (.getfield 90, 3) := by decide +kernel
theorem dX9_object_69 : decode cX9_object 69 = .ok (.iconst 1, 1) := by decide +kernel
theorem dX9_object_70 : decode cX9_object 70 = .ok (.isub, 1) := by decide +kernel
theorem dX9_object_71 : decode cX9_object 71 = .ok (.ireturn, 1) := by decide +kernel
theorem dX9_value_0 : decode cX9_value 0 = .ok (.aload_n 0, 1) := by decide +kernel
theorem dX9_value_1 : decode cX9_value 1 = .ok (.iload_n 1, 1) := by decide +kernel
theorem dX9_value_2 : decode cX9_value 2 = .ok (.invokevirtual 110, 3) := by decide +kernel
theorem dX9_value_5 : decode cX9_value 5 = .ok (.ifCond .eq 17, 3) := by decide +kernel
theorem dX9_value_8 : decode cX9_value 8 = .ok (.iload_n 2, 1) := by decide +kernel
theorem dX9_value_9 : decode cX9_value 9 = .ok (.invokestatic 114, 3) := by decide +kernel
theorem dX9_value_12 : decode cX9_value 12 = .ok (.ifCond .eq 10, 3) := by decide +kernel
theorem dX9_value_15 : decode cX9_value 15 = .ok (.iload_n 3, 1) := by decide +kernel
theorem dX9_value_16 : decode cX9_value 16 = .ok (.invokestatic 117, 3) := by decide +kernel
theorem dX9_value_19 : decode cX9_value 19 = .ok (.ifCond .ne 6, 3) := by decide +kernel
theorem dX9_value_22 : decode cX9_value 22 = .ok (.ldc 120, 2) := by decide +kernel
theorem dX9_value_24 : decode cX9_value 24 = .ok (.ireturn, 1) := by decide +kernel
theorem dX9_value_25 : decode cX9_value 25 = .ok (.bipush 6, 2) := by decide +kernel
theorem dX9_value_27 : decode cX9_value 27 = .ok (.iload_n 1, 1) := by decide +kernel
theorem dX9_value_28 : decode cX9_value 28 = .ok (.imul, 1) := by decide +kernel
theorem dX9_value_29 : decode cX9_value 29 = .ok (.iload_n 2, 1) := by decide +kernel
theorem dX9_value_30 : decode cX9_value 30 = .ok (.iadd, 1) := by decide +kernel
theorem dX9_value_31 : decode cX9_value 31 = .ok (.istore 4, 2) := by decide +kernel
theorem dX9_value_33 : decode cX9_value 33 = .ok (.aload_n 0, 1) := by decide +kernel
theorem dX9_value_34 : decode cX9_value 34 = .ok (.getfield 7, 3) := by decide +kernel
theorem dX9_value_37 : decode cX9_value 37 = .ok (.iload 4, 2) := by decide +kernel
theorem dX9_value_39 : decode cX9_value 39 = .ok (.iaload, 1) := by decide +kernel
theorem dX9_value_40 : decode cX9_value 40 = .ok (.iconst 3, 1) := by decide +kernel
theorem dX9_value_41 : decode cX9_value 41 = .ok (.if_icmp .ne 6, 3) := by decide +kernel
theorem dX9_value_44 : decode cX9_value 44 = .ok (.ldc 106, 2) := by decide +kernel
theorem dX9_value_46 : decode cX9_value 46 = .ok (.ireturn, 1) := by decide +kernel
theorem dX9_value_47 : decode cX9_value 47 = .ok (.aload_n 0, 1) := by decide +kernel
theorem dX9_value_48 : decode cX9_value 48 = .ok (.getfield 13, 3) := by decide +kernel
theorem dX9_value_51 : decode cX9_value 51 = .ok (.iconst 3, 1) := by decide +kernel
theorem dX9_value_52 : decode cX9_value 52 = .ok (.iload 4, 2) := by decide +kernel
theorem dX9_value_54 : decode cX9_value 54 = .ok (.imul, 1) := by decide +kernel
theorem dX9_value_55 : decode cX9_value 55 = .ok (.aload_n 0, 1) := by decide +kernel
theorem dX9_value_56 : decode cX9_value 56 = .ok (.getfield 7, 3) := by decide +kernel
theorem dX9_value_59 : decode cX9_value 59 = .ok (.iload 4, 2) := by decide +kernel
theorem dX9_value_61 : decode cX9_value 61 = .ok (.iaload, 1) := by decide +kernel
theorem dX9_value_62 : decode cX9_value 62 = .ok (.iadd, 1) := by decide +kernel
theorem dX9_value_63 : decode cX9_value 63 = .ok (.iload_n 3, 1) := by decide +kernel
theorem dX9_value_64 : decode cX9_value 64 = .ok (.iastore, 1) := by decide +kernel
theorem dX9_value_65 : decode cX9_value 65 = .ok (.aload_n 0, 1) := by decide +kernel
theorem dX9_value_66 : decode cX9_value 66 = .ok (.getfield 7, 3) := by decide +kernel
theorem dX9_value_69 : decode cX9_value 69 = .ok (.iload 4, 2) := by decide +kernel
theorem dX9_value_71 : decode cX9_value 71 = .ok (.dup2, 1) := by decide +kernel
theorem dX9_value_72 : decode cX9_value 72 = .ok (.iaload, 1) := by decide +kernel
theorem dX9_value_73 : decode cX9_value 73 = .ok (.iconst 1, 1) := by decide +kernel
theorem dX9_value_74 : decode cX9_value 74 = .ok (.iadd, 1) := by decide +kernel
theorem dX9_value_75 : decode cX9_value 75 = .ok (.iastore, 1) := by decide +kernel
theorem dX9_value_76 : decode cX9_value 76 = .ok (.aload_n 0, 1) := by decide +kernel
theorem dX9_value_77 : decode cX9_value 77 = .ok (.invokevirtual 107, 3) := by decide +kernel
theorem dX9_value_80 : decode cX9_value 80 = .ok (.aload_n 0, 1) := by decide +kernel
theorem dX9_value_81 : decode cX9_value 81 = .ok (.getfield 7, 3) := by decide +kernel
theorem dX9_value_84 : decode cX9_value 84 = .ok (.iload 4, 2) := by decide +kernel
theorem dX9_value_86 : decode cX9_value 86 = .ok (.iaload, 1) := by decide +kernel
theorem dX9_value_87 : decode cX9_value 87 = .ok (.ireturn, 1) := by decide +kernel
theorem dX9_match_0 : decode cX9_match 0 = .ok (.aload_n 0, 1) := by decide +kernel
theorem dX9_match_1 : decode cX9_match 1 = .ok (.iload_n 1, 1) := by decide +kernel
theorem dX9_match_2 : decode cX9_match 2 = .ok (.invokevirtual 110, 3) := by decide +kernel
theorem dX9_match_5 : decode cX9_match 5 = .ok (.ifCond .ne 6, 3) := by decide +kernel
theorem dX9_match_8 : decode cX9_match 8 = .ok (.ldc 120, 2) := by decide +kernel
theorem dX9_match_10 : decode cX9_match 10 = .ok (.ireturn, 1) := by decide +kernel
theorem dX9_match_11 : decode cX9_match 11 = .ok (.aload_n 0, 1) := by decide +kernel
theorem dX9_match_12 : decode cX9_match 12 = .ok (.getfield 16, 3) := by decide +kernel
theorem dX9_match_15 : decode cX9_match 15 = .ok (.iload_n 1, 1) := by decide +kernel
theorem dX9_match_16 : decode cX9_match 16 = .ok (.baload, 1) := by decide +kernel
theorem dX9_match_17 : decode cX9_match 17 = .ok (.ifCond .eq 7, 3) := by decide +kernel
theorem dX9_match_20 : decode cX9_match 20 = .ok (.iconst 1, 1) := by decide +kernel
theorem dX9_match_21 : decode cX9_match 21 = .ok (.goto 4, 3) := by decide +kernel
theorem dX9_match_24 : decode cX9_match 24 = .ok (.iconst 0, 1) := by decide +kernel
theorem dX9_match_25 : decode cX9_match 25 = .ok (.istore_n 3, 1) := by decide +kernel
theorem dX9_match_26 : decode cX9_match 26 = .ok (.aload_n 0, 1) := by decide +kernel
theorem dX9_match_27 : decode cX9_match 27 = .ok (.getfield 16, 3) := by decide +kernel
theorem dX9_match_30 : decode cX9_match 30 = .ok (.iload_n 1, 1) := by decide +kernel
theorem dX9_match_31 : decode cX9_match 31 = .ok (.iload_n 2, 1) := by decide +kernel
theorem dX9_match_32 : decode cX9_match 32 = .ok (.bastore, 1) := by decide +kernel
theorem dX9_match_33 : decode cX9_match 33 = .ok (.aload_n 0, 1) := by decide +kernel
theorem dX9_match_34 : decode cX9_match 34 = .ok (.invokevirtual 107, 3) := by decide +kernel
theorem dX9_match_37 : decode cX9_match 37 = .ok (.iload_n 3, 1) := by decide +kernel
theorem dX9_match_38 : decode cX9_match 38 = .ok (.ireturn, 1) := by decide +kernel
theorem dX9_clear_0 : decode cX9_clear 0 = .ok (.aload_n 0, 1) := by decide +kernel
theorem dX9_clear_1 : decode cX9_clear 1 = .ok (.getfield 90, 3) := by decide +kernel
theorem dX9_clear_4 : decode cX9_clear 4 = .ok (.istore_n 1, 1) := by decide +kernel
theorem dX9_clear_5 : decode cX9_clear 5 = .ok (.aload_n 0, 1) := by decide +kernel
theorem dX9_clear_6 : decode cX9_clear 6 = .ok (.iconst 0, 1) := by decide +kernel
theorem dX9_clear_7 : decode cX9_clear 7 = .ok (.putfield 90, 3) := by decide +kernel
theorem dX9_clear_10 : decode cX9_clear 10 = .ok (.aload_n 0, 1) := by decide +kernel
theorem dX9_clear_11 : decode cX9_clear 11 = .ok (.iconst 0, 1) := by decide +kernel
theorem dX9_clear_12 : decode cX9_clear 12 = .ok (.putfield 98, 3) := by decide +kernel
theorem dX9_clear_15 : decode cX9_clear 15 = .ok (.aload_n 0, 1) := by decide +kernel
theorem dX9_clear_16 : decode cX9_clear 16 = .ok (.invokevirtual 107, 3) := by decide +kernel
theorem dX9_clear_19 : decode cX9_clear 19 = .ok (.iload_n 1, 1) := by decide +kernel
theorem dX9_clear_20 : decode cX9_clear 20 = .ok (.ireturn, 1) := by decide +kernel
theorem dX9_facet_0 : decode cX9_facet 0 = .ok (.iload_n 1, 1) := by decide +kernel
theorem dX9_facet_1 : decode cX9_facet 1 = .ok (.iconst 3, 1) := by decide +kernel
theorem dX9_facet_2 : decode cX9_facet 2 = .ok (.if_icmp .ne 25, 3) := by decide +kernel
theorem dX9_facet_5 : decode cX9_facet 5 = .ok (.iload_n 3, 1) := by decide +kernel
theorem dX9_facet_6 : decode cX9_facet 6 = .ok (.iconst 1, 1) := by decide +kernel
theorem dX9_facet_7 : decode cX9_facet 7 = .ok (.ldc 121, 2) := by decide +kernel
theorem dX9_facet_9 : decode cX9_facet 9 = .ok (.invokestatic 94, 3) := by decide +kernel
theorem dX9_facet_12 : decode cX9_facet 12 = .ok (.ifCond .eq 19, 3) := by decide +kernel
theorem dX9_facet_15 : decode cX9_facet 15 = .ok (.iload 4, 2) := by decide +kernel
theorem dX9_facet_17 : decode cX9_facet 17 = .ok (.iconst 0, 1) := by decide +kernel
theorem dX9_facet_18 : decode cX9_facet 18 = .ok (.iload_n 3, 1) := by decide +kernel
theorem dX9_facet_19 : decode cX9_facet 19 = .ok (.iconst 1, 1) := by decide +kernel
theorem dX9_facet_20 : decode cX9_facet 20 = .ok (.isub, 1) := by decide +kernel
theorem dX9_facet_21 : decode cX9_facet 21 = .ok (.invokestatic 94, 3) := by decide +kernel
theorem dX9_facet_24 : decode cX9_facet 24 = .ok (.ifCond .eq 7, 3) := by decide +kernel
theorem dX9_facet_27 : decode cX9_facet 27 = .ok (.iconst 1, 1) := by decide +kernel
theorem dX9_facet_28 : decode cX9_facet 28 = .ok (.goto 4, 3) := by decide +kernel
theorem dX9_facet_31 : decode cX9_facet 31 = .ok (.iconst 0, 1) := by decide +kernel
theorem dX9_facet_32 : decode cX9_facet 32 = .ok (.istore 5, 2) := by decide +kernel
theorem dX9_facet_34 : decode cX9_facet 34 = .ok (.iload_n 1, 1) := by decide +kernel
theorem dX9_facet_35 : decode cX9_facet 35 = .ok (.iconst 0, 1) := by decide +kernel
theorem dX9_facet_36 : decode cX9_facet 36 = .ok (.iconst 4, 1) := by decide +kernel
theorem dX9_facet_37 : decode cX9_facet 37 = .ok (.invokestatic 94, 3) := by decide +kernel
theorem dX9_facet_40 : decode cX9_facet 40 = .ok (.ifCond .eq 29, 3) := by decide +kernel
theorem dX9_facet_43 : decode cX9_facet 43 = .ok (.iload_n 2, 1) := by decide +kernel
theorem dX9_facet_44 : decode cX9_facet 44 = .ok (.invokestatic 114, 3) := by decide +kernel
theorem dX9_facet_47 : decode cX9_facet 47 = .ok (.ifCond .eq 22, 3) := by decide +kernel
theorem dX9_facet_50 : decode cX9_facet 50 = .ok (.iload 5, 2) := by decide +kernel
theorem dX9_facet_52 : decode cX9_facet 52 = .ok (.ifCond .eq 17, 3) := by decide +kernel
theorem dX9_facet_55 : decode cX9_facet 55 = .ok (.iload_n 1, 1) := by decide +kernel
theorem dX9_facet_56 : decode cX9_facet 56 = .ok (.iconst 4, 1) := by decide +kernel
theorem dX9_facet_57 : decode cX9_facet 57 = .ok (.if_icmp .ne 15, 3) := by decide +kernel
theorem dX9_facet_60 : decode cX9_facet 60 = .ok (.iload_n 3, 1) := by decide +kernel
theorem dX9_facet_61 : decode cX9_facet 61 = .ok (.iconst 0, 1) := by decide +kernel
theorem dX9_facet_62 : decode cX9_facet 62 = .ok (.iconst 4, 1) := by decide +kernel
theorem dX9_facet_63 : decode cX9_facet 63 = .ok (.invokestatic 94, 3) := by decide +kernel
theorem dX9_facet_66 : decode cX9_facet 66 = .ok (.ifCond .ne 6, 3) := by decide +kernel
theorem dX9_facet_69 : decode cX9_facet 69 = .ok (.ldc 120, 2) := by decide +kernel
theorem dX9_facet_71 : decode cX9_facet 71 = .ok (.ireturn, 1) := by decide +kernel
theorem dX9_facet_72 : decode cX9_facet 72 = .ok (.aload_n 0, 1) := by decide +kernel
theorem dX9_facet_73 : decode cX9_facet 73 = .ok (.getfield 98, 3) := by decide +kernel
theorem dX9_facet_76 : decode cX9_facet 76 = .ok (.bipush 10, 2) := by decide +kernel
theorem dX9_facet_78 : decode cX9_facet 78 = .ok (.if_icmp .ne 6, 3) := by decide +kernel
theorem dX9_facet_81 : decode cX9_facet 81 = .ok (.ldc 106, 2) := by decide +kernel
theorem dX9_facet_83 : decode cX9_facet 83 = .ok (.ireturn, 1) := by decide +kernel
theorem dX9_facet_84 : decode cX9_facet 84 = .ok (.aload_n 0, 1) := by decide +kernel
theorem dX9_facet_85 : decode cX9_facet 85 = .ok (.getfield 20, 3) := by decide +kernel
theorem dX9_facet_88 : decode cX9_facet 88 = .ok (.aload_n 0, 1) := by decide +kernel
theorem dX9_facet_89 : decode cX9_facet 89 = .ok (.getfield 98, 3) := by decide +kernel
theorem dX9_facet_92 : decode cX9_facet 92 = .ok (.iload_n 1, 1) := by decide +kernel
theorem dX9_facet_93 : decode cX9_facet 93 = .ok (.iastore, 1) := by decide +kernel
theorem dX9_facet_94 : decode cX9_facet 94 = .ok (.aload_n 0, 1) := by decide +kernel
theorem dX9_facet_95 : decode cX9_facet 95 = .ok (.getfield 23, 3) := by decide +kernel
theorem dX9_facet_98 : decode cX9_facet 98 = .ok (.aload_n 0, 1) := by decide +kernel
theorem dX9_facet_99 : decode cX9_facet 99 = .ok (.getfield 98, 3) := by decide +kernel
theorem dX9_facet_102 : decode cX9_facet 102 = .ok (.iload_n 2, 1) := by decide +kernel
theorem dX9_facet_103 : decode cX9_facet 103 = .ok (.iastore, 1) := by decide +kernel
theorem dX9_facet_104 : decode cX9_facet 104 = .ok (.aload_n 0, 1) := by decide +kernel
theorem dX9_facet_105 : decode cX9_facet 105 = .ok (.getfield 26, 3) := by decide +kernel
theorem dX9_facet_108 : decode cX9_facet 108 = .ok (.aload_n 0, 1) := by decide +kernel
theorem dX9_facet_109 : decode cX9_facet 109 = .ok (.getfield 98, 3) := by decide +kernel
theorem dX9_facet_112 : decode cX9_facet 112 = .ok (.iload_n 3, 1) := by decide +kernel
theorem dX9_facet_113 : decode cX9_facet 113 = .ok (.iastore, 1) := by decide +kernel
theorem dX9_facet_114 : decode cX9_facet 114 = .ok (.aload_n 0, 1) := by decide +kernel
theorem dX9_facet_115 : decode cX9_facet 115 = .ok (.getfield 29, 3) := by decide +kernel
theorem dX9_facet_118 : decode cX9_facet 118 = .ok (.aload_n 0, 1) := by decide +kernel
theorem dX9_facet_119 : decode cX9_facet 119 = .ok (.getfield 98, 3) := by decide +kernel
theorem dX9_facet_122 : decode cX9_facet 122 = .ok (.iload 4, 2) := by decide +kernel
theorem dX9_facet_124 : decode cX9_facet 124 = .ok (.iastore, 1) := by decide +kernel
theorem dX9_facet_125 : decode cX9_facet 125 = .ok (.aload_n 0, 1) := by decide +kernel
theorem dX9_facet_126 : decode cX9_facet 126 = .ok (.getfield 32, 3) := by decide +kernel
theorem dX9_facet_129 : decode cX9_facet 129 = .ok (.aload_n 0, 1) := by decide +kernel
theorem dX9_facet_130 : decode cX9_facet 130 = .ok (.getfield 98, 3) := by decide +kernel
theorem dX9_facet_133 : decode cX9_facet 133 = .ok (.iconst 0, 1) := by decide +kernel
theorem dX9_facet_134 : decode cX9_facet 134 = .ok (.iastore, 1) := by decide +kernel
theorem dX9_facet_135 : decode cX9_facet 135 = .ok (.aload_n 0, 1) := by decide +kernel
theorem dX9_facet_136 : decode cX9_facet 136 = .ok (.getfield 41, 3) := by decide +kernel
theorem dX9_facet_139 : decode cX9_facet 139 = .ok (.aload_n 0, 1) := by decide +kernel
theorem dX9_facet_140 : decode cX9_facet 140 = .ok (.getfield 98, 3) := by decide +kernel
theorem dX9_facet_143 : decode cX9_facet 143 = .ok (.ldc 122, 2) := by decide +kernel
theorem dX9_facet_145 : decode cX9_facet 145 = .ok (.iastore, 1) := by decide +kernel
theorem dX9_facet_146 : decode cX9_facet 146 = .ok (.aload_n 0, 1) := by decide +kernel
theorem dX9_facet_147 : decode cX9_facet 147 = .ok (.getfield 50, 3) := by decide +kernel
theorem dX9_facet_150 : decode cX9_facet 150 = .ok (.aload_n 0, 1) := by decide +kernel
theorem dX9_facet_151 : decode cX9_facet 151 = .ok (.getfield 98, 3) := by decide +kernel
theorem dX9_facet_154 : decode cX9_facet 154 = .ok (.iconst 1, 1) := by decide +kernel
theorem dX9_facet_155 : decode cX9_facet 155 = .ok (.iastore, 1) := by decide +kernel
theorem dX9_facet_156 : decode cX9_facet 156 = .ok (.aload_n 0, 1) := by decide +kernel
theorem dX9_facet_157 : decode cX9_facet 157 = .ok (.getfield 53, 3) := by decide +kernel
theorem dX9_facet_160 : decode cX9_facet 160 = .ok (.aload_n 0, 1) := by decide +kernel
theorem dX9_facet_161 : decode cX9_facet 161 = .ok (.getfield 98, 3) := by decide +kernel
theorem dX9_facet_164 : decode cX9_facet 164 = .ok (.iconst 0, 1) := by decide +kernel
theorem dX9_facet_165 : decode cX9_facet 165 = .ok (.bastore, 1) := by decide +kernel
theorem dX9_facet_166 : decode cX9_facet 166 = .ok (.aload_n 0, 1) := by decide +kernel
theorem dX9_facet_167 : decode cX9_facet 167 = .ok (.getfield 56, 3) := by decide +kernel
theorem dX9_facet_170 : decode cX9_facet 170 = .ok (.aload_n 0, 1) := by decide +kernel
theorem dX9_facet_171 : decode cX9_facet 171 = .ok (.getfield 98, 3) := by decide +kernel
theorem dX9_facet_174 : decode cX9_facet 174 = .ok (.iconst 0, 1) := by decide +kernel
theorem dX9_facet_175 : decode cX9_facet 175 = .ok (.iastore, 1) := by decide +kernel
theorem dX9_facet_176 : decode cX9_facet 176 = .ok (.aload_n 0, 1) := by decide +kernel
theorem dX9_facet_177 : decode cX9_facet 177 = .ok (.dup, 1) := by decide +kernel
theorem dX9_facet_178 : decode cX9_facet 178 = .ok (.getfield 98, 3) := by decide +kernel
theorem dX9_facet_181 : decode cX9_facet 181 = .ok (.iconst 1, 1) := by decide +kernel
theorem dX9_facet_182 : decode cX9_facet 182 = .ok (.iadd, 1) := by decide +kernel
theorem dX9_facet_183 : decode cX9_facet 183 = .ok (.putfield 98, 3) := by decide +kernel
theorem dX9_facet_186 : decode cX9_facet 186 = .ok (.aload_n 0, 1) := by decide +kernel
theorem dX9_facet_187 : decode cX9_facet 187 = .ok (.invokevirtual 107, 3) := by decide +kernel
theorem dX9_facet_190 : decode cX9_facet 190 = .ok (.aload_n 0, 1) := by decide +kernel
theorem dX9_facet_191 : decode cX9_facet 191 = .ok (.getfield 98, 3) := by decide +kernel
theorem dX9_facet_194 : decode cX9_facet 194 = .ok (.iconst 1, 1) := by decide +kernel
theorem dX9_facet_195 : decode cX9_facet 195 = .ok (.isub, 1) := by decide +kernel
theorem dX9_facet_196 : decode cX9_facet 196 = .ok (.ireturn, 1) := by decide +kernel
theorem dX9_range_0 : decode cX9_range 0 = .ok (.aload_n 0, 1) := by decide +kernel
theorem dX9_range_1 : decode cX9_range 1 = .ok (.iload_n 1, 1) := by decide +kernel
theorem dX9_range_2 : decode cX9_range 2 = .ok (.invokevirtual 123, 3) := by decide +kernel
theorem dX9_range_5 : decode cX9_range 5 = .ok (.ifCond .eq 22, 3) := by decide +kernel
theorem dX9_range_8 : decode cX9_range 8 = .ok (.iload_n 2, 1) := by decide +kernel
theorem dX9_range_9 : decode cX9_range 9 = .ok (.invokestatic 117, 3) := by decide +kernel
theorem dX9_range_12 : decode cX9_range 12 = .ok (.ifCond .eq 15, 3) := by decide +kernel
theorem dX9_range_15 : decode cX9_range 15 = .ok (.iload_n 3, 1) := by decide +kernel
theorem dX9_range_16 : decode cX9_range 16 = .ok (.invokestatic 117, 3) := by decide +kernel
theorem dX9_range_19 : decode cX9_range 19 = .ok (.ifCond .eq 8, 3) := by decide +kernel
theorem dX9_range_22 : decode cX9_range 22 = .ok (.iload_n 2, 1) := by decide +kernel
theorem dX9_range_23 : decode cX9_range 23 = .ok (.iload_n 3, 1) := by decide +kernel
theorem dX9_range_24 : decode cX9_range 24 = .ok (.if_icmp .le 6, 3) := by decide +kernel
theorem dX9_range_27 : decode cX9_range 27 = .ok (.ldc 120, 2) := by decide +kernel
theorem dX9_range_29 : decode cX9_range 29 = .ok (.ireturn, 1) := by decide +kernel
theorem dX9_range_30 : decode cX9_range 30 = .ok (.aload_n 0, 1) := by decide +kernel
theorem dX9_range_31 : decode cX9_range 31 = .ok (.getfield 20, 3) := by decide +kernel
theorem dX9_range_34 : decode cX9_range 34 = .ok (.iload_n 1, 1) := by decide +kernel
theorem dX9_range_35 : decode cX9_range 35 = .ok (.iaload, 1) := by decide +kernel
theorem dX9_range_36 : decode cX9_range 36 = .ok (.iconst 2, 1) := by decide +kernel
theorem dX9_range_37 : decode cX9_range 37 = .ok (.if_icmp .eq 6, 3) := by decide +kernel
theorem dX9_range_40 : decode cX9_range 40 = .ok (.ldc 126, 2) := by decide +kernel
theorem dX9_range_42 : decode cX9_range 42 = .ok (.ireturn, 1) := by decide +kernel
theorem dX9_range_43 : decode cX9_range 43 = .ok (.aload_n 0, 1) := by decide +kernel
theorem dX9_range_44 : decode cX9_range 44 = .ok (.getfield 32, 3) := by decide +kernel
theorem dX9_range_47 : decode cX9_range 47 = .ok (.iload_n 1, 1) := by decide +kernel
theorem dX9_range_48 : decode cX9_range 48 = .ok (.iaload, 1) := by decide +kernel
theorem dX9_range_49 : decode cX9_range 49 = .ok (.bipush 6, 2) := by decide +kernel
theorem dX9_range_51 : decode cX9_range 51 = .ok (.if_icmp .ne 6, 3) := by decide +kernel
theorem dX9_range_54 : decode cX9_range 54 = .ok (.ldc 106, 2) := by decide +kernel
theorem dX9_range_56 : decode cX9_range 56 = .ok (.ireturn, 1) := by decide +kernel
theorem dX9_range_57 : decode cX9_range 57 = .ok (.aload_n 0, 1) := by decide +kernel
theorem dX9_range_58 : decode cX9_range 58 = .ok (.getfield 35, 3) := by decide +kernel
theorem dX9_range_61 : decode cX9_range 61 = .ok (.bipush 6, 2) := by decide +kernel
theorem dX9_range_63 : decode cX9_range 63 = .ok (.iload_n 1, 1) := by decide +kernel
theorem dX9_range_64 : decode cX9_range 64 = .ok (.imul, 1) := by decide +kernel
theorem dX9_range_65 : decode cX9_range 65 = .ok (.aload_n 0, 1) := by decide +kernel
theorem dX9_range_66 : decode cX9_range 66 = .ok (.getfield 32, 3) := by decide +kernel
theorem dX9_range_69 : decode cX9_range 69 = .ok (.iload_n 1, 1) := by decide +kernel
theorem dX9_range_70 : decode cX9_range 70 = .ok (.iaload, 1) := by decide +kernel
theorem dX9_range_71 : decode cX9_range 71 = .ok (.iadd, 1) := by decide +kernel
theorem dX9_range_72 : decode cX9_range 72 = .ok (.iload_n 2, 1) := by decide +kernel
theorem dX9_range_73 : decode cX9_range 73 = .ok (.iastore, 1) := by decide +kernel
theorem dX9_range_74 : decode cX9_range 74 = .ok (.aload_n 0, 1) := by decide +kernel
theorem dX9_range_75 : decode cX9_range 75 = .ok (.getfield 38, 3) := by decide +kernel
theorem dX9_range_78 : decode cX9_range 78 = .ok (.bipush 6, 2) := by decide +kernel
theorem dX9_range_80 : decode cX9_range 80 = .ok (.iload_n 1, 1) := by decide +kernel
theorem dX9_range_81 : decode cX9_range 81 = .ok (.imul, 1) := by decide +kernel
theorem dX9_range_82 : decode cX9_range 82 = .ok (.aload_n 0, 1) := by decide +kernel
theorem dX9_range_83 : decode cX9_range 83 = .ok (.getfield 32, 3) := by decide +kernel
theorem dX9_range_86 : decode cX9_range 86 = .ok (.iload_n 1, 1) := by decide +kernel
theorem dX9_range_87 : decode cX9_range 87 = .ok (.iaload, 1) := by decide +kernel
theorem dX9_range_88 : decode cX9_range 88 = .ok (.iadd, 1) := by decide +kernel
theorem dX9_range_89 : decode cX9_range 89 = .ok (.iload_n 3, 1) := by decide +kernel
theorem dX9_range_90 : decode cX9_range 90 = .ok (.iastore, 1) := by decide +kernel
theorem dX9_range_91 : decode cX9_range 91 = .ok (.aload_n 0, 1) := by decide +kernel
theorem dX9_range_92 : decode cX9_range 92 = .ok (.getfield 32, 3) := by decide +kernel
theorem dX9_range_95 : decode cX9_range 95 = .ok (.iload_n 1, 1) := by decide +kernel
theorem dX9_range_96 : decode cX9_range 96 = .ok (.dup2, 1) := by decide +kernel
theorem dX9_range_97 : decode cX9_range 97 = .ok (.iaload, 1) := by decide +kernel
theorem dX9_range_98 : decode cX9_range 98 = .ok (.iconst 1, 1) := by decide +kernel
theorem dX9_range_99 : decode cX9_range 99 = .ok (.iadd, 1) := by decide +kernel
theorem dX9_range_100 : decode cX9_range 100 = .ok (.iastore, 1) := by decide +kernel
theorem dX9_range_101 : decode cX9_range 101 = .ok (.aload_n 0, 1) := by decide +kernel
theorem dX9_range_102 : decode cX9_range 102 = .ok (.invokevirtual 107, 3) := by decide +kernel
theorem dX9_range_105 : decode cX9_range 105 = .ok (.aload_n 0, 1) := by decide +kernel
theorem dX9_range_106 : decode cX9_range 106 = .ok (.getfield 32, 3) := by decide +kernel
theorem dX9_range_109 : decode cX9_range 109 = .ok (.iload_n 1, 1) := by decide +kernel
theorem dX9_range_110 : decode cX9_range 110 = .ok (.iaload, 1) := by decide +kernel
theorem dX9_range_111 : decode cX9_range 111 = .ok (.iconst 1, 1) := by decide +kernel
theorem dX9_range_112 : decode cX9_range 112 = .ok (.isub, 1) := by decide +kernel
theorem dX9_range_113 : decode cX9_range 113 = .ok (.ireturn, 1) := by decide +kernel
theorem dX9_filter_0 : decode cX9_filter 0 = .ok (.aload_n 0, 1) := by decide +kernel
theorem dX9_filter_1 : decode cX9_filter 1 = .ok (.iload_n 1, 1) := by decide +kernel
theorem dX9_filter_2 : decode cX9_filter 2 = .ok (.invokevirtual 123, 3) := by decide +kernel
theorem dX9_filter_5 : decode cX9_filter 5 = .ok (.ifCond .eq 22, 3) := by decide +kernel
theorem dX9_filter_8 : decode cX9_filter 8 = .ok (.iload_n 2, 1) := by decide +kernel
theorem dX9_filter_9 : decode cX9_filter 9 = .ok (.ldc 122, 2) := by decide +kernel
theorem dX9_filter_11 : decode cX9_filter 11 = .ok (.if_icmp .eq 19, 3) := by decide +kernel
theorem dX9_filter_14 : decode cX9_filter 14 = .ok (.iload_n 2, 1) := by decide +kernel
theorem dX9_filter_15 : decode cX9_filter 15 = .ok (.invokestatic 114, 3) := by decide +kernel
theorem dX9_filter_18 : decode cX9_filter 18 = .ok (.ifCond .eq 9, 3) := by decide +kernel
theorem dX9_filter_21 : decode cX9_filter 21 = .ok (.iload_n 3, 1) := by decide +kernel
theorem dX9_filter_22 : decode cX9_filter 22 = .ok (.iload 4, 2) := by decide +kernel
theorem dX9_filter_24 : decode cX9_filter 24 = .ok (.if_icmp .le 6, 3) := by decide +kernel
theorem dX9_filter_27 : decode cX9_filter 27 = .ok (.ldc 120, 2) := by decide +kernel
theorem dX9_filter_29 : decode cX9_filter 29 = .ok (.ireturn, 1) := by decide +kernel
theorem dX9_filter_30 : decode cX9_filter 30 = .ok (.aload_n 0, 1) := by decide +kernel
theorem dX9_filter_31 : decode cX9_filter 31 = .ok (.getfield 41, 3) := by decide +kernel
theorem dX9_filter_34 : decode cX9_filter 34 = .ok (.iload_n 1, 1) := by decide +kernel
theorem dX9_filter_35 : decode cX9_filter 35 = .ok (.iaload, 1) := by decide +kernel
theorem dX9_filter_36 : decode cX9_filter 36 = .ok (.ldc 122, 2) := by decide +kernel
theorem dX9_filter_38 : decode cX9_filter 38 = .ok (.if_icmp .ne 7, 3) := by decide +kernel
theorem dX9_filter_41 : decode cX9_filter 41 = .ok (.iconst 0, 1) := by decide +kernel
theorem dX9_filter_42 : decode cX9_filter 42 = .ok (.goto 4, 3) := by decide +kernel
theorem dX9_filter_45 : decode cX9_filter 45 = .ok (.iconst 1, 1) := by decide +kernel
theorem dX9_filter_46 : decode cX9_filter 46 = .ok (.istore 5, 2) := by decide +kernel
theorem dX9_filter_48 : decode cX9_filter 48 = .ok (.aload_n 0, 1) := by decide +kernel
theorem dX9_filter_49 : decode cX9_filter 49 = .ok (.getfield 41, 3) := by decide +kernel
theorem dX9_filter_52 : decode cX9_filter 52 = .ok (.iload_n 1, 1) := by decide +kernel
theorem dX9_filter_53 : decode cX9_filter 53 = .ok (.iload_n 2, 1) := by decide +kernel
theorem dX9_filter_54 : decode cX9_filter 54 = .ok (.iastore, 1) := by decide +kernel
theorem dX9_filter_55 : decode cX9_filter 55 = .ok (.aload_n 0, 1) := by decide +kernel
theorem dX9_filter_56 : decode cX9_filter 56 = .ok (.getfield 44, 3) := by decide +kernel
theorem dX9_filter_59 : decode cX9_filter 59 = .ok (.iload_n 1, 1) := by decide +kernel
theorem dX9_filter_60 : decode cX9_filter 60 = .ok (.iload_n 3, 1) := by decide +kernel
theorem dX9_filter_61 : decode cX9_filter 61 = .ok (.iastore, 1) := by decide +kernel
theorem dX9_filter_62 : decode cX9_filter 62 = .ok (.aload_n 0, 1) := by decide +kernel
theorem dX9_filter_63 : decode cX9_filter 63 = .ok (.getfield 47, 3) := by decide +kernel
theorem dX9_filter_66 : decode cX9_filter 66 = .ok (.iload_n 1, 1) := by decide +kernel
theorem dX9_filter_67 : decode cX9_filter 67 = .ok (.iload 4, 2) := by decide +kernel
theorem dX9_filter_69 : decode cX9_filter 69 = .ok (.iastore, 1) := by decide +kernel
theorem dX9_filter_70 : decode cX9_filter 70 = .ok (.aload_n 0, 1) := by decide +kernel
theorem dX9_filter_71 : decode cX9_filter 71 = .ok (.invokevirtual 107, 3) := by decide +kernel
theorem dX9_filter_74 : decode cX9_filter 74 = .ok (.iload 5, 2) := by decide +kernel
theorem dX9_filter_76 : decode cX9_filter 76 = .ok (.ireturn, 1) := by decide +kernel
theorem dX9_least_0 : decode cX9_least 0 = .ok (.aload_n 0, 1) := by decide +kernel
theorem dX9_least_1 : decode cX9_least 1 = .ok (.iload_n 1, 1) := by decide +kernel
theorem dX9_least_2 : decode cX9_least 2 = .ok (.invokevirtual 123, 3) := by decide +kernel
theorem dX9_least_5 : decode cX9_least 5 = .ok (.ifCond .eq 13, 3) := by decide +kernel
theorem dX9_least_8 : decode cX9_least 8 = .ok (.iload_n 2, 1) := by decide +kernel
theorem dX9_least_9 : decode cX9_least 9 = .ok (.iconst 0, 1) := by decide +kernel
theorem dX9_least_10 : decode cX9_least 10 = .ok (.bipush 120, 2) := by decide +kernel
theorem dX9_least_12 : decode cX9_least 12 = .ok (.invokestatic 94, 3) := by decide +kernel
theorem dX9_least_15 : decode cX9_least 15 = .ok (.ifCond .ne 6, 3) := by decide +kernel
theorem dX9_least_18 : decode cX9_least 18 = .ok (.ldc 120, 2) := by decide +kernel
theorem dX9_least_20 : decode cX9_least 20 = .ok (.ireturn, 1) := by decide +kernel
theorem dX9_least_21 : decode cX9_least 21 = .ok (.aload_n 0, 1) := by decide +kernel
theorem dX9_least_22 : decode cX9_least 22 = .ok (.getfield 50, 3) := by decide +kernel
theorem dX9_least_25 : decode cX9_least 25 = .ok (.iload_n 1, 1) := by decide +kernel
theorem dX9_least_26 : decode cX9_least 26 = .ok (.iaload, 1) := by decide +kernel
theorem dX9_least_27 : decode cX9_least 27 = .ok (.istore_n 3, 1) := by decide +kernel
theorem dX9_least_28 : decode cX9_least 28 = .ok (.aload_n 0, 1) := by decide +kernel
theorem dX9_least_29 : decode cX9_least 29 = .ok (.getfield 50, 3) := by decide +kernel
theorem dX9_least_32 : decode cX9_least 32 = .ok (.iload_n 1, 1) := by decide +kernel
theorem dX9_least_33 : decode cX9_least 33 = .ok (.iload_n 2, 1) := by decide +kernel
theorem dX9_least_34 : decode cX9_least 34 = .ok (.iastore, 1) := by decide +kernel
theorem dX9_least_35 : decode cX9_least 35 = .ok (.aload_n 0, 1) := by decide +kernel
theorem dX9_least_36 : decode cX9_least 36 = .ok (.invokevirtual 107, 3) := by decide +kernel
theorem dX9_least_39 : decode cX9_least 39 = .ok (.iload_n 3, 1) := by decide +kernel
theorem dX9_least_40 : decode cX9_least 40 = .ok (.ireturn, 1) := by decide +kernel
theorem dX9_missing_0 : decode cX9_missing 0 = .ok (.aload_n 0, 1) := by decide +kernel
theorem dX9_missing_1 : decode cX9_missing 1 = .ok (.iload_n 1, 1) := by decide +kernel
theorem dX9_missing_2 : decode cX9_missing 2 = .ok (.invokevirtual 123, 3) := by decide +kernel
theorem dX9_missing_5 : decode cX9_missing 5 = .ok (.ifCond .ne 6, 3) := by decide +kernel
theorem dX9_missing_8 : decode cX9_missing 8 = .ok (.ldc 120, 2) := by decide +kernel
theorem dX9_missing_10 : decode cX9_missing 10 = .ok (.ireturn, 1) := by decide +kernel
theorem dX9_missing_11 : decode cX9_missing 11 = .ok (.aload_n 0, 1) := by decide +kernel
theorem dX9_missing_12 : decode cX9_missing 12 = .ok (.getfield 53, 3) := by decide +kernel
theorem dX9_missing_15 : decode cX9_missing 15 = .ok (.iload_n 1, 1) := by decide +kernel
theorem dX9_missing_16 : decode cX9_missing 16 = .ok (.baload, 1) := by decide +kernel
theorem dX9_missing_17 : decode cX9_missing 17 = .ok (.ifCond .eq 7, 3) := by decide +kernel
theorem dX9_missing_20 : decode cX9_missing 20 = .ok (.iconst 1, 1) := by decide +kernel
theorem dX9_missing_21 : decode cX9_missing 21 = .ok (.goto 4, 3) := by decide +kernel
theorem dX9_missing_24 : decode cX9_missing 24 = .ok (.iconst 0, 1) := by decide +kernel
theorem dX9_missing_25 : decode cX9_missing 25 = .ok (.istore_n 3, 1) := by decide +kernel
theorem dX9_missing_26 : decode cX9_missing 26 = .ok (.aload_n 0, 1) := by decide +kernel
theorem dX9_missing_27 : decode cX9_missing 27 = .ok (.getfield 53, 3) := by decide +kernel
theorem dX9_missing_30 : decode cX9_missing 30 = .ok (.iload_n 1, 1) := by decide +kernel
theorem dX9_missing_31 : decode cX9_missing 31 = .ok (.iload_n 2, 1) := by decide +kernel
theorem dX9_missing_32 : decode cX9_missing 32 = .ok (.bastore, 1) := by decide +kernel
theorem dX9_missing_33 : decode cX9_missing 33 = .ok (.aload_n 0, 1) := by decide +kernel
theorem dX9_missing_34 : decode cX9_missing 34 = .ok (.invokevirtual 107, 3) := by decide +kernel
theorem dX9_missing_37 : decode cX9_missing 37 = .ok (.iload_n 3, 1) := by decide +kernel
theorem dX9_missing_38 : decode cX9_missing 38 = .ok (.ireturn, 1) := by decide +kernel
theorem dX9_order_0 : decode cX9_order 0 = .ok (.aload_n 0, 1) := by decide +kernel
theorem dX9_order_1 : decode cX9_order 1 = .ok (.iload_n 1, 1) := by decide +kernel
theorem dX9_order_2 : decode cX9_order 2 = .ok (.invokevirtual 123, 3) := by decide +kernel
theorem dX9_order_5 : decode cX9_order 5 = .ok (.ifCond .eq 24, 3) := by decide +kernel
theorem dX9_order_8 : decode cX9_order 8 = .ok (.iload_n 2, 1) := by decide +kernel
theorem dX9_order_9 : decode cX9_order 9 = .ok (.iconst 0, 1) := by decide +kernel
theorem dX9_order_10 : decode cX9_order 10 = .ok (.iconst 2, 1) := by decide +kernel
theorem dX9_order_11 : decode cX9_order 11 = .ok (.invokestatic 94, 3) := by decide +kernel
theorem dX9_order_14 : decode cX9_order 14 = .ok (.ifCond .eq 15, 3) := by decide +kernel
theorem dX9_order_17 : decode cX9_order 17 = .ok (.iload_n 2, 1) := by decide +kernel
theorem dX9_order_18 : decode cX9_order 18 = .ok (.iconst 2, 1) := by decide +kernel
theorem dX9_order_19 : decode cX9_order 19 = .ok (.if_icmp .ne 13, 3) := by decide +kernel
theorem dX9_order_22 : decode cX9_order 22 = .ok (.iload_n 3, 1) := by decide +kernel
theorem dX9_order_23 : decode cX9_order 23 = .ok (.invokestatic 114, 3) := by decide +kernel
theorem dX9_order_26 : decode cX9_order 26 = .ok (.ifCond .ne 6, 3) := by decide +kernel
theorem dX9_order_29 : decode cX9_order 29 = .ok (.ldc 120, 2) := by decide +kernel
theorem dX9_order_31 : decode cX9_order 31 = .ok (.ireturn, 1) := by decide +kernel
theorem dX9_order_32 : decode cX9_order 32 = .ok (.aload_n 0, 1) := by decide +kernel
theorem dX9_order_33 : decode cX9_order 33 = .ok (.getfield 56, 3) := by decide +kernel
theorem dX9_order_36 : decode cX9_order 36 = .ok (.iload_n 1, 1) := by decide +kernel
theorem dX9_order_37 : decode cX9_order 37 = .ok (.iaload, 1) := by decide +kernel
theorem dX9_order_38 : decode cX9_order 38 = .ok (.istore 4, 2) := by decide +kernel
theorem dX9_order_40 : decode cX9_order 40 = .ok (.aload_n 0, 1) := by decide +kernel
theorem dX9_order_41 : decode cX9_order 41 = .ok (.getfield 56, 3) := by decide +kernel
theorem dX9_order_44 : decode cX9_order 44 = .ok (.iload_n 1, 1) := by decide +kernel
theorem dX9_order_45 : decode cX9_order 45 = .ok (.iload_n 2, 1) := by decide +kernel
theorem dX9_order_46 : decode cX9_order 46 = .ok (.iastore, 1) := by decide +kernel
theorem dX9_order_47 : decode cX9_order 47 = .ok (.aload_n 0, 1) := by decide +kernel
theorem dX9_order_48 : decode cX9_order 48 = .ok (.getfield 59, 3) := by decide +kernel
theorem dX9_order_51 : decode cX9_order 51 = .ok (.iload_n 1, 1) := by decide +kernel
theorem dX9_order_52 : decode cX9_order 52 = .ok (.iload_n 3, 1) := by decide +kernel
theorem dX9_order_53 : decode cX9_order 53 = .ok (.iastore, 1) := by decide +kernel
theorem dX9_order_54 : decode cX9_order 54 = .ok (.aload_n 0, 1) := by decide +kernel
theorem dX9_order_55 : decode cX9_order 55 = .ok (.invokevirtual 107, 3) := by decide +kernel
theorem dX9_order_58 : decode cX9_order 58 = .ok (.iload 4, 2) := by decide +kernel
theorem dX9_order_60 : decode cX9_order 60 = .ok (.ireturn, 1) := by decide +kernel
theorem dX9_give_0 : decode cX9_give 0 = .ok (.aload_n 0, 1) := by decide +kernel
theorem dX9_give_1 : decode cX9_give 1 = .ok (.getfield 65, 3) := by decide +kernel
theorem dX9_give_4 : decode cX9_give 4 = .ok (.aload_n 0, 1) := by decide +kernel
theorem dX9_give_5 : decode cX9_give 5 = .ok (.getfield 127, 3) := by decide +kernel
theorem dX9_give_8 : decode cX9_give 8 = .ok (.iload_n 1, 1) := by decide +kernel
theorem dX9_give_9 : decode cX9_give 9 = .ok (.iastore, 1) := by decide +kernel
theorem dX9_give_10 : decode cX9_give 10 = .ok (.aload_n 0, 1) := by decide +kernel
theorem dX9_give_11 : decode cX9_give 11 = .ok (.dup, 1) := by decide +kernel
theorem dX9_give_12 : decode cX9_give 12 = .ok (.getfield 127, 3) := by decide +kernel
theorem dX9_give_15 : decode cX9_give 15 = .ok (.iconst 1, 1) := by decide +kernel
theorem dX9_give_16 : decode cX9_give 16 = .ok (.iadd, 1) := by decide +kernel
theorem dX9_give_17 : decode cX9_give 17 = .ok (.putfield 127, 3) := by decide +kernel
theorem dX9_give_20 : decode cX9_give 20 = .ok (.return_, 1) := by decide +kernel
theorem dX9_givePaths_0 : decode cX9_givePaths 0 = .ok (.iload_n 1, 1) := by decide +kernel
theorem dX9_givePaths_1 : decode cX9_givePaths 1 = .ok (.sipush 10000, 3) := by decide +kernel
theorem dX9_givePaths_4 : decode cX9_givePaths 4 = .ok (.ldc 130, 2) := by decide +kernel
theorem dX9_givePaths_6 : decode cX9_givePaths 6 = .ok (.invokestatic 94, 3) := by decide +kernel
theorem dX9_givePaths_9 : decode cX9_givePaths 9 = .ok (.ifCond .ne 4, 3) := by decide +kernel
theorem dX9_givePaths_12 : decode cX9_givePaths 12 = .ok (.return_, 1) := by decide +kernel
theorem dX9_givePaths_13 : decode cX9_givePaths 13 = .ok (.iload_n 1, 1) := by decide +kernel
theorem dX9_givePaths_14 : decode cX9_givePaths 14 = .ok (.bipush 100, 2) := by decide +kernel
theorem dX9_givePaths_16 : decode cX9_givePaths 16 = .ok (.idiv, 1) := by decide +kernel
theorem dX9_givePaths_17 : decode cX9_givePaths 17 = .ok (.bipush 100, 2) := by decide +kernel
theorem dX9_givePaths_19 : decode cX9_givePaths 19 = .ok (.irem, 1) := by decide +kernel
theorem dX9_givePaths_20 : decode cX9_givePaths 20 = .ok (.istore_n 2, 1) := by decide +kernel
theorem dX9_givePaths_21 : decode cX9_givePaths 21 = .ok (.iload_n 1, 1) := by decide +kernel
theorem dX9_givePaths_22 : decode cX9_givePaths 22 = .ok (.bipush 100, 2) := by decide +kernel
theorem dX9_givePaths_24 : decode cX9_givePaths 24 = .ok (.irem, 1) := by decide +kernel
theorem dX9_givePaths_25 : decode cX9_givePaths 25 = .ok (.istore_n 3, 1) := by decide +kernel
theorem dX9_givePaths_26 : decode cX9_givePaths 26 = .ok (.iload_n 2, 1) := by decide +kernel
theorem dX9_givePaths_27 : decode cX9_givePaths 27 = .ok (.ifCond .ne 8, 3) := by decide +kernel
theorem dX9_givePaths_30 : decode cX9_givePaths 30 = .ok (.iload_n 3, 1) := by decide +kernel
theorem dX9_givePaths_31 : decode cX9_givePaths 31 = .ok (.ifCond .eq 4, 3) := by decide +kernel
theorem dX9_givePaths_34 : decode cX9_givePaths 34 = .ok (.return_, 1) := by decide +kernel
theorem dX9_givePaths_35 : decode cX9_givePaths 35 = .ok (.aload_n 0, 1) := by decide +kernel
theorem dX9_givePaths_36 : decode cX9_givePaths 36 = .ok (.iload_n 1, 1) := by decide +kernel
theorem dX9_givePaths_37 : decode cX9_givePaths 37 = .ok (.sipush 10000, 3) := by decide +kernel
theorem dX9_givePaths_40 : decode cX9_givePaths 40 = .ok (.idiv, 1) := by decide +kernel
theorem dX9_givePaths_41 : decode cX9_givePaths 41 = .ok (.sipush 10000, 3) := by decide +kernel
theorem dX9_givePaths_44 : decode cX9_givePaths 44 = .ok (.imul, 1) := by decide +kernel
theorem dX9_givePaths_45 : decode cX9_givePaths 45 = .ok (.invokevirtual 131, 3) := by decide +kernel
theorem dX9_givePaths_48 : decode cX9_givePaths 48 = .ok (.iload_n 2, 1) := by decide +kernel
theorem dX9_givePaths_49 : decode cX9_givePaths 49 = .ok (.ifCond .eq 14, 3) := by decide +kernel
theorem dX9_givePaths_52 : decode cX9_givePaths 52 = .ok (.aload_n 0, 1) := by decide +kernel
theorem dX9_givePaths_53 : decode cX9_givePaths 53 = .ok (.iload_n 1, 1) := by decide +kernel
theorem dX9_givePaths_54 : decode cX9_givePaths 54 = .ok (.bipush 100, 2) := by decide +kernel
theorem dX9_givePaths_56 : decode cX9_givePaths 56 = .ok (.idiv, 1) := by decide +kernel
theorem dX9_givePaths_57 : decode cX9_givePaths 57 = .ok (.bipush 100, 2) := by decide +kernel
theorem dX9_givePaths_59 : decode cX9_givePaths 59 = .ok (.imul, 1) := by decide +kernel
theorem dX9_givePaths_60 : decode cX9_givePaths 60 = .ok (.invokevirtual 131, 3) := by decide +kernel
theorem dX9_givePaths_63 : decode cX9_givePaths 63 = .ok (.iload_n 3, 1) := by decide +kernel
theorem dX9_givePaths_64 : decode cX9_givePaths 64 = .ok (.ifCond .eq 8, 3) := by decide +kernel
theorem dX9_givePaths_67 : decode cX9_givePaths 67 = .ok (.aload_n 0, 1) := by decide +kernel
theorem dX9_givePaths_68 : decode cX9_givePaths 68 = .ok (.iload_n 1, 1) := by decide +kernel
theorem dX9_givePaths_69 : decode cX9_givePaths 69 = .ok (.invokevirtual 131, 3) := by decide +kernel
theorem dX9_givePaths_72 : decode cX9_givePaths 72 = .ok (.return_, 1) := by decide +kernel
theorem dX9_isLeap_0 : decode cX9_isLeap 0 = .ok (.iload_n 0, 1) := by decide +kernel
theorem dX9_isLeap_1 : decode cX9_isLeap 1 = .ok (.iconst 4, 1) := by decide +kernel
theorem dX9_isLeap_2 : decode cX9_isLeap 2 = .ok (.irem, 1) := by decide +kernel
theorem dX9_isLeap_3 : decode cX9_isLeap 3 = .ok (.ifCond .ne 22, 3) := by decide +kernel
theorem dX9_isLeap_6 : decode cX9_isLeap 6 = .ok (.iload_n 0, 1) := by decide +kernel
theorem dX9_isLeap_7 : decode cX9_isLeap 7 = .ok (.bipush 100, 2) := by decide +kernel
theorem dX9_isLeap_9 : decode cX9_isLeap 9 = .ok (.irem, 1) := by decide +kernel
theorem dX9_isLeap_10 : decode cX9_isLeap 10 = .ok (.ifCond .ne 11, 3) := by decide +kernel
theorem dX9_isLeap_13 : decode cX9_isLeap 13 = .ok (.iload_n 0, 1) := by decide +kernel
theorem dX9_isLeap_14 : decode cX9_isLeap 14 = .ok (.sipush 400, 3) := by decide +kernel
theorem dX9_isLeap_17 : decode cX9_isLeap 17 = .ok (.irem, 1) := by decide +kernel
theorem dX9_isLeap_18 : decode cX9_isLeap 18 = .ok (.ifCond .ne 7, 3) := by decide +kernel
theorem dX9_isLeap_21 : decode cX9_isLeap 21 = .ok (.iconst 1, 1) := by decide +kernel
theorem dX9_isLeap_22 : decode cX9_isLeap 22 = .ok (.goto 4, 3) := by decide +kernel
theorem dX9_isLeap_25 : decode cX9_isLeap 25 = .ok (.iconst 0, 1) := by decide +kernel
theorem dX9_isLeap_26 : decode cX9_isLeap 26 = .ok (.ireturn, 1) := by decide +kernel
theorem dX9_daysOf_0 : decode cX9_daysOf 0 = .ok (.iload_n 1, 1) := by decide +kernel
theorem dX9_daysOf_1 : decode cX9_daysOf 1 = .ok (.iconst 2, 1) := by decide +kernel
theorem dX9_daysOf_2 : decode cX9_daysOf 2 = .ok (.if_icmp .ne 20, 3) := by decide +kernel
theorem dX9_daysOf_5 : decode cX9_daysOf 5 = .ok (.iload_n 0, 1) := by decide +kernel
theorem dX9_daysOf_6 : decode cX9_daysOf 6 = .ok (.invokestatic 135, 3) := by decide +kernel
theorem dX9_daysOf_9 : decode cX9_daysOf 9 = .ok (.ifCond .eq 8, 3) := by decide +kernel
theorem dX9_daysOf_12 : decode cX9_daysOf 12 = .ok (.bipush 29, 2) := by decide +kernel
theorem dX9_daysOf_14 : decode cX9_daysOf 14 = .ok (.goto 38, 3) := by decide +kernel
theorem dX9_daysOf_17 : decode cX9_daysOf 17 = .ok (.bipush 28, 2) := by decide +kernel
theorem dX9_daysOf_19 : decode cX9_daysOf 19 = .ok (.goto 33, 3) := by decide +kernel
theorem dX9_daysOf_22 : decode cX9_daysOf 22 = .ok (.iload_n 1, 1) := by decide +kernel
theorem dX9_daysOf_23 : decode cX9_daysOf 23 = .ok (.iconst 4, 1) := by decide +kernel
theorem dX9_daysOf_24 : decode cX9_daysOf 24 = .ok (.if_icmp .eq 21, 3) := by decide +kernel
theorem dX9_daysOf_27 : decode cX9_daysOf 27 = .ok (.iload_n 1, 1) := by decide +kernel
theorem dX9_daysOf_28 : decode cX9_daysOf 28 = .ok (.bipush 6, 2) := by decide +kernel
theorem dX9_daysOf_30 : decode cX9_daysOf 30 = .ok (.if_icmp .eq 15, 3) := by decide +kernel
theorem dX9_daysOf_33 : decode cX9_daysOf 33 = .ok (.iload_n 1, 1) := by decide +kernel
theorem dX9_daysOf_34 : decode cX9_daysOf 34 = .ok (.bipush 9, 2) := by decide +kernel
theorem dX9_daysOf_36 : decode cX9_daysOf 36 = .ok (.if_icmp .eq 9, 3) := by decide +kernel
theorem dX9_daysOf_39 : decode cX9_daysOf 39 = .ok (.iload_n 1, 1) := by decide +kernel
theorem dX9_daysOf_40 : decode cX9_daysOf 40 = .ok (.bipush 11, 2) := by decide +kernel
theorem dX9_daysOf_42 : decode cX9_daysOf 42 = .ok (.if_icmp .ne 8, 3) := by decide +kernel
theorem dX9_daysOf_45 : decode cX9_daysOf 45 = .ok (.bipush 30, 2) := by decide +kernel
theorem dX9_daysOf_47 : decode cX9_daysOf 47 = .ok (.goto 5, 3) := by decide +kernel
theorem dX9_daysOf_50 : decode cX9_daysOf 50 = .ok (.bipush 31, 2) := by decide +kernel
theorem dX9_daysOf_52 : decode cX9_daysOf 52 = .ok (.ireturn, 1) := by decide +kernel
theorem dX9_behind_0 : decode cX9_behind 0 = .ok (.iload_n 0, 1) := by decide +kernel
theorem dX9_behind_1 : decode cX9_behind 1 = .ok (.istore_n 2, 1) := by decide +kernel
theorem dX9_behind_2 : decode cX9_behind 2 = .ok (.sipush 1970, 3) := by decide +kernel
theorem dX9_behind_5 : decode cX9_behind 5 = .ok (.istore_n 3, 1) := by decide +kernel
theorem dX9_behind_6 : decode cX9_behind 6 = .ok (.iload_n 2, 1) := by decide +kernel
theorem dX9_behind_7 : decode cX9_behind 7 = .ok (.ifCond .ge 28, 3) := by decide +kernel
theorem dX9_behind_10 : decode cX9_behind 10 = .ok (.iinc 3 (-1), 3) := by decide +kernel
theorem dX9_behind_13 : decode cX9_behind 13 = .ok (.iload_n 2, 1) := by decide +kernel
theorem dX9_behind_14 : decode cX9_behind 14 = .ok (.iload_n 3, 1) := by decide +kernel
theorem dX9_behind_15 : decode cX9_behind 15 = .ok (.invokestatic 135, 3) := by decide +kernel
theorem dX9_behind_18 : decode cX9_behind 18 = .ok (.ifCond .eq 9, 3) := by decide +kernel
theorem dX9_behind_21 : decode cX9_behind 21 = .ok (.sipush 366, 3) := by decide +kernel
theorem dX9_behind_24 : decode cX9_behind 24 = .ok (.goto 6, 3) := by decide +kernel
theorem dX9_behind_27 : decode cX9_behind 27 = .ok (.sipush 365, 3) := by decide +kernel
theorem dX9_behind_30 : decode cX9_behind 30 = .ok (.iadd, 1) := by decide +kernel
theorem dX9_behind_31 : decode cX9_behind 31 = .ok (.istore_n 2, 1) := by decide +kernel
theorem dX9_behind_32 : decode cX9_behind 32 = .ok (.goto (-26), 3) := by decide +kernel
theorem dX9_behind_35 : decode cX9_behind 35 = .ok (.iload_n 2, 1) := by decide +kernel
theorem dX9_behind_36 : decode cX9_behind 36 = .ok (.iload_n 3, 1) := by decide +kernel
theorem dX9_behind_37 : decode cX9_behind 37 = .ok (.invokestatic 135, 3) := by decide +kernel
theorem dX9_behind_40 : decode cX9_behind 40 = .ok (.ifCond .eq 9, 3) := by decide +kernel
theorem dX9_behind_43 : decode cX9_behind 43 = .ok (.sipush 366, 3) := by decide +kernel
theorem dX9_behind_46 : decode cX9_behind 46 = .ok (.goto 6, 3) := by decide +kernel
theorem dX9_behind_49 : decode cX9_behind 49 = .ok (.sipush 365, 3) := by decide +kernel
theorem dX9_behind_52 : decode cX9_behind 52 = .ok (.if_icmp .lt 28, 3) := by decide +kernel
theorem dX9_behind_55 : decode cX9_behind 55 = .ok (.iload_n 2, 1) := by decide +kernel
theorem dX9_behind_56 : decode cX9_behind 56 = .ok (.iload_n 3, 1) := by decide +kernel
theorem dX9_behind_57 : decode cX9_behind 57 = .ok (.invokestatic 135, 3) := by decide +kernel
theorem dX9_behind_60 : decode cX9_behind 60 = .ok (.ifCond .eq 9, 3) := by decide +kernel
theorem dX9_behind_63 : decode cX9_behind 63 = .ok (.sipush 366, 3) := by decide +kernel
theorem dX9_behind_66 : decode cX9_behind 66 = .ok (.goto 6, 3) := by decide +kernel
theorem dX9_behind_69 : decode cX9_behind 69 = .ok (.sipush 365, 3) := by decide +kernel
theorem dX9_behind_72 : decode cX9_behind 72 = .ok (.isub, 1) := by decide +kernel
theorem dX9_behind_73 : decode cX9_behind 73 = .ok (.istore_n 2, 1) := by decide +kernel
theorem dX9_behind_74 : decode cX9_behind 74 = .ok (.iinc 3 1, 3) := by decide +kernel
theorem dX9_behind_77 : decode cX9_behind 77 = .ok (.goto (-42), 3) := by decide +kernel
theorem dX9_behind_80 : decode cX9_behind 80 = .ok (.iload_n 2, 1) := by decide +kernel
theorem dX9_behind_81 : decode cX9_behind 81 = .ok (.istore 4, 2) := by decide +kernel
theorem dX9_behind_83 : decode cX9_behind 83 = .ok (.iconst 1, 1) := by decide +kernel
theorem dX9_behind_84 : decode cX9_behind 84 = .ok (.istore 5, 2) := by decide +kernel
theorem dX9_behind_86 : decode cX9_behind 86 = .ok (.iconst 0, 1) := by decide +kernel
theorem dX9_behind_87 : decode cX9_behind 87 = .ok (.istore 6, 2) := by decide +kernel
theorem dX9_behind_89 : decode cX9_behind 89 = .ok (.iload 4, 2) := by decide +kernel
theorem dX9_behind_91 : decode cX9_behind 91 = .ok (.iload_n 3, 1) := by decide +kernel
theorem dX9_behind_92 : decode cX9_behind 92 = .ok (.iload 5, 2) := by decide +kernel
theorem dX9_behind_94 : decode cX9_behind 94 = .ok (.invokestatic 138, 3) := by decide +kernel
theorem dX9_behind_97 : decode cX9_behind 97 = .ok (.if_icmp .lt 46, 3) := by decide +kernel
theorem dX9_behind_100 : decode cX9_behind 100 = .ok (.iload 4, 2) := by decide +kernel
theorem dX9_behind_102 : decode cX9_behind 102 = .ok (.iload_n 3, 1) := by decide +kernel
theorem dX9_behind_103 : decode cX9_behind 103 = .ok (.iload 5, 2) := by decide +kernel
theorem dX9_behind_105 : decode cX9_behind 105 = .ok (.invokestatic 138, 3) := by decide +kernel
theorem dX9_behind_108 : decode cX9_behind 108 = .ok (.isub, 1) := by decide +kernel
theorem dX9_behind_109 : decode cX9_behind 109 = .ok (.istore 4, 2) := by decide +kernel
theorem dX9_behind_111 : decode cX9_behind 111 = .ok (.iload 6, 2) := by decide +kernel
theorem dX9_behind_113 : decode cX9_behind 113 = .ok (.iload_n 3, 1) := by decide +kernel
theorem dX9_behind_114 : decode cX9_behind 114 = .ok (.iload 5, 2) := by decide +kernel
theorem dX9_behind_116 : decode cX9_behind 116 = .ok (.invokestatic 138, 3) := by decide +kernel
theorem dX9_behind_119 : decode cX9_behind 119 = .ok (.iadd, 1) := by decide +kernel
theorem dX9_behind_120 : decode cX9_behind 120 = .ok (.istore 6, 2) := by decide +kernel
theorem dX9_behind_122 : decode cX9_behind 122 = .ok (.iload 5, 2) := by decide +kernel
theorem dX9_behind_124 : decode cX9_behind 124 = .ok (.iconst 3, 1) := by decide +kernel
theorem dX9_behind_125 : decode cX9_behind 125 = .ok (.irem, 1) := by decide +kernel
theorem dX9_behind_126 : decode cX9_behind 126 = .ok (.ifCond .ne 7, 3) := by decide +kernel
theorem dX9_behind_129 : decode cX9_behind 129 = .ok (.iconst 0, 1) := by decide +kernel
theorem dX9_behind_130 : decode cX9_behind 130 = .ok (.goto 5, 3) := by decide +kernel
theorem dX9_behind_133 : decode cX9_behind 133 = .ok (.iload 6, 2) := by decide +kernel
theorem dX9_behind_135 : decode cX9_behind 135 = .ok (.istore 6, 2) := by decide +kernel
theorem dX9_behind_137 : decode cX9_behind 137 = .ok (.iinc 5 1, 3) := by decide +kernel
theorem dX9_behind_140 : decode cX9_behind 140 = .ok (.goto (-51), 3) := by decide +kernel
theorem dX9_behind_143 : decode cX9_behind 143 = .ok (.iload_n 1, 1) := by decide +kernel
theorem dX9_behind_144 : decode cX9_behind 144 = .ok (.iconst 2, 1) := by decide +kernel
theorem dX9_behind_145 : decode cX9_behind 145 = .ok (.if_icmp .ne 8, 3) := by decide +kernel
theorem dX9_behind_148 : decode cX9_behind 148 = .ok (.iload 4, 2) := by decide +kernel
theorem dX9_behind_150 : decode cX9_behind 150 = .ok (.goto 17, 3) := by decide +kernel
theorem dX9_behind_153 : decode cX9_behind 153 = .ok (.iload_n 1, 1) := by decide +kernel
theorem dX9_behind_154 : decode cX9_behind 154 = .ok (.iconst 3, 1) := by decide +kernel
theorem dX9_behind_155 : decode cX9_behind 155 = .ok (.if_icmp .ne 11, 3) := by decide +kernel
theorem dX9_behind_158 : decode cX9_behind 158 = .ok (.iload 4, 2) := by decide +kernel
theorem dX9_behind_160 : decode cX9_behind 160 = .ok (.iload 6, 2) := by decide +kernel
theorem dX9_behind_162 : decode cX9_behind 162 = .ok (.iadd, 1) := by decide +kernel
theorem dX9_behind_163 : decode cX9_behind 163 = .ok (.goto 4, 3) := by decide +kernel
theorem dX9_behind_166 : decode cX9_behind 166 = .ok (.iload_n 2, 1) := by decide +kernel
theorem dX9_behind_167 : decode cX9_behind 167 = .ok (.ireturn, 1) := by decide +kernel
theorem dX9_modulo_0 : decode cX9_modulo 0 = .ok (.iload_n 0, 1) := by decide +kernel
theorem dX9_modulo_1 : decode cX9_modulo 1 = .ok (.iload_n 1, 1) := by decide +kernel
theorem dX9_modulo_2 : decode cX9_modulo 2 = .ok (.irem, 1) := by decide +kernel
theorem dX9_modulo_3 : decode cX9_modulo 3 = .ok (.istore_n 2, 1) := by decide +kernel
theorem dX9_modulo_4 : decode cX9_modulo 4 = .ok (.iload_n 2, 1) := by decide +kernel
theorem dX9_modulo_5 : decode cX9_modulo 5 = .ok (.ifCond .ge 9, 3) := by decide +kernel
theorem dX9_modulo_8 : decode cX9_modulo 8 = .ok (.iload_n 2, 1) := by decide +kernel
theorem dX9_modulo_9 : decode cX9_modulo 9 = .ok (.iload_n 1, 1) := by decide +kernel
theorem dX9_modulo_10 : decode cX9_modulo 10 = .ok (.iadd, 1) := by decide +kernel
theorem dX9_modulo_11 : decode cX9_modulo 11 = .ok (.goto 4, 3) := by decide +kernel
theorem dX9_modulo_14 : decode cX9_modulo 14 = .ok (.iload_n 2, 1) := by decide +kernel
theorem dX9_modulo_15 : decode cX9_modulo 15 = .ok (.ireturn, 1) := by decide +kernel
theorem dX9_giveDays_0 : decode cX9_giveDays 0 = .ok (.iload_n 1, 1) := by decide +kernel
theorem dX9_giveDays_1 : decode cX9_giveDays 1 = .ok (.ldc 142, 2) := by decide +kernel
theorem dX9_giveDays_3 : decode cX9_giveDays 3 = .ok (.ldc 121, 2) := by decide +kernel
theorem dX9_giveDays_5 : decode cX9_giveDays 5 = .ok (.invokestatic 94, 3) := by decide +kernel
theorem dX9_giveDays_8 : decode cX9_giveDays 8 = .ok (.ifCond .eq 40, 3) := by decide +kernel
theorem dX9_giveDays_11 : decode cX9_giveDays 11 = .ok (.aload_n 0, 1) := by decide +kernel
theorem dX9_giveDays_12 : decode cX9_giveDays 12 = .ok (.iload_n 2, 1) := by decide +kernel
theorem dX9_giveDays_13 : decode cX9_giveDays 13 = .ok (.ifCond .ne 7, 3) := by decide +kernel
theorem dX9_giveDays_16 : decode cX9_giveDays 16 = .ok (.iload_n 1, 1) := by decide +kernel
theorem dX9_giveDays_17 : decode cX9_giveDays 17 = .ok (.goto 28, 3) := by decide +kernel
theorem dX9_giveDays_20 : decode cX9_giveDays 20 = .ok (.iload_n 2, 1) := by decide +kernel
theorem dX9_giveDays_21 : decode cX9_giveDays 21 = .ok (.iconst 1, 1) := by decide +kernel
theorem dX9_giveDays_22 : decode cX9_giveDays 22 = .ok (.if_icmp .ne 16, 3) := by decide +kernel
theorem dX9_giveDays_25 : decode cX9_giveDays 25 = .ok (.iload_n 1, 1) := by decide +kernel
theorem dX9_giveDays_26 : decode cX9_giveDays 26 = .ok (.iload_n 1, 1) := by decide +kernel
theorem dX9_giveDays_27 : decode cX9_giveDays 27 = .ok (.iconst 3, 1) := by decide +kernel
theorem dX9_giveDays_28 : decode cX9_giveDays 28 = .ok (.iadd, 1) := by decide +kernel
theorem dX9_giveDays_29 : decode cX9_giveDays 29 = .ok (.bipush 7, 2) := by decide +kernel
theorem dX9_giveDays_31 : decode cX9_giveDays 31 = .ok (.invokestatic 143, 3) := by decide +kernel
theorem dX9_giveDays_34 : decode cX9_giveDays 34 = .ok (.isub, 1) := by decide +kernel
theorem dX9_giveDays_35 : decode cX9_giveDays 35 = .ok (.goto 10, 3) := by decide +kernel
theorem dX9_giveDays_38 : decode cX9_giveDays 38 = .ok (.iload_n 1, 1) := by decide +kernel
theorem dX9_giveDays_39 : decode cX9_giveDays 39 = .ok (.iload_n 1, 1) := by decide +kernel
theorem dX9_giveDays_40 : decode cX9_giveDays 40 = .ok (.iload_n 2, 1) := by decide +kernel
theorem dX9_giveDays_41 : decode cX9_giveDays 41 = .ok (.invokestatic 146, 3) := by decide +kernel
theorem dX9_giveDays_44 : decode cX9_giveDays 44 = .ok (.isub, 1) := by decide +kernel
theorem dX9_giveDays_45 : decode cX9_giveDays 45 = .ok (.invokevirtual 131, 3) := by decide +kernel
theorem dX9_giveDays_48 : decode cX9_giveDays 48 = .ok (.return_, 1) := by decide +kernel
theorem dX9_giveKeys_0 : decode cX9_giveKeys 0 = .ok (.aload_n 0, 1) := by decide +kernel
theorem dX9_giveKeys_1 : decode cX9_giveKeys 1 = .ok (.iconst 0, 1) := by decide +kernel
theorem dX9_giveKeys_2 : decode cX9_giveKeys 2 = .ok (.putfield 127, 3) := by decide +kernel
theorem dX9_giveKeys_5 : decode cX9_giveKeys 5 = .ok (.aload_n 0, 1) := by decide +kernel
theorem dX9_giveKeys_6 : decode cX9_giveKeys 6 = .ok (.getfield 20, 3) := by decide +kernel
theorem dX9_giveKeys_9 : decode cX9_giveKeys 9 = .ok (.iload_n 1, 1) := by decide +kernel
theorem dX9_giveKeys_10 : decode cX9_giveKeys 10 = .ok (.iaload, 1) := by decide +kernel
theorem dX9_giveKeys_11 : decode cX9_giveKeys 11 = .ok (.tableswitch 126 0 3 #[29, 37, 45, 100], 29) := by decide +kernel
theorem dX9_giveKeys_40 : decode cX9_giveKeys 40 = .ok (.aload_n 0, 1) := by decide +kernel
theorem dX9_giveKeys_41 : decode cX9_giveKeys 41 = .ok (.iload_n 2, 1) := by decide +kernel
theorem dX9_giveKeys_42 : decode cX9_giveKeys 42 = .ok (.invokevirtual 131, 3) := by decide +kernel
theorem dX9_giveKeys_45 : decode cX9_giveKeys 45 = .ok (.goto 103, 3) := by decide +kernel
theorem dX9_giveKeys_48 : decode cX9_giveKeys 48 = .ok (.aload_n 0, 1) := by decide +kernel
theorem dX9_giveKeys_49 : decode cX9_giveKeys 49 = .ok (.iload_n 2, 1) := by decide +kernel
theorem dX9_giveKeys_50 : decode cX9_giveKeys 50 = .ok (.invokevirtual 149, 3) := by decide +kernel
theorem dX9_giveKeys_53 : decode cX9_giveKeys 53 = .ok (.goto 95, 3) := by decide +kernel
theorem dX9_giveKeys_56 : decode cX9_giveKeys 56 = .ok (.iconst 0, 1) := by decide +kernel
theorem dX9_giveKeys_57 : decode cX9_giveKeys 57 = .ok (.istore_n 3, 1) := by decide +kernel
theorem dX9_giveKeys_58 : decode cX9_giveKeys 58 = .ok (.iload_n 3, 1) := by decide +kernel
theorem dX9_giveKeys_59 : decode cX9_giveKeys 59 = .ok (.aload_n 0, 1) := by decide +kernel
theorem dX9_giveKeys_60 : decode cX9_giveKeys 60 = .ok (.getfield 32, 3) := by decide +kernel
theorem dX9_giveKeys_63 : decode cX9_giveKeys 63 = .ok (.iload_n 1, 1) := by decide +kernel
theorem dX9_giveKeys_64 : decode cX9_giveKeys 64 = .ok (.iaload, 1) := by decide +kernel
theorem dX9_giveKeys_65 : decode cX9_giveKeys 65 = .ok (.if_icmp .ge 43, 3) := by decide +kernel
theorem dX9_giveKeys_68 : decode cX9_giveKeys 68 = .ok (.iload_n 2, 1) := by decide +kernel
theorem dX9_giveKeys_69 : decode cX9_giveKeys 69 = .ok (.aload_n 0, 1) := by decide +kernel
theorem dX9_giveKeys_70 : decode cX9_giveKeys 70 = .ok (.getfield 35, 3) := by decide +kernel
theorem dX9_giveKeys_73 : decode cX9_giveKeys 73 = .ok (.bipush 6, 2) := by decide +kernel
theorem dX9_giveKeys_75 : decode cX9_giveKeys 75 = .ok (.iload_n 1, 1) := by decide +kernel
theorem dX9_giveKeys_76 : decode cX9_giveKeys 76 = .ok (.imul, 1) := by decide +kernel
theorem dX9_giveKeys_77 : decode cX9_giveKeys 77 = .ok (.iload_n 3, 1) := by decide +kernel
theorem dX9_giveKeys_78 : decode cX9_giveKeys 78 = .ok (.iadd, 1) := by decide +kernel
theorem dX9_giveKeys_79 : decode cX9_giveKeys 79 = .ok (.iaload, 1) := by decide +kernel
theorem dX9_giveKeys_80 : decode cX9_giveKeys 80 = .ok (.aload_n 0, 1) := by decide +kernel
theorem dX9_giveKeys_81 : decode cX9_giveKeys 81 = .ok (.getfield 38, 3) := by decide +kernel
theorem dX9_giveKeys_84 : decode cX9_giveKeys 84 = .ok (.bipush 6, 2) := by decide +kernel
theorem dX9_giveKeys_86 : decode cX9_giveKeys 86 = .ok (.iload_n 1, 1) := by decide +kernel
theorem dX9_giveKeys_87 : decode cX9_giveKeys 87 = .ok (.imul, 1) := by decide +kernel
theorem dX9_giveKeys_88 : decode cX9_giveKeys 88 = .ok (.iload_n 3, 1) := by decide +kernel
theorem dX9_giveKeys_89 : decode cX9_giveKeys 89 = .ok (.iadd, 1) := by decide +kernel
theorem dX9_giveKeys_90 : decode cX9_giveKeys 90 = .ok (.iaload, 1) := by decide +kernel
theorem dX9_giveKeys_91 : decode cX9_giveKeys 91 = .ok (.invokestatic 94, 3) := by decide +kernel
theorem dX9_giveKeys_94 : decode cX9_giveKeys 94 = .ok (.ifCond .eq 8, 3) := by decide +kernel
theorem dX9_giveKeys_97 : decode cX9_giveKeys 97 = .ok (.aload_n 0, 1) := by decide +kernel
theorem dX9_giveKeys_98 : decode cX9_giveKeys 98 = .ok (.iload_n 3, 1) := by decide +kernel
theorem dX9_giveKeys_99 : decode cX9_giveKeys 99 = .ok (.invokevirtual 131, 3) := by decide +kernel
theorem dX9_giveKeys_102 : decode cX9_giveKeys 102 = .ok (.iinc 3 1, 3) := by decide +kernel
theorem dX9_giveKeys_105 : decode cX9_giveKeys 105 = .ok (.goto (-47), 3) := by decide +kernel
theorem dX9_giveKeys_108 : decode cX9_giveKeys 108 = .ok (.goto 40, 3) := by decide +kernel
theorem dX9_giveKeys_111 : decode cX9_giveKeys 111 = .ok (.aload_n 0, 1) := by decide +kernel
theorem dX9_giveKeys_112 : decode cX9_giveKeys 112 = .ok (.iload_n 2, 1) := by decide +kernel
theorem dX9_giveKeys_113 : decode cX9_giveKeys 113 = .ok (.iload_n 2, 1) := by decide +kernel
theorem dX9_giveKeys_114 : decode cX9_giveKeys 114 = .ok (.aload_n 0, 1) := by decide +kernel
theorem dX9_giveKeys_115 : decode cX9_giveKeys 115 = .ok (.getfield 29, 3) := by decide +kernel
theorem dX9_giveKeys_118 : decode cX9_giveKeys 118 = .ok (.iload_n 1, 1) := by decide +kernel
theorem dX9_giveKeys_119 : decode cX9_giveKeys 119 = .ok (.iaload, 1) := by decide +kernel
theorem dX9_giveKeys_120 : decode cX9_giveKeys 120 = .ok (.isub, 1) := by decide +kernel
theorem dX9_giveKeys_121 : decode cX9_giveKeys 121 = .ok (.aload_n 0, 1) := by decide +kernel
theorem dX9_giveKeys_122 : decode cX9_giveKeys 122 = .ok (.getfield 26, 3) := by decide +kernel
theorem dX9_giveKeys_125 : decode cX9_giveKeys 125 = .ok (.iload_n 1, 1) := by decide +kernel
theorem dX9_giveKeys_126 : decode cX9_giveKeys 126 = .ok (.iaload, 1) := by decide +kernel
theorem dX9_giveKeys_127 : decode cX9_giveKeys 127 = .ok (.invokestatic 143, 3) := by decide +kernel
theorem dX9_giveKeys_130 : decode cX9_giveKeys 130 = .ok (.isub, 1) := by decide +kernel
theorem dX9_giveKeys_131 : decode cX9_giveKeys 131 = .ok (.invokevirtual 131, 3) := by decide +kernel
theorem dX9_giveKeys_134 : decode cX9_giveKeys 134 = .ok (.goto 14, 3) := by decide +kernel
theorem dX9_giveKeys_137 : decode cX9_giveKeys 137 = .ok (.aload_n 0, 1) := by decide +kernel
theorem dX9_giveKeys_138 : decode cX9_giveKeys 138 = .ok (.iload_n 2, 1) := by decide +kernel
theorem dX9_giveKeys_139 : decode cX9_giveKeys 139 = .ok (.aload_n 0, 1) := by decide +kernel
theorem dX9_giveKeys_140 : decode cX9_giveKeys 140 = .ok (.getfield 26, 3) := by decide +kernel
theorem dX9_giveKeys_143 : decode cX9_giveKeys 143 = .ok (.iload_n 1, 1) := by decide +kernel
theorem dX9_giveKeys_144 : decode cX9_giveKeys 144 = .ok (.iaload, 1) := by decide +kernel
theorem dX9_giveKeys_145 : decode cX9_giveKeys 145 = .ok (.invokevirtual 152, 3) := by decide +kernel
theorem dX9_giveKeys_148 : decode cX9_giveKeys 148 = .ok (.return_, 1) := by decide +kernel
theorem dX9_atHand_0 : decode cX9_atHand 0 = .ok (.aload_n 0, 1) := by decide +kernel
theorem dX9_atHand_1 : decode cX9_atHand 1 = .ok (.getfield 103, 3) := by decide +kernel
theorem dX9_atHand_4 : decode cX9_atHand 4 = .ok (.ifCond .ne 12, 3) := by decide +kernel
theorem dX9_atHand_7 : decode cX9_atHand 7 = .ok (.aload_n 0, 1) := by decide +kernel
theorem dX9_atHand_8 : decode cX9_atHand 8 = .ok (.getfield 16, 3) := by decide +kernel
theorem dX9_atHand_11 : decode cX9_atHand 11 = .ok (.iload_n 1, 1) := by decide +kernel
theorem dX9_atHand_12 : decode cX9_atHand 12 = .ok (.baload, 1) := by decide +kernel
theorem dX9_atHand_13 : decode cX9_atHand 13 = .ok (.goto 19, 3) := by decide +kernel
theorem dX9_atHand_16 : decode cX9_atHand 16 = .ok (.aload_n 0, 1) := by decide +kernel
theorem dX9_atHand_17 : decode cX9_atHand 17 = .ok (.getfield 62, 3) := by decide +kernel
theorem dX9_atHand_20 : decode cX9_atHand 20 = .ok (.bipush 120, 2) := by decide +kernel
theorem dX9_atHand_22 : decode cX9_atHand 22 = .ok (.aload_n 0, 1) := by decide +kernel
theorem dX9_atHand_23 : decode cX9_atHand 23 = .ok (.getfield 103, 3) := by decide +kernel
theorem dX9_atHand_26 : decode cX9_atHand 26 = .ok (.iconst 1, 1) := by decide +kernel
theorem dX9_atHand_27 : decode cX9_atHand 27 = .ok (.isub, 1) := by decide +kernel
theorem dX9_atHand_28 : decode cX9_atHand 28 = .ok (.imul, 1) := by decide +kernel
theorem dX9_atHand_29 : decode cX9_atHand 29 = .ok (.iload_n 1, 1) := by decide +kernel
theorem dX9_atHand_30 : decode cX9_atHand 30 = .ok (.iadd, 1) := by decide +kernel
theorem dX9_atHand_31 : decode cX9_atHand 31 = .ok (.baload, 1) := by decide +kernel
theorem dX9_atHand_32 : decode cX9_atHand 32 = .ok (.ireturn, 1) := by decide +kernel
theorem dX9_counts_0 : decode cX9_counts 0 = .ok (.aload_n 0, 1) := by decide +kernel
theorem dX9_counts_1 : decode cX9_counts 1 = .ok (.iload_n 2, 1) := by decide +kernel
theorem dX9_counts_2 : decode cX9_counts 2 = .ok (.invokevirtual 156, 3) := by decide +kernel
theorem dX9_counts_5 : decode cX9_counts 5 = .ok (.ifCond .ne 5, 3) := by decide +kernel
theorem dX9_counts_8 : decode cX9_counts 8 = .ok (.iconst 0, 1) := by decide +kernel
theorem dX9_counts_9 : decode cX9_counts 9 = .ok (.ireturn, 1) := by decide +kernel
theorem dX9_counts_10 : decode cX9_counts 10 = .ok (.aload_n 0, 1) := by decide +kernel
theorem dX9_counts_11 : decode cX9_counts 11 = .ok (.getfield 41, 3) := by decide +kernel
theorem dX9_counts_14 : decode cX9_counts 14 = .ok (.iload_n 1, 1) := by decide +kernel
theorem dX9_counts_15 : decode cX9_counts 15 = .ok (.iaload, 1) := by decide +kernel
theorem dX9_counts_16 : decode cX9_counts 16 = .ok (.ldc 122, 2) := by decide +kernel
theorem dX9_counts_18 : decode cX9_counts 18 = .ok (.if_icmp .ne 7, 3) := by decide +kernel
theorem dX9_counts_21 : decode cX9_counts 21 = .ok (.iconst 1, 1) := by decide +kernel
theorem dX9_counts_22 : decode cX9_counts 22 = .ok (.goto 4, 3) := by decide +kernel
theorem dX9_counts_25 : decode cX9_counts 25 = .ok (.iconst 0, 1) := by decide +kernel
theorem dX9_counts_26 : decode cX9_counts 26 = .ok (.istore_n 3, 1) := by decide +kernel
theorem dX9_counts_27 : decode cX9_counts 27 = .ok (.bipush 6, 2) := by decide +kernel
theorem dX9_counts_29 : decode cX9_counts 29 = .ok (.iload_n 2, 1) := by decide +kernel
theorem dX9_counts_30 : decode cX9_counts 30 = .ok (.imul, 1) := by decide +kernel
theorem dX9_counts_31 : decode cX9_counts 31 = .ok (.iload_n 3, 1) := by decide +kernel
theorem dX9_counts_32 : decode cX9_counts 32 = .ok (.ifCond .eq 7, 3) := by decide +kernel
theorem dX9_counts_35 : decode cX9_counts 35 = .ok (.iconst 0, 1) := by decide +kernel
theorem dX9_counts_36 : decode cX9_counts 36 = .ok (.goto 9, 3) := by decide +kernel
theorem dX9_counts_39 : decode cX9_counts 39 = .ok (.aload_n 0, 1) := by decide +kernel
theorem dX9_counts_40 : decode cX9_counts 40 = .ok (.getfield 41, 3) := by decide +kernel
theorem dX9_counts_43 : decode cX9_counts 43 = .ok (.iload_n 1, 1) := by decide +kernel
theorem dX9_counts_44 : decode cX9_counts 44 = .ok (.iaload, 1) := by decide +kernel
theorem dX9_counts_45 : decode cX9_counts 45 = .ok (.iadd, 1) := by decide +kernel
theorem dX9_counts_46 : decode cX9_counts 46 = .ok (.istore 4, 2) := by decide +kernel
theorem dX9_counts_48 : decode cX9_counts 48 = .ok (.iconst 0, 1) := by decide +kernel
theorem dX9_counts_49 : decode cX9_counts 49 = .ok (.istore 5, 2) := by decide +kernel
theorem dX9_counts_51 : decode cX9_counts 51 = .ok (.iload 5, 2) := by decide +kernel
theorem dX9_counts_53 : decode cX9_counts 53 = .ok (.aload_n 0, 1) := by decide +kernel
theorem dX9_counts_54 : decode cX9_counts 54 = .ok (.getfield 7, 3) := by decide +kernel
theorem dX9_counts_57 : decode cX9_counts 57 = .ok (.iload 4, 2) := by decide +kernel
theorem dX9_counts_59 : decode cX9_counts 59 = .ok (.iaload, 1) := by decide +kernel
theorem dX9_counts_60 : decode cX9_counts 60 = .ok (.if_icmp .ge 41, 3) := by decide +kernel
theorem dX9_counts_63 : decode cX9_counts 63 = .ok (.iload_n 3, 1) := by decide +kernel
theorem dX9_counts_64 : decode cX9_counts 64 = .ok (.ifCond .ne 37, 3) := by decide +kernel
theorem dX9_counts_67 : decode cX9_counts 67 = .ok (.aload_n 0, 1) := by decide +kernel
theorem dX9_counts_68 : decode cX9_counts 68 = .ok (.getfield 13, 3) := by decide +kernel
theorem dX9_counts_71 : decode cX9_counts 71 = .ok (.iconst 3, 1) := by decide +kernel
theorem dX9_counts_72 : decode cX9_counts 72 = .ok (.iload 4, 2) := by decide +kernel
theorem dX9_counts_74 : decode cX9_counts 74 = .ok (.imul, 1) := by decide +kernel
theorem dX9_counts_75 : decode cX9_counts 75 = .ok (.iload 5, 2) := by decide +kernel
theorem dX9_counts_77 : decode cX9_counts 77 = .ok (.iadd, 1) := by decide +kernel
theorem dX9_counts_78 : decode cX9_counts 78 = .ok (.iaload, 1) := by decide +kernel
theorem dX9_counts_79 : decode cX9_counts 79 = .ok (.aload_n 0, 1) := by decide +kernel
theorem dX9_counts_80 : decode cX9_counts 80 = .ok (.getfield 44, 3) := by decide +kernel
theorem dX9_counts_83 : decode cX9_counts 83 = .ok (.iload_n 1, 1) := by decide +kernel
theorem dX9_counts_84 : decode cX9_counts 84 = .ok (.iaload, 1) := by decide +kernel
theorem dX9_counts_85 : decode cX9_counts 85 = .ok (.aload_n 0, 1) := by decide +kernel
theorem dX9_counts_86 : decode cX9_counts 86 = .ok (.getfield 47, 3) := by decide +kernel
theorem dX9_counts_89 : decode cX9_counts 89 = .ok (.iload_n 1, 1) := by decide +kernel
theorem dX9_counts_90 : decode cX9_counts 90 = .ok (.iaload, 1) := by decide +kernel
theorem dX9_counts_91 : decode cX9_counts 91 = .ok (.invokestatic 94, 3) := by decide +kernel
theorem dX9_counts_94 : decode cX9_counts 94 = .ok (.istore_n 3, 1) := by decide +kernel
theorem dX9_counts_95 : decode cX9_counts 95 = .ok (.iinc 5 1, 3) := by decide +kernel
theorem dX9_counts_98 : decode cX9_counts 98 = .ok (.goto (-47), 3) := by decide +kernel
theorem dX9_counts_101 : decode cX9_counts 101 = .ok (.iload_n 3, 1) := by decide +kernel
theorem dX9_counts_102 : decode cX9_counts 102 = .ok (.ireturn, 1) := by decide +kernel
theorem dX9_findKeysOf_0 : decode cX9_findKeysOf 0 = .ok (.bipush 6, 2) := by decide +kernel
theorem dX9_findKeysOf_2 : decode cX9_findKeysOf 2 = .ok (.iload_n 2, 1) := by decide +kernel
theorem dX9_findKeysOf_3 : decode cX9_findKeysOf 3 = .ok (.imul, 1) := by decide +kernel
theorem dX9_findKeysOf_4 : decode cX9_findKeysOf 4 = .ok (.aload_n 0, 1) := by decide +kernel
theorem dX9_findKeysOf_5 : decode cX9_findKeysOf 5 = .ok (.getfield 23, 3) := by decide +kernel
theorem dX9_findKeysOf_8 : decode cX9_findKeysOf 8 = .ok (.iload_n 1, 1) := by decide +kernel
theorem dX9_findKeysOf_9 : decode cX9_findKeysOf 9 = .ok (.iaload, 1) := by decide +kernel
theorem dX9_findKeysOf_10 : decode cX9_findKeysOf 10 = .ok (.iadd, 1) := by decide +kernel
theorem dX9_findKeysOf_11 : decode cX9_findKeysOf 11 = .ok (.istore_n 3, 1) := by decide +kernel
theorem dX9_findKeysOf_12 : decode cX9_findKeysOf 12 = .ok (.aload_n 0, 1) := by decide +kernel
theorem dX9_findKeysOf_13 : decode cX9_findKeysOf 13 = .ok (.getfield 78, 3) := by decide +kernel
theorem dX9_findKeysOf_16 : decode cX9_findKeysOf 16 = .ok (.iload_n 2, 1) := by decide +kernel
theorem dX9_findKeysOf_17 : decode cX9_findKeysOf 17 = .ok (.iconst 0, 1) := by decide +kernel
theorem dX9_findKeysOf_18 : decode cX9_findKeysOf 18 = .ok (.iastore, 1) := by decide +kernel
theorem dX9_findKeysOf_19 : decode cX9_findKeysOf 19 = .ok (.iconst 0, 1) := by decide +kernel
theorem dX9_findKeysOf_20 : decode cX9_findKeysOf 20 = .ok (.istore 4, 2) := by decide +kernel
theorem dX9_findKeysOf_22 : decode cX9_findKeysOf 22 = .ok (.iload 4, 2) := by decide +kernel
theorem dX9_findKeysOf_24 : decode cX9_findKeysOf 24 = .ok (.aload_n 0, 1) := by decide +kernel
theorem dX9_findKeysOf_25 : decode cX9_findKeysOf 25 = .ok (.getfield 7, 3) := by decide +kernel
theorem dX9_findKeysOf_28 : decode cX9_findKeysOf 28 = .ok (.iload_n 3, 1) := by decide +kernel
theorem dX9_findKeysOf_29 : decode cX9_findKeysOf 29 = .ok (.iaload, 1) := by decide +kernel
theorem dX9_findKeysOf_30 : decode cX9_findKeysOf 30 = .ok (.if_icmp .ge 76, 3) := by decide +kernel
theorem dX9_findKeysOf_33 : decode cX9_findKeysOf 33 = .ok (.aload_n 0, 1) := by decide +kernel
theorem dX9_findKeysOf_34 : decode cX9_findKeysOf 34 = .ok (.iload_n 1, 1) := by decide +kernel
theorem dX9_findKeysOf_35 : decode cX9_findKeysOf 35 = .ok (.aload_n 0, 1) := by decide +kernel
theorem dX9_findKeysOf_36 : decode cX9_findKeysOf 36 = .ok (.getfield 13, 3) := by decide +kernel
theorem dX9_findKeysOf_39 : decode cX9_findKeysOf 39 = .ok (.iconst 3, 1) := by decide +kernel
theorem dX9_findKeysOf_40 : decode cX9_findKeysOf 40 = .ok (.iload_n 3, 1) := by decide +kernel
theorem dX9_findKeysOf_41 : decode cX9_findKeysOf 41 = .ok (.imul, 1) := by decide +kernel
theorem dX9_findKeysOf_42 : decode cX9_findKeysOf 42 = .ok (.iload 4, 2) := by decide +kernel
theorem dX9_findKeysOf_44 : decode cX9_findKeysOf 44 = .ok (.iadd, 1) := by decide +kernel
theorem dX9_findKeysOf_45 : decode cX9_findKeysOf 45 = .ok (.iaload, 1) := by decide +kernel
theorem dX9_findKeysOf_46 : decode cX9_findKeysOf 46 = .ok (.invokevirtual 159, 3) := by decide +kernel
theorem dX9_findKeysOf_49 : decode cX9_findKeysOf 49 = .ok (.iconst 0, 1) := by decide +kernel
theorem dX9_findKeysOf_50 : decode cX9_findKeysOf 50 = .ok (.istore 5, 2) := by decide +kernel
theorem dX9_findKeysOf_52 : decode cX9_findKeysOf 52 = .ok (.iload 5, 2) := by decide +kernel
theorem dX9_findKeysOf_54 : decode cX9_findKeysOf 54 = .ok (.aload_n 0, 1) := by decide +kernel
theorem dX9_findKeysOf_55 : decode cX9_findKeysOf 55 = .ok (.getfield 127, 3) := by decide +kernel
theorem dX9_findKeysOf_58 : decode cX9_findKeysOf 58 = .ok (.if_icmp .ge 42, 3) := by decide +kernel
theorem dX9_findKeysOf_61 : decode cX9_findKeysOf 61 = .ok (.aload_n 0, 1) := by decide +kernel
theorem dX9_findKeysOf_62 : decode cX9_findKeysOf 62 = .ok (.getfield 81, 3) := by decide +kernel
theorem dX9_findKeysOf_65 : decode cX9_findKeysOf 65 = .ok (.bipush 18, 2) := by decide +kernel
theorem dX9_findKeysOf_67 : decode cX9_findKeysOf 67 = .ok (.iload_n 2, 1) := by decide +kernel
theorem dX9_findKeysOf_68 : decode cX9_findKeysOf 68 = .ok (.imul, 1) := by decide +kernel
theorem dX9_findKeysOf_69 : decode cX9_findKeysOf 69 = .ok (.aload_n 0, 1) := by decide +kernel
theorem dX9_findKeysOf_70 : decode cX9_findKeysOf 70 = .ok (.getfield 78, 3) := by decide +kernel
theorem dX9_findKeysOf_73 : decode cX9_findKeysOf 73 = .ok (.iload_n 2, 1) := by decide +kernel
theorem dX9_findKeysOf_74 : decode cX9_findKeysOf 74 = .ok (.iaload, 1) := by decide +kernel
theorem dX9_findKeysOf_75 : decode cX9_findKeysOf 75 = .ok (.iadd, 1) := by decide +kernel
theorem dX9_findKeysOf_76 : decode cX9_findKeysOf 76 = .ok (.aload_n 0, 1) := by decide +kernel
theorem dX9_findKeysOf_77 : decode cX9_findKeysOf 77 = .ok (.getfield 65, 3) := by decide +kernel
theorem dX9_findKeysOf_80 : decode cX9_findKeysOf 80 = .ok (.iload 5, 2) := by decide +kernel
theorem dX9_findKeysOf_82 : decode cX9_findKeysOf 82 = .ok (.iaload, 1) := by decide +kernel
theorem dX9_findKeysOf_83 : decode cX9_findKeysOf 83 = .ok (.iastore, 1) := by decide +kernel
theorem dX9_findKeysOf_84 : decode cX9_findKeysOf 84 = .ok (.aload_n 0, 1) := by decide +kernel
theorem dX9_findKeysOf_85 : decode cX9_findKeysOf 85 = .ok (.getfield 78, 3) := by decide +kernel
theorem dX9_findKeysOf_88 : decode cX9_findKeysOf 88 = .ok (.iload_n 2, 1) := by decide +kernel
theorem dX9_findKeysOf_89 : decode cX9_findKeysOf 89 = .ok (.dup2, 1) := by decide +kernel
theorem dX9_findKeysOf_90 : decode cX9_findKeysOf 90 = .ok (.iaload, 1) := by decide +kernel
theorem dX9_findKeysOf_91 : decode cX9_findKeysOf 91 = .ok (.iconst 1, 1) := by decide +kernel
theorem dX9_findKeysOf_92 : decode cX9_findKeysOf 92 = .ok (.iadd, 1) := by decide +kernel
theorem dX9_findKeysOf_93 : decode cX9_findKeysOf 93 = .ok (.iastore, 1) := by decide +kernel
theorem dX9_findKeysOf_94 : decode cX9_findKeysOf 94 = .ok (.iinc 5 1, 3) := by decide +kernel
theorem dX9_findKeysOf_97 : decode cX9_findKeysOf 97 = .ok (.goto (-45), 3) := by decide +kernel
theorem dX9_findKeysOf_100 : decode cX9_findKeysOf 100 = .ok (.iinc 4 1, 3) := by decide +kernel
theorem dX9_findKeysOf_103 : decode cX9_findKeysOf 103 = .ok (.goto (-81), 3) := by decide +kernel
theorem dX9_findKeysOf_106 : decode cX9_findKeysOf 106 = .ok (.return_, 1) := by decide +kernel
theorem dX9_hasKey_0 : decode cX9_hasKey 0 = .ok (.iconst 0, 1) := by decide +kernel
theorem dX9_hasKey_1 : decode cX9_hasKey 1 = .ok (.istore_n 3, 1) := by decide +kernel
theorem dX9_hasKey_2 : decode cX9_hasKey 2 = .ok (.iconst 0, 1) := by decide +kernel
theorem dX9_hasKey_3 : decode cX9_hasKey 3 = .ok (.istore 4, 2) := by decide +kernel
theorem dX9_hasKey_5 : decode cX9_hasKey 5 = .ok (.iload 4, 2) := by decide +kernel
theorem dX9_hasKey_7 : decode cX9_hasKey 7 = .ok (.aload_n 0, 1) := by decide +kernel
theorem dX9_hasKey_8 : decode cX9_hasKey 8 = .ok (.getfield 78, 3) := by decide +kernel
theorem dX9_hasKey_11 : decode cX9_hasKey 11 = .ok (.iload_n 1, 1) := by decide +kernel
theorem dX9_hasKey_12 : decode cX9_hasKey 12 = .ok (.iaload, 1) := by decide +kernel
theorem dX9_hasKey_13 : decode cX9_hasKey 13 = .ok (.if_icmp .ge 35, 3) := by decide +kernel
theorem dX9_hasKey_16 : decode cX9_hasKey 16 = .ok (.iload_n 3, 1) := by decide +kernel
theorem dX9_hasKey_17 : decode cX9_hasKey 17 = .ok (.ifCond .ne 19, 3) := by decide +kernel
theorem dX9_hasKey_20 : decode cX9_hasKey 20 = .ok (.aload_n 0, 1) := by decide +kernel
theorem dX9_hasKey_21 : decode cX9_hasKey 21 = .ok (.getfield 81, 3) := by decide +kernel
theorem dX9_hasKey_24 : decode cX9_hasKey 24 = .ok (.bipush 18, 2) := by decide +kernel
theorem dX9_hasKey_26 : decode cX9_hasKey 26 = .ok (.iload_n 1, 1) := by decide +kernel
theorem dX9_hasKey_27 : decode cX9_hasKey 27 = .ok (.imul, 1) := by decide +kernel
theorem dX9_hasKey_28 : decode cX9_hasKey 28 = .ok (.iload 4, 2) := by decide +kernel
theorem dX9_hasKey_30 : decode cX9_hasKey 30 = .ok (.iadd, 1) := by decide +kernel
theorem dX9_hasKey_31 : decode cX9_hasKey 31 = .ok (.iaload, 1) := by decide +kernel
theorem dX9_hasKey_32 : decode cX9_hasKey 32 = .ok (.iload_n 2, 1) := by decide +kernel
theorem dX9_hasKey_33 : decode cX9_hasKey 33 = .ok (.if_icmp .ne 7, 3) := by decide +kernel
theorem dX9_hasKey_36 : decode cX9_hasKey 36 = .ok (.iconst 1, 1) := by decide +kernel
theorem dX9_hasKey_37 : decode cX9_hasKey 37 = .ok (.goto 4, 3) := by decide +kernel
theorem dX9_hasKey_40 : decode cX9_hasKey 40 = .ok (.iconst 0, 1) := by decide +kernel
theorem dX9_hasKey_41 : decode cX9_hasKey 41 = .ok (.istore_n 3, 1) := by decide +kernel
theorem dX9_hasKey_42 : decode cX9_hasKey 42 = .ok (.iinc 4 1, 3) := by decide +kernel
theorem dX9_hasKey_45 : decode cX9_hasKey 45 = .ok (.goto (-40), 3) := by decide +kernel
theorem dX9_hasKey_48 : decode cX9_hasKey 48 = .ok (.iload_n 3, 1) := by decide +kernel
theorem dX9_hasKey_49 : decode cX9_hasKey 49 = .ok (.ireturn, 1) := by decide +kernel
theorem dX9_sumOf_0 : decode cX9_sumOf 0 = .ok (.lconst 0, 1) := by decide +kernel
theorem dX9_sumOf_1 : decode cX9_sumOf 1 = .ok (.lstore_n 3, 1) := by decide +kernel
theorem dX9_sumOf_2 : decode cX9_sumOf 2 = .ok (.iconst 0, 1) := by decide +kernel
theorem dX9_sumOf_3 : decode cX9_sumOf 3 = .ok (.istore 5, 2) := by decide +kernel
theorem dX9_sumOf_5 : decode cX9_sumOf 5 = .ok (.iload 5, 2) := by decide +kernel
theorem dX9_sumOf_7 : decode cX9_sumOf 7 = .ok (.aload_n 0, 1) := by decide +kernel
theorem dX9_sumOf_8 : decode cX9_sumOf 8 = .ok (.getfield 7, 3) := by decide +kernel
theorem dX9_sumOf_11 : decode cX9_sumOf 11 = .ok (.bipush 6, 2) := by decide +kernel
theorem dX9_sumOf_13 : decode cX9_sumOf 13 = .ok (.iload_n 1, 1) := by decide +kernel
theorem dX9_sumOf_14 : decode cX9_sumOf 14 = .ok (.imul, 1) := by decide +kernel
theorem dX9_sumOf_15 : decode cX9_sumOf 15 = .ok (.iload_n 2, 1) := by decide +kernel
theorem dX9_sumOf_16 : decode cX9_sumOf 16 = .ok (.iadd, 1) := by decide +kernel
theorem dX9_sumOf_17 : decode cX9_sumOf 17 = .ok (.iaload, 1) := by decide +kernel
theorem dX9_sumOf_18 : decode cX9_sumOf 18 = .ok (.if_icmp .ge 29, 3) := by decide +kernel
theorem dX9_sumOf_21 : decode cX9_sumOf 21 = .ok (.lload_n 3, 1) := by decide +kernel
theorem dX9_sumOf_22 : decode cX9_sumOf 22 = .ok (.aload_n 0, 1) := by decide +kernel
theorem dX9_sumOf_23 : decode cX9_sumOf 23 = .ok (.getfield 13, 3) := by decide +kernel
theorem dX9_sumOf_26 : decode cX9_sumOf 26 = .ok (.iconst 3, 1) := by decide +kernel
theorem dX9_sumOf_27 : decode cX9_sumOf 27 = .ok (.bipush 6, 2) := by decide +kernel
theorem dX9_sumOf_29 : decode cX9_sumOf 29 = .ok (.iload_n 1, 1) := by decide +kernel
theorem dX9_sumOf_30 : decode cX9_sumOf 30 = .ok (.imul, 1) := by decide +kernel
theorem dX9_sumOf_31 : decode cX9_sumOf 31 = .ok (.iload_n 2, 1) := by decide +kernel
theorem dX9_sumOf_32 : decode cX9_sumOf 32 = .ok (.iadd, 1) := by decide +kernel
theorem dX9_sumOf_33 : decode cX9_sumOf 33 = .ok (.imul, 1) := by decide +kernel
theorem dX9_sumOf_34 : decode cX9_sumOf 34 = .ok (.iload 5, 2) := by decide +kernel
theorem dX9_sumOf_36 : decode cX9_sumOf 36 = .ok (.iadd, 1) := by decide +kernel
theorem dX9_sumOf_37 : decode cX9_sumOf 37 = .ok (.iaload, 1) := by decide +kernel
theorem dX9_sumOf_38 : decode cX9_sumOf 38 = .ok (.i2l, 1) := by decide +kernel
theorem dX9_sumOf_39 : decode cX9_sumOf 39 = .ok (.ladd, 1) := by decide +kernel
theorem dX9_sumOf_40 : decode cX9_sumOf 40 = .ok (.lstore_n 3, 1) := by decide +kernel
theorem dX9_sumOf_41 : decode cX9_sumOf 41 = .ok (.iinc 5 1, 3) := by decide +kernel
theorem dX9_sumOf_44 : decode cX9_sumOf 44 = .ok (.goto (-39), 3) := by decide +kernel
theorem dX9_sumOf_47 : decode cX9_sumOf 47 = .ok (.lload_n 3, 1) := by decide +kernel
theorem dX9_sumOf_48 : decode cX9_sumOf 48 = .ok (.lreturn, 1) := by decide +kernel
theorem dX9_isNew_0 : decode cX9_isNew 0 = .ok (.iconst 1, 1) := by decide +kernel
theorem dX9_isNew_1 : decode cX9_isNew 1 = .ok (.istore_n 2, 1) := by decide +kernel
theorem dX9_isNew_2 : decode cX9_isNew 2 = .ok (.iconst 0, 1) := by decide +kernel
theorem dX9_isNew_3 : decode cX9_isNew 3 = .ok (.istore_n 3, 1) := by decide +kernel
theorem dX9_isNew_4 : decode cX9_isNew 4 = .ok (.iload_n 3, 1) := by decide +kernel
theorem dX9_isNew_5 : decode cX9_isNew 5 = .ok (.aload_n 0, 1) := by decide +kernel
theorem dX9_isNew_6 : decode cX9_isNew 6 = .ok (.getfield 162, 3) := by decide +kernel
theorem dX9_isNew_9 : decode cX9_isNew 9 = .ok (.if_icmp .ge 29, 3) := by decide +kernel
theorem dX9_isNew_12 : decode cX9_isNew 12 = .ok (.iload_n 2, 1) := by decide +kernel
theorem dX9_isNew_13 : decode cX9_isNew 13 = .ok (.ifCond .eq 17, 3) := by decide +kernel
theorem dX9_isNew_16 : decode cX9_isNew 16 = .ok (.aload_n 0, 1) := by decide +kernel
theorem dX9_isNew_17 : decode cX9_isNew 17 = .ok (.getfield 68, 3) := by decide +kernel
theorem dX9_isNew_20 : decode cX9_isNew 20 = .ok (.iload_n 3, 1) := by decide +kernel
theorem dX9_isNew_21 : decode cX9_isNew 21 = .ok (.iaload, 1) := by decide +kernel
theorem dX9_isNew_22 : decode cX9_isNew 22 = .ok (.iload_n 1, 1) := by decide +kernel
theorem dX9_isNew_23 : decode cX9_isNew 23 = .ok (.if_icmp .eq 7, 3) := by decide +kernel
theorem dX9_isNew_26 : decode cX9_isNew 26 = .ok (.iconst 1, 1) := by decide +kernel
theorem dX9_isNew_27 : decode cX9_isNew 27 = .ok (.goto 4, 3) := by decide +kernel
theorem dX9_isNew_30 : decode cX9_isNew 30 = .ok (.iconst 0, 1) := by decide +kernel
theorem dX9_isNew_31 : decode cX9_isNew 31 = .ok (.istore_n 2, 1) := by decide +kernel
theorem dX9_isNew_32 : decode cX9_isNew 32 = .ok (.iinc 3 1, 3) := by decide +kernel
theorem dX9_isNew_35 : decode cX9_isNew 35 = .ok (.goto (-31), 3) := by decide +kernel
theorem dX9_isNew_38 : decode cX9_isNew 38 = .ok (.iload_n 2, 1) := by decide +kernel
theorem dX9_isNew_39 : decode cX9_isNew 39 = .ok (.ireturn, 1) := by decide +kernel
theorem dX9_findKeys_0 : decode cX9_findKeys 0 = .ok (.aload_n 0, 1) := by decide +kernel
theorem dX9_findKeys_1 : decode cX9_findKeys 1 = .ok (.iconst 0, 1) := by decide +kernel
theorem dX9_findKeys_2 : decode cX9_findKeys 2 = .ok (.putfield 162, 3) := by decide +kernel
theorem dX9_findKeys_5 : decode cX9_findKeys 5 = .ok (.iconst 0, 1) := by decide +kernel
theorem dX9_findKeys_6 : decode cX9_findKeys 6 = .ok (.istore_n 2, 1) := by decide +kernel
theorem dX9_findKeys_7 : decode cX9_findKeys 7 = .ok (.iload_n 2, 1) := by decide +kernel
theorem dX9_findKeys_8 : decode cX9_findKeys 8 = .ok (.aload_n 0, 1) := by decide +kernel
theorem dX9_findKeys_9 : decode cX9_findKeys 9 = .ok (.getfield 32, 3) := by decide +kernel
theorem dX9_findKeys_12 : decode cX9_findKeys 12 = .ok (.iload_n 1, 1) := by decide +kernel
theorem dX9_findKeys_13 : decode cX9_findKeys 13 = .ok (.iaload, 1) := by decide +kernel
theorem dX9_findKeys_14 : decode cX9_findKeys 14 = .ok (.if_icmp .ge 29, 3) := by decide +kernel
theorem dX9_findKeys_17 : decode cX9_findKeys 17 = .ok (.aload_n 0, 1) := by decide +kernel
theorem dX9_findKeys_18 : decode cX9_findKeys 18 = .ok (.getfield 68, 3) := by decide +kernel
theorem dX9_findKeys_21 : decode cX9_findKeys 21 = .ok (.aload_n 0, 1) := by decide +kernel
theorem dX9_findKeys_22 : decode cX9_findKeys 22 = .ok (.getfield 162, 3) := by decide +kernel
theorem dX9_findKeys_25 : decode cX9_findKeys 25 = .ok (.iload_n 2, 1) := by decide +kernel
theorem dX9_findKeys_26 : decode cX9_findKeys 26 = .ok (.iastore, 1) := by decide +kernel
theorem dX9_findKeys_27 : decode cX9_findKeys 27 = .ok (.aload_n 0, 1) := by decide +kernel
theorem dX9_findKeys_28 : decode cX9_findKeys 28 = .ok (.dup, 1) := by decide +kernel
theorem dX9_findKeys_29 : decode cX9_findKeys 29 = .ok (.getfield 162, 3) := by decide +kernel
theorem dX9_findKeys_32 : decode cX9_findKeys 32 = .ok (.iconst 1, 1) := by decide +kernel
theorem dX9_findKeys_33 : decode cX9_findKeys 33 = .ok (.iadd, 1) := by decide +kernel
theorem dX9_findKeys_34 : decode cX9_findKeys 34 = .ok (.putfield 162, 3) := by decide +kernel
theorem dX9_findKeys_37 : decode cX9_findKeys 37 = .ok (.iinc 2 1, 3) := by decide +kernel
theorem dX9_findKeys_40 : decode cX9_findKeys 40 = .ok (.goto (-33), 3) := by decide +kernel
theorem dX9_findKeys_43 : decode cX9_findKeys 43 = .ok (.iconst 0, 1) := by decide +kernel
theorem dX9_findKeys_44 : decode cX9_findKeys 44 = .ok (.istore_n 2, 1) := by decide +kernel
theorem dX9_findKeys_45 : decode cX9_findKeys 45 = .ok (.iload_n 2, 1) := by decide +kernel
theorem dX9_findKeys_46 : decode cX9_findKeys 46 = .ok (.aload_n 0, 1) := by decide +kernel
theorem dX9_findKeys_47 : decode cX9_findKeys 47 = .ok (.getfield 90, 3) := by decide +kernel
theorem dX9_findKeys_50 : decode cX9_findKeys 50 = .ok (.if_icmp .ge 96, 3) := by decide +kernel
theorem dX9_findKeys_53 : decode cX9_findKeys 53 = .ok (.aload_n 0, 1) := by decide +kernel
theorem dX9_findKeys_54 : decode cX9_findKeys 54 = .ok (.iload_n 1, 1) := by decide +kernel
theorem dX9_findKeys_55 : decode cX9_findKeys 55 = .ok (.iload_n 2, 1) := by decide +kernel
theorem dX9_findKeys_56 : decode cX9_findKeys 56 = .ok (.invokevirtual 165, 3) := by decide +kernel
theorem dX9_findKeys_59 : decode cX9_findKeys 59 = .ok (.aload_n 0, 1) := by decide +kernel
theorem dX9_findKeys_60 : decode cX9_findKeys 60 = .ok (.iload_n 1, 1) := by decide +kernel
theorem dX9_findKeys_61 : decode cX9_findKeys 61 = .ok (.iload_n 2, 1) := by decide +kernel
theorem dX9_findKeys_62 : decode cX9_findKeys 62 = .ok (.invokevirtual 168, 3) := by decide +kernel
theorem dX9_findKeys_65 : decode cX9_findKeys 65 = .ok (.istore_n 3, 1) := by decide +kernel
theorem dX9_findKeys_66 : decode cX9_findKeys 66 = .ok (.iconst 0, 1) := by decide +kernel
theorem dX9_findKeys_67 : decode cX9_findKeys 67 = .ok (.istore 4, 2) := by decide +kernel
theorem dX9_findKeys_69 : decode cX9_findKeys 69 = .ok (.iload 4, 2) := by decide +kernel
theorem dX9_findKeys_71 : decode cX9_findKeys 71 = .ok (.aload_n 0, 1) := by decide +kernel
theorem dX9_findKeys_72 : decode cX9_findKeys 72 = .ok (.getfield 78, 3) := by decide +kernel
theorem dX9_findKeys_75 : decode cX9_findKeys 75 = .ok (.iload_n 2, 1) := by decide +kernel
theorem dX9_findKeys_76 : decode cX9_findKeys 76 = .ok (.iaload, 1) := by decide +kernel
theorem dX9_findKeys_77 : decode cX9_findKeys 77 = .ok (.if_icmp .ge 63, 3) := by decide +kernel
theorem dX9_findKeys_80 : decode cX9_findKeys 80 = .ok (.iload_n 3, 1) := by decide +kernel
theorem dX9_findKeys_81 : decode cX9_findKeys 81 = .ok (.ifCond .eq 59, 3) := by decide +kernel
theorem dX9_findKeys_84 : decode cX9_findKeys 84 = .ok (.aload_n 0, 1) := by decide +kernel
theorem dX9_findKeys_85 : decode cX9_findKeys 85 = .ok (.aload_n 0, 1) := by decide +kernel
theorem dX9_findKeys_86 : decode cX9_findKeys 86 = .ok (.getfield 81, 3) := by decide +kernel
theorem dX9_findKeys_89 : decode cX9_findKeys 89 = .ok (.bipush 18, 2) := by decide +kernel
theorem dX9_findKeys_91 : decode cX9_findKeys 91 = .ok (.iload_n 2, 1) := by decide +kernel
theorem dX9_findKeys_92 : decode cX9_findKeys 92 = .ok (.imul, 1) := by decide +kernel
theorem dX9_findKeys_93 : decode cX9_findKeys 93 = .ok (.iload 4, 2) := by decide +kernel
theorem dX9_findKeys_95 : decode cX9_findKeys 95 = .ok (.iadd, 1) := by decide +kernel
theorem dX9_findKeys_96 : decode cX9_findKeys 96 = .ok (.iaload, 1) := by decide +kernel
theorem dX9_findKeys_97 : decode cX9_findKeys 97 = .ok (.invokevirtual 172, 3) := by decide +kernel
theorem dX9_findKeys_100 : decode cX9_findKeys 100 = .ok (.ifCond .eq 34, 3) := by decide +kernel
theorem dX9_findKeys_103 : decode cX9_findKeys 103 = .ok (.aload_n 0, 1) := by decide +kernel
theorem dX9_findKeys_104 : decode cX9_findKeys 104 = .ok (.getfield 68, 3) := by decide +kernel
theorem dX9_findKeys_107 : decode cX9_findKeys 107 = .ok (.aload_n 0, 1) := by decide +kernel
theorem dX9_findKeys_108 : decode cX9_findKeys 108 = .ok (.getfield 162, 3) := by decide +kernel
theorem dX9_findKeys_111 : decode cX9_findKeys 111 = .ok (.aload_n 0, 1) := by decide +kernel
theorem dX9_findKeys_112 : decode cX9_findKeys 112 = .ok (.getfield 81, 3) := by decide +kernel
theorem dX9_findKeys_115 : decode cX9_findKeys 115 = .ok (.bipush 18, 2) := by decide +kernel
theorem dX9_findKeys_117 : decode cX9_findKeys 117 = .ok (.iload_n 2, 1) := by decide +kernel
theorem dX9_findKeys_118 : decode cX9_findKeys 118 = .ok (.imul, 1) := by decide +kernel
theorem dX9_findKeys_119 : decode cX9_findKeys 119 = .ok (.iload 4, 2) := by decide +kernel
theorem dX9_findKeys_121 : decode cX9_findKeys 121 = .ok (.iadd, 1) := by decide +kernel
theorem dX9_findKeys_122 : decode cX9_findKeys 122 = .ok (.iaload, 1) := by decide +kernel
theorem dX9_findKeys_123 : decode cX9_findKeys 123 = .ok (.iastore, 1) := by decide +kernel
theorem dX9_findKeys_124 : decode cX9_findKeys 124 = .ok (.aload_n 0, 1) := by decide +kernel
theorem dX9_findKeys_125 : decode cX9_findKeys 125 = .ok (.dup, 1) := by decide +kernel
theorem dX9_findKeys_126 : decode cX9_findKeys 126 = .ok (.getfield 162, 3) := by decide +kernel
theorem dX9_findKeys_129 : decode cX9_findKeys 129 = .ok (.iconst 1, 1) := by decide +kernel
theorem dX9_findKeys_130 : decode cX9_findKeys 130 = .ok (.iadd, 1) := by decide +kernel
theorem dX9_findKeys_131 : decode cX9_findKeys 131 = .ok (.putfield 162, 3) := by decide +kernel
theorem dX9_findKeys_134 : decode cX9_findKeys 134 = .ok (.iinc 4 1, 3) := by decide +kernel
theorem dX9_findKeys_137 : decode cX9_findKeys 137 = .ok (.goto (-68), 3) := by decide +kernel
theorem dX9_findKeys_140 : decode cX9_findKeys 140 = .ok (.iinc 2 1, 3) := by decide +kernel
theorem dX9_findKeys_143 : decode cX9_findKeys 143 = .ok (.goto (-98), 3) := by decide +kernel
theorem dX9_findKeys_146 : decode cX9_findKeys 146 = .ok (.return_, 1) := by decide +kernel
theorem dX9_isIn_0 : decode cX9_isIn 0 = .ok (.aload_n 0, 1) := by decide +kernel
theorem dX9_isIn_1 : decode cX9_isIn 1 = .ok (.getfield 175, 3) := by decide +kernel
theorem dX9_isIn_4 : decode cX9_isIn 4 = .ok (.ifCond .eq 17, 3) := by decide +kernel
theorem dX9_isIn_7 : decode cX9_isIn 7 = .ok (.iload_n 2, 1) := by decide +kernel
theorem dX9_isIn_8 : decode cX9_isIn 8 = .ok (.aload_n 0, 1) := by decide +kernel
theorem dX9_isIn_9 : decode cX9_isIn 9 = .ok (.getfield 162, 3) := by decide +kernel
theorem dX9_isIn_12 : decode cX9_isIn 12 = .ok (.iconst 1, 1) := by decide +kernel
theorem dX9_isIn_13 : decode cX9_isIn 13 = .ok (.isub, 1) := by decide +kernel
theorem dX9_isIn_14 : decode cX9_isIn 14 = .ok (.if_icmp .ne 7, 3) := by decide +kernel
theorem dX9_isIn_17 : decode cX9_isIn 17 = .ok (.iconst 1, 1) := by decide +kernel
theorem dX9_isIn_18 : decode cX9_isIn 18 = .ok (.goto 4, 3) := by decide +kernel
theorem dX9_isIn_21 : decode cX9_isIn 21 = .ok (.iconst 0, 1) := by decide +kernel
theorem dX9_isIn_22 : decode cX9_isIn 22 = .ok (.istore 4, 2) := by decide +kernel
theorem dX9_isIn_24 : decode cX9_isIn 24 = .ok (.aload_n 0, 1) := by decide +kernel
theorem dX9_isIn_25 : decode cX9_isIn 25 = .ok (.iload_n 1, 1) := by decide +kernel
theorem dX9_isIn_26 : decode cX9_isIn 26 = .ok (.iload_n 3, 1) := by decide +kernel
theorem dX9_isIn_27 : decode cX9_isIn 27 = .ok (.invokevirtual 168, 3) := by decide +kernel
theorem dX9_isIn_30 : decode cX9_isIn 30 = .ok (.ifCond .eq 38, 3) := by decide +kernel
theorem dX9_isIn_33 : decode cX9_isIn 33 = .ok (.iload 4, 2) := by decide +kernel
theorem dX9_isIn_35 : decode cX9_isIn 35 = .ok (.ifCond .eq 15, 3) := by decide +kernel
theorem dX9_isIn_38 : decode cX9_isIn 38 = .ok (.aload_n 0, 1) := by decide +kernel
theorem dX9_isIn_39 : decode cX9_isIn 39 = .ok (.getfield 78, 3) := by decide +kernel
theorem dX9_isIn_42 : decode cX9_isIn 42 = .ok (.iload_n 3, 1) := by decide +kernel
theorem dX9_isIn_43 : decode cX9_isIn 43 = .ok (.iaload, 1) := by decide +kernel
theorem dX9_isIn_44 : decode cX9_isIn 44 = .ok (.ifCond .ne 24, 3) := by decide +kernel
theorem dX9_isIn_47 : decode cX9_isIn 47 = .ok (.goto 17, 3) := by decide +kernel
theorem dX9_isIn_50 : decode cX9_isIn 50 = .ok (.aload_n 0, 1) := by decide +kernel
theorem dX9_isIn_51 : decode cX9_isIn 51 = .ok (.iload_n 3, 1) := by decide +kernel
theorem dX9_isIn_52 : decode cX9_isIn 52 = .ok (.aload_n 0, 1) := by decide +kernel
theorem dX9_isIn_53 : decode cX9_isIn 53 = .ok (.getfield 68, 3) := by decide +kernel
theorem dX9_isIn_56 : decode cX9_isIn 56 = .ok (.iload_n 2, 1) := by decide +kernel
theorem dX9_isIn_57 : decode cX9_isIn 57 = .ok (.iaload, 1) := by decide +kernel
theorem dX9_isIn_58 : decode cX9_isIn 58 = .ok (.invokevirtual 179, 3) := by decide +kernel
theorem dX9_isIn_61 : decode cX9_isIn 61 = .ok (.ifCond .eq 7, 3) := by decide +kernel
theorem dX9_isIn_64 : decode cX9_isIn 64 = .ok (.iconst 1, 1) := by decide +kernel
theorem dX9_isIn_65 : decode cX9_isIn 65 = .ok (.goto 4, 3) := by decide +kernel
theorem dX9_isIn_68 : decode cX9_isIn 68 = .ok (.iconst 0, 1) := by decide +kernel
theorem dX9_isIn_69 : decode cX9_isIn 69 = .ok (.ireturn, 1) := by decide +kernel
theorem dX9_measure_0 : decode cX9_measure 0 = .ok (.aload_n 0, 1) := by decide +kernel
theorem dX9_measure_1 : decode cX9_measure 1 = .ok (.getfield 71, 3) := by decide +kernel
theorem dX9_measure_4 : decode cX9_measure 4 = .ok (.iload_n 2, 1) := by decide +kernel
theorem dX9_measure_5 : decode cX9_measure 5 = .ok (.iconst 0, 1) := by decide +kernel
theorem dX9_measure_6 : decode cX9_measure 6 = .ok (.iastore, 1) := by decide +kernel
theorem dX9_measure_7 : decode cX9_measure 7 = .ok (.aload_n 0, 1) := by decide +kernel
theorem dX9_measure_8 : decode cX9_measure 8 = .ok (.getfield 74, 3) := by decide +kernel
theorem dX9_measure_11 : decode cX9_measure 11 = .ok (.iload_n 2, 1) := by decide +kernel
theorem dX9_measure_12 : decode cX9_measure 12 = .ok (.lconst 0, 1) := by decide +kernel
theorem dX9_measure_13 : decode cX9_measure 13 = .ok (.lastore, 1) := by decide +kernel
theorem dX9_measure_14 : decode cX9_measure 14 = .ok (.iconst 0, 1) := by decide +kernel
theorem dX9_measure_15 : decode cX9_measure 15 = .ok (.istore_n 3, 1) := by decide +kernel
theorem dX9_measure_16 : decode cX9_measure 16 = .ok (.iload_n 3, 1) := by decide +kernel
theorem dX9_measure_17 : decode cX9_measure 17 = .ok (.aload_n 0, 1) := by decide +kernel
theorem dX9_measure_18 : decode cX9_measure 18 = .ok (.getfield 90, 3) := by decide +kernel
theorem dX9_measure_21 : decode cX9_measure 21 = .ok (.if_icmp .ge 63, 3) := by decide +kernel
theorem dX9_measure_24 : decode cX9_measure 24 = .ok (.aload_n 0, 1) := by decide +kernel
theorem dX9_measure_25 : decode cX9_measure 25 = .ok (.iload_n 1, 1) := by decide +kernel
theorem dX9_measure_26 : decode cX9_measure 26 = .ok (.iload_n 2, 1) := by decide +kernel
theorem dX9_measure_27 : decode cX9_measure 27 = .ok (.iload_n 3, 1) := by decide +kernel
theorem dX9_measure_28 : decode cX9_measure 28 = .ok (.invokevirtual 182, 3) := by decide +kernel
theorem dX9_measure_31 : decode cX9_measure 31 = .ok (.ifCond .eq 47, 3) := by decide +kernel
theorem dX9_measure_34 : decode cX9_measure 34 = .ok (.aload_n 0, 1) := by decide +kernel
theorem dX9_measure_35 : decode cX9_measure 35 = .ok (.getfield 71, 3) := by decide +kernel
theorem dX9_measure_38 : decode cX9_measure 38 = .ok (.iload_n 2, 1) := by decide +kernel
theorem dX9_measure_39 : decode cX9_measure 39 = .ok (.dup2, 1) := by decide +kernel
theorem dX9_measure_40 : decode cX9_measure 40 = .ok (.iaload, 1) := by decide +kernel
theorem dX9_measure_41 : decode cX9_measure 41 = .ok (.iconst 1, 1) := by decide +kernel
theorem dX9_measure_42 : decode cX9_measure 42 = .ok (.iadd, 1) := by decide +kernel
theorem dX9_measure_43 : decode cX9_measure 43 = .ok (.iastore, 1) := by decide +kernel
theorem dX9_measure_44 : decode cX9_measure 44 = .ok (.aload_n 0, 1) := by decide +kernel
theorem dX9_measure_45 : decode cX9_measure 45 = .ok (.getfield 74, 3) := by decide +kernel
theorem dX9_measure_48 : decode cX9_measure 48 = .ok (.iload_n 2, 1) := by decide +kernel
theorem dX9_measure_49 : decode cX9_measure 49 = .ok (.dup2, 1) := by decide +kernel
theorem dX9_measure_50 : decode cX9_measure 50 = .ok (.laload, 1) := by decide +kernel
theorem dX9_measure_51 : decode cX9_measure 51 = .ok (.aload_n 0, 1) := by decide +kernel
theorem dX9_measure_52 : decode cX9_measure 52 = .ok (.getfield 56, 3) := by decide +kernel
theorem dX9_measure_55 : decode cX9_measure 55 = .ok (.iload_n 1, 1) := by decide +kernel
theorem dX9_measure_56 : decode cX9_measure 56 = .ok (.iaload, 1) := by decide +kernel
theorem dX9_measure_57 : decode cX9_measure 57 = .ok (.iconst 2, 1) := by decide +kernel
theorem dX9_measure_58 : decode cX9_measure 58 = .ok (.if_icmp .ne 17, 3) := by decide +kernel
theorem dX9_measure_61 : decode cX9_measure 61 = .ok (.aload_n 0, 1) := by decide +kernel
theorem dX9_measure_62 : decode cX9_measure 62 = .ok (.iload_n 3, 1) := by decide +kernel
theorem dX9_measure_63 : decode cX9_measure 63 = .ok (.aload_n 0, 1) := by decide +kernel
theorem dX9_measure_64 : decode cX9_measure 64 = .ok (.getfield 59, 3) := by decide +kernel
theorem dX9_measure_67 : decode cX9_measure 67 = .ok (.iload_n 1, 1) := by decide +kernel
theorem dX9_measure_68 : decode cX9_measure 68 = .ok (.iaload, 1) := by decide +kernel
theorem dX9_measure_69 : decode cX9_measure 69 = .ok (.invokevirtual 185, 3) := by decide +kernel
theorem dX9_measure_72 : decode cX9_measure 72 = .ok (.goto 4, 3) := by decide +kernel
theorem dX9_measure_75 : decode cX9_measure 75 = .ok (.lconst 0, 1) := by decide +kernel
theorem dX9_measure_76 : decode cX9_measure 76 = .ok (.ladd, 1) := by decide +kernel
theorem dX9_measure_77 : decode cX9_measure 77 = .ok (.lastore, 1) := by decide +kernel
theorem dX9_measure_78 : decode cX9_measure 78 = .ok (.iinc 3 1, 3) := by decide +kernel
theorem dX9_measure_81 : decode cX9_measure 81 = .ok (.goto (-65), 3) := by decide +kernel
theorem dX9_measure_84 : decode cX9_measure 84 = .ok (.return_, 1) := by decide +kernel
theorem dX9_isBefore_0 : decode cX9_isBefore 0 = .ok (.aload_n 0, 1) := by decide +kernel
theorem dX9_isBefore_1 : decode cX9_isBefore 1 = .ok (.getfield 56, 3) := by decide +kernel
theorem dX9_isBefore_4 : decode cX9_isBefore 4 = .ok (.iload_n 1, 1) := by decide +kernel
theorem dX9_isBefore_5 : decode cX9_isBefore 5 = .ok (.iaload, 1) := by decide +kernel
theorem dX9_isBefore_6 : decode cX9_isBefore 6 = .ok (.ifCond .ne 39, 3) := by decide +kernel
theorem dX9_isBefore_9 : decode cX9_isBefore 9 = .ok (.aload_n 0, 1) := by decide +kernel
theorem dX9_isBefore_10 : decode cX9_isBefore 10 = .ok (.getfield 71, 3) := by decide +kernel
theorem dX9_isBefore_13 : decode cX9_isBefore 13 = .ok (.iload_n 2, 1) := by decide +kernel
theorem dX9_isBefore_14 : decode cX9_isBefore 14 = .ok (.iaload, 1) := by decide +kernel
theorem dX9_isBefore_15 : decode cX9_isBefore 15 = .ok (.aload_n 0, 1) := by decide +kernel
theorem dX9_isBefore_16 : decode cX9_isBefore 16 = .ok (.getfield 71, 3) := by decide +kernel
theorem dX9_isBefore_19 : decode cX9_isBefore 19 = .ok (.iload_n 3, 1) := by decide +kernel
theorem dX9_isBefore_20 : decode cX9_isBefore 20 = .ok (.iaload, 1) := by decide +kernel
theorem dX9_isBefore_21 : decode cX9_isBefore 21 = .ok (.if_icmp .eq 24, 3) := by decide +kernel
theorem dX9_isBefore_24 : decode cX9_isBefore 24 = .ok (.aload_n 0, 1) := by decide +kernel
theorem dX9_isBefore_25 : decode cX9_isBefore 25 = .ok (.getfield 71, 3) := by decide +kernel
theorem dX9_isBefore_28 : decode cX9_isBefore 28 = .ok (.iload_n 2, 1) := by decide +kernel
theorem dX9_isBefore_29 : decode cX9_isBefore 29 = .ok (.iaload, 1) := by decide +kernel
theorem dX9_isBefore_30 : decode cX9_isBefore 30 = .ok (.aload_n 0, 1) := by decide +kernel
theorem dX9_isBefore_31 : decode cX9_isBefore 31 = .ok (.getfield 71, 3) := by decide +kernel
theorem dX9_isBefore_34 : decode cX9_isBefore 34 = .ok (.iload_n 3, 1) := by decide +kernel
theorem dX9_isBefore_35 : decode cX9_isBefore 35 = .ok (.iaload, 1) := by decide +kernel
theorem dX9_isBefore_36 : decode cX9_isBefore 36 = .ok (.if_icmp .le 7, 3) := by decide +kernel
theorem dX9_isBefore_39 : decode cX9_isBefore 39 = .ok (.iconst 1, 1) := by decide +kernel
theorem dX9_isBefore_40 : decode cX9_isBefore 40 = .ok (.goto 4, 3) := by decide +kernel
theorem dX9_isBefore_43 : decode cX9_isBefore 43 = .ok (.iconst 0, 1) := by decide +kernel
theorem dX9_isBefore_44 : decode cX9_isBefore 44 = .ok (.ireturn, 1) := by decide +kernel
theorem dX9_isBefore_45 : decode cX9_isBefore 45 = .ok (.aload_n 0, 1) := by decide +kernel
theorem dX9_isBefore_46 : decode cX9_isBefore 46 = .ok (.getfield 56, 3) := by decide +kernel
theorem dX9_isBefore_49 : decode cX9_isBefore 49 = .ok (.iload_n 1, 1) := by decide +kernel
theorem dX9_isBefore_50 : decode cX9_isBefore 50 = .ok (.iaload, 1) := by decide +kernel
theorem dX9_isBefore_51 : decode cX9_isBefore 51 = .ok (.iconst 2, 1) := by decide +kernel
theorem dX9_isBefore_52 : decode cX9_isBefore 52 = .ok (.if_icmp .ne 41, 3) := by decide +kernel
theorem dX9_isBefore_55 : decode cX9_isBefore 55 = .ok (.aload_n 0, 1) := by decide +kernel
theorem dX9_isBefore_56 : decode cX9_isBefore 56 = .ok (.getfield 74, 3) := by decide +kernel
theorem dX9_isBefore_59 : decode cX9_isBefore 59 = .ok (.iload_n 2, 1) := by decide +kernel
theorem dX9_isBefore_60 : decode cX9_isBefore 60 = .ok (.laload, 1) := by decide +kernel
theorem dX9_isBefore_61 : decode cX9_isBefore 61 = .ok (.aload_n 0, 1) := by decide +kernel
theorem dX9_isBefore_62 : decode cX9_isBefore 62 = .ok (.getfield 74, 3) := by decide +kernel
theorem dX9_isBefore_65 : decode cX9_isBefore 65 = .ok (.iload_n 3, 1) := by decide +kernel
theorem dX9_isBefore_66 : decode cX9_isBefore 66 = .ok (.laload, 1) := by decide +kernel
theorem dX9_isBefore_67 : decode cX9_isBefore 67 = .ok (.lcmp, 1) := by decide +kernel
theorem dX9_isBefore_68 : decode cX9_isBefore 68 = .ok (.ifCond .eq 25, 3) := by decide +kernel
theorem dX9_isBefore_71 : decode cX9_isBefore 71 = .ok (.aload_n 0, 1) := by decide +kernel
theorem dX9_isBefore_72 : decode cX9_isBefore 72 = .ok (.getfield 74, 3) := by decide +kernel
theorem dX9_isBefore_75 : decode cX9_isBefore 75 = .ok (.iload_n 2, 1) := by decide +kernel
theorem dX9_isBefore_76 : decode cX9_isBefore 76 = .ok (.laload, 1) := by decide +kernel
theorem dX9_isBefore_77 : decode cX9_isBefore 77 = .ok (.aload_n 0, 1) := by decide +kernel
theorem dX9_isBefore_78 : decode cX9_isBefore 78 = .ok (.getfield 74, 3) := by decide +kernel
theorem dX9_isBefore_81 : decode cX9_isBefore 81 = .ok (.iload_n 3, 1) := by decide +kernel
theorem dX9_isBefore_82 : decode cX9_isBefore 82 = .ok (.laload, 1) := by decide +kernel
theorem dX9_isBefore_83 : decode cX9_isBefore 83 = .ok (.lcmp, 1) := by decide +kernel
theorem dX9_isBefore_84 : decode cX9_isBefore 84 = .ok (.ifCond .le 7, 3) := by decide +kernel
theorem dX9_isBefore_87 : decode cX9_isBefore 87 = .ok (.iconst 1, 1) := by decide +kernel
theorem dX9_isBefore_88 : decode cX9_isBefore 88 = .ok (.goto 4, 3) := by decide +kernel
theorem dX9_isBefore_91 : decode cX9_isBefore 91 = .ok (.iconst 0, 1) := by decide +kernel
theorem dX9_isBefore_92 : decode cX9_isBefore 92 = .ok (.ireturn, 1) := by decide +kernel
theorem dX9_isBefore_93 : decode cX9_isBefore 93 = .ok (.aload_n 0, 1) := by decide +kernel
theorem dX9_isBefore_94 : decode cX9_isBefore 94 = .ok (.getfield 68, 3) := by decide +kernel
theorem dX9_isBefore_97 : decode cX9_isBefore 97 = .ok (.iload_n 2, 1) := by decide +kernel
theorem dX9_isBefore_98 : decode cX9_isBefore 98 = .ok (.iaload, 1) := by decide +kernel
theorem dX9_isBefore_99 : decode cX9_isBefore 99 = .ok (.aload_n 0, 1) := by decide +kernel
theorem dX9_isBefore_100 : decode cX9_isBefore 100 = .ok (.getfield 68, 3) := by decide +kernel
theorem dX9_isBefore_103 : decode cX9_isBefore 103 = .ok (.iload_n 3, 1) := by decide +kernel
theorem dX9_isBefore_104 : decode cX9_isBefore 104 = .ok (.iaload, 1) := by decide +kernel
theorem dX9_isBefore_105 : decode cX9_isBefore 105 = .ok (.if_icmp .ge 7, 3) := by decide +kernel
theorem dX9_isBefore_108 : decode cX9_isBefore 108 = .ok (.iconst 1, 1) := by decide +kernel
theorem dX9_isBefore_109 : decode cX9_isBefore 109 = .ok (.goto 4, 3) := by decide +kernel
theorem dX9_isBefore_112 : decode cX9_isBefore 112 = .ok (.iconst 0, 1) := by decide +kernel
theorem dX9_isBefore_113 : decode cX9_isBefore 113 = .ok (.ireturn, 1) := by decide +kernel
theorem dX9_move_0 : decode cX9_move 0 = .ok (.aload_n 0, 1) := by decide +kernel
theorem dX9_move_1 : decode cX9_move 1 = .ok (.getfield 68, 3) := by decide +kernel
theorem dX9_move_4 : decode cX9_move 4 = .ok (.iload_n 2, 1) := by decide +kernel
theorem dX9_move_5 : decode cX9_move 5 = .ok (.aload_n 0, 1) := by decide +kernel
theorem dX9_move_6 : decode cX9_move 6 = .ok (.getfield 68, 3) := by decide +kernel
theorem dX9_move_9 : decode cX9_move 9 = .ok (.iload_n 1, 1) := by decide +kernel
theorem dX9_move_10 : decode cX9_move 10 = .ok (.iaload, 1) := by decide +kernel
theorem dX9_move_11 : decode cX9_move 11 = .ok (.iastore, 1) := by decide +kernel
theorem dX9_move_12 : decode cX9_move 12 = .ok (.aload_n 0, 1) := by decide +kernel
theorem dX9_move_13 : decode cX9_move 13 = .ok (.getfield 71, 3) := by decide +kernel
theorem dX9_move_16 : decode cX9_move 16 = .ok (.iload_n 2, 1) := by decide +kernel
theorem dX9_move_17 : decode cX9_move 17 = .ok (.aload_n 0, 1) := by decide +kernel
theorem dX9_move_18 : decode cX9_move 18 = .ok (.getfield 71, 3) := by decide +kernel
theorem dX9_move_21 : decode cX9_move 21 = .ok (.iload_n 1, 1) := by decide +kernel
theorem dX9_move_22 : decode cX9_move 22 = .ok (.iaload, 1) := by decide +kernel
theorem dX9_move_23 : decode cX9_move 23 = .ok (.iastore, 1) := by decide +kernel
theorem dX9_move_24 : decode cX9_move 24 = .ok (.aload_n 0, 1) := by decide +kernel
theorem dX9_move_25 : decode cX9_move 25 = .ok (.getfield 74, 3) := by decide +kernel
theorem dX9_move_28 : decode cX9_move 28 = .ok (.iload_n 2, 1) := by decide +kernel
theorem dX9_move_29 : decode cX9_move 29 = .ok (.aload_n 0, 1) := by decide +kernel
theorem dX9_move_30 : decode cX9_move 30 = .ok (.getfield 74, 3) := by decide +kernel
theorem dX9_move_33 : decode cX9_move 33 = .ok (.iload_n 1, 1) := by decide +kernel
theorem dX9_move_34 : decode cX9_move 34 = .ok (.laload, 1) := by decide +kernel
theorem dX9_move_35 : decode cX9_move 35 = .ok (.lastore, 1) := by decide +kernel
theorem dX9_move_36 : decode cX9_move 36 = .ok (.return_, 1) := by decide +kernel
theorem dX9_findGroups_0 : decode cX9_findGroups 0 = .ok (.aload_n 0, 1) := by decide +kernel
theorem dX9_findGroups_1 : decode cX9_findGroups 1 = .ok (.iconst 0, 1) := by decide +kernel
theorem dX9_findGroups_2 : decode cX9_findGroups 2 = .ok (.putfield 175, 3) := by decide +kernel
theorem dX9_findGroups_5 : decode cX9_findGroups 5 = .ok (.aload_n 0, 1) := by decide +kernel
theorem dX9_findGroups_6 : decode cX9_findGroups 6 = .ok (.iload_n 1, 1) := by decide +kernel
theorem dX9_findGroups_7 : decode cX9_findGroups 7 = .ok (.invokevirtual 189, 3) := by decide +kernel
theorem dX9_findGroups_10 : decode cX9_findGroups 10 = .ok (.aload_n 0, 1) := by decide +kernel
theorem dX9_findGroups_11 : decode cX9_findGroups 11 = .ok (.getfield 162, 3) := by decide +kernel
theorem dX9_findGroups_14 : decode cX9_findGroups 14 = .ok (.istore_n 2, 1) := by decide +kernel
theorem dX9_findGroups_15 : decode cX9_findGroups 15 = .ok (.iconst 0, 1) := by decide +kernel
theorem dX9_findGroups_16 : decode cX9_findGroups 16 = .ok (.istore_n 3, 1) := by decide +kernel
theorem dX9_findGroups_17 : decode cX9_findGroups 17 = .ok (.iconst 0, 1) := by decide +kernel
theorem dX9_findGroups_18 : decode cX9_findGroups 18 = .ok (.istore 4, 2) := by decide +kernel
theorem dX9_findGroups_20 : decode cX9_findGroups 20 = .ok (.iload 4, 2) := by decide +kernel
theorem dX9_findGroups_22 : decode cX9_findGroups 22 = .ok (.iload_n 2, 1) := by decide +kernel
theorem dX9_findGroups_23 : decode cX9_findGroups 23 = .ok (.if_icmp .ge 92, 3) := by decide +kernel
theorem dX9_findGroups_26 : decode cX9_findGroups 26 = .ok (.aload_n 0, 1) := by decide +kernel
theorem dX9_findGroups_27 : decode cX9_findGroups 27 = .ok (.iload_n 1, 1) := by decide +kernel
theorem dX9_findGroups_28 : decode cX9_findGroups 28 = .ok (.iload 4, 2) := by decide +kernel
theorem dX9_findGroups_30 : decode cX9_findGroups 30 = .ok (.invokevirtual 192, 3) := by decide +kernel
theorem dX9_findGroups_33 : decode cX9_findGroups 33 = .ok (.aload_n 0, 1) := by decide +kernel
theorem dX9_findGroups_34 : decode cX9_findGroups 34 = .ok (.getfield 71, 3) := by decide +kernel
theorem dX9_findGroups_37 : decode cX9_findGroups 37 = .ok (.iload 4, 2) := by decide +kernel
theorem dX9_findGroups_39 : decode cX9_findGroups 39 = .ok (.iaload, 1) := by decide +kernel
theorem dX9_findGroups_40 : decode cX9_findGroups 40 = .ok (.aload_n 0, 1) := by decide +kernel
theorem dX9_findGroups_41 : decode cX9_findGroups 41 = .ok (.getfield 50, 3) := by decide +kernel
theorem dX9_findGroups_44 : decode cX9_findGroups 44 = .ok (.iload_n 1, 1) := by decide +kernel
theorem dX9_findGroups_45 : decode cX9_findGroups 45 = .ok (.iaload, 1) := by decide +kernel
theorem dX9_findGroups_46 : decode cX9_findGroups 46 = .ok (.if_icmp .lt 63, 3) := by decide +kernel
theorem dX9_findGroups_49 : decode cX9_findGroups 49 = .ok (.aload_n 0, 1) := by decide +kernel
theorem dX9_findGroups_50 : decode cX9_findGroups 50 = .ok (.iload 4, 2) := by decide +kernel
theorem dX9_findGroups_52 : decode cX9_findGroups 52 = .ok (.sipush 1099, 3) := by decide +kernel
theorem dX9_findGroups_55 : decode cX9_findGroups 55 = .ok (.invokevirtual 195, 3) := by decide +kernel
theorem dX9_findGroups_58 : decode cX9_findGroups 58 = .ok (.iload_n 3, 1) := by decide +kernel
theorem dX9_findGroups_59 : decode cX9_findGroups 59 = .ok (.istore 5, 2) := by decide +kernel
theorem dX9_findGroups_61 : decode cX9_findGroups 61 = .ok (.iload 5, 2) := by decide +kernel
theorem dX9_findGroups_63 : decode cX9_findGroups 63 = .ok (.ifCond .le 34, 3) := by decide +kernel
theorem dX9_findGroups_66 : decode cX9_findGroups 66 = .ok (.aload_n 0, 1) := by decide +kernel
theorem dX9_findGroups_67 : decode cX9_findGroups 67 = .ok (.iload_n 1, 1) := by decide +kernel
theorem dX9_findGroups_68 : decode cX9_findGroups 68 = .ok (.sipush 1099, 3) := by decide +kernel
theorem dX9_findGroups_71 : decode cX9_findGroups 71 = .ok (.iload 5, 2) := by decide +kernel
theorem dX9_findGroups_73 : decode cX9_findGroups 73 = .ok (.iconst 1, 1) := by decide +kernel
theorem dX9_findGroups_74 : decode cX9_findGroups 74 = .ok (.isub, 1) := by decide +kernel
theorem dX9_findGroups_75 : decode cX9_findGroups 75 = .ok (.invokevirtual 198, 3) := by decide +kernel
theorem dX9_findGroups_78 : decode cX9_findGroups 78 = .ok (.ifCond .eq 19, 3) := by decide +kernel
theorem dX9_findGroups_81 : decode cX9_findGroups 81 = .ok (.aload_n 0, 1) := by decide +kernel
theorem dX9_findGroups_82 : decode cX9_findGroups 82 = .ok (.iload 5, 2) := by decide +kernel
theorem dX9_findGroups_84 : decode cX9_findGroups 84 = .ok (.iconst 1, 1) := by decide +kernel
theorem dX9_findGroups_85 : decode cX9_findGroups 85 = .ok (.isub, 1) := by decide +kernel
theorem dX9_findGroups_86 : decode cX9_findGroups 86 = .ok (.iload 5, 2) := by decide +kernel
theorem dX9_findGroups_88 : decode cX9_findGroups 88 = .ok (.invokevirtual 195, 3) := by decide +kernel
theorem dX9_findGroups_91 : decode cX9_findGroups 91 = .ok (.iinc 5 (-1), 3) := by decide +kernel
theorem dX9_findGroups_94 : decode cX9_findGroups 94 = .ok (.goto (-33), 3) := by decide +kernel
theorem dX9_findGroups_97 : decode cX9_findGroups 97 = .ok (.aload_n 0, 1) := by decide +kernel
theorem dX9_findGroups_98 : decode cX9_findGroups 98 = .ok (.sipush 1099, 3) := by decide +kernel
theorem dX9_findGroups_101 : decode cX9_findGroups 101 = .ok (.iload 5, 2) := by decide +kernel
theorem dX9_findGroups_103 : decode cX9_findGroups 103 = .ok (.invokevirtual 195, 3) := by decide +kernel
theorem dX9_findGroups_106 : decode cX9_findGroups 106 = .ok (.iinc 3 1, 3) := by decide +kernel
theorem dX9_findGroups_109 : decode cX9_findGroups 109 = .ok (.iinc 4 1, 3) := by decide +kernel
theorem dX9_findGroups_112 : decode cX9_findGroups 112 = .ok (.goto (-92), 3) := by decide +kernel
theorem dX9_findGroups_115 : decode cX9_findGroups 115 = .ok (.aload_n 0, 1) := by decide +kernel
theorem dX9_findGroups_116 : decode cX9_findGroups 116 = .ok (.iload_n 3, 1) := by decide +kernel
theorem dX9_findGroups_117 : decode cX9_findGroups 117 = .ok (.putfield 162, 3) := by decide +kernel
theorem dX9_findGroups_120 : decode cX9_findGroups 120 = .ok (.aload_n 0, 1) := by decide +kernel
theorem dX9_findGroups_121 : decode cX9_findGroups 121 = .ok (.getfield 53, 3) := by decide +kernel
theorem dX9_findGroups_124 : decode cX9_findGroups 124 = .ok (.iload_n 1, 1) := by decide +kernel
theorem dX9_findGroups_125 : decode cX9_findGroups 125 = .ok (.baload, 1) := by decide +kernel
theorem dX9_findGroups_126 : decode cX9_findGroups 126 = .ok (.ifCond .eq 84, 3) := by decide +kernel
theorem dX9_findGroups_129 : decode cX9_findGroups 129 = .ok (.aload_n 0, 1) := by decide +kernel
theorem dX9_findGroups_130 : decode cX9_findGroups 130 = .ok (.iconst 1, 1) := by decide +kernel
theorem dX9_findGroups_131 : decode cX9_findGroups 131 = .ok (.putfield 175, 3) := by decide +kernel
theorem dX9_findGroups_134 : decode cX9_findGroups 134 = .ok (.aload_n 0, 1) := by decide +kernel
theorem dX9_findGroups_135 : decode cX9_findGroups 135 = .ok (.dup, 1) := by decide +kernel
theorem dX9_findGroups_136 : decode cX9_findGroups 136 = .ok (.getfield 162, 3) := by decide +kernel
theorem dX9_findGroups_139 : decode cX9_findGroups 139 = .ok (.iconst 1, 1) := by decide +kernel
theorem dX9_findGroups_140 : decode cX9_findGroups 140 = .ok (.iadd, 1) := by decide +kernel
theorem dX9_findGroups_141 : decode cX9_findGroups 141 = .ok (.putfield 162, 3) := by decide +kernel
theorem dX9_findGroups_144 : decode cX9_findGroups 144 = .ok (.aload_n 0, 1) := by decide +kernel
theorem dX9_findGroups_145 : decode cX9_findGroups 145 = .ok (.getfield 68, 3) := by decide +kernel
theorem dX9_findGroups_148 : decode cX9_findGroups 148 = .ok (.iload_n 3, 1) := by decide +kernel
theorem dX9_findGroups_149 : decode cX9_findGroups 149 = .ok (.ldc 122, 2) := by decide +kernel
theorem dX9_findGroups_151 : decode cX9_findGroups 151 = .ok (.iastore, 1) := by decide +kernel
theorem dX9_findGroups_152 : decode cX9_findGroups 152 = .ok (.aload_n 0, 1) := by decide +kernel
theorem dX9_findGroups_153 : decode cX9_findGroups 153 = .ok (.iload_n 1, 1) := by decide +kernel
theorem dX9_findGroups_154 : decode cX9_findGroups 154 = .ok (.iload_n 3, 1) := by decide +kernel
theorem dX9_findGroups_155 : decode cX9_findGroups 155 = .ok (.invokevirtual 192, 3) := by decide +kernel
theorem dX9_findGroups_158 : decode cX9_findGroups 158 = .ok (.aload_n 0, 1) := by decide +kernel
theorem dX9_findGroups_159 : decode cX9_findGroups 159 = .ok (.aload_n 0, 1) := by decide +kernel
theorem dX9_findGroups_160 : decode cX9_findGroups 160 = .ok (.getfield 71, 3) := by decide +kernel
theorem dX9_findGroups_163 : decode cX9_findGroups 163 = .ok (.iload_n 3, 1) := by decide +kernel
theorem dX9_findGroups_164 : decode cX9_findGroups 164 = .ok (.iaload, 1) := by decide +kernel
theorem dX9_findGroups_165 : decode cX9_findGroups 165 = .ok (.ifCond .le 22, 3) := by decide +kernel
theorem dX9_findGroups_168 : decode cX9_findGroups 168 = .ok (.aload_n 0, 1) := by decide +kernel
theorem dX9_findGroups_169 : decode cX9_findGroups 169 = .ok (.getfield 71, 3) := by decide +kernel
theorem dX9_findGroups_172 : decode cX9_findGroups 172 = .ok (.iload_n 3, 1) := by decide +kernel
theorem dX9_findGroups_173 : decode cX9_findGroups 173 = .ok (.iaload, 1) := by decide +kernel
theorem dX9_findGroups_174 : decode cX9_findGroups 174 = .ok (.aload_n 0, 1) := by decide +kernel
theorem dX9_findGroups_175 : decode cX9_findGroups 175 = .ok (.getfield 50, 3) := by decide +kernel
theorem dX9_findGroups_178 : decode cX9_findGroups 178 = .ok (.iload_n 1, 1) := by decide +kernel
theorem dX9_findGroups_179 : decode cX9_findGroups 179 = .ok (.iaload, 1) := by decide +kernel
theorem dX9_findGroups_180 : decode cX9_findGroups 180 = .ok (.if_icmp .lt 7, 3) := by decide +kernel
theorem dX9_findGroups_183 : decode cX9_findGroups 183 = .ok (.iconst 1, 1) := by decide +kernel
theorem dX9_findGroups_184 : decode cX9_findGroups 184 = .ok (.goto 4, 3) := by decide +kernel
theorem dX9_findGroups_187 : decode cX9_findGroups 187 = .ok (.iconst 0, 1) := by decide +kernel
theorem dX9_findGroups_188 : decode cX9_findGroups 188 = .ok (.putfield 175, 3) := by decide +kernel
theorem dX9_findGroups_191 : decode cX9_findGroups 191 = .ok (.aload_n 0, 1) := by decide +kernel
theorem dX9_findGroups_192 : decode cX9_findGroups 192 = .ok (.aload_n 0, 1) := by decide +kernel
theorem dX9_findGroups_193 : decode cX9_findGroups 193 = .ok (.getfield 175, 3) := by decide +kernel
theorem dX9_findGroups_196 : decode cX9_findGroups 196 = .ok (.ifCond .eq 10, 3) := by decide +kernel
theorem dX9_findGroups_199 : decode cX9_findGroups 199 = .ok (.aload_n 0, 1) := by decide +kernel
theorem dX9_findGroups_200 : decode cX9_findGroups 200 = .ok (.getfield 162, 3) := by decide +kernel
theorem dX9_findGroups_203 : decode cX9_findGroups 203 = .ok (.goto 4, 3) := by decide +kernel
theorem dX9_findGroups_206 : decode cX9_findGroups 206 = .ok (.iload_n 3, 1) := by decide +kernel
theorem dX9_findGroups_207 : decode cX9_findGroups 207 = .ok (.putfield 162, 3) := by decide +kernel
theorem dX9_findGroups_210 : decode cX9_findGroups 210 = .ok (.return_, 1) := by decide +kernel
theorem dX9_isGroup_0 : decode cX9_isGroup 0 = .ok (.aload_n 0, 1) := by decide +kernel
theorem dX9_isGroup_1 : decode cX9_isGroup 1 = .ok (.iload_n 1, 1) := by decide +kernel
theorem dX9_isGroup_2 : decode cX9_isGroup 2 = .ok (.invokevirtual 123, 3) := by decide +kernel
theorem dX9_isGroup_5 : decode cX9_isGroup 5 = .ok (.ifCond .ne 5, 3) := by decide +kernel
theorem dX9_isGroup_8 : decode cX9_isGroup 8 = .ok (.iconst 0, 1) := by decide +kernel
theorem dX9_isGroup_9 : decode cX9_isGroup 9 = .ok (.ireturn, 1) := by decide +kernel
theorem dX9_isGroup_10 : decode cX9_isGroup 10 = .ok (.aload_n 0, 1) := by decide +kernel
theorem dX9_isGroup_11 : decode cX9_isGroup 11 = .ok (.iload_n 1, 1) := by decide +kernel
theorem dX9_isGroup_12 : decode cX9_isGroup 12 = .ok (.invokevirtual 201, 3) := by decide +kernel
theorem dX9_isGroup_15 : decode cX9_isGroup 15 = .ok (.iload_n 2, 1) := by decide +kernel
theorem dX9_isGroup_16 : decode cX9_isGroup 16 = .ok (.iconst 0, 1) := by decide +kernel
theorem dX9_isGroup_17 : decode cX9_isGroup 17 = .ok (.aload_n 0, 1) := by decide +kernel
theorem dX9_isGroup_18 : decode cX9_isGroup 18 = .ok (.getfield 162, 3) := by decide +kernel
theorem dX9_isGroup_21 : decode cX9_isGroup 21 = .ok (.iconst 1, 1) := by decide +kernel
theorem dX9_isGroup_22 : decode cX9_isGroup 22 = .ok (.isub, 1) := by decide +kernel
theorem dX9_isGroup_23 : decode cX9_isGroup 23 = .ok (.invokestatic 94, 3) := by decide +kernel
theorem dX9_isGroup_26 : decode cX9_isGroup 26 = .ok (.ireturn, 1) := by decide +kernel
theorem dX9_groups_0 : decode cX9_groups 0 = .ok (.aload_n 0, 1) := by decide +kernel
theorem dX9_groups_1 : decode cX9_groups 1 = .ok (.iload_n 1, 1) := by decide +kernel
theorem dX9_groups_2 : decode cX9_groups 2 = .ok (.invokevirtual 123, 3) := by decide +kernel
theorem dX9_groups_5 : decode cX9_groups 5 = .ok (.ifCond .ne 6, 3) := by decide +kernel
theorem dX9_groups_8 : decode cX9_groups 8 = .ok (.ldc 120, 2) := by decide +kernel
theorem dX9_groups_10 : decode cX9_groups 10 = .ok (.ireturn, 1) := by decide +kernel
theorem dX9_groups_11 : decode cX9_groups 11 = .ok (.aload_n 0, 1) := by decide +kernel
theorem dX9_groups_12 : decode cX9_groups 12 = .ok (.iload_n 1, 1) := by decide +kernel
theorem dX9_groups_13 : decode cX9_groups 13 = .ok (.invokevirtual 201, 3) := by decide +kernel
theorem dX9_groups_16 : decode cX9_groups 16 = .ok (.aload_n 0, 1) := by decide +kernel
theorem dX9_groups_17 : decode cX9_groups 17 = .ok (.getfield 162, 3) := by decide +kernel
theorem dX9_groups_20 : decode cX9_groups 20 = .ok (.ireturn, 1) := by decide +kernel
theorem dX9_group_0 : decode cX9_group 0 = .ok (.aload_n 0, 1) := by decide +kernel
theorem dX9_group_1 : decode cX9_group 1 = .ok (.iload_n 1, 1) := by decide +kernel
theorem dX9_group_2 : decode cX9_group 2 = .ok (.iload_n 2, 1) := by decide +kernel
theorem dX9_group_3 : decode cX9_group 3 = .ok (.invokevirtual 204, 3) := by decide +kernel
theorem dX9_group_6 : decode cX9_group 6 = .ok (.ifCond .eq 12, 3) := by decide +kernel
theorem dX9_group_9 : decode cX9_group 9 = .ok (.iload_n 3, 1) := by decide +kernel
theorem dX9_group_10 : decode cX9_group 10 = .ok (.iconst 0, 1) := by decide +kernel
theorem dX9_group_11 : decode cX9_group 11 = .ok (.iconst 2, 1) := by decide +kernel
theorem dX9_group_12 : decode cX9_group 12 = .ok (.invokestatic 94, 3) := by decide +kernel
theorem dX9_group_15 : decode cX9_group 15 = .ok (.ifCond .ne 6, 3) := by decide +kernel
theorem dX9_group_18 : decode cX9_group 18 = .ok (.ldc 120, 2) := by decide +kernel
theorem dX9_group_20 : decode cX9_group 20 = .ok (.ireturn, 1) := by decide +kernel
theorem dX9_group_21 : decode cX9_group 21 = .ok (.iload_n 3, 1) := by decide +kernel
theorem dX9_group_22 : decode cX9_group 22 = .ok (.ifCond .ne 12, 3) := by decide +kernel
theorem dX9_group_25 : decode cX9_group 25 = .ok (.aload_n 0, 1) := by decide +kernel
theorem dX9_group_26 : decode cX9_group 26 = .ok (.getfield 68, 3) := by decide +kernel
theorem dX9_group_29 : decode cX9_group 29 = .ok (.iload_n 2, 1) := by decide +kernel
theorem dX9_group_30 : decode cX9_group 30 = .ok (.iaload, 1) := by decide +kernel
theorem dX9_group_31 : decode cX9_group 31 = .ok (.goto 39, 3) := by decide +kernel
theorem dX9_group_34 : decode cX9_group 34 = .ok (.iload_n 3, 1) := by decide +kernel
theorem dX9_group_35 : decode cX9_group 35 = .ok (.iconst 1, 1) := by decide +kernel
theorem dX9_group_36 : decode cX9_group 36 = .ok (.if_icmp .ne 12, 3) := by decide +kernel
theorem dX9_group_39 : decode cX9_group 39 = .ok (.aload_n 0, 1) := by decide +kernel
theorem dX9_group_40 : decode cX9_group 40 = .ok (.getfield 71, 3) := by decide +kernel
theorem dX9_group_43 : decode cX9_group 43 = .ok (.iload_n 2, 1) := by decide +kernel
theorem dX9_group_44 : decode cX9_group 44 = .ok (.iaload, 1) := by decide +kernel
theorem dX9_group_45 : decode cX9_group 45 = .ok (.goto 25, 3) := by decide +kernel
theorem dX9_group_48 : decode cX9_group 48 = .ok (.aload_n 0, 1) := by decide +kernel
theorem dX9_group_49 : decode cX9_group 49 = .ok (.getfield 175, 3) := by decide +kernel
theorem dX9_group_52 : decode cX9_group 52 = .ok (.ifCond .eq 17, 3) := by decide +kernel
theorem dX9_group_55 : decode cX9_group 55 = .ok (.iload_n 2, 1) := by decide +kernel
theorem dX9_group_56 : decode cX9_group 56 = .ok (.aload_n 0, 1) := by decide +kernel
theorem dX9_group_57 : decode cX9_group 57 = .ok (.getfield 162, 3) := by decide +kernel
theorem dX9_group_60 : decode cX9_group 60 = .ok (.iconst 1, 1) := by decide +kernel
theorem dX9_group_61 : decode cX9_group 61 = .ok (.isub, 1) := by decide +kernel
theorem dX9_group_62 : decode cX9_group 62 = .ok (.if_icmp .ne 7, 3) := by decide +kernel
theorem dX9_group_65 : decode cX9_group 65 = .ok (.iconst 1, 1) := by decide +kernel
theorem dX9_group_66 : decode cX9_group 66 = .ok (.goto 4, 3) := by decide +kernel
theorem dX9_group_69 : decode cX9_group 69 = .ok (.iconst 0, 1) := by decide +kernel
theorem dX9_group_70 : decode cX9_group 70 = .ok (.ireturn, 1) := by decide +kernel
theorem dX9_find_0 : decode cX9_find 0 = .ok (.aload_n 0, 1) := by decide +kernel
theorem dX9_find_1 : decode cX9_find 1 = .ok (.iload_n 1, 1) := by decide +kernel
theorem dX9_find_2 : decode cX9_find 2 = .ok (.invokevirtual 123, 3) := by decide +kernel
theorem dX9_find_5 : decode cX9_find 5 = .ok (.ifCond .ne 6, 3) := by decide +kernel
theorem dX9_find_8 : decode cX9_find 8 = .ok (.ldc 120, 2) := by decide +kernel
theorem dX9_find_10 : decode cX9_find 10 = .ok (.ireturn, 1) := by decide +kernel
theorem dX9_find_11 : decode cX9_find 11 = .ok (.aload_n 0, 1) := by decide +kernel
theorem dX9_find_12 : decode cX9_find 12 = .ok (.iload_n 1, 1) := by decide +kernel
theorem dX9_find_13 : decode cX9_find 13 = .ok (.invokevirtual 201, 3) := by decide +kernel
theorem dX9_find_16 : decode cX9_find 16 = .ok (.iconst 0, 1) := by decide +kernel
theorem dX9_find_17 : decode cX9_find 17 = .ok (.istore_n 3, 1) := by decide +kernel
theorem dX9_find_18 : decode cX9_find 18 = .ok (.iload_n 3, 1) := by decide +kernel
theorem dX9_find_19 : decode cX9_find 19 = .ok (.aload_n 0, 1) := by decide +kernel
theorem dX9_find_20 : decode cX9_find 20 = .ok (.getfield 162, 3) := by decide +kernel
theorem dX9_find_23 : decode cX9_find 23 = .ok (.aload_n 0, 1) := by decide +kernel
theorem dX9_find_24 : decode cX9_find 24 = .ok (.getfield 175, 3) := by decide +kernel
theorem dX9_find_27 : decode cX9_find 27 = .ok (.ifCond .eq 7, 3) := by decide +kernel
theorem dX9_find_30 : decode cX9_find 30 = .ok (.iconst 1, 1) := by decide +kernel
theorem dX9_find_31 : decode cX9_find 31 = .ok (.goto 4, 3) := by decide +kernel
theorem dX9_find_34 : decode cX9_find 34 = .ok (.iconst 0, 1) := by decide +kernel
theorem dX9_find_35 : decode cX9_find 35 = .ok (.isub, 1) := by decide +kernel
theorem dX9_find_36 : decode cX9_find 36 = .ok (.if_icmp .ge 21, 3) := by decide +kernel
theorem dX9_find_39 : decode cX9_find 39 = .ok (.aload_n 0, 1) := by decide +kernel
theorem dX9_find_40 : decode cX9_find 40 = .ok (.getfield 68, 3) := by decide +kernel
theorem dX9_find_43 : decode cX9_find 43 = .ok (.iload_n 3, 1) := by decide +kernel
theorem dX9_find_44 : decode cX9_find 44 = .ok (.iaload, 1) := by decide +kernel
theorem dX9_find_45 : decode cX9_find 45 = .ok (.iload_n 2, 1) := by decide +kernel
theorem dX9_find_46 : decode cX9_find 46 = .ok (.if_icmp .ne 5, 3) := by decide +kernel
theorem dX9_find_49 : decode cX9_find 49 = .ok (.iload_n 3, 1) := by decide +kernel
theorem dX9_find_50 : decode cX9_find 50 = .ok (.ireturn, 1) := by decide +kernel
theorem dX9_find_51 : decode cX9_find 51 = .ok (.iinc 3 1, 3) := by decide +kernel
theorem dX9_find_54 : decode cX9_find 54 = .ok (.goto (-36), 3) := by decide +kernel
theorem dX9_find_57 : decode cX9_find 57 = .ok (.ldc 122, 2) := by decide +kernel
theorem dX9_find_59 : decode cX9_find 59 = .ok (.ireturn, 1) := by decide +kernel
theorem dX9_in_0 : decode cX9_in 0 = .ok (.aload_n 0, 1) := by decide +kernel
theorem dX9_in_1 : decode cX9_in 1 = .ok (.iload_n 3, 1) := by decide +kernel
theorem dX9_in_2 : decode cX9_in 2 = .ok (.invokevirtual 110, 3) := by decide +kernel
theorem dX9_in_5 : decode cX9_in 5 = .ok (.ifCond .eq 30, 3) := by decide +kernel
theorem dX9_in_8 : decode cX9_in 8 = .ok (.aload_n 0, 1) := by decide +kernel
theorem dX9_in_9 : decode cX9_in 9 = .ok (.iload_n 1, 1) := by decide +kernel
theorem dX9_in_10 : decode cX9_in 10 = .ok (.iload_n 2, 1) := by decide +kernel
theorem dX9_in_11 : decode cX9_in 11 = .ok (.invokevirtual 204, 3) := by decide +kernel
theorem dX9_in_14 : decode cX9_in 14 = .ok (.ifCond .eq 21, 3) := by decide +kernel
theorem dX9_in_17 : decode cX9_in 17 = .ok (.aload_n 0, 1) := by decide +kernel
theorem dX9_in_18 : decode cX9_in 18 = .ok (.iload_n 1, 1) := by decide +kernel
theorem dX9_in_19 : decode cX9_in 19 = .ok (.iload_n 2, 1) := by decide +kernel
theorem dX9_in_20 : decode cX9_in 20 = .ok (.iload_n 3, 1) := by decide +kernel
theorem dX9_in_21 : decode cX9_in 21 = .ok (.invokevirtual 182, 3) := by decide +kernel
theorem dX9_in_24 : decode cX9_in 24 = .ok (.ifCond .eq 7, 3) := by decide +kernel
theorem dX9_in_27 : decode cX9_in 27 = .ok (.iconst 1, 1) := by decide +kernel
theorem dX9_in_28 : decode cX9_in 28 = .ok (.goto 9, 3) := by decide +kernel
theorem dX9_in_31 : decode cX9_in 31 = .ok (.iconst 0, 1) := by decide +kernel
theorem dX9_in_32 : decode cX9_in 32 = .ok (.goto 5, 3) := by decide +kernel
theorem dX9_in_35 : decode cX9_in 35 = .ok (.ldc 120, 2) := by decide +kernel
theorem dX9_in_37 : decode cX9_in 37 = .ok (.ireturn, 1) := by decide +kernel
theorem dX9_enter_0 : decode cX9_enter 0 = .ok (.aload_n 0, 1) := by decide +kernel
theorem dX9_enter_1 : decode cX9_enter 1 = .ok (.iload_n 1, 1) := by decide +kernel
theorem dX9_enter_2 : decode cX9_enter 2 = .ok (.iload_n 2, 1) := by decide +kernel
theorem dX9_enter_3 : decode cX9_enter 3 = .ok (.invokevirtual 204, 3) := by decide +kernel
theorem dX9_enter_6 : decode cX9_enter 6 = .ok (.ifCond .ne 6, 3) := by decide +kernel
theorem dX9_enter_9 : decode cX9_enter 9 = .ok (.ldc 120, 2) := by decide +kernel
theorem dX9_enter_11 : decode cX9_enter 11 = .ok (.ireturn, 1) := by decide +kernel
theorem dX9_enter_12 : decode cX9_enter 12 = .ok (.aload_n 0, 1) := by decide +kernel
theorem dX9_enter_13 : decode cX9_enter 13 = .ok (.getfield 103, 3) := by decide +kernel
theorem dX9_enter_16 : decode cX9_enter 16 = .ok (.bipush 6, 2) := by decide +kernel
theorem dX9_enter_18 : decode cX9_enter 18 = .ok (.if_icmp .ne 6, 3) := by decide +kernel
theorem dX9_enter_21 : decode cX9_enter 21 = .ok (.ldc 106, 2) := by decide +kernel
theorem dX9_enter_23 : decode cX9_enter 23 = .ok (.ireturn, 1) := by decide +kernel
theorem dX9_enter_24 : decode cX9_enter 24 = .ok (.iconst 0, 1) := by decide +kernel
theorem dX9_enter_25 : decode cX9_enter 25 = .ok (.istore_n 3, 1) := by decide +kernel
theorem dX9_enter_26 : decode cX9_enter 26 = .ok (.iload_n 3, 1) := by decide +kernel
theorem dX9_enter_27 : decode cX9_enter 27 = .ok (.aload_n 0, 1) := by decide +kernel
theorem dX9_enter_28 : decode cX9_enter 28 = .ok (.getfield 90, 3) := by decide +kernel
theorem dX9_enter_31 : decode cX9_enter 31 = .ok (.if_icmp .ge 22, 3) := by decide +kernel
theorem dX9_enter_34 : decode cX9_enter 34 = .ok (.aload_n 0, 1) := by decide +kernel
theorem dX9_enter_35 : decode cX9_enter 35 = .ok (.getfield 84, 3) := by decide +kernel
theorem dX9_enter_38 : decode cX9_enter 38 = .ok (.iload_n 3, 1) := by decide +kernel
theorem dX9_enter_39 : decode cX9_enter 39 = .ok (.aload_n 0, 1) := by decide +kernel
theorem dX9_enter_40 : decode cX9_enter 40 = .ok (.iload_n 1, 1) := by decide +kernel
theorem dX9_enter_41 : decode cX9_enter 41 = .ok (.iload_n 2, 1) := by decide +kernel
theorem dX9_enter_42 : decode cX9_enter 42 = .ok (.iload_n 3, 1) := by decide +kernel
theorem dX9_enter_43 : decode cX9_enter 43 = .ok (.invokevirtual 182, 3) := by decide +kernel
theorem dX9_enter_46 : decode cX9_enter 46 = .ok (.bastore, 1) := by decide +kernel
theorem dX9_enter_47 : decode cX9_enter 47 = .ok (.iinc 3 1, 3) := by decide +kernel
theorem dX9_enter_50 : decode cX9_enter 50 = .ok (.goto (-24), 3) := by decide +kernel
theorem dX9_enter_53 : decode cX9_enter 53 = .ok (.iconst 0, 1) := by decide +kernel
theorem dX9_enter_54 : decode cX9_enter 54 = .ok (.istore_n 3, 1) := by decide +kernel
theorem dX9_enter_55 : decode cX9_enter 55 = .ok (.iload_n 3, 1) := by decide +kernel
theorem dX9_enter_56 : decode cX9_enter 56 = .ok (.aload_n 0, 1) := by decide +kernel
theorem dX9_enter_57 : decode cX9_enter 57 = .ok (.getfield 90, 3) := by decide +kernel
theorem dX9_enter_60 : decode cX9_enter 60 = .ok (.if_icmp .ge 29, 3) := by decide +kernel
theorem dX9_enter_63 : decode cX9_enter 63 = .ok (.aload_n 0, 1) := by decide +kernel
theorem dX9_enter_64 : decode cX9_enter 64 = .ok (.getfield 62, 3) := by decide +kernel
theorem dX9_enter_67 : decode cX9_enter 67 = .ok (.bipush 120, 2) := by decide +kernel
theorem dX9_enter_69 : decode cX9_enter 69 = .ok (.aload_n 0, 1) := by decide +kernel
theorem dX9_enter_70 : decode cX9_enter 70 = .ok (.getfield 103, 3) := by decide +kernel
theorem dX9_enter_73 : decode cX9_enter 73 = .ok (.imul, 1) := by decide +kernel
theorem dX9_enter_74 : decode cX9_enter 74 = .ok (.iload_n 3, 1) := by decide +kernel
theorem dX9_enter_75 : decode cX9_enter 75 = .ok (.iadd, 1) := by decide +kernel
theorem dX9_enter_76 : decode cX9_enter 76 = .ok (.aload_n 0, 1) := by decide +kernel
theorem dX9_enter_77 : decode cX9_enter 77 = .ok (.getfield 84, 3) := by decide +kernel
theorem dX9_enter_80 : decode cX9_enter 80 = .ok (.iload_n 3, 1) := by decide +kernel
theorem dX9_enter_81 : decode cX9_enter 81 = .ok (.baload, 1) := by decide +kernel
theorem dX9_enter_82 : decode cX9_enter 82 = .ok (.bastore, 1) := by decide +kernel
theorem dX9_enter_83 : decode cX9_enter 83 = .ok (.iinc 3 1, 3) := by decide +kernel
theorem dX9_enter_86 : decode cX9_enter 86 = .ok (.goto (-31), 3) := by decide +kernel
theorem dX9_enter_89 : decode cX9_enter 89 = .ok (.aload_n 0, 1) := by decide +kernel
theorem dX9_enter_90 : decode cX9_enter 90 = .ok (.dup, 1) := by decide +kernel
theorem dX9_enter_91 : decode cX9_enter 91 = .ok (.getfield 103, 3) := by decide +kernel
theorem dX9_enter_94 : decode cX9_enter 94 = .ok (.iconst 1, 1) := by decide +kernel
theorem dX9_enter_95 : decode cX9_enter 95 = .ok (.iadd, 1) := by decide +kernel
theorem dX9_enter_96 : decode cX9_enter 96 = .ok (.putfield 103, 3) := by decide +kernel
theorem dX9_enter_99 : decode cX9_enter 99 = .ok (.aload_n 0, 1) := by decide +kernel
theorem dX9_enter_100 : decode cX9_enter 100 = .ok (.invokevirtual 207, 3) := by decide +kernel
theorem dX9_enter_103 : decode cX9_enter 103 = .ok (.ireturn, 1) := by decide +kernel
theorem dX9_leave_0 : decode cX9_leave 0 = .ok (.aload_n 0, 1) := by decide +kernel
theorem dX9_leave_1 : decode cX9_leave 1 = .ok (.getfield 103, 3) := by decide +kernel
theorem dX9_leave_4 : decode cX9_leave 4 = .ok (.ifCond .ne 6, 3) := by decide +kernel
theorem dX9_leave_7 : decode cX9_leave 7 = .ok (.ldc 126, 2) := by decide +kernel
theorem dX9_leave_9 : decode cX9_leave 9 = .ok (.ireturn, 1) := by decide +kernel
theorem dX9_leave_10 : decode cX9_leave 10 = .ok (.aload_n 0, 1) := by decide +kernel
theorem dX9_leave_11 : decode cX9_leave 11 = .ok (.dup, 1) := by decide +kernel
theorem dX9_leave_12 : decode cX9_leave 12 = .ok (.getfield 103, 3) := by decide +kernel
theorem dX9_leave_15 : decode cX9_leave 15 = .ok (.iconst 1, 1) := by decide +kernel
theorem dX9_leave_16 : decode cX9_leave 16 = .ok (.isub, 1) := by decide +kernel
theorem dX9_leave_17 : decode cX9_leave 17 = .ok (.putfield 103, 3) := by decide +kernel
theorem dX9_leave_20 : decode cX9_leave 20 = .ok (.aload_n 0, 1) := by decide +kernel
theorem dX9_leave_21 : decode cX9_leave 21 = .ok (.getfield 103, 3) := by decide +kernel
theorem dX9_leave_24 : decode cX9_leave 24 = .ok (.ireturn, 1) := by decide +kernel
theorem dX9_hand_0 : decode cX9_hand 0 = .ok (.iconst 0, 1) := by decide +kernel
theorem dX9_hand_1 : decode cX9_hand 1 = .ok (.istore_n 1, 1) := by decide +kernel
theorem dX9_hand_2 : decode cX9_hand 2 = .ok (.iconst 0, 1) := by decide +kernel
theorem dX9_hand_3 : decode cX9_hand 3 = .ok (.istore_n 2, 1) := by decide +kernel
theorem dX9_hand_4 : decode cX9_hand 4 = .ok (.iload_n 2, 1) := by decide +kernel
theorem dX9_hand_5 : decode cX9_hand 5 = .ok (.aload_n 0, 1) := by decide +kernel
theorem dX9_hand_6 : decode cX9_hand 6 = .ok (.getfield 90, 3) := by decide +kernel
theorem dX9_hand_9 : decode cX9_hand 9 = .ok (.if_icmp .ge 25, 3) := by decide +kernel
theorem dX9_hand_12 : decode cX9_hand 12 = .ok (.iload_n 1, 1) := by decide +kernel
theorem dX9_hand_13 : decode cX9_hand 13 = .ok (.aload_n 0, 1) := by decide +kernel
theorem dX9_hand_14 : decode cX9_hand 14 = .ok (.iload_n 2, 1) := by decide +kernel
theorem dX9_hand_15 : decode cX9_hand 15 = .ok (.invokevirtual 156, 3) := by decide +kernel
theorem dX9_hand_18 : decode cX9_hand 18 = .ok (.ifCond .eq 7, 3) := by decide +kernel
theorem dX9_hand_21 : decode cX9_hand 21 = .ok (.iconst 1, 1) := by decide +kernel
theorem dX9_hand_22 : decode cX9_hand 22 = .ok (.goto 4, 3) := by decide +kernel
theorem dX9_hand_25 : decode cX9_hand 25 = .ok (.iconst 0, 1) := by decide +kernel
theorem dX9_hand_26 : decode cX9_hand 26 = .ok (.iadd, 1) := by decide +kernel
theorem dX9_hand_27 : decode cX9_hand 27 = .ok (.istore_n 1, 1) := by decide +kernel
theorem dX9_hand_28 : decode cX9_hand 28 = .ok (.iinc 2 1, 3) := by decide +kernel
theorem dX9_hand_31 : decode cX9_hand 31 = .ok (.goto (-27), 3) := by decide +kernel
theorem dX9_hand_34 : decode cX9_hand 34 = .ok (.iload_n 1, 1) := by decide +kernel
theorem dX9_hand_35 : decode cX9_hand 35 = .ok (.ireturn, 1) := by decide +kernel
theorem dX9_findRow_0 : decode cX9_findRow 0 = .ok (.iload_n 2, 1) := by decide +kernel
theorem dX9_findRow_1 : decode cX9_findRow 1 = .ok (.ldc 122, 2) := by decide +kernel
theorem dX9_findRow_3 : decode cX9_findRow 3 = .ok (.if_icmp .eq 14, 3) := by decide +kernel
theorem dX9_findRow_6 : decode cX9_findRow 6 = .ok (.aload_n 0, 1) := by decide +kernel
theorem dX9_findRow_7 : decode cX9_findRow 7 = .ok (.iload_n 1, 1) := by decide +kernel
theorem dX9_findRow_8 : decode cX9_findRow 8 = .ok (.iload_n 2, 1) := by decide +kernel
theorem dX9_findRow_9 : decode cX9_findRow 9 = .ok (.invokevirtual 204, 3) := by decide +kernel
theorem dX9_findRow_12 : decode cX9_findRow 12 = .ok (.ifCond .ne 5, 3) := by decide +kernel
theorem dX9_findRow_15 : decode cX9_findRow 15 = .ok (.iconst 0, 1) := by decide +kernel
theorem dX9_findRow_16 : decode cX9_findRow 16 = .ok (.ireturn, 1) := by decide +kernel
theorem dX9_findRow_17 : decode cX9_findRow 17 = .ok (.aload_n 0, 1) := by decide +kernel
theorem dX9_findRow_18 : decode cX9_findRow 18 = .ok (.iconst 0, 1) := by decide +kernel
theorem dX9_findRow_19 : decode cX9_findRow 19 = .ok (.putfield 211, 3) := by decide +kernel
theorem dX9_findRow_22 : decode cX9_findRow 22 = .ok (.iconst 0, 1) := by decide +kernel
theorem dX9_findRow_23 : decode cX9_findRow 23 = .ok (.istore 4, 2) := by decide +kernel
theorem dX9_findRow_25 : decode cX9_findRow 25 = .ok (.iload 4, 2) := by decide +kernel
theorem dX9_findRow_27 : decode cX9_findRow 27 = .ok (.aload_n 0, 1) := by decide +kernel
theorem dX9_findRow_28 : decode cX9_findRow 28 = .ok (.getfield 90, 3) := by decide +kernel
theorem dX9_findRow_31 : decode cX9_findRow 31 = .ok (.if_icmp .ge 86, 3) := by decide +kernel
theorem dX9_findRow_34 : decode cX9_findRow 34 = .ok (.iload_n 2, 1) := by decide +kernel
theorem dX9_findRow_35 : decode cX9_findRow 35 = .ok (.ldc 122, 2) := by decide +kernel
theorem dX9_findRow_37 : decode cX9_findRow 37 = .ok (.if_icmp .ne 12, 3) := by decide +kernel
theorem dX9_findRow_40 : decode cX9_findRow 40 = .ok (.aload_n 0, 1) := by decide +kernel
theorem dX9_findRow_41 : decode cX9_findRow 41 = .ok (.iload 4, 2) := by decide +kernel
theorem dX9_findRow_43 : decode cX9_findRow 43 = .ok (.invokevirtual 156, 3) := by decide +kernel
theorem dX9_findRow_46 : decode cX9_findRow 46 = .ok (.goto 11, 3) := by decide +kernel
theorem dX9_findRow_49 : decode cX9_findRow 49 = .ok (.aload_n 0, 1) := by decide +kernel
theorem dX9_findRow_50 : decode cX9_findRow 50 = .ok (.iload_n 1, 1) := by decide +kernel
theorem dX9_findRow_51 : decode cX9_findRow 51 = .ok (.iload_n 2, 1) := by decide +kernel
theorem dX9_findRow_52 : decode cX9_findRow 52 = .ok (.iload 4, 2) := by decide +kernel
theorem dX9_findRow_54 : decode cX9_findRow 54 = .ok (.invokevirtual 182, 3) := by decide +kernel
theorem dX9_findRow_57 : decode cX9_findRow 57 = .ok (.istore 5, 2) := by decide +kernel
theorem dX9_findRow_59 : decode cX9_findRow 59 = .ok (.iconst 0, 1) := by decide +kernel
theorem dX9_findRow_60 : decode cX9_findRow 60 = .ok (.istore 6, 2) := by decide +kernel
theorem dX9_findRow_62 : decode cX9_findRow 62 = .ok (.iload 6, 2) := by decide +kernel
theorem dX9_findRow_64 : decode cX9_findRow 64 = .ok (.aload_n 0, 1) := by decide +kernel
theorem dX9_findRow_65 : decode cX9_findRow 65 = .ok (.getfield 7, 3) := by decide +kernel
theorem dX9_findRow_68 : decode cX9_findRow 68 = .ok (.bipush 6, 2) := by decide +kernel
theorem dX9_findRow_70 : decode cX9_findRow 70 = .ok (.iload 4, 2) := by decide +kernel
theorem dX9_findRow_72 : decode cX9_findRow 72 = .ok (.imul, 1) := by decide +kernel
theorem dX9_findRow_73 : decode cX9_findRow 73 = .ok (.iload_n 3, 1) := by decide +kernel
theorem dX9_findRow_74 : decode cX9_findRow 74 = .ok (.iadd, 1) := by decide +kernel
theorem dX9_findRow_75 : decode cX9_findRow 75 = .ok (.iaload, 1) := by decide +kernel
theorem dX9_findRow_76 : decode cX9_findRow 76 = .ok (.if_icmp .ge 35, 3) := by decide +kernel
theorem dX9_findRow_79 : decode cX9_findRow 79 = .ok (.iload 5, 2) := by decide +kernel
theorem dX9_findRow_81 : decode cX9_findRow 81 = .ok (.ifCond .eq 30, 3) := by decide +kernel
theorem dX9_findRow_84 : decode cX9_findRow 84 = .ok (.aload_n 0, 1) := by decide +kernel
theorem dX9_findRow_85 : decode cX9_findRow 85 = .ok (.aload_n 0, 1) := by decide +kernel
theorem dX9_findRow_86 : decode cX9_findRow 86 = .ok (.getfield 13, 3) := by decide +kernel
theorem dX9_findRow_89 : decode cX9_findRow 89 = .ok (.iconst 3, 1) := by decide +kernel
theorem dX9_findRow_90 : decode cX9_findRow 90 = .ok (.bipush 6, 2) := by decide +kernel
theorem dX9_findRow_92 : decode cX9_findRow 92 = .ok (.iload 4, 2) := by decide +kernel
theorem dX9_findRow_94 : decode cX9_findRow 94 = .ok (.imul, 1) := by decide +kernel
theorem dX9_findRow_95 : decode cX9_findRow 95 = .ok (.iload_n 3, 1) := by decide +kernel
theorem dX9_findRow_96 : decode cX9_findRow 96 = .ok (.iadd, 1) := by decide +kernel
theorem dX9_findRow_97 : decode cX9_findRow 97 = .ok (.imul, 1) := by decide +kernel
theorem dX9_findRow_98 : decode cX9_findRow 98 = .ok (.iload 6, 2) := by decide +kernel
theorem dX9_findRow_100 : decode cX9_findRow 100 = .ok (.iadd, 1) := by decide +kernel
theorem dX9_findRow_101 : decode cX9_findRow 101 = .ok (.iaload, 1) := by decide +kernel
theorem dX9_findRow_102 : decode cX9_findRow 102 = .ok (.invokevirtual 214, 3) := by decide +kernel
theorem dX9_findRow_105 : decode cX9_findRow 105 = .ok (.iinc 6 1, 3) := by decide +kernel
theorem dX9_findRow_108 : decode cX9_findRow 108 = .ok (.goto (-46), 3) := by decide +kernel
theorem dX9_findRow_111 : decode cX9_findRow 111 = .ok (.iinc 4 1, 3) := by decide +kernel
theorem dX9_findRow_114 : decode cX9_findRow 114 = .ok (.goto (-89), 3) := by decide +kernel
theorem dX9_findRow_117 : decode cX9_findRow 117 = .ok (.iconst 1, 1) := by decide +kernel
theorem dX9_findRow_118 : decode cX9_findRow 118 = .ok (.ireturn, 1) := by decide +kernel
theorem dX9_lay_0 : decode cX9_lay 0 = .ok (.aload_n 0, 1) := by decide +kernel
theorem dX9_lay_1 : decode cX9_lay 1 = .ok (.getfield 211, 3) := by decide +kernel
theorem dX9_lay_4 : decode cX9_lay 4 = .ok (.istore_n 2, 1) := by decide +kernel
theorem dX9_lay_5 : decode cX9_lay 5 = .ok (.iload_n 2, 1) := by decide +kernel
theorem dX9_lay_6 : decode cX9_lay 6 = .ok (.ifCond .le 35, 3) := by decide +kernel
theorem dX9_lay_9 : decode cX9_lay 9 = .ok (.aload_n 0, 1) := by decide +kernel
theorem dX9_lay_10 : decode cX9_lay 10 = .ok (.getfield 87, 3) := by decide +kernel
theorem dX9_lay_13 : decode cX9_lay 13 = .ok (.iload_n 2, 1) := by decide +kernel
theorem dX9_lay_14 : decode cX9_lay 14 = .ok (.iconst 1, 1) := by decide +kernel
theorem dX9_lay_15 : decode cX9_lay 15 = .ok (.isub, 1) := by decide +kernel
theorem dX9_lay_16 : decode cX9_lay 16 = .ok (.iaload, 1) := by decide +kernel
theorem dX9_lay_17 : decode cX9_lay 17 = .ok (.iload_n 1, 1) := by decide +kernel
theorem dX9_lay_18 : decode cX9_lay 18 = .ok (.if_icmp .le 23, 3) := by decide +kernel
theorem dX9_lay_21 : decode cX9_lay 21 = .ok (.aload_n 0, 1) := by decide +kernel
theorem dX9_lay_22 : decode cX9_lay 22 = .ok (.getfield 87, 3) := by decide +kernel
theorem dX9_lay_25 : decode cX9_lay 25 = .ok (.iload_n 2, 1) := by decide +kernel
theorem dX9_lay_26 : decode cX9_lay 26 = .ok (.aload_n 0, 1) := by decide +kernel
theorem dX9_lay_27 : decode cX9_lay 27 = .ok (.getfield 87, 3) := by decide +kernel
theorem dX9_lay_30 : decode cX9_lay 30 = .ok (.iload_n 2, 1) := by decide +kernel
theorem dX9_lay_31 : decode cX9_lay 31 = .ok (.iconst 1, 1) := by decide +kernel
theorem dX9_lay_32 : decode cX9_lay 32 = .ok (.isub, 1) := by decide +kernel
theorem dX9_lay_33 : decode cX9_lay 33 = .ok (.iaload, 1) := by decide +kernel
theorem dX9_lay_34 : decode cX9_lay 34 = .ok (.iastore, 1) := by decide +kernel
theorem dX9_lay_35 : decode cX9_lay 35 = .ok (.iinc 2 (-1), 3) := by decide +kernel
theorem dX9_lay_38 : decode cX9_lay 38 = .ok (.goto (-33), 3) := by decide +kernel
theorem dX9_lay_41 : decode cX9_lay 41 = .ok (.aload_n 0, 1) := by decide +kernel
theorem dX9_lay_42 : decode cX9_lay 42 = .ok (.getfield 87, 3) := by decide +kernel
theorem dX9_lay_45 : decode cX9_lay 45 = .ok (.iload_n 2, 1) := by decide +kernel
theorem dX9_lay_46 : decode cX9_lay 46 = .ok (.iload_n 1, 1) := by decide +kernel
theorem dX9_lay_47 : decode cX9_lay 47 = .ok (.iastore, 1) := by decide +kernel
theorem dX9_lay_48 : decode cX9_lay 48 = .ok (.aload_n 0, 1) := by decide +kernel
theorem dX9_lay_49 : decode cX9_lay 49 = .ok (.dup, 1) := by decide +kernel
theorem dX9_lay_50 : decode cX9_lay 50 = .ok (.getfield 211, 3) := by decide +kernel
theorem dX9_lay_53 : decode cX9_lay 53 = .ok (.iconst 1, 1) := by decide +kernel
theorem dX9_lay_54 : decode cX9_lay 54 = .ok (.iadd, 1) := by decide +kernel
theorem dX9_lay_55 : decode cX9_lay 55 = .ok (.putfield 211, 3) := by decide +kernel
theorem dX9_lay_58 : decode cX9_lay 58 = .ok (.return_, 1) := by decide +kernel
theorem dX9_figure_0 : decode cX9_figure 0 = .ok (.iload_n 3, 1) := by decide +kernel
theorem dX9_figure_1 : decode cX9_figure 1 = .ok (.invokestatic 114, 3) := by decide +kernel
theorem dX9_figure_4 : decode cX9_figure 4 = .ok (.ifCond .eq 23, 3) := by decide +kernel
theorem dX9_figure_7 : decode cX9_figure 7 = .ok (.iload 4, 2) := by decide +kernel
theorem dX9_figure_9 : decode cX9_figure 9 = .ok (.iconst 0, 1) := by decide +kernel
theorem dX9_figure_10 : decode cX9_figure 10 = .ok (.iconst 4, 1) := by decide +kernel
theorem dX9_figure_11 : decode cX9_figure 11 = .ok (.invokestatic 94, 3) := by decide +kernel
theorem dX9_figure_14 : decode cX9_figure 14 = .ok (.ifCond .eq 13, 3) := by decide +kernel
theorem dX9_figure_17 : decode cX9_figure 17 = .ok (.aload_n 0, 1) := by decide +kernel
theorem dX9_figure_18 : decode cX9_figure 18 = .ok (.iload_n 1, 1) := by decide +kernel
theorem dX9_figure_19 : decode cX9_figure 19 = .ok (.iload_n 2, 1) := by decide +kernel
theorem dX9_figure_20 : decode cX9_figure 20 = .ok (.iload_n 3, 1) := by decide +kernel
theorem dX9_figure_21 : decode cX9_figure 21 = .ok (.invokevirtual 217, 3) := by decide +kernel
theorem dX9_figure_24 : decode cX9_figure 24 = .ok (.ifCond .ne 7, 3) := by decide +kernel
theorem dX9_figure_27 : decode cX9_figure 27 = .ok (.ldc2_w 220, 3) := by decide +kernel
theorem dX9_figure_30 : decode cX9_figure 30 = .ok (.lreturn, 1) := by decide +kernel
theorem dX9_figure_31 : decode cX9_figure 31 = .ok (.lconst 0, 1) := by decide +kernel
theorem dX9_figure_32 : decode cX9_figure 32 = .ok (.lstore 5, 2) := by decide +kernel
theorem dX9_figure_34 : decode cX9_figure 34 = .ok (.iconst 0, 1) := by decide +kernel
theorem dX9_figure_35 : decode cX9_figure 35 = .ok (.istore 7, 2) := by decide +kernel
theorem dX9_figure_37 : decode cX9_figure 37 = .ok (.iconst 0, 1) := by decide +kernel
theorem dX9_figure_38 : decode cX9_figure 38 = .ok (.istore 8, 2) := by decide +kernel
theorem dX9_figure_40 : decode cX9_figure 40 = .ok (.iload 8, 2) := by decide +kernel
theorem dX9_figure_42 : decode cX9_figure 42 = .ok (.aload_n 0, 1) := by decide +kernel
theorem dX9_figure_43 : decode cX9_figure 43 = .ok (.getfield 211, 3) := by decide +kernel
theorem dX9_figure_46 : decode cX9_figure 46 = .ok (.if_icmp .ge 56, 3) := by decide +kernel
theorem dX9_figure_49 : decode cX9_figure 49 = .ok (.lload 5, 2) := by decide +kernel
theorem dX9_figure_51 : decode cX9_figure 51 = .ok (.aload_n 0, 1) := by decide +kernel
theorem dX9_figure_52 : decode cX9_figure 52 = .ok (.getfield 87, 3) := by decide +kernel
theorem dX9_figure_55 : decode cX9_figure 55 = .ok (.iload 8, 2) := by decide +kernel
theorem dX9_figure_57 : decode cX9_figure 57 = .ok (.iaload, 1) := by decide +kernel
theorem dX9_figure_58 : decode cX9_figure 58 = .ok (.i2l, 1) := by decide +kernel
theorem dX9_figure_59 : decode cX9_figure 59 = .ok (.ladd, 1) := by decide +kernel
theorem dX9_figure_60 : decode cX9_figure 60 = .ok (.lstore 5, 2) := by decide +kernel
theorem dX9_figure_62 : decode cX9_figure 62 = .ok (.iload 7, 2) := by decide +kernel
theorem dX9_figure_64 : decode cX9_figure 64 = .ok (.iload 8, 2) := by decide +kernel
theorem dX9_figure_66 : decode cX9_figure 66 = .ok (.ifCond .eq 22, 3) := by decide +kernel
theorem dX9_figure_69 : decode cX9_figure 69 = .ok (.aload_n 0, 1) := by decide +kernel
theorem dX9_figure_70 : decode cX9_figure 70 = .ok (.getfield 87, 3) := by decide +kernel
theorem dX9_figure_73 : decode cX9_figure 73 = .ok (.iload 8, 2) := by decide +kernel
theorem dX9_figure_75 : decode cX9_figure 75 = .ok (.iaload, 1) := by decide +kernel
theorem dX9_figure_76 : decode cX9_figure 76 = .ok (.aload_n 0, 1) := by decide +kernel
theorem dX9_figure_77 : decode cX9_figure 77 = .ok (.getfield 87, 3) := by decide +kernel
theorem dX9_figure_80 : decode cX9_figure 80 = .ok (.iload 8, 2) := by decide +kernel
theorem dX9_figure_82 : decode cX9_figure 82 = .ok (.iconst 1, 1) := by decide +kernel
theorem dX9_figure_83 : decode cX9_figure 83 = .ok (.isub, 1) := by decide +kernel
theorem dX9_figure_84 : decode cX9_figure 84 = .ok (.iaload, 1) := by decide +kernel
theorem dX9_figure_85 : decode cX9_figure 85 = .ok (.if_icmp .eq 7, 3) := by decide +kernel
theorem dX9_figure_88 : decode cX9_figure 88 = .ok (.iconst 1, 1) := by decide +kernel
theorem dX9_figure_89 : decode cX9_figure 89 = .ok (.goto 4, 3) := by decide +kernel
theorem dX9_figure_92 : decode cX9_figure 92 = .ok (.iconst 0, 1) := by decide +kernel
theorem dX9_figure_93 : decode cX9_figure 93 = .ok (.iadd, 1) := by decide +kernel
theorem dX9_figure_94 : decode cX9_figure 94 = .ok (.istore 7, 2) := by decide +kernel
theorem dX9_figure_96 : decode cX9_figure 96 = .ok (.iinc 8 1, 3) := by decide +kernel
theorem dX9_figure_99 : decode cX9_figure 99 = .ok (.goto (-59), 3) := by decide +kernel
theorem dX9_figure_102 : decode cX9_figure 102 = .ok (.iload 4, 2) := by decide +kernel
theorem dX9_figure_104 : decode cX9_figure 104 = .ok (.ifCond .ne 9, 3) := by decide +kernel
theorem dX9_figure_107 : decode cX9_figure 107 = .ok (.aload_n 0, 1) := by decide +kernel
theorem dX9_figure_108 : decode cX9_figure 108 = .ok (.getfield 211, 3) := by decide +kernel
theorem dX9_figure_111 : decode cX9_figure 111 = .ok (.i2l, 1) := by decide +kernel
theorem dX9_figure_112 : decode cX9_figure 112 = .ok (.lreturn, 1) := by decide +kernel
theorem dX9_figure_113 : decode cX9_figure 113 = .ok (.iload 4, 2) := by decide +kernel
theorem dX9_figure_115 : decode cX9_figure 115 = .ok (.iconst 1, 1) := by decide +kernel
theorem dX9_figure_116 : decode cX9_figure 116 = .ok (.if_icmp .ne 6, 3) := by decide +kernel
theorem dX9_figure_119 : decode cX9_figure 119 = .ok (.lload 5, 2) := by decide +kernel
theorem dX9_figure_121 : decode cX9_figure 121 = .ok (.lreturn, 1) := by decide +kernel
theorem dX9_figure_122 : decode cX9_figure 122 = .ok (.iload 4, 2) := by decide +kernel
theorem dX9_figure_124 : decode cX9_figure 124 = .ok (.iconst 4, 1) := by decide +kernel
theorem dX9_figure_125 : decode cX9_figure 125 = .ok (.if_icmp .ne 9, 3) := by decide +kernel
theorem dX9_figure_128 : decode cX9_figure 128 = .ok (.iload 7, 2) := by decide +kernel
theorem dX9_figure_130 : decode cX9_figure 130 = .ok (.i2l, 1) := by decide +kernel
theorem dX9_figure_131 : decode cX9_figure 131 = .ok (.goto 44, 3) := by decide +kernel
theorem dX9_figure_134 : decode cX9_figure 134 = .ok (.aload_n 0, 1) := by decide +kernel
theorem dX9_figure_135 : decode cX9_figure 135 = .ok (.getfield 211, 3) := by decide +kernel
theorem dX9_figure_138 : decode cX9_figure 138 = .ok (.ifCond .ne 9, 3) := by decide +kernel
theorem dX9_figure_141 : decode cX9_figure 141 = .ok (.ldc2_w 222, 3) := by decide +kernel
theorem dX9_figure_144 : decode cX9_figure 144 = .ok (.goto 31, 3) := by decide +kernel
theorem dX9_figure_147 : decode cX9_figure 147 = .ok (.iload 4, 2) := by decide +kernel
theorem dX9_figure_149 : decode cX9_figure 149 = .ok (.iconst 2, 1) := by decide +kernel
theorem dX9_figure_150 : decode cX9_figure 150 = .ok (.if_icmp .ne 13, 3) := by decide +kernel
theorem dX9_figure_153 : decode cX9_figure 153 = .ok (.aload_n 0, 1) := by decide +kernel
theorem dX9_figure_154 : decode cX9_figure 154 = .ok (.getfield 87, 3) := by decide +kernel
theorem dX9_figure_157 : decode cX9_figure 157 = .ok (.iconst 0, 1) := by decide +kernel
theorem dX9_figure_158 : decode cX9_figure 158 = .ok (.iaload, 1) := by decide +kernel
theorem dX9_figure_159 : decode cX9_figure 159 = .ok (.i2l, 1) := by decide +kernel
theorem dX9_figure_160 : decode cX9_figure 160 = .ok (.goto 15, 3) := by decide +kernel
theorem dX9_figure_163 : decode cX9_figure 163 = .ok (.aload_n 0, 1) := by decide +kernel
theorem dX9_figure_164 : decode cX9_figure 164 = .ok (.getfield 87, 3) := by decide +kernel
theorem dX9_figure_167 : decode cX9_figure 167 = .ok (.aload_n 0, 1) := by decide +kernel
theorem dX9_figure_168 : decode cX9_figure 168 = .ok (.getfield 211, 3) := by decide +kernel
theorem dX9_figure_171 : decode cX9_figure 171 = .ok (.iconst 1, 1) := by decide +kernel
theorem dX9_figure_172 : decode cX9_figure 172 = .ok (.isub, 1) := by decide +kernel
theorem dX9_figure_173 : decode cX9_figure 173 = .ok (.iaload, 1) := by decide +kernel
theorem dX9_figure_174 : decode cX9_figure 174 = .ok (.i2l, 1) := by decide +kernel
theorem dX9_figure_175 : decode cX9_figure 175 = .ok (.lreturn, 1) := by decide +kernel
theorem dX9_place_0 : decode cX9_place 0 = .ok (.iload_n 3, 1) := by decide +kernel
theorem dX9_place_1 : decode cX9_place 1 = .ok (.invokestatic 114, 3) := by decide +kernel
theorem dX9_place_4 : decode cX9_place 4 = .ok (.ifCond .eq 24, 3) := by decide +kernel
theorem dX9_place_7 : decode cX9_place 7 = .ok (.iload 4, 2) := by decide +kernel
theorem dX9_place_9 : decode cX9_place 9 = .ok (.iconst 0, 1) := by decide +kernel
theorem dX9_place_10 : decode cX9_place 10 = .ok (.bipush 100, 2) := by decide +kernel
theorem dX9_place_12 : decode cX9_place 12 = .ok (.invokestatic 94, 3) := by decide +kernel
theorem dX9_place_15 : decode cX9_place 15 = .ok (.ifCond .eq 13, 3) := by decide +kernel
theorem dX9_place_18 : decode cX9_place 18 = .ok (.aload_n 0, 1) := by decide +kernel
theorem dX9_place_19 : decode cX9_place 19 = .ok (.iload_n 1, 1) := by decide +kernel
theorem dX9_place_20 : decode cX9_place 20 = .ok (.iload_n 2, 1) := by decide +kernel
theorem dX9_place_21 : decode cX9_place 21 = .ok (.iload_n 3, 1) := by decide +kernel
theorem dX9_place_22 : decode cX9_place 22 = .ok (.invokevirtual 217, 3) := by decide +kernel
theorem dX9_place_25 : decode cX9_place 25 = .ok (.ifCond .ne 6, 3) := by decide +kernel
theorem dX9_place_28 : decode cX9_place 28 = .ok (.ldc 120, 2) := by decide +kernel
theorem dX9_place_30 : decode cX9_place 30 = .ok (.ireturn, 1) := by decide +kernel
theorem dX9_place_31 : decode cX9_place 31 = .ok (.iload 4, 2) := by decide +kernel
theorem dX9_place_33 : decode cX9_place 33 = .ok (.aload_n 0, 1) := by decide +kernel
theorem dX9_place_34 : decode cX9_place 34 = .ok (.getfield 211, 3) := by decide +kernel
theorem dX9_place_37 : decode cX9_place 37 = .ok (.imul, 1) := by decide +kernel
theorem dX9_place_38 : decode cX9_place 38 = .ok (.bipush 99, 2) := by decide +kernel
theorem dX9_place_40 : decode cX9_place 40 = .ok (.iadd, 1) := by decide +kernel
theorem dX9_place_41 : decode cX9_place 41 = .ok (.bipush 100, 2) := by decide +kernel
theorem dX9_place_43 : decode cX9_place 43 = .ok (.idiv, 1) := by decide +kernel
theorem dX9_place_44 : decode cX9_place 44 = .ok (.istore 5, 2) := by decide +kernel
theorem dX9_place_46 : decode cX9_place 46 = .ok (.aload_n 0, 1) := by decide +kernel
theorem dX9_place_47 : decode cX9_place 47 = .ok (.getfield 211, 3) := by decide +kernel
theorem dX9_place_50 : decode cX9_place 50 = .ok (.ifCond .ne 8, 3) := by decide +kernel
theorem dX9_place_53 : decode cX9_place 53 = .ok (.ldc 122, 2) := by decide +kernel
theorem dX9_place_55 : decode cX9_place 55 = .ok (.goto 21, 3) := by decide +kernel
theorem dX9_place_58 : decode cX9_place 58 = .ok (.aload_n 0, 1) := by decide +kernel
theorem dX9_place_59 : decode cX9_place 59 = .ok (.getfield 87, 3) := by decide +kernel
theorem dX9_place_62 : decode cX9_place 62 = .ok (.iload 5, 2) := by decide +kernel
theorem dX9_place_64 : decode cX9_place 64 = .ok (.ifCond .ne 7, 3) := by decide +kernel
theorem dX9_place_67 : decode cX9_place 67 = .ok (.iconst 0, 1) := by decide +kernel
theorem dX9_place_68 : decode cX9_place 68 = .ok (.goto 7, 3) := by decide +kernel
theorem dX9_place_71 : decode cX9_place 71 = .ok (.iload 5, 2) := by decide +kernel
theorem dX9_place_73 : decode cX9_place 73 = .ok (.iconst 1, 1) := by decide +kernel
theorem dX9_place_74 : decode cX9_place 74 = .ok (.isub, 1) := by decide +kernel
theorem dX9_place_75 : decode cX9_place 75 = .ok (.iaload, 1) := by decide +kernel
theorem dX9_place_76 : decode cX9_place 76 = .ok (.ireturn, 1) := by decide +kernel
theorem dX9_told_0 : decode cX9_told 0 = .ok (.iconst 0, 1) := by decide +kernel
theorem dX9_told_1 : decode cX9_told 1 = .ok (.istore_n 2, 1) := by decide +kernel
theorem dX9_told_2 : decode cX9_told 2 = .ok (.iconst 0, 1) := by decide +kernel
theorem dX9_told_3 : decode cX9_told 3 = .ok (.istore_n 3, 1) := by decide +kernel
theorem dX9_told_4 : decode cX9_told 4 = .ok (.iload_n 3, 1) := by decide +kernel
theorem dX9_told_5 : decode cX9_told 5 = .ok (.aload_n 0, 1) := by decide +kernel
theorem dX9_told_6 : decode cX9_told 6 = .ok (.getfield 90, 3) := by decide +kernel
theorem dX9_told_9 : decode cX9_told 9 = .ok (.if_icmp .ge 26, 3) := by decide +kernel
theorem dX9_told_12 : decode cX9_told 12 = .ok (.iload_n 2, 1) := by decide +kernel
theorem dX9_told_13 : decode cX9_told 13 = .ok (.aload_n 0, 1) := by decide +kernel
theorem dX9_told_14 : decode cX9_told 14 = .ok (.getfield 16, 3) := by decide +kernel
theorem dX9_told_17 : decode cX9_told 17 = .ok (.iload_n 3, 1) := by decide +kernel
theorem dX9_told_18 : decode cX9_told 18 = .ok (.baload, 1) := by decide +kernel
theorem dX9_told_19 : decode cX9_told 19 = .ok (.ifCond .eq 7, 3) := by decide +kernel
theorem dX9_told_22 : decode cX9_told 22 = .ok (.iconst 1, 1) := by decide +kernel
theorem dX9_told_23 : decode cX9_told 23 = .ok (.goto 4, 3) := by decide +kernel
theorem dX9_told_26 : decode cX9_told 26 = .ok (.iconst 0, 1) := by decide +kernel
theorem dX9_told_27 : decode cX9_told 27 = .ok (.iadd, 1) := by decide +kernel
theorem dX9_told_28 : decode cX9_told 28 = .ok (.istore_n 2, 1) := by decide +kernel
theorem dX9_told_29 : decode cX9_told 29 = .ok (.iinc 3 1, 3) := by decide +kernel
theorem dX9_told_32 : decode cX9_told 32 = .ok (.goto (-28), 3) := by decide +kernel
theorem dX9_told_35 : decode cX9_told 35 = .ok (.iload_n 1, 1) := by decide +kernel
theorem dX9_told_36 : decode cX9_told 36 = .ok (.ifCond .ne 10, 3) := by decide +kernel
theorem dX9_told_39 : decode cX9_told 39 = .ok (.aload_n 0, 1) := by decide +kernel
theorem dX9_told_40 : decode cX9_told 40 = .ok (.getfield 90, 3) := by decide +kernel
theorem dX9_told_43 : decode cX9_told 43 = .ok (.goto 38, 3) := by decide +kernel
theorem dX9_told_46 : decode cX9_told 46 = .ok (.iload_n 1, 1) := by decide +kernel
theorem dX9_told_47 : decode cX9_told 47 = .ok (.iconst 1, 1) := by decide +kernel
theorem dX9_told_48 : decode cX9_told 48 = .ok (.if_icmp .ne 7, 3) := by decide +kernel
theorem dX9_told_51 : decode cX9_told 51 = .ok (.iload_n 2, 1) := by decide +kernel
theorem dX9_told_52 : decode cX9_told 52 = .ok (.goto 29, 3) := by decide +kernel
theorem dX9_told_55 : decode cX9_told 55 = .ok (.iload_n 1, 1) := by decide +kernel
theorem dX9_told_56 : decode cX9_told 56 = .ok (.iconst 2, 1) := by decide +kernel
theorem dX9_told_57 : decode cX9_told 57 = .ok (.if_icmp .ne 10, 3) := by decide +kernel
theorem dX9_told_60 : decode cX9_told 60 = .ok (.aload_n 0, 1) := by decide +kernel
theorem dX9_told_61 : decode cX9_told 61 = .ok (.getfield 98, 3) := by decide +kernel
theorem dX9_told_64 : decode cX9_told 64 = .ok (.goto 17, 3) := by decide +kernel
theorem dX9_told_67 : decode cX9_told 67 = .ok (.iload_n 1, 1) := by decide +kernel
theorem dX9_told_68 : decode cX9_told 68 = .ok (.iconst 3, 1) := by decide +kernel
theorem dX9_told_69 : decode cX9_told 69 = .ok (.if_icmp .ne 10, 3) := by decide +kernel
theorem dX9_told_72 : decode cX9_told 72 = .ok (.aload_n 0, 1) := by decide +kernel
theorem dX9_told_73 : decode cX9_told 73 = .ok (.getfield 103, 3) := by decide +kernel
theorem dX9_told_76 : decode cX9_told 76 = .ok (.goto 5, 3) := by decide +kernel
theorem dX9_told_79 : decode cX9_told 79 = .ok (.ldc 120, 2) := by decide +kernel
theorem dX9_told_81 : decode cX9_told 81 = .ok (.ireturn, 1) := by decide +kernel
