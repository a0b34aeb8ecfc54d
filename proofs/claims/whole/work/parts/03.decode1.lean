theorem dX5_versionAt_14 : decode cX5_versionAt 14 = .ok (.ldc 252, 2) := by decide +kernel
theorem dX5_versionAt_16 : decode cX5_versionAt 16 = .ok (.invokespecial 199, 3) := by decide +kernel
theorem dX5_versionAt_19 : decode cX5_versionAt 19 = .ok (.athrow, 1) := by decide +kernel
theorem dX5_versionAt_20 : decode cX5_versionAt 20 = .ok (.aload_n 2, 1) := by decide +kernel
theorem dX5_versionAt_21 : decode cX5_versionAt 21 = .ok (.areturn, 1) := by decide +kernel
theorem dX5_unitAt_0 : decode cX5_unitAt 0 = .ok (.aload_n 0, 1) := by decide +kernel
theorem dX5_unitAt_1 : decode cX5_unitAt 1 = .ok (.getfield 19, 3) := by decide +kernel
theorem dX5_unitAt_4 : decode cX5_unitAt 4 = .ok (.iload_n 1, 1) := by decide +kernel
theorem dX5_unitAt_5 : decode cX5_unitAt 5 = .ok (.invokevirtual 254, 3) := by decide +kernel
theorem dX5_unitAt_8 : decode cX5_unitAt 8 = .ok (.astore_n 2, 1) := by decide +kernel
theorem dX5_unitAt_9 : decode cX5_unitAt 9 = .ok (.aload_n 2, 1) := by decide +kernel
theorem dX5_unitAt_10 : decode cX5_unitAt 10 = .ok (.ifnonnull 14, 3) := by decide +kernel
theorem dX5_unitAt_13 : decode cX5_unitAt 13 = .ok (.new 195, 3) := by decide +kernel
theorem dX5_unitAt_16 : decode cX5_unitAt 16 = .ok (.dup, 1) := by decide +kernel
theorem dX5_unitAt_17 : decode cX5_unitAt 17 = .ok (.ldc_w 256, 3) := by decide +kernel
theorem dX5_unitAt_20 : decode cX5_unitAt 20 = .ok (.invokespecial 199, 3) := by decide +kernel
theorem dX5_unitAt_23 : decode cX5_unitAt 23 = .ok (.athrow, 1) := by decide +kernel
theorem dX5_unitAt_24 : decode cX5_unitAt 24 = .ok (.aload_n 2, 1) := by decide +kernel
theorem dX5_unitAt_25 : decode cX5_unitAt 25 = .ok (.areturn, 1) := by decide +kernel
theorem dX5_makeVersion_0 : decode cX5_makeVersion 0 = .ok (.aload_n 1, 1) := by decide +kernel
theorem dX5_makeVersion_1 : decode cX5_makeVersion 1 = .ok (.ifnonnull 7, 3) := by decide +kernel
theorem dX5_makeVersion_4 : decode cX5_makeVersion 4 = .ok (.iload_n 3, 1) := by decide +kernel
theorem dX5_makeVersion_5 : decode cX5_makeVersion 5 = .ok (.goto 9, 3) := by decide +kernel
theorem dX5_makeVersion_8 : decode cX5_makeVersion 8 = .ok (.iload_n 3, 1) := by decide +kernel
theorem dX5_makeVersion_9 : decode cX5_makeVersion 9 = .ok (.aload_n 1, 1) := by decide +kernel
theorem dX5_makeVersion_10 : decode cX5_makeVersion 10 = .ok (.getfield 258, 3) := by decide +kernel
theorem dX5_makeVersion_13 : decode cX5_makeVersion 13 = .ok (.isub, 1) := by decide +kernel
theorem dX5_makeVersion_14 : decode cX5_makeVersion 14 = .ok (.istore 5, 2) := by decide +kernel
theorem dX5_makeVersion_16 : decode cX5_makeVersion 16 = .ok (.aload_n 0, 1) := by decide +kernel
theorem dX5_makeVersion_17 : decode cX5_makeVersion 17 = .ok (.getfield 19, 3) := by decide +kernel
theorem dX5_makeVersion_20 : decode cX5_makeVersion 20 = .ok (.aload_n 1, 1) := by decide +kernel
theorem dX5_makeVersion_21 : decode cX5_makeVersion 21 = .ok (.ifnull 7, 3) := by decide +kernel
theorem dX5_makeVersion_24 : decode cX5_makeVersion 24 = .ok (.iconst 1, 1) := by decide +kernel
theorem dX5_makeVersion_25 : decode cX5_makeVersion 25 = .ok (.goto 4, 3) := by decide +kernel
theorem dX5_makeVersion_28 : decode cX5_makeVersion 28 = .ok (.iconst 0, 1) := by decide +kernel
theorem dX5_makeVersion_29 : decode cX5_makeVersion 29 = .ok (.iload 5, 2) := by decide +kernel
theorem dX5_makeVersion_31 : decode cX5_makeVersion 31 = .ok (.iload 4, 2) := by decide +kernel
theorem dX5_makeVersion_33 : decode cX5_makeVersion 33 = .ok (.invokevirtual 261, 3) := by decide +kernel
theorem dX5_makeVersion_36 : decode cX5_makeVersion 36 = .ok (.astore 6, 2) := by decide +kernel
theorem dX5_makeVersion_38 : decode cX5_makeVersion 38 = .ok (.new 113, 3) := by decide +kernel
theorem dX5_makeVersion_41 : decode cX5_makeVersion 41 = .ok (.dup, 1) := by decide +kernel
theorem dX5_makeVersion_42 : decode cX5_makeVersion 42 = .ok (.aload 6, 2) := by decide +kernel
theorem dX5_makeVersion_44 : decode cX5_makeVersion 44 = .ok (.aload_n 1, 1) := by decide +kernel
theorem dX5_makeVersion_45 : decode cX5_makeVersion 45 = .ok (.iload_n 2, 1) := by decide +kernel
theorem dX5_makeVersion_46 : decode cX5_makeVersion 46 = .ok (.iload_n 3, 1) := by decide +kernel
theorem dX5_makeVersion_47 : decode cX5_makeVersion 47 = .ok (.invokespecial 265, 3) := by decide +kernel
theorem dX5_makeVersion_50 : decode cX5_makeVersion 50 = .ok (.astore 7, 2) := by decide +kernel
theorem dX5_makeVersion_52 : decode cX5_makeVersion 52 = .ok (.aload 7, 2) := by decide +kernel
theorem dX5_makeVersion_54 : decode cX5_makeVersion 54 = .ok (.invokevirtual 268, 3) := by decide +kernel
theorem dX5_makeVersion_57 : decode cX5_makeVersion 57 = .ok (.aload 7, 2) := by decide +kernel
theorem dX5_makeVersion_59 : decode cX5_makeVersion 59 = .ok (.areturn, 1) := by decide +kernel
theorem dX5_convertedContent_0 : decode cX5_convertedContent 0 = .ok (.sipush 1000, 3) := by decide +kernel
theorem dX5_convertedContent_3 : decode cX5_convertedContent 3 = .ok (.iload_n 0, 1) := by decide +kernel
theorem dX5_convertedContent_4 : decode cX5_convertedContent 4 = .ok (.sipush 1000, 3) := by decide +kernel
theorem dX5_convertedContent_7 : decode cX5_convertedContent 7 = .ok (.invokestatic 271, 3) := by decide +kernel
theorem dX5_convertedContent_10 : decode cX5_convertedContent 10 = .ok (.imul, 1) := by decide +kernel
theorem dX5_convertedContent_11 : decode cX5_convertedContent 11 = .ok (.iload_n 1, 1) := by decide +kernel
theorem dX5_convertedContent_12 : decode cX5_convertedContent 12 = .ok (.sipush 1000, 3) := by decide +kernel
theorem dX5_convertedContent_15 : decode cX5_convertedContent 15 = .ok (.irem, 1) := by decide +kernel
theorem dX5_convertedContent_16 : decode cX5_convertedContent 16 = .ok (.iadd, 1) := by decide +kernel
theorem dX5_convertedContent_17 : decode cX5_convertedContent 17 = .ok (.ireturn, 1) := by decide +kernel
theorem dX6_init_0 : decode cX6_init 0 = .ok (.aload_n 0, 1) := by decide +kernel
theorem dX6_init_1 : decode cX6_init 1 = .ok (.invokespecial 1, 3) := by decide +kernel
theorem dX6_init_4 : decode cX6_init 4 = .ok (.aload_n 0, 1) := by decide +kernel
theorem dX6_init_5 : decode cX6_init 5 = .ok (.bipush 8, 2) := by decide +kernel
theorem dX6_init_7 : decode cX6_init 7 = .ok (.newarray .int, 2) := by decide +kernel
theorem dX6_init_9 : decode cX6_init 9 = .ok (.putfield 7, 3) := by decide +kernel
theorem dX6_init_12 : decode cX6_init 12 = .ok (.aload_n 0, 1) := by decide +kernel
theorem dX6_init_13 : decode cX6_init 13 = .ok (.bipush 64, 2) := by decide +kernel
theorem dX6_init_15 : decode cX6_init 15 = .ok (.newarray .int, 2) := by decide +kernel
theorem dX6_init_17 : decode cX6_init 17 = .ok (.putfield 13, 3) := by decide +kernel
theorem dX6_init_20 : decode cX6_init 20 = .ok (.aload_n 0, 1) := by decide +kernel
theorem dX6_init_21 : decode cX6_init 21 = .ok (.bipush 8, 2) := by decide +kernel
theorem dX6_init_23 : decode cX6_init 23 = .ok (.newarray .int, 2) := by decide +kernel
theorem dX6_init_25 : decode cX6_init 25 = .ok (.putfield 16, 3) := by decide +kernel
theorem dX6_init_28 : decode cX6_init 28 = .ok (.aload_n 0, 1) := by decide +kernel
theorem dX6_init_29 : decode cX6_init 29 = .ok (.bipush 10, 2) := by decide +kernel
theorem dX6_init_31 : decode cX6_init 31 = .ok (.newarray .int, 2) := by decide +kernel
theorem dX6_init_33 : decode cX6_init 33 = .ok (.putfield 19, 3) := by decide +kernel
theorem dX6_init_36 : decode cX6_init 36 = .ok (.aload_n 0, 1) := by decide +kernel
theorem dX6_init_37 : decode cX6_init 37 = .ok (.bipush 10, 2) := by decide +kernel
theorem dX6_init_39 : decode cX6_init 39 = .ok (.newarray .int, 2) := by decide +kernel
theorem dX6_init_41 : decode cX6_init 41 = .ok (.putfield 22, 3) := by decide +kernel
theorem dX6_init_44 : decode cX6_init 44 = .ok (.aload_n 0, 1) := by decide +kernel
theorem dX6_init_45 : decode cX6_init 45 = .ok (.bipush 100, 2) := by decide +kernel
theorem dX6_init_47 : decode cX6_init 47 = .ok (.newarray .boolean, 2) := by decide +kernel
theorem dX6_init_49 : decode cX6_init 49 = .ok (.putfield 25, 3) := by decide +kernel
theorem dX6_init_52 : decode cX6_init 52 = .ok (.aload_n 0, 1) := by decide +kernel
theorem dX6_init_53 : decode cX6_init 53 = .ok (.bipush 100, 2) := by decide +kernel
theorem dX6_init_55 : decode cX6_init 55 = .ok (.newarray .int, 2) := by decide +kernel
theorem dX6_init_57 : decode cX6_init 57 = .ok (.putfield 29, 3) := by decide +kernel
theorem dX6_init_60 : decode cX6_init 60 = .ok (.aload_n 0, 1) := by decide +kernel
theorem dX6_init_61 : decode cX6_init 61 = .ok (.bipush 100, 2) := by decide +kernel
theorem dX6_init_63 : decode cX6_init 63 = .ok (.newarray .int, 2) := by decide +kernel
theorem dX6_init_65 : decode cX6_init 65 = .ok (.putfield 32, 3) := by decide +kernel
theorem dX6_init_68 : decode cX6_init 68 = .ok (.aload_n 0, 1) := by decide +kernel
theorem dX6_init_69 : decode cX6_init 69 = .ok (.bipush 100, 2) := by decide +kernel
theorem dX6_init_71 : decode cX6_init 71 = .ok (.newarray .int, 2) := by decide +kernel
theorem dX6_init_73 : decode cX6_init 73 = .ok (.putfield 35, 3) := by decide +kernel
theorem dX6_init_76 : decode cX6_init 76 = .ok (.aload_n 0, 1) := by decide +kernel
theorem dX6_init_77 : decode cX6_init 77 = .ok (.bipush 100, 2) := by decide +kernel
theorem dX6_init_79 : decode cX6_init 79 = .ok (.newarray .boolean, 2) := by decide +kernel
theorem dX6_init_81 : decode cX6_init 81 = .ok (.putfield 38, 3) := by decide +kernel
theorem dX6_init_84 : decode cX6_init 84 = .ok (.aload_n 0, 1) := by decide +kernel
theorem dX6_init_85 : decode cX6_init 85 = .ok (.bipush 100, 2) := by decide +kernel
theorem dX6_init_87 : decode cX6_init 87 = .ok (.newarray .boolean, 2) := by decide +kernel
theorem dX6_init_89 : decode cX6_init 89 = .ok (.putfield 41, 3) := by decide +kernel
theorem dX6_init_92 : decode cX6_init 92 = .ok (.aload_n 0, 1) := by decide +kernel
theorem dX6_init_93 : decode cX6_init 93 = .ok (.bipush 100, 2) := by decide +kernel
theorem dX6_init_95 : decode cX6_init 95 = .ok (.newarray .int, 2) := by decide +kernel
theorem dX6_init_97 : decode cX6_init 97 = .ok (.putfield 44, 3) := by decide +kernel
theorem dX6_init_100 : decode cX6_init 100 = .ok (.aload_n 0, 1) := by decide +kernel
theorem dX6_init_101 : decode cX6_init 101 = .ok (.bipush 100, 2) := by decide +kernel
theorem dX6_init_103 : decode cX6_init 103 = .ok (.newarray .int, 2) := by decide +kernel
theorem dX6_init_105 : decode cX6_init 105 = .ok (.putfield 47, 3) := by decide +kernel
theorem dX6_init_108 : decode cX6_init 108 = .ok (.aload_n 0, 1) := by decide +kernel
theorem dX6_init_109 : decode cX6_init 109 = .ok (.sipush 400, 3) := by decide +kernel
theorem dX6_init_112 : decode cX6_init 112 = .ok (.newarray .boolean, 2) := by decide +kernel
theorem dX6_init_114 : decode cX6_init 114 = .ok (.putfield 50, 3) := by decide +kernel
theorem dX6_init_117 : decode cX6_init 117 = .ok (.aload_n 0, 1) := by decide +kernel
theorem dX6_init_118 : decode cX6_init 118 = .ok (.sipush 400, 3) := by decide +kernel
theorem dX6_init_121 : decode cX6_init 121 = .ok (.newarray .int, 2) := by decide +kernel
theorem dX6_init_123 : decode cX6_init 123 = .ok (.putfield 53, 3) := by decide +kernel
theorem dX6_init_126 : decode cX6_init 126 = .ok (.aload_n 0, 1) := by decide +kernel
theorem dX6_init_127 : decode cX6_init 127 = .ok (.iconst 4, 1) := by decide +kernel
theorem dX6_init_128 : decode cX6_init 128 = .ok (.newarray .boolean, 2) := by decide +kernel
theorem dX6_init_130 : decode cX6_init 130 = .ok (.putfield 56, 3) := by decide +kernel
theorem dX6_init_133 : decode cX6_init 133 = .ok (.aload_n 0, 1) := by decide +kernel
theorem dX6_init_134 : decode cX6_init 134 = .ok (.iconst (-1), 1) := by decide +kernel
theorem dX6_init_135 : decode cX6_init 135 = .ok (.putfield 59, 3) := by decide +kernel
theorem dX6_init_138 : decode cX6_init 138 = .ok (.iconst 0, 1) := by decide +kernel
theorem dX6_init_139 : decode cX6_init 139 = .ok (.istore_n 1, 1) := by decide +kernel
theorem dX6_init_140 : decode cX6_init 140 = .ok (.iload_n 1, 1) := by decide +kernel
theorem dX6_init_141 : decode cX6_init 141 = .ok (.bipush 64, 2) := by decide +kernel
theorem dX6_init_143 : decode cX6_init 143 = .ok (.if_icmp .ge 16, 3) := by decide +kernel
theorem dX6_init_146 : decode cX6_init 146 = .ok (.aload_n 0, 1) := by decide +kernel
theorem dX6_init_147 : decode cX6_init 147 = .ok (.getfield 13, 3) := by decide +kernel
theorem dX6_init_150 : decode cX6_init 150 = .ok (.iload_n 1, 1) := by decide +kernel
theorem dX6_init_151 : decode cX6_init 151 = .ok (.iconst (-1), 1) := by decide +kernel
theorem dX6_init_152 : decode cX6_init 152 = .ok (.iastore, 1) := by decide +kernel
theorem dX6_init_153 : decode cX6_init 153 = .ok (.iinc 1 1, 3) := by decide +kernel
theorem dX6_init_156 : decode cX6_init 156 = .ok (.goto (-16), 3) := by decide +kernel
theorem dX6_init_159 : decode cX6_init 159 = .ok (.return_, 1) := by decide +kernel
theorem dX6_thrown_0 : decode cX6_thrown 0 = .ok (.aload_n 0, 1) := by decide +kernel
theorem dX6_thrown_1 : decode cX6_thrown 1 = .ok (.getfield 63, 3) := by decide +kernel
theorem dX6_thrown_4 : decode cX6_thrown 4 = .ok (.ireturn, 1) := by decide +kernel
theorem dX6_fails_0 : decode cX6_fails 0 = .ok (.aload_n 0, 1) := by decide +kernel
theorem dX6_fails_1 : decode cX6_fails 1 = .ok (.iload_n 1, 1) := by decide +kernel
theorem dX6_fails_2 : decode cX6_fails 2 = .ok (.putfield 63, 3) := by decide +kernel
theorem dX6_fails_5 : decode cX6_fails 5 = .ok (.iload_n 1, 1) := by decide +kernel
theorem dX6_fails_6 : decode cX6_fails 6 = .ok (.ifCond .le 7, 3) := by decide +kernel
theorem dX6_fails_9 : decode cX6_fails 9 = .ok (.iconst 1, 1) := by decide +kernel
theorem dX6_fails_10 : decode cX6_fails 10 = .ok (.goto 4, 3) := by decide +kernel
theorem dX6_fails_13 : decode cX6_fails 13 = .ok (.iconst 0, 1) := by decide +kernel
theorem dX6_fails_14 : decode cX6_fails 14 = .ok (.ireturn, 1) := by decide +kernel
theorem dX6_tells_0 : decode cX6_tells 0 = .ok (.aload_n 0, 1) := by decide +kernel
theorem dX6_tells_1 : decode cX6_tells 1 = .ok (.iconst 0, 1) := by decide +kernel
theorem dX6_tells_2 : decode cX6_tells 2 = .ok (.putfield 63, 3) := by decide +kernel
theorem dX6_tells_5 : decode cX6_tells 5 = .ok (.iload_n 1, 1) := by decide +kernel
theorem dX6_tells_6 : decode cX6_tells 6 = .ok (.ireturn, 1) := by decide +kernel
theorem dX6_isIn_0 : decode cX6_isIn 0 = .ok (.iload_n 0, 1) := by decide +kernel
theorem dX6_isIn_1 : decode cX6_isIn 1 = .ok (.iload_n 1, 1) := by decide +kernel
theorem dX6_isIn_2 : decode cX6_isIn 2 = .ok (.if_icmp .lt 12, 3) := by decide +kernel
theorem dX6_isIn_5 : decode cX6_isIn 5 = .ok (.iload_n 0, 1) := by decide +kernel
theorem dX6_isIn_6 : decode cX6_isIn 6 = .ok (.iload_n 2, 1) := by decide +kernel
theorem dX6_isIn_7 : decode cX6_isIn 7 = .ok (.if_icmp .gt 7, 3) := by decide +kernel
theorem dX6_isIn_10 : decode cX6_isIn 10 = .ok (.iconst 1, 1) := by decide +kernel
theorem dX6_isIn_11 : decode cX6_isIn 11 = .ok (.goto 4, 3) := by decide +kernel
theorem dX6_isIn_14 : decode cX6_isIn 14 = .ok (.iconst 0, 1) := by decide +kernel
theorem dX6_isIn_15 : decode cX6_isIn 15 = .ok (.ireturn, 1) := by decide +kernel
theorem dX6_isFormat_0 : decode cX6_isFormat 0 = .ok (.iload_n 1, 1) := by decide +kernel
theorem dX6_isFormat_1 : decode cX6_isFormat 1 = .ok (.iconst 0, 1) := by decide +kernel
theorem dX6_isFormat_2 : decode cX6_isFormat 2 = .ok (.aload_n 0, 1) := by decide +kernel
theorem dX6_isFormat_3 : decode cX6_isFormat 3 = .ok (.getfield 66, 3) := by decide +kernel
theorem dX6_isFormat_6 : decode cX6_isFormat 6 = .ok (.iconst 1, 1) := by decide +kernel
theorem dX6_isFormat_7 : decode cX6_isFormat 7 = .ok (.isub, 1) := by decide +kernel
theorem dX6_isFormat_8 : decode cX6_isFormat 8 = .ok (.invokestatic 69, 3) := by decide +kernel
theorem dX6_isFormat_11 : decode cX6_isFormat 11 = .ok (.ireturn, 1) := by decide +kernel
theorem dX6_addFormat_0 : decode cX6_addFormat 0 = .ok (.aload_n 0, 1) := by decide +kernel
theorem dX6_addFormat_1 : decode cX6_addFormat 1 = .ok (.iload_n 1, 1) := by decide +kernel
theorem dX6_addFormat_2 : decode cX6_addFormat 2 = .ok (.iconst 0, 1) := by decide +kernel
theorem dX6_addFormat_3 : decode cX6_addFormat 3 = .ok (.bipush 100, 2) := by decide +kernel
theorem dX6_addFormat_5 : decode cX6_addFormat 5 = .ok (.invokestatic 69, 3) := by decide +kernel
theorem dX6_addFormat_8 : decode cX6_addFormat 8 = .ok (.ifCond .ne 7, 3) := by decide +kernel
theorem dX6_addFormat_11 : decode cX6_addFormat 11 = .ok (.iconst 1, 1) := by decide +kernel
theorem dX6_addFormat_12 : decode cX6_addFormat 12 = .ok (.goto 17, 3) := by decide +kernel
theorem dX6_addFormat_15 : decode cX6_addFormat 15 = .ok (.aload_n 0, 1) := by decide +kernel
theorem dX6_addFormat_16 : decode cX6_addFormat 16 = .ok (.getfield 66, 3) := by decide +kernel
theorem dX6_addFormat_19 : decode cX6_addFormat 19 = .ok (.bipush 8, 2) := by decide +kernel
theorem dX6_addFormat_21 : decode cX6_addFormat 21 = .ok (.if_icmp .ne 7, 3) := by decide +kernel
theorem dX6_addFormat_24 : decode cX6_addFormat 24 = .ok (.iconst 2, 1) := by decide +kernel
theorem dX6_addFormat_25 : decode cX6_addFormat 25 = .ok (.goto 4, 3) := by decide +kernel
theorem dX6_addFormat_28 : decode cX6_addFormat 28 = .ok (.iconst 0, 1) := by decide +kernel
theorem dX6_addFormat_29 : decode cX6_addFormat 29 = .ok (.invokevirtual 73, 3) := by decide +kernel
theorem dX6_addFormat_32 : decode cX6_addFormat 32 = .ok (.ifCond .eq 5, 3) := by decide +kernel
theorem dX6_addFormat_35 : decode cX6_addFormat 35 = .ok (.iconst 0, 1) := by decide +kernel
theorem dX6_addFormat_36 : decode cX6_addFormat 36 = .ok (.ireturn, 1) := by decide +kernel
theorem dX6_addFormat_37 : decode cX6_addFormat 37 = .ok (.aload_n 0, 1) := by decide +kernel
theorem dX6_addFormat_38 : decode cX6_addFormat 38 = .ok (.getfield 7, 3) := by decide +kernel
theorem dX6_addFormat_41 : decode cX6_addFormat 41 = .ok (.aload_n 0, 1) := by decide +kernel
theorem dX6_addFormat_42 : decode cX6_addFormat 42 = .ok (.getfield 66, 3) := by decide +kernel
theorem dX6_addFormat_45 : decode cX6_addFormat 45 = .ok (.iload_n 1, 1) := by decide +kernel
theorem dX6_addFormat_46 : decode cX6_addFormat 46 = .ok (.iastore, 1) := by decide +kernel
theorem dX6_addFormat_47 : decode cX6_addFormat 47 = .ok (.aload_n 0, 1) := by decide +kernel
theorem dX6_addFormat_48 : decode cX6_addFormat 48 = .ok (.dup, 1) := by decide +kernel
theorem dX6_addFormat_49 : decode cX6_addFormat 49 = .ok (.getfield 66, 3) := by decide +kernel
theorem dX6_addFormat_52 : decode cX6_addFormat 52 = .ok (.iconst 1, 1) := by decide +kernel
theorem dX6_addFormat_53 : decode cX6_addFormat 53 = .ok (.iadd, 1) := by decide +kernel
theorem dX6_addFormat_54 : decode cX6_addFormat 54 = .ok (.putfield 66, 3) := by decide +kernel
theorem dX6_addFormat_57 : decode cX6_addFormat 57 = .ok (.aload_n 0, 1) := by decide +kernel
theorem dX6_addFormat_58 : decode cX6_addFormat 58 = .ok (.getfield 66, 3) := by decide +kernel
theorem dX6_addFormat_61 : decode cX6_addFormat 61 = .ok (.iconst 1, 1) := by decide +kernel
theorem dX6_addFormat_62 : decode cX6_addFormat 62 = .ok (.isub, 1) := by decide +kernel
theorem dX6_addFormat_63 : decode cX6_addFormat 63 = .ok (.ireturn, 1) := by decide +kernel
theorem dX6_setRisk_0 : decode cX6_setRisk 0 = .ok (.aload_n 0, 1) := by decide +kernel
theorem dX6_setRisk_1 : decode cX6_setRisk 1 = .ok (.iload_n 2, 1) := by decide +kernel
theorem dX6_setRisk_2 : decode cX6_setRisk 2 = .ok (.iconst 0, 1) := by decide +kernel
theorem dX6_setRisk_3 : decode cX6_setRisk 3 = .ok (.bipush 100, 2) := by decide +kernel
theorem dX6_setRisk_5 : decode cX6_setRisk 5 = .ok (.invokestatic 69, 3) := by decide +kernel
theorem dX6_setRisk_8 : decode cX6_setRisk 8 = .ok (.ifCond .ne 7, 3) := by decide +kernel
theorem dX6_setRisk_11 : decode cX6_setRisk 11 = .ok (.iconst 1, 1) := by decide +kernel
theorem dX6_setRisk_12 : decode cX6_setRisk 12 = .ok (.goto 16, 3) := by decide +kernel
theorem dX6_setRisk_15 : decode cX6_setRisk 15 = .ok (.aload_n 0, 1) := by decide +kernel
theorem dX6_setRisk_16 : decode cX6_setRisk 16 = .ok (.iload_n 1, 1) := by decide +kernel
theorem dX6_setRisk_17 : decode cX6_setRisk 17 = .ok (.invokevirtual 77, 3) := by decide +kernel
theorem dX6_setRisk_20 : decode cX6_setRisk 20 = .ok (.ifCond .eq 7, 3) := by decide +kernel
theorem dX6_setRisk_23 : decode cX6_setRisk 23 = .ok (.iconst 0, 1) := by decide +kernel
theorem dX6_setRisk_24 : decode cX6_setRisk 24 = .ok (.goto 4, 3) := by decide +kernel
theorem dX6_setRisk_27 : decode cX6_setRisk 27 = .ok (.iconst 2, 1) := by decide +kernel
theorem dX6_setRisk_28 : decode cX6_setRisk 28 = .ok (.invokevirtual 73, 3) := by decide +kernel
theorem dX6_setRisk_31 : decode cX6_setRisk 31 = .ok (.ifCond .eq 5, 3) := by decide +kernel
theorem dX6_setRisk_34 : decode cX6_setRisk 34 = .ok (.iconst 0, 1) := by decide +kernel
theorem dX6_setRisk_35 : decode cX6_setRisk 35 = .ok (.ireturn, 1) := by decide +kernel
theorem dX6_setRisk_36 : decode cX6_setRisk 36 = .ok (.aload_n 0, 1) := by decide +kernel
theorem dX6_setRisk_37 : decode cX6_setRisk 37 = .ok (.getfield 7, 3) := by decide +kernel
theorem dX6_setRisk_40 : decode cX6_setRisk 40 = .ok (.iload_n 1, 1) := by decide +kernel
theorem dX6_setRisk_41 : decode cX6_setRisk 41 = .ok (.iaload, 1) := by decide +kernel
theorem dX6_setRisk_42 : decode cX6_setRisk 42 = .ok (.istore_n 3, 1) := by decide +kernel
theorem dX6_setRisk_43 : decode cX6_setRisk 43 = .ok (.aload_n 0, 1) := by decide +kernel
theorem dX6_setRisk_44 : decode cX6_setRisk 44 = .ok (.getfield 7, 3) := by decide +kernel
theorem dX6_setRisk_47 : decode cX6_setRisk 47 = .ok (.iload_n 1, 1) := by decide +kernel
theorem dX6_setRisk_48 : decode cX6_setRisk 48 = .ok (.iload_n 2, 1) := by decide +kernel
theorem dX6_setRisk_49 : decode cX6_setRisk 49 = .ok (.iastore, 1) := by decide +kernel
theorem dX6_setRisk_50 : decode cX6_setRisk 50 = .ok (.iload_n 3, 1) := by decide +kernel
theorem dX6_setRisk_51 : decode cX6_setRisk 51 = .ok (.ireturn, 1) := by decide +kernel
theorem dX6_way_0 : decode cX6_way 0 = .ok (.iconst 0, 1) := by decide +kernel
theorem dX6_way_1 : decode cX6_way 1 = .ok (.istore_n 3, 1) := by decide +kernel
theorem dX6_way_2 : decode cX6_way 2 = .ok (.iload_n 3, 1) := by decide +kernel
theorem dX6_way_3 : decode cX6_way 3 = .ok (.bipush 8, 2) := by decide +kernel
theorem dX6_way_5 : decode cX6_way 5 = .ok (.if_icmp .ge 25, 3) := by decide +kernel
theorem dX6_way_8 : decode cX6_way 8 = .ok (.aload_n 0, 1) := by decide +kernel
theorem dX6_way_9 : decode cX6_way 9 = .ok (.getfield 16, 3) := by decide +kernel
theorem dX6_way_12 : decode cX6_way 12 = .ok (.iload_n 3, 1) := by decide +kernel
theorem dX6_way_13 : decode cX6_way 13 = .ok (.iload_n 3, 1) := by decide +kernel
theorem dX6_way_14 : decode cX6_way 14 = .ok (.iload_n 1, 1) := by decide +kernel
theorem dX6_way_15 : decode cX6_way 15 = .ok (.if_icmp .ne 7, 3) := by decide +kernel
theorem dX6_way_18 : decode cX6_way 18 = .ok (.iconst 0, 1) := by decide +kernel
theorem dX6_way_19 : decode cX6_way 19 = .ok (.goto 4, 3) := by decide +kernel
theorem dX6_way_22 : decode cX6_way 22 = .ok (.iconst (-1), 1) := by decide +kernel
theorem dX6_way_23 : decode cX6_way 23 = .ok (.iastore, 1) := by decide +kernel
theorem dX6_way_24 : decode cX6_way 24 = .ok (.iinc 3 1, 3) := by decide +kernel
theorem dX6_way_27 : decode cX6_way 27 = .ok (.goto (-25), 3) := by decide +kernel
theorem dX6_way_30 : decode cX6_way 30 = .ok (.iconst 0, 1) := by decide +kernel
theorem dX6_way_31 : decode cX6_way 31 = .ok (.istore_n 3, 1) := by decide +kernel
theorem dX6_way_32 : decode cX6_way 32 = .ok (.iload_n 3, 1) := by decide +kernel
theorem dX6_way_33 : decode cX6_way 33 = .ok (.sipush 512, 3) := by decide +kernel
theorem dX6_way_36 : decode cX6_way 36 = .ok (.if_icmp .ge 114, 3) := by decide +kernel
theorem dX6_way_39 : decode cX6_way 39 = .ok (.iload_n 3, 1) := by decide +kernel
theorem dX6_way_40 : decode cX6_way 40 = .ok (.bipush 8, 2) := by decide +kernel
theorem dX6_way_42 : decode cX6_way 42 = .ok (.idiv, 1) := by decide +kernel
theorem dX6_way_43 : decode cX6_way 43 = .ok (.bipush 8, 2) := by decide +kernel
theorem dX6_way_45 : decode cX6_way 45 = .ok (.irem, 1) := by decide +kernel
theorem dX6_way_46 : decode cX6_way 46 = .ok (.istore 4, 2) := by decide +kernel
theorem dX6_way_48 : decode cX6_way 48 = .ok (.iload_n 3, 1) := by decide +kernel
theorem dX6_way_49 : decode cX6_way 49 = .ok (.bipush 8, 2) := by decide +kernel
theorem dX6_way_51 : decode cX6_way 51 = .ok (.irem, 1) := by decide +kernel
theorem dX6_way_52 : decode cX6_way 52 = .ok (.istore 5, 2) := by decide +kernel
theorem dX6_way_54 : decode cX6_way 54 = .ok (.aload_n 0, 1) := by decide +kernel
theorem dX6_way_55 : decode cX6_way 55 = .ok (.getfield 13, 3) := by decide +kernel
theorem dX6_way_58 : decode cX6_way 58 = .ok (.bipush 8, 2) := by decide +kernel
theorem dX6_way_60 : decode cX6_way 60 = .ok (.iload 4, 2) := by decide +kernel
theorem dX6_way_62 : decode cX6_way 62 = .ok (.imul, 1) := by decide +kernel
theorem dX6_way_63 : decode cX6_way 63 = .ok (.iload 5, 2) := by decide +kernel
theorem dX6_way_65 : decode cX6_way 65 = .ok (.iadd, 1) := by decide +kernel
theorem dX6_way_66 : decode cX6_way 66 = .ok (.iaload, 1) := by decide +kernel
theorem dX6_way_67 : decode cX6_way 67 = .ok (.istore 6, 2) := by decide +kernel
theorem dX6_way_69 : decode cX6_way 69 = .ok (.iload 6, 2) := by decide +kernel
theorem dX6_way_71 : decode cX6_way 71 = .ok (.iconst (-1), 1) := by decide +kernel
theorem dX6_way_72 : decode cX6_way 72 = .ok (.if_icmp .eq 72, 3) := by decide +kernel
theorem dX6_way_75 : decode cX6_way 75 = .ok (.aload_n 0, 1) := by decide +kernel
theorem dX6_way_76 : decode cX6_way 76 = .ok (.getfield 16, 3) := by decide +kernel
theorem dX6_way_79 : decode cX6_way 79 = .ok (.iload 4, 2) := by decide +kernel
theorem dX6_way_81 : decode cX6_way 81 = .ok (.iaload, 1) := by decide +kernel
theorem dX6_way_82 : decode cX6_way 82 = .ok (.iconst (-1), 1) := by decide +kernel
theorem dX6_way_83 : decode cX6_way 83 = .ok (.if_icmp .eq 61, 3) := by decide +kernel
theorem dX6_way_86 : decode cX6_way 86 = .ok (.aload_n 0, 1) := by decide +kernel
theorem dX6_way_87 : decode cX6_way 87 = .ok (.getfield 16, 3) := by decide +kernel
theorem dX6_way_90 : decode cX6_way 90 = .ok (.iload 5, 2) := by decide +kernel
theorem dX6_way_92 : decode cX6_way 92 = .ok (.iaload, 1) := by decide +kernel
theorem dX6_way_93 : decode cX6_way 93 = .ok (.iconst (-1), 1) := by decide +kernel
theorem dX6_way_94 : decode cX6_way 94 = .ok (.if_icmp .eq 28, 3) := by decide +kernel
theorem dX6_way_97 : decode cX6_way 97 = .ok (.aload_n 0, 1) := by decide +kernel
theorem dX6_way_98 : decode cX6_way 98 = .ok (.getfield 16, 3) := by decide +kernel
theorem dX6_way_101 : decode cX6_way 101 = .ok (.iload 4, 2) := by decide +kernel
theorem dX6_way_103 : decode cX6_way 103 = .ok (.iaload, 1) := by decide +kernel
theorem dX6_way_104 : decode cX6_way 104 = .ok (.bipush 100, 2) := by decide +kernel
theorem dX6_way_106 : decode cX6_way 106 = .ok (.iload 6, 2) := by decide +kernel
theorem dX6_way_108 : decode cX6_way 108 = .ok (.imul, 1) := by decide +kernel
theorem dX6_way_109 : decode cX6_way 109 = .ok (.iadd, 1) := by decide +kernel
theorem dX6_way_110 : decode cX6_way 110 = .ok (.iconst 1, 1) := by decide +kernel
theorem dX6_way_111 : decode cX6_way 111 = .ok (.iadd, 1) := by decide +kernel
theorem dX6_way_112 : decode cX6_way 112 = .ok (.aload_n 0, 1) := by decide +kernel
theorem dX6_way_113 : decode cX6_way 113 = .ok (.getfield 16, 3) := by decide +kernel
theorem dX6_way_116 : decode cX6_way 116 = .ok (.iload 5, 2) := by decide +kernel
theorem dX6_way_118 : decode cX6_way 118 = .ok (.iaload, 1) := by decide +kernel
theorem dX6_way_119 : decode cX6_way 119 = .ok (.if_icmp .ge 25, 3) := by decide +kernel
theorem dX6_way_122 : decode cX6_way 122 = .ok (.aload_n 0, 1) := by decide +kernel
theorem dX6_way_123 : decode cX6_way 123 = .ok (.getfield 16, 3) := by decide +kernel
theorem dX6_way_126 : decode cX6_way 126 = .ok (.iload 5, 2) := by decide +kernel
theorem dX6_way_128 : decode cX6_way 128 = .ok (.aload_n 0, 1) := by decide +kernel
theorem dX6_way_129 : decode cX6_way 129 = .ok (.getfield 16, 3) := by decide +kernel
theorem dX6_way_132 : decode cX6_way 132 = .ok (.iload 4, 2) := by decide +kernel
theorem dX6_way_134 : decode cX6_way 134 = .ok (.iaload, 1) := by decide +kernel
theorem dX6_way_135 : decode cX6_way 135 = .ok (.bipush 100, 2) := by decide +kernel
theorem dX6_way_137 : decode cX6_way 137 = .ok (.iload 6, 2) := by decide +kernel
theorem dX6_way_139 : decode cX6_way 139 = .ok (.imul, 1) := by decide +kernel
theorem dX6_way_140 : decode cX6_way 140 = .ok (.iadd, 1) := by decide +kernel
theorem dX6_way_141 : decode cX6_way 141 = .ok (.iconst 1, 1) := by decide +kernel
theorem dX6_way_142 : decode cX6_way 142 = .ok (.iadd, 1) := by decide +kernel
theorem dX6_way_143 : decode cX6_way 143 = .ok (.iastore, 1) := by decide +kernel
theorem dX6_way_144 : decode cX6_way 144 = .ok (.iinc 3 1, 3) := by decide +kernel
theorem dX6_way_147 : decode cX6_way 147 = .ok (.goto (-115), 3) := by decide +kernel
theorem dX6_way_150 : decode cX6_way 150 = .ok (.aload_n 0, 1) := by decide +kernel
theorem dX6_way_151 : decode cX6_way 151 = .ok (.getfield 16, 3) := by decide +kernel
theorem dX6_way_154 : decode cX6_way 154 = .ok (.iload_n 2, 1) := by decide +kernel
theorem dX6_way_155 : decode cX6_way 155 = .ok (.iaload, 1) := by decide +kernel
theorem dX6_way_156 : decode cX6_way 156 = .ok (.ireturn, 1) := by decide +kernel
theorem dX6_addConversion_0 : decode cX6_addConversion 0 = .ok (.iload_n 3, 1) := by decide +kernel
theorem dX6_addConversion_1 : decode cX6_addConversion 1 = .ok (.iconst 0, 1) := by decide +kernel
theorem dX6_addConversion_2 : decode cX6_addConversion 2 = .ok (.bipush 100, 2) := by decide +kernel
theorem dX6_addConversion_4 : decode cX6_addConversion 4 = .ok (.invokestatic 69, 3) := by decide +kernel
theorem dX6_addConversion_7 : decode cX6_addConversion 7 = .ok (.ifCond .eq 12, 3) := by decide +kernel
theorem dX6_addConversion_10 : decode cX6_addConversion 10 = .ok (.iload_n 1, 1) := by decide +kernel
theorem dX6_addConversion_11 : decode cX6_addConversion 11 = .ok (.iload_n 2, 1) := by decide +kernel
theorem dX6_addConversion_12 : decode cX6_addConversion 12 = .ok (.if_icmp .eq 7, 3) := by decide +kernel
theorem dX6_addConversion_15 : decode cX6_addConversion 15 = .ok (.iconst 1, 1) := by decide +kernel
theorem dX6_addConversion_16 : decode cX6_addConversion 16 = .ok (.goto 4, 3) := by decide +kernel
theorem dX6_addConversion_19 : decode cX6_addConversion 19 = .ok (.iconst 0, 1) := by decide +kernel
theorem dX6_addConversion_20 : decode cX6_addConversion 20 = .ok (.istore 4, 2) := by decide +kernel
theorem dX6_addConversion_22 : decode cX6_addConversion 22 = .ok (.aload_n 0, 1) := by decide +kernel
theorem dX6_addConversion_23 : decode cX6_addConversion 23 = .ok (.iload 4, 2) := by decide +kernel
theorem dX6_addConversion_25 : decode cX6_addConversion 25 = .ok (.ifCond .ne 7, 3) := by decide +kernel
theorem dX6_addConversion_28 : decode cX6_addConversion 28 = .ok (.iconst 1, 1) := by decide +kernel
theorem dX6_addConversion_29 : decode cX6_addConversion 29 = .ok (.goto 24, 3) := by decide +kernel
theorem dX6_addConversion_32 : decode cX6_addConversion 32 = .ok (.aload_n 0, 1) := by decide +kernel
theorem dX6_addConversion_33 : decode cX6_addConversion 33 = .ok (.iload_n 1, 1) := by decide +kernel
theorem dX6_addConversion_34 : decode cX6_addConversion 34 = .ok (.invokevirtual 77, 3) := by decide +kernel
theorem dX6_addConversion_37 : decode cX6_addConversion 37 = .ok (.ifCond .eq 15, 3) := by decide +kernel
theorem dX6_addConversion_40 : decode cX6_addConversion 40 = .ok (.aload_n 0, 1) := by decide +kernel
theorem dX6_addConversion_41 : decode cX6_addConversion 41 = .ok (.iload_n 2, 1) := by decide +kernel
theorem dX6_addConversion_42 : decode cX6_addConversion 42 = .ok (.invokevirtual 77, 3) := by decide +kernel
theorem dX6_addConversion_45 : decode cX6_addConversion 45 = .ok (.ifCond .eq 7, 3) := by decide +kernel
theorem dX6_addConversion_48 : decode cX6_addConversion 48 = .ok (.iconst 0, 1) := by decide +kernel
theorem dX6_addConversion_49 : decode cX6_addConversion 49 = .ok (.goto 4, 3) := by decide +kernel
theorem dX6_addConversion_52 : decode cX6_addConversion 52 = .ok (.iconst 2, 1) := by decide +kernel
theorem dX6_addConversion_53 : decode cX6_addConversion 53 = .ok (.invokevirtual 73, 3) := by decide +kernel
theorem dX6_addConversion_56 : decode cX6_addConversion 56 = .ok (.ifCond .eq 5, 3) := by decide +kernel
theorem dX6_addConversion_59 : decode cX6_addConversion 59 = .ok (.iconst 0, 1) := by decide +kernel
theorem dX6_addConversion_60 : decode cX6_addConversion 60 = .ok (.ireturn, 1) := by decide +kernel
theorem dX6_addConversion_61 : decode cX6_addConversion 61 = .ok (.aload_n 0, 1) := by decide +kernel
theorem dX6_addConversion_62 : decode cX6_addConversion 62 = .ok (.getfield 13, 3) := by decide +kernel
theorem dX6_addConversion_65 : decode cX6_addConversion 65 = .ok (.bipush 8, 2) := by decide +kernel
theorem dX6_addConversion_67 : decode cX6_addConversion 67 = .ok (.iload_n 1, 1) := by decide +kernel
theorem dX6_addConversion_68 : decode cX6_addConversion 68 = .ok (.imul, 1) := by decide +kernel
theorem dX6_addConversion_69 : decode cX6_addConversion 69 = .ok (.iload_n 2, 1) := by decide +kernel
theorem dX6_addConversion_70 : decode cX6_addConversion 70 = .ok (.iadd, 1) := by decide +kernel
theorem dX6_addConversion_71 : decode cX6_addConversion 71 = .ok (.iload_n 3, 1) := by decide +kernel
theorem dX6_addConversion_72 : decode cX6_addConversion 72 = .ok (.iastore, 1) := by decide +kernel
theorem dX6_addConversion_73 : decode cX6_addConversion 73 = .ok (.aload_n 0, 1) := by decide +kernel
theorem dX6_addConversion_74 : decode cX6_addConversion 74 = .ok (.iload_n 1, 1) := by decide +kernel
theorem dX6_addConversion_75 : decode cX6_addConversion 75 = .ok (.iload_n 2, 1) := by decide +kernel
theorem dX6_addConversion_76 : decode cX6_addConversion 76 = .ok (.invokevirtual 80, 3) := by decide +kernel
theorem dX6_addConversion_79 : decode cX6_addConversion 79 = .ok (.bipush 100, 2) := by decide +kernel
theorem dX6_addConversion_81 : decode cX6_addConversion 81 = .ok (.idiv, 1) := by decide +kernel
theorem dX6_addConversion_82 : decode cX6_addConversion 82 = .ok (.ireturn, 1) := by decide +kernel
theorem dX6_bestWay_0 : decode cX6_bestWay 0 = .ok (.aload_n 0, 1) := by decide +kernel
theorem dX6_bestWay_1 : decode cX6_bestWay 1 = .ok (.aload_n 0, 1) := by decide +kernel
theorem dX6_bestWay_2 : decode cX6_bestWay 2 = .ok (.iload_n 1, 1) := by decide +kernel
theorem dX6_bestWay_3 : decode cX6_bestWay 3 = .ok (.invokevirtual 77, 3) := by decide +kernel
theorem dX6_bestWay_6 : decode cX6_bestWay 6 = .ok (.ifCond .eq 15, 3) := by decide +kernel
theorem dX6_bestWay_9 : decode cX6_bestWay 9 = .ok (.aload_n 0, 1) := by decide +kernel
theorem dX6_bestWay_10 : decode cX6_bestWay 10 = .ok (.iload_n 2, 1) := by decide +kernel
theorem dX6_bestWay_11 : decode cX6_bestWay 11 = .ok (.invokevirtual 77, 3) := by decide +kernel
theorem dX6_bestWay_14 : decode cX6_bestWay 14 = .ok (.ifCond .eq 7, 3) := by decide +kernel
theorem dX6_bestWay_17 : decode cX6_bestWay 17 = .ok (.iconst 0, 1) := by decide +kernel
theorem dX6_bestWay_18 : decode cX6_bestWay 18 = .ok (.goto 4, 3) := by decide +kernel
theorem dX6_bestWay_21 : decode cX6_bestWay 21 = .ok (.iconst 1, 1) := by decide +kernel
theorem dX6_bestWay_22 : decode cX6_bestWay 22 = .ok (.invokevirtual 73, 3) := by decide +kernel
theorem dX6_bestWay_25 : decode cX6_bestWay 25 = .ok (.ifCond .eq 7, 3) := by decide +kernel
theorem dX6_bestWay_28 : decode cX6_bestWay 28 = .ok (.iconst 0, 1) := by decide +kernel
theorem dX6_bestWay_29 : decode cX6_bestWay 29 = .ok (.goto 9, 3) := by decide +kernel
theorem dX6_bestWay_32 : decode cX6_bestWay 32 = .ok (.aload_n 0, 1) := by decide +kernel
theorem dX6_bestWay_33 : decode cX6_bestWay 33 = .ok (.iload_n 1, 1) := by decide +kernel
theorem dX6_bestWay_34 : decode cX6_bestWay 34 = .ok (.iload_n 2, 1) := by decide +kernel
theorem dX6_bestWay_35 : decode cX6_bestWay 35 = .ok (.invokevirtual 80, 3) := by decide +kernel
theorem dX6_bestWay_38 : decode cX6_bestWay 38 = .ok (.ireturn, 1) := by decide +kernel
theorem dX6_digest_0 : decode cX6_digest 0 = .ok (.iload_n 0, 1) := by decide +kernel
theorem dX6_digest_1 : decode cX6_digest 1 = .ok (.bipush 97, 2) := by decide +kernel
theorem dX6_digest_3 : decode cX6_digest 3 = .ok (.irem, 1) := by decide +kernel
theorem dX6_digest_4 : decode cX6_digest 4 = .ok (.istore_n 1, 1) := by decide +kernel
theorem dX6_digest_5 : decode cX6_digest 5 = .ok (.iload_n 1, 1) := by decide +kernel
theorem dX6_digest_6 : decode cX6_digest 6 = .ok (.ifCond .ge 10, 3) := by decide +kernel
theorem dX6_digest_9 : decode cX6_digest 9 = .ok (.iload_n 1, 1) := by decide +kernel
theorem dX6_digest_10 : decode cX6_digest 10 = .ok (.bipush 97, 2) := by decide +kernel
theorem dX6_digest_12 : decode cX6_digest 12 = .ok (.iadd, 1) := by decide +kernel
theorem dX6_digest_13 : decode cX6_digest 13 = .ok (.goto 4, 3) := by decide +kernel
theorem dX6_digest_16 : decode cX6_digest 16 = .ok (.iload_n 1, 1) := by decide +kernel
theorem dX6_digest_17 : decode cX6_digest 17 = .ok (.ireturn, 1) := by decide +kernel
theorem dX6_isSound_0 : decode cX6_isSound 0 = .ok (.aload_n 0, 1) := by decide +kernel
theorem dX6_isSound_1 : decode cX6_isSound 1 = .ok (.getfield 50, 3) := by decide +kernel
theorem dX6_isSound_4 : decode cX6_isSound 4 = .ok (.iconst 4, 1) := by decide +kernel
theorem dX6_isSound_5 : decode cX6_isSound 5 = .ok (.iload_n 1, 1) := by decide +kernel
theorem dX6_isSound_6 : decode cX6_isSound 6 = .ok (.imul, 1) := by decide +kernel
theorem dX6_isSound_7 : decode cX6_isSound 7 = .ok (.iload_n 2, 1) := by decide +kernel
theorem dX6_isSound_8 : decode cX6_isSound 8 = .ok (.iadd, 1) := by decide +kernel
theorem dX6_isSound_9 : decode cX6_isSound 9 = .ok (.baload, 1) := by decide +kernel
theorem dX6_isSound_10 : decode cX6_isSound 10 = .ok (.ifCond .eq 32, 3) := by decide +kernel
theorem dX6_isSound_13 : decode cX6_isSound 13 = .ok (.aload_n 0, 1) := by decide +kernel
theorem dX6_isSound_14 : decode cX6_isSound 14 = .ok (.getfield 53, 3) := by decide +kernel
theorem dX6_isSound_17 : decode cX6_isSound 17 = .ok (.iconst 4, 1) := by decide +kernel
theorem dX6_isSound_18 : decode cX6_isSound 18 = .ok (.iload_n 1, 1) := by decide +kernel
theorem dX6_isSound_19 : decode cX6_isSound 19 = .ok (.imul, 1) := by decide +kernel
theorem dX6_isSound_20 : decode cX6_isSound 20 = .ok (.iload_n 2, 1) := by decide +kernel
theorem dX6_isSound_21 : decode cX6_isSound 21 = .ok (.iadd, 1) := by decide +kernel
theorem dX6_isSound_22 : decode cX6_isSound 22 = .ok (.iaload, 1) := by decide +kernel
theorem dX6_isSound_23 : decode cX6_isSound 23 = .ok (.invokestatic 84, 3) := by decide +kernel
theorem dX6_isSound_26 : decode cX6_isSound 26 = .ok (.aload_n 0, 1) := by decide +kernel
theorem dX6_isSound_27 : decode cX6_isSound 27 = .ok (.getfield 44, 3) := by decide +kernel
theorem dX6_isSound_30 : decode cX6_isSound 30 = .ok (.iload_n 1, 1) := by decide +kernel
theorem dX6_isSound_31 : decode cX6_isSound 31 = .ok (.iaload, 1) := by decide +kernel
theorem dX6_isSound_32 : decode cX6_isSound 32 = .ok (.invokestatic 84, 3) := by decide +kernel
theorem dX6_isSound_35 : decode cX6_isSound 35 = .ok (.if_icmp .ne 7, 3) := by decide +kernel
theorem dX6_isSound_38 : decode cX6_isSound 38 = .ok (.iconst 1, 1) := by decide +kernel
theorem dX6_isSound_39 : decode cX6_isSound 39 = .ok (.goto 4, 3) := by decide +kernel
theorem dX6_isSound_42 : decode cX6_isSound 42 = .ok (.iconst 0, 1) := by decide +kernel
theorem dX6_isSound_43 : decode cX6_isSound 43 = .ok (.ireturn, 1) := by decide +kernel
theorem dX6_alike_0 : decode cX6_alike 0 = .ok (.iconst 0, 1) := by decide +kernel
theorem dX6_alike_1 : decode cX6_alike 1 = .ok (.istore_n 3, 1) := by decide +kernel
theorem dX6_alike_2 : decode cX6_alike 2 = .ok (.iconst 0, 1) := by decide +kernel
theorem dX6_alike_3 : decode cX6_alike 3 = .ok (.istore 4, 2) := by decide +kernel
theorem dX6_alike_5 : decode cX6_alike 5 = .ok (.iload 4, 2) := by decide +kernel
theorem dX6_alike_7 : decode cX6_alike 7 = .ok (.iconst 4, 1) := by decide +kernel
theorem dX6_alike_8 : decode cX6_alike 8 = .ok (.if_icmp .ge 60, 3) := by decide +kernel
theorem dX6_alike_11 : decode cX6_alike 11 = .ok (.iload_n 3, 1) := by decide +kernel
theorem dX6_alike_12 : decode cX6_alike 12 = .ok (.aload_n 0, 1) := by decide +kernel
theorem dX6_alike_13 : decode cX6_alike 13 = .ok (.iload_n 1, 1) := by decide +kernel
theorem dX6_alike_14 : decode cX6_alike 14 = .ok (.iload_n 2, 1) := by decide +kernel
theorem dX6_alike_15 : decode cX6_alike 15 = .ok (.invokevirtual 88, 3) := by decide +kernel
theorem dX6_alike_18 : decode cX6_alike 18 = .ok (.ifCond .eq 41, 3) := by decide +kernel
theorem dX6_alike_21 : decode cX6_alike 21 = .ok (.aload_n 0, 1) := by decide +kernel
theorem dX6_alike_22 : decode cX6_alike 22 = .ok (.iload_n 1, 1) := by decide +kernel
theorem dX6_alike_23 : decode cX6_alike 23 = .ok (.iload 4, 2) := by decide +kernel
theorem dX6_alike_25 : decode cX6_alike 25 = .ok (.invokevirtual 88, 3) := by decide +kernel
theorem dX6_alike_28 : decode cX6_alike 28 = .ok (.ifCond .eq 31, 3) := by decide +kernel
theorem dX6_alike_31 : decode cX6_alike 31 = .ok (.aload_n 0, 1) := by decide +kernel
theorem dX6_alike_32 : decode cX6_alike 32 = .ok (.getfield 53, 3) := by decide +kernel
theorem dX6_alike_35 : decode cX6_alike 35 = .ok (.iconst 4, 1) := by decide +kernel
theorem dX6_alike_36 : decode cX6_alike 36 = .ok (.iload_n 1, 1) := by decide +kernel
theorem dX6_alike_37 : decode cX6_alike 37 = .ok (.imul, 1) := by decide +kernel
theorem dX6_alike_38 : decode cX6_alike 38 = .ok (.iload 4, 2) := by decide +kernel
theorem dX6_alike_40 : decode cX6_alike 40 = .ok (.iadd, 1) := by decide +kernel
theorem dX6_alike_41 : decode cX6_alike 41 = .ok (.iaload, 1) := by decide +kernel
theorem dX6_alike_42 : decode cX6_alike 42 = .ok (.aload_n 0, 1) := by decide +kernel
theorem dX6_alike_43 : decode cX6_alike 43 = .ok (.getfield 53, 3) := by decide +kernel
theorem dX6_alike_46 : decode cX6_alike 46 = .ok (.iconst 4, 1) := by decide +kernel
theorem dX6_alike_47 : decode cX6_alike 47 = .ok (.iload_n 1, 1) := by decide +kernel
theorem dX6_alike_48 : decode cX6_alike 48 = .ok (.imul, 1) := by decide +kernel
theorem dX6_alike_49 : decode cX6_alike 49 = .ok (.iload_n 2, 1) := by decide +kernel
theorem dX6_alike_50 : decode cX6_alike 50 = .ok (.iadd, 1) := by decide +kernel
theorem dX6_alike_51 : decode cX6_alike 51 = .ok (.iaload, 1) := by decide +kernel
theorem dX6_alike_52 : decode cX6_alike 52 = .ok (.if_icmp .ne 7, 3) := by decide +kernel
theorem dX6_alike_55 : decode cX6_alike 55 = .ok (.iconst 1, 1) := by decide +kernel
theorem dX6_alike_56 : decode cX6_alike 56 = .ok (.goto 4, 3) := by decide +kernel
theorem dX6_alike_59 : decode cX6_alike 59 = .ok (.iconst 0, 1) := by decide +kernel
theorem dX6_alike_60 : decode cX6_alike 60 = .ok (.iadd, 1) := by decide +kernel
theorem dX6_alike_61 : decode cX6_alike 61 = .ok (.istore_n 3, 1) := by decide +kernel
theorem dX6_alike_62 : decode cX6_alike 62 = .ok (.iinc 4 1, 3) := by decide +kernel
theorem dX6_alike_65 : decode cX6_alike 65 = .ok (.goto (-60), 3) := by decide +kernel
theorem dX6_alike_68 : decode cX6_alike 68 = .ok (.iload_n 3, 1) := by decide +kernel
theorem dX6_alike_69 : decode cX6_alike 69 = .ok (.ireturn, 1) := by decide +kernel
theorem dX6_good_0 : decode cX6_good 0 = .ok (.iconst (-1), 1) := by decide +kernel
theorem dX6_good_1 : decode cX6_good 1 = .ok (.istore_n 2, 1) := by decide +kernel
theorem dX6_good_2 : decode cX6_good 2 = .ok (.iconst 0, 1) := by decide +kernel
theorem dX6_good_3 : decode cX6_good 3 = .ok (.istore_n 3, 1) := by decide +kernel
theorem dX6_good_4 : decode cX6_good 4 = .ok (.iload_n 3, 1) := by decide +kernel
theorem dX6_good_5 : decode cX6_good 5 = .ok (.iconst 4, 1) := by decide +kernel
theorem dX6_good_6 : decode cX6_good 6 = .ok (.if_icmp .ge 39, 3) := by decide +kernel
theorem dX6_good_9 : decode cX6_good 9 = .ok (.aload_n 0, 1) := by decide +kernel
theorem dX6_good_10 : decode cX6_good 10 = .ok (.iload_n 1, 1) := by decide +kernel
theorem dX6_good_11 : decode cX6_good 11 = .ok (.iload_n 3, 1) := by decide +kernel
theorem dX6_good_12 : decode cX6_good 12 = .ok (.invokevirtual 92, 3) := by decide +kernel
theorem dX6_good_15 : decode cX6_good 15 = .ok (.iload_n 2, 1) := by decide +kernel
theorem dX6_good_16 : decode cX6_good 16 = .ok (.iconst (-1), 1) := by decide +kernel
theorem dX6_good_17 : decode cX6_good 17 = .ok (.if_icmp .ne 7, 3) := by decide +kernel
theorem dX6_good_20 : decode cX6_good 20 = .ok (.iconst 0, 1) := by decide +kernel
theorem dX6_good_21 : decode cX6_good 21 = .ok (.goto 9, 3) := by decide +kernel
theorem dX6_good_24 : decode cX6_good 24 = .ok (.aload_n 0, 1) := by decide +kernel
theorem dX6_good_25 : decode cX6_good 25 = .ok (.iload_n 1, 1) := by decide +kernel
theorem dX6_good_26 : decode cX6_good 26 = .ok (.iload_n 2, 1) := by decide +kernel
theorem dX6_good_27 : decode cX6_good 27 = .ok (.invokevirtual 92, 3) := by decide +kernel
theorem dX6_good_30 : decode cX6_good 30 = .ok (.if_icmp .le 7, 3) := by decide +kernel
theorem dX6_good_33 : decode cX6_good 33 = .ok (.iload_n 3, 1) := by decide +kernel
theorem dX6_good_34 : decode cX6_good 34 = .ok (.goto 4, 3) := by decide +kernel
theorem dX6_good_37 : decode cX6_good 37 = .ok (.iload_n 2, 1) := by decide +kernel
theorem dX6_good_38 : decode cX6_good 38 = .ok (.istore_n 2, 1) := by decide +kernel
theorem dX6_good_39 : decode cX6_good 39 = .ok (.iinc 3 1, 3) := by decide +kernel
theorem dX6_good_42 : decode cX6_good 42 = .ok (.goto (-38), 3) := by decide +kernel
theorem dX6_good_45 : decode cX6_good 45 = .ok (.iload_n 2, 1) := by decide +kernel
theorem dX6_good_46 : decode cX6_good 46 = .ok (.ireturn, 1) := by decide +kernel
theorem dX6_goodValue_0 : decode cX6_goodValue 0 = .ok (.aload_n 0, 1) := by decide +kernel
theorem dX6_goodValue_1 : decode cX6_goodValue 1 = .ok (.getfield 53, 3) := by decide +kernel
theorem dX6_goodValue_4 : decode cX6_goodValue 4 = .ok (.iconst 4, 1) := by decide +kernel
theorem dX6_goodValue_5 : decode cX6_goodValue 5 = .ok (.iload_n 1, 1) := by decide +kernel
theorem dX6_goodValue_6 : decode cX6_goodValue 6 = .ok (.imul, 1) := by decide +kernel
theorem dX6_goodValue_7 : decode cX6_goodValue 7 = .ok (.aload_n 0, 1) := by decide +kernel
theorem dX6_goodValue_8 : decode cX6_goodValue 8 = .ok (.iload_n 1, 1) := by decide +kernel
theorem dX6_goodValue_9 : decode cX6_goodValue 9 = .ok (.invokevirtual 95, 3) := by decide +kernel
theorem dX6_goodValue_12 : decode cX6_goodValue 12 = .ok (.iadd, 1) := by decide +kernel
theorem dX6_goodValue_13 : decode cX6_goodValue 13 = .ok (.iaload, 1) := by decide +kernel
theorem dX6_goodValue_14 : decode cX6_goodValue 14 = .ok (.ireturn, 1) := by decide +kernel
theorem dX6_copies_0 : decode cX6_copies 0 = .ok (.iconst 0, 1) := by decide +kernel
theorem dX6_copies_1 : decode cX6_copies 1 = .ok (.istore_n 2, 1) := by decide +kernel
theorem dX6_copies_2 : decode cX6_copies 2 = .ok (.iconst 0, 1) := by decide +kernel
theorem dX6_copies_3 : decode cX6_copies 3 = .ok (.istore_n 3, 1) := by decide +kernel
theorem dX6_copies_4 : decode cX6_copies 4 = .ok (.iload_n 3, 1) := by decide +kernel
theorem dX6_copies_5 : decode cX6_copies 5 = .ok (.iconst 4, 1) := by decide +kernel
theorem dX6_copies_6 : decode cX6_copies 6 = .ok (.if_icmp .ge 30, 3) := by decide +kernel
theorem dX6_copies_9 : decode cX6_copies 9 = .ok (.iload_n 2, 1) := by decide +kernel
theorem dX6_copies_10 : decode cX6_copies 10 = .ok (.aload_n 0, 1) := by decide +kernel
theorem dX6_copies_11 : decode cX6_copies 11 = .ok (.getfield 50, 3) := by decide +kernel
theorem dX6_copies_14 : decode cX6_copies 14 = .ok (.iconst 4, 1) := by decide +kernel
theorem dX6_copies_15 : decode cX6_copies 15 = .ok (.iload_n 1, 1) := by decide +kernel
theorem dX6_copies_16 : decode cX6_copies 16 = .ok (.imul, 1) := by decide +kernel
theorem dX6_copies_17 : decode cX6_copies 17 = .ok (.iload_n 3, 1) := by decide +kernel
theorem dX6_copies_18 : decode cX6_copies 18 = .ok (.iadd, 1) := by decide +kernel
theorem dX6_copies_19 : decode cX6_copies 19 = .ok (.baload, 1) := by decide +kernel
theorem dX6_copies_20 : decode cX6_copies 20 = .ok (.ifCond .eq 7, 3) := by decide +kernel
theorem dX6_copies_23 : decode cX6_copies 23 = .ok (.iconst 1, 1) := by decide +kernel
theorem dX6_copies_24 : decode cX6_copies 24 = .ok (.goto 4, 3) := by decide +kernel
theorem dX6_copies_27 : decode cX6_copies 27 = .ok (.iconst 0, 1) := by decide +kernel
theorem dX6_copies_28 : decode cX6_copies 28 = .ok (.iadd, 1) := by decide +kernel
theorem dX6_copies_29 : decode cX6_copies 29 = .ok (.istore_n 2, 1) := by decide +kernel
theorem dX6_copies_30 : decode cX6_copies 30 = .ok (.iinc 3 1, 3) := by decide +kernel
theorem dX6_copies_33 : decode cX6_copies 33 = .ok (.goto (-29), 3) := by decide +kernel
theorem dX6_copies_36 : decode cX6_copies 36 = .ok (.iload_n 2, 1) := by decide +kernel
theorem dX6_copies_37 : decode cX6_copies 37 = .ok (.ireturn, 1) := by decide +kernel
theorem dX6_load_0 : decode cX6_load 0 = .ok (.iconst 0, 1) := by decide +kernel
theorem dX6_load_1 : decode cX6_load 1 = .ok (.istore_n 2, 1) := by decide +kernel
theorem dX6_load_2 : decode cX6_load 2 = .ok (.iconst 0, 1) := by decide +kernel
theorem dX6_load_3 : decode cX6_load 3 = .ok (.istore_n 3, 1) := by decide +kernel
theorem dX6_load_4 : decode cX6_load 4 = .ok (.iload_n 3, 1) := by decide +kernel
theorem dX6_load_5 : decode cX6_load 5 = .ok (.bipush 100, 2) := by decide +kernel
theorem dX6_load_7 : decode cX6_load 7 = .ok (.if_icmp .ge 30, 3) := by decide +kernel
theorem dX6_load_10 : decode cX6_load 10 = .ok (.iload_n 2, 1) := by decide +kernel
theorem dX6_load_11 : decode cX6_load 11 = .ok (.aload_n 0, 1) := by decide +kernel
theorem dX6_load_12 : decode cX6_load 12 = .ok (.getfield 50, 3) := by decide +kernel
theorem dX6_load_15 : decode cX6_load 15 = .ok (.iconst 4, 1) := by decide +kernel
theorem dX6_load_16 : decode cX6_load 16 = .ok (.iload_n 3, 1) := by decide +kernel
theorem dX6_load_17 : decode cX6_load 17 = .ok (.imul, 1) := by decide +kernel
theorem dX6_load_18 : decode cX6_load 18 = .ok (.iload_n 1, 1) := by decide +kernel
theorem dX6_load_19 : decode cX6_load 19 = .ok (.iadd, 1) := by decide +kernel
theorem dX6_load_20 : decode cX6_load 20 = .ok (.baload, 1) := by decide +kernel
theorem dX6_load_21 : decode cX6_load 21 = .ok (.ifCond .eq 7, 3) := by decide +kernel
theorem dX6_load_24 : decode cX6_load 24 = .ok (.iconst 1, 1) := by decide +kernel
theorem dX6_load_25 : decode cX6_load 25 = .ok (.goto 4, 3) := by decide +kernel
theorem dX6_load_28 : decode cX6_load 28 = .ok (.iconst 0, 1) := by decide +kernel
theorem dX6_load_29 : decode cX6_load 29 = .ok (.iadd, 1) := by decide +kernel
theorem dX6_load_30 : decode cX6_load 30 = .ok (.istore_n 2, 1) := by decide +kernel
theorem dX6_load_31 : decode cX6_load 31 = .ok (.iinc 3 1, 3) := by decide +kernel
theorem dX6_load_34 : decode cX6_load 34 = .ok (.goto (-30), 3) := by decide +kernel
theorem dX6_load_37 : decode cX6_load 37 = .ok (.iload_n 2, 1) := by decide +kernel
theorem dX6_load_38 : decode cX6_load 38 = .ok (.ireturn, 1) := by decide +kernel
theorem dX6_place_0 : decode cX6_place 0 = .ok (.iconst (-1), 1) := by decide +kernel
theorem dX6_place_1 : decode cX6_place 1 = .ok (.istore_n 2, 1) := by decide +kernel
theorem dX6_place_2 : decode cX6_place 2 = .ok (.iconst 0, 1) := by decide +kernel
theorem dX6_place_3 : decode cX6_place 3 = .ok (.istore_n 3, 1) := by decide +kernel
theorem dX6_place_4 : decode cX6_place 4 = .ok (.iload_n 3, 1) := by decide +kernel
theorem dX6_place_5 : decode cX6_place 5 = .ok (.iconst 4, 1) := by decide +kernel
theorem dX6_place_6 : decode cX6_place 6 = .ok (.if_icmp .ge 67, 3) := by decide +kernel
theorem dX6_place_9 : decode cX6_place 9 = .ok (.aload_n 0, 1) := by decide +kernel
theorem dX6_place_10 : decode cX6_place 10 = .ok (.getfield 56, 3) := by decide +kernel
theorem dX6_place_13 : decode cX6_place 13 = .ok (.iload_n 3, 1) := by decide +kernel
theorem dX6_place_14 : decode cX6_place 14 = .ok (.baload, 1) := by decide +kernel
theorem dX6_place_15 : decode cX6_place 15 = .ok (.ifCond .ne 20, 3) := by decide +kernel
theorem dX6_place_18 : decode cX6_place 18 = .ok (.aload_n 0, 1) := by decide +kernel
theorem dX6_place_19 : decode cX6_place 19 = .ok (.getfield 50, 3) := by decide +kernel
theorem dX6_place_22 : decode cX6_place 22 = .ok (.iconst 4, 1) := by decide +kernel
theorem dX6_place_23 : decode cX6_place 23 = .ok (.iload_n 1, 1) := by decide +kernel
theorem dX6_place_24 : decode cX6_place 24 = .ok (.imul, 1) := by decide +kernel
theorem dX6_place_25 : decode cX6_place 25 = .ok (.iload_n 3, 1) := by decide +kernel
theorem dX6_place_26 : decode cX6_place 26 = .ok (.iadd, 1) := by decide +kernel
theorem dX6_place_27 : decode cX6_place 27 = .ok (.baload, 1) := by decide +kernel
theorem dX6_place_28 : decode cX6_place 28 = .ok (.ifCond .ne 7, 3) := by decide +kernel
theorem dX6_place_31 : decode cX6_place 31 = .ok (.iconst 1, 1) := by decide +kernel
theorem dX6_place_32 : decode cX6_place 32 = .ok (.goto 4, 3) := by decide +kernel
theorem dX6_place_35 : decode cX6_place 35 = .ok (.iconst 0, 1) := by decide +kernel
theorem dX6_place_36 : decode cX6_place 36 = .ok (.istore 4, 2) := by decide +kernel
theorem dX6_place_38 : decode cX6_place 38 = .ok (.iload 4, 2) := by decide +kernel
theorem dX6_place_40 : decode cX6_place 40 = .ok (.ifCond .eq 25, 3) := by decide +kernel
theorem dX6_place_43 : decode cX6_place 43 = .ok (.iload_n 2, 1) := by decide +kernel
theorem dX6_place_44 : decode cX6_place 44 = .ok (.iconst (-1), 1) := by decide +kernel
theorem dX6_place_45 : decode cX6_place 45 = .ok (.if_icmp .eq 16, 3) := by decide +kernel
theorem dX6_place_48 : decode cX6_place 48 = .ok (.aload_n 0, 1) := by decide +kernel
theorem dX6_place_49 : decode cX6_place 49 = .ok (.iload_n 3, 1) := by decide +kernel
theorem dX6_place_50 : decode cX6_place 50 = .ok (.invokevirtual 98, 3) := by decide +kernel
theorem dX6_place_53 : decode cX6_place 53 = .ok (.aload_n 0, 1) := by decide +kernel
theorem dX6_place_54 : decode cX6_place 54 = .ok (.iload_n 2, 1) := by decide +kernel
theorem dX6_place_55 : decode cX6_place 55 = .ok (.invokevirtual 98, 3) := by decide +kernel
theorem dX6_place_58 : decode cX6_place 58 = .ok (.if_icmp .ge 7, 3) := by decide +kernel
theorem dX6_place_61 : decode cX6_place 61 = .ok (.iload_n 3, 1) := by decide +kernel
theorem dX6_place_62 : decode cX6_place 62 = .ok (.goto 4, 3) := by decide +kernel
theorem dX6_place_65 : decode cX6_place 65 = .ok (.iload_n 2, 1) := by decide +kernel
theorem dX6_place_66 : decode cX6_place 66 = .ok (.istore_n 2, 1) := by decide +kernel
theorem dX6_place_67 : decode cX6_place 67 = .ok (.iinc 3 1, 3) := by decide +kernel
theorem dX6_place_70 : decode cX6_place 70 = .ok (.goto (-66), 3) := by decide +kernel
theorem dX6_place_73 : decode cX6_place 73 = .ok (.iload_n 2, 1) := by decide +kernel
theorem dX6_place_74 : decode cX6_place 74 = .ok (.ireturn, 1) := by decide +kernel
theorem dX6_places_0 : decode cX6_places 0 = .ok (.iconst 0, 1) := by decide +kernel
theorem dX6_places_1 : decode cX6_places 1 = .ok (.istore_n 3, 1) := by decide +kernel
theorem dX6_places_2 : decode cX6_places 2 = .ok (.aload_n 0, 1) := by decide +kernel
theorem dX6_places_3 : decode cX6_places 3 = .ok (.iload_n 1, 1) := by decide +kernel
theorem dX6_places_4 : decode cX6_places 4 = .ok (.invokevirtual 101, 3) := by decide +kernel
theorem dX6_places_7 : decode cX6_places 7 = .ok (.istore 4, 2) := by decide +kernel
theorem dX6_places_9 : decode cX6_places 9 = .ok (.aload_n 0, 1) := by decide +kernel
theorem dX6_places_10 : decode cX6_places 10 = .ok (.iload_n 1, 1) := by decide +kernel
theorem dX6_places_11 : decode cX6_places 11 = .ok (.invokevirtual 104, 3) := by decide +kernel
theorem dX6_places_14 : decode cX6_places 14 = .ok (.aload_n 0, 1) := by decide +kernel
theorem dX6_places_15 : decode cX6_places 15 = .ok (.getfield 47, 3) := by decide +kernel
theorem dX6_places_18 : decode cX6_places 18 = .ok (.iload_n 1, 1) := by decide +kernel
theorem dX6_places_19 : decode cX6_places 19 = .ok (.iaload, 1) := by decide +kernel
theorem dX6_places_20 : decode cX6_places 20 = .ok (.if_icmp .ge 46, 3) := by decide +kernel
theorem dX6_places_23 : decode cX6_places 23 = .ok (.iload 4, 2) := by decide +kernel
theorem dX6_places_25 : decode cX6_places 25 = .ok (.iconst (-1), 1) := by decide +kernel
theorem dX6_places_26 : decode cX6_places 26 = .ok (.if_icmp .eq 40, 3) := by decide +kernel
theorem dX6_places_29 : decode cX6_places 29 = .ok (.aload_n 0, 1) := by decide +kernel
theorem dX6_places_30 : decode cX6_places 30 = .ok (.getfield 50, 3) := by decide +kernel
theorem dX6_places_33 : decode cX6_places 33 = .ok (.iconst 4, 1) := by decide +kernel
theorem dX6_places_34 : decode cX6_places 34 = .ok (.iload_n 1, 1) := by decide +kernel
theorem dX6_places_35 : decode cX6_places 35 = .ok (.imul, 1) := by decide +kernel
theorem dX6_places_36 : decode cX6_places 36 = .ok (.iload 4, 2) := by decide +kernel
theorem dX6_places_38 : decode cX6_places 38 = .ok (.iadd, 1) := by decide +kernel
theorem dX6_places_39 : decode cX6_places 39 = .ok (.iconst 1, 1) := by decide +kernel
theorem dX6_places_40 : decode cX6_places 40 = .ok (.bastore, 1) := by decide +kernel
theorem dX6_places_41 : decode cX6_places 41 = .ok (.aload_n 0, 1) := by decide +kernel
theorem dX6_places_42 : decode cX6_places 42 = .ok (.getfield 53, 3) := by decide +kernel
theorem dX6_places_45 : decode cX6_places 45 = .ok (.iconst 4, 1) := by decide +kernel
theorem dX6_places_46 : decode cX6_places 46 = .ok (.iload_n 1, 1) := by decide +kernel
theorem dX6_places_47 : decode cX6_places 47 = .ok (.imul, 1) := by decide +kernel
theorem dX6_places_48 : decode cX6_places 48 = .ok (.iload 4, 2) := by decide +kernel
theorem dX6_places_50 : decode cX6_places 50 = .ok (.iadd, 1) := by decide +kernel
theorem dX6_places_51 : decode cX6_places 51 = .ok (.iload_n 2, 1) := by decide +kernel
theorem dX6_places_52 : decode cX6_places 52 = .ok (.iastore, 1) := by decide +kernel
theorem dX6_places_53 : decode cX6_places 53 = .ok (.iinc 3 1, 3) := by decide +kernel
theorem dX6_places_56 : decode cX6_places 56 = .ok (.aload_n 0, 1) := by decide +kernel
theorem dX6_places_57 : decode cX6_places 57 = .ok (.iload_n 1, 1) := by decide +kernel
theorem dX6_places_58 : decode cX6_places 58 = .ok (.invokevirtual 101, 3) := by decide +kernel
theorem dX6_places_61 : decode cX6_places 61 = .ok (.istore 4, 2) := by decide +kernel
theorem dX6_places_63 : decode cX6_places 63 = .ok (.goto (-54), 3) := by decide +kernel
theorem dX6_places_66 : decode cX6_places 66 = .ok (.iload_n 3, 1) := by decide +kernel
theorem dX6_places_67 : decode cX6_places 67 = .ok (.ireturn, 1) := by decide +kernel
theorem dX6_isObject_0 : decode cX6_isObject 0 = .ok (.iload_n 1, 1) := by decide +kernel
theorem dX6_isObject_1 : decode cX6_isObject 1 = .ok (.iconst 0, 1) := by decide +kernel
theorem dX6_isObject_2 : decode cX6_isObject 2 = .ok (.aload_n 0, 1) := by decide +kernel
theorem dX6_isObject_3 : decode cX6_isObject 3 = .ok (.getfield 107, 3) := by decide +kernel
theorem dX6_isObject_6 : decode cX6_isObject 6 = .ok (.iconst 1, 1) := by decide +kernel
theorem dX6_isObject_7 : decode cX6_isObject 7 = .ok (.isub, 1) := by decide +kernel
theorem dX6_isObject_8 : decode cX6_isObject 8 = .ok (.invokestatic 69, 3) := by decide +kernel
theorem dX6_isObject_11 : decode cX6_isObject 11 = .ok (.ireturn, 1) := by decide +kernel
theorem dX6_isVersion_0 : decode cX6_isVersion 0 = .ok (.aload_n 0, 1) := by decide +kernel
theorem dX6_isVersion_1 : decode cX6_isVersion 1 = .ok (.iload_n 1, 1) := by decide +kernel
theorem dX6_isVersion_2 : decode cX6_isVersion 2 = .ok (.invokevirtual 110, 3) := by decide +kernel
theorem dX6_isVersion_5 : decode cX6_isVersion 5 = .ok (.ifCond .eq 31, 3) := by decide +kernel
theorem dX6_isVersion_8 : decode cX6_isVersion 8 = .ok (.iload_n 2, 1) := by decide +kernel
theorem dX6_isVersion_9 : decode cX6_isVersion 9 = .ok (.iconst 0, 1) := by decide +kernel
theorem dX6_isVersion_10 : decode cX6_isVersion 10 = .ok (.bipush 9, 2) := by decide +kernel
theorem dX6_isVersion_12 : decode cX6_isVersion 12 = .ok (.invokestatic 69, 3) := by decide +kernel
theorem dX6_isVersion_15 : decode cX6_isVersion 15 = .ok (.ifCond .eq 21, 3) := by decide +kernel
theorem dX6_isVersion_18 : decode cX6_isVersion 18 = .ok (.aload_n 0, 1) := by decide +kernel
theorem dX6_isVersion_19 : decode cX6_isVersion 19 = .ok (.getfield 25, 3) := by decide +kernel
theorem dX6_isVersion_22 : decode cX6_isVersion 22 = .ok (.bipush 10, 2) := by decide +kernel
theorem dX6_isVersion_24 : decode cX6_isVersion 24 = .ok (.iload_n 1, 1) := by decide +kernel
theorem dX6_isVersion_25 : decode cX6_isVersion 25 = .ok (.imul, 1) := by decide +kernel
theorem dX6_isVersion_26 : decode cX6_isVersion 26 = .ok (.iload_n 2, 1) := by decide +kernel
theorem dX6_isVersion_27 : decode cX6_isVersion 27 = .ok (.iadd, 1) := by decide +kernel
theorem dX6_isVersion_28 : decode cX6_isVersion 28 = .ok (.baload, 1) := by decide +kernel
theorem dX6_isVersion_29 : decode cX6_isVersion 29 = .ok (.ifCond .eq 7, 3) := by decide +kernel
theorem dX6_isVersion_32 : decode cX6_isVersion 32 = .ok (.iconst 1, 1) := by decide +kernel
theorem dX6_isVersion_33 : decode cX6_isVersion 33 = .ok (.goto 4, 3) := by decide +kernel
theorem dX6_isVersion_36 : decode cX6_isVersion 36 = .ok (.iconst 0, 1) := by decide +kernel
theorem dX6_isVersion_37 : decode cX6_isVersion 37 = .ok (.ireturn, 1) := by decide +kernel
theorem dX6_latest_0 : decode cX6_latest 0 = .ok (.bipush 10, 2) := by decide +kernel
theorem dX6_latest_2 : decode cX6_latest 2 = .ok (.iload_n 1, 1) := by decide +kernel
theorem dX6_latest_3 : decode cX6_latest 3 = .ok (.imul, 1) := by decide +kernel
theorem dX6_latest_4 : decode cX6_latest 4 = .ok (.bipush 10, 2) := by decide +kernel
theorem dX6_latest_6 : decode cX6_latest 6 = .ok (.iadd, 1) := by decide +kernel
theorem dX6_latest_7 : decode cX6_latest 7 = .ok (.iconst 1, 1) := by decide +kernel
theorem dX6_latest_8 : decode cX6_latest 8 = .ok (.isub, 1) := by decide +kernel
theorem dX6_latest_9 : decode cX6_latest 9 = .ok (.istore_n 2, 1) := by decide +kernel
theorem dX6_latest_10 : decode cX6_latest 10 = .ok (.aload_n 0, 1) := by decide +kernel
theorem dX6_latest_11 : decode cX6_latest 11 = .ok (.getfield 25, 3) := by decide +kernel
theorem dX6_latest_14 : decode cX6_latest 14 = .ok (.iload_n 2, 1) := by decide +kernel
theorem dX6_latest_15 : decode cX6_latest 15 = .ok (.baload, 1) := by decide +kernel
theorem dX6_latest_16 : decode cX6_latest 16 = .ok (.ifCond .ne 9, 3) := by decide +kernel
theorem dX6_latest_19 : decode cX6_latest 19 = .ok (.iinc 2 (-1), 3) := by decide +kernel
theorem dX6_latest_22 : decode cX6_latest 22 = .ok (.goto (-12), 3) := by decide +kernel
theorem dX6_latest_25 : decode cX6_latest 25 = .ok (.iload_n 2, 1) := by decide +kernel
theorem dX6_latest_26 : decode cX6_latest 26 = .ok (.ireturn, 1) := by decide +kernel
theorem dX6_content_0 : decode cX6_content 0 = .ok (.iconst 0, 1) := by decide +kernel
theorem dX6_content_1 : decode cX6_content 1 = .ok (.istore_n 2, 1) := by decide +kernel
theorem dX6_content_2 : decode cX6_content 2 = .ok (.iload_n 1, 1) := by decide +kernel
theorem dX6_content_3 : decode cX6_content 3 = .ok (.istore_n 3, 1) := by decide +kernel
theorem dX6_content_4 : decode cX6_content 4 = .ok (.aload_n 0, 1) := by decide +kernel
theorem dX6_content_5 : decode cX6_content 5 = .ok (.getfield 41, 3) := by decide +kernel
theorem dX6_content_8 : decode cX6_content 8 = .ok (.aload_n 0, 1) := by decide +kernel
theorem dX6_content_9 : decode cX6_content 9 = .ok (.getfield 32, 3) := by decide +kernel
theorem dX6_content_12 : decode cX6_content 12 = .ok (.iload_n 3, 1) := by decide +kernel
theorem dX6_content_13 : decode cX6_content 13 = .ok (.iaload, 1) := by decide +kernel
theorem dX6_content_14 : decode cX6_content 14 = .ok (.baload, 1) := by decide +kernel
theorem dX6_content_15 : decode cX6_content 15 = .ok (.ifCond .eq 27, 3) := by decide +kernel
theorem dX6_content_18 : decode cX6_content 18 = .ok (.iload_n 2, 1) := by decide +kernel
theorem dX6_content_19 : decode cX6_content 19 = .ok (.aload_n 0, 1) := by decide +kernel
theorem dX6_content_20 : decode cX6_content 20 = .ok (.getfield 44, 3) := by decide +kernel
theorem dX6_content_23 : decode cX6_content 23 = .ok (.aload_n 0, 1) := by decide +kernel
theorem dX6_content_24 : decode cX6_content 24 = .ok (.getfield 32, 3) := by decide +kernel
theorem dX6_content_27 : decode cX6_content 27 = .ok (.iload_n 3, 1) := by decide +kernel
theorem dX6_content_28 : decode cX6_content 28 = .ok (.iaload, 1) := by decide +kernel
theorem dX6_content_29 : decode cX6_content 29 = .ok (.iaload, 1) := by decide +kernel
theorem dX6_content_30 : decode cX6_content 30 = .ok (.iadd, 1) := by decide +kernel
theorem dX6_content_31 : decode cX6_content 31 = .ok (.istore_n 2, 1) := by decide +kernel
theorem dX6_content_32 : decode cX6_content 32 = .ok (.aload_n 0, 1) := by decide +kernel
theorem dX6_content_33 : decode cX6_content 33 = .ok (.getfield 35, 3) := by decide +kernel
theorem dX6_content_36 : decode cX6_content 36 = .ok (.iload_n 3, 1) := by decide +kernel
theorem dX6_content_37 : decode cX6_content 37 = .ok (.iaload, 1) := by decide +kernel
theorem dX6_content_38 : decode cX6_content 38 = .ok (.istore_n 3, 1) := by decide +kernel
theorem dX6_content_39 : decode cX6_content 39 = .ok (.goto (-35), 3) := by decide +kernel
theorem dX6_content_42 : decode cX6_content 42 = .ok (.iload_n 2, 1) := by decide +kernel
theorem dX6_content_43 : decode cX6_content 43 = .ok (.aload_n 0, 1) := by decide +kernel
theorem dX6_content_44 : decode cX6_content 44 = .ok (.getfield 44, 3) := by decide +kernel
theorem dX6_content_47 : decode cX6_content 47 = .ok (.aload_n 0, 1) := by decide +kernel
theorem dX6_content_48 : decode cX6_content 48 = .ok (.getfield 32, 3) := by decide +kernel
theorem dX6_content_51 : decode cX6_content 51 = .ok (.iload_n 3, 1) := by decide +kernel
theorem dX6_content_52 : decode cX6_content 52 = .ok (.iaload, 1) := by decide +kernel
theorem dX6_content_53 : decode cX6_content 53 = .ok (.iaload, 1) := by decide +kernel
theorem dX6_content_54 : decode cX6_content 54 = .ok (.iadd, 1) := by decide +kernel
theorem dX6_content_55 : decode cX6_content 55 = .ok (.ireturn, 1) := by decide +kernel
theorem dX6_unitFor_0 : decode cX6_unitFor 0 = .ok (.iconst (-1), 1) := by decide +kernel
theorem dX6_unitFor_1 : decode cX6_unitFor 1 = .ok (.istore_n 3, 1) := by decide +kernel
theorem dX6_unitFor_2 : decode cX6_unitFor 2 = .ok (.iconst 0, 1) := by decide +kernel
theorem dX6_unitFor_3 : decode cX6_unitFor 3 = .ok (.istore 4, 2) := by decide +kernel
theorem dX6_unitFor_5 : decode cX6_unitFor 5 = .ok (.iload 4, 2) := by decide +kernel
theorem dX6_unitFor_7 : decode cX6_unitFor 7 = .ok (.aload_n 0, 1) := by decide +kernel
theorem dX6_unitFor_8 : decode cX6_unitFor 8 = .ok (.getfield 113, 3) := by decide +kernel
theorem dX6_unitFor_11 : decode cX6_unitFor 11 = .ok (.if_icmp .ge 48, 3) := by decide +kernel
theorem dX6_unitFor_14 : decode cX6_unitFor 14 = .ok (.aload_n 0, 1) := by decide +kernel
theorem dX6_unitFor_15 : decode cX6_unitFor 15 = .ok (.getfield 38, 3) := by decide +kernel
theorem dX6_unitFor_18 : decode cX6_unitFor 18 = .ok (.iload 4, 2) := by decide +kernel
theorem dX6_unitFor_20 : decode cX6_unitFor 20 = .ok (.baload, 1) := by decide +kernel
theorem dX6_unitFor_21 : decode cX6_unitFor 21 = .ok (.ifCond .eq 30, 3) := by decide +kernel
theorem dX6_unitFor_24 : decode cX6_unitFor 24 = .ok (.aload_n 0, 1) := by decide +kernel
theorem dX6_unitFor_25 : decode cX6_unitFor 25 = .ok (.getfield 41, 3) := by decide +kernel
theorem dX6_unitFor_28 : decode cX6_unitFor 28 = .ok (.iload 4, 2) := by decide +kernel
theorem dX6_unitFor_30 : decode cX6_unitFor 30 = .ok (.baload, 1) := by decide +kernel
theorem dX6_unitFor_31 : decode cX6_unitFor 31 = .ok (.iload_n 1, 1) := by decide +kernel
theorem dX6_unitFor_32 : decode cX6_unitFor 32 = .ok (.if_icmp .ne 19, 3) := by decide +kernel
theorem dX6_unitFor_35 : decode cX6_unitFor 35 = .ok (.aload_n 0, 1) := by decide +kernel
theorem dX6_unitFor_36 : decode cX6_unitFor 36 = .ok (.getfield 44, 3) := by decide +kernel
theorem dX6_unitFor_39 : decode cX6_unitFor 39 = .ok (.iload 4, 2) := by decide +kernel
theorem dX6_unitFor_41 : decode cX6_unitFor 41 = .ok (.iaload, 1) := by decide +kernel
theorem dX6_unitFor_42 : decode cX6_unitFor 42 = .ok (.iload_n 2, 1) := by decide +kernel
theorem dX6_unitFor_43 : decode cX6_unitFor 43 = .ok (.if_icmp .ne 8, 3) := by decide +kernel
theorem dX6_unitFor_46 : decode cX6_unitFor 46 = .ok (.iload 4, 2) := by decide +kernel
theorem dX6_unitFor_48 : decode cX6_unitFor 48 = .ok (.goto 4, 3) := by decide +kernel
theorem dX6_unitFor_51 : decode cX6_unitFor 51 = .ok (.iload_n 3, 1) := by decide +kernel
theorem dX6_unitFor_52 : decode cX6_unitFor 52 = .ok (.istore_n 3, 1) := by decide +kernel
theorem dX6_unitFor_53 : decode cX6_unitFor 53 = .ok (.iinc 4 1, 3) := by decide +kernel
theorem dX6_unitFor_56 : decode cX6_unitFor 56 = .ok (.goto (-51), 3) := by decide +kernel
theorem dX6_unitFor_59 : decode cX6_unitFor 59 = .ok (.iload_n 3, 1) := by decide +kernel
theorem dX6_unitFor_60 : decode cX6_unitFor 60 = .ok (.ireturn, 1) := by decide +kernel
theorem dX6_adds_0 : decode cX6_adds 0 = .ok (.bipush 10, 2) := by decide +kernel
theorem dX6_adds_2 : decode cX6_adds 2 = .ok (.iload_n 1, 1) := by decide +kernel
theorem dX6_adds_3 : decode cX6_adds 3 = .ok (.imul, 1) := by decide +kernel
theorem dX6_adds_4 : decode cX6_adds 4 = .ok (.aload_n 0, 1) := by decide +kernel
theorem dX6_adds_5 : decode cX6_adds 5 = .ok (.getfield 22, 3) := by decide +kernel
theorem dX6_adds_8 : decode cX6_adds 8 = .ok (.iload_n 1, 1) := by decide +kernel
theorem dX6_adds_9 : decode cX6_adds 9 = .ok (.iaload, 1) := by decide +kernel
theorem dX6_adds_10 : decode cX6_adds 10 = .ok (.iadd, 1) := by decide +kernel
theorem dX6_adds_11 : decode cX6_adds 11 = .ok (.istore 6, 2) := by decide +kernel
theorem dX6_adds_13 : decode cX6_adds 13 = .ok (.aload_n 0, 1) := by decide +kernel
theorem dX6_adds_14 : decode cX6_adds 14 = .ok (.iload_n 3, 1) := by decide +kernel
theorem dX6_adds_15 : decode cX6_adds 15 = .ok (.iload 4, 2) := by decide +kernel
theorem dX6_adds_17 : decode cX6_adds 17 = .ok (.invokevirtual 116, 3) := by decide +kernel
theorem dX6_adds_20 : decode cX6_adds 20 = .ok (.istore 7, 2) := by decide +kernel
theorem dX6_adds_22 : decode cX6_adds 22 = .ok (.iload 7, 2) := by decide +kernel
theorem dX6_adds_24 : decode cX6_adds 24 = .ok (.iconst (-1), 1) := by decide +kernel
theorem dX6_adds_25 : decode cX6_adds 25 = .ok (.if_icmp .ne 7, 3) := by decide +kernel
theorem dX6_adds_28 : decode cX6_adds 28 = .ok (.iconst 1, 1) := by decide +kernel
theorem dX6_adds_29 : decode cX6_adds 29 = .ok (.goto 4, 3) := by decide +kernel
theorem dX6_adds_32 : decode cX6_adds 32 = .ok (.iconst 0, 1) := by decide +kernel
theorem dX6_adds_33 : decode cX6_adds 33 = .ok (.istore 8, 2) := by decide +kernel
theorem dX6_adds_35 : decode cX6_adds 35 = .ok (.iload 8, 2) := by decide +kernel
theorem dX6_adds_37 : decode cX6_adds 37 = .ok (.ifCond .eq 44, 3) := by decide +kernel
theorem dX6_adds_40 : decode cX6_adds 40 = .ok (.aload_n 0, 1) := by decide +kernel
theorem dX6_adds_41 : decode cX6_adds 41 = .ok (.getfield 113, 3) := by decide +kernel
theorem dX6_adds_44 : decode cX6_adds 44 = .ok (.istore 7, 2) := by decide +kernel
theorem dX6_adds_46 : decode cX6_adds 46 = .ok (.aload_n 0, 1) := by decide +kernel
theorem dX6_adds_47 : decode cX6_adds 47 = .ok (.getfield 38, 3) := by decide +kernel
theorem dX6_adds_50 : decode cX6_adds 50 = .ok (.iload 7, 2) := by decide +kernel
theorem dX6_adds_52 : decode cX6_adds 52 = .ok (.iconst 1, 1) := by decide +kernel
theorem dX6_adds_53 : decode cX6_adds 53 = .ok (.bastore, 1) := by decide +kernel
theorem dX6_adds_54 : decode cX6_adds 54 = .ok (.aload_n 0, 1) := by decide +kernel
theorem dX6_adds_55 : decode cX6_adds 55 = .ok (.getfield 41, 3) := by decide +kernel
theorem dX6_adds_58 : decode cX6_adds 58 = .ok (.iload 7, 2) := by decide +kernel
theorem dX6_adds_60 : decode cX6_adds 60 = .ok (.iload_n 3, 1) := by decide +kernel
theorem dX6_adds_61 : decode cX6_adds 61 = .ok (.bastore, 1) := by decide +kernel
theorem dX6_adds_62 : decode cX6_adds 62 = .ok (.aload_n 0, 1) := by decide +kernel
theorem dX6_adds_63 : decode cX6_adds 63 = .ok (.getfield 44, 3) := by decide +kernel
theorem dX6_adds_66 : decode cX6_adds 66 = .ok (.iload 7, 2) := by decide +kernel
theorem dX6_adds_68 : decode cX6_adds 68 = .ok (.iload 4, 2) := by decide +kernel
theorem dX6_adds_70 : decode cX6_adds 70 = .ok (.iastore, 1) := by decide +kernel
theorem dX6_adds_71 : decode cX6_adds 71 = .ok (.aload_n 0, 1) := by decide +kernel
theorem dX6_adds_72 : decode cX6_adds 72 = .ok (.dup, 1) := by decide +kernel
theorem dX6_adds_73 : decode cX6_adds 73 = .ok (.getfield 113, 3) := by decide +kernel
theorem dX6_adds_76 : decode cX6_adds 76 = .ok (.iconst 1, 1) := by decide +kernel
theorem dX6_adds_77 : decode cX6_adds 77 = .ok (.iadd, 1) := by decide +kernel
theorem dX6_adds_78 : decode cX6_adds 78 = .ok (.putfield 113, 3) := by decide +kernel
theorem dX6_adds_81 : decode cX6_adds 81 = .ok (.aload_n 0, 1) := by decide +kernel
theorem dX6_adds_82 : decode cX6_adds 82 = .ok (.getfield 47, 3) := by decide +kernel
theorem dX6_adds_85 : decode cX6_adds 85 = .ok (.iload 7, 2) := by decide +kernel
theorem dX6_adds_87 : decode cX6_adds 87 = .ok (.aload_n 0, 1) := by decide +kernel
theorem dX6_adds_88 : decode cX6_adds 88 = .ok (.getfield 47, 3) := by decide +kernel
theorem dX6_adds_91 : decode cX6_adds 91 = .ok (.iload 7, 2) := by decide +kernel
theorem dX6_adds_93 : decode cX6_adds 93 = .ok (.iaload, 1) := by decide +kernel
theorem dX6_adds_94 : decode cX6_adds 94 = .ok (.aload_n 0, 1) := by decide +kernel
theorem dX6_adds_95 : decode cX6_adds 95 = .ok (.getfield 19, 3) := by decide +kernel
theorem dX6_adds_98 : decode cX6_adds 98 = .ok (.iload_n 1, 1) := by decide +kernel
theorem dX6_adds_99 : decode cX6_adds 99 = .ok (.iaload, 1) := by decide +kernel
theorem dX6_adds_100 : decode cX6_adds 100 = .ok (.if_icmp .le 13, 3) := by decide +kernel
theorem dX6_adds_103 : decode cX6_adds 103 = .ok (.aload_n 0, 1) := by decide +kernel
theorem dX6_adds_104 : decode cX6_adds 104 = .ok (.getfield 47, 3) := by decide +kernel
theorem dX6_adds_107 : decode cX6_adds 107 = .ok (.iload 7, 2) := by decide +kernel
theorem dX6_adds_109 : decode cX6_adds 109 = .ok (.iaload, 1) := by decide +kernel
theorem dX6_adds_110 : decode cX6_adds 110 = .ok (.goto 9, 3) := by decide +kernel
theorem dX6_adds_113 : decode cX6_adds 113 = .ok (.aload_n 0, 1) := by decide +kernel
theorem dX6_adds_114 : decode cX6_adds 114 = .ok (.getfield 19, 3) := by decide +kernel
theorem dX6_adds_117 : decode cX6_adds 117 = .ok (.iload_n 1, 1) := by decide +kernel
theorem dX6_adds_118 : decode cX6_adds 118 = .ok (.iaload, 1) := by decide +kernel
theorem dX6_adds_119 : decode cX6_adds 119 = .ok (.iastore, 1) := by decide +kernel
theorem dX6_adds_120 : decode cX6_adds 120 = .ok (.iload 8, 2) := by decide +kernel
theorem dX6_adds_122 : decode cX6_adds 122 = .ok (.ifCond .eq 15, 3) := by decide +kernel
theorem dX6_adds_125 : decode cX6_adds 125 = .ok (.aload_n 0, 1) := by decide +kernel
theorem dX6_adds_126 : decode cX6_adds 126 = .ok (.iload 7, 2) := by decide +kernel
theorem dX6_adds_128 : decode cX6_adds 128 = .ok (.iload 4, 2) := by decide +kernel
theorem dX6_adds_130 : decode cX6_adds 130 = .ok (.invokevirtual 120, 3) := by decide +kernel
theorem dX6_adds_133 : decode cX6_adds 133 = .ok (.pop, 1) := by decide +kernel
theorem dX6_adds_134 : decode cX6_adds 134 = .ok (.goto 26, 3) := by decide +kernel
theorem dX6_adds_137 : decode cX6_adds 137 = .ok (.aload_n 0, 1) := by decide +kernel
theorem dX6_adds_138 : decode cX6_adds 138 = .ok (.iload 7, 2) := by decide +kernel
theorem dX6_adds_140 : decode cX6_adds 140 = .ok (.invokevirtual 95, 3) := by decide +kernel
theorem dX6_adds_143 : decode cX6_adds 143 = .ok (.iconst (-1), 1) := by decide +kernel
theorem dX6_adds_144 : decode cX6_adds 144 = .ok (.if_icmp .eq 16, 3) := by decide +kernel
theorem dX6_adds_147 : decode cX6_adds 147 = .ok (.aload_n 0, 1) := by decide +kernel
theorem dX6_adds_148 : decode cX6_adds 148 = .ok (.iload 7, 2) := by decide +kernel
theorem dX6_adds_150 : decode cX6_adds 150 = .ok (.aload_n 0, 1) := by decide +kernel
theorem dX6_adds_151 : decode cX6_adds 151 = .ok (.iload 7, 2) := by decide +kernel
theorem dX6_adds_153 : decode cX6_adds 153 = .ok (.invokevirtual 123, 3) := by decide +kernel
theorem dX6_adds_156 : decode cX6_adds 156 = .ok (.invokevirtual 120, 3) := by decide +kernel
theorem dX6_adds_159 : decode cX6_adds 159 = .ok (.pop, 1) := by decide +kernel
theorem dX6_adds_160 : decode cX6_adds 160 = .ok (.aload_n 0, 1) := by decide +kernel
theorem dX6_adds_161 : decode cX6_adds 161 = .ok (.getfield 25, 3) := by decide +kernel
theorem dX6_adds_164 : decode cX6_adds 164 = .ok (.iload 6, 2) := by decide +kernel
theorem dX6_adds_166 : decode cX6_adds 166 = .ok (.iconst 1, 1) := by decide +kernel
theorem dX6_adds_167 : decode cX6_adds 167 = .ok (.bastore, 1) := by decide +kernel
theorem dX6_adds_168 : decode cX6_adds 168 = .ok (.aload_n 0, 1) := by decide +kernel
theorem dX6_adds_169 : decode cX6_adds 169 = .ok (.getfield 29, 3) := by decide +kernel
theorem dX6_adds_172 : decode cX6_adds 172 = .ok (.iload 6, 2) := by decide +kernel
theorem dX6_adds_174 : decode cX6_adds 174 = .ok (.iload_n 2, 1) := by decide +kernel
theorem dX6_adds_175 : decode cX6_adds 175 = .ok (.iastore, 1) := by decide +kernel
theorem dX6_adds_176 : decode cX6_adds 176 = .ok (.aload_n 0, 1) := by decide +kernel
theorem dX6_adds_177 : decode cX6_adds 177 = .ok (.getfield 32, 3) := by decide +kernel
theorem dX6_adds_180 : decode cX6_adds 180 = .ok (.iload 6, 2) := by decide +kernel
theorem dX6_adds_182 : decode cX6_adds 182 = .ok (.iload 7, 2) := by decide +kernel
theorem dX6_adds_184 : decode cX6_adds 184 = .ok (.iastore, 1) := by decide +kernel
theorem dX6_adds_185 : decode cX6_adds 185 = .ok (.aload_n 0, 1) := by decide +kernel
theorem dX6_adds_186 : decode cX6_adds 186 = .ok (.getfield 35, 3) := by decide +kernel
theorem dX6_adds_189 : decode cX6_adds 189 = .ok (.iload 6, 2) := by decide +kernel
theorem dX6_adds_191 : decode cX6_adds 191 = .ok (.iload 5, 2) := by decide +kernel
theorem dX6_adds_193 : decode cX6_adds 193 = .ok (.iastore, 1) := by decide +kernel
theorem dX6_adds_194 : decode cX6_adds 194 = .ok (.aload_n 0, 1) := by decide +kernel
theorem dX6_adds_195 : decode cX6_adds 195 = .ok (.getfield 22, 3) := by decide +kernel
theorem dX6_adds_198 : decode cX6_adds 198 = .ok (.iload_n 1, 1) := by decide +kernel
theorem dX6_adds_199 : decode cX6_adds 199 = .ok (.dup2, 1) := by decide +kernel
theorem dX6_adds_200 : decode cX6_adds 200 = .ok (.iaload, 1) := by decide +kernel
theorem dX6_adds_201 : decode cX6_adds 201 = .ok (.iconst 1, 1) := by decide +kernel
theorem dX6_adds_202 : decode cX6_adds 202 = .ok (.iadd, 1) := by decide +kernel
theorem dX6_adds_203 : decode cX6_adds 203 = .ok (.iastore, 1) := by decide +kernel
theorem dX6_adds_204 : decode cX6_adds 204 = .ok (.aload_n 0, 1) := by decide +kernel
theorem dX6_adds_205 : decode cX6_adds 205 = .ok (.getfield 22, 3) := by decide +kernel
theorem dX6_adds_208 : decode cX6_adds 208 = .ok (.iload_n 1, 1) := by decide +kernel
theorem dX6_adds_209 : decode cX6_adds 209 = .ok (.iaload, 1) := by decide +kernel
theorem dX6_adds_210 : decode cX6_adds 210 = .ok (.iconst 1, 1) := by decide +kernel
theorem dX6_adds_211 : decode cX6_adds 211 = .ok (.isub, 1) := by decide +kernel
theorem dX6_adds_212 : decode cX6_adds 212 = .ok (.ireturn, 1) := by decide +kernel
theorem dX6_deposit_0 : decode cX6_deposit 0 = .ok (.iload_n 2, 1) := by decide +kernel
theorem dX6_deposit_1 : decode cX6_deposit 1 = .ok (.iconst 0, 1) := by decide +kernel
theorem dX6_deposit_2 : decode cX6_deposit 2 = .ok (.ldc 126, 2) := by decide +kernel
theorem dX6_deposit_4 : decode cX6_deposit 4 = .ok (.invokestatic 69, 3) := by decide +kernel
theorem dX6_deposit_7 : decode cX6_deposit 7 = .ok (.ifCond .eq 16, 3) := by decide +kernel
theorem dX6_deposit_10 : decode cX6_deposit 10 = .ok (.iload_n 3, 1) := by decide +kernel
theorem dX6_deposit_11 : decode cX6_deposit 11 = .ok (.iconst 1, 1) := by decide +kernel
theorem dX6_deposit_12 : decode cX6_deposit 12 = .ok (.iconst 3, 1) := by decide +kernel
theorem dX6_deposit_13 : decode cX6_deposit 13 = .ok (.invokestatic 69, 3) := by decide +kernel
theorem dX6_deposit_16 : decode cX6_deposit 16 = .ok (.ifCond .eq 7, 3) := by decide +kernel
theorem dX6_deposit_19 : decode cX6_deposit 19 = .ok (.iconst 1, 1) := by decide +kernel
theorem dX6_deposit_20 : decode cX6_deposit 20 = .ok (.goto 4, 3) := by decide +kernel
theorem dX6_deposit_23 : decode cX6_deposit 23 = .ok (.iconst 0, 1) := by decide +kernel
theorem dX6_deposit_24 : decode cX6_deposit 24 = .ok (.istore 4, 2) := by decide +kernel
theorem dX6_deposit_26 : decode cX6_deposit 26 = .ok (.aload_n 0, 1) := by decide +kernel
theorem dX6_deposit_27 : decode cX6_deposit 27 = .ok (.iload 4, 2) := by decide +kernel
theorem dX6_deposit_29 : decode cX6_deposit 29 = .ok (.ifCond .ne 7, 3) := by decide +kernel
theorem dX6_deposit_32 : decode cX6_deposit 32 = .ok (.iconst 1, 1) := by decide +kernel
theorem dX6_deposit_33 : decode cX6_deposit 33 = .ok (.goto 29, 3) := by decide +kernel
theorem dX6_deposit_36 : decode cX6_deposit 36 = .ok (.aload_n 0, 1) := by decide +kernel
theorem dX6_deposit_37 : decode cX6_deposit 37 = .ok (.iload_n 1, 1) := by decide +kernel
theorem dX6_deposit_38 : decode cX6_deposit 38 = .ok (.invokevirtual 77, 3) := by decide +kernel
theorem dX6_deposit_41 : decode cX6_deposit 41 = .ok (.ifCond .ne 7, 3) := by decide +kernel
theorem dX6_deposit_44 : decode cX6_deposit 44 = .ok (.iconst 2, 1) := by decide +kernel
theorem dX6_deposit_45 : decode cX6_deposit 45 = .ok (.goto 17, 3) := by decide +kernel
theorem dX6_deposit_48 : decode cX6_deposit 48 = .ok (.aload_n 0, 1) := by decide +kernel
theorem dX6_deposit_49 : decode cX6_deposit 49 = .ok (.getfield 107, 3) := by decide +kernel
theorem dX6_deposit_52 : decode cX6_deposit 52 = .ok (.bipush 10, 2) := by decide +kernel
theorem dX6_deposit_54 : decode cX6_deposit 54 = .ok (.if_icmp .ne 7, 3) := by decide +kernel
theorem dX6_deposit_57 : decode cX6_deposit 57 = .ok (.iconst 3, 1) := by decide +kernel
theorem dX6_deposit_58 : decode cX6_deposit 58 = .ok (.goto 4, 3) := by decide +kernel
theorem dX6_deposit_61 : decode cX6_deposit 61 = .ok (.iconst 0, 1) := by decide +kernel
theorem dX6_deposit_62 : decode cX6_deposit 62 = .ok (.invokevirtual 73, 3) := by decide +kernel
theorem dX6_deposit_65 : decode cX6_deposit 65 = .ok (.ifCond .eq 5, 3) := by decide +kernel
theorem dX6_deposit_68 : decode cX6_deposit 68 = .ok (.iconst 0, 1) := by decide +kernel
theorem dX6_deposit_69 : decode cX6_deposit 69 = .ok (.ireturn, 1) := by decide +kernel
theorem dX6_deposit_70 : decode cX6_deposit 70 = .ok (.aload_n 0, 1) := by decide +kernel
theorem dX6_deposit_71 : decode cX6_deposit 71 = .ok (.getfield 19, 3) := by decide +kernel
theorem dX6_deposit_74 : decode cX6_deposit 74 = .ok (.aload_n 0, 1) := by decide +kernel
theorem dX6_deposit_75 : decode cX6_deposit 75 = .ok (.getfield 107, 3) := by decide +kernel
theorem dX6_deposit_78 : decode cX6_deposit 78 = .ok (.iload_n 3, 1) := by decide +kernel
theorem dX6_deposit_79 : decode cX6_deposit 79 = .ok (.iastore, 1) := by decide +kernel
theorem dX6_deposit_80 : decode cX6_deposit 80 = .ok (.aload_n 0, 1) := by decide +kernel
theorem dX6_deposit_81 : decode cX6_deposit 81 = .ok (.aload_n 0, 1) := by decide +kernel
theorem dX6_deposit_82 : decode cX6_deposit 82 = .ok (.getfield 107, 3) := by decide +kernel
theorem dX6_deposit_85 : decode cX6_deposit 85 = .ok (.iload_n 1, 1) := by decide +kernel
theorem dX6_deposit_86 : decode cX6_deposit 86 = .ok (.iconst 0, 1) := by decide +kernel
theorem dX6_deposit_87 : decode cX6_deposit 87 = .ok (.iload_n 2, 1) := by decide +kernel
theorem dX6_deposit_88 : decode cX6_deposit 88 = .ok (.iconst (-1), 1) := by decide +kernel
theorem dX6_deposit_89 : decode cX6_deposit 89 = .ok (.invokevirtual 127, 3) := by decide +kernel
theorem dX6_deposit_92 : decode cX6_deposit 92 = .ok (.pop, 1) := by decide +kernel
theorem dX6_deposit_93 : decode cX6_deposit 93 = .ok (.aload_n 0, 1) := by decide +kernel
theorem dX6_deposit_94 : decode cX6_deposit 94 = .ok (.dup, 1) := by decide +kernel
theorem dX6_deposit_95 : decode cX6_deposit 95 = .ok (.getfield 107, 3) := by decide +kernel
theorem dX6_deposit_98 : decode cX6_deposit 98 = .ok (.iconst 1, 1) := by decide +kernel
theorem dX6_deposit_99 : decode cX6_deposit 99 = .ok (.iadd, 1) := by decide +kernel
theorem dX6_deposit_100 : decode cX6_deposit 100 = .ok (.putfield 107, 3) := by decide +kernel
theorem dX6_deposit_103 : decode cX6_deposit 103 = .ok (.aload_n 0, 1) := by decide +kernel
theorem dX6_deposit_104 : decode cX6_deposit 104 = .ok (.getfield 107, 3) := by decide +kernel
theorem dX6_deposit_107 : decode cX6_deposit 107 = .ok (.iconst 1, 1) := by decide +kernel
theorem dX6_deposit_108 : decode cX6_deposit 108 = .ok (.isub, 1) := by decide +kernel
theorem dX6_deposit_109 : decode cX6_deposit 109 = .ok (.ireturn, 1) := by decide +kernel
theorem dX6_revise_0 : decode cX6_revise 0 = .ok (.aload_n 0, 1) := by decide +kernel
theorem dX6_revise_1 : decode cX6_revise 1 = .ok (.iload_n 2, 1) := by decide +kernel
theorem dX6_revise_2 : decode cX6_revise 2 = .ok (.iconst 0, 1) := by decide +kernel
theorem dX6_revise_3 : decode cX6_revise 3 = .ok (.ldc 126, 2) := by decide +kernel
theorem dX6_revise_5 : decode cX6_revise 5 = .ok (.invokestatic 69, 3) := by decide +kernel
theorem dX6_revise_8 : decode cX6_revise 8 = .ok (.ifCond .ne 7, 3) := by decide +kernel
theorem dX6_revise_11 : decode cX6_revise 11 = .ok (.iconst 1, 1) := by decide +kernel
theorem dX6_revise_12 : decode cX6_revise 12 = .ok (.goto 31, 3) := by decide +kernel
theorem dX6_revise_15 : decode cX6_revise 15 = .ok (.aload_n 0, 1) := by decide +kernel
theorem dX6_revise_16 : decode cX6_revise 16 = .ok (.iload_n 1, 1) := by decide +kernel
theorem dX6_revise_17 : decode cX6_revise 17 = .ok (.invokevirtual 110, 3) := by decide +kernel
theorem dX6_revise_20 : decode cX6_revise 20 = .ok (.ifCond .ne 7, 3) := by decide +kernel
theorem dX6_revise_23 : decode cX6_revise 23 = .ok (.iconst 2, 1) := by decide +kernel
theorem dX6_revise_24 : decode cX6_revise 24 = .ok (.goto 19, 3) := by decide +kernel
theorem dX6_revise_27 : decode cX6_revise 27 = .ok (.aload_n 0, 1) := by decide +kernel
theorem dX6_revise_28 : decode cX6_revise 28 = .ok (.getfield 22, 3) := by decide +kernel
theorem dX6_revise_31 : decode cX6_revise 31 = .ok (.iload_n 1, 1) := by decide +kernel
theorem dX6_revise_32 : decode cX6_revise 32 = .ok (.iaload, 1) := by decide +kernel
theorem dX6_revise_33 : decode cX6_revise 33 = .ok (.bipush 10, 2) := by decide +kernel
theorem dX6_revise_35 : decode cX6_revise 35 = .ok (.if_icmp .ne 7, 3) := by decide +kernel
theorem dX6_revise_38 : decode cX6_revise 38 = .ok (.iconst 3, 1) := by decide +kernel
theorem dX6_revise_39 : decode cX6_revise 39 = .ok (.goto 4, 3) := by decide +kernel
theorem dX6_revise_42 : decode cX6_revise 42 = .ok (.iconst 0, 1) := by decide +kernel
theorem dX6_revise_43 : decode cX6_revise 43 = .ok (.invokevirtual 73, 3) := by decide +kernel
theorem dX6_revise_46 : decode cX6_revise 46 = .ok (.ifCond .eq 5, 3) := by decide +kernel
theorem dX6_revise_49 : decode cX6_revise 49 = .ok (.iconst 0, 1) := by decide +kernel
theorem dX6_revise_50 : decode cX6_revise 50 = .ok (.ireturn, 1) := by decide +kernel
theorem dX6_revise_51 : decode cX6_revise 51 = .ok (.aload_n 0, 1) := by decide +kernel
theorem dX6_revise_52 : decode cX6_revise 52 = .ok (.iload_n 1, 1) := by decide +kernel
theorem dX6_revise_53 : decode cX6_revise 53 = .ok (.invokevirtual 131, 3) := by decide +kernel
theorem dX6_revise_56 : decode cX6_revise 56 = .ok (.istore 4, 2) := by decide +kernel
theorem dX6_revise_58 : decode cX6_revise 58 = .ok (.aload_n 0, 1) := by decide +kernel
theorem dX6_revise_59 : decode cX6_revise 59 = .ok (.iload_n 1, 1) := by decide +kernel
theorem dX6_revise_60 : decode cX6_revise 60 = .ok (.aload_n 0, 1) := by decide +kernel
theorem dX6_revise_61 : decode cX6_revise 61 = .ok (.getfield 29, 3) := by decide +kernel
theorem dX6_revise_64 : decode cX6_revise 64 = .ok (.iload 4, 2) := by decide +kernel
theorem dX6_revise_66 : decode cX6_revise 66 = .ok (.iaload, 1) := by decide +kernel
theorem dX6_revise_67 : decode cX6_revise 67 = .ok (.iload_n 3, 1) := by decide +kernel
theorem dX6_revise_68 : decode cX6_revise 68 = .ok (.iload_n 3, 1) := by decide +kernel
theorem dX6_revise_69 : decode cX6_revise 69 = .ok (.ifCond .eq 14, 3) := by decide +kernel
theorem dX6_revise_72 : decode cX6_revise 72 = .ok (.iload_n 2, 1) := by decide +kernel
theorem dX6_revise_73 : decode cX6_revise 73 = .ok (.aload_n 0, 1) := by decide +kernel
theorem dX6_revise_74 : decode cX6_revise 74 = .ok (.iload 4, 2) := by decide +kernel
theorem dX6_revise_76 : decode cX6_revise 76 = .ok (.invokevirtual 134, 3) := by decide +kernel
theorem dX6_revise_79 : decode cX6_revise 79 = .ok (.isub, 1) := by decide +kernel
theorem dX6_revise_80 : decode cX6_revise 80 = .ok (.goto 4, 3) := by decide +kernel
theorem dX6_revise_83 : decode cX6_revise 83 = .ok (.iload_n 2, 1) := by decide +kernel
theorem dX6_revise_84 : decode cX6_revise 84 = .ok (.iload 4, 2) := by decide +kernel
theorem dX6_revise_86 : decode cX6_revise 86 = .ok (.invokevirtual 127, 3) := by decide +kernel
theorem dX6_revise_89 : decode cX6_revise 89 = .ok (.ireturn, 1) := by decide +kernel
theorem dX6_canRead_0 : decode cX6_canRead 0 = .ok (.iconst 1, 1) := by decide +kernel
theorem dX6_canRead_1 : decode cX6_canRead 1 = .ok (.istore_n 2, 1) := by decide +kernel
theorem dX6_canRead_2 : decode cX6_canRead 2 = .ok (.iload_n 1, 1) := by decide +kernel
theorem dX6_canRead_3 : decode cX6_canRead 3 = .ok (.istore_n 3, 1) := by decide +kernel
theorem dX6_canRead_4 : decode cX6_canRead 4 = .ok (.iload_n 2, 1) := by decide +kernel
theorem dX6_canRead_5 : decode cX6_canRead 5 = .ok (.ifCond .eq 47, 3) := by decide +kernel
theorem dX6_canRead_8 : decode cX6_canRead 8 = .ok (.aload_n 0, 1) := by decide +kernel
theorem dX6_canRead_9 : decode cX6_canRead 9 = .ok (.getfield 41, 3) := by decide +kernel
theorem dX6_canRead_12 : decode cX6_canRead 12 = .ok (.aload_n 0, 1) := by decide +kernel
theorem dX6_canRead_13 : decode cX6_canRead 13 = .ok (.getfield 32, 3) := by decide +kernel
theorem dX6_canRead_16 : decode cX6_canRead 16 = .ok (.iload_n 3, 1) := by decide +kernel
theorem dX6_canRead_17 : decode cX6_canRead 17 = .ok (.iaload, 1) := by decide +kernel
theorem dX6_canRead_18 : decode cX6_canRead 18 = .ok (.baload, 1) := by decide +kernel
theorem dX6_canRead_19 : decode cX6_canRead 19 = .ok (.ifCond .eq 33, 3) := by decide +kernel
theorem dX6_canRead_22 : decode cX6_canRead 22 = .ok (.aload_n 0, 1) := by decide +kernel
theorem dX6_canRead_23 : decode cX6_canRead 23 = .ok (.aload_n 0, 1) := by decide +kernel
theorem dX6_canRead_24 : decode cX6_canRead 24 = .ok (.getfield 32, 3) := by decide +kernel
theorem dX6_canRead_27 : decode cX6_canRead 27 = .ok (.iload_n 3, 1) := by decide +kernel
theorem dX6_canRead_28 : decode cX6_canRead 28 = .ok (.iaload, 1) := by decide +kernel
theorem dX6_canRead_29 : decode cX6_canRead 29 = .ok (.invokevirtual 95, 3) := by decide +kernel
theorem dX6_canRead_32 : decode cX6_canRead 32 = .ok (.iconst (-1), 1) := by decide +kernel
theorem dX6_canRead_33 : decode cX6_canRead 33 = .ok (.if_icmp .eq 7, 3) := by decide +kernel
theorem dX6_canRead_36 : decode cX6_canRead 36 = .ok (.iconst 1, 1) := by decide +kernel
theorem dX6_canRead_37 : decode cX6_canRead 37 = .ok (.goto 4, 3) := by decide +kernel
theorem dX6_canRead_40 : decode cX6_canRead 40 = .ok (.iconst 0, 1) := by decide +kernel
theorem dX6_canRead_41 : decode cX6_canRead 41 = .ok (.istore_n 2, 1) := by decide +kernel
theorem dX6_canRead_42 : decode cX6_canRead 42 = .ok (.aload_n 0, 1) := by decide +kernel
theorem dX6_canRead_43 : decode cX6_canRead 43 = .ok (.getfield 35, 3) := by decide +kernel
theorem dX6_canRead_46 : decode cX6_canRead 46 = .ok (.iload_n 3, 1) := by decide +kernel
theorem dX6_canRead_47 : decode cX6_canRead 47 = .ok (.iaload, 1) := by decide +kernel
theorem dX6_canRead_48 : decode cX6_canRead 48 = .ok (.istore_n 3, 1) := by decide +kernel
theorem dX6_canRead_49 : decode cX6_canRead 49 = .ok (.goto (-45), 3) := by decide +kernel
theorem dX6_canRead_52 : decode cX6_canRead 52 = .ok (.iload_n 2, 1) := by decide +kernel
theorem dX6_canRead_53 : decode cX6_canRead 53 = .ok (.ifCond .eq 21, 3) := by decide +kernel
theorem dX6_canRead_56 : decode cX6_canRead 56 = .ok (.aload_n 0, 1) := by decide +kernel
theorem dX6_canRead_57 : decode cX6_canRead 57 = .ok (.aload_n 0, 1) := by decide +kernel
theorem dX6_canRead_58 : decode cX6_canRead 58 = .ok (.getfield 32, 3) := by decide +kernel
theorem dX6_canRead_61 : decode cX6_canRead 61 = .ok (.iload_n 3, 1) := by decide +kernel
theorem dX6_canRead_62 : decode cX6_canRead 62 = .ok (.iaload, 1) := by decide +kernel
theorem dX6_canRead_63 : decode cX6_canRead 63 = .ok (.invokevirtual 95, 3) := by decide +kernel
theorem dX6_canRead_66 : decode cX6_canRead 66 = .ok (.iconst (-1), 1) := by decide +kernel
theorem dX6_canRead_67 : decode cX6_canRead 67 = .ok (.if_icmp .eq 7, 3) := by decide +kernel
theorem dX6_canRead_70 : decode cX6_canRead 70 = .ok (.iconst 1, 1) := by decide +kernel
theorem dX6_canRead_71 : decode cX6_canRead 71 = .ok (.goto 4, 3) := by decide +kernel
theorem dX6_canRead_74 : decode cX6_canRead 74 = .ok (.iconst 0, 1) := by decide +kernel
theorem dX6_canRead_75 : decode cX6_canRead 75 = .ok (.ireturn, 1) := by decide +kernel
theorem dX6_reads_0 : decode cX6_reads 0 = .ok (.iconst 0, 1) := by decide +kernel
theorem dX6_reads_1 : decode cX6_reads 1 = .ok (.istore_n 2, 1) := by decide +kernel
theorem dX6_reads_2 : decode cX6_reads 2 = .ok (.iload_n 1, 1) := by decide +kernel
theorem dX6_reads_3 : decode cX6_reads 3 = .ok (.istore_n 3, 1) := by decide +kernel
theorem dX6_reads_4 : decode cX6_reads 4 = .ok (.aload_n 0, 1) := by decide +kernel
theorem dX6_reads_5 : decode cX6_reads 5 = .ok (.getfield 41, 3) := by decide +kernel
theorem dX6_reads_8 : decode cX6_reads 8 = .ok (.aload_n 0, 1) := by decide +kernel
theorem dX6_reads_9 : decode cX6_reads 9 = .ok (.getfield 32, 3) := by decide +kernel
theorem dX6_reads_12 : decode cX6_reads 12 = .ok (.iload_n 3, 1) := by decide +kernel
theorem dX6_reads_13 : decode cX6_reads 13 = .ok (.iaload, 1) := by decide +kernel
theorem dX6_reads_14 : decode cX6_reads 14 = .ok (.baload, 1) := by decide +kernel
theorem dX6_reads_15 : decode cX6_reads 15 = .ok (.ifCond .eq 26, 3) := by decide +kernel
theorem dX6_reads_18 : decode cX6_reads 18 = .ok (.iload_n 2, 1) := by decide +kernel
theorem dX6_reads_19 : decode cX6_reads 19 = .ok (.aload_n 0, 1) := by decide +kernel
theorem dX6_reads_20 : decode cX6_reads 20 = .ok (.aload_n 0, 1) := by decide +kernel
theorem dX6_reads_21 : decode cX6_reads 21 = .ok (.getfield 32, 3) := by decide +kernel
theorem dX6_reads_24 : decode cX6_reads 24 = .ok (.iload_n 3, 1) := by decide +kernel
theorem dX6_reads_25 : decode cX6_reads 25 = .ok (.iaload, 1) := by decide +kernel
theorem dX6_reads_26 : decode cX6_reads 26 = .ok (.invokevirtual 123, 3) := by decide +kernel
theorem dX6_reads_29 : decode cX6_reads 29 = .ok (.iadd, 1) := by decide +kernel
theorem dX6_reads_30 : decode cX6_reads 30 = .ok (.istore_n 2, 1) := by decide +kernel
theorem dX6_reads_31 : decode cX6_reads 31 = .ok (.aload_n 0, 1) := by decide +kernel
theorem dX6_reads_32 : decode cX6_reads 32 = .ok (.getfield 35, 3) := by decide +kernel
theorem dX6_reads_35 : decode cX6_reads 35 = .ok (.iload_n 3, 1) := by decide +kernel
theorem dX6_reads_36 : decode cX6_reads 36 = .ok (.iaload, 1) := by decide +kernel
theorem dX6_reads_37 : decode cX6_reads 37 = .ok (.istore_n 3, 1) := by decide +kernel
theorem dX6_reads_38 : decode cX6_reads 38 = .ok (.goto (-34), 3) := by decide +kernel
theorem dX6_reads_41 : decode cX6_reads 41 = .ok (.iload_n 2, 1) := by decide +kernel
theorem dX6_reads_42 : decode cX6_reads 42 = .ok (.aload_n 0, 1) := by decide +kernel
theorem dX6_reads_43 : decode cX6_reads 43 = .ok (.aload_n 0, 1) := by decide +kernel
theorem dX6_reads_44 : decode cX6_reads 44 = .ok (.getfield 32, 3) := by decide +kernel
theorem dX6_reads_47 : decode cX6_reads 47 = .ok (.iload_n 3, 1) := by decide +kernel
theorem dX6_reads_48 : decode cX6_reads 48 = .ok (.iaload, 1) := by decide +kernel
theorem dX6_reads_49 : decode cX6_reads 49 = .ok (.invokevirtual 123, 3) := by decide +kernel
theorem dX6_reads_52 : decode cX6_reads 52 = .ok (.iadd, 1) := by decide +kernel
theorem dX6_reads_53 : decode cX6_reads 53 = .ok (.ireturn, 1) := by decide +kernel
theorem dX6_convert_0 : decode cX6_convert 0 = .ok (.aload_n 0, 1) := by decide +kernel
theorem dX6_convert_1 : decode cX6_convert 1 = .ok (.iload_n 1, 1) := by decide +kernel
theorem dX6_convert_2 : decode cX6_convert 2 = .ok (.invokevirtual 110, 3) := by decide +kernel
theorem dX6_convert_5 : decode cX6_convert 5 = .ok (.ifCond .eq 15, 3) := by decide +kernel
theorem dX6_convert_8 : decode cX6_convert 8 = .ok (.aload_n 0, 1) := by decide +kernel
theorem dX6_convert_9 : decode cX6_convert 9 = .ok (.iload_n 2, 1) := by decide +kernel
theorem dX6_convert_10 : decode cX6_convert 10 = .ok (.invokevirtual 77, 3) := by decide +kernel
theorem dX6_convert_13 : decode cX6_convert 13 = .ok (.ifCond .eq 7, 3) := by decide +kernel
theorem dX6_convert_16 : decode cX6_convert 16 = .ok (.iconst 1, 1) := by decide +kernel
theorem dX6_convert_17 : decode cX6_convert 17 = .ok (.goto 4, 3) := by decide +kernel
theorem dX6_convert_20 : decode cX6_convert 20 = .ok (.iconst 0, 1) := by decide +kernel
theorem dX6_convert_21 : decode cX6_convert 21 = .ok (.istore_n 3, 1) := by decide +kernel
theorem dX6_convert_22 : decode cX6_convert 22 = .ok (.iload_n 3, 1) := by decide +kernel
theorem dX6_convert_23 : decode cX6_convert 23 = .ok (.ifCond .eq 11, 3) := by decide +kernel
theorem dX6_convert_26 : decode cX6_convert 26 = .ok (.aload_n 0, 1) := by decide +kernel
theorem dX6_convert_27 : decode cX6_convert 27 = .ok (.iload_n 1, 1) := by decide +kernel
theorem dX6_convert_28 : decode cX6_convert 28 = .ok (.invokevirtual 131, 3) := by decide +kernel
theorem dX6_convert_31 : decode cX6_convert 31 = .ok (.goto 4, 3) := by decide +kernel
theorem dX6_convert_34 : decode cX6_convert 34 = .ok (.iconst 0, 1) := by decide +kernel
theorem dX6_convert_35 : decode cX6_convert 35 = .ok (.istore 4, 2) := by decide +kernel
theorem dX6_convert_37 : decode cX6_convert 37 = .ok (.iload_n 3, 1) := by decide +kernel
theorem dX6_convert_38 : decode cX6_convert 38 = .ok (.ifCond .eq 54, 3) := by decide +kernel
theorem dX6_convert_41 : decode cX6_convert 41 = .ok (.aload_n 0, 1) := by decide +kernel
theorem dX6_convert_42 : decode cX6_convert 42 = .ok (.getfield 29, 3) := by decide +kernel
theorem dX6_convert_45 : decode cX6_convert 45 = .ok (.iload 4, 2) := by decide +kernel
theorem dX6_convert_47 : decode cX6_convert 47 = .ok (.iaload, 1) := by decide +kernel
theorem dX6_convert_48 : decode cX6_convert 48 = .ok (.iload_n 2, 1) := by decide +kernel
theorem dX6_convert_49 : decode cX6_convert 49 = .ok (.if_icmp .eq 43, 3) := by decide +kernel
theorem dX6_convert_52 : decode cX6_convert 52 = .ok (.aload_n 0, 1) := by decide +kernel
theorem dX6_convert_53 : decode cX6_convert 53 = .ok (.aload_n 0, 1) := by decide +kernel
theorem dX6_convert_54 : decode cX6_convert 54 = .ok (.getfield 29, 3) := by decide +kernel
theorem dX6_convert_57 : decode cX6_convert 57 = .ok (.iload 4, 2) := by decide +kernel
theorem dX6_convert_59 : decode cX6_convert 59 = .ok (.iaload, 1) := by decide +kernel
theorem dX6_convert_60 : decode cX6_convert 60 = .ok (.iload_n 2, 1) := by decide +kernel
theorem dX6_convert_61 : decode cX6_convert 61 = .ok (.invokevirtual 80, 3) := by decide +kernel
theorem dX6_convert_64 : decode cX6_convert 64 = .ok (.iconst (-1), 1) := by decide +kernel
theorem dX6_convert_65 : decode cX6_convert 65 = .ok (.if_icmp .eq 27, 3) := by decide +kernel
theorem dX6_convert_68 : decode cX6_convert 68 = .ok (.aload_n 0, 1) := by decide +kernel
theorem dX6_convert_69 : decode cX6_convert 69 = .ok (.iload 4, 2) := by decide +kernel
theorem dX6_convert_71 : decode cX6_convert 71 = .ok (.invokevirtual 137, 3) := by decide +kernel
theorem dX6_convert_74 : decode cX6_convert 74 = .ok (.ifCond .eq 18, 3) := by decide +kernel
theorem dX6_convert_77 : decode cX6_convert 77 = .ok (.aload_n 0, 1) := by decide +kernel
theorem dX6_convert_78 : decode cX6_convert 78 = .ok (.getfield 22, 3) := by decide +kernel
theorem dX6_convert_81 : decode cX6_convert 81 = .ok (.iload_n 1, 1) := by decide +kernel
theorem dX6_convert_82 : decode cX6_convert 82 = .ok (.iaload, 1) := by decide +kernel
theorem dX6_convert_83 : decode cX6_convert 83 = .ok (.bipush 10, 2) := by decide +kernel
theorem dX6_convert_85 : decode cX6_convert 85 = .ok (.if_icmp .ge 7, 3) := by decide +kernel
theorem dX6_convert_88 : decode cX6_convert 88 = .ok (.iconst 1, 1) := by decide +kernel
theorem dX6_convert_89 : decode cX6_convert 89 = .ok (.goto 4, 3) := by decide +kernel
theorem dX6_convert_92 : decode cX6_convert 92 = .ok (.iconst 0, 1) := by decide +kernel
theorem dX6_convert_93 : decode cX6_convert 93 = .ok (.istore 5, 2) := by decide +kernel
theorem dX6_convert_95 : decode cX6_convert 95 = .ok (.aload_n 0, 1) := by decide +kernel
theorem dX6_convert_96 : decode cX6_convert 96 = .ok (.iload_n 3, 1) := by decide +kernel
theorem dX6_convert_97 : decode cX6_convert 97 = .ok (.ifCond .ne 7, 3) := by decide +kernel
theorem dX6_convert_100 : decode cX6_convert 100 = .ok (.iconst 1, 1) := by decide +kernel
theorem dX6_convert_101 : decode cX6_convert 101 = .ok (.goto 13, 3) := by decide +kernel
theorem dX6_convert_104 : decode cX6_convert 104 = .ok (.iload 5, 2) := by decide +kernel
theorem dX6_convert_106 : decode cX6_convert 106 = .ok (.ifCond .eq 7, 3) := by decide +kernel
theorem dX6_convert_109 : decode cX6_convert 109 = .ok (.iconst 0, 1) := by decide +kernel
theorem dX6_convert_110 : decode cX6_convert 110 = .ok (.goto 4, 3) := by decide +kernel
theorem dX6_convert_113 : decode cX6_convert 113 = .ok (.iconst 2, 1) := by decide +kernel
theorem dX6_convert_114 : decode cX6_convert 114 = .ok (.invokevirtual 73, 3) := by decide +kernel
theorem dX6_convert_117 : decode cX6_convert 117 = .ok (.ifCond .eq 5, 3) := by decide +kernel
theorem dX6_convert_120 : decode cX6_convert 120 = .ok (.iconst 0, 1) := by decide +kernel
theorem dX6_convert_121 : decode cX6_convert 121 = .ok (.ireturn, 1) := by decide +kernel
theorem dX6_convert_122 : decode cX6_convert 122 = .ok (.aload_n 0, 1) := by decide +kernel
theorem dX6_convert_123 : decode cX6_convert 123 = .ok (.iload 4, 2) := by decide +kernel
theorem dX6_convert_125 : decode cX6_convert 125 = .ok (.invokevirtual 140, 3) := by decide +kernel
theorem dX6_convert_128 : decode cX6_convert 128 = .ok (.sipush 1000, 3) := by decide +kernel
theorem dX6_convert_131 : decode cX6_convert 131 = .ok (.irem, 1) := by decide +kernel
theorem dX6_convert_132 : decode cX6_convert 132 = .ok (.istore 6, 2) := by decide +kernel
theorem dX6_convert_134 : decode cX6_convert 134 = .ok (.aload_n 0, 1) := by decide +kernel
theorem dX6_convert_135 : decode cX6_convert 135 = .ok (.iload_n 1, 1) := by decide +kernel
theorem dX6_convert_136 : decode cX6_convert 136 = .ok (.iload_n 2, 1) := by decide +kernel
theorem dX6_convert_137 : decode cX6_convert 137 = .ok (.iconst 0, 1) := by decide +kernel
theorem dX6_convert_138 : decode cX6_convert 138 = .ok (.sipush 1000, 3) := by decide +kernel
theorem dX6_convert_141 : decode cX6_convert 141 = .ok (.iload 6, 2) := by decide +kernel
theorem dX6_convert_143 : decode cX6_convert 143 = .ok (.ifCond .ge 12, 3) := by decide +kernel
theorem dX6_convert_146 : decode cX6_convert 146 = .ok (.iload 6, 2) := by decide +kernel
theorem dX6_convert_148 : decode cX6_convert 148 = .ok (.sipush 1000, 3) := by decide +kernel
theorem dX6_convert_151 : decode cX6_convert 151 = .ok (.iadd, 1) := by decide +kernel
theorem dX6_convert_152 : decode cX6_convert 152 = .ok (.goto 5, 3) := by decide +kernel
theorem dX6_convert_155 : decode cX6_convert 155 = .ok (.iload 6, 2) := by decide +kernel
theorem dX6_convert_157 : decode cX6_convert 157 = .ok (.imul, 1) := by decide +kernel
theorem dX6_convert_158 : decode cX6_convert 158 = .ok (.aload_n 0, 1) := by decide +kernel
theorem dX6_convert_159 : decode cX6_convert 159 = .ok (.aload_n 0, 1) := by decide +kernel
theorem dX6_convert_160 : decode cX6_convert 160 = .ok (.getfield 29, 3) := by decide +kernel
theorem dX6_convert_163 : decode cX6_convert 163 = .ok (.iload 4, 2) := by decide +kernel
theorem dX6_convert_165 : decode cX6_convert 165 = .ok (.iaload, 1) := by decide +kernel
theorem dX6_convert_166 : decode cX6_convert 166 = .ok (.iload_n 2, 1) := by decide +kernel
theorem dX6_convert_167 : decode cX6_convert 167 = .ok (.invokevirtual 80, 3) := by decide +kernel
theorem dX6_convert_170 : decode cX6_convert 170 = .ok (.bipush 100, 2) := by decide +kernel
theorem dX6_convert_172 : decode cX6_convert 172 = .ok (.idiv, 1) := by decide +kernel
theorem dX6_convert_173 : decode cX6_convert 173 = .ok (.sipush 1000, 3) := by decide +kernel
theorem dX6_convert_176 : decode cX6_convert 176 = .ok (.irem, 1) := by decide +kernel
theorem dX6_convert_177 : decode cX6_convert 177 = .ok (.iadd, 1) := by decide +kernel
theorem dX6_convert_178 : decode cX6_convert 178 = .ok (.iload 4, 2) := by decide +kernel
theorem dX6_convert_180 : decode cX6_convert 180 = .ok (.invokevirtual 127, 3) := by decide +kernel
theorem dX6_convert_183 : decode cX6_convert 183 = .ok (.ireturn, 1) := by decide +kernel
theorem dX6_isNeeded_0 : decode cX6_isNeeded 0 = .ok (.iconst 0, 1) := by decide +kernel
theorem dX6_isNeeded_1 : decode cX6_isNeeded 1 = .ok (.istore_n 2, 1) := by decide +kernel
theorem dX6_isNeeded_2 : decode cX6_isNeeded 2 = .ok (.iconst 0, 1) := by decide +kernel
theorem dX6_isNeeded_3 : decode cX6_isNeeded 3 = .ok (.istore_n 3, 1) := by decide +kernel
theorem dX6_isNeeded_4 : decode cX6_isNeeded 4 = .ok (.iload_n 3, 1) := by decide +kernel
theorem dX6_isNeeded_5 : decode cX6_isNeeded 5 = .ok (.bipush 100, 2) := by decide +kernel
theorem dX6_isNeeded_7 : decode cX6_isNeeded 7 = .ok (.if_icmp .ge 80, 3) := by decide +kernel
theorem dX6_isNeeded_10 : decode cX6_isNeeded 10 = .ok (.aload_n 0, 1) := by decide +kernel
theorem dX6_isNeeded_11 : decode cX6_isNeeded 11 = .ok (.getfield 25, 3) := by decide +kernel
theorem dX6_isNeeded_14 : decode cX6_isNeeded 14 = .ok (.iload_n 3, 1) := by decide +kernel
theorem dX6_isNeeded_15 : decode cX6_isNeeded 15 = .ok (.baload, 1) := by decide +kernel
theorem dX6_isNeeded_16 : decode cX6_isNeeded 16 = .ok (.ifCond .eq 65, 3) := by decide +kernel
theorem dX6_isNeeded_19 : decode cX6_isNeeded 19 = .ok (.iload_n 3, 1) := by decide +kernel
theorem dX6_isNeeded_20 : decode cX6_isNeeded 20 = .ok (.istore 4, 2) := by decide +kernel
theorem dX6_isNeeded_22 : decode cX6_isNeeded 22 = .ok (.aload_n 0, 1) := by decide +kernel
theorem dX6_isNeeded_23 : decode cX6_isNeeded 23 = .ok (.getfield 32, 3) := by decide +kernel
theorem dX6_isNeeded_26 : decode cX6_isNeeded 26 = .ok (.iload 4, 2) := by decide +kernel
theorem dX6_isNeeded_28 : decode cX6_isNeeded 28 = .ok (.iaload, 1) := by decide +kernel
theorem dX6_isNeeded_29 : decode cX6_isNeeded 29 = .ok (.iload_n 1, 1) := by decide +kernel
theorem dX6_isNeeded_30 : decode cX6_isNeeded 30 = .ok (.if_icmp .eq 30, 3) := by decide +kernel
theorem dX6_isNeeded_33 : decode cX6_isNeeded 33 = .ok (.aload_n 0, 1) := by decide +kernel
theorem dX6_isNeeded_34 : decode cX6_isNeeded 34 = .ok (.getfield 41, 3) := by decide +kernel
theorem dX6_isNeeded_37 : decode cX6_isNeeded 37 = .ok (.aload_n 0, 1) := by decide +kernel
theorem dX6_isNeeded_38 : decode cX6_isNeeded 38 = .ok (.getfield 32, 3) := by decide +kernel
theorem dX6_isNeeded_41 : decode cX6_isNeeded 41 = .ok (.iload 4, 2) := by decide +kernel
theorem dX6_isNeeded_43 : decode cX6_isNeeded 43 = .ok (.iaload, 1) := by decide +kernel
theorem dX6_isNeeded_44 : decode cX6_isNeeded 44 = .ok (.baload, 1) := by decide +kernel
theorem dX6_isNeeded_45 : decode cX6_isNeeded 45 = .ok (.ifCond .eq 15, 3) := by decide +kernel
theorem dX6_isNeeded_48 : decode cX6_isNeeded 48 = .ok (.aload_n 0, 1) := by decide +kernel
theorem dX6_isNeeded_49 : decode cX6_isNeeded 49 = .ok (.getfield 35, 3) := by decide +kernel
theorem dX6_isNeeded_52 : decode cX6_isNeeded 52 = .ok (.iload 4, 2) := by decide +kernel
theorem dX6_isNeeded_54 : decode cX6_isNeeded 54 = .ok (.iaload, 1) := by decide +kernel
theorem dX6_isNeeded_55 : decode cX6_isNeeded 55 = .ok (.istore 4, 2) := by decide +kernel
theorem dX6_isNeeded_57 : decode cX6_isNeeded 57 = .ok (.goto (-35), 3) := by decide +kernel
theorem dX6_isNeeded_60 : decode cX6_isNeeded 60 = .ok (.iload_n 2, 1) := by decide +kernel
theorem dX6_isNeeded_61 : decode cX6_isNeeded 61 = .ok (.ifCond .ne 14, 3) := by decide +kernel
theorem dX6_isNeeded_64 : decode cX6_isNeeded 64 = .ok (.aload_n 0, 1) := by decide +kernel
theorem dX6_isNeeded_65 : decode cX6_isNeeded 65 = .ok (.getfield 32, 3) := by decide +kernel
theorem dX6_isNeeded_68 : decode cX6_isNeeded 68 = .ok (.iload 4, 2) := by decide +kernel
theorem dX6_isNeeded_70 : decode cX6_isNeeded 70 = .ok (.iaload, 1) := by decide +kernel
theorem dX6_isNeeded_71 : decode cX6_isNeeded 71 = .ok (.iload_n 1, 1) := by decide +kernel
theorem dX6_isNeeded_72 : decode cX6_isNeeded 72 = .ok (.if_icmp .ne 7, 3) := by decide +kernel
theorem dX6_isNeeded_75 : decode cX6_isNeeded 75 = .ok (.iconst 1, 1) := by decide +kernel
theorem dX6_isNeeded_76 : decode cX6_isNeeded 76 = .ok (.goto 4, 3) := by decide +kernel
theorem dX6_isNeeded_79 : decode cX6_isNeeded 79 = .ok (.iconst 0, 1) := by decide +kernel
theorem dX6_isNeeded_80 : decode cX6_isNeeded 80 = .ok (.istore_n 2, 1) := by decide +kernel
theorem dX6_isNeeded_81 : decode cX6_isNeeded 81 = .ok (.iinc 3 1, 3) := by decide +kernel
theorem dX6_isNeeded_84 : decode cX6_isNeeded 84 = .ok (.goto (-80), 3) := by decide +kernel
theorem dX6_isNeeded_87 : decode cX6_isNeeded 87 = .ok (.iload_n 2, 1) := by decide +kernel
theorem dX6_isNeeded_88 : decode cX6_isNeeded 88 = .ok (.ireturn, 1) := by decide +kernel
theorem dX6_many_0 : decode cX6_many 0 = .ok (.iconst 0, 1) := by decide +kernel
theorem dX6_many_1 : decode cX6_many 1 = .ok (.istore_n 2, 1) := by decide +kernel
theorem dX6_many_2 : decode cX6_many 2 = .ok (.bipush 10, 2) := by decide +kernel
theorem dX6_many_4 : decode cX6_many 4 = .ok (.iload_n 1, 1) := by decide +kernel
theorem dX6_many_5 : decode cX6_many 5 = .ok (.imul, 1) := by decide +kernel
theorem dX6_many_6 : decode cX6_many 6 = .ok (.istore_n 3, 1) := by decide +kernel
theorem dX6_many_7 : decode cX6_many 7 = .ok (.iload_n 3, 1) := by decide +kernel
theorem dX6_many_8 : decode cX6_many 8 = .ok (.bipush 10, 2) := by decide +kernel
theorem dX6_many_10 : decode cX6_many 10 = .ok (.iload_n 1, 1) := by decide +kernel
theorem dX6_many_11 : decode cX6_many 11 = .ok (.imul, 1) := by decide +kernel
theorem dX6_many_12 : decode cX6_many 12 = .ok (.bipush 10, 2) := by decide +kernel
theorem dX6_many_14 : decode cX6_many 14 = .ok (.iadd, 1) := by decide +kernel
theorem dX6_many_15 : decode cX6_many 15 = .ok (.if_icmp .ge 26, 3) := by decide +kernel
theorem dX6_many_18 : decode cX6_many 18 = .ok (.iload_n 2, 1) := by decide +kernel
theorem dX6_many_19 : decode cX6_many 19 = .ok (.aload_n 0, 1) := by decide +kernel
theorem dX6_many_20 : decode cX6_many 20 = .ok (.getfield 25, 3) := by decide +kernel
theorem dX6_many_23 : decode cX6_many 23 = .ok (.iload_n 3, 1) := by decide +kernel
theorem dX6_many_24 : decode cX6_many 24 = .ok (.baload, 1) := by decide +kernel
theorem dX6_many_25 : decode cX6_many 25 = .ok (.ifCond .eq 7, 3) := by decide +kernel
theorem dX6_many_28 : decode cX6_many 28 = .ok (.iconst 1, 1) := by decide +kernel
theorem dX6_many_29 : decode cX6_many 29 = .ok (.goto 4, 3) := by decide +kernel
theorem dX6_many_32 : decode cX6_many 32 = .ok (.iconst 0, 1) := by decide +kernel
theorem dX6_many_33 : decode cX6_many 33 = .ok (.iadd, 1) := by decide +kernel
theorem dX6_many_34 : decode cX6_many 34 = .ok (.istore_n 2, 1) := by decide +kernel
theorem dX6_many_35 : decode cX6_many 35 = .ok (.iinc 3 1, 3) := by decide +kernel
theorem dX6_many_38 : decode cX6_many 38 = .ok (.goto (-31), 3) := by decide +kernel
theorem dX6_many_41 : decode cX6_many 41 = .ok (.iload_n 2, 1) := by decide +kernel
theorem dX6_many_42 : decode cX6_many 42 = .ok (.ireturn, 1) := by decide +kernel
theorem dX6_purge_0 : decode cX6_purge 0 = .ok (.aload_n 0, 1) := by decide +kernel
theorem dX6_purge_1 : decode cX6_purge 1 = .ok (.aload_n 0, 1) := by decide +kernel
theorem dX6_purge_2 : decode cX6_purge 2 = .ok (.iload_n 1, 1) := by decide +kernel
theorem dX6_purge_3 : decode cX6_purge 3 = .ok (.iload_n 2, 1) := by decide +kernel
theorem dX6_purge_4 : decode cX6_purge 4 = .ok (.invokevirtual 143, 3) := by decide +kernel
theorem dX6_purge_7 : decode cX6_purge 7 = .ok (.ifCond .ne 7, 3) := by decide +kernel
theorem dX6_purge_10 : decode cX6_purge 10 = .ok (.iconst 1, 1) := by decide +kernel
theorem dX6_purge_11 : decode cX6_purge 11 = .ok (.goto 17, 3) := by decide +kernel
theorem dX6_purge_14 : decode cX6_purge 14 = .ok (.aload_n 0, 1) := by decide +kernel
theorem dX6_purge_15 : decode cX6_purge 15 = .ok (.iload_n 1, 1) := by decide +kernel
theorem dX6_purge_16 : decode cX6_purge 16 = .ok (.invokevirtual 146, 3) := by decide +kernel
theorem dX6_purge_19 : decode cX6_purge 19 = .ok (.iconst 1, 1) := by decide +kernel
theorem dX6_purge_20 : decode cX6_purge 20 = .ok (.if_icmp .ne 7, 3) := by decide +kernel
theorem dX6_purge_23 : decode cX6_purge 23 = .ok (.iconst 2, 1) := by decide +kernel
theorem dX6_purge_24 : decode cX6_purge 24 = .ok (.goto 4, 3) := by decide +kernel
theorem dX6_purge_27 : decode cX6_purge 27 = .ok (.iconst 0, 1) := by decide +kernel
theorem dX6_purge_28 : decode cX6_purge 28 = .ok (.invokevirtual 73, 3) := by decide +kernel
theorem dX6_purge_31 : decode cX6_purge 31 = .ok (.ifCond .eq 5, 3) := by decide +kernel
theorem dX6_purge_34 : decode cX6_purge 34 = .ok (.iconst 0, 1) := by decide +kernel
theorem dX6_purge_35 : decode cX6_purge 35 = .ok (.ireturn, 1) := by decide +kernel
theorem dX6_purge_36 : decode cX6_purge 36 = .ok (.aload_n 0, 1) := by decide +kernel
theorem dX6_purge_37 : decode cX6_purge 37 = .ok (.getfield 25, 3) := by decide +kernel
theorem dX6_purge_40 : decode cX6_purge 40 = .ok (.bipush 10, 2) := by decide +kernel
theorem dX6_purge_42 : decode cX6_purge 42 = .ok (.iload_n 1, 1) := by decide +kernel
theorem dX6_purge_43 : decode cX6_purge 43 = .ok (.imul, 1) := by decide +kernel
theorem dX6_purge_44 : decode cX6_purge 44 = .ok (.iload_n 2, 1) := by decide +kernel
theorem dX6_purge_45 : decode cX6_purge 45 = .ok (.iadd, 1) := by decide +kernel
theorem dX6_purge_46 : decode cX6_purge 46 = .ok (.iconst 0, 1) := by decide +kernel
theorem dX6_purge_47 : decode cX6_purge 47 = .ok (.bastore, 1) := by decide +kernel
theorem dX6_purge_48 : decode cX6_purge 48 = .ok (.iconst 0, 1) := by decide +kernel
theorem dX6_purge_49 : decode cX6_purge 49 = .ok (.istore_n 3, 1) := by decide +kernel
theorem dX6_purge_50 : decode cX6_purge 50 = .ok (.iconst 0, 1) := by decide +kernel
theorem dX6_purge_51 : decode cX6_purge 51 = .ok (.istore 4, 2) := by decide +kernel
theorem dX6_purge_53 : decode cX6_purge 53 = .ok (.iload 4, 2) := by decide +kernel
theorem dX6_purge_55 : decode cX6_purge 55 = .ok (.aload_n 0, 1) := by decide +kernel
theorem dX6_purge_56 : decode cX6_purge 56 = .ok (.getfield 113, 3) := by decide +kernel
theorem dX6_purge_59 : decode cX6_purge 59 = .ok (.if_icmp .ge 67, 3) := by decide +kernel
theorem dX6_purge_62 : decode cX6_purge 62 = .ok (.aload_n 0, 1) := by decide +kernel
theorem dX6_purge_63 : decode cX6_purge 63 = .ok (.getfield 38, 3) := by decide +kernel
theorem dX6_purge_66 : decode cX6_purge 66 = .ok (.iload 4, 2) := by decide +kernel
theorem dX6_purge_68 : decode cX6_purge 68 = .ok (.baload, 1) := by decide +kernel
theorem dX6_purge_69 : decode cX6_purge 69 = .ok (.ifCond .eq 51, 3) := by decide +kernel
theorem dX6_purge_72 : decode cX6_purge 72 = .ok (.aload_n 0, 1) := by decide +kernel
theorem dX6_purge_73 : decode cX6_purge 73 = .ok (.iload 4, 2) := by decide +kernel
theorem dX6_purge_75 : decode cX6_purge 75 = .ok (.invokevirtual 149, 3) := by decide +kernel
theorem dX6_purge_78 : decode cX6_purge 78 = .ok (.ifCond .ne 42, 3) := by decide +kernel
theorem dX6_purge_81 : decode cX6_purge 81 = .ok (.aload_n 0, 1) := by decide +kernel
theorem dX6_purge_82 : decode cX6_purge 82 = .ok (.getfield 38, 3) := by decide +kernel
theorem dX6_purge_85 : decode cX6_purge 85 = .ok (.iload 4, 2) := by decide +kernel
theorem dX6_purge_87 : decode cX6_purge 87 = .ok (.iconst 0, 1) := by decide +kernel
theorem dX6_purge_88 : decode cX6_purge 88 = .ok (.bastore, 1) := by decide +kernel
theorem dX6_purge_89 : decode cX6_purge 89 = .ok (.iconst 0, 1) := by decide +kernel
theorem dX6_purge_90 : decode cX6_purge 90 = .ok (.istore 5, 2) := by decide +kernel
theorem dX6_purge_92 : decode cX6_purge 92 = .ok (.iload 5, 2) := by decide +kernel
theorem dX6_purge_94 : decode cX6_purge 94 = .ok (.iconst 4, 1) := by decide +kernel
theorem dX6_purge_95 : decode cX6_purge 95 = .ok (.if_icmp .ge 22, 3) := by decide +kernel
theorem dX6_purge_98 : decode cX6_purge 98 = .ok (.aload_n 0, 1) := by decide +kernel
theorem dX6_purge_99 : decode cX6_purge 99 = .ok (.getfield 50, 3) := by decide +kernel
theorem dX6_purge_102 : decode cX6_purge 102 = .ok (.iconst 4, 1) := by decide +kernel
theorem dX6_purge_103 : decode cX6_purge 103 = .ok (.iload 4, 2) := by decide +kernel
theorem dX6_purge_105 : decode cX6_purge 105 = .ok (.imul, 1) := by decide +kernel
theorem dX6_purge_106 : decode cX6_purge 106 = .ok (.iload 5, 2) := by decide +kernel
theorem dX6_purge_108 : decode cX6_purge 108 = .ok (.iadd, 1) := by decide +kernel
theorem dX6_purge_109 : decode cX6_purge 109 = .ok (.iconst 0, 1) := by decide +kernel
theorem dX6_purge_110 : decode cX6_purge 110 = .ok (.bastore, 1) := by decide +kernel
theorem dX6_purge_111 : decode cX6_purge 111 = .ok (.iinc 5 1, 3) := by decide +kernel
theorem dX6_purge_114 : decode cX6_purge 114 = .ok (.goto (-22), 3) := by decide +kernel
theorem dX6_purge_117 : decode cX6_purge 117 = .ok (.iinc 3 1, 3) := by decide +kernel
theorem dX6_purge_120 : decode cX6_purge 120 = .ok (.iinc 4 1, 3) := by decide +kernel
theorem dX6_purge_123 : decode cX6_purge 123 = .ok (.goto (-70), 3) := by decide +kernel
theorem dX6_purge_126 : decode cX6_purge 126 = .ok (.iload_n 3, 1) := by decide +kernel
theorem dX6_purge_127 : decode cX6_purge 127 = .ok (.ireturn, 1) := by decide +kernel
theorem dX6_versions_0 : decode cX6_versions 0 = .ok (.aload_n 0, 1) := by decide +kernel
theorem dX6_versions_1 : decode cX6_versions 1 = .ok (.aload_n 0, 1) := by decide +kernel
theorem dX6_versions_2 : decode cX6_versions 2 = .ok (.iload_n 1, 1) := by decide +kernel
theorem dX6_versions_3 : decode cX6_versions 3 = .ok (.invokevirtual 110, 3) := by decide +kernel
theorem dX6_versions_6 : decode cX6_versions 6 = .ok (.ifCond .eq 7, 3) := by decide +kernel
theorem dX6_versions_9 : decode cX6_versions 9 = .ok (.iconst 0, 1) := by decide +kernel
theorem dX6_versions_10 : decode cX6_versions 10 = .ok (.goto 4, 3) := by decide +kernel
theorem dX6_versions_13 : decode cX6_versions 13 = .ok (.iconst 1, 1) := by decide +kernel
theorem dX6_versions_14 : decode cX6_versions 14 = .ok (.invokevirtual 73, 3) := by decide +kernel
theorem dX6_versions_17 : decode cX6_versions 17 = .ok (.ifCond .eq 5, 3) := by decide +kernel
theorem dX6_versions_20 : decode cX6_versions 20 = .ok (.iconst 0, 1) := by decide +kernel
theorem dX6_versions_21 : decode cX6_versions 21 = .ok (.ireturn, 1) := by decide +kernel
theorem dX6_versions_22 : decode cX6_versions 22 = .ok (.iconst 0, 1) := by decide +kernel
theorem dX6_versions_23 : decode cX6_versions 23 = .ok (.istore_n 2, 1) := by decide +kernel
theorem dX6_versions_24 : decode cX6_versions 24 = .ok (.iconst 0, 1) := by decide +kernel
theorem dX6_versions_25 : decode cX6_versions 25 = .ok (.istore_n 3, 1) := by decide +kernel
theorem dX6_versions_26 : decode cX6_versions 26 = .ok (.iload_n 3, 1) := by decide +kernel
theorem dX6_versions_27 : decode cX6_versions 27 = .ok (.bipush 10, 2) := by decide +kernel
theorem dX6_versions_29 : decode cX6_versions 29 = .ok (.if_icmp .ge 33, 3) := by decide +kernel
theorem dX6_versions_32 : decode cX6_versions 32 = .ok (.iload_n 2, 1) := by decide +kernel
theorem dX6_versions_33 : decode cX6_versions 33 = .ok (.aload_n 0, 1) := by decide +kernel
theorem dX6_versions_34 : decode cX6_versions 34 = .ok (.getfield 25, 3) := by decide +kernel
theorem dX6_versions_37 : decode cX6_versions 37 = .ok (.bipush 10, 2) := by decide +kernel
theorem dX6_versions_39 : decode cX6_versions 39 = .ok (.iload_n 1, 1) := by decide +kernel
theorem dX6_versions_40 : decode cX6_versions 40 = .ok (.imul, 1) := by decide +kernel
theorem dX6_versions_41 : decode cX6_versions 41 = .ok (.iload_n 3, 1) := by decide +kernel
theorem dX6_versions_42 : decode cX6_versions 42 = .ok (.iadd, 1) := by decide +kernel
theorem dX6_versions_43 : decode cX6_versions 43 = .ok (.baload, 1) := by decide +kernel
theorem dX6_versions_44 : decode cX6_versions 44 = .ok (.ifCond .eq 9, 3) := by decide +kernel
theorem dX6_versions_47 : decode cX6_versions 47 = .ok (.iconst 1, 1) := by decide +kernel
theorem dX6_versions_48 : decode cX6_versions 48 = .ok (.iload_n 3, 1) := by decide +kernel
theorem dX6_versions_49 : decode cX6_versions 49 = .ok (.ishl, 1) := by decide +kernel
theorem dX6_versions_50 : decode cX6_versions 50 = .ok (.goto 4, 3) := by decide +kernel
theorem dX6_versions_53 : decode cX6_versions 53 = .ok (.iconst 0, 1) := by decide +kernel
theorem dX6_versions_54 : decode cX6_versions 54 = .ok (.ior, 1) := by decide +kernel
theorem dX6_versions_55 : decode cX6_versions 55 = .ok (.istore_n 2, 1) := by decide +kernel
theorem dX6_versions_56 : decode cX6_versions 56 = .ok (.iinc 3 1, 3) := by decide +kernel
theorem dX6_versions_59 : decode cX6_versions 59 = .ok (.goto (-33), 3) := by decide +kernel
theorem dX6_versions_62 : decode cX6_versions 62 = .ok (.iload_n 2, 1) := by decide +kernel
theorem dX6_versions_63 : decode cX6_versions 63 = .ok (.ireturn, 1) := by decide +kernel
theorem dX6_unitOf_0 : decode cX6_unitOf 0 = .ok (.aload_n 0, 1) := by decide +kernel
theorem dX6_unitOf_1 : decode cX6_unitOf 1 = .ok (.aload_n 0, 1) := by decide +kernel
theorem dX6_unitOf_2 : decode cX6_unitOf 2 = .ok (.iload_n 1, 1) := by decide +kernel
theorem dX6_unitOf_3 : decode cX6_unitOf 3 = .ok (.iload_n 2, 1) := by decide +kernel
theorem dX6_unitOf_4 : decode cX6_unitOf 4 = .ok (.invokevirtual 143, 3) := by decide +kernel
theorem dX6_unitOf_7 : decode cX6_unitOf 7 = .ok (.ifCond .eq 7, 3) := by decide +kernel
theorem dX6_unitOf_10 : decode cX6_unitOf 10 = .ok (.iconst 0, 1) := by decide +kernel
theorem dX6_unitOf_11 : decode cX6_unitOf 11 = .ok (.goto 4, 3) := by decide +kernel
theorem dX6_unitOf_14 : decode cX6_unitOf 14 = .ok (.iconst 1, 1) := by decide +kernel
theorem dX6_unitOf_15 : decode cX6_unitOf 15 = .ok (.invokevirtual 73, 3) := by decide +kernel
theorem dX6_unitOf_18 : decode cX6_unitOf 18 = .ok (.ifCond .eq 7, 3) := by decide +kernel
theorem dX6_unitOf_21 : decode cX6_unitOf 21 = .ok (.iconst 0, 1) := by decide +kernel
theorem dX6_unitOf_22 : decode cX6_unitOf 22 = .ok (.goto 14, 3) := by decide +kernel
theorem dX6_unitOf_25 : decode cX6_unitOf 25 = .ok (.aload_n 0, 1) := by decide +kernel
theorem dX6_unitOf_26 : decode cX6_unitOf 26 = .ok (.getfield 32, 3) := by decide +kernel
theorem dX6_unitOf_29 : decode cX6_unitOf 29 = .ok (.bipush 10, 2) := by decide +kernel
theorem dX6_unitOf_31 : decode cX6_unitOf 31 = .ok (.iload_n 1, 1) := by decide +kernel
theorem dX6_unitOf_32 : decode cX6_unitOf 32 = .ok (.imul, 1) := by decide +kernel
theorem dX6_unitOf_33 : decode cX6_unitOf 33 = .ok (.iload_n 2, 1) := by decide +kernel
theorem dX6_unitOf_34 : decode cX6_unitOf 34 = .ok (.iadd, 1) := by decide +kernel
theorem dX6_unitOf_35 : decode cX6_unitOf 35 = .ok (.iaload, 1) := by decide +kernel
theorem dX6_unitOf_36 : decode cX6_unitOf 36 = .ok (.ireturn, 1) := by decide +kernel
theorem dX6_read_0 : decode cX6_read 0 = .ok (.aload_n 0, 1) := by decide +kernel
theorem dX6_read_1 : decode cX6_read 1 = .ok (.iload_n 1, 1) := by decide +kernel
theorem dX6_read_2 : decode cX6_read 2 = .ok (.iload_n 2, 1) := by decide +kernel
theorem dX6_read_3 : decode cX6_read 3 = .ok (.invokevirtual 143, 3) := by decide +kernel
theorem dX6_read_6 : decode cX6_read 6 = .ok (.istore_n 3, 1) := by decide +kernel
theorem dX6_read_7 : decode cX6_read 7 = .ok (.aload_n 0, 1) := by decide +kernel
theorem dX6_read_8 : decode cX6_read 8 = .ok (.iload_n 3, 1) := by decide +kernel
theorem dX6_read_9 : decode cX6_read 9 = .ok (.ifCond .ne 7, 3) := by decide +kernel
theorem dX6_read_12 : decode cX6_read 12 = .ok (.iconst 1, 1) := by decide +kernel
theorem dX6_read_13 : decode cX6_read 13 = .ok (.goto 21, 3) := by decide +kernel
theorem dX6_read_16 : decode cX6_read 16 = .ok (.aload_n 0, 1) := by decide +kernel
theorem dX6_read_17 : decode cX6_read 17 = .ok (.bipush 10, 2) := by decide +kernel
theorem dX6_read_19 : decode cX6_read 19 = .ok (.iload_n 1, 1) := by decide +kernel
theorem dX6_read_20 : decode cX6_read 20 = .ok (.imul, 1) := by decide +kernel
theorem dX6_read_21 : decode cX6_read 21 = .ok (.iload_n 2, 1) := by decide +kernel
theorem dX6_read_22 : decode cX6_read 22 = .ok (.iadd, 1) := by decide +kernel
theorem dX6_read_23 : decode cX6_read 23 = .ok (.invokevirtual 137, 3) := by decide +kernel
theorem dX6_read_26 : decode cX6_read 26 = .ok (.ifCond .eq 7, 3) := by decide +kernel
theorem dX6_read_29 : decode cX6_read 29 = .ok (.iconst 0, 1) := by decide +kernel
theorem dX6_read_30 : decode cX6_read 30 = .ok (.goto 4, 3) := by decide +kernel
theorem dX6_read_33 : decode cX6_read 33 = .ok (.iconst 2, 1) := by decide +kernel
theorem dX6_read_34 : decode cX6_read 34 = .ok (.invokevirtual 73, 3) := by decide +kernel
theorem dX6_read_37 : decode cX6_read 37 = .ok (.ifCond .eq 7, 3) := by decide +kernel
theorem dX6_read_40 : decode cX6_read 40 = .ok (.iconst 0, 1) := by decide +kernel
theorem dX6_read_41 : decode cX6_read 41 = .ok (.goto 13, 3) := by decide +kernel
theorem dX6_read_44 : decode cX6_read 44 = .ok (.aload_n 0, 1) := by decide +kernel
theorem dX6_read_45 : decode cX6_read 45 = .ok (.bipush 10, 2) := by decide +kernel
theorem dX6_read_47 : decode cX6_read 47 = .ok (.iload_n 1, 1) := by decide +kernel
theorem dX6_read_48 : decode cX6_read 48 = .ok (.imul, 1) := by decide +kernel
theorem dX6_read_49 : decode cX6_read 49 = .ok (.iload_n 2, 1) := by decide +kernel
theorem dX6_read_50 : decode cX6_read 50 = .ok (.iadd, 1) := by decide +kernel
theorem dX6_read_51 : decode cX6_read 51 = .ok (.invokevirtual 140, 3) := by decide +kernel
theorem dX6_read_54 : decode cX6_read 54 = .ok (.ireturn, 1) := by decide +kernel
theorem dX6_atRisk_0 : decode cX6_atRisk 0 = .ok (.aload_n 0, 1) := by decide +kernel
theorem dX6_atRisk_1 : decode cX6_atRisk 1 = .ok (.iload_n 1, 1) := by decide +kernel
theorem dX6_atRisk_2 : decode cX6_atRisk 2 = .ok (.iconst 0, 1) := by decide +kernel
theorem dX6_atRisk_3 : decode cX6_atRisk 3 = .ok (.bipush 100, 2) := by decide +kernel
theorem dX6_atRisk_5 : decode cX6_atRisk 5 = .ok (.invokestatic 69, 3) := by decide +kernel
theorem dX6_atRisk_8 : decode cX6_atRisk 8 = .ok (.ifCond .eq 7, 3) := by decide +kernel
theorem dX6_atRisk_11 : decode cX6_atRisk 11 = .ok (.iconst 0, 1) := by decide +kernel
theorem dX6_atRisk_12 : decode cX6_atRisk 12 = .ok (.goto 4, 3) := by decide +kernel
theorem dX6_atRisk_15 : decode cX6_atRisk 15 = .ok (.iconst 1, 1) := by decide +kernel
theorem dX6_atRisk_16 : decode cX6_atRisk 16 = .ok (.invokevirtual 73, 3) := by decide +kernel
theorem dX6_atRisk_19 : decode cX6_atRisk 19 = .ok (.ifCond .eq 5, 3) := by decide +kernel
theorem dX6_atRisk_22 : decode cX6_atRisk 22 = .ok (.iconst 0, 1) := by decide +kernel
theorem dX6_atRisk_23 : decode cX6_atRisk 23 = .ok (.ireturn, 1) := by decide +kernel
theorem dX6_atRisk_24 : decode cX6_atRisk 24 = .ok (.iconst 0, 1) := by decide +kernel
theorem dX6_atRisk_25 : decode cX6_atRisk 25 = .ok (.istore_n 2, 1) := by decide +kernel
theorem dX6_atRisk_26 : decode cX6_atRisk 26 = .ok (.iconst 0, 1) := by decide +kernel
theorem dX6_atRisk_27 : decode cX6_atRisk 27 = .ok (.istore_n 3, 1) := by decide +kernel
theorem dX6_atRisk_28 : decode cX6_atRisk 28 = .ok (.iload_n 3, 1) := by decide +kernel
theorem dX6_atRisk_29 : decode cX6_atRisk 29 = .ok (.aload_n 0, 1) := by decide +kernel
theorem dX6_atRisk_30 : decode cX6_atRisk 30 = .ok (.getfield 107, 3) := by decide +kernel
theorem dX6_atRisk_33 : decode cX6_atRisk 33 = .ok (.if_icmp .ge 38, 3) := by decide +kernel
theorem dX6_atRisk_36 : decode cX6_atRisk 36 = .ok (.iload_n 2, 1) := by decide +kernel
theorem dX6_atRisk_37 : decode cX6_atRisk 37 = .ok (.aload_n 0, 1) := by decide +kernel
theorem dX6_atRisk_38 : decode cX6_atRisk 38 = .ok (.getfield 7, 3) := by decide +kernel
theorem dX6_atRisk_41 : decode cX6_atRisk 41 = .ok (.aload_n 0, 1) := by decide +kernel
theorem dX6_atRisk_42 : decode cX6_atRisk 42 = .ok (.getfield 29, 3) := by decide +kernel
theorem dX6_atRisk_45 : decode cX6_atRisk 45 = .ok (.aload_n 0, 1) := by decide +kernel
theorem dX6_atRisk_46 : decode cX6_atRisk 46 = .ok (.iload_n 3, 1) := by decide +kernel
theorem dX6_atRisk_47 : decode cX6_atRisk 47 = .ok (.invokevirtual 131, 3) := by decide +kernel
theorem dX6_atRisk_50 : decode cX6_atRisk 50 = .ok (.iaload, 1) := by decide +kernel
theorem dX6_atRisk_51 : decode cX6_atRisk 51 = .ok (.iaload, 1) := by decide +kernel
theorem dX6_atRisk_52 : decode cX6_atRisk 52 = .ok (.iload_n 1, 1) := by decide +kernel
theorem dX6_atRisk_53 : decode cX6_atRisk 53 = .ok (.if_icmp .lt 9, 3) := by decide +kernel
theorem dX6_atRisk_56 : decode cX6_atRisk 56 = .ok (.iconst 1, 1) := by decide +kernel
theorem dX6_atRisk_57 : decode cX6_atRisk 57 = .ok (.iload_n 3, 1) := by decide +kernel
theorem dX6_atRisk_58 : decode cX6_atRisk 58 = .ok (.ishl, 1) := by decide +kernel
theorem dX6_atRisk_59 : decode cX6_atRisk 59 = .ok (.goto 4, 3) := by decide +kernel
theorem dX6_atRisk_62 : decode cX6_atRisk 62 = .ok (.iconst 0, 1) := by decide +kernel
theorem dX6_atRisk_63 : decode cX6_atRisk 63 = .ok (.ior, 1) := by decide +kernel
theorem dX6_atRisk_64 : decode cX6_atRisk 64 = .ok (.istore_n 2, 1) := by decide +kernel
theorem dX6_atRisk_65 : decode cX6_atRisk 65 = .ok (.iinc 3 1, 3) := by decide +kernel
theorem dX6_atRisk_68 : decode cX6_atRisk 68 = .ok (.goto (-40), 3) := by decide +kernel
theorem dX6_atRisk_71 : decode cX6_atRisk 71 = .ok (.iload_n 2, 1) := by decide +kernel
theorem dX6_atRisk_72 : decode cX6_atRisk 72 = .ok (.ireturn, 1) := by decide +kernel
theorem dX6_units_0 : decode cX6_units 0 = .ok (.iconst 0, 1) := by decide +kernel
theorem dX6_units_1 : decode cX6_units 1 = .ok (.istore_n 1, 1) := by decide +kernel
theorem dX6_units_2 : decode cX6_units 2 = .ok (.iconst 0, 1) := by decide +kernel
theorem dX6_units_3 : decode cX6_units 3 = .ok (.istore_n 2, 1) := by decide +kernel
theorem dX6_units_4 : decode cX6_units 4 = .ok (.iload_n 2, 1) := by decide +kernel
theorem dX6_units_5 : decode cX6_units 5 = .ok (.aload_n 0, 1) := by decide +kernel
theorem dX6_units_6 : decode cX6_units 6 = .ok (.getfield 113, 3) := by decide +kernel
theorem dX6_units_9 : decode cX6_units 9 = .ok (.if_icmp .ge 26, 3) := by decide +kernel
theorem dX6_units_12 : decode cX6_units 12 = .ok (.iload_n 1, 1) := by decide +kernel
theorem dX6_units_13 : decode cX6_units 13 = .ok (.aload_n 0, 1) := by decide +kernel
theorem dX6_units_14 : decode cX6_units 14 = .ok (.getfield 38, 3) := by decide +kernel
theorem dX6_units_17 : decode cX6_units 17 = .ok (.iload_n 2, 1) := by decide +kernel
theorem dX6_units_18 : decode cX6_units 18 = .ok (.baload, 1) := by decide +kernel
theorem dX6_units_19 : decode cX6_units 19 = .ok (.ifCond .eq 7, 3) := by decide +kernel
theorem dX6_units_22 : decode cX6_units 22 = .ok (.iconst 1, 1) := by decide +kernel
theorem dX6_units_23 : decode cX6_units 23 = .ok (.goto 4, 3) := by decide +kernel
theorem dX6_units_26 : decode cX6_units 26 = .ok (.iconst 0, 1) := by decide +kernel
theorem dX6_units_27 : decode cX6_units 27 = .ok (.iadd, 1) := by decide +kernel
theorem dX6_units_28 : decode cX6_units 28 = .ok (.istore_n 1, 1) := by decide +kernel
theorem dX6_units_29 : decode cX6_units 29 = .ok (.iinc 2 1, 3) := by decide +kernel
theorem dX6_units_32 : decode cX6_units 32 = .ok (.goto (-28), 3) := by decide +kernel
theorem dX6_units_35 : decode cX6_units 35 = .ok (.aload_n 0, 1) := by decide +kernel
theorem dX6_units_36 : decode cX6_units 36 = .ok (.iload_n 1, 1) := by decide +kernel
theorem dX6_units_37 : decode cX6_units 37 = .ok (.invokevirtual 152, 3) := by decide +kernel
theorem dX6_units_40 : decode cX6_units 40 = .ok (.ireturn, 1) := by decide +kernel
theorem dX6_is_0 : decode cX6_is 0 = .ok (.iload_n 1, 1) := by decide +kernel
theorem dX6_is_1 : decode cX6_is 1 = .ok (.iconst 0, 1) := by decide +kernel
theorem dX6_is_2 : decode cX6_is 2 = .ok (.aload_n 0, 1) := by decide +kernel
theorem dX6_is_3 : decode cX6_is 3 = .ok (.getfield 113, 3) := by decide +kernel
theorem dX6_is_6 : decode cX6_is 6 = .ok (.iconst 1, 1) := by decide +kernel
theorem dX6_is_7 : decode cX6_is 7 = .ok (.isub, 1) := by decide +kernel
theorem dX6_is_8 : decode cX6_is 8 = .ok (.invokestatic 69, 3) := by decide +kernel
theorem dX6_is_11 : decode cX6_is 11 = .ok (.ifCond .eq 16, 3) := by decide +kernel
theorem dX6_is_14 : decode cX6_is 14 = .ok (.aload_n 0, 1) := by decide +kernel
theorem dX6_is_15 : decode cX6_is 15 = .ok (.getfield 38, 3) := by decide +kernel
theorem dX6_is_18 : decode cX6_is 18 = .ok (.iload_n 1, 1) := by decide +kernel
theorem dX6_is_19 : decode cX6_is 19 = .ok (.baload, 1) := by decide +kernel
theorem dX6_is_20 : decode cX6_is 20 = .ok (.ifCond .eq 7, 3) := by decide +kernel
theorem dX6_is_23 : decode cX6_is 23 = .ok (.iconst 1, 1) := by decide +kernel
theorem dX6_is_24 : decode cX6_is 24 = .ok (.goto 4, 3) := by decide +kernel
theorem dX6_is_27 : decode cX6_is 27 = .ok (.iconst 0, 1) := by decide +kernel
theorem dX6_is_28 : decode cX6_is 28 = .ok (.ireturn, 1) := by decide +kernel
theorem dX6_sites_0 : decode cX6_sites 0 = .ok (.aload_n 0, 1) := by decide +kernel
theorem dX6_sites_1 : decode cX6_sites 1 = .ok (.aload_n 0, 1) := by decide +kernel
theorem dX6_sites_2 : decode cX6_sites 2 = .ok (.iload_n 1, 1) := by decide +kernel
theorem dX6_sites_3 : decode cX6_sites 3 = .ok (.invokevirtual 155, 3) := by decide +kernel
theorem dX6_sites_6 : decode cX6_sites 6 = .ok (.ifCond .eq 7, 3) := by decide +kernel
theorem dX6_sites_9 : decode cX6_sites 9 = .ok (.iconst 0, 1) := by decide +kernel
theorem dX6_sites_10 : decode cX6_sites 10 = .ok (.goto 4, 3) := by decide +kernel
theorem dX6_sites_13 : decode cX6_sites 13 = .ok (.iconst 1, 1) := by decide +kernel
theorem dX6_sites_14 : decode cX6_sites 14 = .ok (.invokevirtual 73, 3) := by decide +kernel
theorem dX6_sites_17 : decode cX6_sites 17 = .ok (.ifCond .eq 5, 3) := by decide +kernel
theorem dX6_sites_20 : decode cX6_sites 20 = .ok (.iconst 0, 1) := by decide +kernel
theorem dX6_sites_21 : decode cX6_sites 21 = .ok (.ireturn, 1) := by decide +kernel
theorem dX6_sites_22 : decode cX6_sites 22 = .ok (.iconst 0, 1) := by decide +kernel
theorem dX6_sites_23 : decode cX6_sites 23 = .ok (.istore_n 2, 1) := by decide +kernel
theorem dX6_sites_24 : decode cX6_sites 24 = .ok (.iconst 0, 1) := by decide +kernel
theorem dX6_sites_25 : decode cX6_sites 25 = .ok (.istore_n 3, 1) := by decide +kernel
theorem dX6_sites_26 : decode cX6_sites 26 = .ok (.iload_n 3, 1) := by decide +kernel
theorem dX6_sites_27 : decode cX6_sites 27 = .ok (.iconst 4, 1) := by decide +kernel
theorem dX6_sites_28 : decode cX6_sites 28 = .ok (.if_icmp .ge 32, 3) := by decide +kernel
theorem dX6_sites_31 : decode cX6_sites 31 = .ok (.iload_n 2, 1) := by decide +kernel
theorem dX6_sites_32 : decode cX6_sites 32 = .ok (.aload_n 0, 1) := by decide +kernel
theorem dX6_sites_33 : decode cX6_sites 33 = .ok (.getfield 50, 3) := by decide +kernel
theorem dX6_sites_36 : decode cX6_sites 36 = .ok (.iconst 4, 1) := by decide +kernel
theorem dX6_sites_37 : decode cX6_sites 37 = .ok (.iload_n 1, 1) := by decide +kernel
theorem dX6_sites_38 : decode cX6_sites 38 = .ok (.imul, 1) := by decide +kernel
theorem dX6_sites_39 : decode cX6_sites 39 = .ok (.iload_n 3, 1) := by decide +kernel
theorem dX6_sites_40 : decode cX6_sites 40 = .ok (.iadd, 1) := by decide +kernel
theorem dX6_sites_41 : decode cX6_sites 41 = .ok (.baload, 1) := by decide +kernel
theorem dX6_sites_42 : decode cX6_sites 42 = .ok (.ifCond .eq 9, 3) := by decide +kernel
theorem dX6_sites_45 : decode cX6_sites 45 = .ok (.iconst 1, 1) := by decide +kernel
theorem dX6_sites_46 : decode cX6_sites 46 = .ok (.iload_n 3, 1) := by decide +kernel
theorem dX6_sites_47 : decode cX6_sites 47 = .ok (.ishl, 1) := by decide +kernel
theorem dX6_sites_48 : decode cX6_sites 48 = .ok (.goto 4, 3) := by decide +kernel
theorem dX6_sites_51 : decode cX6_sites 51 = .ok (.iconst 0, 1) := by decide +kernel
theorem dX6_sites_52 : decode cX6_sites 52 = .ok (.ior, 1) := by decide +kernel
theorem dX6_sites_53 : decode cX6_sites 53 = .ok (.istore_n 2, 1) := by decide +kernel
theorem dX6_sites_54 : decode cX6_sites 54 = .ok (.iinc 3 1, 3) := by decide +kernel
theorem dX6_sites_57 : decode cX6_sites 57 = .ok (.goto (-31), 3) := by decide +kernel
theorem dX6_sites_60 : decode cX6_sites 60 = .ok (.iload_n 2, 1) := by decide +kernel
theorem dX6_sites_61 : decode cX6_sites 61 = .ok (.ireturn, 1) := by decide +kernel
theorem dX6_sound_0 : decode cX6_sound 0 = .ok (.aload_n 0, 1) := by decide +kernel
theorem dX6_sound_1 : decode cX6_sound 1 = .ok (.aload_n 0, 1) := by decide +kernel
theorem dX6_sound_2 : decode cX6_sound 2 = .ok (.iload_n 1, 1) := by decide +kernel
theorem dX6_sound_3 : decode cX6_sound 3 = .ok (.invokevirtual 155, 3) := by decide +kernel
theorem dX6_sound_6 : decode cX6_sound 6 = .ok (.ifCond .eq 7, 3) := by decide +kernel
theorem dX6_sound_9 : decode cX6_sound 9 = .ok (.iconst 0, 1) := by decide +kernel
theorem dX6_sound_10 : decode cX6_sound 10 = .ok (.goto 4, 3) := by decide +kernel
theorem dX6_sound_13 : decode cX6_sound 13 = .ok (.iconst 1, 1) := by decide +kernel
theorem dX6_sound_14 : decode cX6_sound 14 = .ok (.invokevirtual 73, 3) := by decide +kernel
theorem dX6_sound_17 : decode cX6_sound 17 = .ok (.ifCond .eq 5, 3) := by decide +kernel
theorem dX6_sound_20 : decode cX6_sound 20 = .ok (.iconst 0, 1) := by decide +kernel
theorem dX6_sound_21 : decode cX6_sound 21 = .ok (.ireturn, 1) := by decide +kernel
theorem dX6_sound_22 : decode cX6_sound 22 = .ok (.iconst 0, 1) := by decide +kernel
theorem dX6_sound_23 : decode cX6_sound 23 = .ok (.istore_n 2, 1) := by decide +kernel
theorem dX6_sound_24 : decode cX6_sound 24 = .ok (.iconst 0, 1) := by decide +kernel
theorem dX6_sound_25 : decode cX6_sound 25 = .ok (.istore_n 3, 1) := by decide +kernel
theorem dX6_sound_26 : decode cX6_sound 26 = .ok (.iload_n 3, 1) := by decide +kernel
theorem dX6_sound_27 : decode cX6_sound 27 = .ok (.iconst 4, 1) := by decide +kernel
theorem dX6_sound_28 : decode cX6_sound 28 = .ok (.if_icmp .ge 26, 3) := by decide +kernel
theorem dX6_sound_31 : decode cX6_sound 31 = .ok (.iload_n 2, 1) := by decide +kernel
theorem dX6_sound_32 : decode cX6_sound 32 = .ok (.aload_n 0, 1) := by decide +kernel
theorem dX6_sound_33 : decode cX6_sound 33 = .ok (.iload_n 1, 1) := by decide +kernel
theorem dX6_sound_34 : decode cX6_sound 34 = .ok (.iload_n 3, 1) := by decide +kernel
theorem dX6_sound_35 : decode cX6_sound 35 = .ok (.invokevirtual 88, 3) := by decide +kernel
theorem dX6_sound_38 : decode cX6_sound 38 = .ok (.ifCond .eq 7, 3) := by decide +kernel
theorem dX6_sound_41 : decode cX6_sound 41 = .ok (.iconst 1, 1) := by decide +kernel
theorem dX6_sound_42 : decode cX6_sound 42 = .ok (.goto 4, 3) := by decide +kernel
theorem dX6_sound_45 : decode cX6_sound 45 = .ok (.iconst 0, 1) := by decide +kernel
theorem dX6_sound_46 : decode cX6_sound 46 = .ok (.iadd, 1) := by decide +kernel
theorem dX6_sound_47 : decode cX6_sound 47 = .ok (.istore_n 2, 1) := by decide +kernel
theorem dX6_sound_48 : decode cX6_sound 48 = .ok (.iinc 3 1, 3) := by decide +kernel
theorem dX6_sound_51 : decode cX6_sound 51 = .ok (.goto (-25), 3) := by decide +kernel
theorem dX6_sound_54 : decode cX6_sound 54 = .ok (.iload_n 2, 1) := by decide +kernel
theorem dX6_sound_55 : decode cX6_sound 55 = .ok (.ireturn, 1) := by decide +kernel
theorem dX6_damage_0 : decode cX6_damage 0 = .ok (.iload_n 1, 1) := by decide +kernel
theorem dX6_damage_1 : decode cX6_damage 1 = .ok (.iconst 0, 1) := by decide +kernel
theorem dX6_damage_2 : decode cX6_damage 2 = .ok (.iconst 3, 1) := by decide +kernel
theorem dX6_damage_3 : decode cX6_damage 3 = .ok (.invokestatic 69, 3) := by decide +kernel
theorem dX6_damage_6 : decode cX6_damage 6 = .ok (.ifCond .eq 24, 3) := by decide +kernel
