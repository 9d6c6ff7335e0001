theorem dX9_packNumber_43 : decode cX9_packNumber 43 = .ok (.bipush 48, 2) := by decide +kernel
theorem dX9_packNumber_45 : decode cX9_packNumber 45 = .ok (.isub, 1) := by decide +kernel
theorem dX9_packNumber_46 : decode cX9_packNumber 46 = .ok (.invokestatic 100, 3) := by decide +kernel
theorem dX9_packNumber_49 : decode cX9_packNumber 49 = .ok (.istore_n 1, 1) := by decide +kernel
theorem dX9_packNumber_50 : decode cX9_packNumber 50 = .ok (.aload_n 0, 1) := by decide +kernel
theorem dX9_packNumber_51 : decode cX9_packNumber 51 = .ok (.dup, 1) := by decide +kernel
theorem dX9_packNumber_52 : decode cX9_packNumber 52 = .ok (.getfield 40, 3) := by decide +kernel
theorem dX9_packNumber_55 : decode cX9_packNumber 55 = .ok (.iconst 1, 1) := by decide +kernel
theorem dX9_packNumber_56 : decode cX9_packNumber 56 = .ok (.iadd, 1) := by decide +kernel
theorem dX9_packNumber_57 : decode cX9_packNumber 57 = .ok (.putfield 40, 3) := by decide +kernel
theorem dX9_packNumber_60 : decode cX9_packNumber 60 = .ok (.goto (-58), 3) := by decide +kernel
theorem dX9_packNumber_63 : decode cX9_packNumber 63 = .ok (.iload_n 1, 1) := by decide +kernel
theorem dX9_packNumber_64 : decode cX9_packNumber 64 = .ok (.ireturn, 1) := by decide +kernel
theorem dX9_indexOfWord_0 : decode cX9_indexOfWord 0 = .ok (.iconst 0, 1) := by decide +kernel
theorem dX9_indexOfWord_1 : decode cX9_indexOfWord 1 = .ok (.istore_n 2, 1) := by decide +kernel
theorem dX9_indexOfWord_2 : decode cX9_indexOfWord 2 = .ok (.iconst 0, 1) := by decide +kernel
theorem dX9_indexOfWord_3 : decode cX9_indexOfWord 3 = .ok (.istore_n 3, 1) := by decide +kernel
theorem dX9_indexOfWord_4 : decode cX9_indexOfWord 4 = .ok (.iconst 0, 1) := by decide +kernel
theorem dX9_indexOfWord_5 : decode cX9_indexOfWord 5 = .ok (.istore 4, 2) := by decide +kernel
theorem dX9_indexOfWord_7 : decode cX9_indexOfWord 7 = .ok (.iload 4, 2) := by decide +kernel
theorem dX9_indexOfWord_9 : decode cX9_indexOfWord 9 = .ok (.aload_n 1, 1) := by decide +kernel
theorem dX9_indexOfWord_10 : decode cX9_indexOfWord 10 = .ok (.invokevirtual 106, 3) := by decide +kernel
theorem dX9_indexOfWord_13 : decode cX9_indexOfWord 13 = .ok (.if_icmp .ge 49, 3) := by decide +kernel
theorem dX9_indexOfWord_16 : decode cX9_indexOfWord 16 = .ok (.aload_n 1, 1) := by decide +kernel
theorem dX9_indexOfWord_17 : decode cX9_indexOfWord 17 = .ok (.iload 4, 2) := by decide +kernel
theorem dX9_indexOfWord_19 : decode cX9_indexOfWord 19 = .ok (.invokevirtual 111, 3) := by decide +kernel
theorem dX9_indexOfWord_22 : decode cX9_indexOfWord 22 = .ok (.istore 5, 2) := by decide +kernel
theorem dX9_indexOfWord_24 : decode cX9_indexOfWord 24 = .ok (.iload 5, 2) := by decide +kernel
theorem dX9_indexOfWord_26 : decode cX9_indexOfWord 26 = .ok (.bipush 32, 2) := by decide +kernel
theorem dX9_indexOfWord_28 : decode cX9_indexOfWord 28 = .ok (.if_icmp .eq 16, 3) := by decide +kernel
theorem dX9_indexOfWord_31 : decode cX9_indexOfWord 31 = .ok (.iload_n 3, 1) := by decide +kernel
theorem dX9_indexOfWord_32 : decode cX9_indexOfWord 32 = .ok (.iconst 5, 1) := by decide +kernel
theorem dX9_indexOfWord_33 : decode cX9_indexOfWord 33 = .ok (.ishl, 1) := by decide +kernel
theorem dX9_indexOfWord_34 : decode cX9_indexOfWord 34 = .ok (.iload 5, 2) := by decide +kernel
theorem dX9_indexOfWord_36 : decode cX9_indexOfWord 36 = .ok (.invokestatic 97, 3) := by decide +kernel
theorem dX9_indexOfWord_39 : decode cX9_indexOfWord 39 = .ok (.ior, 1) := by decide +kernel
theorem dX9_indexOfWord_40 : decode cX9_indexOfWord 40 = .ok (.istore_n 3, 1) := by decide +kernel
theorem dX9_indexOfWord_41 : decode cX9_indexOfWord 41 = .ok (.goto 15, 3) := by decide +kernel
theorem dX9_indexOfWord_44 : decode cX9_indexOfWord 44 = .ok (.iload_n 3, 1) := by decide +kernel
theorem dX9_indexOfWord_45 : decode cX9_indexOfWord 45 = .ok (.iload_n 0, 1) := by decide +kernel
theorem dX9_indexOfWord_46 : decode cX9_indexOfWord 46 = .ok (.if_icmp .ne 5, 3) := by decide +kernel
theorem dX9_indexOfWord_49 : decode cX9_indexOfWord 49 = .ok (.iload_n 2, 1) := by decide +kernel
theorem dX9_indexOfWord_50 : decode cX9_indexOfWord 50 = .ok (.ireturn, 1) := by decide +kernel
theorem dX9_indexOfWord_51 : decode cX9_indexOfWord 51 = .ok (.iinc 2 1, 3) := by decide +kernel
theorem dX9_indexOfWord_54 : decode cX9_indexOfWord 54 = .ok (.iconst 0, 1) := by decide +kernel
theorem dX9_indexOfWord_55 : decode cX9_indexOfWord 55 = .ok (.istore_n 3, 1) := by decide +kernel
theorem dX9_indexOfWord_56 : decode cX9_indexOfWord 56 = .ok (.iinc 4 1, 3) := by decide +kernel
theorem dX9_indexOfWord_59 : decode cX9_indexOfWord 59 = .ok (.goto (-52), 3) := by decide +kernel
theorem dX9_indexOfWord_62 : decode cX9_indexOfWord 62 = .ok (.iconst (-1), 1) := by decide +kernel
theorem dX9_indexOfWord_63 : decode cX9_indexOfWord 63 = .ok (.ireturn, 1) := by decide +kernel
theorem dX9_byteAt_0 : decode cX9_byteAt 0 = .ok (.iload_n 1, 1) := by decide +kernel
theorem dX9_byteAt_1 : decode cX9_byteAt 1 = .ok (.ifCond .lt 27, 3) := by decide +kernel
theorem dX9_byteAt_4 : decode cX9_byteAt 4 = .ok (.iload_n 1, 1) := by decide +kernel
theorem dX9_byteAt_5 : decode cX9_byteAt 5 = .ok (.aload_n 0, 1) := by decide +kernel
theorem dX9_byteAt_6 : decode cX9_byteAt 6 = .ok (.getfield 37, 3) := by decide +kernel
theorem dX9_byteAt_9 : decode cX9_byteAt 9 = .ok (.if_icmp .ge 19, 3) := by decide +kernel
theorem dX9_byteAt_12 : decode cX9_byteAt 12 = .ok (.iload_n 1, 1) := by decide +kernel
theorem dX9_byteAt_13 : decode cX9_byteAt 13 = .ok (.sipush 500, 3) := by decide +kernel
theorem dX9_byteAt_16 : decode cX9_byteAt 16 = .ok (.if_icmp .ge 12, 3) := by decide +kernel
theorem dX9_byteAt_19 : decode cX9_byteAt 19 = .ok (.aload_n 0, 1) := by decide +kernel
theorem dX9_byteAt_20 : decode cX9_byteAt 20 = .ok (.getfield 18, 3) := by decide +kernel
theorem dX9_byteAt_23 : decode cX9_byteAt 23 = .ok (.iload_n 1, 1) := by decide +kernel
theorem dX9_byteAt_24 : decode cX9_byteAt 24 = .ok (.iaload, 1) := by decide +kernel
theorem dX9_byteAt_25 : decode cX9_byteAt 25 = .ok (.goto 4, 3) := by decide +kernel
theorem dX9_byteAt_28 : decode cX9_byteAt 28 = .ok (.iconst (-1), 1) := by decide +kernel
theorem dX9_byteAt_29 : decode cX9_byteAt 29 = .ok (.ireturn, 1) := by decide +kernel
theorem dX9_letterCode_0 : decode cX9_letterCode 0 = .ok (.iload_n 0, 1) := by decide +kernel
theorem dX9_letterCode_1 : decode cX9_letterCode 1 = .ok (.bipush 97, 2) := by decide +kernel
theorem dX9_letterCode_3 : decode cX9_letterCode 3 = .ok (.isub, 1) := by decide +kernel
theorem dX9_letterCode_4 : decode cX9_letterCode 4 = .ok (.iconst 1, 1) := by decide +kernel
theorem dX9_letterCode_5 : decode cX9_letterCode 5 = .ok (.iadd, 1) := by decide +kernel
theorem dX9_letterCode_6 : decode cX9_letterCode 6 = .ok (.ireturn, 1) := by decide +kernel
theorem dX9_isBlank_0 : decode cX9_isBlank 0 = .ok (.iload_n 0, 1) := by decide +kernel
theorem dX9_isBlank_1 : decode cX9_isBlank 1 = .ok (.bipush 10, 2) := by decide +kernel
theorem dX9_isBlank_3 : decode cX9_isBlank 3 = .ok (.if_icmp .eq 9, 3) := by decide +kernel
theorem dX9_isBlank_6 : decode cX9_isBlank 6 = .ok (.iload_n 0, 1) := by decide +kernel
theorem dX9_isBlank_7 : decode cX9_isBlank 7 = .ok (.bipush 32, 2) := by decide +kernel
theorem dX9_isBlank_9 : decode cX9_isBlank 9 = .ok (.if_icmp .ne 7, 3) := by decide +kernel
theorem dX9_isBlank_12 : decode cX9_isBlank 12 = .ok (.iconst 1, 1) := by decide +kernel
theorem dX9_isBlank_13 : decode cX9_isBlank 13 = .ok (.goto 4, 3) := by decide +kernel
theorem dX9_isBlank_16 : decode cX9_isBlank 16 = .ok (.iconst 0, 1) := by decide +kernel
theorem dX9_isBlank_17 : decode cX9_isBlank 17 = .ok (.ireturn, 1) := by decide +kernel
theorem dX9_isLetter_0 : decode cX9_isLetter 0 = .ok (.iload_n 0, 1) := by decide +kernel
theorem dX9_isLetter_1 : decode cX9_isLetter 1 = .ok (.bipush 97, 2) := by decide +kernel
theorem dX9_isLetter_3 : decode cX9_isLetter 3 = .ok (.if_icmp .lt 13, 3) := by decide +kernel
theorem dX9_isLetter_6 : decode cX9_isLetter 6 = .ok (.iload_n 0, 1) := by decide +kernel
theorem dX9_isLetter_7 : decode cX9_isLetter 7 = .ok (.bipush 122, 2) := by decide +kernel
theorem dX9_isLetter_9 : decode cX9_isLetter 9 = .ok (.if_icmp .gt 7, 3) := by decide +kernel
theorem dX9_isLetter_12 : decode cX9_isLetter 12 = .ok (.iconst 1, 1) := by decide +kernel
theorem dX9_isLetter_13 : decode cX9_isLetter 13 = .ok (.goto 4, 3) := by decide +kernel
theorem dX9_isLetter_16 : decode cX9_isLetter 16 = .ok (.iconst 0, 1) := by decide +kernel
theorem dX9_isLetter_17 : decode cX9_isLetter 17 = .ok (.ireturn, 1) := by decide +kernel
theorem dX9_isDigit_0 : decode cX9_isDigit 0 = .ok (.iload_n 0, 1) := by decide +kernel
theorem dX9_isDigit_1 : decode cX9_isDigit 1 = .ok (.bipush 48, 2) := by decide +kernel
theorem dX9_isDigit_3 : decode cX9_isDigit 3 = .ok (.if_icmp .lt 13, 3) := by decide +kernel
theorem dX9_isDigit_6 : decode cX9_isDigit 6 = .ok (.iload_n 0, 1) := by decide +kernel
theorem dX9_isDigit_7 : decode cX9_isDigit 7 = .ok (.bipush 57, 2) := by decide +kernel
theorem dX9_isDigit_9 : decode cX9_isDigit 9 = .ok (.if_icmp .gt 7, 3) := by decide +kernel
theorem dX9_isDigit_12 : decode cX9_isDigit 12 = .ok (.iconst 1, 1) := by decide +kernel
theorem dX9_isDigit_13 : decode cX9_isDigit 13 = .ok (.goto 4, 3) := by decide +kernel
theorem dX9_isDigit_16 : decode cX9_isDigit 16 = .ok (.iconst 0, 1) := by decide +kernel
theorem dX9_isDigit_17 : decode cX9_isDigit 17 = .ok (.ireturn, 1) := by decide +kernel
theorem dX10_init_0 : decode cX10_init 0 = .ok (.aload_n 0, 1) := by decide +kernel
theorem dX10_init_1 : decode cX10_init 1 = .ok (.invokespecial 1, 3) := by decide +kernel
theorem dX10_init_4 : decode cX10_init 4 = .ok (.aload_n 0, 1) := by decide +kernel
theorem dX10_init_5 : decode cX10_init 5 = .ok (.new 7, 3) := by decide +kernel
theorem dX10_init_8 : decode cX10_init 8 = .ok (.dup, 1) := by decide +kernel
theorem dX10_init_9 : decode cX10_init 9 = .ok (.invokespecial 9, 3) := by decide +kernel
theorem dX10_init_12 : decode cX10_init 12 = .ok (.putfield 10, 3) := by decide +kernel
theorem dX10_init_15 : decode cX10_init 15 = .ok (.aload_n 0, 1) := by decide +kernel
theorem dX10_init_16 : decode cX10_init 16 = .ok (.new 16, 3) := by decide +kernel
theorem dX10_init_19 : decode cX10_init 19 = .ok (.dup, 1) := by decide +kernel
theorem dX10_init_20 : decode cX10_init 20 = .ok (.aload_n 0, 1) := by decide +kernel
theorem dX10_init_21 : decode cX10_init 21 = .ok (.getfield 10, 3) := by decide +kernel
theorem dX10_init_24 : decode cX10_init 24 = .ok (.invokespecial 18, 3) := by decide +kernel
theorem dX10_init_27 : decode cX10_init 27 = .ok (.putfield 21, 3) := by decide +kernel
theorem dX10_init_30 : decode cX10_init 30 = .ok (.aload_n 0, 1) := by decide +kernel
theorem dX10_init_31 : decode cX10_init 31 = .ok (.new 25, 3) := by decide +kernel
theorem dX10_init_34 : decode cX10_init 34 = .ok (.dup, 1) := by decide +kernel
theorem dX10_init_35 : decode cX10_init 35 = .ok (.aload_n 0, 1) := by decide +kernel
theorem dX10_init_36 : decode cX10_init 36 = .ok (.getfield 10, 3) := by decide +kernel
theorem dX10_init_39 : decode cX10_init 39 = .ok (.invokespecial 27, 3) := by decide +kernel
theorem dX10_init_42 : decode cX10_init 42 = .ok (.putfield 28, 3) := by decide +kernel
theorem dX10_init_45 : decode cX10_init 45 = .ok (.aload_n 0, 1) := by decide +kernel
theorem dX10_init_46 : decode cX10_init 46 = .ok (.new 32, 3) := by decide +kernel
theorem dX10_init_49 : decode cX10_init 49 = .ok (.dup, 1) := by decide +kernel
theorem dX10_init_50 : decode cX10_init 50 = .ok (.invokespecial 34, 3) := by decide +kernel
theorem dX10_init_53 : decode cX10_init 53 = .ok (.putfield 35, 3) := by decide +kernel
theorem dX10_init_56 : decode cX10_init 56 = .ok (.aload_n 0, 1) := by decide +kernel
theorem dX10_init_57 : decode cX10_init 57 = .ok (.new 39, 3) := by decide +kernel
theorem dX10_init_60 : decode cX10_init 60 = .ok (.dup, 1) := by decide +kernel
theorem dX10_init_61 : decode cX10_init 61 = .ok (.invokespecial 41, 3) := by decide +kernel
theorem dX10_init_64 : decode cX10_init 64 = .ok (.putfield 42, 3) := by decide +kernel
theorem dX10_init_67 : decode cX10_init 67 = .ok (.aload_n 0, 1) := by decide +kernel
theorem dX10_init_68 : decode cX10_init 68 = .ok (.new 46, 3) := by decide +kernel
theorem dX10_init_71 : decode cX10_init 71 = .ok (.dup, 1) := by decide +kernel
theorem dX10_init_72 : decode cX10_init 72 = .ok (.invokespecial 48, 3) := by decide +kernel
theorem dX10_init_75 : decode cX10_init 75 = .ok (.putfield 49, 3) := by decide +kernel
theorem dX10_init_78 : decode cX10_init 78 = .ok (.aload_n 0, 1) := by decide +kernel
theorem dX10_init_79 : decode cX10_init 79 = .ok (.new 53, 3) := by decide +kernel
theorem dX10_init_82 : decode cX10_init 82 = .ok (.dup, 1) := by decide +kernel
theorem dX10_init_83 : decode cX10_init 83 = .ok (.invokespecial 55, 3) := by decide +kernel
theorem dX10_init_86 : decode cX10_init 86 = .ok (.putfield 56, 3) := by decide +kernel
theorem dX10_init_89 : decode cX10_init 89 = .ok (.aload_n 0, 1) := by decide +kernel
theorem dX10_init_90 : decode cX10_init 90 = .ok (.new 60, 3) := by decide +kernel
theorem dX10_init_93 : decode cX10_init 93 = .ok (.dup, 1) := by decide +kernel
theorem dX10_init_94 : decode cX10_init 94 = .ok (.invokespecial 62, 3) := by decide +kernel
theorem dX10_init_97 : decode cX10_init 97 = .ok (.putfield 63, 3) := by decide +kernel
theorem dX10_init_100 : decode cX10_init 100 = .ok (.aload_n 0, 1) := by decide +kernel
theorem dX10_init_101 : decode cX10_init 101 = .ok (.iconst 4, 1) := by decide +kernel
theorem dX10_init_102 : decode cX10_init 102 = .ok (.anewarray 46, 3) := by decide +kernel
theorem dX10_init_105 : decode cX10_init 105 = .ok (.putfield 67, 3) := by decide +kernel
theorem dX10_init_108 : decode cX10_init 108 = .ok (.aload_n 0, 1) := by decide +kernel
theorem dX10_init_109 : decode cX10_init 109 = .ok (.iconst 4, 1) := by decide +kernel
theorem dX10_init_110 : decode cX10_init 110 = .ok (.anewarray 53, 3) := by decide +kernel
theorem dX10_init_113 : decode cX10_init 113 = .ok (.putfield 71, 3) := by decide +kernel
theorem dX10_init_116 : decode cX10_init 116 = .ok (.aload_n 0, 1) := by decide +kernel
theorem dX10_init_117 : decode cX10_init 117 = .ok (.iconst 4, 1) := by decide +kernel
theorem dX10_init_118 : decode cX10_init 118 = .ok (.newarray .int, 2) := by decide +kernel
theorem dX10_init_120 : decode cX10_init 120 = .ok (.putfield 75, 3) := by decide +kernel
theorem dX10_init_123 : decode cX10_init 123 = .ok (.aload_n 0, 1) := by decide +kernel
theorem dX10_init_124 : decode cX10_init 124 = .ok (.new 53, 3) := by decide +kernel
theorem dX10_init_127 : decode cX10_init 127 = .ok (.dup, 1) := by decide +kernel
theorem dX10_init_128 : decode cX10_init 128 = .ok (.invokespecial 55, 3) := by decide +kernel
theorem dX10_init_131 : decode cX10_init 131 = .ok (.putfield 79, 3) := by decide +kernel
theorem dX10_init_134 : decode cX10_init 134 = .ok (.aload_n 0, 1) := by decide +kernel
theorem dX10_init_135 : decode cX10_init 135 = .ok (.new 82, 3) := by decide +kernel
theorem dX10_init_138 : decode cX10_init 138 = .ok (.dup, 1) := by decide +kernel
theorem dX10_init_139 : decode cX10_init 139 = .ok (.invokespecial 84, 3) := by decide +kernel
theorem dX10_init_142 : decode cX10_init 142 = .ok (.putfield 85, 3) := by decide +kernel
theorem dX10_init_145 : decode cX10_init 145 = .ok (.aload_n 0, 1) := by decide +kernel
theorem dX10_init_146 : decode cX10_init 146 = .ok (.new 89, 3) := by decide +kernel
theorem dX10_init_149 : decode cX10_init 149 = .ok (.dup, 1) := by decide +kernel
theorem dX10_init_150 : decode cX10_init 150 = .ok (.invokespecial 91, 3) := by decide +kernel
theorem dX10_init_153 : decode cX10_init 153 = .ok (.putfield 92, 3) := by decide +kernel
theorem dX10_init_156 : decode cX10_init 156 = .ok (.iconst 0, 1) := by decide +kernel
theorem dX10_init_157 : decode cX10_init 157 = .ok (.istore_n 1, 1) := by decide +kernel
theorem dX10_init_158 : decode cX10_init 158 = .ok (.iload_n 1, 1) := by decide +kernel
theorem dX10_init_159 : decode cX10_init 159 = .ok (.iconst 4, 1) := by decide +kernel
theorem dX10_init_160 : decode cX10_init 160 = .ok (.if_icmp .ge 35, 3) := by decide +kernel
theorem dX10_init_163 : decode cX10_init 163 = .ok (.aload_n 0, 1) := by decide +kernel
theorem dX10_init_164 : decode cX10_init 164 = .ok (.getfield 67, 3) := by decide +kernel
theorem dX10_init_167 : decode cX10_init 167 = .ok (.iload_n 1, 1) := by decide +kernel
theorem dX10_init_168 : decode cX10_init 168 = .ok (.new 46, 3) := by decide +kernel
theorem dX10_init_171 : decode cX10_init 171 = .ok (.dup, 1) := by decide +kernel
theorem dX10_init_172 : decode cX10_init 172 = .ok (.invokespecial 48, 3) := by decide +kernel
theorem dX10_init_175 : decode cX10_init 175 = .ok (.aastore, 1) := by decide +kernel
theorem dX10_init_176 : decode cX10_init 176 = .ok (.aload_n 0, 1) := by decide +kernel
theorem dX10_init_177 : decode cX10_init 177 = .ok (.getfield 71, 3) := by decide +kernel
theorem dX10_init_180 : decode cX10_init 180 = .ok (.iload_n 1, 1) := by decide +kernel
theorem dX10_init_181 : decode cX10_init 181 = .ok (.new 53, 3) := by decide +kernel
theorem dX10_init_184 : decode cX10_init 184 = .ok (.dup, 1) := by decide +kernel
theorem dX10_init_185 : decode cX10_init 185 = .ok (.invokespecial 55, 3) := by decide +kernel
theorem dX10_init_188 : decode cX10_init 188 = .ok (.aastore, 1) := by decide +kernel
theorem dX10_init_189 : decode cX10_init 189 = .ok (.iinc 1 1, 3) := by decide +kernel
theorem dX10_init_192 : decode cX10_init 192 = .ok (.goto (-34), 3) := by decide +kernel
theorem dX10_init_195 : decode cX10_init 195 = .ok (.return_, 1) := by decide +kernel
theorem dX10_feed_0 : decode cX10_feed 0 = .ok (.aload_n 0, 1) := by decide +kernel
theorem dX10_feed_1 : decode cX10_feed 1 = .ok (.getfield 10, 3) := by decide +kernel
theorem dX10_feed_4 : decode cX10_feed 4 = .ok (.bipush 20, 2) := by decide +kernel
theorem dX10_feed_6 : decode cX10_feed 6 = .ok (.invokevirtual 96, 3) := by decide +kernel
theorem dX10_feed_9 : decode cX10_feed 9 = .ok (.ifCond .ne 5, 3) := by decide +kernel
theorem dX10_feed_12 : decode cX10_feed 12 = .ok (.iconst (-1), 1) := by decide +kernel
theorem dX10_feed_13 : decode cX10_feed 13 = .ok (.ireturn, 1) := by decide +kernel
theorem dX10_feed_14 : decode cX10_feed 14 = .ok (.aload_n 0, 1) := by decide +kernel
theorem dX10_feed_15 : decode cX10_feed 15 = .ok (.getfield 10, 3) := by decide +kernel
theorem dX10_feed_18 : decode cX10_feed 18 = .ok (.iload_n 1, 1) := by decide +kernel
theorem dX10_feed_19 : decode cX10_feed 19 = .ok (.invokevirtual 100, 3) := by decide +kernel
theorem dX10_feed_22 : decode cX10_feed 22 = .ok (.aload_n 0, 1) := by decide +kernel
theorem dX10_feed_23 : decode cX10_feed 23 = .ok (.getfield 10, 3) := by decide +kernel
theorem dX10_feed_26 : decode cX10_feed 26 = .ok (.iload_n 2, 1) := by decide +kernel
theorem dX10_feed_27 : decode cX10_feed 27 = .ok (.invokevirtual 100, 3) := by decide +kernel
theorem dX10_feed_30 : decode cX10_feed 30 = .ok (.aload_n 0, 1) := by decide +kernel
theorem dX10_feed_31 : decode cX10_feed 31 = .ok (.getfield 10, 3) := by decide +kernel
theorem dX10_feed_34 : decode cX10_feed 34 = .ok (.iload_n 3, 1) := by decide +kernel
theorem dX10_feed_35 : decode cX10_feed 35 = .ok (.invokevirtual 100, 3) := by decide +kernel
theorem dX10_feed_38 : decode cX10_feed 38 = .ok (.aload_n 0, 1) := by decide +kernel
theorem dX10_feed_39 : decode cX10_feed 39 = .ok (.getfield 10, 3) := by decide +kernel
theorem dX10_feed_42 : decode cX10_feed 42 = .ok (.iload 4, 2) := by decide +kernel
theorem dX10_feed_44 : decode cX10_feed 44 = .ok (.invokevirtual 100, 3) := by decide +kernel
theorem dX10_feed_47 : decode cX10_feed 47 = .ok (.aload_n 0, 1) := by decide +kernel
theorem dX10_feed_48 : decode cX10_feed 48 = .ok (.getfield 10, 3) := by decide +kernel
theorem dX10_feed_51 : decode cX10_feed 51 = .ok (.iload 5, 2) := by decide +kernel
theorem dX10_feed_53 : decode cX10_feed 53 = .ok (.invokevirtual 100, 3) := by decide +kernel
theorem dX10_feed_56 : decode cX10_feed 56 = .ok (.aload_n 0, 1) := by decide +kernel
theorem dX10_feed_57 : decode cX10_feed 57 = .ok (.getfield 10, 3) := by decide +kernel
theorem dX10_feed_60 : decode cX10_feed 60 = .ok (.getfield 104, 3) := by decide +kernel
theorem dX10_feed_63 : decode cX10_feed 63 = .ok (.ireturn, 1) := by decide +kernel
theorem dX10_rules_0 : decode cX10_rules 0 = .ok (.iload_n 1, 1) := by decide +kernel
theorem dX10_rules_1 : decode cX10_rules 1 = .ok (.ifCond .lt 14, 3) := by decide +kernel
theorem dX10_rules_4 : decode cX10_rules 4 = .ok (.iload_n 1, 1) := by decide +kernel
theorem dX10_rules_5 : decode cX10_rules 5 = .ok (.aload_n 0, 1) := by decide +kernel
theorem dX10_rules_6 : decode cX10_rules 6 = .ok (.getfield 10, 3) := by decide +kernel
theorem dX10_rules_9 : decode cX10_rules 9 = .ok (.getfield 104, 3) := by decide +kernel
theorem dX10_rules_12 : decode cX10_rules 12 = .ok (.if_icmp .le 6, 3) := by decide +kernel
theorem dX10_rules_15 : decode cX10_rules 15 = .ok (.bipush (-2), 2) := by decide +kernel
theorem dX10_rules_17 : decode cX10_rules 17 = .ok (.ireturn, 1) := by decide +kernel
theorem dX10_rules_18 : decode cX10_rules 18 = .ok (.aload_n 0, 1) := by decide +kernel
theorem dX10_rules_19 : decode cX10_rules 19 = .ok (.getfield 21, 3) := by decide +kernel
theorem dX10_rules_22 : decode cX10_rules 22 = .ok (.iload_n 1, 1) := by decide +kernel
theorem dX10_rules_23 : decode cX10_rules 23 = .ok (.invokevirtual 108, 3) := by decide +kernel
theorem dX10_rules_26 : decode cX10_rules 26 = .ok (.ifCond .ne 5, 3) := by decide +kernel
theorem dX10_rules_29 : decode cX10_rules 29 = .ok (.iconst (-1), 1) := by decide +kernel
theorem dX10_rules_30 : decode cX10_rules 30 = .ok (.ireturn, 1) := by decide +kernel
theorem dX10_rules_31 : decode cX10_rules 31 = .ok (.aload_n 0, 1) := by decide +kernel
theorem dX10_rules_32 : decode cX10_rules 32 = .ok (.aload_n 0, 1) := by decide +kernel
theorem dX10_rules_33 : decode cX10_rules 33 = .ok (.getfield 21, 3) := by decide +kernel
theorem dX10_rules_36 : decode cX10_rules 36 = .ok (.aload_n 0, 1) := by decide +kernel
theorem dX10_rules_37 : decode cX10_rules 37 = .ok (.getfield 35, 3) := by decide +kernel
theorem dX10_rules_40 : decode cX10_rules 40 = .ok (.invokevirtual 111, 3) := by decide +kernel
theorem dX10_rules_43 : decode cX10_rules 43 = .ok (.putfield 35, 3) := by decide +kernel
theorem dX10_rules_46 : decode cX10_rules 46 = .ok (.aload_n 0, 1) := by decide +kernel
theorem dX10_rules_47 : decode cX10_rules 47 = .ok (.getfield 56, 3) := by decide +kernel
theorem dX10_rules_50 : decode cX10_rules 50 = .ok (.iconst (-1), 1) := by decide +kernel
theorem dX10_rules_51 : decode cX10_rules 51 = .ok (.putfield 115, 3) := by decide +kernel
theorem dX10_rules_54 : decode cX10_rules 54 = .ok (.aload_n 0, 1) := by decide +kernel
theorem dX10_rules_55 : decode cX10_rules 55 = .ok (.getfield 85, 3) := by decide +kernel
theorem dX10_rules_58 : decode cX10_rules 58 = .ok (.invokevirtual 118, 3) := by decide +kernel
theorem dX10_rules_61 : decode cX10_rules 61 = .ok (.aload_n 0, 1) := by decide +kernel
theorem dX10_rules_62 : decode cX10_rules 62 = .ok (.getfield 35, 3) := by decide +kernel
theorem dX10_rules_65 : decode cX10_rules 65 = .ok (.getfield 121, 3) := by decide +kernel
theorem dX10_rules_68 : decode cX10_rules 68 = .ok (.ireturn, 1) := by decide +kernel
theorem dX10_net_0 : decode cX10_net 0 = .ok (.iload_n 1, 1) := by decide +kernel
theorem dX10_net_1 : decode cX10_net 1 = .ok (.ifCond .lt 14, 3) := by decide +kernel
theorem dX10_net_4 : decode cX10_net 4 = .ok (.iload_n 1, 1) := by decide +kernel
theorem dX10_net_5 : decode cX10_net 5 = .ok (.aload_n 0, 1) := by decide +kernel
theorem dX10_net_6 : decode cX10_net 6 = .ok (.getfield 10, 3) := by decide +kernel
theorem dX10_net_9 : decode cX10_net 9 = .ok (.getfield 104, 3) := by decide +kernel
theorem dX10_net_12 : decode cX10_net 12 = .ok (.if_icmp .le 6, 3) := by decide +kernel
theorem dX10_net_15 : decode cX10_net 15 = .ok (.bipush (-2), 2) := by decide +kernel
theorem dX10_net_17 : decode cX10_net 17 = .ok (.ireturn, 1) := by decide +kernel
theorem dX10_net_18 : decode cX10_net 18 = .ok (.aload_n 0, 1) := by decide +kernel
theorem dX10_net_19 : decode cX10_net 19 = .ok (.getfield 28, 3) := by decide +kernel
theorem dX10_net_22 : decode cX10_net 22 = .ok (.iload_n 1, 1) := by decide +kernel
theorem dX10_net_23 : decode cX10_net 23 = .ok (.invokevirtual 124, 3) := by decide +kernel
theorem dX10_net_26 : decode cX10_net 26 = .ok (.ifCond .ne 5, 3) := by decide +kernel
theorem dX10_net_29 : decode cX10_net 29 = .ok (.iconst (-1), 1) := by decide +kernel
theorem dX10_net_30 : decode cX10_net 30 = .ok (.ireturn, 1) := by decide +kernel
theorem dX10_net_31 : decode cX10_net 31 = .ok (.aload_n 0, 1) := by decide +kernel
theorem dX10_net_32 : decode cX10_net 32 = .ok (.aload_n 0, 1) := by decide +kernel
theorem dX10_net_33 : decode cX10_net 33 = .ok (.getfield 28, 3) := by decide +kernel
theorem dX10_net_36 : decode cX10_net 36 = .ok (.aload_n 0, 1) := by decide +kernel
theorem dX10_net_37 : decode cX10_net 37 = .ok (.getfield 42, 3) := by decide +kernel
theorem dX10_net_40 : decode cX10_net 40 = .ok (.invokevirtual 125, 3) := by decide +kernel
theorem dX10_net_43 : decode cX10_net 43 = .ok (.putfield 42, 3) := by decide +kernel
theorem dX10_net_46 : decode cX10_net 46 = .ok (.aload_n 0, 1) := by decide +kernel
theorem dX10_net_47 : decode cX10_net 47 = .ok (.getfield 63, 3) := by decide +kernel
theorem dX10_net_50 : decode cX10_net 50 = .ok (.invokevirtual 128, 3) := by decide +kernel
theorem dX10_net_53 : decode cX10_net 53 = .ok (.aload_n 0, 1) := by decide +kernel
theorem dX10_net_54 : decode cX10_net 54 = .ok (.iconst 0, 1) := by decide +kernel
theorem dX10_net_55 : decode cX10_net 55 = .ok (.putfield 131, 3) := by decide +kernel
theorem dX10_net_58 : decode cX10_net 58 = .ok (.aload_n 0, 1) := by decide +kernel
theorem dX10_net_59 : decode cX10_net 59 = .ok (.getfield 42, 3) := by decide +kernel
theorem dX10_net_62 : decode cX10_net 62 = .ok (.getfield 134, 3) := by decide +kernel
theorem dX10_net_65 : decode cX10_net 65 = .ok (.ireturn, 1) := by decide +kernel
theorem dX10_fault_0 : decode cX10_fault 0 = .ok (.iload_n 1, 1) := by decide +kernel
theorem dX10_fault_1 : decode cX10_fault 1 = .ok (.lookupswitch 43 #[(0, 27), (1, 35)], 27) := by decide +kernel
theorem dX10_fault_28 : decode cX10_fault 28 = .ok (.aload_n 0, 1) := by decide +kernel
theorem dX10_fault_29 : decode cX10_fault 29 = .ok (.getfield 10, 3) := by decide +kernel
theorem dX10_fault_32 : decode cX10_fault 32 = .ok (.getfield 137, 3) := by decide +kernel
theorem dX10_fault_35 : decode cX10_fault 35 = .ok (.ireturn, 1) := by decide +kernel
theorem dX10_fault_36 : decode cX10_fault 36 = .ok (.aload_n 0, 1) := by decide +kernel
theorem dX10_fault_37 : decode cX10_fault 37 = .ok (.getfield 10, 3) := by decide +kernel
theorem dX10_fault_40 : decode cX10_fault 40 = .ok (.getfield 140, 3) := by decide +kernel
theorem dX10_fault_43 : decode cX10_fault 43 = .ok (.ireturn, 1) := by decide +kernel
theorem dX10_fault_44 : decode cX10_fault 44 = .ok (.iconst (-1), 1) := by decide +kernel
theorem dX10_fault_45 : decode cX10_fault 45 = .ok (.ireturn, 1) := by decide +kernel
theorem dX10_floor_0 : decode cX10_floor 0 = .ok (.iload_n 1, 1) := by decide +kernel
theorem dX10_floor_1 : decode cX10_floor 1 = .ok (.iconst 2, 1) := by decide +kernel
theorem dX10_floor_2 : decode cX10_floor 2 = .ok (.if_icmp .lt 20, 3) := by decide +kernel
theorem dX10_floor_5 : decode cX10_floor 5 = .ok (.iload_n 1, 1) := by decide +kernel
theorem dX10_floor_6 : decode cX10_floor 6 = .ok (.bipush 6, 2) := by decide +kernel
theorem dX10_floor_8 : decode cX10_floor 8 = .ok (.if_icmp .gt 14, 3) := by decide +kernel
theorem dX10_floor_11 : decode cX10_floor 11 = .ok (.iload_n 2, 1) := by decide +kernel
theorem dX10_floor_12 : decode cX10_floor 12 = .ok (.iconst 2, 1) := by decide +kernel
theorem dX10_floor_13 : decode cX10_floor 13 = .ok (.if_icmp .lt 9, 3) := by decide +kernel
theorem dX10_floor_16 : decode cX10_floor 16 = .ok (.iload_n 2, 1) := by decide +kernel
theorem dX10_floor_17 : decode cX10_floor 17 = .ok (.bipush 6, 2) := by decide +kernel
theorem dX10_floor_19 : decode cX10_floor 19 = .ok (.if_icmp .le 5, 3) := by decide +kernel
theorem dX10_floor_22 : decode cX10_floor 22 = .ok (.iconst 0, 1) := by decide +kernel
theorem dX10_floor_23 : decode cX10_floor 23 = .ok (.ireturn, 1) := by decide +kernel
theorem dX10_floor_24 : decode cX10_floor 24 = .ok (.aload_n 0, 1) := by decide +kernel
theorem dX10_floor_25 : decode cX10_floor 25 = .ok (.getfield 49, 3) := by decide +kernel
theorem dX10_floor_28 : decode cX10_floor 28 = .ok (.iload_n 1, 1) := by decide +kernel
theorem dX10_floor_29 : decode cX10_floor 29 = .ok (.iload_n 2, 1) := by decide +kernel
theorem dX10_floor_30 : decode cX10_floor 30 = .ok (.invokevirtual 143, 3) := by decide +kernel
theorem dX10_floor_33 : decode cX10_floor 33 = .ok (.aload_n 0, 1) := by decide +kernel
theorem dX10_floor_34 : decode cX10_floor 34 = .ok (.getfield 56, 3) := by decide +kernel
theorem dX10_floor_37 : decode cX10_floor 37 = .ok (.iconst 0, 1) := by decide +kernel
theorem dX10_floor_38 : decode cX10_floor 38 = .ok (.invokevirtual 147, 3) := by decide +kernel
theorem dX10_floor_41 : decode cX10_floor 41 = .ok (.aload_n 0, 1) := by decide +kernel
theorem dX10_floor_42 : decode cX10_floor 42 = .ok (.getfield 56, 3) := by decide +kernel
theorem dX10_floor_45 : decode cX10_floor 45 = .ok (.iconst (-1), 1) := by decide +kernel
theorem dX10_floor_46 : decode cX10_floor 46 = .ok (.putfield 115, 3) := by decide +kernel
theorem dX10_floor_49 : decode cX10_floor 49 = .ok (.aload_n 0, 1) := by decide +kernel
theorem dX10_floor_50 : decode cX10_floor 50 = .ok (.getfield 63, 3) := by decide +kernel
theorem dX10_floor_53 : decode cX10_floor 53 = .ok (.invokevirtual 150, 3) := by decide +kernel
theorem dX10_floor_56 : decode cX10_floor 56 = .ok (.aload_n 0, 1) := by decide +kernel
theorem dX10_floor_57 : decode cX10_floor 57 = .ok (.getfield 10, 3) := by decide +kernel
theorem dX10_floor_60 : decode cX10_floor 60 = .ok (.iconst 0, 1) := by decide +kernel
theorem dX10_floor_61 : decode cX10_floor 61 = .ok (.putfield 104, 3) := by decide +kernel
theorem dX10_floor_64 : decode cX10_floor 64 = .ok (.aload_n 0, 1) := by decide +kernel
theorem dX10_floor_65 : decode cX10_floor 65 = .ok (.iconst 0, 1) := by decide +kernel
theorem dX10_floor_66 : decode cX10_floor 66 = .ok (.putfield 131, 3) := by decide +kernel
theorem dX10_floor_69 : decode cX10_floor 69 = .ok (.iconst 1, 1) := by decide +kernel
theorem dX10_floor_70 : decode cX10_floor 70 = .ok (.ireturn, 1) := by decide +kernel
theorem dX10_wall_0 : decode cX10_wall 0 = .ok (.aload_n 0, 1) := by decide +kernel
theorem dX10_wall_1 : decode cX10_wall 1 = .ok (.getfield 49, 3) := by decide +kernel
theorem dX10_wall_4 : decode cX10_wall 4 = .ok (.iload_n 1, 1) := by decide +kernel
theorem dX10_wall_5 : decode cX10_wall 5 = .ok (.invokevirtual 153, 3) := by decide +kernel
theorem dX10_wall_8 : decode cX10_wall 8 = .ok (.ifCond .eq 22, 3) := by decide +kernel
theorem dX10_wall_11 : decode cX10_wall 11 = .ok (.iload_n 2, 1) := by decide +kernel
theorem dX10_wall_12 : decode cX10_wall 12 = .ok (.invokestatic 156, 3) := by decide +kernel
theorem dX10_wall_15 : decode cX10_wall 15 = .ok (.ifCond .eq 15, 3) := by decide +kernel
theorem dX10_wall_18 : decode cX10_wall 18 = .ok (.aload_n 0, 1) := by decide +kernel
theorem dX10_wall_19 : decode cX10_wall 19 = .ok (.getfield 49, 3) := by decide +kernel
theorem dX10_wall_22 : decode cX10_wall 22 = .ok (.iload_n 1, 1) := by decide +kernel
theorem dX10_wall_23 : decode cX10_wall 23 = .ok (.iload_n 2, 1) := by decide +kernel
theorem dX10_wall_24 : decode cX10_wall 24 = .ok (.invokevirtual 159, 3) := by decide +kernel
theorem dX10_wall_27 : decode cX10_wall 27 = .ok (.ifCond .eq 5, 3) := by decide +kernel
theorem dX10_wall_30 : decode cX10_wall 30 = .ok (.iconst 0, 1) := by decide +kernel
theorem dX10_wall_31 : decode cX10_wall 31 = .ok (.ireturn, 1) := by decide +kernel
theorem dX10_wall_32 : decode cX10_wall 32 = .ok (.aload_n 0, 1) := by decide +kernel
theorem dX10_wall_33 : decode cX10_wall 33 = .ok (.getfield 49, 3) := by decide +kernel
theorem dX10_wall_36 : decode cX10_wall 36 = .ok (.iload_n 1, 1) := by decide +kernel
theorem dX10_wall_37 : decode cX10_wall 37 = .ok (.iload_n 2, 1) := by decide +kernel
theorem dX10_wall_38 : decode cX10_wall 38 = .ok (.invokevirtual 163, 3) := by decide +kernel
theorem dX10_wall_41 : decode cX10_wall 41 = .ok (.iload_n 3, 1) := by decide +kernel
theorem dX10_wall_42 : decode cX10_wall 42 = .ok (.if_icmp .ne 5, 3) := by decide +kernel
theorem dX10_wall_45 : decode cX10_wall 45 = .ok (.iconst 0, 1) := by decide +kernel
theorem dX10_wall_46 : decode cX10_wall 46 = .ok (.ireturn, 1) := by decide +kernel
theorem dX10_wall_47 : decode cX10_wall 47 = .ok (.aload_n 0, 1) := by decide +kernel
theorem dX10_wall_48 : decode cX10_wall 48 = .ok (.getfield 49, 3) := by decide +kernel
theorem dX10_wall_51 : decode cX10_wall 51 = .ok (.iload_n 1, 1) := by decide +kernel
theorem dX10_wall_52 : decode cX10_wall 52 = .ok (.iload_n 2, 1) := by decide +kernel
theorem dX10_wall_53 : decode cX10_wall 53 = .ok (.iload_n 3, 1) := by decide +kernel
theorem dX10_wall_54 : decode cX10_wall 54 = .ok (.invokevirtual 166, 3) := by decide +kernel
theorem dX10_wall_57 : decode cX10_wall 57 = .ok (.iconst 1, 1) := by decide +kernel
theorem dX10_wall_58 : decode cX10_wall 58 = .ok (.ireturn, 1) := by decide +kernel
theorem dX10_bell_0 : decode cX10_bell 0 = .ok (.aload_n 0, 1) := by decide +kernel
theorem dX10_bell_1 : decode cX10_bell 1 = .ok (.getfield 49, 3) := by decide +kernel
theorem dX10_bell_4 : decode cX10_bell 4 = .ok (.iload_n 1, 1) := by decide +kernel
theorem dX10_bell_5 : decode cX10_bell 5 = .ok (.invokevirtual 153, 3) := by decide +kernel
theorem dX10_bell_8 : decode cX10_bell 8 = .ok (.ifCond .ne 5, 3) := by decide +kernel
theorem dX10_bell_11 : decode cX10_bell 11 = .ok (.iconst 0, 1) := by decide +kernel
theorem dX10_bell_12 : decode cX10_bell 12 = .ok (.ireturn, 1) := by decide +kernel
theorem dX10_bell_13 : decode cX10_bell 13 = .ok (.aload_n 0, 1) := by decide +kernel
theorem dX10_bell_14 : decode cX10_bell 14 = .ok (.getfield 49, 3) := by decide +kernel
theorem dX10_bell_17 : decode cX10_bell 17 = .ok (.iload_n 1, 1) := by decide +kernel
theorem dX10_bell_18 : decode cX10_bell 18 = .ok (.putfield 170, 3) := by decide +kernel
theorem dX10_bell_21 : decode cX10_bell 21 = .ok (.iconst 1, 1) := by decide +kernel
theorem dX10_bell_22 : decode cX10_bell 22 = .ok (.ireturn, 1) := by decide +kernel
theorem dX10_lift_0 : decode cX10_lift 0 = .ok (.aload_n 0, 1) := by decide +kernel
theorem dX10_lift_1 : decode cX10_lift 1 = .ok (.getfield 49, 3) := by decide +kernel
theorem dX10_lift_4 : decode cX10_lift 4 = .ok (.iload_n 1, 1) := by decide +kernel
theorem dX10_lift_5 : decode cX10_lift 5 = .ok (.invokevirtual 153, 3) := by decide +kernel
theorem dX10_lift_8 : decode cX10_lift 8 = .ok (.ifCond .eq 10, 3) := by decide +kernel
theorem dX10_lift_11 : decode cX10_lift 11 = .ok (.iload_n 2, 1) := by decide +kernel
theorem dX10_lift_12 : decode cX10_lift 12 = .ok (.invokestatic 156, 3) := by decide +kernel
theorem dX10_lift_15 : decode cX10_lift 15 = .ok (.ifCond .ne 5, 3) := by decide +kernel
theorem dX10_lift_18 : decode cX10_lift 18 = .ok (.iconst 0, 1) := by decide +kernel
theorem dX10_lift_19 : decode cX10_lift 19 = .ok (.ireturn, 1) := by decide +kernel
theorem dX10_lift_20 : decode cX10_lift 20 = .ok (.aload_n 0, 1) := by decide +kernel
theorem dX10_lift_21 : decode cX10_lift 21 = .ok (.getfield 56, 3) := by decide +kernel
theorem dX10_lift_24 : decode cX10_lift 24 = .ok (.iload_n 1, 1) := by decide +kernel
theorem dX10_lift_25 : decode cX10_lift 25 = .ok (.putfield 173, 3) := by decide +kernel
theorem dX10_lift_28 : decode cX10_lift 28 = .ok (.aload_n 0, 1) := by decide +kernel
theorem dX10_lift_29 : decode cX10_lift 29 = .ok (.getfield 56, 3) := by decide +kernel
theorem dX10_lift_32 : decode cX10_lift 32 = .ok (.iload_n 2, 1) := by decide +kernel
theorem dX10_lift_33 : decode cX10_lift 33 = .ok (.putfield 176, 3) := by decide +kernel
theorem dX10_lift_36 : decode cX10_lift 36 = .ok (.iconst 1, 1) := by decide +kernel
theorem dX10_lift_37 : decode cX10_lift 37 = .ok (.ireturn, 1) := by decide +kernel
theorem dX10_wipe_0 : decode cX10_wipe 0 = .ok (.aload_n 0, 1) := by decide +kernel
theorem dX10_wipe_1 : decode cX10_wipe 1 = .ok (.getfield 56, 3) := by decide +kernel
theorem dX10_wipe_4 : decode cX10_wipe 4 = .ok (.invokevirtual 179, 3) := by decide +kernel
theorem dX10_wipe_7 : decode cX10_wipe 7 = .ok (.istore_n 1, 1) := by decide +kernel
theorem dX10_wipe_8 : decode cX10_wipe 8 = .ok (.aload_n 0, 1) := by decide +kernel
theorem dX10_wipe_9 : decode cX10_wipe 9 = .ok (.getfield 56, 3) := by decide +kernel
theorem dX10_wipe_12 : decode cX10_wipe 12 = .ok (.invokevirtual 183, 3) := by decide +kernel
theorem dX10_wipe_15 : decode cX10_wipe 15 = .ok (.aload_n 0, 1) := by decide +kernel
theorem dX10_wipe_16 : decode cX10_wipe 16 = .ok (.getfield 56, 3) := by decide +kernel
theorem dX10_wipe_19 : decode cX10_wipe 19 = .ok (.iconst 0, 1) := by decide +kernel
theorem dX10_wipe_20 : decode cX10_wipe 20 = .ok (.putfield 186, 3) := by decide +kernel
theorem dX10_wipe_23 : decode cX10_wipe 23 = .ok (.aload_n 0, 1) := by decide +kernel
theorem dX10_wipe_24 : decode cX10_wipe 24 = .ok (.getfield 56, 3) := by decide +kernel
theorem dX10_wipe_27 : decode cX10_wipe 27 = .ok (.iconst 0, 1) := by decide +kernel
theorem dX10_wipe_28 : decode cX10_wipe 28 = .ok (.putfield 189, 3) := by decide +kernel
theorem dX10_wipe_31 : decode cX10_wipe 31 = .ok (.aload_n 0, 1) := by decide +kernel
theorem dX10_wipe_32 : decode cX10_wipe 32 = .ok (.getfield 63, 3) := by decide +kernel
theorem dX10_wipe_35 : decode cX10_wipe 35 = .ok (.invokevirtual 150, 3) := by decide +kernel
theorem dX10_wipe_38 : decode cX10_wipe 38 = .ok (.iload_n 1, 1) := by decide +kernel
theorem dX10_wipe_39 : decode cX10_wipe 39 = .ok (.ireturn, 1) := by decide +kernel
theorem dX10_tick_0 : decode cX10_tick 0 = .ok (.iload_n 1, 1) := by decide +kernel
theorem dX10_tick_1 : decode cX10_tick 1 = .ok (.ifCond .lt 10, 3) := by decide +kernel
theorem dX10_tick_4 : decode cX10_tick 4 = .ok (.iload_n 1, 1) := by decide +kernel
theorem dX10_tick_5 : decode cX10_tick 5 = .ok (.sipush 5000, 3) := by decide +kernel
theorem dX10_tick_8 : decode cX10_tick 8 = .ok (.if_icmp .le 5, 3) := by decide +kernel
theorem dX10_tick_11 : decode cX10_tick 11 = .ok (.iconst (-1), 1) := by decide +kernel
theorem dX10_tick_12 : decode cX10_tick 12 = .ok (.ireturn, 1) := by decide +kernel
theorem dX10_tick_13 : decode cX10_tick 13 = .ok (.iconst 0, 1) := by decide +kernel
theorem dX10_tick_14 : decode cX10_tick 14 = .ok (.istore_n 2, 1) := by decide +kernel
theorem dX10_tick_15 : decode cX10_tick 15 = .ok (.iconst 0, 1) := by decide +kernel
theorem dX10_tick_16 : decode cX10_tick 16 = .ok (.istore_n 3, 1) := by decide +kernel
theorem dX10_tick_17 : decode cX10_tick 17 = .ok (.iload_n 3, 1) := by decide +kernel
theorem dX10_tick_18 : decode cX10_tick 18 = .ok (.iload_n 1, 1) := by decide +kernel
theorem dX10_tick_19 : decode cX10_tick 19 = .ok (.if_icmp .ge 38, 3) := by decide +kernel
theorem dX10_tick_22 : decode cX10_tick 22 = .ok (.aload_n 0, 1) := by decide +kernel
theorem dX10_tick_23 : decode cX10_tick 23 = .ok (.getfield 56, 3) := by decide +kernel
theorem dX10_tick_26 : decode cX10_tick 26 = .ok (.aload_n 0, 1) := by decide +kernel
theorem dX10_tick_27 : decode cX10_tick 27 = .ok (.getfield 35, 3) := by decide +kernel
theorem dX10_tick_30 : decode cX10_tick 30 = .ok (.aload_n 0, 1) := by decide +kernel
theorem dX10_tick_31 : decode cX10_tick 31 = .ok (.getfield 49, 3) := by decide +kernel
theorem dX10_tick_34 : decode cX10_tick 34 = .ok (.invokevirtual 192, 3) := by decide +kernel
theorem dX10_tick_37 : decode cX10_tick 37 = .ok (.aload_n 0, 1) := by decide +kernel
theorem dX10_tick_38 : decode cX10_tick 38 = .ok (.getfield 56, 3) := by decide +kernel
theorem dX10_tick_41 : decode cX10_tick 41 = .ok (.getfield 115, 3) := by decide +kernel
theorem dX10_tick_44 : decode cX10_tick 44 = .ok (.iconst (-1), 1) := by decide +kernel
theorem dX10_tick_45 : decode cX10_tick 45 = .ok (.if_icmp .eq 6, 3) := by decide +kernel
theorem dX10_tick_48 : decode cX10_tick 48 = .ok (.iinc 2 1, 3) := by decide +kernel
theorem dX10_tick_51 : decode cX10_tick 51 = .ok (.iinc 3 1, 3) := by decide +kernel
theorem dX10_tick_54 : decode cX10_tick 54 = .ok (.goto (-37), 3) := by decide +kernel
theorem dX10_tick_57 : decode cX10_tick 57 = .ok (.iload_n 2, 1) := by decide +kernel
theorem dX10_tick_58 : decode cX10_tick 58 = .ok (.ireturn, 1) := by decide +kernel
theorem dX10_run_0 : decode cX10_run 0 = .ok (.iload_n 1, 1) := by decide +kernel
theorem dX10_run_1 : decode cX10_run 1 = .ok (.ifCond .lt 10, 3) := by decide +kernel
theorem dX10_run_4 : decode cX10_run 4 = .ok (.iload_n 1, 1) := by decide +kernel
theorem dX10_run_5 : decode cX10_run 5 = .ok (.sipush 5000, 3) := by decide +kernel
theorem dX10_run_8 : decode cX10_run 8 = .ok (.if_icmp .le 5, 3) := by decide +kernel
theorem dX10_run_11 : decode cX10_run 11 = .ok (.iconst (-1), 1) := by decide +kernel
theorem dX10_run_12 : decode cX10_run 12 = .ok (.ireturn, 1) := by decide +kernel
theorem dX10_run_13 : decode cX10_run 13 = .ok (.aload_n 0, 1) := by decide +kernel
theorem dX10_run_14 : decode cX10_run 14 = .ok (.getfield 56, 3) := by decide +kernel
theorem dX10_run_17 : decode cX10_run 17 = .ok (.aload_n 0, 1) := by decide +kernel
theorem dX10_run_18 : decode cX10_run 18 = .ok (.getfield 35, 3) := by decide +kernel
theorem dX10_run_21 : decode cX10_run 21 = .ok (.aload_n 0, 1) := by decide +kernel
theorem dX10_run_22 : decode cX10_run 22 = .ok (.getfield 49, 3) := by decide +kernel
theorem dX10_run_25 : decode cX10_run 25 = .ok (.iload_n 1, 1) := by decide +kernel
theorem dX10_run_26 : decode cX10_run 26 = .ok (.invokevirtual 196, 3) := by decide +kernel
theorem dX10_run_29 : decode cX10_run 29 = .ok (.ireturn, 1) := by decide +kernel
theorem dX10_mouse_0 : decode cX10_mouse 0 = .ok (.iload_n 1, 1) := by decide +kernel
theorem dX10_mouse_1 : decode cX10_mouse 1 = .ok (.tableswitch 75 0 4 #[35, 43, 51, 59, 67], 35) := by decide +kernel
theorem dX10_mouse_36 : decode cX10_mouse 36 = .ok (.aload_n 0, 1) := by decide +kernel
theorem dX10_mouse_37 : decode cX10_mouse 37 = .ok (.getfield 56, 3) := by decide +kernel
theorem dX10_mouse_40 : decode cX10_mouse 40 = .ok (.getfield 173, 3) := by decide +kernel
theorem dX10_mouse_43 : decode cX10_mouse 43 = .ok (.ireturn, 1) := by decide +kernel
theorem dX10_mouse_44 : decode cX10_mouse 44 = .ok (.aload_n 0, 1) := by decide +kernel
theorem dX10_mouse_45 : decode cX10_mouse 45 = .ok (.getfield 56, 3) := by decide +kernel
theorem dX10_mouse_48 : decode cX10_mouse 48 = .ok (.getfield 176, 3) := by decide +kernel
theorem dX10_mouse_51 : decode cX10_mouse 51 = .ok (.ireturn, 1) := by decide +kernel
theorem dX10_mouse_52 : decode cX10_mouse 52 = .ok (.aload_n 0, 1) := by decide +kernel
theorem dX10_mouse_53 : decode cX10_mouse 53 = .ok (.getfield 56, 3) := by decide +kernel
theorem dX10_mouse_56 : decode cX10_mouse 56 = .ok (.getfield 186, 3) := by decide +kernel
theorem dX10_mouse_59 : decode cX10_mouse 59 = .ok (.ireturn, 1) := by decide +kernel
theorem dX10_mouse_60 : decode cX10_mouse 60 = .ok (.aload_n 0, 1) := by decide +kernel
theorem dX10_mouse_61 : decode cX10_mouse 61 = .ok (.getfield 56, 3) := by decide +kernel
theorem dX10_mouse_64 : decode cX10_mouse 64 = .ok (.getfield 189, 3) := by decide +kernel
theorem dX10_mouse_67 : decode cX10_mouse 67 = .ok (.ireturn, 1) := by decide +kernel
theorem dX10_mouse_68 : decode cX10_mouse 68 = .ok (.aload_n 0, 1) := by decide +kernel
theorem dX10_mouse_69 : decode cX10_mouse 69 = .ok (.getfield 56, 3) := by decide +kernel
theorem dX10_mouse_72 : decode cX10_mouse 72 = .ok (.getfield 115, 3) := by decide +kernel
theorem dX10_mouse_75 : decode cX10_mouse 75 = .ok (.ireturn, 1) := by decide +kernel
theorem dX10_mouse_76 : decode cX10_mouse 76 = .ok (.iconst (-1), 1) := by decide +kernel
theorem dX10_mouse_77 : decode cX10_mouse 77 = .ok (.ireturn, 1) := by decide +kernel
theorem dX10_look_0 : decode cX10_look 0 = .ok (.aload_n 0, 1) := by decide +kernel
theorem dX10_look_1 : decode cX10_look 1 = .ok (.getfield 49, 3) := by decide +kernel
theorem dX10_look_4 : decode cX10_look 4 = .ok (.iload_n 1, 1) := by decide +kernel
theorem dX10_look_5 : decode cX10_look 5 = .ok (.invokevirtual 153, 3) := by decide +kernel
theorem dX10_look_8 : decode cX10_look 8 = .ok (.ifCond .ne 13, 3) := by decide +kernel
theorem dX10_look_11 : decode cX10_look 11 = .ok (.new 200, 3) := by decide +kernel
theorem dX10_look_14 : decode cX10_look 14 = .ok (.dup, 1) := by decide +kernel
theorem dX10_look_15 : decode cX10_look 15 = .ok (.ldc 202, 2) := by decide +kernel
theorem dX10_look_17 : decode cX10_look 17 = .ok (.invokespecial 204, 3) := by decide +kernel
theorem dX10_look_20 : decode cX10_look 20 = .ok (.athrow, 1) := by decide +kernel
theorem dX10_look_21 : decode cX10_look 21 = .ok (.iload_n 2, 1) := by decide +kernel
theorem dX10_look_22 : decode cX10_look 22 = .ok (.tableswitch 66 0 3 #[30, 39, 48, 57], 30) := by decide +kernel
theorem dX10_look_52 : decode cX10_look 52 = .ok (.aload_n 0, 1) := by decide +kernel
theorem dX10_look_53 : decode cX10_look 53 = .ok (.getfield 56, 3) := by decide +kernel
theorem dX10_look_56 : decode cX10_look 56 = .ok (.iload_n 1, 1) := by decide +kernel
theorem dX10_look_57 : decode cX10_look 57 = .ok (.invokevirtual 207, 3) := by decide +kernel
theorem dX10_look_60 : decode cX10_look 60 = .ok (.ireturn, 1) := by decide +kernel
theorem dX10_look_61 : decode cX10_look 61 = .ok (.aload_n 0, 1) := by decide +kernel
theorem dX10_look_62 : decode cX10_look 62 = .ok (.getfield 56, 3) := by decide +kernel
theorem dX10_look_65 : decode cX10_look 65 = .ok (.iload_n 1, 1) := by decide +kernel
theorem dX10_look_66 : decode cX10_look 66 = .ok (.invokevirtual 211, 3) := by decide +kernel
theorem dX10_look_69 : decode cX10_look 69 = .ok (.ireturn, 1) := by decide +kernel
theorem dX10_look_70 : decode cX10_look 70 = .ok (.aload_n 0, 1) := by decide +kernel
theorem dX10_look_71 : decode cX10_look 71 = .ok (.getfield 49, 3) := by decide +kernel
theorem dX10_look_74 : decode cX10_look 74 = .ok (.iload_n 1, 1) := by decide +kernel
theorem dX10_look_75 : decode cX10_look 75 = .ok (.invokevirtual 214, 3) := by decide +kernel
theorem dX10_look_78 : decode cX10_look 78 = .ok (.ireturn, 1) := by decide +kernel
theorem dX10_look_79 : decode cX10_look 79 = .ok (.aload_n 0, 1) := by decide +kernel
theorem dX10_look_80 : decode cX10_look 80 = .ok (.getfield 49, 3) := by decide +kernel
theorem dX10_look_83 : decode cX10_look 83 = .ok (.iload_n 1, 1) := by decide +kernel
theorem dX10_look_84 : decode cX10_look 84 = .ok (.invokevirtual 217, 3) := by decide +kernel
theorem dX10_look_87 : decode cX10_look 87 = .ok (.ireturn, 1) := by decide +kernel
theorem dX10_look_88 : decode cX10_look 88 = .ok (.new 220, 3) := by decide +kernel
theorem dX10_look_91 : decode cX10_look 91 = .ok (.dup, 1) := by decide +kernel
theorem dX10_look_92 : decode cX10_look 92 = .ok (.ldc 222, 2) := by decide +kernel
theorem dX10_look_94 : decode cX10_look 94 = .ok (.invokespecial 224, 3) := by decide +kernel
theorem dX10_look_97 : decode cX10_look 97 = .ok (.athrow, 1) := by decide +kernel
theorem dX10_comes_0 : decode cX10_comes 0 = .ok (.iload_n 1, 1) := by decide +kernel
theorem dX10_comes_1 : decode cX10_comes 1 = .ok (.ifCond .lt 8, 3) := by decide +kernel
theorem dX10_comes_4 : decode cX10_comes 4 = .ok (.iload_n 1, 1) := by decide +kernel
theorem dX10_comes_5 : decode cX10_comes 5 = .ok (.iconst 1, 1) := by decide +kernel
theorem dX10_comes_6 : decode cX10_comes 6 = .ok (.if_icmp .le 5, 3) := by decide +kernel
theorem dX10_comes_9 : decode cX10_comes 9 = .ok (.iconst (-1), 1) := by decide +kernel
theorem dX10_comes_10 : decode cX10_comes 10 = .ok (.ireturn, 1) := by decide +kernel
theorem dX10_comes_11 : decode cX10_comes 11 = .ok (.aload_n 0, 1) := by decide +kernel
theorem dX10_comes_12 : decode cX10_comes 12 = .ok (.getfield 49, 3) := by decide +kernel
theorem dX10_comes_15 : decode cX10_comes 15 = .ok (.invokevirtual 225, 3) := by decide +kernel
theorem dX10_comes_18 : decode cX10_comes 18 = .ok (.lstore_n 2, 1) := by decide +kernel
theorem dX10_comes_19 : decode cX10_comes 19 = .ok (.iconst 0, 1) := by decide +kernel
theorem dX10_comes_20 : decode cX10_comes 20 = .ok (.istore 4, 2) := by decide +kernel
theorem dX10_comes_22 : decode cX10_comes 22 = .ok (.iconst (-1), 1) := by decide +kernel
theorem dX10_comes_23 : decode cX10_comes 23 = .ok (.istore 5, 2) := by decide +kernel
theorem dX10_comes_25 : decode cX10_comes 25 = .ok (.iconst 0, 1) := by decide +kernel
theorem dX10_comes_26 : decode cX10_comes 26 = .ok (.istore 6, 2) := by decide +kernel
theorem dX10_comes_28 : decode cX10_comes 28 = .ok (.iload 6, 2) := by decide +kernel
theorem dX10_comes_30 : decode cX10_comes 30 = .ok (.aload_n 0, 1) := by decide +kernel
theorem dX10_comes_31 : decode cX10_comes 31 = .ok (.getfield 49, 3) := by decide +kernel
theorem dX10_comes_34 : decode cX10_comes 34 = .ok (.getfield 229, 3) := by decide +kernel
theorem dX10_comes_37 : decode cX10_comes 37 = .ok (.if_icmp .ge 45, 3) := by decide +kernel
theorem dX10_comes_40 : decode cX10_comes 40 = .ok (.lload_n 2, 1) := by decide +kernel
theorem dX10_comes_41 : decode cX10_comes 41 = .ok (.iload 6, 2) := by decide +kernel
theorem dX10_comes_43 : decode cX10_comes 43 = .ok (.lushr, 1) := by decide +kernel
theorem dX10_comes_44 : decode cX10_comes 44 = .ok (.lconst 1, 1) := by decide +kernel
theorem dX10_comes_45 : decode cX10_comes 45 = .ok (.land, 1) := by decide +kernel
theorem dX10_comes_46 : decode cX10_comes 46 = .ok (.lconst 0, 1) := by decide +kernel
theorem dX10_comes_47 : decode cX10_comes 47 = .ok (.lcmp, 1) := by decide +kernel
theorem dX10_comes_48 : decode cX10_comes 48 = .ok (.ifCond .eq 28, 3) := by decide +kernel
theorem dX10_comes_51 : decode cX10_comes 51 = .ok (.aload_n 0, 1) := by decide +kernel
theorem dX10_comes_52 : decode cX10_comes 52 = .ok (.iload 6, 2) := by decide +kernel
theorem dX10_comes_54 : decode cX10_comes 54 = .ok (.iconst 1, 1) := by decide +kernel
theorem dX10_comes_55 : decode cX10_comes 55 = .ok (.invokevirtual 232, 3) := by decide +kernel
theorem dX10_comes_58 : decode cX10_comes 58 = .ok (.bipush (-2), 2) := by decide +kernel
theorem dX10_comes_60 : decode cX10_comes 60 = .ok (.if_icmp .ne 16, 3) := by decide +kernel
theorem dX10_comes_63 : decode cX10_comes 63 = .ok (.iinc 4 1, 3) := by decide +kernel
theorem dX10_comes_66 : decode cX10_comes 66 = .ok (.iload 5, 2) := by decide +kernel
theorem dX10_comes_68 : decode cX10_comes 68 = .ok (.iconst (-1), 1) := by decide +kernel
theorem dX10_comes_69 : decode cX10_comes 69 = .ok (.if_icmp .ne 7, 3) := by decide +kernel
theorem dX10_comes_72 : decode cX10_comes 72 = .ok (.iload 6, 2) := by decide +kernel
theorem dX10_comes_74 : decode cX10_comes 74 = .ok (.istore 5, 2) := by decide +kernel
theorem dX10_comes_76 : decode cX10_comes 76 = .ok (.iinc 6 1, 3) := by decide +kernel
theorem dX10_comes_79 : decode cX10_comes 79 = .ok (.goto (-51), 3) := by decide +kernel
theorem dX10_comes_82 : decode cX10_comes 82 = .ok (.iload_n 1, 1) := by decide +kernel
theorem dX10_comes_83 : decode cX10_comes 83 = .ok (.ifCond .ne 8, 3) := by decide +kernel
theorem dX10_comes_86 : decode cX10_comes 86 = .ok (.iload 4, 2) := by decide +kernel
theorem dX10_comes_88 : decode cX10_comes 88 = .ok (.goto 5, 3) := by decide +kernel
theorem dX10_comes_91 : decode cX10_comes 91 = .ok (.iload 5, 2) := by decide +kernel
theorem dX10_comes_93 : decode cX10_comes 93 = .ok (.ireturn, 1) := by decide +kernel
theorem dX10_second_0 : decode cX10_second 0 = .ok (.aload_n 0, 1) := by decide +kernel
theorem dX10_second_1 : decode cX10_second 1 = .ok (.getfield 49, 3) := by decide +kernel
theorem dX10_second_4 : decode cX10_second 4 = .ok (.iload_n 1, 1) := by decide +kernel
theorem dX10_second_5 : decode cX10_second 5 = .ok (.invokevirtual 153, 3) := by decide +kernel
theorem dX10_second_8 : decode cX10_second 8 = .ok (.ifCond .eq 12, 3) := by decide +kernel
theorem dX10_second_11 : decode cX10_second 11 = .ok (.iload_n 2, 1) := by decide +kernel
theorem dX10_second_12 : decode cX10_second 12 = .ok (.ifCond .lt 8, 3) := by decide +kernel
theorem dX10_second_15 : decode cX10_second 15 = .ok (.iload_n 2, 1) := by decide +kernel
theorem dX10_second_16 : decode cX10_second 16 = .ok (.iconst 3, 1) := by decide +kernel
theorem dX10_second_17 : decode cX10_second 17 = .ok (.if_icmp .le 5, 3) := by decide +kernel
theorem dX10_second_20 : decode cX10_second 20 = .ok (.iconst (-1), 1) := by decide +kernel
theorem dX10_second_21 : decode cX10_second 21 = .ok (.ireturn, 1) := by decide +kernel
theorem dX10_second_22 : decode cX10_second 22 = .ok (.aload_n 0, 1) := by decide +kernel
theorem dX10_second_23 : decode cX10_second 23 = .ok (.iload_n 1, 1) := by decide +kernel
theorem dX10_second_24 : decode cX10_second 24 = .ok (.iconst 1, 1) := by decide +kernel
theorem dX10_second_25 : decode cX10_second 25 = .ok (.invokevirtual 232, 3) := by decide +kernel
theorem dX10_second_28 : decode cX10_second 28 = .ok (.istore_n 3, 1) := by decide +kernel
theorem dX10_second_29 : decode cX10_second 29 = .ok (.iload_n 2, 1) := by decide +kernel
theorem dX10_second_30 : decode cX10_second 30 = .ok (.iconst 1, 1) := by decide +kernel
theorem dX10_second_31 : decode cX10_second 31 = .ok (.if_icmp .eq 8, 3) := by decide +kernel
theorem dX10_second_34 : decode cX10_second 34 = .ok (.iload_n 2, 1) := by decide +kernel
theorem dX10_second_35 : decode cX10_second 35 = .ok (.iconst 3, 1) := by decide +kernel
theorem dX10_second_36 : decode cX10_second 36 = .ok (.if_icmp .ne 7, 3) := by decide +kernel
theorem dX10_second_39 : decode cX10_second 39 = .ok (.iconst 1, 1) := by decide +kernel
theorem dX10_second_40 : decode cX10_second 40 = .ok (.goto 4, 3) := by decide +kernel
theorem dX10_second_43 : decode cX10_second 43 = .ok (.iconst 0, 1) := by decide +kernel
theorem dX10_second_44 : decode cX10_second 44 = .ok (.istore 4, 2) := by decide +kernel
theorem dX10_second_46 : decode cX10_second 46 = .ok (.iload 4, 2) := by decide +kernel
theorem dX10_second_48 : decode cX10_second 48 = .ok (.ifCond .eq 16, 3) := by decide +kernel
theorem dX10_second_51 : decode cX10_second 51 = .ok (.iload_n 3, 1) := by decide +kernel
theorem dX10_second_52 : decode cX10_second 52 = .ok (.bipush (-2), 2) := by decide +kernel
theorem dX10_second_54 : decode cX10_second 54 = .ok (.if_icmp .eq 10, 3) := by decide +kernel
theorem dX10_second_57 : decode cX10_second 57 = .ok (.aload_n 0, 1) := by decide +kernel
theorem dX10_second_58 : decode cX10_second 58 = .ok (.iload_n 1, 1) := by decide +kernel
theorem dX10_second_59 : decode cX10_second 59 = .ok (.iconst 0, 1) := by decide +kernel
theorem dX10_second_60 : decode cX10_second 60 = .ok (.invokevirtual 232, 3) := by decide +kernel
theorem dX10_second_63 : decode cX10_second 63 = .ok (.istore_n 3, 1) := by decide +kernel
theorem dX10_second_64 : decode cX10_second 64 = .ok (.iload_n 3, 1) := by decide +kernel
theorem dX10_second_65 : decode cX10_second 65 = .ok (.bipush (-2), 2) := by decide +kernel
theorem dX10_second_67 : decode cX10_second 67 = .ok (.if_icmp .ne 6, 3) := by decide +kernel
theorem dX10_second_70 : decode cX10_second 70 = .ok (.bipush (-2), 2) := by decide +kernel
theorem dX10_second_72 : decode cX10_second 72 = .ok (.ireturn, 1) := by decide +kernel
theorem dX10_second_73 : decode cX10_second 73 = .ok (.iload_n 2, 1) := by decide +kernel
theorem dX10_second_74 : decode cX10_second 74 = .ok (.iconst 2, 1) := by decide +kernel
theorem dX10_second_75 : decode cX10_second 75 = .ok (.if_icmp .ge 7, 3) := by decide +kernel
theorem dX10_second_78 : decode cX10_second 78 = .ok (.iload_n 3, 1) := by decide +kernel
theorem dX10_second_79 : decode cX10_second 79 = .ok (.goto 10, 3) := by decide +kernel
theorem dX10_second_82 : decode cX10_second 82 = .ok (.aload_n 0, 1) := by decide +kernel
theorem dX10_second_83 : decode cX10_second 83 = .ok (.getfield 79, 3) := by decide +kernel
theorem dX10_second_86 : decode cX10_second 86 = .ok (.getfield 236, 3) := by decide +kernel
theorem dX10_second_89 : decode cX10_second 89 = .ok (.ireturn, 1) := by decide +kernel
theorem dX10_held_0 : decode cX10_held 0 = .ok (.iload_n 1, 1) := by decide +kernel
theorem dX10_held_1 : decode cX10_held 1 = .ok (.iload_n 2, 1) := by decide +kernel
theorem dX10_held_2 : decode cX10_held 2 = .ok (.invokestatic 239, 3) := by decide +kernel
theorem dX10_held_5 : decode cX10_held 5 = .ok (.ifCond .eq 12, 3) := by decide +kernel
theorem dX10_held_8 : decode cX10_held 8 = .ok (.iload_n 3, 1) := by decide +kernel
theorem dX10_held_9 : decode cX10_held 9 = .ok (.ifCond .lt 8, 3) := by decide +kernel
theorem dX10_held_12 : decode cX10_held 12 = .ok (.iload_n 3, 1) := by decide +kernel
theorem dX10_held_13 : decode cX10_held 13 = .ok (.iconst 1, 1) := by decide +kernel
theorem dX10_held_14 : decode cX10_held 14 = .ok (.if_icmp .le 5, 3) := by decide +kernel
theorem dX10_held_17 : decode cX10_held 17 = .ok (.iconst (-1), 1) := by decide +kernel
theorem dX10_held_18 : decode cX10_held 18 = .ok (.ireturn, 1) := by decide +kernel
theorem dX10_held_19 : decode cX10_held 19 = .ok (.aload_n 0, 1) := by decide +kernel
theorem dX10_held_20 : decode cX10_held 20 = .ok (.getfield 85, 3) := by decide +kernel
theorem dX10_held_23 : decode cX10_held 23 = .ok (.aload_n 0, 1) := by decide +kernel
theorem dX10_held_24 : decode cX10_held 24 = .ok (.getfield 35, 3) := by decide +kernel
theorem dX10_held_27 : decode cX10_held 27 = .ok (.iload_n 1, 1) := by decide +kernel
theorem dX10_held_28 : decode cX10_held 28 = .ok (.iload_n 2, 1) := by decide +kernel
theorem dX10_held_29 : decode cX10_held 29 = .ok (.iload_n 3, 1) := by decide +kernel
theorem dX10_held_30 : decode cX10_held 30 = .ok (.invokevirtual 242, 3) := by decide +kernel
theorem dX10_held_33 : decode cX10_held 33 = .ok (.ireturn, 1) := by decide +kernel
theorem dX10_longest_0 : decode cX10_longest 0 = .ok (.iload_n 1, 1) := by decide +kernel
theorem dX10_longest_1 : decode cX10_longest 1 = .ok (.iload_n 2, 1) := by decide +kernel
theorem dX10_longest_2 : decode cX10_longest 2 = .ok (.invokestatic 239, 3) := by decide +kernel
theorem dX10_longest_5 : decode cX10_longest 5 = .ok (.ifCond .eq 12, 3) := by decide +kernel
theorem dX10_longest_8 : decode cX10_longest 8 = .ok (.iload_n 3, 1) := by decide +kernel
theorem dX10_longest_9 : decode cX10_longest 9 = .ok (.ifCond .lt 8, 3) := by decide +kernel
theorem dX10_longest_12 : decode cX10_longest 12 = .ok (.iload_n 3, 1) := by decide +kernel
theorem dX10_longest_13 : decode cX10_longest 13 = .ok (.iconst 2, 1) := by decide +kernel
theorem dX10_longest_14 : decode cX10_longest 14 = .ok (.if_icmp .le 5, 3) := by decide +kernel
theorem dX10_longest_17 : decode cX10_longest 17 = .ok (.iconst (-1), 1) := by decide +kernel
theorem dX10_longest_18 : decode cX10_longest 18 = .ok (.ireturn, 1) := by decide +kernel
theorem dX10_longest_19 : decode cX10_longest 19 = .ok (.aload_n 0, 1) := by decide +kernel
theorem dX10_longest_20 : decode cX10_longest 20 = .ok (.getfield 85, 3) := by decide +kernel
theorem dX10_longest_23 : decode cX10_longest 23 = .ok (.aload_n 0, 1) := by decide +kernel
theorem dX10_longest_24 : decode cX10_longest 24 = .ok (.getfield 35, 3) := by decide +kernel
theorem dX10_longest_27 : decode cX10_longest 27 = .ok (.iload_n 1, 1) := by decide +kernel
theorem dX10_longest_28 : decode cX10_longest 28 = .ok (.iload_n 2, 1) := by decide +kernel
theorem dX10_longest_29 : decode cX10_longest 29 = .ok (.iload_n 3, 1) := by decide +kernel
theorem dX10_longest_30 : decode cX10_longest 30 = .ok (.invokevirtual 246, 3) := by decide +kernel
theorem dX10_longest_33 : decode cX10_longest 33 = .ok (.ireturn, 1) := by decide +kernel
theorem dX10_needs_0 : decode cX10_needs 0 = .ok (.iload_n 2, 1) := by decide +kernel
theorem dX10_needs_1 : decode cX10_needs 1 = .ok (.iload_n 3, 1) := by decide +kernel
theorem dX10_needs_2 : decode cX10_needs 2 = .ok (.invokestatic 239, 3) := by decide +kernel
theorem dX10_needs_5 : decode cX10_needs 5 = .ok (.ifCond .eq 12, 3) := by decide +kernel
theorem dX10_needs_8 : decode cX10_needs 8 = .ok (.iload_n 1, 1) := by decide +kernel
theorem dX10_needs_9 : decode cX10_needs 9 = .ok (.ifCond .lt 8, 3) := by decide +kernel
theorem dX10_needs_12 : decode cX10_needs 12 = .ok (.iload_n 1, 1) := by decide +kernel
theorem dX10_needs_13 : decode cX10_needs 13 = .ok (.iconst 3, 1) := by decide +kernel
theorem dX10_needs_14 : decode cX10_needs 14 = .ok (.if_icmp .lt 5, 3) := by decide +kernel
theorem dX10_needs_17 : decode cX10_needs 17 = .ok (.iconst (-1), 1) := by decide +kernel
theorem dX10_needs_18 : decode cX10_needs 18 = .ok (.ireturn, 1) := by decide +kernel
theorem dX10_needs_19 : decode cX10_needs 19 = .ok (.aload_n 0, 1) := by decide +kernel
theorem dX10_needs_20 : decode cX10_needs 20 = .ok (.getfield 85, 3) := by decide +kernel
theorem dX10_needs_23 : decode cX10_needs 23 = .ok (.aload_n 0, 1) := by decide +kernel
theorem dX10_needs_24 : decode cX10_needs 24 = .ok (.getfield 35, 3) := by decide +kernel
theorem dX10_needs_27 : decode cX10_needs 27 = .ok (.iload_n 1, 1) := by decide +kernel
theorem dX10_needs_28 : decode cX10_needs 28 = .ok (.iload_n 2, 1) := by decide +kernel
theorem dX10_needs_29 : decode cX10_needs 29 = .ok (.iload_n 3, 1) := by decide +kernel
theorem dX10_needs_30 : decode cX10_needs 30 = .ok (.invokevirtual 249, 3) := by decide +kernel
theorem dX10_needs_33 : decode cX10_needs 33 = .ok (.ifCond .eq 7, 3) := by decide +kernel
theorem dX10_needs_36 : decode cX10_needs 36 = .ok (.iconst 1, 1) := by decide +kernel
theorem dX10_needs_37 : decode cX10_needs 37 = .ok (.goto 4, 3) := by decide +kernel
theorem dX10_needs_40 : decode cX10_needs 40 = .ok (.iconst 0, 1) := by decide +kernel
theorem dX10_needs_41 : decode cX10_needs 41 = .ok (.ireturn, 1) := by decide +kernel
theorem dX10_knows_0 : decode cX10_knows 0 = .ok (.aload_n 0, 1) := by decide +kernel
theorem dX10_knows_1 : decode cX10_knows 1 = .ok (.getfield 49, 3) := by decide +kernel
theorem dX10_knows_4 : decode cX10_knows 4 = .ok (.iload_n 1, 1) := by decide +kernel
theorem dX10_knows_5 : decode cX10_knows 5 = .ok (.invokevirtual 153, 3) := by decide +kernel
theorem dX10_knows_8 : decode cX10_knows 8 = .ok (.ifCond .ne 5, 3) := by decide +kernel
theorem dX10_knows_11 : decode cX10_knows 11 = .ok (.iconst (-1), 1) := by decide +kernel
theorem dX10_knows_12 : decode cX10_knows 12 = .ok (.ireturn, 1) := by decide +kernel
theorem dX10_knows_13 : decode cX10_knows 13 = .ok (.iload_n 1, 1) := by decide +kernel
theorem dX10_knows_14 : decode cX10_knows 14 = .ok (.istore_n 2, 1) := by decide +kernel
theorem dX10_knows_15 : decode cX10_knows 15 = .ok (.iconst 0, 1) := by decide +kernel
theorem dX10_knows_16 : decode cX10_knows 16 = .ok (.istore_n 3, 1) := by decide +kernel
theorem dX10_knows_17 : decode cX10_knows 17 = .ok (.iload_n 3, 1) := by decide +kernel
theorem dX10_knows_18 : decode cX10_knows 18 = .ok (.aload_n 0, 1) := by decide +kernel
theorem dX10_knows_19 : decode cX10_knows 19 = .ok (.getfield 49, 3) := by decide +kernel
theorem dX10_knows_22 : decode cX10_knows 22 = .ok (.getfield 229, 3) := by decide +kernel
theorem dX10_knows_25 : decode cX10_knows 25 = .ok (.if_icmp .ge 58, 3) := by decide +kernel
theorem dX10_knows_28 : decode cX10_knows 28 = .ok (.iload_n 2, 1) := by decide +kernel
theorem dX10_knows_29 : decode cX10_knows 29 = .ok (.aload_n 0, 1) := by decide +kernel
theorem dX10_knows_30 : decode cX10_knows 30 = .ok (.getfield 49, 3) := by decide +kernel
theorem dX10_knows_33 : decode cX10_knows 33 = .ok (.getfield 170, 3) := by decide +kernel
theorem dX10_knows_36 : decode cX10_knows 36 = .ok (.if_icmp .ne 5, 3) := by decide +kernel
theorem dX10_knows_39 : decode cX10_knows 39 = .ok (.iload_n 3, 1) := by decide +kernel
theorem dX10_knows_40 : decode cX10_knows 40 = .ok (.ireturn, 1) := by decide +kernel
theorem dX10_knows_41 : decode cX10_knows 41 = .ok (.aload_n 0, 1) := by decide +kernel
theorem dX10_knows_42 : decode cX10_knows 42 = .ok (.getfield 56, 3) := by decide +kernel
theorem dX10_knows_45 : decode cX10_knows 45 = .ok (.iload_n 2, 1) := by decide +kernel
theorem dX10_knows_46 : decode cX10_knows 46 = .ok (.invokevirtual 207, 3) := by decide +kernel
theorem dX10_knows_49 : decode cX10_knows 49 = .ok (.istore 4, 2) := by decide +kernel
theorem dX10_knows_51 : decode cX10_knows 51 = .ok (.aload_n 0, 1) := by decide +kernel
theorem dX10_knows_52 : decode cX10_knows 52 = .ok (.getfield 49, 3) := by decide +kernel
theorem dX10_knows_55 : decode cX10_knows 55 = .ok (.iload_n 2, 1) := by decide +kernel
theorem dX10_knows_56 : decode cX10_knows 56 = .ok (.iload 4, 2) := by decide +kernel
theorem dX10_knows_58 : decode cX10_knows 58 = .ok (.invokevirtual 163, 3) := by decide +kernel
theorem dX10_knows_61 : decode cX10_knows 61 = .ok (.ifCond .eq 5, 3) := by decide +kernel
theorem dX10_knows_64 : decode cX10_knows 64 = .ok (.iconst (-1), 1) := by decide +kernel
theorem dX10_knows_65 : decode cX10_knows 65 = .ok (.ireturn, 1) := by decide +kernel
theorem dX10_knows_66 : decode cX10_knows 66 = .ok (.aload_n 0, 1) := by decide +kernel
theorem dX10_knows_67 : decode cX10_knows 67 = .ok (.getfield 49, 3) := by decide +kernel
theorem dX10_knows_70 : decode cX10_knows 70 = .ok (.iload_n 2, 1) := by decide +kernel
theorem dX10_knows_71 : decode cX10_knows 71 = .ok (.iload 4, 2) := by decide +kernel
theorem dX10_knows_73 : decode cX10_knows 73 = .ok (.invokevirtual 253, 3) := by decide +kernel
theorem dX10_knows_76 : decode cX10_knows 76 = .ok (.istore_n 2, 1) := by decide +kernel
theorem dX10_knows_77 : decode cX10_knows 77 = .ok (.iinc 3 1, 3) := by decide +kernel
theorem dX10_knows_80 : decode cX10_knows 80 = .ok (.goto (-63), 3) := by decide +kernel
theorem dX10_knows_83 : decode cX10_knows 83 = .ok (.iconst (-1), 1) := by decide +kernel
theorem dX10_knows_84 : decode cX10_knows 84 = .ok (.ireturn, 1) := by decide +kernel
theorem dX10_pull_0 : decode cX10_pull 0 = .ok (.iload_n 1, 1) := by decide +kernel
theorem dX10_pull_1 : decode cX10_pull 1 = .ok (.ifCond .lt 10, 3) := by decide +kernel
theorem dX10_pull_4 : decode cX10_pull 4 = .ok (.iload_n 1, 1) := by decide +kernel
theorem dX10_pull_5 : decode cX10_pull 5 = .ok (.sipush 5000, 3) := by decide +kernel
theorem dX10_pull_8 : decode cX10_pull 8 = .ok (.if_icmp .le 5, 3) := by decide +kernel
theorem dX10_pull_11 : decode cX10_pull 11 = .ok (.iconst (-1), 1) := by decide +kernel
theorem dX10_pull_12 : decode cX10_pull 12 = .ok (.ireturn, 1) := by decide +kernel
theorem dX10_pull_13 : decode cX10_pull 13 = .ok (.aload_n 0, 1) := by decide +kernel
theorem dX10_pull_14 : decode cX10_pull 14 = .ok (.getfield 56, 3) := by decide +kernel
theorem dX10_pull_17 : decode cX10_pull 17 = .ok (.iconst 0, 1) := by decide +kernel
theorem dX10_pull_18 : decode cX10_pull 18 = .ok (.putfield 236, 3) := by decide +kernel
theorem dX10_pull_21 : decode cX10_pull 21 = .ok (.iconst 0, 1) := by decide +kernel
theorem dX10_pull_22 : decode cX10_pull 22 = .ok (.istore_n 2, 1) := by decide +kernel
theorem dX10_pull_23 : decode cX10_pull 23 = .ok (.iload_n 2, 1) := by decide +kernel
theorem dX10_pull_24 : decode cX10_pull 24 = .ok (.iload_n 1, 1) := by decide +kernel
theorem dX10_pull_25 : decode cX10_pull 25 = .ok (.if_icmp .ge 28, 3) := by decide +kernel
theorem dX10_pull_28 : decode cX10_pull 28 = .ok (.aload_n 0, 1) := by decide +kernel
theorem dX10_pull_29 : decode cX10_pull 29 = .ok (.getfield 63, 3) := by decide +kernel
theorem dX10_pull_32 : decode cX10_pull 32 = .ok (.aload_n 0, 1) := by decide +kernel
theorem dX10_pull_33 : decode cX10_pull 33 = .ok (.getfield 42, 3) := by decide +kernel
theorem dX10_pull_36 : decode cX10_pull 36 = .ok (.aload_n 0, 1) := by decide +kernel
theorem dX10_pull_37 : decode cX10_pull 37 = .ok (.getfield 56, 3) := by decide +kernel
theorem dX10_pull_40 : decode cX10_pull 40 = .ok (.aload_n 0, 1) := by decide +kernel
theorem dX10_pull_41 : decode cX10_pull 41 = .ok (.getfield 49, 3) := by decide +kernel
theorem dX10_pull_44 : decode cX10_pull 44 = .ok (.invokevirtual 257, 3) := by decide +kernel
theorem dX10_pull_47 : decode cX10_pull 47 = .ok (.iinc 2 1, 3) := by decide +kernel
theorem dX10_pull_50 : decode cX10_pull 50 = .ok (.goto (-27), 3) := by decide +kernel
theorem dX10_pull_53 : decode cX10_pull 53 = .ok (.aload_n 0, 1) := by decide +kernel
theorem dX10_pull_54 : decode cX10_pull 54 = .ok (.getfield 56, 3) := by decide +kernel
theorem dX10_pull_57 : decode cX10_pull 57 = .ok (.getfield 236, 3) := by decide +kernel
theorem dX10_pull_60 : decode cX10_pull 60 = .ok (.ireturn, 1) := by decide +kernel
theorem dX10_pullRun_0 : decode cX10_pullRun 0 = .ok (.iload_n 1, 1) := by decide +kernel
theorem dX10_pullRun_1 : decode cX10_pullRun 1 = .ok (.ifCond .lt 10, 3) := by decide +kernel
theorem dX10_pullRun_4 : decode cX10_pullRun 4 = .ok (.iload_n 1, 1) := by decide +kernel
theorem dX10_pullRun_5 : decode cX10_pullRun 5 = .ok (.sipush 5000, 3) := by decide +kernel
theorem dX10_pullRun_8 : decode cX10_pullRun 8 = .ok (.if_icmp .le 5, 3) := by decide +kernel
theorem dX10_pullRun_11 : decode cX10_pullRun 11 = .ok (.iconst (-1), 1) := by decide +kernel
theorem dX10_pullRun_12 : decode cX10_pullRun 12 = .ok (.ireturn, 1) := by decide +kernel
theorem dX10_pullRun_13 : decode cX10_pullRun 13 = .ok (.iconst 0, 1) := by decide +kernel
theorem dX10_pullRun_14 : decode cX10_pullRun 14 = .ok (.istore_n 2, 1) := by decide +kernel
theorem dX10_pullRun_15 : decode cX10_pullRun 15 = .ok (.iload_n 2, 1) := by decide +kernel
theorem dX10_pullRun_16 : decode cX10_pullRun 16 = .ok (.iload_n 1, 1) := by decide +kernel
theorem dX10_pullRun_17 : decode cX10_pullRun 17 = .ok (.if_icmp .ge 47, 3) := by decide +kernel
theorem dX10_pullRun_20 : decode cX10_pullRun 20 = .ok (.aload_n 0, 1) := by decide +kernel
theorem dX10_pullRun_21 : decode cX10_pullRun 21 = .ok (.getfield 56, 3) := by decide +kernel
theorem dX10_pullRun_24 : decode cX10_pullRun 24 = .ok (.getfield 173, 3) := by decide +kernel
theorem dX10_pullRun_27 : decode cX10_pullRun 27 = .ok (.aload_n 0, 1) := by decide +kernel
theorem dX10_pullRun_28 : decode cX10_pullRun 28 = .ok (.getfield 49, 3) := by decide +kernel
theorem dX10_pullRun_31 : decode cX10_pullRun 31 = .ok (.getfield 170, 3) := by decide +kernel
theorem dX10_pullRun_34 : decode cX10_pullRun 34 = .ok (.if_icmp .ne 5, 3) := by decide +kernel
theorem dX10_pullRun_37 : decode cX10_pullRun 37 = .ok (.iload_n 2, 1) := by decide +kernel
theorem dX10_pullRun_38 : decode cX10_pullRun 38 = .ok (.ireturn, 1) := by decide +kernel
theorem dX10_pullRun_39 : decode cX10_pullRun 39 = .ok (.aload_n 0, 1) := by decide +kernel
theorem dX10_pullRun_40 : decode cX10_pullRun 40 = .ok (.getfield 63, 3) := by decide +kernel
theorem dX10_pullRun_43 : decode cX10_pullRun 43 = .ok (.aload_n 0, 1) := by decide +kernel
theorem dX10_pullRun_44 : decode cX10_pullRun 44 = .ok (.getfield 42, 3) := by decide +kernel
theorem dX10_pullRun_47 : decode cX10_pullRun 47 = .ok (.aload_n 0, 1) := by decide +kernel
theorem dX10_pullRun_48 : decode cX10_pullRun 48 = .ok (.getfield 56, 3) := by decide +kernel
theorem dX10_pullRun_51 : decode cX10_pullRun 51 = .ok (.aload_n 0, 1) := by decide +kernel
theorem dX10_pullRun_52 : decode cX10_pullRun 52 = .ok (.getfield 49, 3) := by decide +kernel
theorem dX10_pullRun_55 : decode cX10_pullRun 55 = .ok (.invokevirtual 257, 3) := by decide +kernel
theorem dX10_pullRun_58 : decode cX10_pullRun 58 = .ok (.iinc 2 1, 3) := by decide +kernel
theorem dX10_pullRun_61 : decode cX10_pullRun 61 = .ok (.goto (-46), 3) := by decide +kernel
theorem dX10_pullRun_64 : decode cX10_pullRun 64 = .ok (.aload_n 0, 1) := by decide +kernel
theorem dX10_pullRun_65 : decode cX10_pullRun 65 = .ok (.getfield 56, 3) := by decide +kernel
theorem dX10_pullRun_68 : decode cX10_pullRun 68 = .ok (.getfield 173, 3) := by decide +kernel
theorem dX10_pullRun_71 : decode cX10_pullRun 71 = .ok (.aload_n 0, 1) := by decide +kernel
theorem dX10_pullRun_72 : decode cX10_pullRun 72 = .ok (.getfield 49, 3) := by decide +kernel
theorem dX10_pullRun_75 : decode cX10_pullRun 75 = .ok (.getfield 170, 3) := by decide +kernel
theorem dX10_pullRun_78 : decode cX10_pullRun 78 = .ok (.if_icmp .ne 7, 3) := by decide +kernel
theorem dX10_pullRun_81 : decode cX10_pullRun 81 = .ok (.iload_n 1, 1) := by decide +kernel
theorem dX10_pullRun_82 : decode cX10_pullRun 82 = .ok (.goto 5, 3) := by decide +kernel
theorem dX10_pullRun_85 : decode cX10_pullRun 85 = .ok (.bipush (-2), 2) := by decide +kernel
theorem dX10_pullRun_87 : decode cX10_pullRun 87 = .ok (.ireturn, 1) := by decide +kernel
theorem dX10_relays_0 : decode cX10_relays 0 = .ok (.aload_n 0, 1) := by decide +kernel
theorem dX10_relays_1 : decode cX10_relays 1 = .ok (.getfield 63, 3) := by decide +kernel
theorem dX10_relays_4 : decode cX10_relays 4 = .ok (.getfield 261, 3) := by decide +kernel
theorem dX10_relays_7 : decode cX10_relays 7 = .ok (.ireturn, 1) := by decide +kernel
theorem dX10_race_0 : decode cX10_race 0 = .ok (.aload_n 0, 1) := by decide +kernel
theorem dX10_race_1 : decode cX10_race 1 = .ok (.getfield 63, 3) := by decide +kernel
theorem dX10_race_4 : decode cX10_race 4 = .ok (.aload_n 0, 1) := by decide +kernel
theorem dX10_race_5 : decode cX10_race 5 = .ok (.getfield 42, 3) := by decide +kernel
theorem dX10_race_8 : decode cX10_race 8 = .ok (.invokevirtual 264, 3) := by decide +kernel
theorem dX10_race_11 : decode cX10_race 11 = .ok (.ireturn, 1) := by decide +kernel
theorem dX10_stick_0 : decode cX10_stick 0 = .ok (.iload_n 1, 1) := by decide +kernel
theorem dX10_stick_1 : decode cX10_stick 1 = .ok (.ifCond .lt 23, 3) := by decide +kernel
theorem dX10_stick_4 : decode cX10_stick 4 = .ok (.iload_n 1, 1) := by decide +kernel
theorem dX10_stick_5 : decode cX10_stick 5 = .ok (.aload_n 0, 1) := by decide +kernel
theorem dX10_stick_6 : decode cX10_stick 6 = .ok (.getfield 42, 3) := by decide +kernel
theorem dX10_stick_9 : decode cX10_stick 9 = .ok (.getfield 134, 3) := by decide +kernel
theorem dX10_stick_12 : decode cX10_stick 12 = .ok (.if_icmp .ge 12, 3) := by decide +kernel
theorem dX10_stick_15 : decode cX10_stick 15 = .ok (.iload_n 2, 1) := by decide +kernel
theorem dX10_stick_16 : decode cX10_stick 16 = .ok (.ifCond .lt 8, 3) := by decide +kernel
theorem dX10_stick_19 : decode cX10_stick 19 = .ok (.iload_n 2, 1) := by decide +kernel
theorem dX10_stick_20 : decode cX10_stick 20 = .ok (.iconst 2, 1) := by decide +kernel
theorem dX10_stick_21 : decode cX10_stick 21 = .ok (.if_icmp .le 5, 3) := by decide +kernel
theorem dX10_stick_24 : decode cX10_stick 24 = .ok (.iconst 0, 1) := by decide +kernel
theorem dX10_stick_25 : decode cX10_stick 25 = .ok (.ireturn, 1) := by decide +kernel
theorem dX10_stick_26 : decode cX10_stick 26 = .ok (.iload_n 2, 1) := by decide +kernel
theorem dX10_stick_27 : decode cX10_stick 27 = .ok (.iconst 2, 1) := by decide +kernel
theorem dX10_stick_28 : decode cX10_stick 28 = .ok (.if_icmp .ne 14, 3) := by decide +kernel
theorem dX10_stick_31 : decode cX10_stick 31 = .ok (.aload_n 0, 1) := by decide +kernel
theorem dX10_stick_32 : decode cX10_stick 32 = .ok (.getfield 63, 3) := by decide +kernel
theorem dX10_stick_35 : decode cX10_stick 35 = .ok (.iload_n 1, 1) := by decide +kernel
theorem dX10_stick_36 : decode cX10_stick 36 = .ok (.invokevirtual 268, 3) := by decide +kernel
theorem dX10_stick_39 : decode cX10_stick 39 = .ok (.goto 21, 3) := by decide +kernel
theorem dX10_stick_42 : decode cX10_stick 42 = .ok (.aload_n 0, 1) := by decide +kernel
theorem dX10_stick_43 : decode cX10_stick 43 = .ok (.getfield 63, 3) := by decide +kernel
theorem dX10_stick_46 : decode cX10_stick 46 = .ok (.iload_n 1, 1) := by decide +kernel
theorem dX10_stick_47 : decode cX10_stick 47 = .ok (.iload_n 2, 1) := by decide +kernel
theorem dX10_stick_48 : decode cX10_stick 48 = .ok (.iconst 1, 1) := by decide +kernel
theorem dX10_stick_49 : decode cX10_stick 49 = .ok (.if_icmp .ne 7, 3) := by decide +kernel
theorem dX10_stick_52 : decode cX10_stick 52 = .ok (.iconst 1, 1) := by decide +kernel
theorem dX10_stick_53 : decode cX10_stick 53 = .ok (.goto 4, 3) := by decide +kernel
theorem dX10_stick_56 : decode cX10_stick 56 = .ok (.iconst 0, 1) := by decide +kernel
theorem dX10_stick_57 : decode cX10_stick 57 = .ok (.invokevirtual 271, 3) := by decide +kernel
theorem dX10_stick_60 : decode cX10_stick 60 = .ok (.iconst 1, 1) := by decide +kernel
theorem dX10_stick_61 : decode cX10_stick 61 = .ok (.ireturn, 1) := by decide +kernel
theorem dX10_stuck_0 : decode cX10_stuck 0 = .ok (.aload_n 0, 1) := by decide +kernel
theorem dX10_stuck_1 : decode cX10_stuck 1 = .ok (.getfield 63, 3) := by decide +kernel
theorem dX10_stuck_4 : decode cX10_stuck 4 = .ok (.getfield 275, 3) := by decide +kernel
theorem dX10_stuck_7 : decode cX10_stuck 7 = .ok (.ireturn, 1) := by decide +kernel
theorem dX10_same_0 : decode cX10_same 0 = .ok (.iload_n 1, 1) := by decide +kernel
theorem dX10_same_1 : decode cX10_same 1 = .ok (.invokestatic 278, 3) := by decide +kernel
theorem dX10_same_4 : decode cX10_same 4 = .ok (.ifCond .ne 5, 3) := by decide +kernel
theorem dX10_same_7 : decode cX10_same 7 = .ok (.iconst (-1), 1) := by decide +kernel
theorem dX10_same_8 : decode cX10_same 8 = .ok (.ireturn, 1) := by decide +kernel
theorem dX10_same_9 : decode cX10_same 9 = .ok (.aload_n 0, 1) := by decide +kernel
theorem dX10_same_10 : decode cX10_same 10 = .ok (.getfield 92, 3) := by decide +kernel
theorem dX10_same_13 : decode cX10_same 13 = .ok (.aload_n 0, 1) := by decide +kernel
theorem dX10_same_14 : decode cX10_same 14 = .ok (.getfield 42, 3) := by decide +kernel
theorem dX10_same_17 : decode cX10_same 17 = .ok (.aload_n 0, 1) := by decide +kernel
theorem dX10_same_18 : decode cX10_same 18 = .ok (.getfield 56, 3) := by decide +kernel
theorem dX10_same_21 : decode cX10_same 21 = .ok (.aload_n 0, 1) := by decide +kernel
theorem dX10_same_22 : decode cX10_same 22 = .ok (.getfield 49, 3) := by decide +kernel
theorem dX10_same_25 : decode cX10_same 25 = .ok (.aload_n 0, 1) := by decide +kernel
theorem dX10_same_26 : decode cX10_same 26 = .ok (.getfield 63, 3) := by decide +kernel
theorem dX10_same_29 : decode cX10_same 29 = .ok (.invokevirtual 281, 3) := by decide +kernel
theorem dX10_same_32 : decode cX10_same 32 = .ok (.aload_n 0, 1) := by decide +kernel
theorem dX10_same_33 : decode cX10_same 33 = .ok (.getfield 92, 3) := by decide +kernel
theorem dX10_same_36 : decode cX10_same 36 = .ok (.aload_n 0, 1) := by decide +kernel
theorem dX10_same_37 : decode cX10_same 37 = .ok (.getfield 35, 3) := by decide +kernel
theorem dX10_same_40 : decode cX10_same 40 = .ok (.iload_n 1, 1) := by decide +kernel
theorem dX10_same_41 : decode cX10_same 41 = .ok (.invokevirtual 285, 3) := by decide +kernel
theorem dX10_same_44 : decode cX10_same 44 = .ok (.ireturn, 1) := by decide +kernel
theorem dX10_suspects_0 : decode cX10_suspects 0 = .ok (.iload_n 1, 1) := by decide +kernel
theorem dX10_suspects_1 : decode cX10_suspects 1 = .ok (.invokestatic 278, 3) := by decide +kernel
theorem dX10_suspects_4 : decode cX10_suspects 4 = .ok (.ifCond .eq 12, 3) := by decide +kernel
theorem dX10_suspects_7 : decode cX10_suspects 7 = .ok (.iload_n 2, 1) := by decide +kernel
theorem dX10_suspects_8 : decode cX10_suspects 8 = .ok (.ifCond .lt 8, 3) := by decide +kernel
theorem dX10_suspects_11 : decode cX10_suspects 11 = .ok (.iload_n 2, 1) := by decide +kernel
theorem dX10_suspects_12 : decode cX10_suspects 12 = .ok (.iconst 1, 1) := by decide +kernel
theorem dX10_suspects_13 : decode cX10_suspects 13 = .ok (.if_icmp .le 5, 3) := by decide +kernel
theorem dX10_suspects_16 : decode cX10_suspects 16 = .ok (.iconst (-1), 1) := by decide +kernel
theorem dX10_suspects_17 : decode cX10_suspects 17 = .ok (.ireturn, 1) := by decide +kernel
theorem dX10_suspects_18 : decode cX10_suspects 18 = .ok (.aload_n 0, 1) := by decide +kernel
theorem dX10_suspects_19 : decode cX10_suspects 19 = .ok (.getfield 92, 3) := by decide +kernel
theorem dX10_suspects_22 : decode cX10_suspects 22 = .ok (.aload_n 0, 1) := by decide +kernel
theorem dX10_suspects_23 : decode cX10_suspects 23 = .ok (.getfield 42, 3) := by decide +kernel
theorem dX10_suspects_26 : decode cX10_suspects 26 = .ok (.aload_n 0, 1) := by decide +kernel
theorem dX10_suspects_27 : decode cX10_suspects 27 = .ok (.getfield 56, 3) := by decide +kernel
theorem dX10_suspects_30 : decode cX10_suspects 30 = .ok (.aload_n 0, 1) := by decide +kernel
theorem dX10_suspects_31 : decode cX10_suspects 31 = .ok (.getfield 49, 3) := by decide +kernel
theorem dX10_suspects_34 : decode cX10_suspects 34 = .ok (.aload_n 0, 1) := by decide +kernel
theorem dX10_suspects_35 : decode cX10_suspects 35 = .ok (.getfield 63, 3) := by decide +kernel
theorem dX10_suspects_38 : decode cX10_suspects 38 = .ok (.invokevirtual 281, 3) := by decide +kernel
theorem dX10_suspects_41 : decode cX10_suspects 41 = .ok (.aload_n 0, 1) := by decide +kernel
theorem dX10_suspects_42 : decode cX10_suspects 42 = .ok (.getfield 92, 3) := by decide +kernel
theorem dX10_suspects_45 : decode cX10_suspects 45 = .ok (.iload_n 1, 1) := by decide +kernel
theorem dX10_suspects_46 : decode cX10_suspects 46 = .ok (.invokevirtual 289, 3) := by decide +kernel
theorem dX10_suspects_49 : decode cX10_suspects 49 = .ok (.iload_n 2, 1) := by decide +kernel
theorem dX10_suspects_50 : decode cX10_suspects 50 = .ok (.ifCond .ne 13, 3) := by decide +kernel
theorem dX10_suspects_53 : decode cX10_suspects 53 = .ok (.aload_n 0, 1) := by decide +kernel
theorem dX10_suspects_54 : decode cX10_suspects 54 = .ok (.getfield 92, 3) := by decide +kernel
theorem dX10_suspects_57 : decode cX10_suspects 57 = .ok (.getfield 292, 3) := by decide +kernel
theorem dX10_suspects_60 : decode cX10_suspects 60 = .ok (.goto 10, 3) := by decide +kernel
theorem dX10_suspects_63 : decode cX10_suspects 63 = .ok (.aload_n 0, 1) := by decide +kernel
theorem dX10_suspects_64 : decode cX10_suspects 64 = .ok (.getfield 92, 3) := by decide +kernel
theorem dX10_suspects_67 : decode cX10_suspects 67 = .ok (.getfield 295, 3) := by decide +kernel
theorem dX10_suspects_70 : decode cX10_suspects 70 = .ok (.ireturn, 1) := by decide +kernel
theorem dX10_trial_0 : decode cX10_trial 0 = .ok (.iload_n 1, 1) := by decide +kernel
theorem dX10_trial_1 : decode cX10_trial 1 = .ok (.invokestatic 278, 3) := by decide +kernel
theorem dX10_trial_4 : decode cX10_trial 4 = .ok (.ifCond .eq 12, 3) := by decide +kernel
theorem dX10_trial_7 : decode cX10_trial 7 = .ok (.iload_n 2, 1) := by decide +kernel
theorem dX10_trial_8 : decode cX10_trial 8 = .ok (.ifCond .lt 8, 3) := by decide +kernel
theorem dX10_trial_11 : decode cX10_trial 11 = .ok (.iload_n 2, 1) := by decide +kernel
theorem dX10_trial_12 : decode cX10_trial 12 = .ok (.iconst 1, 1) := by decide +kernel
theorem dX10_trial_13 : decode cX10_trial 13 = .ok (.if_icmp .le 5, 3) := by decide +kernel
theorem dX10_trial_16 : decode cX10_trial 16 = .ok (.iconst (-1), 1) := by decide +kernel
theorem dX10_trial_17 : decode cX10_trial 17 = .ok (.ireturn, 1) := by decide +kernel
theorem dX10_trial_18 : decode cX10_trial 18 = .ok (.aload_n 0, 1) := by decide +kernel
theorem dX10_trial_19 : decode cX10_trial 19 = .ok (.getfield 92, 3) := by decide +kernel
theorem dX10_trial_22 : decode cX10_trial 22 = .ok (.aload_n 0, 1) := by decide +kernel
theorem dX10_trial_23 : decode cX10_trial 23 = .ok (.getfield 42, 3) := by decide +kernel
theorem dX10_trial_26 : decode cX10_trial 26 = .ok (.aload_n 0, 1) := by decide +kernel
theorem dX10_trial_27 : decode cX10_trial 27 = .ok (.getfield 56, 3) := by decide +kernel
theorem dX10_trial_30 : decode cX10_trial 30 = .ok (.aload_n 0, 1) := by decide +kernel
theorem dX10_trial_31 : decode cX10_trial 31 = .ok (.getfield 49, 3) := by decide +kernel
theorem dX10_trial_34 : decode cX10_trial 34 = .ok (.aload_n 0, 1) := by decide +kernel
theorem dX10_trial_35 : decode cX10_trial 35 = .ok (.getfield 63, 3) := by decide +kernel
theorem dX10_trial_38 : decode cX10_trial 38 = .ok (.invokevirtual 281, 3) := by decide +kernel
theorem dX10_trial_41 : decode cX10_trial 41 = .ok (.aload_n 0, 1) := by decide +kernel
theorem dX10_trial_42 : decode cX10_trial 42 = .ok (.getfield 92, 3) := by decide +kernel
theorem dX10_trial_45 : decode cX10_trial 45 = .ok (.iload_n 1, 1) := by decide +kernel
theorem dX10_trial_46 : decode cX10_trial 46 = .ok (.invokevirtual 289, 3) := by decide +kernel
theorem dX10_trial_49 : decode cX10_trial 49 = .ok (.aload_n 0, 1) := by decide +kernel
theorem dX10_trial_50 : decode cX10_trial 50 = .ok (.getfield 92, 3) := by decide +kernel
theorem dX10_trial_53 : decode cX10_trial 53 = .ok (.invokevirtual 298, 3) := by decide +kernel
theorem dX10_trial_56 : decode cX10_trial 56 = .ok (.iconst 2, 1) := by decide +kernel
theorem dX10_trial_57 : decode cX10_trial 57 = .ok (.if_icmp .ge 5, 3) := by decide +kernel
theorem dX10_trial_60 : decode cX10_trial 60 = .ok (.iconst (-1), 1) := by decide +kernel
theorem dX10_trial_61 : decode cX10_trial 61 = .ok (.ireturn, 1) := by decide +kernel
theorem dX10_trial_62 : decode cX10_trial 62 = .ok (.aload_n 0, 1) := by decide +kernel
theorem dX10_trial_63 : decode cX10_trial 63 = .ok (.getfield 92, 3) := by decide +kernel
theorem dX10_trial_66 : decode cX10_trial 66 = .ok (.iload_n 1, 1) := by decide +kernel
theorem dX10_trial_67 : decode cX10_trial 67 = .ok (.invokevirtual 301, 3) := by decide +kernel
theorem dX10_trial_70 : decode cX10_trial 70 = .ok (.iload_n 2, 1) := by decide +kernel
theorem dX10_trial_71 : decode cX10_trial 71 = .ok (.ifCond .ne 13, 3) := by decide +kernel
theorem dX10_trial_74 : decode cX10_trial 74 = .ok (.aload_n 0, 1) := by decide +kernel
theorem dX10_trial_75 : decode cX10_trial 75 = .ok (.getfield 92, 3) := by decide +kernel
theorem dX10_trial_78 : decode cX10_trial 78 = .ok (.getfield 304, 3) := by decide +kernel
theorem dX10_trial_81 : decode cX10_trial 81 = .ok (.goto 10, 3) := by decide +kernel
theorem dX10_trial_84 : decode cX10_trial 84 = .ok (.aload_n 0, 1) := by decide +kernel
theorem dX10_trial_85 : decode cX10_trial 85 = .ok (.getfield 92, 3) := by decide +kernel
theorem dX10_trial_88 : decode cX10_trial 88 = .ok (.getfield 307, 3) := by decide +kernel
theorem dX10_trial_91 : decode cX10_trial 91 = .ok (.ireturn, 1) := by decide +kernel
theorem dX10_keep_0 : decode cX10_keep 0 = .ok (.iload_n 1, 1) := by decide +kernel
theorem dX10_keep_1 : decode cX10_keep 1 = .ok (.ifCond .lt 8, 3) := by decide +kernel
theorem dX10_keep_4 : decode cX10_keep 4 = .ok (.iload_n 1, 1) := by decide +kernel
theorem dX10_keep_5 : decode cX10_keep 5 = .ok (.iconst 4, 1) := by decide +kernel
theorem dX10_keep_6 : decode cX10_keep 6 = .ok (.if_icmp .lt 5, 3) := by decide +kernel
theorem dX10_keep_9 : decode cX10_keep 9 = .ok (.iconst 0, 1) := by decide +kernel
theorem dX10_keep_10 : decode cX10_keep 10 = .ok (.ireturn, 1) := by decide +kernel
theorem dX10_keep_11 : decode cX10_keep 11 = .ok (.aload_n 0, 1) := by decide +kernel
theorem dX10_keep_12 : decode cX10_keep 12 = .ok (.getfield 67, 3) := by decide +kernel
theorem dX10_keep_15 : decode cX10_keep 15 = .ok (.iload_n 1, 1) := by decide +kernel
theorem dX10_keep_16 : decode cX10_keep 16 = .ok (.aaload, 1) := by decide +kernel
theorem dX10_keep_17 : decode cX10_keep 17 = .ok (.aload_n 0, 1) := by decide +kernel
theorem dX10_keep_18 : decode cX10_keep 18 = .ok (.getfield 49, 3) := by decide +kernel
theorem dX10_keep_21 : decode cX10_keep 21 = .ok (.invokevirtual 310, 3) := by decide +kernel
theorem dX10_keep_24 : decode cX10_keep 24 = .ok (.aload_n 0, 1) := by decide +kernel
theorem dX10_keep_25 : decode cX10_keep 25 = .ok (.getfield 71, 3) := by decide +kernel
theorem dX10_keep_28 : decode cX10_keep 28 = .ok (.iload_n 1, 1) := by decide +kernel
theorem dX10_keep_29 : decode cX10_keep 29 = .ok (.aaload, 1) := by decide +kernel
theorem dX10_keep_30 : decode cX10_keep 30 = .ok (.aload_n 0, 1) := by decide +kernel
theorem dX10_keep_31 : decode cX10_keep 31 = .ok (.getfield 56, 3) := by decide +kernel
theorem dX10_keep_34 : decode cX10_keep 34 = .ok (.invokevirtual 314, 3) := by decide +kernel
theorem dX10_keep_37 : decode cX10_keep 37 = .ok (.aload_n 0, 1) := by decide +kernel
theorem dX10_keep_38 : decode cX10_keep 38 = .ok (.getfield 75, 3) := by decide +kernel
theorem dX10_keep_41 : decode cX10_keep 41 = .ok (.iload_n 1, 1) := by decide +kernel
theorem dX10_keep_42 : decode cX10_keep 42 = .ok (.aload_n 0, 1) := by decide +kernel
theorem dX10_keep_43 : decode cX10_keep 43 = .ok (.getfield 63, 3) := by decide +kernel
theorem dX10_keep_46 : decode cX10_keep 46 = .ok (.getfield 261, 3) := by decide +kernel
theorem dX10_keep_49 : decode cX10_keep 49 = .ok (.iastore, 1) := by decide +kernel
theorem dX10_keep_50 : decode cX10_keep 50 = .ok (.aload_n 0, 1) := by decide +kernel
theorem dX10_keep_51 : decode cX10_keep 51 = .ok (.dup, 1) := by decide +kernel
theorem dX10_keep_52 : decode cX10_keep 52 = .ok (.getfield 131, 3) := by decide +kernel
theorem dX10_keep_55 : decode cX10_keep 55 = .ok (.iconst 1, 1) := by decide +kernel
theorem dX10_keep_56 : decode cX10_keep 56 = .ok (.iload_n 1, 1) := by decide +kernel
theorem dX10_keep_57 : decode cX10_keep 57 = .ok (.ishl, 1) := by decide +kernel
theorem dX10_keep_58 : decode cX10_keep 58 = .ok (.ior, 1) := by decide +kernel
theorem dX10_keep_59 : decode cX10_keep 59 = .ok (.putfield 131, 3) := by decide +kernel
theorem dX10_keep_62 : decode cX10_keep 62 = .ok (.iconst 1, 1) := by decide +kernel
theorem dX10_keep_63 : decode cX10_keep 63 = .ok (.ireturn, 1) := by decide +kernel
theorem dX10_restore_0 : decode cX10_restore 0 = .ok (.iload_n 1, 1) := by decide +kernel
theorem dX10_restore_1 : decode cX10_restore 1 = .ok (.ifCond .lt 19, 3) := by decide +kernel
theorem dX10_restore_4 : decode cX10_restore 4 = .ok (.iload_n 1, 1) := by decide +kernel
theorem dX10_restore_5 : decode cX10_restore 5 = .ok (.iconst 4, 1) := by decide +kernel
theorem dX10_restore_6 : decode cX10_restore 6 = .ok (.if_icmp .ge 14, 3) := by decide +kernel
theorem dX10_restore_9 : decode cX10_restore 9 = .ok (.aload_n 0, 1) := by decide +kernel
theorem dX10_restore_10 : decode cX10_restore 10 = .ok (.getfield 131, 3) := by decide +kernel
theorem dX10_restore_13 : decode cX10_restore 13 = .ok (.iload_n 1, 1) := by decide +kernel
theorem dX10_restore_14 : decode cX10_restore 14 = .ok (.ishr, 1) := by decide +kernel
theorem dX10_restore_15 : decode cX10_restore 15 = .ok (.iconst 1, 1) := by decide +kernel
theorem dX10_restore_16 : decode cX10_restore 16 = .ok (.iand, 1) := by decide +kernel
theorem dX10_restore_17 : decode cX10_restore 17 = .ok (.ifCond .ne 5, 3) := by decide +kernel
theorem dX10_restore_20 : decode cX10_restore 20 = .ok (.iconst 0, 1) := by decide +kernel
theorem dX10_restore_21 : decode cX10_restore 21 = .ok (.ireturn, 1) := by decide +kernel
theorem dX10_restore_22 : decode cX10_restore 22 = .ok (.aload_n 0, 1) := by decide +kernel
theorem dX10_restore_23 : decode cX10_restore 23 = .ok (.getfield 49, 3) := by decide +kernel
theorem dX10_restore_26 : decode cX10_restore 26 = .ok (.aload_n 0, 1) := by decide +kernel
theorem dX10_restore_27 : decode cX10_restore 27 = .ok (.getfield 67, 3) := by decide +kernel
theorem dX10_restore_30 : decode cX10_restore 30 = .ok (.iload_n 1, 1) := by decide +kernel
theorem dX10_restore_31 : decode cX10_restore 31 = .ok (.aaload, 1) := by decide +kernel
theorem dX10_restore_32 : decode cX10_restore 32 = .ok (.invokevirtual 310, 3) := by decide +kernel
theorem dX10_restore_35 : decode cX10_restore 35 = .ok (.aload_n 0, 1) := by decide +kernel
theorem dX10_restore_36 : decode cX10_restore 36 = .ok (.getfield 56, 3) := by decide +kernel
theorem dX10_restore_39 : decode cX10_restore 39 = .ok (.aload_n 0, 1) := by decide +kernel
theorem dX10_restore_40 : decode cX10_restore 40 = .ok (.getfield 71, 3) := by decide +kernel
theorem dX10_restore_43 : decode cX10_restore 43 = .ok (.iload_n 1, 1) := by decide +kernel
theorem dX10_restore_44 : decode cX10_restore 44 = .ok (.aaload, 1) := by decide +kernel
theorem dX10_restore_45 : decode cX10_restore 45 = .ok (.invokevirtual 314, 3) := by decide +kernel
theorem dX10_restore_48 : decode cX10_restore 48 = .ok (.aload_n 0, 1) := by decide +kernel
theorem dX10_restore_49 : decode cX10_restore 49 = .ok (.getfield 63, 3) := by decide +kernel
theorem dX10_restore_52 : decode cX10_restore 52 = .ok (.aload_n 0, 1) := by decide +kernel
theorem dX10_restore_53 : decode cX10_restore 53 = .ok (.getfield 75, 3) := by decide +kernel
theorem dX10_restore_56 : decode cX10_restore 56 = .ok (.iload_n 1, 1) := by decide +kernel
theorem dX10_restore_57 : decode cX10_restore 57 = .ok (.iaload, 1) := by decide +kernel
theorem dX10_restore_58 : decode cX10_restore 58 = .ok (.invokevirtual 317, 3) := by decide +kernel
theorem dX10_restore_61 : decode cX10_restore 61 = .ok (.iconst 1, 1) := by decide +kernel
theorem dX10_restore_62 : decode cX10_restore 62 = .ok (.ireturn, 1) := by decide +kernel
theorem dX10_count_0 : decode cX10_count 0 = .ok (.iload_n 1, 1) := by decide +kernel
theorem dX10_count_1 : decode cX10_count 1 = .ok (.tableswitch 99 0 6 #[43, 51, 59, 67, 75, 83, 91], 43) := by decide +kernel
theorem dX10_count_44 : decode cX10_count 44 = .ok (.aload_n 0, 1) := by decide +kernel
theorem dX10_count_45 : decode cX10_count 45 = .ok (.getfield 49, 3) := by decide +kernel
theorem dX10_count_48 : decode cX10_count 48 = .ok (.getfield 229, 3) := by decide +kernel
theorem dX10_count_51 : decode cX10_count 51 = .ok (.ireturn, 1) := by decide +kernel
theorem dX10_count_52 : decode cX10_count 52 = .ok (.aload_n 0, 1) := by decide +kernel
theorem dX10_count_53 : decode cX10_count 53 = .ok (.getfield 35, 3) := by decide +kernel
theorem dX10_count_56 : decode cX10_count 56 = .ok (.getfield 121, 3) := by decide +kernel
theorem dX10_count_59 : decode cX10_count 59 = .ok (.ireturn, 1) := by decide +kernel
theorem dX10_count_60 : decode cX10_count 60 = .ok (.aload_n 0, 1) := by decide +kernel
theorem dX10_count_61 : decode cX10_count 61 = .ok (.getfield 42, 3) := by decide +kernel
theorem dX10_count_64 : decode cX10_count 64 = .ok (.getfield 134, 3) := by decide +kernel
theorem dX10_count_67 : decode cX10_count 67 = .ok (.ireturn, 1) := by decide +kernel
theorem dX10_count_68 : decode cX10_count 68 = .ok (.aload_n 0, 1) := by decide +kernel
theorem dX10_count_69 : decode cX10_count 69 = .ok (.getfield 42, 3) := by decide +kernel
theorem dX10_count_72 : decode cX10_count 72 = .ok (.getfield 320, 3) := by decide +kernel
theorem dX10_count_75 : decode cX10_count 75 = .ok (.ireturn, 1) := by decide +kernel
theorem dX10_count_76 : decode cX10_count 76 = .ok (.aload_n 0, 1) := by decide +kernel
theorem dX10_count_77 : decode cX10_count 77 = .ok (.getfield 49, 3) := by decide +kernel
theorem dX10_count_80 : decode cX10_count 80 = .ok (.invokevirtual 323, 3) := by decide +kernel
theorem dX10_count_83 : decode cX10_count 83 = .ok (.ireturn, 1) := by decide +kernel
theorem dX10_count_84 : decode cX10_count 84 = .ok (.aload_n 0, 1) := by decide +kernel
theorem dX10_count_85 : decode cX10_count 85 = .ok (.getfield 49, 3) := by decide +kernel
theorem dX10_count_88 : decode cX10_count 88 = .ok (.getfield 170, 3) := by decide +kernel
theorem dX10_count_91 : decode cX10_count 91 = .ok (.ireturn, 1) := by decide +kernel
theorem dX10_count_92 : decode cX10_count 92 = .ok (.aload_n 0, 1) := by decide +kernel
theorem dX10_count_93 : decode cX10_count 93 = .ok (.getfield 131, 3) := by decide +kernel
theorem dX10_count_96 : decode cX10_count 96 = .ok (.invokestatic 326, 3) := by decide +kernel
theorem dX10_count_99 : decode cX10_count 99 = .ok (.ireturn, 1) := by decide +kernel
theorem dX10_count_100 : decode cX10_count 100 = .ok (.iconst (-1), 1) := by decide +kernel
theorem dX10_count_101 : decode cX10_count 101 = .ok (.ireturn, 1) := by decide +kernel
theorem dX10_isSide_0 : decode cX10_isSide 0 = .ok (.iload_n 0, 1) := by decide +kernel
theorem dX10_isSide_1 : decode cX10_isSide 1 = .ok (.ifCond .lt 12, 3) := by decide +kernel
theorem dX10_isSide_4 : decode cX10_isSide 4 = .ok (.iload_n 0, 1) := by decide +kernel
theorem dX10_isSide_5 : decode cX10_isSide 5 = .ok (.iconst 4, 1) := by decide +kernel
theorem dX10_isSide_6 : decode cX10_isSide 6 = .ok (.if_icmp .ge 7, 3) := by decide +kernel
theorem dX10_isSide_9 : decode cX10_isSide 9 = .ok (.iconst 1, 1) := by decide +kernel
theorem dX10_isSide_10 : decode cX10_isSide 10 = .ok (.goto 4, 3) := by decide +kernel
theorem dX10_isSide_13 : decode cX10_isSide 13 = .ok (.iconst 0, 1) := by decide +kernel
theorem dX10_isSide_14 : decode cX10_isSide 14 = .ok (.ireturn, 1) := by decide +kernel
theorem dX10_scoutRun_0 : decode cX10_scoutRun 0 = .ok (.iload_n 2, 1) := by decide +kernel
theorem dX10_scoutRun_1 : decode cX10_scoutRun 1 = .ok (.ifCond .eq 14, 3) := by decide +kernel
theorem dX10_scoutRun_4 : decode cX10_scoutRun 4 = .ok (.aload_n 0, 1) := by decide +kernel
theorem dX10_scoutRun_5 : decode cX10_scoutRun 5 = .ok (.getfield 79, 3) := by decide +kernel
theorem dX10_scoutRun_8 : decode cX10_scoutRun 8 = .ok (.iload_n 1, 1) := by decide +kernel
theorem dX10_scoutRun_9 : decode cX10_scoutRun 9 = .ok (.invokevirtual 147, 3) := by decide +kernel
theorem dX10_scoutRun_12 : decode cX10_scoutRun 12 = .ok (.goto 11, 3) := by decide +kernel
theorem dX10_scoutRun_15 : decode cX10_scoutRun 15 = .ok (.aload_n 0, 1) := by decide +kernel
theorem dX10_scoutRun_16 : decode cX10_scoutRun 16 = .ok (.getfield 79, 3) := by decide +kernel
theorem dX10_scoutRun_19 : decode cX10_scoutRun 19 = .ok (.iload_n 1, 1) := by decide +kernel
theorem dX10_scoutRun_20 : decode cX10_scoutRun 20 = .ok (.invokevirtual 331, 3) := by decide +kernel
theorem dX10_scoutRun_23 : decode cX10_scoutRun 23 = .ok (.aload_n 0, 1) := by decide +kernel
theorem dX10_scoutRun_24 : decode cX10_scoutRun 24 = .ok (.getfield 79, 3) := by decide +kernel
theorem dX10_scoutRun_27 : decode cX10_scoutRun 27 = .ok (.iconst 0, 1) := by decide +kernel
theorem dX10_scoutRun_28 : decode cX10_scoutRun 28 = .ok (.putfield 236, 3) := by decide +kernel
theorem dX10_scoutRun_31 : decode cX10_scoutRun 31 = .ok (.aload_n 0, 1) := by decide +kernel
theorem dX10_scoutRun_32 : decode cX10_scoutRun 32 = .ok (.getfield 79, 3) := by decide +kernel
theorem dX10_scoutRun_35 : decode cX10_scoutRun 35 = .ok (.aload_n 0, 1) := by decide +kernel
theorem dX10_scoutRun_36 : decode cX10_scoutRun 36 = .ok (.getfield 35, 3) := by decide +kernel
theorem dX10_scoutRun_39 : decode cX10_scoutRun 39 = .ok (.aload_n 0, 1) := by decide +kernel
theorem dX10_scoutRun_40 : decode cX10_scoutRun 40 = .ok (.getfield 49, 3) := by decide +kernel
theorem dX10_scoutRun_43 : decode cX10_scoutRun 43 = .ok (.sipush 2000, 3) := by decide +kernel
theorem dX10_scoutRun_46 : decode cX10_scoutRun 46 = .ok (.invokevirtual 196, 3) := by decide +kernel
theorem dX10_scoutRun_49 : decode cX10_scoutRun 49 = .ok (.ireturn, 1) := by decide +kernel
theorem dX11_init_0 : decode cX11_init 0 = .ok (.aload_n 0, 1) := by decide +kernel
theorem dX11_init_1 : decode cX11_init 1 = .ok (.invokespecial 1, 3) := by decide +kernel
theorem dX11_init_4 : decode cX11_init 4 = .ok (.aload_n 0, 1) := by decide +kernel
theorem dX11_init_5 : decode cX11_init 5 = .ok (.sipush 500, 3) := by decide +kernel
theorem dX11_init_8 : decode cX11_init 8 = .ok (.newarray .int, 2) := by decide +kernel
theorem dX11_init_10 : decode cX11_init 10 = .ok (.putfield 7, 3) := by decide +kernel
theorem dX11_init_13 : decode cX11_init 13 = .ok (.aload_n 0, 1) := by decide +kernel
theorem dX11_init_14 : decode cX11_init 14 = .ok (.bipush 112, 2) := by decide +kernel
theorem dX11_init_16 : decode cX11_init 16 = .ok (.newarray .int, 2) := by decide +kernel
theorem dX11_init_18 : decode cX11_init 18 = .ok (.dup, 1) := by decide +kernel
theorem dX11_init_19 : decode cX11_init 19 = .ok (.iconst 0, 1) := by decide +kernel
theorem dX11_init_20 : decode cX11_init 20 = .ok (.bipush 105, 2) := by decide +kernel
theorem dX11_init_22 : decode cX11_init 22 = .ok (.iastore, 1) := by decide +kernel
theorem dX11_init_23 : decode cX11_init 23 = .ok (.dup, 1) := by decide +kernel
theorem dX11_init_24 : decode cX11_init 24 = .ok (.iconst 1, 1) := by decide +kernel
theorem dX11_init_25 : decode cX11_init 25 = .ok (.bipush 102, 2) := by decide +kernel
theorem dX11_init_27 : decode cX11_init 27 = .ok (.iastore, 1) := by decide +kernel
theorem dX11_init_28 : decode cX11_init 28 = .ok (.dup, 1) := by decide +kernel
theorem dX11_init_29 : decode cX11_init 29 = .ok (.iconst 2, 1) := by decide +kernel
theorem dX11_init_30 : decode cX11_init 30 = .ok (.bipush 32, 2) := by decide +kernel
theorem dX11_init_32 : decode cX11_init 32 = .ok (.iastore, 1) := by decide +kernel
theorem dX11_init_33 : decode cX11_init 33 = .ok (.dup, 1) := by decide +kernel
theorem dX11_init_34 : decode cX11_init 34 = .ok (.iconst 3, 1) := by decide +kernel
theorem dX11_init_35 : decode cX11_init 35 = .ok (.bipush 100, 2) := by decide +kernel
theorem dX11_init_37 : decode cX11_init 37 = .ok (.iastore, 1) := by decide +kernel
theorem dX11_init_38 : decode cX11_init 38 = .ok (.dup, 1) := by decide +kernel
theorem dX11_init_39 : decode cX11_init 39 = .ok (.iconst 4, 1) := by decide +kernel
theorem dX11_init_40 : decode cX11_init 40 = .ok (.bipush 111, 2) := by decide +kernel
theorem dX11_init_42 : decode cX11_init 42 = .ok (.iastore, 1) := by decide +kernel
theorem dX11_init_43 : decode cX11_init 43 = .ok (.dup, 1) := by decide +kernel
theorem dX11_init_44 : decode cX11_init 44 = .ok (.iconst 5, 1) := by decide +kernel
theorem dX11_init_45 : decode cX11_init 45 = .ok (.bipush 32, 2) := by decide +kernel
theorem dX11_init_47 : decode cX11_init 47 = .ok (.iastore, 1) := by decide +kernel
theorem dX11_init_48 : decode cX11_init 48 = .ok (.dup, 1) := by decide +kernel
theorem dX11_init_49 : decode cX11_init 49 = .ok (.bipush 6, 2) := by decide +kernel
theorem dX11_init_51 : decode cX11_init 51 = .ok (.bipush 110, 2) := by decide +kernel
theorem dX11_init_53 : decode cX11_init 53 = .ok (.iastore, 1) := by decide +kernel
theorem dX11_init_54 : decode cX11_init 54 = .ok (.dup, 1) := by decide +kernel
theorem dX11_init_55 : decode cX11_init 55 = .ok (.bipush 7, 2) := by decide +kernel
theorem dX11_init_57 : decode cX11_init 57 = .ok (.bipush 111, 2) := by decide +kernel
theorem dX11_init_59 : decode cX11_init 59 = .ok (.iastore, 1) := by decide +kernel
theorem dX11_init_60 : decode cX11_init 60 = .ok (.dup, 1) := by decide +kernel
theorem dX11_init_61 : decode cX11_init 61 = .ok (.bipush 8, 2) := by decide +kernel
theorem dX11_init_63 : decode cX11_init 63 = .ok (.bipush 116, 2) := by decide +kernel
theorem dX11_init_65 : decode cX11_init 65 = .ok (.iastore, 1) := by decide +kernel
theorem dX11_init_66 : decode cX11_init 66 = .ok (.dup, 1) := by decide +kernel
theorem dX11_init_67 : decode cX11_init 67 = .ok (.bipush 9, 2) := by decide +kernel
theorem dX11_init_69 : decode cX11_init 69 = .ok (.bipush 32, 2) := by decide +kernel
theorem dX11_init_71 : decode cX11_init 71 = .ok (.iastore, 1) := by decide +kernel
theorem dX11_init_72 : decode cX11_init 72 = .ok (.dup, 1) := by decide +kernel
theorem dX11_init_73 : decode cX11_init 73 = .ok (.bipush 10, 2) := by decide +kernel
theorem dX11_init_75 : decode cX11_init 75 = .ok (.bipush 98, 2) := by decide +kernel
theorem dX11_init_77 : decode cX11_init 77 = .ok (.iastore, 1) := by decide +kernel
theorem dX11_init_78 : decode cX11_init 78 = .ok (.dup, 1) := by decide +kernel
theorem dX11_init_79 : decode cX11_init 79 = .ok (.bipush 11, 2) := by decide +kernel
theorem dX11_init_81 : decode cX11_init 81 = .ok (.bipush 117, 2) := by decide +kernel
theorem dX11_init_83 : decode cX11_init 83 = .ok (.iastore, 1) := by decide +kernel
theorem dX11_init_84 : decode cX11_init 84 = .ok (.dup, 1) := by decide +kernel
theorem dX11_init_85 : decode cX11_init 85 = .ok (.bipush 12, 2) := by decide +kernel
theorem dX11_init_87 : decode cX11_init 87 = .ok (.bipush 109, 2) := by decide +kernel
theorem dX11_init_89 : decode cX11_init 89 = .ok (.iastore, 1) := by decide +kernel
theorem dX11_init_90 : decode cX11_init 90 = .ok (.dup, 1) := by decide +kernel
theorem dX11_init_91 : decode cX11_init 91 = .ok (.bipush 13, 2) := by decide +kernel
theorem dX11_init_93 : decode cX11_init 93 = .ok (.bipush 112, 2) := by decide +kernel
theorem dX11_init_95 : decode cX11_init 95 = .ok (.iastore, 1) := by decide +kernel
theorem dX11_init_96 : decode cX11_init 96 = .ok (.dup, 1) := by decide +kernel
theorem dX11_init_97 : decode cX11_init 97 = .ok (.bipush 14, 2) := by decide +kernel
theorem dX11_init_99 : decode cX11_init 99 = .ok (.bipush 32, 2) := by decide +kernel
theorem dX11_init_101 : decode cX11_init 101 = .ok (.iastore, 1) := by decide +kernel
theorem dX11_init_102 : decode cX11_init 102 = .ok (.dup, 1) := by decide +kernel
theorem dX11_init_103 : decode cX11_init 103 = .ok (.bipush 15, 2) := by decide +kernel
theorem dX11_init_105 : decode cX11_init 105 = .ok (.bipush 98, 2) := by decide +kernel
theorem dX11_init_107 : decode cX11_init 107 = .ok (.iastore, 1) := by decide +kernel
theorem dX11_init_108 : decode cX11_init 108 = .ok (.dup, 1) := by decide +kernel
theorem dX11_init_109 : decode cX11_init 109 = .ok (.bipush 16, 2) := by decide +kernel
theorem dX11_init_111 : decode cX11_init 111 = .ok (.bipush 101, 2) := by decide +kernel
theorem dX11_init_113 : decode cX11_init 113 = .ok (.iastore, 1) := by decide +kernel
theorem dX11_init_114 : decode cX11_init 114 = .ok (.dup, 1) := by decide +kernel
theorem dX11_init_115 : decode cX11_init 115 = .ok (.bipush 17, 2) := by decide +kernel
theorem dX11_init_117 : decode cX11_init 117 = .ok (.bipush 108, 2) := by decide +kernel
theorem dX11_init_119 : decode cX11_init 119 = .ok (.iastore, 1) := by decide +kernel
theorem dX11_init_120 : decode cX11_init 120 = .ok (.dup, 1) := by decide +kernel
theorem dX11_init_121 : decode cX11_init 121 = .ok (.bipush 18, 2) := by decide +kernel
theorem dX11_init_123 : decode cX11_init 123 = .ok (.bipush 108, 2) := by decide +kernel
theorem dX11_init_125 : decode cX11_init 125 = .ok (.iastore, 1) := by decide +kernel
theorem dX11_init_126 : decode cX11_init 126 = .ok (.dup, 1) := by decide +kernel
theorem dX11_init_127 : decode cX11_init 127 = .ok (.bipush 19, 2) := by decide +kernel
theorem dX11_init_129 : decode cX11_init 129 = .ok (.bipush 32, 2) := by decide +kernel
theorem dX11_init_131 : decode cX11_init 131 = .ok (.iastore, 1) := by decide +kernel
theorem dX11_init_132 : decode cX11_init 132 = .ok (.dup, 1) := by decide +kernel
theorem dX11_init_133 : decode cX11_init 133 = .ok (.bipush 20, 2) := by decide +kernel
theorem dX11_init_135 : decode cX11_init 135 = .ok (.bipush 119, 2) := by decide +kernel
theorem dX11_init_137 : decode cX11_init 137 = .ok (.iastore, 1) := by decide +kernel
theorem dX11_init_138 : decode cX11_init 138 = .ok (.dup, 1) := by decide +kernel
theorem dX11_init_139 : decode cX11_init 139 = .ok (.bipush 21, 2) := by decide +kernel
theorem dX11_init_141 : decode cX11_init 141 = .ok (.bipush 97, 2) := by decide +kernel
theorem dX11_init_143 : decode cX11_init 143 = .ok (.iastore, 1) := by decide +kernel
theorem dX11_init_144 : decode cX11_init 144 = .ok (.dup, 1) := by decide +kernel
theorem dX11_init_145 : decode cX11_init 145 = .ok (.bipush 22, 2) := by decide +kernel
theorem dX11_init_147 : decode cX11_init 147 = .ok (.bipush 121, 2) := by decide +kernel
theorem dX11_init_149 : decode cX11_init 149 = .ok (.iastore, 1) := by decide +kernel
theorem dX11_init_150 : decode cX11_init 150 = .ok (.dup, 1) := by decide +kernel
theorem dX11_init_151 : decode cX11_init 151 = .ok (.bipush 23, 2) := by decide +kernel
theorem dX11_init_153 : decode cX11_init 153 = .ok (.bipush 32, 2) := by decide +kernel
theorem dX11_init_155 : decode cX11_init 155 = .ok (.iastore, 1) := by decide +kernel
theorem dX11_init_156 : decode cX11_init 156 = .ok (.dup, 1) := by decide +kernel
theorem dX11_init_157 : decode cX11_init 157 = .ok (.bipush 24, 2) := by decide +kernel
theorem dX11_init_159 : decode cX11_init 159 = .ok (.bipush 109, 2) := by decide +kernel
theorem dX11_init_161 : decode cX11_init 161 = .ok (.iastore, 1) := by decide +kernel
theorem dX11_init_162 : decode cX11_init 162 = .ok (.dup, 1) := by decide +kernel
theorem dX11_init_163 : decode cX11_init 163 = .ok (.bipush 25, 2) := by decide +kernel
theorem dX11_init_165 : decode cX11_init 165 = .ok (.bipush 111, 2) := by decide +kernel
theorem dX11_init_167 : decode cX11_init 167 = .ok (.iastore, 1) := by decide +kernel
theorem dX11_init_168 : decode cX11_init 168 = .ok (.dup, 1) := by decide +kernel
theorem dX11_init_169 : decode cX11_init 169 = .ok (.bipush 26, 2) := by decide +kernel
theorem dX11_init_171 : decode cX11_init 171 = .ok (.bipush 100, 2) := by decide +kernel
theorem dX11_init_173 : decode cX11_init 173 = .ok (.iastore, 1) := by decide +kernel
theorem dX11_init_174 : decode cX11_init 174 = .ok (.dup, 1) := by decide +kernel
theorem dX11_init_175 : decode cX11_init 175 = .ok (.bipush 27, 2) := by decide +kernel
theorem dX11_init_177 : decode cX11_init 177 = .ok (.bipush 101, 2) := by decide +kernel
theorem dX11_init_179 : decode cX11_init 179 = .ok (.iastore, 1) := by decide +kernel
theorem dX11_init_180 : decode cX11_init 180 = .ok (.dup, 1) := by decide +kernel
theorem dX11_init_181 : decode cX11_init 181 = .ok (.bipush 28, 2) := by decide +kernel
theorem dX11_init_183 : decode cX11_init 183 = .ok (.bipush 32, 2) := by decide +kernel
theorem dX11_init_185 : decode cX11_init 185 = .ok (.iastore, 1) := by decide +kernel
theorem dX11_init_186 : decode cX11_init 186 = .ok (.dup, 1) := by decide +kernel
theorem dX11_init_187 : decode cX11_init 187 = .ok (.bipush 29, 2) := by decide +kernel
theorem dX11_init_189 : decode cX11_init 189 = .ok (.bipush 99, 2) := by decide +kernel
theorem dX11_init_191 : decode cX11_init 191 = .ok (.iastore, 1) := by decide +kernel
theorem dX11_init_192 : decode cX11_init 192 = .ok (.dup, 1) := by decide +kernel
theorem dX11_init_193 : decode cX11_init 193 = .ok (.bipush 30, 2) := by decide +kernel
theorem dX11_init_195 : decode cX11_init 195 = .ok (.bipush 111, 2) := by decide +kernel
theorem dX11_init_197 : decode cX11_init 197 = .ok (.iastore, 1) := by decide +kernel
theorem dX11_init_198 : decode cX11_init 198 = .ok (.dup, 1) := by decide +kernel
theorem dX11_init_199 : decode cX11_init 199 = .ok (.bipush 31, 2) := by decide +kernel
theorem dX11_init_201 : decode cX11_init 201 = .ok (.bipush 117, 2) := by decide +kernel
theorem dX11_init_203 : decode cX11_init 203 = .ok (.iastore, 1) := by decide +kernel
theorem dX11_init_204 : decode cX11_init 204 = .ok (.dup, 1) := by decide +kernel
theorem dX11_init_205 : decode cX11_init 205 = .ok (.bipush 32, 2) := by decide +kernel
theorem dX11_init_207 : decode cX11_init 207 = .ok (.bipush 110, 2) := by decide +kernel
theorem dX11_init_209 : decode cX11_init 209 = .ok (.iastore, 1) := by decide +kernel
theorem dX11_init_210 : decode cX11_init 210 = .ok (.dup, 1) := by decide +kernel
theorem dX11_init_211 : decode cX11_init 211 = .ok (.bipush 33, 2) := by decide +kernel
theorem dX11_init_213 : decode cX11_init 213 = .ok (.bipush 116, 2) := by decide +kernel
theorem dX11_init_215 : decode cX11_init 215 = .ok (.iastore, 1) := by decide +kernel
theorem dX11_init_216 : decode cX11_init 216 = .ok (.dup, 1) := by decide +kernel
theorem dX11_init_217 : decode cX11_init 217 = .ok (.bipush 34, 2) := by decide +kernel
theorem dX11_init_219 : decode cX11_init 219 = .ok (.bipush 32, 2) := by decide +kernel
theorem dX11_init_221 : decode cX11_init 221 = .ok (.iastore, 1) := by decide +kernel
theorem dX11_init_222 : decode cX11_init 222 = .ok (.dup, 1) := by decide +kernel
theorem dX11_init_223 : decode cX11_init 223 = .ok (.bipush 35, 2) := by decide +kernel
theorem dX11_init_225 : decode cX11_init 225 = .ok (.bipush 121, 2) := by decide +kernel
theorem dX11_init_227 : decode cX11_init 227 = .ok (.iastore, 1) := by decide +kernel
theorem dX11_init_228 : decode cX11_init 228 = .ok (.dup, 1) := by decide +kernel
theorem dX11_init_229 : decode cX11_init 229 = .ok (.bipush 36, 2) := by decide +kernel
theorem dX11_init_231 : decode cX11_init 231 = .ok (.bipush 101, 2) := by decide +kernel
theorem dX11_init_233 : decode cX11_init 233 = .ok (.iastore, 1) := by decide +kernel
theorem dX11_init_234 : decode cX11_init 234 = .ok (.dup, 1) := by decide +kernel
theorem dX11_init_235 : decode cX11_init 235 = .ok (.bipush 37, 2) := by decide +kernel
theorem dX11_init_237 : decode cX11_init 237 = .ok (.bipush 115, 2) := by decide +kernel
theorem dX11_init_239 : decode cX11_init 239 = .ok (.iastore, 1) := by decide +kernel
theorem dX11_init_240 : decode cX11_init 240 = .ok (.dup, 1) := by decide +kernel
theorem dX11_init_241 : decode cX11_init 241 = .ok (.bipush 38, 2) := by decide +kernel
theorem dX11_init_243 : decode cX11_init 243 = .ok (.bipush 32, 2) := by decide +kernel
theorem dX11_init_245 : decode cX11_init 245 = .ok (.iastore, 1) := by decide +kernel
theorem dX11_init_246 : decode cX11_init 246 = .ok (.dup, 1) := by decide +kernel
theorem dX11_init_247 : decode cX11_init 247 = .ok (.bipush 39, 2) := by decide +kernel
theorem dX11_init_249 : decode cX11_init 249 = .ok (.bipush 114, 2) := by decide +kernel
theorem dX11_init_251 : decode cX11_init 251 = .ok (.iastore, 1) := by decide +kernel
theorem dX11_init_252 : decode cX11_init 252 = .ok (.dup, 1) := by decide +kernel
theorem dX11_init_253 : decode cX11_init 253 = .ok (.bipush 40, 2) := by decide +kernel
theorem dX11_init_255 : decode cX11_init 255 = .ok (.bipush 105, 2) := by decide +kernel
theorem dX11_init_257 : decode cX11_init 257 = .ok (.iastore, 1) := by decide +kernel
theorem dX11_init_258 : decode cX11_init 258 = .ok (.dup, 1) := by decide +kernel
theorem dX11_init_259 : decode cX11_init 259 = .ok (.bipush 41, 2) := by decide +kernel
theorem dX11_init_261 : decode cX11_init 261 = .ok (.bipush 103, 2) := by decide +kernel
theorem dX11_init_263 : decode cX11_init 263 = .ok (.iastore, 1) := by decide +kernel
theorem dX11_init_264 : decode cX11_init 264 = .ok (.dup, 1) := by decide +kernel
theorem dX11_init_265 : decode cX11_init 265 = .ok (.bipush 42, 2) := by decide +kernel
theorem dX11_init_267 : decode cX11_init 267 = .ok (.bipush 104, 2) := by decide +kernel
theorem dX11_init_269 : decode cX11_init 269 = .ok (.iastore, 1) := by decide +kernel
theorem dX11_init_270 : decode cX11_init 270 = .ok (.dup, 1) := by decide +kernel
theorem dX11_init_271 : decode cX11_init 271 = .ok (.bipush 43, 2) := by decide +kernel
theorem dX11_init_273 : decode cX11_init 273 = .ok (.bipush 116, 2) := by decide +kernel
theorem dX11_init_275 : decode cX11_init 275 = .ok (.iastore, 1) := by decide +kernel
theorem dX11_init_276 : decode cX11_init 276 = .ok (.dup, 1) := by decide +kernel
theorem dX11_init_277 : decode cX11_init 277 = .ok (.bipush 44, 2) := by decide +kernel
theorem dX11_init_279 : decode cX11_init 279 = .ok (.bipush 32, 2) := by decide +kernel
theorem dX11_init_281 : decode cX11_init 281 = .ok (.iastore, 1) := by decide +kernel
theorem dX11_init_282 : decode cX11_init 282 = .ok (.dup, 1) := by decide +kernel
theorem dX11_init_283 : decode cX11_init 283 = .ok (.bipush 45, 2) := by decide +kernel
theorem dX11_init_285 : decode cX11_init 285 = .ok (.bipush 108, 2) := by decide +kernel
theorem dX11_init_287 : decode cX11_init 287 = .ok (.iastore, 1) := by decide +kernel
theorem dX11_init_288 : decode cX11_init 288 = .ok (.dup, 1) := by decide +kernel
theorem dX11_init_289 : decode cX11_init 289 = .ok (.bipush 46, 2) := by decide +kernel
theorem dX11_init_291 : decode cX11_init 291 = .ok (.bipush 101, 2) := by decide +kernel
theorem dX11_init_293 : decode cX11_init 293 = .ok (.iastore, 1) := by decide +kernel
theorem dX11_init_294 : decode cX11_init 294 = .ok (.dup, 1) := by decide +kernel
theorem dX11_init_295 : decode cX11_init 295 = .ok (.bipush 47, 2) := by decide +kernel
theorem dX11_init_297 : decode cX11_init 297 = .ok (.bipush 102, 2) := by decide +kernel
theorem dX11_init_299 : decode cX11_init 299 = .ok (.iastore, 1) := by decide +kernel
theorem dX11_init_300 : decode cX11_init 300 = .ok (.dup, 1) := by decide +kernel
theorem dX11_init_301 : decode cX11_init 301 = .ok (.bipush 48, 2) := by decide +kernel
theorem dX11_init_303 : decode cX11_init 303 = .ok (.bipush 116, 2) := by decide +kernel
theorem dX11_init_305 : decode cX11_init 305 = .ok (.iastore, 1) := by decide +kernel
theorem dX11_init_306 : decode cX11_init 306 = .ok (.dup, 1) := by decide +kernel
theorem dX11_init_307 : decode cX11_init 307 = .ok (.bipush 49, 2) := by decide +kernel
theorem dX11_init_309 : decode cX11_init 309 = .ok (.bipush 32, 2) := by decide +kernel
theorem dX11_init_311 : decode cX11_init 311 = .ok (.iastore, 1) := by decide +kernel
theorem dX11_init_312 : decode cX11_init 312 = .ok (.dup, 1) := by decide +kernel
theorem dX11_init_313 : decode cX11_init 313 = .ok (.bipush 50, 2) := by decide +kernel
theorem dX11_init_315 : decode cX11_init 315 = .ok (.bipush 98, 2) := by decide +kernel
theorem dX11_init_317 : decode cX11_init 317 = .ok (.iastore, 1) := by decide +kernel
theorem dX11_init_318 : decode cX11_init 318 = .ok (.dup, 1) := by decide +kernel
theorem dX11_init_319 : decode cX11_init 319 = .ok (.bipush 51, 2) := by decide +kernel
theorem dX11_init_321 : decode cX11_init 321 = .ok (.bipush 97, 2) := by decide +kernel
theorem dX11_init_323 : decode cX11_init 323 = .ok (.iastore, 1) := by decide +kernel
theorem dX11_init_324 : decode cX11_init 324 = .ok (.dup, 1) := by decide +kernel
theorem dX11_init_325 : decode cX11_init 325 = .ok (.bipush 52, 2) := by decide +kernel
theorem dX11_init_327 : decode cX11_init 327 = .ok (.bipush 99, 2) := by decide +kernel
theorem dX11_init_329 : decode cX11_init 329 = .ok (.iastore, 1) := by decide +kernel
theorem dX11_init_330 : decode cX11_init 330 = .ok (.dup, 1) := by decide +kernel
theorem dX11_init_331 : decode cX11_init 331 = .ok (.bipush 53, 2) := by decide +kernel
theorem dX11_init_333 : decode cX11_init 333 = .ok (.bipush 107, 2) := by decide +kernel
theorem dX11_init_335 : decode cX11_init 335 = .ok (.iastore, 1) := by decide +kernel
theorem dX11_init_336 : decode cX11_init 336 = .ok (.dup, 1) := by decide +kernel
theorem dX11_init_337 : decode cX11_init 337 = .ok (.bipush 54, 2) := by decide +kernel
theorem dX11_init_339 : decode cX11_init 339 = .ok (.bipush 32, 2) := by decide +kernel
theorem dX11_init_341 : decode cX11_init 341 = .ok (.iastore, 1) := by decide +kernel
theorem dX11_init_342 : decode cX11_init 342 = .ok (.dup, 1) := by decide +kernel
theorem dX11_init_343 : decode cX11_init 343 = .ok (.bipush 55, 2) := by decide +kernel
theorem dX11_init_345 : decode cX11_init 345 = .ok (.bipush 102, 2) := by decide +kernel
theorem dX11_init_347 : decode cX11_init 347 = .ok (.iastore, 1) := by decide +kernel
theorem dX11_init_348 : decode cX11_init 348 = .ok (.dup, 1) := by decide +kernel
theorem dX11_init_349 : decode cX11_init 349 = .ok (.bipush 56, 2) := by decide +kernel
theorem dX11_init_351 : decode cX11_init 351 = .ok (.bipush 97, 2) := by decide +kernel
theorem dX11_init_353 : decode cX11_init 353 = .ok (.iastore, 1) := by decide +kernel
theorem dX11_init_354 : decode cX11_init 354 = .ok (.dup, 1) := by decide +kernel
theorem dX11_init_355 : decode cX11_init 355 = .ok (.bipush 57, 2) := by decide +kernel
theorem dX11_init_357 : decode cX11_init 357 = .ok (.bipush 99, 2) := by decide +kernel
theorem dX11_init_359 : decode cX11_init 359 = .ok (.iastore, 1) := by decide +kernel
theorem dX11_init_360 : decode cX11_init 360 = .ok (.dup, 1) := by decide +kernel
theorem dX11_init_361 : decode cX11_init 361 = .ok (.bipush 58, 2) := by decide +kernel
theorem dX11_init_363 : decode cX11_init 363 = .ok (.bipush 101, 2) := by decide +kernel
theorem dX11_init_365 : decode cX11_init 365 = .ok (.iastore, 1) := by decide +kernel
theorem dX11_init_366 : decode cX11_init 366 = .ok (.dup, 1) := by decide +kernel
theorem dX11_init_367 : decode cX11_init 367 = .ok (.bipush 59, 2) := by decide +kernel
theorem dX11_init_369 : decode cX11_init 369 = .ok (.bipush 32, 2) := by decide +kernel
theorem dX11_init_371 : decode cX11_init 371 = .ok (.iastore, 1) := by decide +kernel
theorem dX11_init_372 : decode cX11_init 372 = .ok (.dup, 1) := by decide +kernel
theorem dX11_init_373 : decode cX11_init 373 = .ok (.bipush 60, 2) := by decide +kernel
theorem dX11_init_375 : decode cX11_init 375 = .ok (.bipush 107, 2) := by decide +kernel
theorem dX11_init_377 : decode cX11_init 377 = .ok (.iastore, 1) := by decide +kernel
theorem dX11_init_378 : decode cX11_init 378 = .ok (.dup, 1) := by decide +kernel
theorem dX11_init_379 : decode cX11_init 379 = .ok (.bipush 61, 2) := by decide +kernel
theorem dX11_init_381 : decode cX11_init 381 = .ok (.bipush 101, 2) := by decide +kernel
theorem dX11_init_383 : decode cX11_init 383 = .ok (.iastore, 1) := by decide +kernel
theorem dX11_init_384 : decode cX11_init 384 = .ok (.dup, 1) := by decide +kernel
theorem dX11_init_385 : decode cX11_init 385 = .ok (.bipush 62, 2) := by decide +kernel
theorem dX11_init_387 : decode cX11_init 387 = .ok (.bipush 101, 2) := by decide +kernel
theorem dX11_init_389 : decode cX11_init 389 = .ok (.iastore, 1) := by decide +kernel
theorem dX11_init_390 : decode cX11_init 390 = .ok (.dup, 1) := by decide +kernel
theorem dX11_init_391 : decode cX11_init 391 = .ok (.bipush 63, 2) := by decide +kernel
theorem dX11_init_393 : decode cX11_init 393 = .ok (.bipush 112, 2) := by decide +kernel
theorem dX11_init_395 : decode cX11_init 395 = .ok (.iastore, 1) := by decide +kernel
theorem dX11_init_396 : decode cX11_init 396 = .ok (.dup, 1) := by decide +kernel
theorem dX11_init_397 : decode cX11_init 397 = .ok (.bipush 64, 2) := by decide +kernel
theorem dX11_init_399 : decode cX11_init 399 = .ok (.bipush 32, 2) := by decide +kernel
theorem dX11_init_401 : decode cX11_init 401 = .ok (.iastore, 1) := by decide +kernel
theorem dX11_init_402 : decode cX11_init 402 = .ok (.dup, 1) := by decide +kernel
theorem dX11_init_403 : decode cX11_init 403 = .ok (.bipush 65, 2) := by decide +kernel
theorem dX11_init_405 : decode cX11_init 405 = .ok (.bipush 103, 2) := by decide +kernel
theorem dX11_init_407 : decode cX11_init 407 = .ok (.iastore, 1) := by decide +kernel
theorem dX11_init_408 : decode cX11_init 408 = .ok (.dup, 1) := by decide +kernel
theorem dX11_init_409 : decode cX11_init 409 = .ok (.bipush 66, 2) := by decide +kernel
theorem dX11_init_411 : decode cX11_init 411 = .ok (.bipush 111, 2) := by decide +kernel
theorem dX11_init_413 : decode cX11_init 413 = .ok (.iastore, 1) := by decide +kernel
theorem dX11_init_414 : decode cX11_init 414 = .ok (.dup, 1) := by decide +kernel
theorem dX11_init_415 : decode cX11_init 415 = .ok (.bipush 67, 2) := by decide +kernel
theorem dX11_init_417 : decode cX11_init 417 = .ok (.bipush 32, 2) := by decide +kernel
theorem dX11_init_419 : decode cX11_init 419 = .ok (.iastore, 1) := by decide +kernel
theorem dX11_init_420 : decode cX11_init 420 = .ok (.dup, 1) := by decide +kernel
theorem dX11_init_421 : decode cX11_init 421 = .ok (.bipush 68, 2) := by decide +kernel
theorem dX11_init_423 : decode cX11_init 423 = .ok (.bipush 115, 2) := by decide +kernel
theorem dX11_init_425 : decode cX11_init 425 = .ok (.iastore, 1) := by decide +kernel
theorem dX11_init_426 : decode cX11_init 426 = .ok (.dup, 1) := by decide +kernel
theorem dX11_init_427 : decode cX11_init 427 = .ok (.bipush 69, 2) := by decide +kernel
theorem dX11_init_429 : decode cX11_init 429 = .ok (.bipush 101, 2) := by decide +kernel
theorem dX11_init_431 : decode cX11_init 431 = .ok (.iastore, 1) := by decide +kernel
theorem dX11_init_432 : decode cX11_init 432 = .ok (.dup, 1) := by decide +kernel
theorem dX11_init_433 : decode cX11_init 433 = .ok (.bipush 70, 2) := by decide +kernel
theorem dX11_init_435 : decode cX11_init 435 = .ok (.bipush 116, 2) := by decide +kernel
theorem dX11_init_437 : decode cX11_init 437 = .ok (.iastore, 1) := by decide +kernel
theorem dX11_init_438 : decode cX11_init 438 = .ok (.dup, 1) := by decide +kernel
theorem dX11_init_439 : decode cX11_init 439 = .ok (.bipush 71, 2) := by decide +kernel
theorem dX11_init_441 : decode cX11_init 441 = .ok (.bipush 32, 2) := by decide +kernel
theorem dX11_init_443 : decode cX11_init 443 = .ok (.iastore, 1) := by decide +kernel
theorem dX11_init_444 : decode cX11_init 444 = .ok (.dup, 1) := by decide +kernel
theorem dX11_init_445 : decode cX11_init 445 = .ok (.bipush 72, 2) := by decide +kernel
theorem dX11_init_447 : decode cX11_init 447 = .ok (.bipush 100, 2) := by decide +kernel
theorem dX11_init_449 : decode cX11_init 449 = .ok (.iastore, 1) := by decide +kernel
theorem dX11_init_450 : decode cX11_init 450 = .ok (.dup, 1) := by decide +kernel
theorem dX11_init_451 : decode cX11_init 451 = .ok (.bipush 73, 2) := by decide +kernel
theorem dX11_init_453 : decode cX11_init 453 = .ok (.bipush 114, 2) := by decide +kernel
theorem dX11_init_455 : decode cX11_init 455 = .ok (.iastore, 1) := by decide +kernel
theorem dX11_init_456 : decode cX11_init 456 = .ok (.dup, 1) := by decide +kernel
theorem dX11_init_457 : decode cX11_init 457 = .ok (.bipush 74, 2) := by decide +kernel
theorem dX11_init_459 : decode cX11_init 459 = .ok (.bipush 111, 2) := by decide +kernel
theorem dX11_init_461 : decode cX11_init 461 = .ok (.iastore, 1) := by decide +kernel
theorem dX11_init_462 : decode cX11_init 462 = .ok (.dup, 1) := by decide +kernel
theorem dX11_init_463 : decode cX11_init 463 = .ok (.bipush 75, 2) := by decide +kernel
theorem dX11_init_465 : decode cX11_init 465 = .ok (.bipush 112, 2) := by decide +kernel
theorem dX11_init_467 : decode cX11_init 467 = .ok (.iastore, 1) := by decide +kernel
theorem dX11_init_468 : decode cX11_init 468 = .ok (.dup, 1) := by decide +kernel
theorem dX11_init_469 : decode cX11_init 469 = .ok (.bipush 76, 2) := by decide +kernel
theorem dX11_init_471 : decode cX11_init 471 = .ok (.bipush 32, 2) := by decide +kernel
theorem dX11_init_473 : decode cX11_init 473 = .ok (.iastore, 1) := by decide +kernel
theorem dX11_init_474 : decode cX11_init 474 = .ok (.dup, 1) := by decide +kernel
theorem dX11_init_475 : decode cX11_init 475 = .ok (.bipush 77, 2) := by decide +kernel
theorem dX11_init_477 : decode cX11_init 477 = .ok (.bipush 97, 2) := by decide +kernel
theorem dX11_init_479 : decode cX11_init 479 = .ok (.iastore, 1) := by decide +kernel
theorem dX11_init_480 : decode cX11_init 480 = .ok (.dup, 1) := by decide +kernel
theorem dX11_init_481 : decode cX11_init 481 = .ok (.bipush 78, 2) := by decide +kernel
theorem dX11_init_483 : decode cX11_init 483 = .ok (.bipush 100, 2) := by decide +kernel
theorem dX11_init_485 : decode cX11_init 485 = .ok (.iastore, 1) := by decide +kernel
theorem dX11_init_486 : decode cX11_init 486 = .ok (.dup, 1) := by decide +kernel
theorem dX11_init_487 : decode cX11_init 487 = .ok (.bipush 79, 2) := by decide +kernel
theorem dX11_init_489 : decode cX11_init 489 = .ok (.bipush 100, 2) := by decide +kernel
theorem dX11_init_491 : decode cX11_init 491 = .ok (.iastore, 1) := by decide +kernel
theorem dX11_init_492 : decode cX11_init 492 = .ok (.dup, 1) := by decide +kernel
theorem dX11_init_493 : decode cX11_init 493 = .ok (.bipush 80, 2) := by decide +kernel
theorem dX11_init_495 : decode cX11_init 495 = .ok (.bipush 32, 2) := by decide +kernel
theorem dX11_init_497 : decode cX11_init 497 = .ok (.iastore, 1) := by decide +kernel
theorem dX11_init_498 : decode cX11_init 498 = .ok (.dup, 1) := by decide +kernel
theorem dX11_init_499 : decode cX11_init 499 = .ok (.bipush 81, 2) := by decide +kernel
theorem dX11_init_501 : decode cX11_init 501 = .ok (.bipush 122, 2) := by decide +kernel
theorem dX11_init_503 : decode cX11_init 503 = .ok (.iastore, 1) := by decide +kernel
theorem dX11_init_504 : decode cX11_init 504 = .ok (.dup, 1) := by decide +kernel
theorem dX11_init_505 : decode cX11_init 505 = .ok (.bipush 82, 2) := by decide +kernel
theorem dX11_init_507 : decode cX11_init 507 = .ok (.bipush 101, 2) := by decide +kernel
theorem dX11_init_509 : decode cX11_init 509 = .ok (.iastore, 1) := by decide +kernel
theorem dX11_init_510 : decode cX11_init 510 = .ok (.dup, 1) := by decide +kernel
theorem dX11_init_511 : decode cX11_init 511 = .ok (.bipush 83, 2) := by decide +kernel
theorem dX11_init_513 : decode cX11_init 513 = .ok (.bipush 114, 2) := by decide +kernel
theorem dX11_init_515 : decode cX11_init 515 = .ok (.iastore, 1) := by decide +kernel
theorem dX11_init_516 : decode cX11_init 516 = .ok (.dup, 1) := by decide +kernel
theorem dX11_init_517 : decode cX11_init 517 = .ok (.bipush 84, 2) := by decide +kernel
theorem dX11_init_519 : decode cX11_init 519 = .ok (.bipush 111, 2) := by decide +kernel
theorem dX11_init_521 : decode cX11_init 521 = .ok (.iastore, 1) := by decide +kernel
theorem dX11_init_522 : decode cX11_init 522 = .ok (.dup, 1) := by decide +kernel
theorem dX11_init_523 : decode cX11_init 523 = .ok (.bipush 85, 2) := by decide +kernel
theorem dX11_init_525 : decode cX11_init 525 = .ok (.bipush 32, 2) := by decide +kernel
theorem dX11_init_527 : decode cX11_init 527 = .ok (.iastore, 1) := by decide +kernel
theorem dX11_init_528 : decode cX11_init 528 = .ok (.dup, 1) := by decide +kernel
theorem dX11_init_529 : decode cX11_init 529 = .ok (.bipush 86, 2) := by decide +kernel
theorem dX11_init_531 : decode cX11_init 531 = .ok (.bipush 119, 2) := by decide +kernel
theorem dX11_init_533 : decode cX11_init 533 = .ok (.iastore, 1) := by decide +kernel
theorem dX11_init_534 : decode cX11_init 534 = .ok (.dup, 1) := by decide +kernel
theorem dX11_init_535 : decode cX11_init 535 = .ok (.bipush 87, 2) := by decide +kernel
theorem dX11_init_537 : decode cX11_init 537 = .ok (.bipush 105, 2) := by decide +kernel
theorem dX11_init_539 : decode cX11_init 539 = .ok (.iastore, 1) := by decide +kernel
theorem dX11_init_540 : decode cX11_init 540 = .ok (.dup, 1) := by decide +kernel
theorem dX11_init_541 : decode cX11_init 541 = .ok (.bipush 88, 2) := by decide +kernel
theorem dX11_init_543 : decode cX11_init 543 = .ok (.bipush 112, 2) := by decide +kernel
theorem dX11_init_545 : decode cX11_init 545 = .ok (.iastore, 1) := by decide +kernel
theorem dX11_init_546 : decode cX11_init 546 = .ok (.dup, 1) := by decide +kernel
theorem dX11_init_547 : decode cX11_init 547 = .ok (.bipush 89, 2) := by decide +kernel
theorem dX11_init_549 : decode cX11_init 549 = .ok (.bipush 101, 2) := by decide +kernel
theorem dX11_init_551 : decode cX11_init 551 = .ok (.iastore, 1) := by decide +kernel
theorem dX11_init_552 : decode cX11_init 552 = .ok (.dup, 1) := by decide +kernel
theorem dX11_init_553 : decode cX11_init 553 = .ok (.bipush 90, 2) := by decide +kernel
theorem dX11_init_555 : decode cX11_init 555 = .ok (.bipush 32, 2) := by decide +kernel
theorem dX11_init_557 : decode cX11_init 557 = .ok (.iastore, 1) := by decide +kernel
theorem dX11_init_558 : decode cX11_init 558 = .ok (.dup, 1) := by decide +kernel
theorem dX11_init_559 : decode cX11_init 559 = .ok (.bipush 91, 2) := by decide +kernel
theorem dX11_init_561 : decode cX11_init 561 = .ok (.bipush 114, 2) := by decide +kernel
theorem dX11_init_563 : decode cX11_init 563 = .ok (.iastore, 1) := by decide +kernel
theorem dX11_init_564 : decode cX11_init 564 = .ok (.dup, 1) := by decide +kernel
theorem dX11_init_565 : decode cX11_init 565 = .ok (.bipush 92, 2) := by decide +kernel
theorem dX11_init_567 : decode cX11_init 567 = .ok (.bipush 101, 2) := by decide +kernel
theorem dX11_init_569 : decode cX11_init 569 = .ok (.iastore, 1) := by decide +kernel
theorem dX11_init_570 : decode cX11_init 570 = .ok (.dup, 1) := by decide +kernel
theorem dX11_init_571 : decode cX11_init 571 = .ok (.bipush 93, 2) := by decide +kernel
theorem dX11_init_573 : decode cX11_init 573 = .ok (.bipush 108, 2) := by decide +kernel
theorem dX11_init_575 : decode cX11_init 575 = .ok (.iastore, 1) := by decide +kernel
theorem dX11_init_576 : decode cX11_init 576 = .ok (.dup, 1) := by decide +kernel
theorem dX11_init_577 : decode cX11_init 577 = .ok (.bipush 94, 2) := by decide +kernel
theorem dX11_init_579 : decode cX11_init 579 = .ok (.bipush 97, 2) := by decide +kernel
theorem dX11_init_581 : decode cX11_init 581 = .ok (.iastore, 1) := by decide +kernel
theorem dX11_init_582 : decode cX11_init 582 = .ok (.dup, 1) := by decide +kernel
theorem dX11_init_583 : decode cX11_init 583 = .ok (.bipush 95, 2) := by decide +kernel
theorem dX11_init_585 : decode cX11_init 585 = .ok (.bipush 121, 2) := by decide +kernel
theorem dX11_init_587 : decode cX11_init 587 = .ok (.iastore, 1) := by decide +kernel
theorem dX11_init_588 : decode cX11_init 588 = .ok (.dup, 1) := by decide +kernel
theorem dX11_init_589 : decode cX11_init 589 = .ok (.bipush 96, 2) := by decide +kernel
theorem dX11_init_591 : decode cX11_init 591 = .ok (.bipush 32, 2) := by decide +kernel
theorem dX11_init_593 : decode cX11_init 593 = .ok (.iastore, 1) := by decide +kernel
theorem dX11_init_594 : decode cX11_init 594 = .ok (.dup, 1) := by decide +kernel
theorem dX11_init_595 : decode cX11_init 595 = .ok (.bipush 97, 2) := by decide +kernel
theorem dX11_init_597 : decode cX11_init 597 = .ok (.bipush 111, 2) := by decide +kernel
theorem dX11_init_599 : decode cX11_init 599 = .ok (.iastore, 1) := by decide +kernel
theorem dX11_init_600 : decode cX11_init 600 = .ok (.dup, 1) := by decide +kernel
theorem dX11_init_601 : decode cX11_init 601 = .ok (.bipush 98, 2) := by decide +kernel
theorem dX11_init_603 : decode cX11_init 603 = .ok (.bipush 114, 2) := by decide +kernel
theorem dX11_init_605 : decode cX11_init 605 = .ok (.iastore, 1) := by decide +kernel
theorem dX11_init_606 : decode cX11_init 606 = .ok (.dup, 1) := by decide +kernel
theorem dX11_init_607 : decode cX11_init 607 = .ok (.bipush 99, 2) := by decide +kernel
theorem dX11_init_609 : decode cX11_init 609 = .ok (.bipush 32, 2) := by decide +kernel
theorem dX11_init_611 : decode cX11_init 611 = .ok (.iastore, 1) := by decide +kernel
theorem dX11_init_612 : decode cX11_init 612 = .ok (.dup, 1) := by decide +kernel
theorem dX11_init_613 : decode cX11_init 613 = .ok (.bipush 100, 2) := by decide +kernel
theorem dX11_init_615 : decode cX11_init 615 = .ok (.bipush 97, 2) := by decide +kernel
theorem dX11_init_617 : decode cX11_init 617 = .ok (.iastore, 1) := by decide +kernel
theorem dX11_init_618 : decode cX11_init 618 = .ok (.dup, 1) := by decide +kernel
theorem dX11_init_619 : decode cX11_init 619 = .ok (.bipush 101, 2) := by decide +kernel
theorem dX11_init_621 : decode cX11_init 621 = .ok (.bipush 110, 2) := by decide +kernel
theorem dX11_init_623 : decode cX11_init 623 = .ok (.iastore, 1) := by decide +kernel
theorem dX11_init_624 : decode cX11_init 624 = .ok (.dup, 1) := by decide +kernel
theorem dX11_init_625 : decode cX11_init 625 = .ok (.bipush 102, 2) := by decide +kernel
theorem dX11_init_627 : decode cX11_init 627 = .ok (.bipush 100, 2) := by decide +kernel
theorem dX11_init_629 : decode cX11_init 629 = .ok (.iastore, 1) := by decide +kernel
theorem dX11_init_630 : decode cX11_init 630 = .ok (.dup, 1) := by decide +kernel
theorem dX11_init_631 : decode cX11_init 631 = .ok (.bipush 103, 2) := by decide +kernel
theorem dX11_init_633 : decode cX11_init 633 = .ok (.bipush 32, 2) := by decide +kernel
theorem dX11_init_635 : decode cX11_init 635 = .ok (.iastore, 1) := by decide +kernel
theorem dX11_init_636 : decode cX11_init 636 = .ok (.dup, 1) := by decide +kernel
theorem dX11_init_637 : decode cX11_init 637 = .ok (.bipush 104, 2) := by decide +kernel
theorem dX11_init_639 : decode cX11_init 639 = .ok (.bipush 111, 2) := by decide +kernel
theorem dX11_init_641 : decode cX11_init 641 = .ok (.iastore, 1) := by decide +kernel
theorem dX11_init_642 : decode cX11_init 642 = .ok (.dup, 1) := by decide +kernel
theorem dX11_init_643 : decode cX11_init 643 = .ok (.bipush 105, 2) := by decide +kernel
theorem dX11_init_645 : decode cX11_init 645 = .ok (.bipush 110, 2) := by decide +kernel
theorem dX11_init_647 : decode cX11_init 647 = .ok (.iastore, 1) := by decide +kernel
theorem dX11_init_648 : decode cX11_init 648 = .ok (.dup, 1) := by decide +kernel
theorem dX11_init_649 : decode cX11_init 649 = .ok (.bipush 106, 2) := by decide +kernel
theorem dX11_init_651 : decode cX11_init 651 = .ok (.bipush 101, 2) := by decide +kernel
theorem dX11_init_653 : decode cX11_init 653 = .ok (.iastore, 1) := by decide +kernel
theorem dX11_init_654 : decode cX11_init 654 = .ok (.dup, 1) := by decide +kernel
theorem dX11_init_655 : decode cX11_init 655 = .ok (.bipush 107, 2) := by decide +kernel
theorem dX11_init_657 : decode cX11_init 657 = .ok (.bipush 32, 2) := by decide +kernel
theorem dX11_init_659 : decode cX11_init 659 = .ok (.iastore, 1) := by decide +kernel
theorem dX11_init_660 : decode cX11_init 660 = .ok (.dup, 1) := by decide +kernel
theorem dX11_init_661 : decode cX11_init 661 = .ok (.bipush 108, 2) := by decide +kernel
theorem dX11_init_663 : decode cX11_init 663 = .ok (.bipush 116, 2) := by decide +kernel
theorem dX11_init_665 : decode cX11_init 665 = .ok (.iastore, 1) := by decide +kernel
theorem dX11_init_666 : decode cX11_init 666 = .ok (.dup, 1) := by decide +kernel
theorem dX11_init_667 : decode cX11_init 667 = .ok (.bipush 109, 2) := by decide +kernel
theorem dX11_init_669 : decode cX11_init 669 = .ok (.bipush 119, 2) := by decide +kernel
theorem dX11_init_671 : decode cX11_init 671 = .ok (.iastore, 1) := by decide +kernel
theorem dX11_init_672 : decode cX11_init 672 = .ok (.dup, 1) := by decide +kernel
theorem dX11_init_673 : decode cX11_init 673 = .ok (.bipush 110, 2) := by decide +kernel
theorem dX11_init_675 : decode cX11_init 675 = .ok (.bipush 111, 2) := by decide +kernel
theorem dX11_init_677 : decode cX11_init 677 = .ok (.iastore, 1) := by decide +kernel
theorem dX11_init_678 : decode cX11_init 678 = .ok (.dup, 1) := by decide +kernel
theorem dX11_init_679 : decode cX11_init 679 = .ok (.bipush 111, 2) := by decide +kernel
theorem dX11_init_681 : decode cX11_init 681 = .ok (.bipush 32, 2) := by decide +kernel
theorem dX11_init_683 : decode cX11_init 683 = .ok (.iastore, 1) := by decide +kernel
theorem dX11_init_684 : decode cX11_init 684 = .ok (.putfield 13, 3) := by decide +kernel
theorem dX11_init_687 : decode cX11_init 687 = .ok (.aload_n 0, 1) := by decide +kernel
theorem dX11_init_688 : decode cX11_init 688 = .ok (.iconst (-1), 1) := by decide +kernel
theorem dX11_init_689 : decode cX11_init 689 = .ok (.putfield 16, 3) := by decide +kernel
theorem dX11_init_692 : decode cX11_init 692 = .ok (.aload_n 0, 1) := by decide +kernel
theorem dX11_init_693 : decode cX11_init 693 = .ok (.bipush 60, 2) := by decide +kernel
theorem dX11_init_695 : decode cX11_init 695 = .ok (.newarray .int, 2) := by decide +kernel
theorem dX11_init_697 : decode cX11_init 697 = .ok (.putfield 20, 3) := by decide +kernel
theorem dX11_init_700 : decode cX11_init 700 = .ok (.aload_n 0, 1) := by decide +kernel
theorem dX11_init_701 : decode cX11_init 701 = .ok (.bipush 60, 2) := by decide +kernel
theorem dX11_init_703 : decode cX11_init 703 = .ok (.newarray .int, 2) := by decide +kernel
theorem dX11_init_705 : decode cX11_init 705 = .ok (.putfield 23, 3) := by decide +kernel
theorem dX11_init_708 : decode cX11_init 708 = .ok (.aload_n 0, 1) := by decide +kernel
theorem dX11_init_709 : decode cX11_init 709 = .ok (.sipush 720, 3) := by decide +kernel
theorem dX11_init_712 : decode cX11_init 712 = .ok (.newarray .int, 2) := by decide +kernel
theorem dX11_init_714 : decode cX11_init 714 = .ok (.putfield 26, 3) := by decide +kernel
theorem dX11_init_717 : decode cX11_init 717 = .ok (.aload_n 0, 1) := by decide +kernel
theorem dX11_init_718 : decode cX11_init 718 = .ok (.sipush 720, 3) := by decide +kernel
theorem dX11_init_721 : decode cX11_init 721 = .ok (.newarray .int, 2) := by decide +kernel
theorem dX11_init_723 : decode cX11_init 723 = .ok (.putfield 29, 3) := by decide +kernel
theorem dX11_init_726 : decode cX11_init 726 = .ok (.aload_n 0, 1) := by decide +kernel
theorem dX11_init_727 : decode cX11_init 727 = .ok (.sipush 720, 3) := by decide +kernel
theorem dX11_init_730 : decode cX11_init 730 = .ok (.newarray .boolean, 2) := by decide +kernel
theorem dX11_init_732 : decode cX11_init 732 = .ok (.putfield 32, 3) := by decide +kernel
theorem dX11_init_735 : decode cX11_init 735 = .ok (.aload_n 0, 1) := by decide +kernel
theorem dX11_init_736 : decode cX11_init 736 = .ok (.sipush 720, 3) := by decide +kernel
theorem dX11_init_739 : decode cX11_init 739 = .ok (.newarray .int, 2) := by decide +kernel
theorem dX11_init_741 : decode cX11_init 741 = .ok (.putfield 36, 3) := by decide +kernel
theorem dX11_init_744 : decode cX11_init 744 = .ok (.aload_n 0, 1) := by decide +kernel
theorem dX11_init_745 : decode cX11_init 745 = .ok (.sipush 720, 3) := by decide +kernel
theorem dX11_init_748 : decode cX11_init 748 = .ok (.newarray .int, 2) := by decide +kernel
theorem dX11_init_750 : decode cX11_init 750 = .ok (.putfield 39, 3) := by decide +kernel
theorem dX11_init_753 : decode cX11_init 753 = .ok (.aload_n 0, 1) := by decide +kernel
theorem dX11_init_754 : decode cX11_init 754 = .ok (.bipush 40, 2) := by decide +kernel
theorem dX11_init_756 : decode cX11_init 756 = .ok (.newarray .int, 2) := by decide +kernel
theorem dX11_init_758 : decode cX11_init 758 = .ok (.putfield 42, 3) := by decide +kernel
theorem dX11_init_761 : decode cX11_init 761 = .ok (.aload_n 0, 1) := by decide +kernel
theorem dX11_init_762 : decode cX11_init 762 = .ok (.bipush 48, 2) := by decide +kernel
theorem dX11_init_764 : decode cX11_init 764 = .ok (.newarray .int, 2) := by decide +kernel
theorem dX11_init_766 : decode cX11_init 766 = .ok (.putfield 45, 3) := by decide +kernel
theorem dX11_init_769 : decode cX11_init 769 = .ok (.aload_n 0, 1) := by decide +kernel
theorem dX11_init_770 : decode cX11_init 770 = .ok (.bipush 48, 2) := by decide +kernel
theorem dX11_init_772 : decode cX11_init 772 = .ok (.newarray .int, 2) := by decide +kernel
theorem dX11_init_774 : decode cX11_init 774 = .ok (.putfield 48, 3) := by decide +kernel
theorem dX11_init_777 : decode cX11_init 777 = .ok (.aload_n 0, 1) := by decide +kernel
theorem dX11_init_778 : decode cX11_init 778 = .ok (.sipush 128, 3) := by decide +kernel
theorem dX11_init_781 : decode cX11_init 781 = .ok (.newarray .int, 2) := by decide +kernel
theorem dX11_init_783 : decode cX11_init 783 = .ok (.putfield 51, 3) := by decide +kernel
theorem dX11_init_786 : decode cX11_init 786 = .ok (.aload_n 0, 1) := by decide +kernel
theorem dX11_init_787 : decode cX11_init 787 = .ok (.sipush 128, 3) := by decide +kernel
theorem dX11_init_790 : decode cX11_init 790 = .ok (.newarray .int, 2) := by decide +kernel
theorem dX11_init_792 : decode cX11_init 792 = .ok (.putfield 54, 3) := by decide +kernel
theorem dX11_init_795 : decode cX11_init 795 = .ok (.aload_n 0, 1) := by decide +kernel
theorem dX11_init_796 : decode cX11_init 796 = .ok (.sipush 128, 3) := by decide +kernel
theorem dX11_init_799 : decode cX11_init 799 = .ok (.newarray .int, 2) := by decide +kernel
theorem dX11_init_801 : decode cX11_init 801 = .ok (.putfield 57, 3) := by decide +kernel
theorem dX11_init_804 : decode cX11_init 804 = .ok (.aload_n 0, 1) := by decide +kernel
theorem dX11_init_805 : decode cX11_init 805 = .ok (.sipush 128, 3) := by decide +kernel
theorem dX11_init_808 : decode cX11_init 808 = .ok (.newarray .int, 2) := by decide +kernel
theorem dX11_init_810 : decode cX11_init 810 = .ok (.putfield 60, 3) := by decide +kernel
theorem dX11_init_813 : decode cX11_init 813 = .ok (.aload_n 0, 1) := by decide +kernel
theorem dX11_init_814 : decode cX11_init 814 = .ok (.bipush 80, 2) := by decide +kernel
theorem dX11_init_816 : decode cX11_init 816 = .ok (.newarray .int, 2) := by decide +kernel
theorem dX11_init_818 : decode cX11_init 818 = .ok (.putfield 63, 3) := by decide +kernel
theorem dX11_init_821 : decode cX11_init 821 = .ok (.aload_n 0, 1) := by decide +kernel
theorem dX11_init_822 : decode cX11_init 822 = .ok (.bipush 80, 2) := by decide +kernel
theorem dX11_init_824 : decode cX11_init 824 = .ok (.newarray .int, 2) := by decide +kernel
theorem dX11_init_826 : decode cX11_init 826 = .ok (.putfield 66, 3) := by decide +kernel
theorem dX11_init_829 : decode cX11_init 829 = .ok (.aload_n 0, 1) := by decide +kernel
theorem dX11_init_830 : decode cX11_init 830 = .ok (.bipush 36, 2) := by decide +kernel
theorem dX11_init_832 : decode cX11_init 832 = .ok (.newarray .int, 2) := by decide +kernel
theorem dX11_init_834 : decode cX11_init 834 = .ok (.putfield 69, 3) := by decide +kernel
theorem dX11_init_837 : decode cX11_init 837 = .ok (.aload_n 0, 1) := by decide +kernel
theorem dX11_init_838 : decode cX11_init 838 = .ok (.bipush 36, 2) := by decide +kernel
theorem dX11_init_840 : decode cX11_init 840 = .ok (.newarray .int, 2) := by decide +kernel
theorem dX11_init_842 : decode cX11_init 842 = .ok (.putfield 72, 3) := by decide +kernel
theorem dX11_init_845 : decode cX11_init 845 = .ok (.aload_n 0, 1) := by decide +kernel
theorem dX11_init_846 : decode cX11_init 846 = .ok (.bipush 36, 2) := by decide +kernel
theorem dX11_init_848 : decode cX11_init 848 = .ok (.newarray .int, 2) := by decide +kernel
theorem dX11_init_850 : decode cX11_init 850 = .ok (.putfield 75, 3) := by decide +kernel
theorem dX11_init_853 : decode cX11_init 853 = .ok (.aload_n 0, 1) := by decide +kernel
theorem dX11_init_854 : decode cX11_init 854 = .ok (.iconst (-1), 1) := by decide +kernel
theorem dX11_init_855 : decode cX11_init 855 = .ok (.putfield 78, 3) := by decide +kernel
theorem dX11_init_858 : decode cX11_init 858 = .ok (.aload_n 0, 1) := by decide +kernel
theorem dX11_init_859 : decode cX11_init 859 = .ok (.iconst (-1), 1) := by decide +kernel
theorem dX11_init_860 : decode cX11_init 860 = .ok (.putfield 81, 3) := by decide +kernel
theorem dX11_init_863 : decode cX11_init 863 = .ok (.aload_n 0, 1) := by decide +kernel
theorem dX11_init_864 : decode cX11_init 864 = .ok (.bipush 36, 2) := by decide +kernel
theorem dX11_init_866 : decode cX11_init 866 = .ok (.newarray .int, 2) := by decide +kernel
theorem dX11_init_868 : decode cX11_init 868 = .ok (.putfield 84, 3) := by decide +kernel
theorem dX11_init_871 : decode cX11_init 871 = .ok (.aload_n 0, 1) := by decide +kernel
theorem dX11_init_872 : decode cX11_init 872 = .ok (.bipush 36, 2) := by decide +kernel
theorem dX11_init_874 : decode cX11_init 874 = .ok (.newarray .int, 2) := by decide +kernel
theorem dX11_init_876 : decode cX11_init 876 = .ok (.putfield 87, 3) := by decide +kernel
theorem dX11_init_879 : decode cX11_init 879 = .ok (.aload_n 0, 1) := by decide +kernel
theorem dX11_init_880 : decode cX11_init 880 = .ok (.iconst 4, 1) := by decide +kernel
theorem dX11_init_881 : decode cX11_init 881 = .ok (.newarray .boolean, 2) := by decide +kernel
theorem dX11_init_883 : decode cX11_init 883 = .ok (.putfield 90, 3) := by decide +kernel
theorem dX11_init_886 : decode cX11_init 886 = .ok (.aload_n 0, 1) := by decide +kernel
theorem dX11_init_887 : decode cX11_init 887 = .ok (.sipush 840, 3) := by decide +kernel
theorem dX11_init_890 : decode cX11_init 890 = .ok (.newarray .int, 2) := by decide +kernel
theorem dX11_init_892 : decode cX11_init 892 = .ok (.putfield 93, 3) := by decide +kernel
theorem dX11_init_895 : decode cX11_init 895 = .ok (.aload_n 0, 1) := by decide +kernel
theorem dX11_init_896 : decode cX11_init 896 = .ok (.bipush 16, 2) := by decide +kernel
theorem dX11_init_898 : decode cX11_init 898 = .ok (.newarray .boolean, 2) := by decide +kernel
theorem dX11_init_900 : decode cX11_init 900 = .ok (.putfield 96, 3) := by decide +kernel
theorem dX11_init_903 : decode cX11_init 903 = .ok (.aload_n 0, 1) := by decide +kernel
theorem dX11_init_904 : decode cX11_init 904 = .ok (.bipush 16, 2) := by decide +kernel
theorem dX11_init_906 : decode cX11_init 906 = .ok (.newarray .int, 2) := by decide +kernel
theorem dX11_init_908 : decode cX11_init 908 = .ok (.putfield 99, 3) := by decide +kernel
theorem dX11_init_911 : decode cX11_init 911 = .ok (.aload_n 0, 1) := by decide +kernel
theorem dX11_init_912 : decode cX11_init 912 = .ok (.bipush 16, 2) := by decide +kernel
theorem dX11_init_914 : decode cX11_init 914 = .ok (.newarray .int, 2) := by decide +kernel
theorem dX11_init_916 : decode cX11_init 916 = .ok (.putfield 102, 3) := by decide +kernel
theorem dX11_init_919 : decode cX11_init 919 = .ok (.aload_n 0, 1) := by decide +kernel
theorem dX11_init_920 : decode cX11_init 920 = .ok (.bipush 16, 2) := by decide +kernel
theorem dX11_init_922 : decode cX11_init 922 = .ok (.newarray .int, 2) := by decide +kernel
theorem dX11_init_924 : decode cX11_init 924 = .ok (.putfield 105, 3) := by decide +kernel
theorem dX11_init_927 : decode cX11_init 927 = .ok (.aload_n 0, 1) := by decide +kernel
theorem dX11_init_928 : decode cX11_init 928 = .ok (.bipush 16, 2) := by decide +kernel
theorem dX11_init_930 : decode cX11_init 930 = .ok (.newarray .int, 2) := by decide +kernel
theorem dX11_init_932 : decode cX11_init 932 = .ok (.putfield 108, 3) := by decide +kernel
theorem dX11_init_935 : decode cX11_init 935 = .ok (.aload_n 0, 1) := by decide +kernel
theorem dX11_init_936 : decode cX11_init 936 = .ok (.bipush 16, 2) := by decide +kernel
theorem dX11_init_938 : decode cX11_init 938 = .ok (.newarray .int, 2) := by decide +kernel
theorem dX11_init_940 : decode cX11_init 940 = .ok (.putfield 111, 3) := by decide +kernel
theorem dX11_init_943 : decode cX11_init 943 = .ok (.aload_n 0, 1) := by decide +kernel
theorem dX11_init_944 : decode cX11_init 944 = .ok (.bipush 100, 2) := by decide +kernel
theorem dX11_init_946 : decode cX11_init 946 = .ok (.newarray .int, 2) := by decide +kernel
theorem dX11_init_948 : decode cX11_init 948 = .ok (.putfield 114, 3) := by decide +kernel
theorem dX11_init_951 : decode cX11_init 951 = .ok (.aload_n 0, 1) := by decide +kernel
theorem dX11_init_952 : decode cX11_init 952 = .ok (.bipush 64, 2) := by decide +kernel
theorem dX11_init_954 : decode cX11_init 954 = .ok (.newarray .boolean, 2) := by decide +kernel
theorem dX11_init_956 : decode cX11_init 956 = .ok (.putfield 117, 3) := by decide +kernel
theorem dX11_init_959 : decode cX11_init 959 = .ok (.aload_n 0, 1) := by decide +kernel
theorem dX11_init_960 : decode cX11_init 960 = .ok (.bipush 36, 2) := by decide +kernel
theorem dX11_init_962 : decode cX11_init 962 = .ok (.newarray .int, 2) := by decide +kernel
theorem dX11_init_964 : decode cX11_init 964 = .ok (.putfield 120, 3) := by decide +kernel
theorem dX11_init_967 : decode cX11_init 967 = .ok (.aload_n 0, 1) := by decide +kernel
theorem dX11_init_968 : decode cX11_init 968 = .ok (.sipush 500, 3) := by decide +kernel
theorem dX11_init_971 : decode cX11_init 971 = .ok (.newarray .int, 2) := by decide +kernel
theorem dX11_init_973 : decode cX11_init 973 = .ok (.putfield 123, 3) := by decide +kernel
theorem dX11_init_976 : decode cX11_init 976 = .ok (.aload_n 0, 1) := by decide +kernel
theorem dX11_init_977 : decode cX11_init 977 = .ok (.iconst 5, 1) := by decide +kernel
theorem dX11_init_978 : decode cX11_init 978 = .ok (.iconst 5, 1) := by decide +kernel
theorem dX11_init_979 : decode cX11_init 979 = .ok (.invokevirtual 126, 3) := by decide +kernel
theorem dX11_init_982 : decode cX11_init 982 = .ok (.return_, 1) := by decide +kernel
theorem dX11_thrown_0 : decode cX11_thrown 0 = .ok (.aload_n 0, 1) := by decide +kernel
theorem dX11_thrown_1 : decode cX11_thrown 1 = .ok (.getfield 130, 3) := by decide +kernel
theorem dX11_thrown_4 : decode cX11_thrown 4 = .ok (.ireturn, 1) := by decide +kernel
theorem dX11_feed_0 : decode cX11_feed 0 = .ok (.aload_n 0, 1) := by decide +kernel
theorem dX11_feed_1 : decode cX11_feed 1 = .ok (.iconst 0, 1) := by decide +kernel
theorem dX11_feed_2 : decode cX11_feed 2 = .ok (.putfield 130, 3) := by decide +kernel
theorem dX11_feed_5 : decode cX11_feed 5 = .ok (.aload_n 0, 1) := by decide +kernel
theorem dX11_feed_6 : decode cX11_feed 6 = .ok (.getfield 133, 3) := by decide +kernel
theorem dX11_feed_9 : decode cX11_feed 9 = .ok (.bipush 20, 2) := by decide +kernel
theorem dX11_feed_11 : decode cX11_feed 11 = .ok (.iadd, 1) := by decide +kernel
theorem dX11_feed_12 : decode cX11_feed 12 = .ok (.sipush 500, 3) := by decide +kernel
theorem dX11_feed_15 : decode cX11_feed 15 = .ok (.if_icmp .le 5, 3) := by decide +kernel
theorem dX11_feed_18 : decode cX11_feed 18 = .ok (.iconst (-1), 1) := by decide +kernel
theorem dX11_feed_19 : decode cX11_feed 19 = .ok (.ireturn, 1) := by decide +kernel
theorem dX11_feed_20 : decode cX11_feed 20 = .ok (.iconst 0, 1) := by decide +kernel
theorem dX11_feed_21 : decode cX11_feed 21 = .ok (.istore 6, 2) := by decide +kernel
theorem dX11_feed_23 : decode cX11_feed 23 = .ok (.iload 6, 2) := by decide +kernel
theorem dX11_feed_25 : decode cX11_feed 25 = .ok (.bipush 20, 2) := by decide +kernel
theorem dX11_feed_27 : decode cX11_feed 27 = .ok (.if_icmp .ge 86, 3) := by decide +kernel
theorem dX11_feed_30 : decode cX11_feed 30 = .ok (.iload 6, 2) := by decide +kernel
theorem dX11_feed_32 : decode cX11_feed 32 = .ok (.iconst 4, 1) := by decide +kernel
theorem dX11_feed_33 : decode cX11_feed 33 = .ok (.if_icmp .ge 7, 3) := by decide +kernel
theorem dX11_feed_36 : decode cX11_feed 36 = .ok (.iload_n 1, 1) := by decide +kernel
theorem dX11_feed_37 : decode cX11_feed 37 = .ok (.goto 39, 3) := by decide +kernel
theorem dX11_feed_40 : decode cX11_feed 40 = .ok (.iload 6, 2) := by decide +kernel
theorem dX11_feed_42 : decode cX11_feed 42 = .ok (.bipush 8, 2) := by decide +kernel
theorem dX11_feed_44 : decode cX11_feed 44 = .ok (.if_icmp .ge 7, 3) := by decide +kernel
theorem dX11_feed_47 : decode cX11_feed 47 = .ok (.iload_n 2, 1) := by decide +kernel
theorem dX11_feed_48 : decode cX11_feed 48 = .ok (.goto 28, 3) := by decide +kernel
theorem dX11_feed_51 : decode cX11_feed 51 = .ok (.iload 6, 2) := by decide +kernel
theorem dX11_feed_53 : decode cX11_feed 53 = .ok (.bipush 12, 2) := by decide +kernel
theorem dX11_feed_55 : decode cX11_feed 55 = .ok (.if_icmp .ge 7, 3) := by decide +kernel
theorem dX11_feed_58 : decode cX11_feed 58 = .ok (.iload_n 3, 1) := by decide +kernel
theorem dX11_feed_59 : decode cX11_feed 59 = .ok (.goto 17, 3) := by decide +kernel
theorem dX11_feed_62 : decode cX11_feed 62 = .ok (.iload 6, 2) := by decide +kernel
theorem dX11_feed_64 : decode cX11_feed 64 = .ok (.bipush 16, 2) := by decide +kernel
theorem dX11_feed_66 : decode cX11_feed 66 = .ok (.if_icmp .ge 8, 3) := by decide +kernel
theorem dX11_feed_69 : decode cX11_feed 69 = .ok (.iload 4, 2) := by decide +kernel
theorem dX11_feed_71 : decode cX11_feed 71 = .ok (.goto 5, 3) := by decide +kernel
theorem dX11_feed_74 : decode cX11_feed 74 = .ok (.iload 5, 2) := by decide +kernel
theorem dX11_feed_76 : decode cX11_feed 76 = .ok (.istore 7, 2) := by decide +kernel
theorem dX11_feed_78 : decode cX11_feed 78 = .ok (.aload_n 0, 1) := by decide +kernel
theorem dX11_feed_79 : decode cX11_feed 79 = .ok (.getfield 7, 3) := by decide +kernel
theorem dX11_feed_82 : decode cX11_feed 82 = .ok (.aload_n 0, 1) := by decide +kernel
theorem dX11_feed_83 : decode cX11_feed 83 = .ok (.getfield 133, 3) := by decide +kernel
theorem dX11_feed_86 : decode cX11_feed 86 = .ok (.iload 6, 2) := by decide +kernel
theorem dX11_feed_88 : decode cX11_feed 88 = .ok (.iadd, 1) := by decide +kernel
theorem dX11_feed_89 : decode cX11_feed 89 = .ok (.iload 7, 2) := by decide +kernel
theorem dX11_feed_91 : decode cX11_feed 91 = .ok (.bipush 24, 2) := by decide +kernel
theorem dX11_feed_93 : decode cX11_feed 93 = .ok (.bipush 8, 2) := by decide +kernel
theorem dX11_feed_95 : decode cX11_feed 95 = .ok (.iload 6, 2) := by decide +kernel
theorem dX11_feed_97 : decode cX11_feed 97 = .ok (.iconst 4, 1) := by decide +kernel
theorem dX11_feed_98 : decode cX11_feed 98 = .ok (.irem, 1) := by decide +kernel
theorem dX11_feed_99 : decode cX11_feed 99 = .ok (.imul, 1) := by decide +kernel
theorem dX11_feed_100 : decode cX11_feed 100 = .ok (.isub, 1) := by decide +kernel
theorem dX11_feed_101 : decode cX11_feed 101 = .ok (.ishr, 1) := by decide +kernel
theorem dX11_feed_102 : decode cX11_feed 102 = .ok (.sipush 255, 3) := by decide +kernel
theorem dX11_feed_105 : decode cX11_feed 105 = .ok (.iand, 1) := by decide +kernel
theorem dX11_feed_106 : decode cX11_feed 106 = .ok (.iastore, 1) := by decide +kernel
theorem dX11_feed_107 : decode cX11_feed 107 = .ok (.iinc 6 1, 3) := by decide +kernel
theorem dX11_feed_110 : decode cX11_feed 110 = .ok (.goto (-87), 3) := by decide +kernel
theorem dX11_feed_113 : decode cX11_feed 113 = .ok (.aload_n 0, 1) := by decide +kernel
theorem dX11_feed_114 : decode cX11_feed 114 = .ok (.dup, 1) := by decide +kernel
theorem dX11_feed_115 : decode cX11_feed 115 = .ok (.getfield 133, 3) := by decide +kernel
theorem dX11_feed_118 : decode cX11_feed 118 = .ok (.bipush 20, 2) := by decide +kernel
theorem dX11_feed_120 : decode cX11_feed 120 = .ok (.iadd, 1) := by decide +kernel
theorem dX11_feed_121 : decode cX11_feed 121 = .ok (.putfield 133, 3) := by decide +kernel
theorem dX11_feed_124 : decode cX11_feed 124 = .ok (.aload_n 0, 1) := by decide +kernel
theorem dX11_feed_125 : decode cX11_feed 125 = .ok (.getfield 133, 3) := by decide +kernel
theorem dX11_feed_128 : decode cX11_feed 128 = .ok (.ireturn, 1) := by decide +kernel
theorem dX11_isIn_0 : decode cX11_isIn 0 = .ok (.iload_n 0, 1) := by decide +kernel
theorem dX11_isIn_1 : decode cX11_isIn 1 = .ok (.iload_n 1, 1) := by decide +kernel
theorem dX11_isIn_2 : decode cX11_isIn 2 = .ok (.if_icmp .lt 12, 3) := by decide +kernel
theorem dX11_isIn_5 : decode cX11_isIn 5 = .ok (.iload_n 0, 1) := by decide +kernel
theorem dX11_isIn_6 : decode cX11_isIn 6 = .ok (.iload_n 2, 1) := by decide +kernel
theorem dX11_isIn_7 : decode cX11_isIn 7 = .ok (.if_icmp .gt 7, 3) := by decide +kernel
theorem dX11_isIn_10 : decode cX11_isIn 10 = .ok (.iconst 1, 1) := by decide +kernel
theorem dX11_isIn_11 : decode cX11_isIn 11 = .ok (.goto 4, 3) := by decide +kernel
theorem dX11_isIn_14 : decode cX11_isIn 14 = .ok (.iconst 0, 1) := by decide +kernel
theorem dX11_isIn_15 : decode cX11_isIn 15 = .ok (.ireturn, 1) := by decide +kernel
theorem dX11_isOf_0 : decode cX11_isOf 0 = .ok (.iload_n 0, 1) := by decide +kernel
theorem dX11_isOf_1 : decode cX11_isOf 1 = .ok (.iload_n 1, 1) := by decide +kernel
theorem dX11_isOf_2 : decode cX11_isOf 2 = .ok (.ishr, 1) := by decide +kernel
theorem dX11_isOf_3 : decode cX11_isOf 3 = .ok (.iconst 1, 1) := by decide +kernel
theorem dX11_isOf_4 : decode cX11_isOf 4 = .ok (.iand, 1) := by decide +kernel
theorem dX11_isOf_5 : decode cX11_isOf 5 = .ok (.iconst 1, 1) := by decide +kernel
theorem dX11_isOf_6 : decode cX11_isOf 6 = .ok (.if_icmp .ne 7, 3) := by decide +kernel
theorem dX11_isOf_9 : decode cX11_isOf 9 = .ok (.iconst 1, 1) := by decide +kernel
theorem dX11_isOf_10 : decode cX11_isOf 10 = .ok (.goto 4, 3) := by decide +kernel
theorem dX11_isOf_13 : decode cX11_isOf 13 = .ok (.iconst 0, 1) := by decide +kernel
theorem dX11_isOf_14 : decode cX11_isOf 14 = .ok (.ireturn, 1) := by decide +kernel
theorem dX11_wrong_0 : decode cX11_wrong 0 = .ok (.aload_n 0, 1) := by decide +kernel
theorem dX11_wrong_1 : decode cX11_wrong 1 = .ok (.iload_n 1, 1) := by decide +kernel
theorem dX11_wrong_2 : decode cX11_wrong 2 = .ok (.putfield 136, 3) := by decide +kernel
theorem dX11_wrong_5 : decode cX11_wrong 5 = .ok (.aload_n 0, 1) := by decide +kernel
theorem dX11_wrong_6 : decode cX11_wrong 6 = .ok (.aload_n 0, 1) := by decide +kernel
theorem dX11_wrong_7 : decode cX11_wrong 7 = .ok (.getfield 139, 3) := by decide +kernel
theorem dX11_wrong_10 : decode cX11_wrong 10 = .ok (.putfield 16, 3) := by decide +kernel
theorem dX11_wrong_13 : decode cX11_wrong 13 = .ok (.iconst 0, 1) := by decide +kernel
theorem dX11_wrong_14 : decode cX11_wrong 14 = .ok (.ireturn, 1) := by decide +kernel
theorem dX11_wordAt_0 : decode cX11_wordAt 0 = .ok (.iconst 0, 1) := by decide +kernel
theorem dX11_wordAt_1 : decode cX11_wordAt 1 = .ok (.istore_n 3, 1) := by decide +kernel
theorem dX11_wordAt_2 : decode cX11_wordAt 2 = .ok (.iconst 0, 1) := by decide +kernel
theorem dX11_wordAt_3 : decode cX11_wordAt 3 = .ok (.istore 4, 2) := by decide +kernel
theorem dX11_wordAt_5 : decode cX11_wordAt 5 = .ok (.iload 4, 2) := by decide +kernel
theorem dX11_wordAt_7 : decode cX11_wordAt 7 = .ok (.aload_n 0, 1) := by decide +kernel
theorem dX11_wordAt_8 : decode cX11_wordAt 8 = .ok (.getfield 13, 3) := by decide +kernel
theorem dX11_wordAt_11 : decode cX11_wordAt 11 = .ok (.arraylength, 1) := by decide +kernel
theorem dX11_wordAt_12 : decode cX11_wordAt 12 = .ok (.if_icmp .ge 114, 3) := by decide +kernel
theorem dX11_wordAt_15 : decode cX11_wordAt 15 = .ok (.iconst 0, 1) := by decide +kernel
theorem dX11_wordAt_16 : decode cX11_wordAt 16 = .ok (.istore 5, 2) := by decide +kernel
theorem dX11_wordAt_18 : decode cX11_wordAt 18 = .ok (.aload_n 0, 1) := by decide +kernel
theorem dX11_wordAt_19 : decode cX11_wordAt 19 = .ok (.getfield 13, 3) := by decide +kernel
theorem dX11_wordAt_22 : decode cX11_wordAt 22 = .ok (.iload 4, 2) := by decide +kernel
theorem dX11_wordAt_24 : decode cX11_wordAt 24 = .ok (.iload 5, 2) := by decide +kernel
theorem dX11_wordAt_26 : decode cX11_wordAt 26 = .ok (.iadd, 1) := by decide +kernel
theorem dX11_wordAt_27 : decode cX11_wordAt 27 = .ok (.iaload, 1) := by decide +kernel
theorem dX11_wordAt_28 : decode cX11_wordAt 28 = .ok (.bipush 32, 2) := by decide +kernel
theorem dX11_wordAt_30 : decode cX11_wordAt 30 = .ok (.if_icmp .eq 9, 3) := by decide +kernel
theorem dX11_wordAt_33 : decode cX11_wordAt 33 = .ok (.iinc 5 1, 3) := by decide +kernel
theorem dX11_wordAt_36 : decode cX11_wordAt 36 = .ok (.goto (-18), 3) := by decide +kernel
theorem dX11_wordAt_39 : decode cX11_wordAt 39 = .ok (.iload 5, 2) := by decide +kernel
theorem dX11_wordAt_41 : decode cX11_wordAt 41 = .ok (.iload_n 2, 1) := by decide +kernel
theorem dX11_wordAt_42 : decode cX11_wordAt 42 = .ok (.iload_n 1, 1) := by decide +kernel
theorem dX11_wordAt_43 : decode cX11_wordAt 43 = .ok (.isub, 1) := by decide +kernel
theorem dX11_wordAt_44 : decode cX11_wordAt 44 = .ok (.if_icmp .ne 7, 3) := by decide +kernel
theorem dX11_wordAt_47 : decode cX11_wordAt 47 = .ok (.iconst 1, 1) := by decide +kernel
theorem dX11_wordAt_48 : decode cX11_wordAt 48 = .ok (.goto 4, 3) := by decide +kernel
theorem dX11_wordAt_51 : decode cX11_wordAt 51 = .ok (.iconst 0, 1) := by decide +kernel
theorem dX11_wordAt_52 : decode cX11_wordAt 52 = .ok (.istore 6, 2) := by decide +kernel
theorem dX11_wordAt_54 : decode cX11_wordAt 54 = .ok (.iconst 0, 1) := by decide +kernel
theorem dX11_wordAt_55 : decode cX11_wordAt 55 = .ok (.istore 7, 2) := by decide +kernel
theorem dX11_wordAt_57 : decode cX11_wordAt 57 = .ok (.iload 7, 2) := by decide +kernel
theorem dX11_wordAt_59 : decode cX11_wordAt 59 = .ok (.iload 5, 2) := by decide +kernel
theorem dX11_wordAt_61 : decode cX11_wordAt 61 = .ok (.if_icmp .ge 43, 3) := by decide +kernel
theorem dX11_wordAt_64 : decode cX11_wordAt 64 = .ok (.iload 6, 2) := by decide +kernel
theorem dX11_wordAt_66 : decode cX11_wordAt 66 = .ok (.ifCond .eq 38, 3) := by decide +kernel
theorem dX11_wordAt_69 : decode cX11_wordAt 69 = .ok (.aload_n 0, 1) := by decide +kernel
theorem dX11_wordAt_70 : decode cX11_wordAt 70 = .ok (.getfield 13, 3) := by decide +kernel
theorem dX11_wordAt_73 : decode cX11_wordAt 73 = .ok (.iload 4, 2) := by decide +kernel
theorem dX11_wordAt_75 : decode cX11_wordAt 75 = .ok (.iload 7, 2) := by decide +kernel
theorem dX11_wordAt_77 : decode cX11_wordAt 77 = .ok (.iadd, 1) := by decide +kernel
theorem dX11_wordAt_78 : decode cX11_wordAt 78 = .ok (.iaload, 1) := by decide +kernel
theorem dX11_wordAt_79 : decode cX11_wordAt 79 = .ok (.aload_n 0, 1) := by decide +kernel
theorem dX11_wordAt_80 : decode cX11_wordAt 80 = .ok (.getfield 7, 3) := by decide +kernel
theorem dX11_wordAt_83 : decode cX11_wordAt 83 = .ok (.iload_n 1, 1) := by decide +kernel
theorem dX11_wordAt_84 : decode cX11_wordAt 84 = .ok (.iload 7, 2) := by decide +kernel
theorem dX11_wordAt_86 : decode cX11_wordAt 86 = .ok (.iadd, 1) := by decide +kernel
theorem dX11_wordAt_87 : decode cX11_wordAt 87 = .ok (.iaload, 1) := by decide +kernel
theorem dX11_wordAt_88 : decode cX11_wordAt 88 = .ok (.if_icmp .ne 7, 3) := by decide +kernel
theorem dX11_wordAt_91 : decode cX11_wordAt 91 = .ok (.iconst 1, 1) := by decide +kernel
theorem dX11_wordAt_92 : decode cX11_wordAt 92 = .ok (.goto 4, 3) := by decide +kernel
theorem dX11_wordAt_95 : decode cX11_wordAt 95 = .ok (.iconst 0, 1) := by decide +kernel
theorem dX11_wordAt_96 : decode cX11_wordAt 96 = .ok (.istore 6, 2) := by decide +kernel
theorem dX11_wordAt_98 : decode cX11_wordAt 98 = .ok (.iinc 7 1, 3) := by decide +kernel
theorem dX11_wordAt_101 : decode cX11_wordAt 101 = .ok (.goto (-44), 3) := by decide +kernel
theorem dX11_wordAt_104 : decode cX11_wordAt 104 = .ok (.iload 6, 2) := by decide +kernel
theorem dX11_wordAt_106 : decode cX11_wordAt 106 = .ok (.ifCond .eq 5, 3) := by decide +kernel
theorem dX11_wordAt_109 : decode cX11_wordAt 109 = .ok (.iload_n 3, 1) := by decide +kernel
theorem dX11_wordAt_110 : decode cX11_wordAt 110 = .ok (.ireturn, 1) := by decide +kernel
theorem dX11_wordAt_111 : decode cX11_wordAt 111 = .ok (.iload 4, 2) := by decide +kernel
theorem dX11_wordAt_113 : decode cX11_wordAt 113 = .ok (.iload 5, 2) := by decide +kernel
theorem dX11_wordAt_115 : decode cX11_wordAt 115 = .ok (.iconst 1, 1) := by decide +kernel
theorem dX11_wordAt_116 : decode cX11_wordAt 116 = .ok (.iadd, 1) := by decide +kernel
theorem dX11_wordAt_117 : decode cX11_wordAt 117 = .ok (.iadd, 1) := by decide +kernel
theorem dX11_wordAt_118 : decode cX11_wordAt 118 = .ok (.istore 4, 2) := by decide +kernel
theorem dX11_wordAt_120 : decode cX11_wordAt 120 = .ok (.iinc 3 1, 3) := by decide +kernel
theorem dX11_wordAt_123 : decode cX11_wordAt 123 = .ok (.goto (-118), 3) := by decide +kernel
theorem dX11_wordAt_126 : decode cX11_wordAt 126 = .ok (.iconst (-1), 1) := by decide +kernel
theorem dX11_wordAt_127 : decode cX11_wordAt 127 = .ok (.ireturn, 1) := by decide +kernel
theorem dX11_isSmall_0 : decode cX11_isSmall 0 = .ok (.iload_n 1, 1) := by decide +kernel
theorem dX11_isSmall_1 : decode cX11_isSmall 1 = .ok (.aload_n 0, 1) := by decide +kernel
theorem dX11_isSmall_2 : decode cX11_isSmall 2 = .ok (.getfield 142, 3) := by decide +kernel
theorem dX11_isSmall_5 : decode cX11_isSmall 5 = .ok (.if_icmp .ge 29, 3) := by decide +kernel
theorem dX11_isSmall_8 : decode cX11_isSmall 8 = .ok (.aload_n 0, 1) := by decide +kernel
theorem dX11_isSmall_9 : decode cX11_isSmall 9 = .ok (.getfield 7, 3) := by decide +kernel
theorem dX11_isSmall_12 : decode cX11_isSmall 12 = .ok (.iload_n 1, 1) := by decide +kernel
theorem dX11_isSmall_13 : decode cX11_isSmall 13 = .ok (.iaload, 1) := by decide +kernel
theorem dX11_isSmall_14 : decode cX11_isSmall 14 = .ok (.bipush 97, 2) := by decide +kernel
theorem dX11_isSmall_16 : decode cX11_isSmall 16 = .ok (.if_icmp .lt 18, 3) := by decide +kernel
theorem dX11_isSmall_19 : decode cX11_isSmall 19 = .ok (.aload_n 0, 1) := by decide +kernel
theorem dX11_isSmall_20 : decode cX11_isSmall 20 = .ok (.getfield 7, 3) := by decide +kernel
theorem dX11_isSmall_23 : decode cX11_isSmall 23 = .ok (.iload_n 1, 1) := by decide +kernel
theorem dX11_isSmall_24 : decode cX11_isSmall 24 = .ok (.iaload, 1) := by decide +kernel
theorem dX11_isSmall_25 : decode cX11_isSmall 25 = .ok (.bipush 122, 2) := by decide +kernel
theorem dX11_isSmall_27 : decode cX11_isSmall 27 = .ok (.if_icmp .gt 7, 3) := by decide +kernel
theorem dX11_isSmall_30 : decode cX11_isSmall 30 = .ok (.iconst 1, 1) := by decide +kernel
theorem dX11_isSmall_31 : decode cX11_isSmall 31 = .ok (.goto 4, 3) := by decide +kernel
theorem dX11_isSmall_34 : decode cX11_isSmall 34 = .ok (.iconst 0, 1) := by decide +kernel
theorem dX11_isSmall_35 : decode cX11_isSmall 35 = .ok (.ireturn, 1) := by decide +kernel
theorem dX11_isDigit_0 : decode cX11_isDigit 0 = .ok (.iload_n 1, 1) := by decide +kernel
theorem dX11_isDigit_1 : decode cX11_isDigit 1 = .ok (.aload_n 0, 1) := by decide +kernel
theorem dX11_isDigit_2 : decode cX11_isDigit 2 = .ok (.getfield 142, 3) := by decide +kernel
theorem dX11_isDigit_5 : decode cX11_isDigit 5 = .ok (.if_icmp .ge 29, 3) := by decide +kernel
theorem dX11_isDigit_8 : decode cX11_isDigit 8 = .ok (.aload_n 0, 1) := by decide +kernel
theorem dX11_isDigit_9 : decode cX11_isDigit 9 = .ok (.getfield 7, 3) := by decide +kernel
theorem dX11_isDigit_12 : decode cX11_isDigit 12 = .ok (.iload_n 1, 1) := by decide +kernel
theorem dX11_isDigit_13 : decode cX11_isDigit 13 = .ok (.iaload, 1) := by decide +kernel
theorem dX11_isDigit_14 : decode cX11_isDigit 14 = .ok (.bipush 48, 2) := by decide +kernel
theorem dX11_isDigit_16 : decode cX11_isDigit 16 = .ok (.if_icmp .lt 18, 3) := by decide +kernel
theorem dX11_isDigit_19 : decode cX11_isDigit 19 = .ok (.aload_n 0, 1) := by decide +kernel
theorem dX11_isDigit_20 : decode cX11_isDigit 20 = .ok (.getfield 7, 3) := by decide +kernel
theorem dX11_isDigit_23 : decode cX11_isDigit 23 = .ok (.iload_n 1, 1) := by decide +kernel
theorem dX11_isDigit_24 : decode cX11_isDigit 24 = .ok (.iaload, 1) := by decide +kernel
theorem dX11_isDigit_25 : decode cX11_isDigit 25 = .ok (.bipush 57, 2) := by decide +kernel
theorem dX11_isDigit_27 : decode cX11_isDigit 27 = .ok (.if_icmp .gt 7, 3) := by decide +kernel
theorem dX11_isDigit_30 : decode cX11_isDigit 30 = .ok (.iconst 1, 1) := by decide +kernel
theorem dX11_isDigit_31 : decode cX11_isDigit 31 = .ok (.goto 4, 3) := by decide +kernel
theorem dX11_isDigit_34 : decode cX11_isDigit 34 = .ok (.iconst 0, 1) := by decide +kernel
theorem dX11_isDigit_35 : decode cX11_isDigit 35 = .ok (.ireturn, 1) := by decide +kernel
theorem dX11_isOfNet_0 : decode cX11_isOfNet 0 = .ok (.iload_n 0, 1) := by decide +kernel
theorem dX11_isOfNet_1 : decode cX11_isOfNet 1 = .ok (.iconst 2, 1) := by decide +kernel
theorem dX11_isOfNet_2 : decode cX11_isOfNet 2 = .ok (.if_icmp .eq 43, 3) := by decide +kernel
theorem dX11_isOfNet_5 : decode cX11_isOfNet 5 = .ok (.iload_n 0, 1) := by decide +kernel
theorem dX11_isOfNet_6 : decode cX11_isOfNet 6 = .ok (.iconst 3, 1) := by decide +kernel
theorem dX11_isOfNet_7 : decode cX11_isOfNet 7 = .ok (.if_icmp .eq 38, 3) := by decide +kernel
theorem dX11_isOfNet_10 : decode cX11_isOfNet 10 = .ok (.iload_n 0, 1) := by decide +kernel
theorem dX11_isOfNet_11 : decode cX11_isOfNet 11 = .ok (.iconst 4, 1) := by decide +kernel
theorem dX11_isOfNet_12 : decode cX11_isOfNet 12 = .ok (.if_icmp .eq 33, 3) := by decide +kernel
theorem dX11_isOfNet_15 : decode cX11_isOfNet 15 = .ok (.iload_n 0, 1) := by decide +kernel
theorem dX11_isOfNet_16 : decode cX11_isOfNet 16 = .ok (.bipush 9, 2) := by decide +kernel
theorem dX11_isOfNet_18 : decode cX11_isOfNet 18 = .ok (.if_icmp .eq 27, 3) := by decide +kernel
theorem dX11_isOfNet_21 : decode cX11_isOfNet 21 = .ok (.iload_n 0, 1) := by decide +kernel
theorem dX11_isOfNet_22 : decode cX11_isOfNet 22 = .ok (.bipush 10, 2) := by decide +kernel
theorem dX11_isOfNet_24 : decode cX11_isOfNet 24 = .ok (.if_icmp .eq 21, 3) := by decide +kernel
theorem dX11_isOfNet_27 : decode cX11_isOfNet 27 = .ok (.iload_n 0, 1) := by decide +kernel
theorem dX11_isOfNet_28 : decode cX11_isOfNet 28 = .ok (.bipush 13, 2) := by decide +kernel
theorem dX11_isOfNet_30 : decode cX11_isOfNet 30 = .ok (.if_icmp .eq 15, 3) := by decide +kernel
theorem dX11_isOfNet_33 : decode cX11_isOfNet 33 = .ok (.iload_n 0, 1) := by decide +kernel
theorem dX11_isOfNet_34 : decode cX11_isOfNet 34 = .ok (.bipush 14, 2) := by decide +kernel
theorem dX11_isOfNet_36 : decode cX11_isOfNet 36 = .ok (.if_icmp .eq 9, 3) := by decide +kernel
theorem dX11_isOfNet_39 : decode cX11_isOfNet 39 = .ok (.iload_n 0, 1) := by decide +kernel
theorem dX11_isOfNet_40 : decode cX11_isOfNet 40 = .ok (.bipush 20, 2) := by decide +kernel
theorem dX11_isOfNet_42 : decode cX11_isOfNet 42 = .ok (.if_icmp .lt 7, 3) := by decide +kernel
theorem dX11_isOfNet_45 : decode cX11_isOfNet 45 = .ok (.iconst 1, 1) := by decide +kernel
theorem dX11_isOfNet_46 : decode cX11_isOfNet 46 = .ok (.goto 4, 3) := by decide +kernel
theorem dX11_isOfNet_49 : decode cX11_isOfNet 49 = .ok (.iconst 0, 1) := by decide +kernel
theorem dX11_isOfNet_50 : decode cX11_isOfNet 50 = .ok (.ireturn, 1) := by decide +kernel
theorem dX11_take_0 : decode cX11_take 0 = .ok (.aload_n 0, 1) := by decide +kernel
theorem dX11_take_1 : decode cX11_take 1 = .ok (.getfield 145, 3) := by decide +kernel
theorem dX11_take_4 : decode cX11_take 4 = .ok (.aload_n 0, 1) := by decide +kernel
theorem dX11_take_5 : decode cX11_take 5 = .ok (.getfield 142, 3) := by decide +kernel
theorem dX11_take_8 : decode cX11_take 8 = .ok (.if_icmp .ge 44, 3) := by decide +kernel
theorem dX11_take_11 : decode cX11_take 11 = .ok (.aload_n 0, 1) := by decide +kernel
theorem dX11_take_12 : decode cX11_take 12 = .ok (.getfield 7, 3) := by decide +kernel
theorem dX11_take_15 : decode cX11_take 15 = .ok (.aload_n 0, 1) := by decide +kernel
theorem dX11_take_16 : decode cX11_take 16 = .ok (.getfield 145, 3) := by decide +kernel
theorem dX11_take_19 : decode cX11_take 19 = .ok (.iaload, 1) := by decide +kernel
theorem dX11_take_20 : decode cX11_take 20 = .ok (.bipush 10, 2) := by decide +kernel
theorem dX11_take_22 : decode cX11_take 22 = .ok (.if_icmp .eq 17, 3) := by decide +kernel
theorem dX11_take_25 : decode cX11_take 25 = .ok (.aload_n 0, 1) := by decide +kernel
theorem dX11_take_26 : decode cX11_take 26 = .ok (.getfield 7, 3) := by decide +kernel
theorem dX11_take_29 : decode cX11_take 29 = .ok (.aload_n 0, 1) := by decide +kernel
theorem dX11_take_30 : decode cX11_take 30 = .ok (.getfield 145, 3) := by decide +kernel
theorem dX11_take_33 : decode cX11_take 33 = .ok (.iaload, 1) := by decide +kernel
theorem dX11_take_34 : decode cX11_take 34 = .ok (.bipush 32, 2) := by decide +kernel
theorem dX11_take_36 : decode cX11_take 36 = .ok (.if_icmp .ne 16, 3) := by decide +kernel
theorem dX11_take_39 : decode cX11_take 39 = .ok (.aload_n 0, 1) := by decide +kernel
theorem dX11_take_40 : decode cX11_take 40 = .ok (.dup, 1) := by decide +kernel
theorem dX11_take_41 : decode cX11_take 41 = .ok (.getfield 145, 3) := by decide +kernel
theorem dX11_take_44 : decode cX11_take 44 = .ok (.iconst 1, 1) := by decide +kernel
theorem dX11_take_45 : decode cX11_take 45 = .ok (.iadd, 1) := by decide +kernel
theorem dX11_take_46 : decode cX11_take 46 = .ok (.putfield 145, 3) := by decide +kernel
theorem dX11_take_49 : decode cX11_take 49 = .ok (.goto (-49), 3) := by decide +kernel
theorem dX11_take_52 : decode cX11_take 52 = .ok (.aload_n 0, 1) := by decide +kernel
theorem dX11_take_53 : decode cX11_take 53 = .ok (.aload_n 0, 1) := by decide +kernel
theorem dX11_take_54 : decode cX11_take 54 = .ok (.getfield 145, 3) := by decide +kernel
theorem dX11_take_57 : decode cX11_take 57 = .ok (.putfield 139, 3) := by decide +kernel
theorem dX11_take_60 : decode cX11_take 60 = .ok (.aload_n 0, 1) := by decide +kernel
theorem dX11_take_61 : decode cX11_take 61 = .ok (.getfield 145, 3) := by decide +kernel
theorem dX11_take_64 : decode cX11_take 64 = .ok (.aload_n 0, 1) := by decide +kernel
theorem dX11_take_65 : decode cX11_take 65 = .ok (.getfield 142, 3) := by decide +kernel
theorem dX11_take_68 : decode cX11_take 68 = .ok (.if_icmp .ne 11, 3) := by decide +kernel
theorem dX11_take_71 : decode cX11_take 71 = .ok (.aload_n 0, 1) := by decide +kernel
theorem dX11_take_72 : decode cX11_take 72 = .ok (.iconst 0, 1) := by decide +kernel
theorem dX11_take_73 : decode cX11_take 73 = .ok (.putfield 148, 3) := by decide +kernel
theorem dX11_take_76 : decode cX11_take 76 = .ok (.goto 331, 3) := by decide +kernel
theorem dX11_take_79 : decode cX11_take 79 = .ok (.aload_n 0, 1) := by decide +kernel
theorem dX11_take_80 : decode cX11_take 80 = .ok (.aload_n 0, 1) := by decide +kernel
theorem dX11_take_81 : decode cX11_take 81 = .ok (.getfield 145, 3) := by decide +kernel
theorem dX11_take_84 : decode cX11_take 84 = .ok (.invokevirtual 151, 3) := by decide +kernel
theorem dX11_take_87 : decode cX11_take 87 = .ok (.ifCond .eq 150, 3) := by decide +kernel
theorem dX11_take_90 : decode cX11_take 90 = .ok (.aload_n 0, 1) := by decide +kernel
theorem dX11_take_91 : decode cX11_take 91 = .ok (.aload_n 0, 1) := by decide +kernel
theorem dX11_take_92 : decode cX11_take 92 = .ok (.getfield 145, 3) := by decide +kernel
theorem dX11_take_95 : decode cX11_take 95 = .ok (.invokevirtual 151, 3) := by decide +kernel
theorem dX11_take_98 : decode cX11_take 98 = .ok (.ifCond .eq 16, 3) := by decide +kernel
theorem dX11_take_101 : decode cX11_take 101 = .ok (.aload_n 0, 1) := by decide +kernel
theorem dX11_take_102 : decode cX11_take 102 = .ok (.dup, 1) := by decide +kernel
theorem dX11_take_103 : decode cX11_take 103 = .ok (.getfield 145, 3) := by decide +kernel
theorem dX11_take_106 : decode cX11_take 106 = .ok (.iconst 1, 1) := by decide +kernel
theorem dX11_take_107 : decode cX11_take 107 = .ok (.iadd, 1) := by decide +kernel
theorem dX11_take_108 : decode cX11_take 108 = .ok (.putfield 145, 3) := by decide +kernel
theorem dX11_take_111 : decode cX11_take 111 = .ok (.goto (-21), 3) := by decide +kernel
theorem dX11_take_114 : decode cX11_take 114 = .ok (.aload_n 0, 1) := by decide +kernel
theorem dX11_take_115 : decode cX11_take 115 = .ok (.aload_n 0, 1) := by decide +kernel
theorem dX11_take_116 : decode cX11_take 116 = .ok (.aload_n 0, 1) := by decide +kernel
theorem dX11_take_117 : decode cX11_take 117 = .ok (.getfield 139, 3) := by decide +kernel
theorem dX11_take_120 : decode cX11_take 120 = .ok (.aload_n 0, 1) := by decide +kernel
theorem dX11_take_121 : decode cX11_take 121 = .ok (.getfield 145, 3) := by decide +kernel
theorem dX11_take_124 : decode cX11_take 124 = .ok (.invokevirtual 155, 3) := by decide +kernel
theorem dX11_take_127 : decode cX11_take 127 = .ok (.putfield 159, 3) := by decide +kernel
theorem dX11_take_130 : decode cX11_take 130 = .ok (.aload_n 0, 1) := by decide +kernel
theorem dX11_take_131 : decode cX11_take 131 = .ok (.getfield 159, 3) := by decide +kernel
theorem dX11_take_134 : decode cX11_take 134 = .ok (.ifCond .lt 36, 3) := by decide +kernel
theorem dX11_take_137 : decode cX11_take 137 = .ok (.aload_n 0, 1) := by decide +kernel
theorem dX11_take_138 : decode cX11_take 138 = .ok (.getfield 162, 3) := by decide +kernel
theorem dX11_take_141 : decode cX11_take 141 = .ok (.ifCond .eq 16, 3) := by decide +kernel
theorem dX11_take_144 : decode cX11_take 144 = .ok (.aload_n 0, 1) := by decide +kernel
theorem dX11_take_145 : decode cX11_take 145 = .ok (.getfield 159, 3) := by decide +kernel
theorem dX11_take_148 : decode cX11_take 148 = .ok (.invokestatic 166, 3) := by decide +kernel
theorem dX11_take_151 : decode cX11_take 151 = .ok (.ifCond .eq 19, 3) := by decide +kernel
theorem dX11_take_154 : decode cX11_take 154 = .ok (.goto 12, 3) := by decide +kernel
theorem dX11_take_157 : decode cX11_take 157 = .ok (.aload_n 0, 1) := by decide +kernel
theorem dX11_take_158 : decode cX11_take 158 = .ok (.getfield 159, 3) := by decide +kernel
theorem dX11_take_161 : decode cX11_take 161 = .ok (.bipush 20, 2) := by decide +kernel
theorem dX11_take_163 : decode cX11_take 163 = .ok (.if_icmp .ge 7, 3) := by decide +kernel
theorem dX11_take_166 : decode cX11_take 166 = .ok (.iconst 1, 1) := by decide +kernel
theorem dX11_take_167 : decode cX11_take 167 = .ok (.goto 4, 3) := by decide +kernel
theorem dX11_take_170 : decode cX11_take 170 = .ok (.iconst 0, 1) := by decide +kernel
theorem dX11_take_171 : decode cX11_take 171 = .ok (.istore_n 1, 1) := by decide +kernel
theorem dX11_take_172 : decode cX11_take 172 = .ok (.aload_n 0, 1) := by decide +kernel
theorem dX11_take_173 : decode cX11_take 173 = .ok (.iload_n 1, 1) := by decide +kernel
theorem dX11_take_174 : decode cX11_take 174 = .ok (.ifCond .eq 7, 3) := by decide +kernel
theorem dX11_take_177 : decode cX11_take 177 = .ok (.iconst 1, 1) := by decide +kernel
theorem dX11_take_178 : decode cX11_take 178 = .ok (.goto 29, 3) := by decide +kernel
theorem dX11_take_181 : decode cX11_take 181 = .ok (.aload_n 0, 1) := by decide +kernel
theorem dX11_take_182 : decode cX11_take 182 = .ok (.getfield 162, 3) := by decide +kernel
theorem dX11_take_185 : decode cX11_take 185 = .ok (.ifCond .eq 21, 3) := by decide +kernel
theorem dX11_take_188 : decode cX11_take 188 = .ok (.aload_n 0, 1) := by decide +kernel
theorem dX11_take_189 : decode cX11_take 189 = .ok (.getfield 145, 3) := by decide +kernel
theorem dX11_take_192 : decode cX11_take 192 = .ok (.aload_n 0, 1) := by decide +kernel
theorem dX11_take_193 : decode cX11_take 193 = .ok (.getfield 139, 3) := by decide +kernel
theorem dX11_take_196 : decode cX11_take 196 = .ok (.isub, 1) := by decide +kernel
theorem dX11_take_197 : decode cX11_take 197 = .ok (.bipush 7, 2) := by decide +kernel
theorem dX11_take_199 : decode cX11_take 199 = .ok (.if_icmp .ge 7, 3) := by decide +kernel
theorem dX11_take_202 : decode cX11_take 202 = .ok (.iconst 2, 1) := by decide +kernel
theorem dX11_take_203 : decode cX11_take 203 = .ok (.goto 4, 3) := by decide +kernel
theorem dX11_take_206 : decode cX11_take 206 = .ok (.iconst 5, 1) := by decide +kernel
theorem dX11_take_207 : decode cX11_take 207 = .ok (.putfield 148, 3) := by decide +kernel
theorem dX11_take_210 : decode cX11_take 210 = .ok (.aload_n 0, 1) := by decide +kernel
theorem dX11_take_211 : decode cX11_take 211 = .ok (.getfield 148, 3) := by decide +kernel
theorem dX11_take_214 : decode cX11_take 214 = .ok (.iconst 2, 1) := by decide +kernel
theorem dX11_take_215 : decode cX11_take 215 = .ok (.if_icmp .ne 19, 3) := by decide +kernel
theorem dX11_take_218 : decode cX11_take 218 = .ok (.aload_n 0, 1) := by decide +kernel
theorem dX11_take_219 : decode cX11_take 219 = .ok (.aload_n 0, 1) := by decide +kernel
theorem dX11_take_220 : decode cX11_take 220 = .ok (.aload_n 0, 1) := by decide +kernel
theorem dX11_take_221 : decode cX11_take 221 = .ok (.getfield 139, 3) := by decide +kernel
theorem dX11_take_224 : decode cX11_take 224 = .ok (.aload_n 0, 1) := by decide +kernel
theorem dX11_take_225 : decode cX11_take 225 = .ok (.getfield 145, 3) := by decide +kernel
theorem dX11_take_228 : decode cX11_take 228 = .ok (.invokevirtual 169, 3) := by decide +kernel
theorem dX11_take_231 : decode cX11_take 231 = .ok (.putfield 159, 3) := by decide +kernel
theorem dX11_take_234 : decode cX11_take 234 = .ok (.goto 173, 3) := by decide +kernel
theorem dX11_take_237 : decode cX11_take 237 = .ok (.aload_n 0, 1) := by decide +kernel
theorem dX11_take_238 : decode cX11_take 238 = .ok (.aload_n 0, 1) := by decide +kernel
theorem dX11_take_239 : decode cX11_take 239 = .ok (.getfield 145, 3) := by decide +kernel
theorem dX11_take_242 : decode cX11_take 242 = .ok (.invokevirtual 172, 3) := by decide +kernel
theorem dX11_take_245 : decode cX11_take 245 = .ok (.ifCond .eq 77, 3) := by decide +kernel
theorem dX11_take_248 : decode cX11_take 248 = .ok (.aload_n 0, 1) := by decide +kernel
theorem dX11_take_249 : decode cX11_take 249 = .ok (.iconst 3, 1) := by decide +kernel
theorem dX11_take_250 : decode cX11_take 250 = .ok (.putfield 148, 3) := by decide +kernel
theorem dX11_take_253 : decode cX11_take 253 = .ok (.aload_n 0, 1) := by decide +kernel
theorem dX11_take_254 : decode cX11_take 254 = .ok (.iconst 0, 1) := by decide +kernel
theorem dX11_take_255 : decode cX11_take 255 = .ok (.putfield 159, 3) := by decide +kernel
theorem dX11_take_258 : decode cX11_take 258 = .ok (.aload_n 0, 1) := by decide +kernel
theorem dX11_take_259 : decode cX11_take 259 = .ok (.aload_n 0, 1) := by decide +kernel
theorem dX11_take_260 : decode cX11_take 260 = .ok (.getfield 145, 3) := by decide +kernel
theorem dX11_take_263 : decode cX11_take 263 = .ok (.invokevirtual 172, 3) := by decide +kernel
theorem dX11_take_266 : decode cX11_take 266 = .ok (.ifCond .eq 141, 3) := by decide +kernel
theorem dX11_take_269 : decode cX11_take 269 = .ok (.aload_n 0, 1) := by decide +kernel
theorem dX11_take_270 : decode cX11_take 270 = .ok (.aload_n 0, 1) := by decide +kernel
theorem dX11_take_271 : decode cX11_take 271 = .ok (.getfield 159, 3) := by decide +kernel
theorem dX11_take_274 : decode cX11_take 274 = .ok (.bipush 99, 2) := by decide +kernel
theorem dX11_take_276 : decode cX11_take 276 = .ok (.if_icmp .le 10, 3) := by decide +kernel
theorem dX11_take_279 : decode cX11_take 279 = .ok (.aload_n 0, 1) := by decide +kernel
theorem dX11_take_280 : decode cX11_take 280 = .ok (.getfield 159, 3) := by decide +kernel
theorem dX11_take_283 : decode cX11_take 283 = .ok (.goto 23, 3) := by decide +kernel
theorem dX11_take_286 : decode cX11_take 286 = .ok (.bipush 10, 2) := by decide +kernel
theorem dX11_take_288 : decode cX11_take 288 = .ok (.aload_n 0, 1) := by decide +kernel
theorem dX11_take_289 : decode cX11_take 289 = .ok (.getfield 159, 3) := by decide +kernel
theorem dX11_take_292 : decode cX11_take 292 = .ok (.imul, 1) := by decide +kernel
theorem dX11_take_293 : decode cX11_take 293 = .ok (.aload_n 0, 1) := by decide +kernel
theorem dX11_take_294 : decode cX11_take 294 = .ok (.getfield 7, 3) := by decide +kernel
theorem dX11_take_297 : decode cX11_take 297 = .ok (.aload_n 0, 1) := by decide +kernel
theorem dX11_take_298 : decode cX11_take 298 = .ok (.getfield 145, 3) := by decide +kernel
theorem dX11_take_301 : decode cX11_take 301 = .ok (.iaload, 1) := by decide +kernel
theorem dX11_take_302 : decode cX11_take 302 = .ok (.iadd, 1) := by decide +kernel
theorem dX11_take_303 : decode cX11_take 303 = .ok (.bipush 48, 2) := by decide +kernel
theorem dX11_take_305 : decode cX11_take 305 = .ok (.isub, 1) := by decide +kernel
theorem dX11_take_306 : decode cX11_take 306 = .ok (.putfield 159, 3) := by decide +kernel
theorem dX11_take_309 : decode cX11_take 309 = .ok (.aload_n 0, 1) := by decide +kernel
theorem dX11_take_310 : decode cX11_take 310 = .ok (.dup, 1) := by decide +kernel
theorem dX11_take_311 : decode cX11_take 311 = .ok (.getfield 145, 3) := by decide +kernel
theorem dX11_take_314 : decode cX11_take 314 = .ok (.iconst 1, 1) := by decide +kernel
theorem dX11_take_315 : decode cX11_take 315 = .ok (.iadd, 1) := by decide +kernel
theorem dX11_take_316 : decode cX11_take 316 = .ok (.putfield 145, 3) := by decide +kernel
theorem dX11_take_319 : decode cX11_take 319 = .ok (.goto (-61), 3) := by decide +kernel
theorem dX11_take_322 : decode cX11_take 322 = .ok (.aload_n 0, 1) := by decide +kernel
theorem dX11_take_323 : decode cX11_take 323 = .ok (.aload_n 0, 1) := by decide +kernel
theorem dX11_take_324 : decode cX11_take 324 = .ok (.getfield 7, 3) := by decide +kernel
theorem dX11_take_327 : decode cX11_take 327 = .ok (.aload_n 0, 1) := by decide +kernel
theorem dX11_take_328 : decode cX11_take 328 = .ok (.getfield 145, 3) := by decide +kernel
theorem dX11_take_331 : decode cX11_take 331 = .ok (.iaload, 1) := by decide +kernel
theorem dX11_take_332 : decode cX11_take 332 = .ok (.putfield 159, 3) := by decide +kernel
theorem dX11_take_335 : decode cX11_take 335 = .ok (.aload_n 0, 1) := by decide +kernel
theorem dX11_take_336 : decode cX11_take 336 = .ok (.getfield 162, 3) := by decide +kernel
theorem dX11_take_339 : decode cX11_take 339 = .ok (.ifCond .eq 34, 3) := by decide +kernel
theorem dX11_take_342 : decode cX11_take 342 = .ok (.aload_n 0, 1) := by decide +kernel
theorem dX11_take_343 : decode cX11_take 343 = .ok (.getfield 159, 3) := by decide +kernel
theorem dX11_take_346 : decode cX11_take 346 = .ok (.bipush 40, 2) := by decide +kernel
theorem dX11_take_348 : decode cX11_take 348 = .ok (.if_icmp .eq 21, 3) := by decide +kernel
theorem dX11_take_351 : decode cX11_take 351 = .ok (.aload_n 0, 1) := by decide +kernel
theorem dX11_take_352 : decode cX11_take 352 = .ok (.getfield 159, 3) := by decide +kernel
theorem dX11_take_355 : decode cX11_take 355 = .ok (.bipush 41, 2) := by decide +kernel
theorem dX11_take_357 : decode cX11_take 357 = .ok (.if_icmp .eq 12, 3) := by decide +kernel
theorem dX11_take_360 : decode cX11_take 360 = .ok (.aload_n 0, 1) := by decide +kernel
theorem dX11_take_361 : decode cX11_take 361 = .ok (.getfield 159, 3) := by decide +kernel
theorem dX11_take_364 : decode cX11_take 364 = .ok (.bipush 61, 2) := by decide +kernel
theorem dX11_take_366 : decode cX11_take 366 = .ok (.if_icmp .ne 7, 3) := by decide +kernel
theorem dX11_take_369 : decode cX11_take 369 = .ok (.iconst 1, 1) := by decide +kernel
theorem dX11_take_370 : decode cX11_take 370 = .ok (.goto 4, 3) := by decide +kernel
theorem dX11_take_373 : decode cX11_take 373 = .ok (.iconst 0, 1) := by decide +kernel
theorem dX11_take_374 : decode cX11_take 374 = .ok (.istore_n 1, 1) := by decide +kernel
theorem dX11_take_375 : decode cX11_take 375 = .ok (.aload_n 0, 1) := by decide +kernel
theorem dX11_take_376 : decode cX11_take 376 = .ok (.aload_n 0, 1) := by decide +kernel
theorem dX11_take_377 : decode cX11_take 377 = .ok (.getfield 159, 3) := by decide +kernel
theorem dX11_take_380 : decode cX11_take 380 = .ok (.bipush 59, 2) := by decide +kernel
theorem dX11_take_382 : decode cX11_take 382 = .ok (.if_icmp .eq 7, 3) := by decide +kernel
theorem dX11_take_385 : decode cX11_take 385 = .ok (.iload_n 1, 1) := by decide +kernel
theorem dX11_take_386 : decode cX11_take 386 = .ok (.ifCond .eq 7, 3) := by decide +kernel
theorem dX11_take_389 : decode cX11_take 389 = .ok (.iconst 4, 1) := by decide +kernel
theorem dX11_take_390 : decode cX11_take 390 = .ok (.goto 4, 3) := by decide +kernel
theorem dX11_take_393 : decode cX11_take 393 = .ok (.iconst 5, 1) := by decide +kernel
theorem dX11_take_394 : decode cX11_take 394 = .ok (.putfield 148, 3) := by decide +kernel
theorem dX11_take_397 : decode cX11_take 397 = .ok (.aload_n 0, 1) := by decide +kernel
theorem dX11_take_398 : decode cX11_take 398 = .ok (.dup, 1) := by decide +kernel
theorem dX11_take_399 : decode cX11_take 399 = .ok (.getfield 145, 3) := by decide +kernel
theorem dX11_take_402 : decode cX11_take 402 = .ok (.iconst 1, 1) := by decide +kernel
theorem dX11_take_403 : decode cX11_take 403 = .ok (.iadd, 1) := by decide +kernel
theorem dX11_take_404 : decode cX11_take 404 = .ok (.putfield 145, 3) := by decide +kernel
theorem dX11_take_407 : decode cX11_take 407 = .ok (.return_, 1) := by decide +kernel
theorem dX11_packed_0 : decode cX11_packed 0 = .ok (.iconst 0, 1) := by decide +kernel
theorem dX11_packed_1 : decode cX11_packed 1 = .ok (.istore_n 3, 1) := by decide +kernel
theorem dX11_packed_2 : decode cX11_packed 2 = .ok (.iload_n 1, 1) := by decide +kernel
theorem dX11_packed_3 : decode cX11_packed 3 = .ok (.istore 4, 2) := by decide +kernel
theorem dX11_packed_5 : decode cX11_packed 5 = .ok (.iload 4, 2) := by decide +kernel
theorem dX11_packed_7 : decode cX11_packed 7 = .ok (.iload_n 1, 1) := by decide +kernel
theorem dX11_packed_8 : decode cX11_packed 8 = .ok (.bipush 6, 2) := by decide +kernel
theorem dX11_packed_10 : decode cX11_packed 10 = .ok (.iadd, 1) := by decide +kernel
theorem dX11_packed_11 : decode cX11_packed 11 = .ok (.if_icmp .ge 34, 3) := by decide +kernel
theorem dX11_packed_14 : decode cX11_packed 14 = .ok (.iload_n 3, 1) := by decide +kernel
theorem dX11_packed_15 : decode cX11_packed 15 = .ok (.iconst 5, 1) := by decide +kernel
theorem dX11_packed_16 : decode cX11_packed 16 = .ok (.ishl, 1) := by decide +kernel
theorem dX11_packed_17 : decode cX11_packed 17 = .ok (.iload 4, 2) := by decide +kernel
theorem dX11_packed_19 : decode cX11_packed 19 = .ok (.iload_n 2, 1) := by decide +kernel
theorem dX11_packed_20 : decode cX11_packed 20 = .ok (.if_icmp .ge 16, 3) := by decide +kernel
theorem dX11_packed_23 : decode cX11_packed 23 = .ok (.aload_n 0, 1) := by decide +kernel
theorem dX11_packed_24 : decode cX11_packed 24 = .ok (.getfield 7, 3) := by decide +kernel
theorem dX11_packed_27 : decode cX11_packed 27 = .ok (.iload 4, 2) := by decide +kernel
theorem dX11_packed_29 : decode cX11_packed 29 = .ok (.iaload, 1) := by decide +kernel
theorem dX11_packed_30 : decode cX11_packed 30 = .ok (.bipush 96, 2) := by decide +kernel
theorem dX11_packed_32 : decode cX11_packed 32 = .ok (.isub, 1) := by decide +kernel
theorem dX11_packed_33 : decode cX11_packed 33 = .ok (.goto 4, 3) := by decide +kernel
theorem dX11_packed_36 : decode cX11_packed 36 = .ok (.iconst 0, 1) := by decide +kernel
theorem dX11_packed_37 : decode cX11_packed 37 = .ok (.ior, 1) := by decide +kernel
theorem dX11_packed_38 : decode cX11_packed 38 = .ok (.istore_n 3, 1) := by decide +kernel
theorem dX11_packed_39 : decode cX11_packed 39 = .ok (.iinc 4 1, 3) := by decide +kernel
theorem dX11_packed_42 : decode cX11_packed 42 = .ok (.goto (-37), 3) := by decide +kernel
theorem dX11_packed_45 : decode cX11_packed 45 = .ok (.iload_n 3, 1) := by decide +kernel
theorem dX11_packed_46 : decode cX11_packed 46 = .ok (.ireturn, 1) := by decide +kernel
theorem dX11_isKey_0 : decode cX11_isKey 0 = .ok (.aload_n 0, 1) := by decide +kernel
theorem dX11_isKey_1 : decode cX11_isKey 1 = .ok (.getfield 148, 3) := by decide +kernel
theorem dX11_isKey_4 : decode cX11_isKey 4 = .ok (.iconst 1, 1) := by decide +kernel
theorem dX11_isKey_5 : decode cX11_isKey 5 = .ok (.if_icmp .ne 15, 3) := by decide +kernel
theorem dX11_isKey_8 : decode cX11_isKey 8 = .ok (.aload_n 0, 1) := by decide +kernel
theorem dX11_isKey_9 : decode cX11_isKey 9 = .ok (.getfield 159, 3) := by decide +kernel
theorem dX11_isKey_12 : decode cX11_isKey 12 = .ok (.iload_n 1, 1) := by decide +kernel
theorem dX11_isKey_13 : decode cX11_isKey 13 = .ok (.if_icmp .ne 7, 3) := by decide +kernel
theorem dX11_isKey_16 : decode cX11_isKey 16 = .ok (.iconst 1, 1) := by decide +kernel
theorem dX11_isKey_17 : decode cX11_isKey 17 = .ok (.goto 4, 3) := by decide +kernel
theorem dX11_isKey_20 : decode cX11_isKey 20 = .ok (.iconst 0, 1) := by decide +kernel
theorem dX11_isKey_21 : decode cX11_isKey 21 = .ok (.ireturn, 1) := by decide +kernel
theorem dX11_isSign_0 : decode cX11_isSign 0 = .ok (.aload_n 0, 1) := by decide +kernel
theorem dX11_isSign_1 : decode cX11_isSign 1 = .ok (.getfield 148, 3) := by decide +kernel
theorem dX11_isSign_4 : decode cX11_isSign 4 = .ok (.iconst 4, 1) := by decide +kernel
theorem dX11_isSign_5 : decode cX11_isSign 5 = .ok (.if_icmp .ne 15, 3) := by decide +kernel
theorem dX11_isSign_8 : decode cX11_isSign 8 = .ok (.aload_n 0, 1) := by decide +kernel
theorem dX11_isSign_9 : decode cX11_isSign 9 = .ok (.getfield 159, 3) := by decide +kernel
theorem dX11_isSign_12 : decode cX11_isSign 12 = .ok (.iload_n 1, 1) := by decide +kernel
theorem dX11_isSign_13 : decode cX11_isSign 13 = .ok (.if_icmp .ne 7, 3) := by decide +kernel
theorem dX11_isSign_16 : decode cX11_isSign 16 = .ok (.iconst 1, 1) := by decide +kernel
theorem dX11_isSign_17 : decode cX11_isSign 17 = .ok (.goto 4, 3) := by decide +kernel
theorem dX11_isSign_20 : decode cX11_isSign 20 = .ok (.iconst 0, 1) := by decide +kernel
theorem dX11_isSign_21 : decode cX11_isSign 21 = .ok (.ireturn, 1) := by decide +kernel
theorem dX11_signRead_0 : decode cX11_signRead 0 = .ok (.aload_n 0, 1) := by decide +kernel
theorem dX11_signRead_1 : decode cX11_signRead 1 = .ok (.iload_n 1, 1) := by decide +kernel
theorem dX11_signRead_2 : decode cX11_signRead 2 = .ok (.invokevirtual 175, 3) := by decide +kernel
theorem dX11_signRead_5 : decode cX11_signRead 5 = .ok (.ifCond .ne 9, 3) := by decide +kernel
theorem dX11_signRead_8 : decode cX11_signRead 8 = .ok (.aload_n 0, 1) := by decide +kernel
theorem dX11_signRead_9 : decode cX11_signRead 9 = .ok (.iconst 1, 1) := by decide +kernel
theorem dX11_signRead_10 : decode cX11_signRead 10 = .ok (.invokevirtual 178, 3) := by decide +kernel
theorem dX11_signRead_13 : decode cX11_signRead 13 = .ok (.ireturn, 1) := by decide +kernel
theorem dX11_signRead_14 : decode cX11_signRead 14 = .ok (.aload_n 0, 1) := by decide +kernel
theorem dX11_signRead_15 : decode cX11_signRead 15 = .ok (.invokevirtual 181, 3) := by decide +kernel
theorem dX11_signRead_18 : decode cX11_signRead 18 = .ok (.iconst 1, 1) := by decide +kernel
theorem dX11_signRead_19 : decode cX11_signRead 19 = .ok (.ireturn, 1) := by decide +kernel
theorem dX11_starts_0 : decode cX11_starts 0 = .ok (.iload_n 1, 1) := by decide +kernel
theorem dX11_starts_1 : decode cX11_starts 1 = .ok (.ifCond .lt 11, 3) := by decide +kernel
theorem dX11_starts_4 : decode cX11_starts 4 = .ok (.iload_n 1, 1) := by decide +kernel
theorem dX11_starts_5 : decode cX11_starts 5 = .ok (.aload_n 0, 1) := by decide +kernel
theorem dX11_starts_6 : decode cX11_starts 6 = .ok (.getfield 133, 3) := by decide +kernel
theorem dX11_starts_9 : decode cX11_starts 9 = .ok (.if_icmp .le 5, 3) := by decide +kernel
theorem dX11_starts_12 : decode cX11_starts 12 = .ok (.iconst 0, 1) := by decide +kernel
theorem dX11_starts_13 : decode cX11_starts 13 = .ok (.ireturn, 1) := by decide +kernel
theorem dX11_starts_14 : decode cX11_starts 14 = .ok (.aload_n 0, 1) := by decide +kernel
theorem dX11_starts_15 : decode cX11_starts 15 = .ok (.iload_n 1, 1) := by decide +kernel
theorem dX11_starts_16 : decode cX11_starts 16 = .ok (.putfield 142, 3) := by decide +kernel
theorem dX11_starts_19 : decode cX11_starts 19 = .ok (.aload_n 0, 1) := by decide +kernel
theorem dX11_starts_20 : decode cX11_starts 20 = .ok (.iconst 0, 1) := by decide +kernel
theorem dX11_starts_21 : decode cX11_starts 21 = .ok (.putfield 133, 3) := by decide +kernel
theorem dX11_starts_24 : decode cX11_starts 24 = .ok (.aload_n 0, 1) := by decide +kernel
theorem dX11_starts_25 : decode cX11_starts 25 = .ok (.iconst 0, 1) := by decide +kernel
theorem dX11_starts_26 : decode cX11_starts 26 = .ok (.putfield 136, 3) := by decide +kernel
theorem dX11_starts_29 : decode cX11_starts 29 = .ok (.aload_n 0, 1) := by decide +kernel
theorem dX11_starts_30 : decode cX11_starts 30 = .ok (.iconst (-1), 1) := by decide +kernel
theorem dX11_starts_31 : decode cX11_starts 31 = .ok (.putfield 16, 3) := by decide +kernel
theorem dX11_starts_34 : decode cX11_starts 34 = .ok (.aload_n 0, 1) := by decide +kernel
theorem dX11_starts_35 : decode cX11_starts 35 = .ok (.iconst 0, 1) := by decide +kernel
theorem dX11_starts_36 : decode cX11_starts 36 = .ok (.putfield 145, 3) := by decide +kernel
theorem dX11_starts_39 : decode cX11_starts 39 = .ok (.aload_n 0, 1) := by decide +kernel
theorem dX11_starts_40 : decode cX11_starts 40 = .ok (.iload_n 2, 1) := by decide +kernel
theorem dX11_starts_41 : decode cX11_starts 41 = .ok (.putfield 162, 3) := by decide +kernel
theorem dX11_starts_44 : decode cX11_starts 44 = .ok (.aload_n 0, 1) := by decide +kernel
theorem dX11_starts_45 : decode cX11_starts 45 = .ok (.invokevirtual 181, 3) := by decide +kernel
theorem dX11_starts_48 : decode cX11_starts 48 = .ok (.iconst 1, 1) := by decide +kernel
theorem dX11_starts_49 : decode cX11_starts 49 = .ok (.ireturn, 1) := by decide +kernel
theorem dX11_numberRead_0 : decode cX11_numberRead 0 = .ok (.aload_n 0, 1) := by decide +kernel
theorem dX11_numberRead_1 : decode cX11_numberRead 1 = .ok (.getfield 148, 3) := by decide +kernel
theorem dX11_numberRead_4 : decode cX11_numberRead 4 = .ok (.iconst 3, 1) := by decide +kernel
theorem dX11_numberRead_5 : decode cX11_numberRead 5 = .ok (.if_icmp .eq 9, 3) := by decide +kernel
theorem dX11_numberRead_8 : decode cX11_numberRead 8 = .ok (.aload_n 0, 1) := by decide +kernel
theorem dX11_numberRead_9 : decode cX11_numberRead 9 = .ok (.iconst 1, 1) := by decide +kernel
theorem dX11_numberRead_10 : decode cX11_numberRead 10 = .ok (.invokevirtual 178, 3) := by decide +kernel
theorem dX11_numberRead_13 : decode cX11_numberRead 13 = .ok (.ireturn, 1) := by decide +kernel
theorem dX11_numberRead_14 : decode cX11_numberRead 14 = .ok (.aload_n 0, 1) := by decide +kernel
theorem dX11_numberRead_15 : decode cX11_numberRead 15 = .ok (.getfield 159, 3) := by decide +kernel
theorem dX11_numberRead_18 : decode cX11_numberRead 18 = .ok (.iload_n 1, 1) := by decide +kernel
theorem dX11_numberRead_19 : decode cX11_numberRead 19 = .ok (.if_icmp .le 11, 3) := by decide +kernel
theorem dX11_numberRead_22 : decode cX11_numberRead 22 = .ok (.aload_n 0, 1) := by decide +kernel
theorem dX11_numberRead_23 : decode cX11_numberRead 23 = .ok (.iconst 2, 1) := by decide +kernel
theorem dX11_numberRead_24 : decode cX11_numberRead 24 = .ok (.invokevirtual 178, 3) := by decide +kernel
theorem dX11_numberRead_27 : decode cX11_numberRead 27 = .ok (.ifCond .eq 7, 3) := by decide +kernel
theorem dX11_numberRead_30 : decode cX11_numberRead 30 = .ok (.iconst 1, 1) := by decide +kernel
theorem dX11_numberRead_31 : decode cX11_numberRead 31 = .ok (.goto 4, 3) := by decide +kernel
theorem dX11_numberRead_34 : decode cX11_numberRead 34 = .ok (.iconst 0, 1) := by decide +kernel
theorem dX11_numberRead_35 : decode cX11_numberRead 35 = .ok (.ireturn, 1) := by decide +kernel
theorem dX11_testRead_0 : decode cX11_testRead 0 = .ok (.aload_n 0, 1) := by decide +kernel
theorem dX11_testRead_1 : decode cX11_testRead 1 = .ok (.iconst 2, 1) := by decide +kernel
theorem dX11_testRead_2 : decode cX11_testRead 2 = .ok (.invokevirtual 184, 3) := by decide +kernel
theorem dX11_testRead_5 : decode cX11_testRead 5 = .ok (.istore_n 2, 1) := by decide +kernel
theorem dX11_testRead_6 : decode cX11_testRead 6 = .ok (.iload_n 2, 1) := by decide +kernel
theorem dX11_testRead_7 : decode cX11_testRead 7 = .ok (.ifCond .ne 34, 3) := by decide +kernel
theorem dX11_testRead_10 : decode cX11_testRead 10 = .ok (.aload_n 0, 1) := by decide +kernel
theorem dX11_testRead_11 : decode cX11_testRead 11 = .ok (.getfield 148, 3) := by decide +kernel
theorem dX11_testRead_14 : decode cX11_testRead 14 = .ok (.iconst 1, 1) := by decide +kernel
theorem dX11_testRead_15 : decode cX11_testRead 15 = .ok (.if_icmp .ne 20, 3) := by decide +kernel
theorem dX11_testRead_18 : decode cX11_testRead 18 = .ok (.aload_n 0, 1) := by decide +kernel
theorem dX11_testRead_19 : decode cX11_testRead 19 = .ok (.getfield 159, 3) := by decide +kernel
theorem dX11_testRead_22 : decode cX11_testRead 22 = .ok (.iconst 3, 1) := by decide +kernel
theorem dX11_testRead_23 : decode cX11_testRead 23 = .ok (.if_icmp .lt 12, 3) := by decide +kernel
theorem dX11_testRead_26 : decode cX11_testRead 26 = .ok (.aload_n 0, 1) := by decide +kernel
theorem dX11_testRead_27 : decode cX11_testRead 27 = .ok (.getfield 159, 3) := by decide +kernel
theorem dX11_testRead_30 : decode cX11_testRead 30 = .ok (.bipush 8, 2) := by decide +kernel
theorem dX11_testRead_32 : decode cX11_testRead 32 = .ok (.if_icmp .le 9, 3) := by decide +kernel
theorem dX11_testRead_35 : decode cX11_testRead 35 = .ok (.aload_n 0, 1) := by decide +kernel
theorem dX11_testRead_36 : decode cX11_testRead 36 = .ok (.iconst 1, 1) := by decide +kernel
theorem dX11_testRead_37 : decode cX11_testRead 37 = .ok (.invokevirtual 178, 3) := by decide +kernel
theorem dX11_testRead_40 : decode cX11_testRead 40 = .ok (.ireturn, 1) := by decide +kernel
theorem dX11_testRead_41 : decode cX11_testRead 41 = .ok (.aload_n 0, 1) := by decide +kernel
theorem dX11_testRead_42 : decode cX11_testRead 42 = .ok (.getfield 20, 3) := by decide +kernel
theorem dX11_testRead_45 : decode cX11_testRead 45 = .ok (.iload_n 1, 1) := by decide +kernel
theorem dX11_testRead_46 : decode cX11_testRead 46 = .ok (.iaload, 1) := by decide +kernel
theorem dX11_testRead_47 : decode cX11_testRead 47 = .ok (.bipush 12, 2) := by decide +kernel
theorem dX11_testRead_49 : decode cX11_testRead 49 = .ok (.if_icmp .ne 9, 3) := by decide +kernel
theorem dX11_testRead_52 : decode cX11_testRead 52 = .ok (.aload_n 0, 1) := by decide +kernel
theorem dX11_testRead_53 : decode cX11_testRead 53 = .ok (.iconst 2, 1) := by decide +kernel
theorem dX11_testRead_54 : decode cX11_testRead 54 = .ok (.invokevirtual 178, 3) := by decide +kernel
theorem dX11_testRead_57 : decode cX11_testRead 57 = .ok (.ireturn, 1) := by decide +kernel
theorem dX11_testRead_58 : decode cX11_testRead 58 = .ok (.iload_n 2, 1) := by decide +kernel
theorem dX11_testRead_59 : decode cX11_testRead 59 = .ok (.ifCond .eq 7, 3) := by decide +kernel
theorem dX11_testRead_62 : decode cX11_testRead 62 = .ok (.aload_n 0, 1) := by decide +kernel
theorem dX11_testRead_63 : decode cX11_testRead 63 = .ok (.invokevirtual 181, 3) := by decide +kernel
theorem dX11_testRead_66 : decode cX11_testRead 66 = .ok (.aload_n 0, 1) := by decide +kernel
theorem dX11_testRead_67 : decode cX11_testRead 67 = .ok (.getfield 148, 3) := by decide +kernel
theorem dX11_testRead_70 : decode cX11_testRead 70 = .ok (.iconst 1, 1) := by decide +kernel
theorem dX11_testRead_71 : decode cX11_testRead 71 = .ok (.if_icmp .ne 20, 3) := by decide +kernel
theorem dX11_testRead_74 : decode cX11_testRead 74 = .ok (.aload_n 0, 1) := by decide +kernel
theorem dX11_testRead_75 : decode cX11_testRead 75 = .ok (.getfield 159, 3) := by decide +kernel
theorem dX11_testRead_78 : decode cX11_testRead 78 = .ok (.iconst 3, 1) := by decide +kernel
theorem dX11_testRead_79 : decode cX11_testRead 79 = .ok (.if_icmp .lt 12, 3) := by decide +kernel
theorem dX11_testRead_82 : decode cX11_testRead 82 = .ok (.aload_n 0, 1) := by decide +kernel
theorem dX11_testRead_83 : decode cX11_testRead 83 = .ok (.getfield 159, 3) := by decide +kernel
theorem dX11_testRead_86 : decode cX11_testRead 86 = .ok (.bipush 8, 2) := by decide +kernel
theorem dX11_testRead_88 : decode cX11_testRead 88 = .ok (.if_icmp .le 9, 3) := by decide +kernel
theorem dX11_testRead_91 : decode cX11_testRead 91 = .ok (.aload_n 0, 1) := by decide +kernel
theorem dX11_testRead_92 : decode cX11_testRead 92 = .ok (.iconst 1, 1) := by decide +kernel
theorem dX11_testRead_93 : decode cX11_testRead 93 = .ok (.invokevirtual 178, 3) := by decide +kernel
theorem dX11_testRead_96 : decode cX11_testRead 96 = .ok (.ireturn, 1) := by decide +kernel
theorem dX11_testRead_97 : decode cX11_testRead 97 = .ok (.bipush 12, 2) := by decide +kernel
theorem dX11_testRead_99 : decode cX11_testRead 99 = .ok (.iload_n 1, 1) := by decide +kernel
theorem dX11_testRead_100 : decode cX11_testRead 100 = .ok (.imul, 1) := by decide +kernel
theorem dX11_testRead_101 : decode cX11_testRead 101 = .ok (.aload_n 0, 1) := by decide +kernel
theorem dX11_testRead_102 : decode cX11_testRead 102 = .ok (.getfield 20, 3) := by decide +kernel
theorem dX11_testRead_105 : decode cX11_testRead 105 = .ok (.iload_n 1, 1) := by decide +kernel
theorem dX11_testRead_106 : decode cX11_testRead 106 = .ok (.iaload, 1) := by decide +kernel
theorem dX11_testRead_107 : decode cX11_testRead 107 = .ok (.iadd, 1) := by decide +kernel
theorem dX11_testRead_108 : decode cX11_testRead 108 = .ok (.istore_n 3, 1) := by decide +kernel
theorem dX11_testRead_109 : decode cX11_testRead 109 = .ok (.aload_n 0, 1) := by decide +kernel
theorem dX11_testRead_110 : decode cX11_testRead 110 = .ok (.getfield 159, 3) := by decide +kernel
theorem dX11_testRead_113 : decode cX11_testRead 113 = .ok (.istore 4, 2) := by decide +kernel
theorem dX11_testRead_115 : decode cX11_testRead 115 = .ok (.aload_n 0, 1) := by decide +kernel
theorem dX11_testRead_116 : decode cX11_testRead 116 = .ok (.getfield 139, 3) := by decide +kernel
theorem dX11_testRead_119 : decode cX11_testRead 119 = .ok (.istore 5, 2) := by decide +kernel
theorem dX11_testRead_121 : decode cX11_testRead 121 = .ok (.aload_n 0, 1) := by decide +kernel
theorem dX11_testRead_122 : decode cX11_testRead 122 = .ok (.getfield 26, 3) := by decide +kernel
theorem dX11_testRead_125 : decode cX11_testRead 125 = .ok (.iload_n 3, 1) := by decide +kernel
theorem dX11_testRead_126 : decode cX11_testRead 126 = .ok (.iload 4, 2) := by decide +kernel
theorem dX11_testRead_128 : decode cX11_testRead 128 = .ok (.iastore, 1) := by decide +kernel
theorem dX11_testRead_129 : decode cX11_testRead 129 = .ok (.aload_n 0, 1) := by decide +kernel
theorem dX11_testRead_130 : decode cX11_testRead 130 = .ok (.getfield 32, 3) := by decide +kernel
theorem dX11_testRead_133 : decode cX11_testRead 133 = .ok (.iload_n 3, 1) := by decide +kernel
theorem dX11_testRead_134 : decode cX11_testRead 134 = .ok (.iload_n 2, 1) := by decide +kernel
theorem dX11_testRead_135 : decode cX11_testRead 135 = .ok (.bastore, 1) := by decide +kernel
theorem dX11_testRead_136 : decode cX11_testRead 136 = .ok (.aload_n 0, 1) := by decide +kernel
theorem dX11_testRead_137 : decode cX11_testRead 137 = .ok (.getfield 29, 3) := by decide +kernel
theorem dX11_testRead_140 : decode cX11_testRead 140 = .ok (.iload_n 3, 1) := by decide +kernel
theorem dX11_testRead_141 : decode cX11_testRead 141 = .ok (.iconst 0, 1) := by decide +kernel
theorem dX11_testRead_142 : decode cX11_testRead 142 = .ok (.iastore, 1) := by decide +kernel
theorem dX11_testRead_143 : decode cX11_testRead 143 = .ok (.aload_n 0, 1) := by decide +kernel
theorem dX11_testRead_144 : decode cX11_testRead 144 = .ok (.invokevirtual 181, 3) := by decide +kernel
theorem dX11_testRead_147 : decode cX11_testRead 147 = .ok (.iload 4, 2) := by decide +kernel
theorem dX11_testRead_149 : decode cX11_testRead 149 = .ok (.bipush 6, 2) := by decide +kernel
theorem dX11_testRead_151 : decode cX11_testRead 151 = .ok (.if_icmp .lt 51, 3) := by decide +kernel
theorem dX11_testRead_154 : decode cX11_testRead 154 = .ok (.aload_n 0, 1) := by decide +kernel
theorem dX11_testRead_155 : decode cX11_testRead 155 = .ok (.iload 4, 2) := by decide +kernel
theorem dX11_testRead_157 : decode cX11_testRead 157 = .ok (.bipush 6, 2) := by decide +kernel
theorem dX11_testRead_159 : decode cX11_testRead 159 = .ok (.if_icmp .ne 8, 3) := by decide +kernel
theorem dX11_testRead_162 : decode cX11_testRead 162 = .ok (.bipush 9, 2) := by decide +kernel
theorem dX11_testRead_164 : decode cX11_testRead 164 = .ok (.goto 16, 3) := by decide +kernel
theorem dX11_testRead_167 : decode cX11_testRead 167 = .ok (.iload 4, 2) := by decide +kernel
theorem dX11_testRead_169 : decode cX11_testRead 169 = .ok (.bipush 7, 2) := by decide +kernel
theorem dX11_testRead_171 : decode cX11_testRead 171 = .ok (.if_icmp .ne 8, 3) := by decide +kernel
theorem dX11_testRead_174 : decode cX11_testRead 174 = .ok (.bipush 99, 2) := by decide +kernel
theorem dX11_testRead_176 : decode cX11_testRead 176 = .ok (.goto 4, 3) := by decide +kernel
theorem dX11_testRead_179 : decode cX11_testRead 179 = .ok (.iconst 2, 1) := by decide +kernel
theorem dX11_testRead_180 : decode cX11_testRead 180 = .ok (.invokevirtual 187, 3) := by decide +kernel
theorem dX11_testRead_183 : decode cX11_testRead 183 = .ok (.ifCond .ne 5, 3) := by decide +kernel
theorem dX11_testRead_186 : decode cX11_testRead 186 = .ok (.iconst 0, 1) := by decide +kernel
theorem dX11_testRead_187 : decode cX11_testRead 187 = .ok (.ireturn, 1) := by decide +kernel
theorem dX11_testRead_188 : decode cX11_testRead 188 = .ok (.aload_n 0, 1) := by decide +kernel
theorem dX11_testRead_189 : decode cX11_testRead 189 = .ok (.getfield 29, 3) := by decide +kernel
theorem dX11_testRead_192 : decode cX11_testRead 192 = .ok (.iload_n 3, 1) := by decide +kernel
theorem dX11_testRead_193 : decode cX11_testRead 193 = .ok (.aload_n 0, 1) := by decide +kernel
theorem dX11_testRead_194 : decode cX11_testRead 194 = .ok (.getfield 159, 3) := by decide +kernel
theorem dX11_testRead_197 : decode cX11_testRead 197 = .ok (.iastore, 1) := by decide +kernel
theorem dX11_testRead_198 : decode cX11_testRead 198 = .ok (.aload_n 0, 1) := by decide +kernel
theorem dX11_testRead_199 : decode cX11_testRead 199 = .ok (.invokevirtual 181, 3) := by decide +kernel
theorem dX11_testRead_202 : decode cX11_testRead 202 = .ok (.bipush 12, 2) := by decide +kernel
theorem dX11_testRead_204 : decode cX11_testRead 204 = .ok (.iload_n 1, 1) := by decide +kernel
theorem dX11_testRead_205 : decode cX11_testRead 205 = .ok (.imul, 1) := by decide +kernel
theorem dX11_testRead_206 : decode cX11_testRead 206 = .ok (.istore 6, 2) := by decide +kernel
theorem dX11_testRead_208 : decode cX11_testRead 208 = .ok (.iload 6, 2) := by decide +kernel
theorem dX11_testRead_210 : decode cX11_testRead 210 = .ok (.iload_n 3, 1) := by decide +kernel
theorem dX11_testRead_211 : decode cX11_testRead 211 = .ok (.if_icmp .ge 52, 3) := by decide +kernel
theorem dX11_testRead_214 : decode cX11_testRead 214 = .ok (.aload_n 0, 1) := by decide +kernel
theorem dX11_testRead_215 : decode cX11_testRead 215 = .ok (.getfield 26, 3) := by decide +kernel
theorem dX11_testRead_218 : decode cX11_testRead 218 = .ok (.iload 6, 2) := by decide +kernel
theorem dX11_testRead_220 : decode cX11_testRead 220 = .ok (.iaload, 1) := by decide +kernel
theorem dX11_testRead_221 : decode cX11_testRead 221 = .ok (.iload 4, 2) := by decide +kernel
theorem dX11_testRead_223 : decode cX11_testRead 223 = .ok (.if_icmp .ne 34, 3) := by decide +kernel
theorem dX11_testRead_226 : decode cX11_testRead 226 = .ok (.aload_n 0, 1) := by decide +kernel
theorem dX11_testRead_227 : decode cX11_testRead 227 = .ok (.getfield 29, 3) := by decide +kernel
theorem dX11_testRead_230 : decode cX11_testRead 230 = .ok (.iload 6, 2) := by decide +kernel
theorem dX11_testRead_232 : decode cX11_testRead 232 = .ok (.iaload, 1) := by decide +kernel
theorem dX11_testRead_233 : decode cX11_testRead 233 = .ok (.aload_n 0, 1) := by decide +kernel
theorem dX11_testRead_234 : decode cX11_testRead 234 = .ok (.getfield 29, 3) := by decide +kernel
theorem dX11_testRead_237 : decode cX11_testRead 237 = .ok (.iload_n 3, 1) := by decide +kernel
theorem dX11_testRead_238 : decode cX11_testRead 238 = .ok (.iaload, 1) := by decide +kernel
theorem dX11_testRead_239 : decode cX11_testRead 239 = .ok (.if_icmp .eq 6, 3) := by decide +kernel
theorem dX11_testRead_242 : decode cX11_testRead 242 = .ok (.goto 15, 3) := by decide +kernel
theorem dX11_testRead_245 : decode cX11_testRead 245 = .ok (.aload_n 0, 1) := by decide +kernel
theorem dX11_testRead_246 : decode cX11_testRead 246 = .ok (.iload 5, 2) := by decide +kernel
theorem dX11_testRead_248 : decode cX11_testRead 248 = .ok (.putfield 139, 3) := by decide +kernel
theorem dX11_testRead_251 : decode cX11_testRead 251 = .ok (.aload_n 0, 1) := by decide +kernel
theorem dX11_testRead_252 : decode cX11_testRead 252 = .ok (.iconst 3, 1) := by decide +kernel
theorem dX11_testRead_253 : decode cX11_testRead 253 = .ok (.invokevirtual 178, 3) := by decide +kernel
theorem dX11_testRead_256 : decode cX11_testRead 256 = .ok (.ireturn, 1) := by decide +kernel
theorem dX11_testRead_257 : decode cX11_testRead 257 = .ok (.iinc 6 1, 3) := by decide +kernel
theorem dX11_testRead_260 : decode cX11_testRead 260 = .ok (.goto (-52), 3) := by decide +kernel
theorem dX11_testRead_263 : decode cX11_testRead 263 = .ok (.aload_n 0, 1) := by decide +kernel
theorem dX11_testRead_264 : decode cX11_testRead 264 = .ok (.getfield 20, 3) := by decide +kernel
theorem dX11_testRead_267 : decode cX11_testRead 267 = .ok (.iload_n 1, 1) := by decide +kernel
theorem dX11_testRead_268 : decode cX11_testRead 268 = .ok (.dup2, 1) := by decide +kernel
theorem dX11_testRead_269 : decode cX11_testRead 269 = .ok (.iaload, 1) := by decide +kernel
theorem dX11_testRead_270 : decode cX11_testRead 270 = .ok (.iconst 1, 1) := by decide +kernel
theorem dX11_testRead_271 : decode cX11_testRead 271 = .ok (.iadd, 1) := by decide +kernel
theorem dX11_testRead_272 : decode cX11_testRead 272 = .ok (.iastore, 1) := by decide +kernel
theorem dX11_testRead_273 : decode cX11_testRead 273 = .ok (.iconst 1, 1) := by decide +kernel
theorem dX11_testRead_274 : decode cX11_testRead 274 = .ok (.ireturn, 1) := by decide +kernel
theorem dX11_actRead_0 : decode cX11_actRead 0 = .ok (.aload_n 0, 1) := by decide +kernel
theorem dX11_actRead_1 : decode cX11_actRead 1 = .ok (.getfield 148, 3) := by decide +kernel
theorem dX11_actRead_4 : decode cX11_actRead 4 = .ok (.iconst 1, 1) := by decide +kernel
theorem dX11_actRead_5 : decode cX11_actRead 5 = .ok (.if_icmp .ne 30, 3) := by decide +kernel
theorem dX11_actRead_8 : decode cX11_actRead 8 = .ok (.aload_n 0, 1) := by decide +kernel
theorem dX11_actRead_9 : decode cX11_actRead 9 = .ok (.getfield 159, 3) := by decide +kernel
theorem dX11_actRead_12 : decode cX11_actRead 12 = .ok (.bipush 6, 2) := by decide +kernel
theorem dX11_actRead_14 : decode cX11_actRead 14 = .ok (.if_icmp .eq 27, 3) := by decide +kernel
theorem dX11_actRead_17 : decode cX11_actRead 17 = .ok (.aload_n 0, 1) := by decide +kernel
theorem dX11_actRead_18 : decode cX11_actRead 18 = .ok (.getfield 159, 3) := by decide +kernel
theorem dX11_actRead_21 : decode cX11_actRead 21 = .ok (.bipush 9, 2) := by decide +kernel
theorem dX11_actRead_23 : decode cX11_actRead 23 = .ok (.if_icmp .lt 12, 3) := by decide +kernel
theorem dX11_actRead_26 : decode cX11_actRead 26 = .ok (.aload_n 0, 1) := by decide +kernel
theorem dX11_actRead_27 : decode cX11_actRead 27 = .ok (.getfield 159, 3) := by decide +kernel
theorem dX11_actRead_30 : decode cX11_actRead 30 = .ok (.bipush 19, 2) := by decide +kernel
theorem dX11_actRead_32 : decode cX11_actRead 32 = .ok (.if_icmp .le 9, 3) := by decide +kernel
theorem dX11_actRead_35 : decode cX11_actRead 35 = .ok (.aload_n 0, 1) := by decide +kernel
theorem dX11_actRead_36 : decode cX11_actRead 36 = .ok (.iconst 1, 1) := by decide +kernel
theorem dX11_actRead_37 : decode cX11_actRead 37 = .ok (.invokevirtual 178, 3) := by decide +kernel
theorem dX11_actRead_40 : decode cX11_actRead 40 = .ok (.ireturn, 1) := by decide +kernel
theorem dX11_actRead_41 : decode cX11_actRead 41 = .ok (.aload_n 0, 1) := by decide +kernel
theorem dX11_actRead_42 : decode cX11_actRead 42 = .ok (.getfield 23, 3) := by decide +kernel
theorem dX11_actRead_45 : decode cX11_actRead 45 = .ok (.iload_n 1, 1) := by decide +kernel
theorem dX11_actRead_46 : decode cX11_actRead 46 = .ok (.iaload, 1) := by decide +kernel
theorem dX11_actRead_47 : decode cX11_actRead 47 = .ok (.bipush 12, 2) := by decide +kernel
theorem dX11_actRead_49 : decode cX11_actRead 49 = .ok (.if_icmp .ne 9, 3) := by decide +kernel
theorem dX11_actRead_52 : decode cX11_actRead 52 = .ok (.aload_n 0, 1) := by decide +kernel
theorem dX11_actRead_53 : decode cX11_actRead 53 = .ok (.iconst 2, 1) := by decide +kernel
theorem dX11_actRead_54 : decode cX11_actRead 54 = .ok (.invokevirtual 178, 3) := by decide +kernel
theorem dX11_actRead_57 : decode cX11_actRead 57 = .ok (.ireturn, 1) := by decide +kernel
theorem dX11_actRead_58 : decode cX11_actRead 58 = .ok (.bipush 12, 2) := by decide +kernel
theorem dX11_actRead_60 : decode cX11_actRead 60 = .ok (.iload_n 1, 1) := by decide +kernel
theorem dX11_actRead_61 : decode cX11_actRead 61 = .ok (.imul, 1) := by decide +kernel
theorem dX11_actRead_62 : decode cX11_actRead 62 = .ok (.aload_n 0, 1) := by decide +kernel
theorem dX11_actRead_63 : decode cX11_actRead 63 = .ok (.getfield 23, 3) := by decide +kernel
theorem dX11_actRead_66 : decode cX11_actRead 66 = .ok (.iload_n 1, 1) := by decide +kernel
theorem dX11_actRead_67 : decode cX11_actRead 67 = .ok (.iaload, 1) := by decide +kernel
theorem dX11_actRead_68 : decode cX11_actRead 68 = .ok (.iadd, 1) := by decide +kernel
theorem dX11_actRead_69 : decode cX11_actRead 69 = .ok (.istore_n 2, 1) := by decide +kernel
theorem dX11_actRead_70 : decode cX11_actRead 70 = .ok (.aload_n 0, 1) := by decide +kernel
theorem dX11_actRead_71 : decode cX11_actRead 71 = .ok (.getfield 36, 3) := by decide +kernel
theorem dX11_actRead_74 : decode cX11_actRead 74 = .ok (.iload_n 2, 1) := by decide +kernel
theorem dX11_actRead_75 : decode cX11_actRead 75 = .ok (.aload_n 0, 1) := by decide +kernel
theorem dX11_actRead_76 : decode cX11_actRead 76 = .ok (.getfield 159, 3) := by decide +kernel
theorem dX11_actRead_79 : decode cX11_actRead 79 = .ok (.iastore, 1) := by decide +kernel
theorem dX11_actRead_80 : decode cX11_actRead 80 = .ok (.aload_n 0, 1) := by decide +kernel
theorem dX11_actRead_81 : decode cX11_actRead 81 = .ok (.getfield 39, 3) := by decide +kernel
theorem dX11_actRead_84 : decode cX11_actRead 84 = .ok (.iload_n 2, 1) := by decide +kernel
theorem dX11_actRead_85 : decode cX11_actRead 85 = .ok (.iconst 0, 1) := by decide +kernel
theorem dX11_actRead_86 : decode cX11_actRead 86 = .ok (.iastore, 1) := by decide +kernel
theorem dX11_actRead_87 : decode cX11_actRead 87 = .ok (.aload_n 0, 1) := by decide +kernel
theorem dX11_actRead_88 : decode cX11_actRead 88 = .ok (.invokevirtual 181, 3) := by decide +kernel
theorem dX11_actRead_91 : decode cX11_actRead 91 = .ok (.aload_n 0, 1) := by decide +kernel
theorem dX11_actRead_92 : decode cX11_actRead 92 = .ok (.getfield 36, 3) := by decide +kernel
theorem dX11_actRead_95 : decode cX11_actRead 95 = .ok (.iload_n 2, 1) := by decide +kernel
theorem dX11_actRead_96 : decode cX11_actRead 96 = .ok (.iaload, 1) := by decide +kernel
theorem dX11_actRead_97 : decode cX11_actRead 97 = .ok (.bipush 6, 2) := by decide +kernel
theorem dX11_actRead_99 : decode cX11_actRead 99 = .ok (.if_icmp .eq 25, 3) := by decide +kernel
theorem dX11_actRead_102 : decode cX11_actRead 102 = .ok (.aload_n 0, 1) := by decide +kernel
theorem dX11_actRead_103 : decode cX11_actRead 103 = .ok (.getfield 36, 3) := by decide +kernel
theorem dX11_actRead_106 : decode cX11_actRead 106 = .ok (.iload_n 2, 1) := by decide +kernel
theorem dX11_actRead_107 : decode cX11_actRead 107 = .ok (.iaload, 1) := by decide +kernel
theorem dX11_actRead_108 : decode cX11_actRead 108 = .ok (.bipush 15, 2) := by decide +kernel
theorem dX11_actRead_110 : decode cX11_actRead 110 = .ok (.if_icmp .eq 14, 3) := by decide +kernel
theorem dX11_actRead_113 : decode cX11_actRead 113 = .ok (.aload_n 0, 1) := by decide +kernel
theorem dX11_actRead_114 : decode cX11_actRead 114 = .ok (.getfield 36, 3) := by decide +kernel
theorem dX11_actRead_117 : decode cX11_actRead 117 = .ok (.iload_n 2, 1) := by decide +kernel
theorem dX11_actRead_118 : decode cX11_actRead 118 = .ok (.iaload, 1) := by decide +kernel
theorem dX11_actRead_119 : decode cX11_actRead 119 = .ok (.bipush 16, 2) := by decide +kernel
theorem dX11_actRead_121 : decode cX11_actRead 121 = .ok (.if_icmp .ne 43, 3) := by decide +kernel
theorem dX11_actRead_124 : decode cX11_actRead 124 = .ok (.aload_n 0, 1) := by decide +kernel
theorem dX11_actRead_125 : decode cX11_actRead 125 = .ok (.aload_n 0, 1) := by decide +kernel
theorem dX11_actRead_126 : decode cX11_actRead 126 = .ok (.getfield 36, 3) := by decide +kernel
theorem dX11_actRead_129 : decode cX11_actRead 129 = .ok (.iload_n 2, 1) := by decide +kernel
theorem dX11_actRead_130 : decode cX11_actRead 130 = .ok (.iaload, 1) := by decide +kernel
theorem dX11_actRead_131 : decode cX11_actRead 131 = .ok (.bipush 6, 2) := by decide +kernel
theorem dX11_actRead_133 : decode cX11_actRead 133 = .ok (.if_icmp .ne 8, 3) := by decide +kernel
theorem dX11_actRead_136 : decode cX11_actRead 136 = .ok (.bipush 9, 2) := by decide +kernel
theorem dX11_actRead_138 : decode cX11_actRead 138 = .ok (.goto 4, 3) := by decide +kernel
theorem dX11_actRead_141 : decode cX11_actRead 141 = .ok (.iconst 2, 1) := by decide +kernel
theorem dX11_actRead_142 : decode cX11_actRead 142 = .ok (.invokevirtual 187, 3) := by decide +kernel
theorem dX11_actRead_145 : decode cX11_actRead 145 = .ok (.ifCond .ne 5, 3) := by decide +kernel
theorem dX11_actRead_148 : decode cX11_actRead 148 = .ok (.iconst 0, 1) := by decide +kernel
theorem dX11_actRead_149 : decode cX11_actRead 149 = .ok (.ireturn, 1) := by decide +kernel
theorem dX11_actRead_150 : decode cX11_actRead 150 = .ok (.aload_n 0, 1) := by decide +kernel
theorem dX11_actRead_151 : decode cX11_actRead 151 = .ok (.getfield 39, 3) := by decide +kernel
theorem dX11_actRead_154 : decode cX11_actRead 154 = .ok (.iload_n 2, 1) := by decide +kernel
theorem dX11_actRead_155 : decode cX11_actRead 155 = .ok (.aload_n 0, 1) := by decide +kernel
theorem dX11_actRead_156 : decode cX11_actRead 156 = .ok (.getfield 159, 3) := by decide +kernel
theorem dX11_actRead_159 : decode cX11_actRead 159 = .ok (.iastore, 1) := by decide +kernel
theorem dX11_actRead_160 : decode cX11_actRead 160 = .ok (.aload_n 0, 1) := by decide +kernel
theorem dX11_actRead_161 : decode cX11_actRead 161 = .ok (.invokevirtual 181, 3) := by decide +kernel
theorem dX11_actRead_164 : decode cX11_actRead 164 = .ok (.aload_n 0, 1) := by decide +kernel
theorem dX11_actRead_165 : decode cX11_actRead 165 = .ok (.getfield 23, 3) := by decide +kernel
theorem dX11_actRead_168 : decode cX11_actRead 168 = .ok (.iload_n 1, 1) := by decide +kernel
theorem dX11_actRead_169 : decode cX11_actRead 169 = .ok (.dup2, 1) := by decide +kernel
theorem dX11_actRead_170 : decode cX11_actRead 170 = .ok (.iaload, 1) := by decide +kernel
theorem dX11_actRead_171 : decode cX11_actRead 171 = .ok (.iconst 1, 1) := by decide +kernel
theorem dX11_actRead_172 : decode cX11_actRead 172 = .ok (.iadd, 1) := by decide +kernel
theorem dX11_actRead_173 : decode cX11_actRead 173 = .ok (.iastore, 1) := by decide +kernel
theorem dX11_actRead_174 : decode cX11_actRead 174 = .ok (.iconst 1, 1) := by decide +kernel
theorem dX11_actRead_175 : decode cX11_actRead 175 = .ok (.ireturn, 1) := by decide +kernel
theorem dX11_lineRead_0 : decode cX11_lineRead 0 = .ok (.aload_n 0, 1) := by decide +kernel
theorem dX11_lineRead_1 : decode cX11_lineRead 1 = .ok (.iconst 0, 1) := by decide +kernel
theorem dX11_lineRead_2 : decode cX11_lineRead 2 = .ok (.invokevirtual 184, 3) := by decide +kernel
theorem dX11_lineRead_5 : decode cX11_lineRead 5 = .ok (.ifCond .ne 17, 3) := by decide +kernel
theorem dX11_lineRead_8 : decode cX11_lineRead 8 = .ok (.aload_n 0, 1) := by decide +kernel
theorem dX11_lineRead_9 : decode cX11_lineRead 9 = .ok (.iconst 1, 1) := by decide +kernel
theorem dX11_lineRead_10 : decode cX11_lineRead 10 = .ok (.invokevirtual 184, 3) := by decide +kernel
theorem dX11_lineRead_13 : decode cX11_lineRead 13 = .ok (.ifCond .ne 9, 3) := by decide +kernel
theorem dX11_lineRead_16 : decode cX11_lineRead 16 = .ok (.aload_n 0, 1) := by decide +kernel
theorem dX11_lineRead_17 : decode cX11_lineRead 17 = .ok (.iconst 1, 1) := by decide +kernel
theorem dX11_lineRead_18 : decode cX11_lineRead 18 = .ok (.invokevirtual 178, 3) := by decide +kernel
theorem dX11_lineRead_21 : decode cX11_lineRead 21 = .ok (.ireturn, 1) := by decide +kernel
theorem dX11_lineRead_22 : decode cX11_lineRead 22 = .ok (.iload_n 1, 1) := by decide +kernel
theorem dX11_lineRead_23 : decode cX11_lineRead 23 = .ok (.bipush 30, 2) := by decide +kernel
theorem dX11_lineRead_25 : decode cX11_lineRead 25 = .ok (.if_icmp .ne 9, 3) := by decide +kernel
theorem dX11_lineRead_28 : decode cX11_lineRead 28 = .ok (.aload_n 0, 1) := by decide +kernel
theorem dX11_lineRead_29 : decode cX11_lineRead 29 = .ok (.iconst 2, 1) := by decide +kernel
theorem dX11_lineRead_30 : decode cX11_lineRead 30 = .ok (.invokevirtual 178, 3) := by decide +kernel
theorem dX11_lineRead_33 : decode cX11_lineRead 33 = .ok (.ireturn, 1) := by decide +kernel
theorem dX11_lineRead_34 : decode cX11_lineRead 34 = .ok (.bipush 30, 2) := by decide +kernel
theorem dX11_lineRead_36 : decode cX11_lineRead 36 = .ok (.iload_n 1, 1) := by decide +kernel
theorem dX11_lineRead_37 : decode cX11_lineRead 37 = .ok (.iadd, 1) := by decide +kernel
theorem dX11_lineRead_38 : decode cX11_lineRead 38 = .ok (.istore_n 2, 1) := by decide +kernel
theorem dX11_lineRead_39 : decode cX11_lineRead 39 = .ok (.aload_n 0, 1) := by decide +kernel
theorem dX11_lineRead_40 : decode cX11_lineRead 40 = .ok (.getfield 20, 3) := by decide +kernel
theorem dX11_lineRead_43 : decode cX11_lineRead 43 = .ok (.iload_n 2, 1) := by decide +kernel
theorem dX11_lineRead_44 : decode cX11_lineRead 44 = .ok (.iconst 0, 1) := by decide +kernel
theorem dX11_lineRead_45 : decode cX11_lineRead 45 = .ok (.iastore, 1) := by decide +kernel
theorem dX11_lineRead_46 : decode cX11_lineRead 46 = .ok (.aload_n 0, 1) := by decide +kernel
theorem dX11_lineRead_47 : decode cX11_lineRead 47 = .ok (.getfield 23, 3) := by decide +kernel
theorem dX11_lineRead_50 : decode cX11_lineRead 50 = .ok (.iload_n 2, 1) := by decide +kernel
theorem dX11_lineRead_51 : decode cX11_lineRead 51 = .ok (.iconst 0, 1) := by decide +kernel
theorem dX11_lineRead_52 : decode cX11_lineRead 52 = .ok (.iastore, 1) := by decide +kernel
theorem dX11_lineRead_53 : decode cX11_lineRead 53 = .ok (.aload_n 0, 1) := by decide +kernel
theorem dX11_lineRead_54 : decode cX11_lineRead 54 = .ok (.iconst 0, 1) := by decide +kernel
theorem dX11_lineRead_55 : decode cX11_lineRead 55 = .ok (.invokevirtual 184, 3) := by decide +kernel
theorem dX11_lineRead_58 : decode cX11_lineRead 58 = .ok (.ifCond .eq 25, 3) := by decide +kernel
theorem dX11_lineRead_61 : decode cX11_lineRead 61 = .ok (.aload_n 0, 1) := by decide +kernel
theorem dX11_lineRead_62 : decode cX11_lineRead 62 = .ok (.invokevirtual 181, 3) := by decide +kernel
theorem dX11_lineRead_65 : decode cX11_lineRead 65 = .ok (.aload_n 0, 1) := by decide +kernel
theorem dX11_lineRead_66 : decode cX11_lineRead 66 = .ok (.iload_n 2, 1) := by decide +kernel
theorem dX11_lineRead_67 : decode cX11_lineRead 67 = .ok (.invokevirtual 190, 3) := by decide +kernel
theorem dX11_lineRead_70 : decode cX11_lineRead 70 = .ok (.ifCond .ne 5, 3) := by decide +kernel
theorem dX11_lineRead_73 : decode cX11_lineRead 73 = .ok (.iconst 0, 1) := by decide +kernel
theorem dX11_lineRead_74 : decode cX11_lineRead 74 = .ok (.ireturn, 1) := by decide +kernel
theorem dX11_lineRead_75 : decode cX11_lineRead 75 = .ok (.aload_n 0, 1) := by decide +kernel
theorem dX11_lineRead_76 : decode cX11_lineRead 76 = .ok (.iconst 1, 1) := by decide +kernel
theorem dX11_lineRead_77 : decode cX11_lineRead 77 = .ok (.invokevirtual 184, 3) := by decide +kernel
theorem dX11_lineRead_80 : decode cX11_lineRead 80 = .ok (.ifCond .eq (-15), 3) := by decide +kernel
theorem dX11_lineRead_83 : decode cX11_lineRead 83 = .ok (.aload_n 0, 1) := by decide +kernel
theorem dX11_lineRead_84 : decode cX11_lineRead 84 = .ok (.invokevirtual 181, 3) := by decide +kernel
theorem dX11_lineRead_87 : decode cX11_lineRead 87 = .ok (.aload_n 0, 1) := by decide +kernel
theorem dX11_lineRead_88 : decode cX11_lineRead 88 = .ok (.iload_n 2, 1) := by decide +kernel
theorem dX11_lineRead_89 : decode cX11_lineRead 89 = .ok (.invokevirtual 193, 3) := by decide +kernel
theorem dX11_lineRead_92 : decode cX11_lineRead 92 = .ok (.ifCond .ne 5, 3) := by decide +kernel
theorem dX11_lineRead_95 : decode cX11_lineRead 95 = .ok (.iconst 0, 1) := by decide +kernel
theorem dX11_lineRead_96 : decode cX11_lineRead 96 = .ok (.ireturn, 1) := by decide +kernel
theorem dX11_lineRead_97 : decode cX11_lineRead 97 = .ok (.aload_n 0, 1) := by decide +kernel
theorem dX11_lineRead_98 : decode cX11_lineRead 98 = .ok (.bipush 59, 2) := by decide +kernel
theorem dX11_lineRead_100 : decode cX11_lineRead 100 = .ok (.invokevirtual 175, 3) := by decide +kernel
theorem dX11_lineRead_103 : decode cX11_lineRead 103 = .ok (.ifCond .eq (-16), 3) := by decide +kernel
theorem dX11_lineRead_106 : decode cX11_lineRead 106 = .ok (.aload_n 0, 1) := by decide +kernel
theorem dX11_lineRead_107 : decode cX11_lineRead 107 = .ok (.invokevirtual 181, 3) := by decide +kernel
theorem dX11_lineRead_110 : decode cX11_lineRead 110 = .ok (.iconst 1, 1) := by decide +kernel
theorem dX11_lineRead_111 : decode cX11_lineRead 111 = .ok (.ireturn, 1) := by decide +kernel
theorem dX11_rules_0 : decode cX11_rules 0 = .ok (.aload_n 0, 1) := by decide +kernel
theorem dX11_rules_1 : decode cX11_rules 1 = .ok (.iconst 0, 1) := by decide +kernel
theorem dX11_rules_2 : decode cX11_rules 2 = .ok (.putfield 130, 3) := by decide +kernel
theorem dX11_rules_5 : decode cX11_rules 5 = .ok (.aload_n 0, 1) := by decide +kernel
theorem dX11_rules_6 : decode cX11_rules 6 = .ok (.iload_n 1, 1) := by decide +kernel
theorem dX11_rules_7 : decode cX11_rules 7 = .ok (.iconst 0, 1) := by decide +kernel
theorem dX11_rules_8 : decode cX11_rules 8 = .ok (.invokevirtual 196, 3) := by decide +kernel
theorem dX11_rules_11 : decode cX11_rules 11 = .ok (.ifCond .ne 6, 3) := by decide +kernel
theorem dX11_rules_14 : decode cX11_rules 14 = .ok (.bipush (-2), 2) := by decide +kernel
theorem dX11_rules_16 : decode cX11_rules 16 = .ok (.ireturn, 1) := by decide +kernel
theorem dX11_rules_17 : decode cX11_rules 17 = .ok (.iconst 0, 1) := by decide +kernel
theorem dX11_rules_18 : decode cX11_rules 18 = .ok (.istore_n 2, 1) := by decide +kernel
theorem dX11_rules_19 : decode cX11_rules 19 = .ok (.aload_n 0, 1) := by decide +kernel
theorem dX11_rules_20 : decode cX11_rules 20 = .ok (.getfield 148, 3) := by decide +kernel
theorem dX11_rules_23 : decode cX11_rules 23 = .ok (.ifCond .eq 19, 3) := by decide +kernel
theorem dX11_rules_26 : decode cX11_rules 26 = .ok (.aload_n 0, 1) := by decide +kernel
theorem dX11_rules_27 : decode cX11_rules 27 = .ok (.iload_n 2, 1) := by decide +kernel
theorem dX11_rules_28 : decode cX11_rules 28 = .ok (.invokevirtual 200, 3) := by decide +kernel
theorem dX11_rules_31 : decode cX11_rules 31 = .ok (.ifCond .ne 5, 3) := by decide +kernel
theorem dX11_rules_34 : decode cX11_rules 34 = .ok (.iconst (-1), 1) := by decide +kernel
theorem dX11_rules_35 : decode cX11_rules 35 = .ok (.ireturn, 1) := by decide +kernel
theorem dX11_rules_36 : decode cX11_rules 36 = .ok (.iinc 2 1, 3) := by decide +kernel
theorem dX11_rules_39 : decode cX11_rules 39 = .ok (.goto (-20), 3) := by decide +kernel
theorem dX11_rules_42 : decode cX11_rules 42 = .ok (.aload_n 0, 1) := by decide +kernel
theorem dX11_rules_43 : decode cX11_rules 43 = .ok (.iload_n 2, 1) := by decide +kernel
theorem dX11_rules_44 : decode cX11_rules 44 = .ok (.putfield 203, 3) := by decide +kernel
theorem dX11_rules_47 : decode cX11_rules 47 = .ok (.iconst 0, 1) := by decide +kernel
theorem dX11_rules_48 : decode cX11_rules 48 = .ok (.istore_n 3, 1) := by decide +kernel
theorem dX11_rules_49 : decode cX11_rules 49 = .ok (.iload_n 3, 1) := by decide +kernel
theorem dX11_rules_50 : decode cX11_rules 50 = .ok (.aload_n 0, 1) := by decide +kernel
theorem dX11_rules_51 : decode cX11_rules 51 = .ok (.getfield 203, 3) := by decide +kernel
theorem dX11_rules_54 : decode cX11_rules 54 = .ok (.if_icmp .ge 39, 3) := by decide +kernel
theorem dX11_rules_57 : decode cX11_rules 57 = .ok (.aload_n 0, 1) := by decide +kernel
theorem dX11_rules_58 : decode cX11_rules 58 = .ok (.getfield 20, 3) := by decide +kernel
theorem dX11_rules_61 : decode cX11_rules 61 = .ok (.iload_n 3, 1) := by decide +kernel
theorem dX11_rules_62 : decode cX11_rules 62 = .ok (.aload_n 0, 1) := by decide +kernel
theorem dX11_rules_63 : decode cX11_rules 63 = .ok (.getfield 20, 3) := by decide +kernel
theorem dX11_rules_66 : decode cX11_rules 66 = .ok (.bipush 30, 2) := by decide +kernel
theorem dX11_rules_68 : decode cX11_rules 68 = .ok (.iload_n 3, 1) := by decide +kernel
theorem dX11_rules_69 : decode cX11_rules 69 = .ok (.iadd, 1) := by decide +kernel
theorem dX11_rules_70 : decode cX11_rules 70 = .ok (.iaload, 1) := by decide +kernel
theorem dX11_rules_71 : decode cX11_rules 71 = .ok (.iastore, 1) := by decide +kernel
theorem dX11_rules_72 : decode cX11_rules 72 = .ok (.aload_n 0, 1) := by decide +kernel
theorem dX11_rules_73 : decode cX11_rules 73 = .ok (.getfield 23, 3) := by decide +kernel
theorem dX11_rules_76 : decode cX11_rules 76 = .ok (.iload_n 3, 1) := by decide +kernel
theorem dX11_rules_77 : decode cX11_rules 77 = .ok (.aload_n 0, 1) := by decide +kernel
theorem dX11_rules_78 : decode cX11_rules 78 = .ok (.getfield 23, 3) := by decide +kernel
theorem dX11_rules_81 : decode cX11_rules 81 = .ok (.bipush 30, 2) := by decide +kernel
theorem dX11_rules_83 : decode cX11_rules 83 = .ok (.iload_n 3, 1) := by decide +kernel
theorem dX11_rules_84 : decode cX11_rules 84 = .ok (.iadd, 1) := by decide +kernel
theorem dX11_rules_85 : decode cX11_rules 85 = .ok (.iaload, 1) := by decide +kernel
theorem dX11_rules_86 : decode cX11_rules 86 = .ok (.iastore, 1) := by decide +kernel
theorem dX11_rules_87 : decode cX11_rules 87 = .ok (.iinc 3 1, 3) := by decide +kernel
theorem dX11_rules_90 : decode cX11_rules 90 = .ok (.goto (-41), 3) := by decide +kernel
theorem dX11_rules_93 : decode cX11_rules 93 = .ok (.iconst 0, 1) := by decide +kernel
theorem dX11_rules_94 : decode cX11_rules 94 = .ok (.istore_n 3, 1) := by decide +kernel
theorem dX11_rules_95 : decode cX11_rules 95 = .ok (.iload_n 3, 1) := by decide +kernel
theorem dX11_rules_96 : decode cX11_rules 96 = .ok (.bipush 12, 2) := by decide +kernel
theorem dX11_rules_98 : decode cX11_rules 98 = .ok (.aload_n 0, 1) := by decide +kernel
theorem dX11_rules_99 : decode cX11_rules 99 = .ok (.getfield 203, 3) := by decide +kernel
theorem dX11_rules_102 : decode cX11_rules 102 = .ok (.imul, 1) := by decide +kernel
theorem dX11_rules_103 : decode cX11_rules 103 = .ok (.if_icmp .ge 89, 3) := by decide +kernel
theorem dX11_rules_106 : decode cX11_rules 106 = .ok (.aload_n 0, 1) := by decide +kernel
theorem dX11_rules_107 : decode cX11_rules 107 = .ok (.getfield 26, 3) := by decide +kernel
theorem dX11_rules_110 : decode cX11_rules 110 = .ok (.iload_n 3, 1) := by decide +kernel
theorem dX11_rules_111 : decode cX11_rules 111 = .ok (.aload_n 0, 1) := by decide +kernel
theorem dX11_rules_112 : decode cX11_rules 112 = .ok (.getfield 26, 3) := by decide +kernel
theorem dX11_rules_115 : decode cX11_rules 115 = .ok (.sipush 360, 3) := by decide +kernel
theorem dX11_rules_118 : decode cX11_rules 118 = .ok (.iload_n 3, 1) := by decide +kernel
theorem dX11_rules_119 : decode cX11_rules 119 = .ok (.iadd, 1) := by decide +kernel
theorem dX11_rules_120 : decode cX11_rules 120 = .ok (.iaload, 1) := by decide +kernel
theorem dX11_rules_121 : decode cX11_rules 121 = .ok (.iastore, 1) := by decide +kernel
theorem dX11_rules_122 : decode cX11_rules 122 = .ok (.aload_n 0, 1) := by decide +kernel
theorem dX11_rules_123 : decode cX11_rules 123 = .ok (.getfield 29, 3) := by decide +kernel
theorem dX11_rules_126 : decode cX11_rules 126 = .ok (.iload_n 3, 1) := by decide +kernel
theorem dX11_rules_127 : decode cX11_rules 127 = .ok (.aload_n 0, 1) := by decide +kernel
theorem dX11_rules_128 : decode cX11_rules 128 = .ok (.getfield 29, 3) := by decide +kernel
theorem dX11_rules_131 : decode cX11_rules 131 = .ok (.sipush 360, 3) := by decide +kernel
theorem dX11_rules_134 : decode cX11_rules 134 = .ok (.iload_n 3, 1) := by decide +kernel
theorem dX11_rules_135 : decode cX11_rules 135 = .ok (.iadd, 1) := by decide +kernel
theorem dX11_rules_136 : decode cX11_rules 136 = .ok (.iaload, 1) := by decide +kernel
theorem dX11_rules_137 : decode cX11_rules 137 = .ok (.iastore, 1) := by decide +kernel
theorem dX11_rules_138 : decode cX11_rules 138 = .ok (.aload_n 0, 1) := by decide +kernel
theorem dX11_rules_139 : decode cX11_rules 139 = .ok (.getfield 32, 3) := by decide +kernel
theorem dX11_rules_142 : decode cX11_rules 142 = .ok (.iload_n 3, 1) := by decide +kernel
theorem dX11_rules_143 : decode cX11_rules 143 = .ok (.aload_n 0, 1) := by decide +kernel
theorem dX11_rules_144 : decode cX11_rules 144 = .ok (.getfield 32, 3) := by decide +kernel
theorem dX11_rules_147 : decode cX11_rules 147 = .ok (.sipush 360, 3) := by decide +kernel
theorem dX11_rules_150 : decode cX11_rules 150 = .ok (.iload_n 3, 1) := by decide +kernel
theorem dX11_rules_151 : decode cX11_rules 151 = .ok (.iadd, 1) := by decide +kernel
theorem dX11_rules_152 : decode cX11_rules 152 = .ok (.baload, 1) := by decide +kernel
theorem dX11_rules_153 : decode cX11_rules 153 = .ok (.bastore, 1) := by decide +kernel
theorem dX11_rules_154 : decode cX11_rules 154 = .ok (.aload_n 0, 1) := by decide +kernel
theorem dX11_rules_155 : decode cX11_rules 155 = .ok (.getfield 36, 3) := by decide +kernel
theorem dX11_rules_158 : decode cX11_rules 158 = .ok (.iload_n 3, 1) := by decide +kernel
theorem dX11_rules_159 : decode cX11_rules 159 = .ok (.aload_n 0, 1) := by decide +kernel
theorem dX11_rules_160 : decode cX11_rules 160 = .ok (.getfield 36, 3) := by decide +kernel
theorem dX11_rules_163 : decode cX11_rules 163 = .ok (.sipush 360, 3) := by decide +kernel
theorem dX11_rules_166 : decode cX11_rules 166 = .ok (.iload_n 3, 1) := by decide +kernel
theorem dX11_rules_167 : decode cX11_rules 167 = .ok (.iadd, 1) := by decide +kernel
theorem dX11_rules_168 : decode cX11_rules 168 = .ok (.iaload, 1) := by decide +kernel
theorem dX11_rules_169 : decode cX11_rules 169 = .ok (.iastore, 1) := by decide +kernel
theorem dX11_rules_170 : decode cX11_rules 170 = .ok (.aload_n 0, 1) := by decide +kernel
theorem dX11_rules_171 : decode cX11_rules 171 = .ok (.getfield 39, 3) := by decide +kernel
theorem dX11_rules_174 : decode cX11_rules 174 = .ok (.iload_n 3, 1) := by decide +kernel
theorem dX11_rules_175 : decode cX11_rules 175 = .ok (.aload_n 0, 1) := by decide +kernel
theorem dX11_rules_176 : decode cX11_rules 176 = .ok (.getfield 39, 3) := by decide +kernel
theorem dX11_rules_179 : decode cX11_rules 179 = .ok (.sipush 360, 3) := by decide +kernel
theorem dX11_rules_182 : decode cX11_rules 182 = .ok (.iload_n 3, 1) := by decide +kernel
theorem dX11_rules_183 : decode cX11_rules 183 = .ok (.iadd, 1) := by decide +kernel
theorem dX11_rules_184 : decode cX11_rules 184 = .ok (.iaload, 1) := by decide +kernel
theorem dX11_rules_185 : decode cX11_rules 185 = .ok (.iastore, 1) := by decide +kernel
theorem dX11_rules_186 : decode cX11_rules 186 = .ok (.iinc 3 1, 3) := by decide +kernel
theorem dX11_rules_189 : decode cX11_rules 189 = .ok (.goto (-94), 3) := by decide +kernel
theorem dX11_rules_192 : decode cX11_rules 192 = .ok (.aload_n 0, 1) := by decide +kernel
theorem dX11_rules_193 : decode cX11_rules 193 = .ok (.iconst (-1), 1) := by decide +kernel
theorem dX11_rules_194 : decode cX11_rules 194 = .ok (.putfield 78, 3) := by decide +kernel
theorem dX11_rules_197 : decode cX11_rules 197 = .ok (.iconst 0, 1) := by decide +kernel
theorem dX11_rules_198 : decode cX11_rules 198 = .ok (.istore_n 3, 1) := by decide +kernel
theorem dX11_rules_199 : decode cX11_rules 199 = .ok (.iload_n 3, 1) := by decide +kernel
theorem dX11_rules_200 : decode cX11_rules 200 = .ok (.bipush 16, 2) := by decide +kernel
theorem dX11_rules_202 : decode cX11_rules 202 = .ok (.if_icmp .ge 16, 3) := by decide +kernel
theorem dX11_rules_205 : decode cX11_rules 205 = .ok (.aload_n 0, 1) := by decide +kernel
theorem dX11_rules_206 : decode cX11_rules 206 = .ok (.getfield 96, 3) := by decide +kernel
theorem dX11_rules_209 : decode cX11_rules 209 = .ok (.iload_n 3, 1) := by decide +kernel
theorem dX11_rules_210 : decode cX11_rules 210 = .ok (.iconst 0, 1) := by decide +kernel
theorem dX11_rules_211 : decode cX11_rules 211 = .ok (.bastore, 1) := by decide +kernel
theorem dX11_rules_212 : decode cX11_rules 212 = .ok (.iinc 3 1, 3) := by decide +kernel
theorem dX11_rules_215 : decode cX11_rules 215 = .ok (.goto (-16), 3) := by decide +kernel
theorem dX11_rules_218 : decode cX11_rules 218 = .ok (.aload_n 0, 1) := by decide +kernel
theorem dX11_rules_219 : decode cX11_rules 219 = .ok (.getfield 203, 3) := by decide +kernel
theorem dX11_rules_222 : decode cX11_rules 222 = .ok (.ireturn, 1) := by decide +kernel
theorem dX11_fault_0 : decode cX11_fault 0 = .ok (.aload_n 0, 1) := by decide +kernel
theorem dX11_fault_1 : decode cX11_fault 1 = .ok (.iconst 0, 1) := by decide +kernel
theorem dX11_fault_2 : decode cX11_fault 2 = .ok (.putfield 130, 3) := by decide +kernel
theorem dX11_fault_5 : decode cX11_fault 5 = .ok (.iload_n 1, 1) := by decide +kernel
theorem dX11_fault_6 : decode cX11_fault 6 = .ok (.ifCond .ne 10, 3) := by decide +kernel
theorem dX11_fault_9 : decode cX11_fault 9 = .ok (.aload_n 0, 1) := by decide +kernel
theorem dX11_fault_10 : decode cX11_fault 10 = .ok (.getfield 136, 3) := by decide +kernel
theorem dX11_fault_13 : decode cX11_fault 13 = .ok (.goto 16, 3) := by decide +kernel
theorem dX11_fault_16 : decode cX11_fault 16 = .ok (.iload_n 1, 1) := by decide +kernel
theorem dX11_fault_17 : decode cX11_fault 17 = .ok (.iconst 1, 1) := by decide +kernel
theorem dX11_fault_18 : decode cX11_fault 18 = .ok (.if_icmp .ne 10, 3) := by decide +kernel
theorem dX11_fault_21 : decode cX11_fault 21 = .ok (.aload_n 0, 1) := by decide +kernel
theorem dX11_fault_22 : decode cX11_fault 22 = .ok (.getfield 16, 3) := by decide +kernel
theorem dX11_fault_25 : decode cX11_fault 25 = .ok (.goto 4, 3) := by decide +kernel
theorem dX11_fault_28 : decode cX11_fault 28 = .ok (.iconst (-1), 1) := by decide +kernel
theorem dX11_fault_29 : decode cX11_fault 29 = .ok (.ireturn, 1) := by decide +kernel
theorem dX11_weight_0 : decode cX11_weight 0 = .ok (.iload_n 0, 1) := by decide +kernel
theorem dX11_weight_1 : decode cX11_weight 1 = .ok (.iconst 5, 1) := by decide +kernel
theorem dX11_weight_2 : decode cX11_weight 2 = .ok (.if_icmp .ne 7, 3) := by decide +kernel
theorem dX11_weight_5 : decode cX11_weight 5 = .ok (.iconst 3, 1) := by decide +kernel
theorem dX11_weight_6 : decode cX11_weight 6 = .ok (.goto 24, 3) := by decide +kernel
theorem dX11_weight_9 : decode cX11_weight 9 = .ok (.iload_n 0, 1) := by decide +kernel
theorem dX11_weight_10 : decode cX11_weight 10 = .ok (.bipush 6, 2) := by decide +kernel
theorem dX11_weight_12 : decode cX11_weight 12 = .ok (.if_icmp .ne 7, 3) := by decide +kernel
theorem dX11_weight_15 : decode cX11_weight 15 = .ok (.iconst 2, 1) := by decide +kernel
theorem dX11_weight_16 : decode cX11_weight 16 = .ok (.goto 14, 3) := by decide +kernel
theorem dX11_weight_19 : decode cX11_weight 19 = .ok (.iload_n 0, 1) := by decide +kernel
theorem dX11_weight_20 : decode cX11_weight 20 = .ok (.bipush 7, 2) := by decide +kernel
theorem dX11_weight_22 : decode cX11_weight 22 = .ok (.if_icmp .ne 7, 3) := by decide +kernel
theorem dX11_weight_25 : decode cX11_weight 25 = .ok (.iconst 1, 1) := by decide +kernel
theorem dX11_weight_26 : decode cX11_weight 26 = .ok (.goto 4, 3) := by decide +kernel
theorem dX11_weight_29 : decode cX11_weight 29 = .ok (.iconst 0, 1) := by decide +kernel
theorem dX11_weight_30 : decode cX11_weight 30 = .ok (.ireturn, 1) := by decide +kernel
theorem dX11_grown_0 : decode cX11_grown 0 = .ok (.aload_n 0, 1) := by decide +kernel
theorem dX11_grown_1 : decode cX11_grown 1 = .ok (.getfield 51, 3) := by decide +kernel
theorem dX11_grown_4 : decode cX11_grown 4 = .ok (.bipush 64, 2) := by decide +kernel
theorem dX11_grown_6 : decode cX11_grown 6 = .ok (.aload_n 0, 1) := by decide +kernel
theorem dX11_grown_7 : decode cX11_grown 7 = .ok (.getfield 206, 3) := by decide +kernel
theorem dX11_grown_10 : decode cX11_grown 10 = .ok (.iadd, 1) := by decide +kernel
theorem dX11_grown_11 : decode cX11_grown 11 = .ok (.iload_n 1, 1) := by decide +kernel
theorem dX11_grown_12 : decode cX11_grown 12 = .ok (.iastore, 1) := by decide +kernel
theorem dX11_grown_13 : decode cX11_grown 13 = .ok (.aload_n 0, 1) := by decide +kernel
theorem dX11_grown_14 : decode cX11_grown 14 = .ok (.getfield 54, 3) := by decide +kernel
theorem dX11_grown_17 : decode cX11_grown 17 = .ok (.bipush 64, 2) := by decide +kernel
theorem dX11_grown_19 : decode cX11_grown 19 = .ok (.aload_n 0, 1) := by decide +kernel
theorem dX11_grown_20 : decode cX11_grown 20 = .ok (.getfield 206, 3) := by decide +kernel
theorem dX11_grown_23 : decode cX11_grown 23 = .ok (.iadd, 1) := by decide +kernel
theorem dX11_grown_24 : decode cX11_grown 24 = .ok (.iload_n 2, 1) := by decide +kernel
theorem dX11_grown_25 : decode cX11_grown 25 = .ok (.iastore, 1) := by decide +kernel
theorem dX11_grown_26 : decode cX11_grown 26 = .ok (.aload_n 0, 1) := by decide +kernel
theorem dX11_grown_27 : decode cX11_grown 27 = .ok (.getfield 57, 3) := by decide +kernel
theorem dX11_grown_30 : decode cX11_grown 30 = .ok (.bipush 64, 2) := by decide +kernel
theorem dX11_grown_32 : decode cX11_grown 32 = .ok (.aload_n 0, 1) := by decide +kernel
theorem dX11_grown_33 : decode cX11_grown 33 = .ok (.getfield 206, 3) := by decide +kernel
theorem dX11_grown_36 : decode cX11_grown 36 = .ok (.iadd, 1) := by decide +kernel
theorem dX11_grown_37 : decode cX11_grown 37 = .ok (.iload_n 3, 1) := by decide +kernel
theorem dX11_grown_38 : decode cX11_grown 38 = .ok (.iastore, 1) := by decide +kernel
theorem dX11_grown_39 : decode cX11_grown 39 = .ok (.aload_n 0, 1) := by decide +kernel
theorem dX11_grown_40 : decode cX11_grown 40 = .ok (.getfield 60, 3) := by decide +kernel
theorem dX11_grown_43 : decode cX11_grown 43 = .ok (.bipush 64, 2) := by decide +kernel
theorem dX11_grown_45 : decode cX11_grown 45 = .ok (.aload_n 0, 1) := by decide +kernel
theorem dX11_grown_46 : decode cX11_grown 46 = .ok (.getfield 206, 3) := by decide +kernel
theorem dX11_grown_49 : decode cX11_grown 49 = .ok (.iadd, 1) := by decide +kernel
theorem dX11_grown_50 : decode cX11_grown 50 = .ok (.aload_n 0, 1) := by decide +kernel
theorem dX11_grown_51 : decode cX11_grown 51 = .ok (.getfield 139, 3) := by decide +kernel
theorem dX11_grown_54 : decode cX11_grown 54 = .ok (.iastore, 1) := by decide +kernel
theorem dX11_grown_55 : decode cX11_grown 55 = .ok (.aload_n 0, 1) := by decide +kernel
theorem dX11_grown_56 : decode cX11_grown 56 = .ok (.getfield 66, 3) := by decide +kernel
theorem dX11_grown_59 : decode cX11_grown 59 = .ok (.aload_n 0, 1) := by decide +kernel
theorem dX11_grown_60 : decode cX11_grown 60 = .ok (.getfield 209, 3) := by decide +kernel
theorem dX11_grown_63 : decode cX11_grown 63 = .ok (.aload_n 0, 1) := by decide +kernel
theorem dX11_grown_64 : decode cX11_grown 64 = .ok (.getfield 206, 3) := by decide +kernel
theorem dX11_grown_67 : decode cX11_grown 67 = .ok (.iastore, 1) := by decide +kernel
theorem dX11_grown_68 : decode cX11_grown 68 = .ok (.aload_n 0, 1) := by decide +kernel
theorem dX11_grown_69 : decode cX11_grown 69 = .ok (.dup, 1) := by decide +kernel
theorem dX11_grown_70 : decode cX11_grown 70 = .ok (.getfield 209, 3) := by decide +kernel
theorem dX11_grown_73 : decode cX11_grown 73 = .ok (.iconst 1, 1) := by decide +kernel
theorem dX11_grown_74 : decode cX11_grown 74 = .ok (.iadd, 1) := by decide +kernel
theorem dX11_grown_75 : decode cX11_grown 75 = .ok (.putfield 209, 3) := by decide +kernel
theorem dX11_grown_78 : decode cX11_grown 78 = .ok (.aload_n 0, 1) := by decide +kernel
theorem dX11_grown_79 : decode cX11_grown 79 = .ok (.dup, 1) := by decide +kernel
theorem dX11_grown_80 : decode cX11_grown 80 = .ok (.getfield 206, 3) := by decide +kernel
theorem dX11_grown_83 : decode cX11_grown 83 = .ok (.iconst 1, 1) := by decide +kernel
theorem dX11_grown_84 : decode cX11_grown 84 = .ok (.iadd, 1) := by decide +kernel
theorem dX11_grown_85 : decode cX11_grown 85 = .ok (.putfield 206, 3) := by decide +kernel
theorem dX11_grown_88 : decode cX11_grown 88 = .ok (.return_, 1) := by decide +kernel
theorem dX11_drop_0 : decode cX11_drop 0 = .ok (.aload_n 0, 1) := by decide +kernel
theorem dX11_drop_1 : decode cX11_drop 1 = .ok (.dup, 1) := by decide +kernel
theorem dX11_drop_2 : decode cX11_drop 2 = .ok (.getfield 209, 3) := by decide +kernel
theorem dX11_drop_5 : decode cX11_drop 5 = .ok (.iconst 1, 1) := by decide +kernel
theorem dX11_drop_6 : decode cX11_drop 6 = .ok (.isub, 1) := by decide +kernel
theorem dX11_drop_7 : decode cX11_drop 7 = .ok (.putfield 209, 3) := by decide +kernel
theorem dX11_drop_10 : decode cX11_drop 10 = .ok (.aload_n 0, 1) := by decide +kernel
theorem dX11_drop_11 : decode cX11_drop 11 = .ok (.getfield 66, 3) := by decide +kernel
theorem dX11_drop_14 : decode cX11_drop 14 = .ok (.aload_n 0, 1) := by decide +kernel
theorem dX11_drop_15 : decode cX11_drop 15 = .ok (.getfield 209, 3) := by decide +kernel
theorem dX11_drop_18 : decode cX11_drop 18 = .ok (.iaload, 1) := by decide +kernel
theorem dX11_drop_19 : decode cX11_drop 19 = .ok (.ireturn, 1) := by decide +kernel
theorem dX11_bind_0 : decode cX11_bind 0 = .ok (.aload_n 0, 1) := by decide +kernel
theorem dX11_bind_1 : decode cX11_bind 1 = .ok (.getfield 212, 3) := by decide +kernel
theorem dX11_bind_4 : decode cX11_bind 4 = .ok (.ifCond .le 72, 3) := by decide +kernel
theorem dX11_bind_7 : decode cX11_bind 7 = .ok (.aload_n 0, 1) := by decide +kernel
theorem dX11_bind_8 : decode cX11_bind 8 = .ok (.getfield 63, 3) := by decide +kernel
theorem dX11_bind_11 : decode cX11_bind 11 = .ok (.aload_n 0, 1) := by decide +kernel
theorem dX11_bind_12 : decode cX11_bind 12 = .ok (.getfield 212, 3) := by decide +kernel
theorem dX11_bind_15 : decode cX11_bind 15 = .ok (.iconst 1, 1) := by decide +kernel
theorem dX11_bind_16 : decode cX11_bind 16 = .ok (.isub, 1) := by decide +kernel
theorem dX11_bind_17 : decode cX11_bind 17 = .ok (.iaload, 1) := by decide +kernel
theorem dX11_bind_18 : decode cX11_bind 18 = .ok (.invokestatic 215, 3) := by decide +kernel
theorem dX11_bind_21 : decode cX11_bind 21 = .ok (.iload_n 1, 1) := by decide +kernel
theorem dX11_bind_22 : decode cX11_bind 22 = .ok (.if_icmp .lt 54, 3) := by decide +kernel
theorem dX11_bind_25 : decode cX11_bind 25 = .ok (.aload_n 0, 1) := by decide +kernel
theorem dX11_bind_26 : decode cX11_bind 26 = .ok (.dup, 1) := by decide +kernel
theorem dX11_bind_27 : decode cX11_bind 27 = .ok (.getfield 212, 3) := by decide +kernel
theorem dX11_bind_30 : decode cX11_bind 30 = .ok (.iconst 1, 1) := by decide +kernel
theorem dX11_bind_31 : decode cX11_bind 31 = .ok (.isub, 1) := by decide +kernel
theorem dX11_bind_32 : decode cX11_bind 32 = .ok (.putfield 212, 3) := by decide +kernel
theorem dX11_bind_35 : decode cX11_bind 35 = .ok (.aload_n 0, 1) := by decide +kernel
theorem dX11_bind_36 : decode cX11_bind 36 = .ok (.getfield 63, 3) := by decide +kernel
theorem dX11_bind_39 : decode cX11_bind 39 = .ok (.aload_n 0, 1) := by decide +kernel
theorem dX11_bind_40 : decode cX11_bind 40 = .ok (.getfield 212, 3) := by decide +kernel
theorem dX11_bind_43 : decode cX11_bind 43 = .ok (.iaload, 1) := by decide +kernel
theorem dX11_bind_44 : decode cX11_bind 44 = .ok (.istore_n 2, 1) := by decide +kernel
theorem dX11_bind_45 : decode cX11_bind 45 = .ok (.iload_n 2, 1) := by decide +kernel
theorem dX11_bind_46 : decode cX11_bind 46 = .ok (.iconst 5, 1) := by decide +kernel
theorem dX11_bind_47 : decode cX11_bind 47 = .ok (.if_icmp .ne 7, 3) := by decide +kernel
theorem dX11_bind_50 : decode cX11_bind 50 = .ok (.iconst (-1), 1) := by decide +kernel
theorem dX11_bind_51 : decode cX11_bind 51 = .ok (.goto 7, 3) := by decide +kernel
theorem dX11_bind_54 : decode cX11_bind 54 = .ok (.aload_n 0, 1) := by decide +kernel
theorem dX11_bind_55 : decode cX11_bind 55 = .ok (.invokevirtual 219, 3) := by decide +kernel
theorem dX11_bind_58 : decode cX11_bind 58 = .ok (.istore_n 3, 1) := by decide +kernel
theorem dX11_bind_59 : decode cX11_bind 59 = .ok (.aload_n 0, 1) := by decide +kernel
theorem dX11_bind_60 : decode cX11_bind 60 = .ok (.invokevirtual 219, 3) := by decide +kernel
theorem dX11_bind_63 : decode cX11_bind 63 = .ok (.istore 4, 2) := by decide +kernel
theorem dX11_bind_65 : decode cX11_bind 65 = .ok (.aload_n 0, 1) := by decide +kernel
theorem dX11_bind_66 : decode cX11_bind 66 = .ok (.iload_n 2, 1) := by decide +kernel
theorem dX11_bind_67 : decode cX11_bind 67 = .ok (.iload 4, 2) := by decide +kernel
theorem dX11_bind_69 : decode cX11_bind 69 = .ok (.iload_n 3, 1) := by decide +kernel
theorem dX11_bind_70 : decode cX11_bind 70 = .ok (.invokevirtual 223, 3) := by decide +kernel
theorem dX11_bind_73 : decode cX11_bind 73 = .ok (.goto (-73), 3) := by decide +kernel
theorem dX11_bind_76 : decode cX11_bind 76 = .ok (.return_, 1) := by decide +kernel
theorem dX11_isCounted_0 : decode cX11_isCounted 0 = .ok (.aload_n 0, 1) := by decide +kernel
theorem dX11_isCounted_1 : decode cX11_isCounted 1 = .ok (.getfield 227, 3) := by decide +kernel
theorem dX11_isCounted_4 : decode cX11_isCounted 4 = .ok (.bipush 64, 2) := by decide +kernel
theorem dX11_isCounted_6 : decode cX11_isCounted 6 = .ok (.if_icmp .ne 9, 3) := by decide +kernel
theorem dX11_isCounted_9 : decode cX11_isCounted 9 = .ok (.aload_n 0, 1) := by decide +kernel
theorem dX11_isCounted_10 : decode cX11_isCounted 10 = .ok (.iconst 2, 1) := by decide +kernel
theorem dX11_isCounted_11 : decode cX11_isCounted 11 = .ok (.invokevirtual 178, 3) := by decide +kernel
theorem dX11_isCounted_14 : decode cX11_isCounted 14 = .ok (.ireturn, 1) := by decide +kernel
theorem dX11_isCounted_15 : decode cX11_isCounted 15 = .ok (.aload_n 0, 1) := by decide +kernel
theorem dX11_isCounted_16 : decode cX11_isCounted 16 = .ok (.dup, 1) := by decide +kernel
theorem dX11_isCounted_17 : decode cX11_isCounted 17 = .ok (.getfield 227, 3) := by decide +kernel
theorem dX11_isCounted_20 : decode cX11_isCounted 20 = .ok (.iconst 1, 1) := by decide +kernel
theorem dX11_isCounted_21 : decode cX11_isCounted 21 = .ok (.iadd, 1) := by decide +kernel
theorem dX11_isCounted_22 : decode cX11_isCounted 22 = .ok (.putfield 227, 3) := by decide +kernel
theorem dX11_isCounted_25 : decode cX11_isCounted 25 = .ok (.iconst 1, 1) := by decide +kernel
theorem dX11_isCounted_26 : decode cX11_isCounted 26 = .ok (.ireturn, 1) := by decide +kernel
theorem dX11_leafRead_0 : decode cX11_leafRead 0 = .ok (.aload_n 0, 1) := by decide +kernel
theorem dX11_leafRead_1 : decode cX11_leafRead 1 = .ok (.bipush 40, 2) := by decide +kernel
theorem dX11_leafRead_3 : decode cX11_leafRead 3 = .ok (.invokevirtual 175, 3) := by decide +kernel
theorem dX11_leafRead_6 : decode cX11_leafRead 6 = .ok (.ifCond .eq 54, 3) := by decide +kernel
theorem dX11_leafRead_9 : decode cX11_leafRead 9 = .ok (.aload_n 0, 1) := by decide +kernel
theorem dX11_leafRead_10 : decode cX11_leafRead 10 = .ok (.getfield 230, 3) := by decide +kernel
theorem dX11_leafRead_13 : decode cX11_leafRead 13 = .ok (.bipush 8, 2) := by decide +kernel
theorem dX11_leafRead_15 : decode cX11_leafRead 15 = .ok (.if_icmp .ne 9, 3) := by decide +kernel
theorem dX11_leafRead_18 : decode cX11_leafRead 18 = .ok (.aload_n 0, 1) := by decide +kernel
theorem dX11_leafRead_19 : decode cX11_leafRead 19 = .ok (.iconst 2, 1) := by decide +kernel
theorem dX11_leafRead_20 : decode cX11_leafRead 20 = .ok (.invokevirtual 178, 3) := by decide +kernel
theorem dX11_leafRead_23 : decode cX11_leafRead 23 = .ok (.ireturn, 1) := by decide +kernel
theorem dX11_leafRead_24 : decode cX11_leafRead 24 = .ok (.aload_n 0, 1) := by decide +kernel
theorem dX11_leafRead_25 : decode cX11_leafRead 25 = .ok (.dup, 1) := by decide +kernel
theorem dX11_leafRead_26 : decode cX11_leafRead 26 = .ok (.getfield 230, 3) := by decide +kernel
theorem dX11_leafRead_29 : decode cX11_leafRead 29 = .ok (.iconst 1, 1) := by decide +kernel
theorem dX11_leafRead_30 : decode cX11_leafRead 30 = .ok (.iadd, 1) := by decide +kernel
theorem dX11_leafRead_31 : decode cX11_leafRead 31 = .ok (.putfield 230, 3) := by decide +kernel
theorem dX11_leafRead_34 : decode cX11_leafRead 34 = .ok (.aload_n 0, 1) := by decide +kernel
theorem dX11_leafRead_35 : decode cX11_leafRead 35 = .ok (.getfield 63, 3) := by decide +kernel
theorem dX11_leafRead_38 : decode cX11_leafRead 38 = .ok (.aload_n 0, 1) := by decide +kernel
theorem dX11_leafRead_39 : decode cX11_leafRead 39 = .ok (.getfield 212, 3) := by decide +kernel
theorem dX11_leafRead_42 : decode cX11_leafRead 42 = .ok (.iconst 0, 1) := by decide +kernel
theorem dX11_leafRead_43 : decode cX11_leafRead 43 = .ok (.iastore, 1) := by decide +kernel
theorem dX11_leafRead_44 : decode cX11_leafRead 44 = .ok (.aload_n 0, 1) := by decide +kernel
theorem dX11_leafRead_45 : decode cX11_leafRead 45 = .ok (.dup, 1) := by decide +kernel
theorem dX11_leafRead_46 : decode cX11_leafRead 46 = .ok (.getfield 212, 3) := by decide +kernel
theorem dX11_leafRead_49 : decode cX11_leafRead 49 = .ok (.iconst 1, 1) := by decide +kernel
theorem dX11_leafRead_50 : decode cX11_leafRead 50 = .ok (.iadd, 1) := by decide +kernel
theorem dX11_leafRead_51 : decode cX11_leafRead 51 = .ok (.putfield 212, 3) := by decide +kernel
theorem dX11_leafRead_54 : decode cX11_leafRead 54 = .ok (.aload_n 0, 1) := by decide +kernel
theorem dX11_leafRead_55 : decode cX11_leafRead 55 = .ok (.invokevirtual 181, 3) := by decide +kernel
theorem dX11_leafRead_58 : decode cX11_leafRead 58 = .ok (.iconst 1, 1) := by decide +kernel
theorem dX11_leafRead_59 : decode cX11_leafRead 59 = .ok (.ireturn, 1) := by decide +kernel
theorem dX11_leafRead_60 : decode cX11_leafRead 60 = .ok (.aload_n 0, 1) := by decide +kernel
theorem dX11_leafRead_61 : decode cX11_leafRead 61 = .ok (.iconst 2, 1) := by decide +kernel
theorem dX11_leafRead_62 : decode cX11_leafRead 62 = .ok (.invokevirtual 184, 3) := by decide +kernel
theorem dX11_leafRead_65 : decode cX11_leafRead 65 = .ok (.ifCond .eq 38, 3) := by decide +kernel
theorem dX11_leafRead_68 : decode cX11_leafRead 68 = .ok (.aload_n 0, 1) := by decide +kernel
theorem dX11_leafRead_69 : decode cX11_leafRead 69 = .ok (.invokevirtual 233, 3) := by decide +kernel
theorem dX11_leafRead_72 : decode cX11_leafRead 72 = .ok (.ifCond .ne 5, 3) := by decide +kernel
theorem dX11_leafRead_75 : decode cX11_leafRead 75 = .ok (.iconst 0, 1) := by decide +kernel
theorem dX11_leafRead_76 : decode cX11_leafRead 76 = .ok (.ireturn, 1) := by decide +kernel
theorem dX11_leafRead_77 : decode cX11_leafRead 77 = .ok (.aload_n 0, 1) := by decide +kernel
theorem dX11_leafRead_78 : decode cX11_leafRead 78 = .ok (.getfield 63, 3) := by decide +kernel
theorem dX11_leafRead_81 : decode cX11_leafRead 81 = .ok (.aload_n 0, 1) := by decide +kernel
theorem dX11_leafRead_82 : decode cX11_leafRead 82 = .ok (.getfield 212, 3) := by decide +kernel
theorem dX11_leafRead_85 : decode cX11_leafRead 85 = .ok (.iconst 5, 1) := by decide +kernel
theorem dX11_leafRead_86 : decode cX11_leafRead 86 = .ok (.iastore, 1) := by decide +kernel
theorem dX11_leafRead_87 : decode cX11_leafRead 87 = .ok (.aload_n 0, 1) := by decide +kernel
theorem dX11_leafRead_88 : decode cX11_leafRead 88 = .ok (.dup, 1) := by decide +kernel
theorem dX11_leafRead_89 : decode cX11_leafRead 89 = .ok (.getfield 212, 3) := by decide +kernel
theorem dX11_leafRead_92 : decode cX11_leafRead 92 = .ok (.iconst 1, 1) := by decide +kernel
theorem dX11_leafRead_93 : decode cX11_leafRead 93 = .ok (.iadd, 1) := by decide +kernel
theorem dX11_leafRead_94 : decode cX11_leafRead 94 = .ok (.putfield 212, 3) := by decide +kernel
theorem dX11_leafRead_97 : decode cX11_leafRead 97 = .ok (.aload_n 0, 1) := by decide +kernel
theorem dX11_leafRead_98 : decode cX11_leafRead 98 = .ok (.invokevirtual 181, 3) := by decide +kernel
theorem dX11_leafRead_101 : decode cX11_leafRead 101 = .ok (.iconst 1, 1) := by decide +kernel
theorem dX11_leafRead_102 : decode cX11_leafRead 102 = .ok (.ireturn, 1) := by decide +kernel
theorem dX11_leafRead_103 : decode cX11_leafRead 103 = .ok (.aload_n 0, 1) := by decide +kernel
theorem dX11_leafRead_104 : decode cX11_leafRead 104 = .ok (.iconst 3, 1) := by decide +kernel
theorem dX11_leafRead_105 : decode cX11_leafRead 105 = .ok (.invokevirtual 184, 3) := by decide +kernel
theorem dX11_leafRead_108 : decode cX11_leafRead 108 = .ok (.ifCond .ne 29, 3) := by decide +kernel
theorem dX11_leafRead_111 : decode cX11_leafRead 111 = .ok (.aload_n 0, 1) := by decide +kernel
theorem dX11_leafRead_112 : decode cX11_leafRead 112 = .ok (.iconst 4, 1) := by decide +kernel
theorem dX11_leafRead_113 : decode cX11_leafRead 113 = .ok (.invokevirtual 184, 3) := by decide +kernel
theorem dX11_leafRead_116 : decode cX11_leafRead 116 = .ok (.ifCond .ne 21, 3) := by decide +kernel
theorem dX11_leafRead_119 : decode cX11_leafRead 119 = .ok (.aload_n 0, 1) := by decide +kernel
theorem dX11_leafRead_120 : decode cX11_leafRead 120 = .ok (.bipush 23, 2) := by decide +kernel
theorem dX11_leafRead_122 : decode cX11_leafRead 122 = .ok (.invokevirtual 184, 3) := by decide +kernel
theorem dX11_leafRead_125 : decode cX11_leafRead 125 = .ok (.ifCond .ne 12, 3) := by decide +kernel
theorem dX11_leafRead_128 : decode cX11_leafRead 128 = .ok (.aload_n 0, 1) := by decide +kernel
theorem dX11_leafRead_129 : decode cX11_leafRead 129 = .ok (.bipush 24, 2) := by decide +kernel
theorem dX11_leafRead_131 : decode cX11_leafRead 131 = .ok (.invokevirtual 184, 3) := by decide +kernel
theorem dX11_leafRead_134 : decode cX11_leafRead 134 = .ok (.ifCond .eq 7, 3) := by decide +kernel
theorem dX11_leafRead_137 : decode cX11_leafRead 137 = .ok (.iconst 1, 1) := by decide +kernel
theorem dX11_leafRead_138 : decode cX11_leafRead 138 = .ok (.goto 4, 3) := by decide +kernel
theorem dX11_leafRead_141 : decode cX11_leafRead 141 = .ok (.iconst 0, 1) := by decide +kernel
theorem dX11_leafRead_142 : decode cX11_leafRead 142 = .ok (.istore_n 1, 1) := by decide +kernel
theorem dX11_leafRead_143 : decode cX11_leafRead 143 = .ok (.iload_n 1, 1) := by decide +kernel
theorem dX11_leafRead_144 : decode cX11_leafRead 144 = .ok (.ifCond .ne 17, 3) := by decide +kernel
theorem dX11_leafRead_147 : decode cX11_leafRead 147 = .ok (.aload_n 0, 1) := by decide +kernel
theorem dX11_leafRead_148 : decode cX11_leafRead 148 = .ok (.getfield 148, 3) := by decide +kernel
theorem dX11_leafRead_151 : decode cX11_leafRead 151 = .ok (.iconst 2, 1) := by decide +kernel
theorem dX11_leafRead_152 : decode cX11_leafRead 152 = .ok (.if_icmp .eq 9, 3) := by decide +kernel
theorem dX11_leafRead_155 : decode cX11_leafRead 155 = .ok (.aload_n 0, 1) := by decide +kernel
theorem dX11_leafRead_156 : decode cX11_leafRead 156 = .ok (.iconst 1, 1) := by decide +kernel
theorem dX11_leafRead_157 : decode cX11_leafRead 157 = .ok (.invokevirtual 178, 3) := by decide +kernel
theorem dX11_leafRead_160 : decode cX11_leafRead 160 = .ok (.ireturn, 1) := by decide +kernel
theorem dX11_leafRead_161 : decode cX11_leafRead 161 = .ok (.aload_n 0, 1) := by decide +kernel
theorem dX11_leafRead_162 : decode cX11_leafRead 162 = .ok (.invokevirtual 233, 3) := by decide +kernel
theorem dX11_leafRead_165 : decode cX11_leafRead 165 = .ok (.ifCond .ne 5, 3) := by decide +kernel
theorem dX11_leafRead_168 : decode cX11_leafRead 168 = .ok (.iconst 0, 1) := by decide +kernel
theorem dX11_leafRead_169 : decode cX11_leafRead 169 = .ok (.ireturn, 1) := by decide +kernel
theorem dX11_leafRead_170 : decode cX11_leafRead 170 = .ok (.iload_n 1, 1) := by decide +kernel
theorem dX11_leafRead_171 : decode cX11_leafRead 171 = .ok (.ifCond .eq 50, 3) := by decide +kernel
theorem dX11_leafRead_174 : decode cX11_leafRead 174 = .ok (.aload_n 0, 1) := by decide +kernel
theorem dX11_leafRead_175 : decode cX11_leafRead 175 = .ok (.aload_n 0, 1) := by decide +kernel
theorem dX11_leafRead_176 : decode cX11_leafRead 176 = .ok (.getfield 159, 3) := by decide +kernel
theorem dX11_leafRead_179 : decode cX11_leafRead 179 = .ok (.iconst 3, 1) := by decide +kernel
theorem dX11_leafRead_180 : decode cX11_leafRead 180 = .ok (.if_icmp .ne 7, 3) := by decide +kernel
theorem dX11_leafRead_183 : decode cX11_leafRead 183 = .ok (.iconst 0, 1) := by decide +kernel
theorem dX11_leafRead_184 : decode cX11_leafRead 184 = .ok (.goto 29, 3) := by decide +kernel
theorem dX11_leafRead_187 : decode cX11_leafRead 187 = .ok (.aload_n 0, 1) := by decide +kernel
theorem dX11_leafRead_188 : decode cX11_leafRead 188 = .ok (.getfield 159, 3) := by decide +kernel
theorem dX11_leafRead_191 : decode cX11_leafRead 191 = .ok (.iconst 4, 1) := by decide +kernel
theorem dX11_leafRead_192 : decode cX11_leafRead 192 = .ok (.if_icmp .ne 7, 3) := by decide +kernel
theorem dX11_leafRead_195 : decode cX11_leafRead 195 = .ok (.iconst 1, 1) := by decide +kernel
theorem dX11_leafRead_196 : decode cX11_leafRead 196 = .ok (.goto 17, 3) := by decide +kernel
theorem dX11_leafRead_199 : decode cX11_leafRead 199 = .ok (.aload_n 0, 1) := by decide +kernel
theorem dX11_leafRead_200 : decode cX11_leafRead 200 = .ok (.getfield 159, 3) := by decide +kernel
theorem dX11_leafRead_203 : decode cX11_leafRead 203 = .ok (.bipush 23, 2) := by decide +kernel
theorem dX11_leafRead_205 : decode cX11_leafRead 205 = .ok (.if_icmp .ne 7, 3) := by decide +kernel
theorem dX11_leafRead_208 : decode cX11_leafRead 208 = .ok (.iconst 2, 1) := by decide +kernel
theorem dX11_leafRead_209 : decode cX11_leafRead 209 = .ok (.goto 4, 3) := by decide +kernel
theorem dX11_leafRead_212 : decode cX11_leafRead 212 = .ok (.iconst 3, 1) := by decide +kernel
theorem dX11_leafRead_213 : decode cX11_leafRead 213 = .ok (.iconst 0, 1) := by decide +kernel
theorem dX11_leafRead_214 : decode cX11_leafRead 214 = .ok (.iconst 0, 1) := by decide +kernel
theorem dX11_leafRead_215 : decode cX11_leafRead 215 = .ok (.invokevirtual 223, 3) := by decide +kernel
theorem dX11_leafRead_218 : decode cX11_leafRead 218 = .ok (.goto 13, 3) := by decide +kernel
theorem dX11_leafRead_221 : decode cX11_leafRead 221 = .ok (.aload_n 0, 1) := by decide +kernel
theorem dX11_leafRead_222 : decode cX11_leafRead 222 = .ok (.iconst 4, 1) := by decide +kernel
theorem dX11_leafRead_223 : decode cX11_leafRead 223 = .ok (.aload_n 0, 1) := by decide +kernel
theorem dX11_leafRead_224 : decode cX11_leafRead 224 = .ok (.getfield 159, 3) := by decide +kernel
theorem dX11_leafRead_227 : decode cX11_leafRead 227 = .ok (.iconst 0, 1) := by decide +kernel
theorem dX11_leafRead_228 : decode cX11_leafRead 228 = .ok (.invokevirtual 223, 3) := by decide +kernel
theorem dX11_leafRead_231 : decode cX11_leafRead 231 = .ok (.aload_n 0, 1) := by decide +kernel
theorem dX11_leafRead_232 : decode cX11_leafRead 232 = .ok (.iconst 1, 1) := by decide +kernel
theorem dX11_leafRead_233 : decode cX11_leafRead 233 = .ok (.putfield 237, 3) := by decide +kernel
theorem dX11_leafRead_236 : decode cX11_leafRead 236 = .ok (.aload_n 0, 1) := by decide +kernel
theorem dX11_leafRead_237 : decode cX11_leafRead 237 = .ok (.invokevirtual 181, 3) := by decide +kernel
theorem dX11_leafRead_240 : decode cX11_leafRead 240 = .ok (.iconst 1, 1) := by decide +kernel
theorem dX11_leafRead_241 : decode cX11_leafRead 241 = .ok (.ireturn, 1) := by decide +kernel
theorem dX11_signs_0 : decode cX11_signs 0 = .ok (.aload_n 0, 1) := by decide +kernel
theorem dX11_signs_1 : decode cX11_signs 1 = .ok (.bipush 22, 2) := by decide +kernel
theorem dX11_signs_3 : decode cX11_signs 3 = .ok (.invokevirtual 184, 3) := by decide +kernel
theorem dX11_signs_6 : decode cX11_signs 6 = .ok (.ifCond .ne 12, 3) := by decide +kernel
theorem dX11_signs_9 : decode cX11_signs 9 = .ok (.aload_n 0, 1) := by decide +kernel
theorem dX11_signs_10 : decode cX11_signs 10 = .ok (.bipush 21, 2) := by decide +kernel
theorem dX11_signs_12 : decode cX11_signs 12 = .ok (.invokevirtual 184, 3) := by decide +kernel
theorem dX11_signs_15 : decode cX11_signs 15 = .ok (.ifCond .eq 68, 3) := by decide +kernel
theorem dX11_signs_18 : decode cX11_signs 18 = .ok (.aload_n 0, 1) := by decide +kernel
theorem dX11_signs_19 : decode cX11_signs 19 = .ok (.getfield 159, 3) := by decide +kernel
theorem dX11_signs_22 : decode cX11_signs 22 = .ok (.bipush 22, 2) := by decide +kernel
theorem dX11_signs_24 : decode cX11_signs 24 = .ok (.if_icmp .ne 8, 3) := by decide +kernel
theorem dX11_signs_27 : decode cX11_signs 27 = .ok (.bipush 6, 2) := by decide +kernel
theorem dX11_signs_29 : decode cX11_signs 29 = .ok (.goto 5, 3) := by decide +kernel
theorem dX11_signs_32 : decode cX11_signs 32 = .ok (.bipush 7, 2) := by decide +kernel
theorem dX11_signs_34 : decode cX11_signs 34 = .ok (.istore_n 1, 1) := by decide +kernel
theorem dX11_signs_35 : decode cX11_signs 35 = .ok (.aload_n 0, 1) := by decide +kernel
theorem dX11_signs_36 : decode cX11_signs 36 = .ok (.invokevirtual 233, 3) := by decide +kernel
theorem dX11_signs_39 : decode cX11_signs 39 = .ok (.ifCond .ne 5, 3) := by decide +kernel
theorem dX11_signs_42 : decode cX11_signs 42 = .ok (.iconst 0, 1) := by decide +kernel
theorem dX11_signs_43 : decode cX11_signs 43 = .ok (.ireturn, 1) := by decide +kernel
theorem dX11_signs_44 : decode cX11_signs 44 = .ok (.aload_n 0, 1) := by decide +kernel
theorem dX11_signs_45 : decode cX11_signs 45 = .ok (.iload_n 1, 1) := by decide +kernel
theorem dX11_signs_46 : decode cX11_signs 46 = .ok (.invokestatic 215, 3) := by decide +kernel
theorem dX11_signs_49 : decode cX11_signs 49 = .ok (.invokevirtual 240, 3) := by decide +kernel
theorem dX11_signs_52 : decode cX11_signs 52 = .ok (.aload_n 0, 1) := by decide +kernel
theorem dX11_signs_53 : decode cX11_signs 53 = .ok (.getfield 63, 3) := by decide +kernel
theorem dX11_signs_56 : decode cX11_signs 56 = .ok (.aload_n 0, 1) := by decide +kernel
theorem dX11_signs_57 : decode cX11_signs 57 = .ok (.getfield 212, 3) := by decide +kernel
theorem dX11_signs_60 : decode cX11_signs 60 = .ok (.iload_n 1, 1) := by decide +kernel
theorem dX11_signs_61 : decode cX11_signs 61 = .ok (.iastore, 1) := by decide +kernel
theorem dX11_signs_62 : decode cX11_signs 62 = .ok (.aload_n 0, 1) := by decide +kernel
theorem dX11_signs_63 : decode cX11_signs 63 = .ok (.dup, 1) := by decide +kernel
theorem dX11_signs_64 : decode cX11_signs 64 = .ok (.getfield 212, 3) := by decide +kernel
theorem dX11_signs_67 : decode cX11_signs 67 = .ok (.iconst 1, 1) := by decide +kernel
theorem dX11_signs_68 : decode cX11_signs 68 = .ok (.iadd, 1) := by decide +kernel
theorem dX11_signs_69 : decode cX11_signs 69 = .ok (.putfield 212, 3) := by decide +kernel
theorem dX11_signs_72 : decode cX11_signs 72 = .ok (.aload_n 0, 1) := by decide +kernel
theorem dX11_signs_73 : decode cX11_signs 73 = .ok (.iconst 0, 1) := by decide +kernel
theorem dX11_signs_74 : decode cX11_signs 74 = .ok (.putfield 237, 3) := by decide +kernel
theorem dX11_signs_77 : decode cX11_signs 77 = .ok (.aload_n 0, 1) := by decide +kernel
theorem dX11_signs_78 : decode cX11_signs 78 = .ok (.invokevirtual 181, 3) := by decide +kernel
theorem dX11_signs_81 : decode cX11_signs 81 = .ok (.iconst 1, 1) := by decide +kernel
theorem dX11_signs_82 : decode cX11_signs 82 = .ok (.ireturn, 1) := by decide +kernel
theorem dX11_signs_83 : decode cX11_signs 83 = .ok (.aload_n 0, 1) := by decide +kernel
theorem dX11_signs_84 : decode cX11_signs 84 = .ok (.bipush 41, 2) := by decide +kernel
theorem dX11_signs_86 : decode cX11_signs 86 = .ok (.invokevirtual 175, 3) := by decide +kernel
theorem dX11_signs_89 : decode cX11_signs 89 = .ok (.ifCond .eq 10, 3) := by decide +kernel
theorem dX11_signs_92 : decode cX11_signs 92 = .ok (.aload_n 0, 1) := by decide +kernel
theorem dX11_signs_93 : decode cX11_signs 93 = .ok (.getfield 230, 3) := by decide +kernel
theorem dX11_signs_96 : decode cX11_signs 96 = .ok (.ifCond .ne 9, 3) := by decide +kernel
theorem dX11_signs_99 : decode cX11_signs 99 = .ok (.aload_n 0, 1) := by decide +kernel
theorem dX11_signs_100 : decode cX11_signs 100 = .ok (.iconst 1, 1) := by decide +kernel
theorem dX11_signs_101 : decode cX11_signs 101 = .ok (.invokevirtual 178, 3) := by decide +kernel
theorem dX11_signs_104 : decode cX11_signs 104 = .ok (.ireturn, 1) := by decide +kernel
theorem dX11_signs_105 : decode cX11_signs 105 = .ok (.aload_n 0, 1) := by decide +kernel
theorem dX11_signs_106 : decode cX11_signs 106 = .ok (.iconst 1, 1) := by decide +kernel
theorem dX11_signs_107 : decode cX11_signs 107 = .ok (.invokevirtual 240, 3) := by decide +kernel
theorem dX11_signs_110 : decode cX11_signs 110 = .ok (.aload_n 0, 1) := by decide +kernel
theorem dX11_signs_111 : decode cX11_signs 111 = .ok (.dup, 1) := by decide +kernel
theorem dX11_signs_112 : decode cX11_signs 112 = .ok (.getfield 212, 3) := by decide +kernel
theorem dX11_signs_115 : decode cX11_signs 115 = .ok (.iconst 1, 1) := by decide +kernel
theorem dX11_signs_116 : decode cX11_signs 116 = .ok (.isub, 1) := by decide +kernel
theorem dX11_signs_117 : decode cX11_signs 117 = .ok (.putfield 212, 3) := by decide +kernel
theorem dX11_signs_120 : decode cX11_signs 120 = .ok (.aload_n 0, 1) := by decide +kernel
theorem dX11_signs_121 : decode cX11_signs 121 = .ok (.dup, 1) := by decide +kernel
theorem dX11_signs_122 : decode cX11_signs 122 = .ok (.getfield 230, 3) := by decide +kernel
theorem dX11_signs_125 : decode cX11_signs 125 = .ok (.iconst 1, 1) := by decide +kernel
theorem dX11_signs_126 : decode cX11_signs 126 = .ok (.isub, 1) := by decide +kernel
theorem dX11_signs_127 : decode cX11_signs 127 = .ok (.putfield 230, 3) := by decide +kernel
theorem dX11_signs_130 : decode cX11_signs 130 = .ok (.aload_n 0, 1) := by decide +kernel
theorem dX11_signs_131 : decode cX11_signs 131 = .ok (.invokevirtual 181, 3) := by decide +kernel
theorem dX11_signs_134 : decode cX11_signs 134 = .ok (.iconst 1, 1) := by decide +kernel
theorem dX11_signs_135 : decode cX11_signs 135 = .ok (.ireturn, 1) := by decide +kernel
theorem dX11_partRead_0 : decode cX11_partRead 0 = .ok (.aload_n 0, 1) := by decide +kernel
theorem dX11_partRead_1 : decode cX11_partRead 1 = .ok (.iconst 0, 1) := by decide +kernel
theorem dX11_partRead_2 : decode cX11_partRead 2 = .ok (.putfield 212, 3) := by decide +kernel
theorem dX11_partRead_5 : decode cX11_partRead 5 = .ok (.aload_n 0, 1) := by decide +kernel
theorem dX11_partRead_6 : decode cX11_partRead 6 = .ok (.iconst 0, 1) := by decide +kernel
theorem dX11_partRead_7 : decode cX11_partRead 7 = .ok (.putfield 209, 3) := by decide +kernel
theorem dX11_partRead_10 : decode cX11_partRead 10 = .ok (.aload_n 0, 1) := by decide +kernel
theorem dX11_partRead_11 : decode cX11_partRead 11 = .ok (.iconst 0, 1) := by decide +kernel
theorem dX11_partRead_12 : decode cX11_partRead 12 = .ok (.putfield 230, 3) := by decide +kernel
theorem dX11_partRead_15 : decode cX11_partRead 15 = .ok (.aload_n 0, 1) := by decide +kernel
theorem dX11_partRead_16 : decode cX11_partRead 16 = .ok (.iconst 0, 1) := by decide +kernel
theorem dX11_partRead_17 : decode cX11_partRead 17 = .ok (.putfield 237, 3) := by decide +kernel
theorem dX11_partRead_20 : decode cX11_partRead 20 = .ok (.aload_n 0, 1) := by decide +kernel
theorem dX11_partRead_21 : decode cX11_partRead 21 = .ok (.getfield 45, 3) := by decide +kernel
theorem dX11_partRead_24 : decode cX11_partRead 24 = .ok (.bipush 24, 2) := by decide +kernel
theorem dX11_partRead_26 : decode cX11_partRead 26 = .ok (.iload_n 1, 1) := by decide +kernel
theorem dX11_partRead_27 : decode cX11_partRead 27 = .ok (.iadd, 1) := by decide +kernel
theorem dX11_partRead_28 : decode cX11_partRead 28 = .ok (.aload_n 0, 1) := by decide +kernel
theorem dX11_partRead_29 : decode cX11_partRead 29 = .ok (.getfield 206, 3) := by decide +kernel
theorem dX11_partRead_32 : decode cX11_partRead 32 = .ok (.iastore, 1) := by decide +kernel
theorem dX11_partRead_33 : decode cX11_partRead 33 = .ok (.aload_n 0, 1) := by decide +kernel
theorem dX11_partRead_34 : decode cX11_partRead 34 = .ok (.bipush 59, 2) := by decide +kernel
theorem dX11_partRead_36 : decode cX11_partRead 36 = .ok (.invokevirtual 175, 3) := by decide +kernel
theorem dX11_partRead_39 : decode cX11_partRead 39 = .ok (.ifCond .eq 17, 3) := by decide +kernel
theorem dX11_partRead_42 : decode cX11_partRead 42 = .ok (.aload_n 0, 1) := by decide +kernel
theorem dX11_partRead_43 : decode cX11_partRead 43 = .ok (.getfield 237, 3) := by decide +kernel
theorem dX11_partRead_46 : decode cX11_partRead 46 = .ok (.ifCond .eq 10, 3) := by decide +kernel
theorem dX11_partRead_49 : decode cX11_partRead 49 = .ok (.aload_n 0, 1) := by decide +kernel
theorem dX11_partRead_50 : decode cX11_partRead 50 = .ok (.getfield 230, 3) := by decide +kernel
theorem dX11_partRead_53 : decode cX11_partRead 53 = .ok (.ifCond .le 29, 3) := by decide +kernel
theorem dX11_partRead_56 : decode cX11_partRead 56 = .ok (.aload_n 0, 1) := by decide +kernel
theorem dX11_partRead_57 : decode cX11_partRead 57 = .ok (.getfield 237, 3) := by decide +kernel
theorem dX11_partRead_60 : decode cX11_partRead 60 = .ok (.ifCond .ne 13, 3) := by decide +kernel
theorem dX11_partRead_63 : decode cX11_partRead 63 = .ok (.aload_n 0, 1) := by decide +kernel
theorem dX11_partRead_64 : decode cX11_partRead 64 = .ok (.invokevirtual 244, 3) := by decide +kernel
theorem dX11_partRead_67 : decode cX11_partRead 67 = .ok (.ifCond .eq 13, 3) := by decide +kernel
theorem dX11_partRead_70 : decode cX11_partRead 70 = .ok (.goto (-37), 3) := by decide +kernel
theorem dX11_partRead_73 : decode cX11_partRead 73 = .ok (.aload_n 0, 1) := by decide +kernel
theorem dX11_partRead_74 : decode cX11_partRead 74 = .ok (.invokevirtual 247, 3) := by decide +kernel
theorem dX11_partRead_77 : decode cX11_partRead 77 = .ok (.ifCond .ne (-44), 3) := by decide +kernel
theorem dX11_partRead_80 : decode cX11_partRead 80 = .ok (.iconst 0, 1) := by decide +kernel
theorem dX11_partRead_81 : decode cX11_partRead 81 = .ok (.ireturn, 1) := by decide +kernel
theorem dX11_partRead_82 : decode cX11_partRead 82 = .ok (.aload_n 0, 1) := by decide +kernel
theorem dX11_partRead_83 : decode cX11_partRead 83 = .ok (.iconst 1, 1) := by decide +kernel
theorem dX11_partRead_84 : decode cX11_partRead 84 = .ok (.invokevirtual 240, 3) := by decide +kernel
theorem dX11_partRead_87 : decode cX11_partRead 87 = .ok (.aload_n 0, 1) := by decide +kernel
theorem dX11_partRead_88 : decode cX11_partRead 88 = .ok (.getfield 48, 3) := by decide +kernel
theorem dX11_partRead_91 : decode cX11_partRead 91 = .ok (.bipush 24, 2) := by decide +kernel
theorem dX11_partRead_93 : decode cX11_partRead 93 = .ok (.iload_n 1, 1) := by decide +kernel
theorem dX11_partRead_94 : decode cX11_partRead 94 = .ok (.iadd, 1) := by decide +kernel
theorem dX11_partRead_95 : decode cX11_partRead 95 = .ok (.aload_n 0, 1) := by decide +kernel
theorem dX11_partRead_96 : decode cX11_partRead 96 = .ok (.getfield 206, 3) := by decide +kernel
theorem dX11_partRead_99 : decode cX11_partRead 99 = .ok (.iastore, 1) := by decide +kernel
theorem dX11_partRead_100 : decode cX11_partRead 100 = .ok (.aload_n 0, 1) := by decide +kernel
theorem dX11_partRead_101 : decode cX11_partRead 101 = .ok (.invokevirtual 181, 3) := by decide +kernel
theorem dX11_partRead_104 : decode cX11_partRead 104 = .ok (.iconst 1, 1) := by decide +kernel
theorem dX11_partRead_105 : decode cX11_partRead 105 = .ok (.ireturn, 1) := by decide +kernel
theorem dX11_relayRead_0 : decode cX11_relayRead 0 = .ok (.iconst 0, 1) := by decide +kernel
theorem dX11_relayRead_1 : decode cX11_relayRead 1 = .ok (.istore_n 2, 1) := by decide +kernel
theorem dX11_relayRead_2 : decode cX11_relayRead 2 = .ok (.iload_n 2, 1) := by decide +kernel
theorem dX11_relayRead_3 : decode cX11_relayRead 3 = .ok (.aload_n 0, 1) := by decide +kernel
theorem dX11_relayRead_4 : decode cX11_relayRead 4 = .ok (.getfield 250, 3) := by decide +kernel
theorem dX11_relayRead_7 : decode cX11_relayRead 7 = .ok (.if_icmp .ge 24, 3) := by decide +kernel
theorem dX11_relayRead_10 : decode cX11_relayRead 10 = .ok (.aload_n 0, 1) := by decide +kernel
theorem dX11_relayRead_11 : decode cX11_relayRead 11 = .ok (.getfield 42, 3) := by decide +kernel
theorem dX11_relayRead_14 : decode cX11_relayRead 14 = .ok (.bipush 20, 2) := by decide +kernel
theorem dX11_relayRead_16 : decode cX11_relayRead 16 = .ok (.iload_n 2, 1) := by decide +kernel
theorem dX11_relayRead_17 : decode cX11_relayRead 17 = .ok (.iadd, 1) := by decide +kernel
theorem dX11_relayRead_18 : decode cX11_relayRead 18 = .ok (.iaload, 1) := by decide +kernel
theorem dX11_relayRead_19 : decode cX11_relayRead 19 = .ok (.iload_n 1, 1) := by decide +kernel
theorem dX11_relayRead_20 : decode cX11_relayRead 20 = .ok (.if_icmp .ne 5, 3) := by decide +kernel
theorem dX11_relayRead_23 : decode cX11_relayRead 23 = .ok (.iload_n 2, 1) := by decide +kernel
theorem dX11_relayRead_24 : decode cX11_relayRead 24 = .ok (.ireturn, 1) := by decide +kernel
theorem dX11_relayRead_25 : decode cX11_relayRead 25 = .ok (.iinc 2 1, 3) := by decide +kernel
theorem dX11_relayRead_28 : decode cX11_relayRead 28 = .ok (.goto (-26), 3) := by decide +kernel
theorem dX11_relayRead_31 : decode cX11_relayRead 31 = .ok (.iconst (-1), 1) := by decide +kernel
theorem dX11_relayRead_32 : decode cX11_relayRead 32 = .ok (.ireturn, 1) := by decide +kernel
theorem dX11_netLine_0 : decode cX11_netLine 0 = .ok (.aload_n 0, 1) := by decide +kernel
theorem dX11_netLine_1 : decode cX11_netLine 1 = .ok (.bipush 20, 2) := by decide +kernel
theorem dX11_netLine_3 : decode cX11_netLine 3 = .ok (.invokevirtual 184, 3) := by decide +kernel
theorem dX11_netLine_6 : decode cX11_netLine 6 = .ok (.ifCond .eq 84, 3) := by decide +kernel
theorem dX11_netLine_9 : decode cX11_netLine 9 = .ok (.aload_n 0, 1) := by decide +kernel
theorem dX11_netLine_10 : decode cX11_netLine 10 = .ok (.getfield 250, 3) := by decide +kernel
theorem dX11_netLine_13 : decode cX11_netLine 13 = .ok (.bipush 20, 2) := by decide +kernel
theorem dX11_netLine_15 : decode cX11_netLine 15 = .ok (.if_icmp .ne 9, 3) := by decide +kernel
theorem dX11_netLine_18 : decode cX11_netLine 18 = .ok (.aload_n 0, 1) := by decide +kernel
theorem dX11_netLine_19 : decode cX11_netLine 19 = .ok (.iconst 2, 1) := by decide +kernel
theorem dX11_netLine_20 : decode cX11_netLine 20 = .ok (.invokevirtual 178, 3) := by decide +kernel
theorem dX11_netLine_23 : decode cX11_netLine 23 = .ok (.ireturn, 1) := by decide +kernel
theorem dX11_netLine_24 : decode cX11_netLine 24 = .ok (.aload_n 0, 1) := by decide +kernel
theorem dX11_netLine_25 : decode cX11_netLine 25 = .ok (.invokevirtual 181, 3) := by decide +kernel
theorem dX11_netLine_28 : decode cX11_netLine 28 = .ok (.aload_n 0, 1) := by decide +kernel
theorem dX11_netLine_29 : decode cX11_netLine 29 = .ok (.getfield 148, 3) := by decide +kernel
theorem dX11_netLine_32 : decode cX11_netLine 32 = .ok (.iconst 2, 1) := by decide +kernel
theorem dX11_netLine_33 : decode cX11_netLine 33 = .ok (.if_icmp .eq 9, 3) := by decide +kernel
theorem dX11_netLine_36 : decode cX11_netLine 36 = .ok (.aload_n 0, 1) := by decide +kernel
theorem dX11_netLine_37 : decode cX11_netLine 37 = .ok (.iconst 1, 1) := by decide +kernel
theorem dX11_netLine_38 : decode cX11_netLine 38 = .ok (.invokevirtual 178, 3) := by decide +kernel
theorem dX11_netLine_41 : decode cX11_netLine 41 = .ok (.ireturn, 1) := by decide +kernel
theorem dX11_netLine_42 : decode cX11_netLine 42 = .ok (.aload_n 0, 1) := by decide +kernel
theorem dX11_netLine_43 : decode cX11_netLine 43 = .ok (.aload_n 0, 1) := by decide +kernel
theorem dX11_netLine_44 : decode cX11_netLine 44 = .ok (.getfield 159, 3) := by decide +kernel
theorem dX11_netLine_47 : decode cX11_netLine 47 = .ok (.invokevirtual 253, 3) := by decide +kernel
theorem dX11_netLine_50 : decode cX11_netLine 50 = .ok (.ifCond .lt 9, 3) := by decide +kernel
theorem dX11_netLine_53 : decode cX11_netLine 53 = .ok (.aload_n 0, 1) := by decide +kernel
theorem dX11_netLine_54 : decode cX11_netLine 54 = .ok (.iconst 3, 1) := by decide +kernel
theorem dX11_netLine_55 : decode cX11_netLine 55 = .ok (.invokevirtual 178, 3) := by decide +kernel
theorem dX11_netLine_58 : decode cX11_netLine 58 = .ok (.ireturn, 1) := by decide +kernel
theorem dX11_netLine_59 : decode cX11_netLine 59 = .ok (.aload_n 0, 1) := by decide +kernel
theorem dX11_netLine_60 : decode cX11_netLine 60 = .ok (.getfield 250, 3) := by decide +kernel
theorem dX11_netLine_63 : decode cX11_netLine 63 = .ok (.istore_n 1, 1) := by decide +kernel
theorem dX11_netLine_64 : decode cX11_netLine 64 = .ok (.aload_n 0, 1) := by decide +kernel
theorem dX11_netLine_65 : decode cX11_netLine 65 = .ok (.getfield 42, 3) := by decide +kernel
theorem dX11_netLine_68 : decode cX11_netLine 68 = .ok (.bipush 20, 2) := by decide +kernel
theorem dX11_netLine_70 : decode cX11_netLine 70 = .ok (.iload_n 1, 1) := by decide +kernel
theorem dX11_netLine_71 : decode cX11_netLine 71 = .ok (.iadd, 1) := by decide +kernel
theorem dX11_netLine_72 : decode cX11_netLine 72 = .ok (.aload_n 0, 1) := by decide +kernel
theorem dX11_netLine_73 : decode cX11_netLine 73 = .ok (.getfield 159, 3) := by decide +kernel
theorem dX11_netLine_76 : decode cX11_netLine 76 = .ok (.iastore, 1) := by decide +kernel
theorem dX11_netLine_77 : decode cX11_netLine 77 = .ok (.aload_n 0, 1) := by decide +kernel
theorem dX11_netLine_78 : decode cX11_netLine 78 = .ok (.dup, 1) := by decide +kernel
theorem dX11_netLine_79 : decode cX11_netLine 79 = .ok (.getfield 250, 3) := by decide +kernel
theorem dX11_netLine_82 : decode cX11_netLine 82 = .ok (.iconst 1, 1) := by decide +kernel
theorem dX11_netLine_83 : decode cX11_netLine 83 = .ok (.iadd, 1) := by decide +kernel
theorem dX11_netLine_84 : decode cX11_netLine 84 = .ok (.putfield 250, 3) := by decide +kernel
theorem dX11_netLine_87 : decode cX11_netLine 87 = .ok (.goto 108, 3) := by decide +kernel
theorem dX11_netLine_90 : decode cX11_netLine 90 = .ok (.aload_n 0, 1) := by decide +kernel
theorem dX11_netLine_91 : decode cX11_netLine 91 = .ok (.bipush 14, 2) := by decide +kernel
theorem dX11_netLine_93 : decode cX11_netLine 93 = .ok (.invokevirtual 184, 3) := by decide +kernel
theorem dX11_netLine_96 : decode cX11_netLine 96 = .ok (.ifCond .ne 30, 3) := by decide +kernel
theorem dX11_netLine_99 : decode cX11_netLine 99 = .ok (.aload_n 0, 1) := by decide +kernel
theorem dX11_netLine_100 : decode cX11_netLine 100 = .ok (.bipush 10, 2) := by decide +kernel
theorem dX11_netLine_102 : decode cX11_netLine 102 = .ok (.invokevirtual 184, 3) := by decide +kernel
theorem dX11_netLine_105 : decode cX11_netLine 105 = .ok (.ifCond .ne 21, 3) := by decide +kernel
theorem dX11_netLine_108 : decode cX11_netLine 108 = .ok (.aload_n 0, 1) := by decide +kernel
theorem dX11_netLine_109 : decode cX11_netLine 109 = .ok (.bipush 9, 2) := by decide +kernel
theorem dX11_netLine_111 : decode cX11_netLine 111 = .ok (.invokevirtual 184, 3) := by decide +kernel
theorem dX11_netLine_114 : decode cX11_netLine 114 = .ok (.ifCond .ne 12, 3) := by decide +kernel
theorem dX11_netLine_117 : decode cX11_netLine 117 = .ok (.aload_n 0, 1) := by decide +kernel
theorem dX11_netLine_118 : decode cX11_netLine 118 = .ok (.bipush 13, 2) := by decide +kernel
theorem dX11_netLine_120 : decode cX11_netLine 120 = .ok (.invokevirtual 184, 3) := by decide +kernel
theorem dX11_netLine_123 : decode cX11_netLine 123 = .ok (.ifCond .eq 66, 3) := by decide +kernel
theorem dX11_netLine_126 : decode cX11_netLine 126 = .ok (.aload_n 0, 1) := by decide +kernel
theorem dX11_netLine_127 : decode cX11_netLine 127 = .ok (.getfield 159, 3) := by decide +kernel
theorem dX11_netLine_130 : decode cX11_netLine 130 = .ok (.bipush 14, 2) := by decide +kernel
theorem dX11_netLine_132 : decode cX11_netLine 132 = .ok (.if_icmp .ne 8, 3) := by decide +kernel
theorem dX11_netLine_135 : decode cX11_netLine 135 = .ok (.bipush 20, 2) := by decide +kernel
theorem dX11_netLine_137 : decode cX11_netLine 137 = .ok (.goto 33, 3) := by decide +kernel
theorem dX11_netLine_140 : decode cX11_netLine 140 = .ok (.aload_n 0, 1) := by decide +kernel
theorem dX11_netLine_141 : decode cX11_netLine 141 = .ok (.getfield 159, 3) := by decide +kernel
theorem dX11_netLine_144 : decode cX11_netLine 144 = .ok (.bipush 10, 2) := by decide +kernel
theorem dX11_netLine_146 : decode cX11_netLine 146 = .ok (.if_icmp .ne 8, 3) := by decide +kernel
theorem dX11_netLine_149 : decode cX11_netLine 149 = .ok (.bipush 21, 2) := by decide +kernel
theorem dX11_netLine_151 : decode cX11_netLine 151 = .ok (.goto 19, 3) := by decide +kernel
theorem dX11_netLine_154 : decode cX11_netLine 154 = .ok (.aload_n 0, 1) := by decide +kernel
theorem dX11_netLine_155 : decode cX11_netLine 155 = .ok (.getfield 159, 3) := by decide +kernel
theorem dX11_netLine_158 : decode cX11_netLine 158 = .ok (.bipush 9, 2) := by decide +kernel
theorem dX11_netLine_160 : decode cX11_netLine 160 = .ok (.if_icmp .ne 8, 3) := by decide +kernel
theorem dX11_netLine_163 : decode cX11_netLine 163 = .ok (.bipush 22, 2) := by decide +kernel
theorem dX11_netLine_165 : decode cX11_netLine 165 = .ok (.goto 5, 3) := by decide +kernel
theorem dX11_netLine_168 : decode cX11_netLine 168 = .ok (.bipush 23, 2) := by decide +kernel
theorem dX11_netLine_170 : decode cX11_netLine 170 = .ok (.istore_n 1, 1) := by decide +kernel
theorem dX11_netLine_171 : decode cX11_netLine 171 = .ok (.aload_n 0, 1) := by decide +kernel
theorem dX11_netLine_172 : decode cX11_netLine 172 = .ok (.getfield 48, 3) := by decide +kernel
theorem dX11_netLine_175 : decode cX11_netLine 175 = .ok (.bipush 24, 2) := by decide +kernel
theorem dX11_netLine_177 : decode cX11_netLine 177 = .ok (.iload_n 1, 1) := by decide +kernel
theorem dX11_netLine_178 : decode cX11_netLine 178 = .ok (.iadd, 1) := by decide +kernel
theorem dX11_netLine_179 : decode cX11_netLine 179 = .ok (.iaload, 1) := by decide +kernel
theorem dX11_netLine_180 : decode cX11_netLine 180 = .ok (.ifCond .le 15, 3) := by decide +kernel
theorem dX11_netLine_183 : decode cX11_netLine 183 = .ok (.aload_n 0, 1) := by decide +kernel
theorem dX11_netLine_184 : decode cX11_netLine 184 = .ok (.iconst 3, 1) := by decide +kernel
theorem dX11_netLine_185 : decode cX11_netLine 185 = .ok (.invokevirtual 178, 3) := by decide +kernel
theorem dX11_netLine_188 : decode cX11_netLine 188 = .ok (.ireturn, 1) := by decide +kernel
theorem dX11_netLine_189 : decode cX11_netLine 189 = .ok (.aload_n 0, 1) := by decide +kernel
theorem dX11_netLine_190 : decode cX11_netLine 190 = .ok (.iconst 1, 1) := by decide +kernel
theorem dX11_netLine_191 : decode cX11_netLine 191 = .ok (.invokevirtual 178, 3) := by decide +kernel
theorem dX11_netLine_194 : decode cX11_netLine 194 = .ok (.ireturn, 1) := by decide +kernel
theorem dX11_netLine_195 : decode cX11_netLine 195 = .ok (.aload_n 0, 1) := by decide +kernel
theorem dX11_netLine_196 : decode cX11_netLine 196 = .ok (.invokevirtual 181, 3) := by decide +kernel
theorem dX11_netLine_199 : decode cX11_netLine 199 = .ok (.aload_n 0, 1) := by decide +kernel
theorem dX11_netLine_200 : decode cX11_netLine 200 = .ok (.bipush 61, 2) := by decide +kernel
theorem dX11_netLine_202 : decode cX11_netLine 202 = .ok (.invokevirtual 256, 3) := by decide +kernel
theorem dX11_netLine_205 : decode cX11_netLine 205 = .ok (.ifCond .eq 15, 3) := by decide +kernel
theorem dX11_netLine_208 : decode cX11_netLine 208 = .ok (.aload_n 0, 1) := by decide +kernel
theorem dX11_netLine_209 : decode cX11_netLine 209 = .ok (.iload_n 1, 1) := by decide +kernel
theorem dX11_netLine_210 : decode cX11_netLine 210 = .ok (.invokevirtual 259, 3) := by decide +kernel
theorem dX11_netLine_213 : decode cX11_netLine 213 = .ok (.ifCond .eq 7, 3) := by decide +kernel
theorem dX11_netLine_216 : decode cX11_netLine 216 = .ok (.iconst 1, 1) := by decide +kernel
theorem dX11_netLine_217 : decode cX11_netLine 217 = .ok (.goto 4, 3) := by decide +kernel
theorem dX11_netLine_220 : decode cX11_netLine 220 = .ok (.iconst 0, 1) := by decide +kernel
theorem dX11_netLine_221 : decode cX11_netLine 221 = .ok (.ireturn, 1) := by decide +kernel
theorem dX11_net_0 : decode cX11_net 0 = .ok (.aload_n 0, 1) := by decide +kernel
theorem dX11_net_1 : decode cX11_net 1 = .ok (.iconst 0, 1) := by decide +kernel
theorem dX11_net_2 : decode cX11_net 2 = .ok (.putfield 130, 3) := by decide +kernel
theorem dX11_net_5 : decode cX11_net 5 = .ok (.aload_n 0, 1) := by decide +kernel
theorem dX11_net_6 : decode cX11_net 6 = .ok (.iload_n 1, 1) := by decide +kernel
theorem dX11_net_7 : decode cX11_net 7 = .ok (.iconst 1, 1) := by decide +kernel
theorem dX11_net_8 : decode cX11_net 8 = .ok (.invokevirtual 196, 3) := by decide +kernel
theorem dX11_net_11 : decode cX11_net 11 = .ok (.ifCond .ne 6, 3) := by decide +kernel
theorem dX11_net_14 : decode cX11_net 14 = .ok (.bipush (-2), 2) := by decide +kernel
theorem dX11_net_16 : decode cX11_net 16 = .ok (.ireturn, 1) := by decide +kernel
theorem dX11_net_17 : decode cX11_net 17 = .ok (.aload_n 0, 1) := by decide +kernel
theorem dX11_net_18 : decode cX11_net 18 = .ok (.iconst 0, 1) := by decide +kernel
theorem dX11_net_19 : decode cX11_net 19 = .ok (.putfield 250, 3) := by decide +kernel
theorem dX11_net_22 : decode cX11_net 22 = .ok (.aload_n 0, 1) := by decide +kernel
theorem dX11_net_23 : decode cX11_net 23 = .ok (.iconst 0, 1) := by decide +kernel
theorem dX11_net_24 : decode cX11_net 24 = .ok (.putfield 206, 3) := by decide +kernel
theorem dX11_net_27 : decode cX11_net 27 = .ok (.aload_n 0, 1) := by decide +kernel
theorem dX11_net_28 : decode cX11_net 28 = .ok (.iconst 0, 1) := by decide +kernel
theorem dX11_net_29 : decode cX11_net 29 = .ok (.putfield 227, 3) := by decide +kernel
theorem dX11_net_32 : decode cX11_net 32 = .ok (.iconst 0, 1) := by decide +kernel
theorem dX11_net_33 : decode cX11_net 33 = .ok (.istore_n 2, 1) := by decide +kernel
theorem dX11_net_34 : decode cX11_net 34 = .ok (.iload_n 2, 1) := by decide +kernel
theorem dX11_net_35 : decode cX11_net 35 = .ok (.bipush 24, 2) := by decide +kernel
theorem dX11_net_37 : decode cX11_net 37 = .ok (.if_icmp .ge 29, 3) := by decide +kernel
theorem dX11_net_40 : decode cX11_net 40 = .ok (.aload_n 0, 1) := by decide +kernel
theorem dX11_net_41 : decode cX11_net 41 = .ok (.getfield 45, 3) := by decide +kernel
theorem dX11_net_44 : decode cX11_net 44 = .ok (.bipush 24, 2) := by decide +kernel
theorem dX11_net_46 : decode cX11_net 46 = .ok (.iload_n 2, 1) := by decide +kernel
theorem dX11_net_47 : decode cX11_net 47 = .ok (.iadd, 1) := by decide +kernel
theorem dX11_net_48 : decode cX11_net 48 = .ok (.iconst 0, 1) := by decide +kernel
theorem dX11_net_49 : decode cX11_net 49 = .ok (.iastore, 1) := by decide +kernel
theorem dX11_net_50 : decode cX11_net 50 = .ok (.aload_n 0, 1) := by decide +kernel
theorem dX11_net_51 : decode cX11_net 51 = .ok (.getfield 48, 3) := by decide +kernel
theorem dX11_net_54 : decode cX11_net 54 = .ok (.bipush 24, 2) := by decide +kernel
theorem dX11_net_56 : decode cX11_net 56 = .ok (.iload_n 2, 1) := by decide +kernel
theorem dX11_net_57 : decode cX11_net 57 = .ok (.iadd, 1) := by decide +kernel
theorem dX11_net_58 : decode cX11_net 58 = .ok (.iconst 0, 1) := by decide +kernel
theorem dX11_net_59 : decode cX11_net 59 = .ok (.iastore, 1) := by decide +kernel
theorem dX11_net_60 : decode cX11_net 60 = .ok (.iinc 2 1, 3) := by decide +kernel
theorem dX11_net_63 : decode cX11_net 63 = .ok (.goto (-29), 3) := by decide +kernel
theorem dX11_net_66 : decode cX11_net 66 = .ok (.aload_n 0, 1) := by decide +kernel
theorem dX11_net_67 : decode cX11_net 67 = .ok (.getfield 148, 3) := by decide +kernel
theorem dX11_net_70 : decode cX11_net 70 = .ok (.ifCond .eq 12, 3) := by decide +kernel
theorem dX11_net_73 : decode cX11_net 73 = .ok (.aload_n 0, 1) := by decide +kernel
theorem dX11_net_74 : decode cX11_net 74 = .ok (.invokevirtual 262, 3) := by decide +kernel
theorem dX11_net_77 : decode cX11_net 77 = .ok (.ifCond .ne (-11), 3) := by decide +kernel
theorem dX11_net_80 : decode cX11_net 80 = .ok (.iconst (-1), 1) := by decide +kernel
theorem dX11_net_81 : decode cX11_net 81 = .ok (.ireturn, 1) := by decide +kernel
theorem dX11_net_82 : decode cX11_net 82 = .ok (.bipush 64, 2) := by decide +kernel
theorem dX11_net_84 : decode cX11_net 84 = .ok (.istore_n 2, 1) := by decide +kernel
theorem dX11_net_85 : decode cX11_net 85 = .ok (.iload_n 2, 1) := by decide +kernel
theorem dX11_net_86 : decode cX11_net 86 = .ok (.bipush 64, 2) := by decide +kernel
theorem dX11_net_88 : decode cX11_net 88 = .ok (.aload_n 0, 1) := by decide +kernel
theorem dX11_net_89 : decode cX11_net 89 = .ok (.getfield 206, 3) := by decide +kernel
theorem dX11_net_92 : decode cX11_net 92 = .ok (.iadd, 1) := by decide +kernel
theorem dX11_net_93 : decode cX11_net 93 = .ok (.if_icmp .ge 63, 3) := by decide +kernel
theorem dX11_net_96 : decode cX11_net 96 = .ok (.aload_n 0, 1) := by decide +kernel
theorem dX11_net_97 : decode cX11_net 97 = .ok (.getfield 51, 3) := by decide +kernel
theorem dX11_net_100 : decode cX11_net 100 = .ok (.iload_n 2, 1) := by decide +kernel
theorem dX11_net_101 : decode cX11_net 101 = .ok (.iaload, 1) := by decide +kernel
theorem dX11_net_102 : decode cX11_net 102 = .ok (.iconst 4, 1) := by decide +kernel
theorem dX11_net_103 : decode cX11_net 103 = .ok (.if_icmp .eq 6, 3) := by decide +kernel
theorem dX11_net_106 : decode cX11_net 106 = .ok (.goto 44, 3) := by decide +kernel
theorem dX11_net_109 : decode cX11_net 109 = .ok (.aload_n 0, 1) := by decide +kernel
theorem dX11_net_110 : decode cX11_net 110 = .ok (.aload_n 0, 1) := by decide +kernel
theorem dX11_net_111 : decode cX11_net 111 = .ok (.getfield 54, 3) := by decide +kernel
theorem dX11_net_114 : decode cX11_net 114 = .ok (.iload_n 2, 1) := by decide +kernel
theorem dX11_net_115 : decode cX11_net 115 = .ok (.iaload, 1) := by decide +kernel
theorem dX11_net_116 : decode cX11_net 116 = .ok (.invokevirtual 253, 3) := by decide +kernel
theorem dX11_net_119 : decode cX11_net 119 = .ok (.istore_n 3, 1) := by decide +kernel
theorem dX11_net_120 : decode cX11_net 120 = .ok (.iload_n 3, 1) := by decide +kernel
theorem dX11_net_121 : decode cX11_net 121 = .ok (.ifCond .ge 22, 3) := by decide +kernel
theorem dX11_net_124 : decode cX11_net 124 = .ok (.aload_n 0, 1) := by decide +kernel
theorem dX11_net_125 : decode cX11_net 125 = .ok (.aload_n 0, 1) := by decide +kernel
theorem dX11_net_126 : decode cX11_net 126 = .ok (.getfield 60, 3) := by decide +kernel
theorem dX11_net_129 : decode cX11_net 129 = .ok (.iload_n 2, 1) := by decide +kernel
theorem dX11_net_130 : decode cX11_net 130 = .ok (.iaload, 1) := by decide +kernel
theorem dX11_net_131 : decode cX11_net 131 = .ok (.putfield 139, 3) := by decide +kernel
theorem dX11_net_134 : decode cX11_net 134 = .ok (.aload_n 0, 1) := by decide +kernel
theorem dX11_net_135 : decode cX11_net 135 = .ok (.iconst 4, 1) := by decide +kernel
theorem dX11_net_136 : decode cX11_net 136 = .ok (.invokevirtual 178, 3) := by decide +kernel
theorem dX11_net_139 : decode cX11_net 139 = .ok (.istore 4, 2) := by decide +kernel
theorem dX11_net_141 : decode cX11_net 141 = .ok (.iconst (-1), 1) := by decide +kernel
theorem dX11_net_142 : decode cX11_net 142 = .ok (.ireturn, 1) := by decide +kernel
theorem dX11_net_143 : decode cX11_net 143 = .ok (.aload_n 0, 1) := by decide +kernel
theorem dX11_net_144 : decode cX11_net 144 = .ok (.getfield 54, 3) := by decide +kernel
theorem dX11_net_147 : decode cX11_net 147 = .ok (.iload_n 2, 1) := by decide +kernel
theorem dX11_net_148 : decode cX11_net 148 = .ok (.iload_n 3, 1) := by decide +kernel
theorem dX11_net_149 : decode cX11_net 149 = .ok (.iastore, 1) := by decide +kernel
theorem dX11_net_150 : decode cX11_net 150 = .ok (.iinc 2 1, 3) := by decide +kernel
theorem dX11_net_153 : decode cX11_net 153 = .ok (.goto (-68), 3) := by decide +kernel
theorem dX11_net_156 : decode cX11_net 156 = .ok (.aload_n 0, 1) := by decide +kernel
theorem dX11_net_157 : decode cX11_net 157 = .ok (.aload_n 0, 1) := by decide +kernel
theorem dX11_net_158 : decode cX11_net 158 = .ok (.getfield 250, 3) := by decide +kernel
theorem dX11_net_161 : decode cX11_net 161 = .ok (.putfield 265, 3) := by decide +kernel
theorem dX11_net_164 : decode cX11_net 164 = .ok (.aload_n 0, 1) := by decide +kernel
theorem dX11_net_165 : decode cX11_net 165 = .ok (.aload_n 0, 1) := by decide +kernel
theorem dX11_net_166 : decode cX11_net 166 = .ok (.getfield 206, 3) := by decide +kernel
theorem dX11_net_169 : decode cX11_net 169 = .ok (.putfield 268, 3) := by decide +kernel
theorem dX11_net_172 : decode cX11_net 172 = .ok (.iconst 0, 1) := by decide +kernel
theorem dX11_net_173 : decode cX11_net 173 = .ok (.istore_n 2, 1) := by decide +kernel
theorem dX11_net_174 : decode cX11_net 174 = .ok (.iload_n 2, 1) := by decide +kernel
theorem dX11_net_175 : decode cX11_net 175 = .ok (.bipush 64, 2) := by decide +kernel
theorem dX11_net_177 : decode cX11_net 177 = .ok (.if_icmp .ge 54, 3) := by decide +kernel
theorem dX11_net_180 : decode cX11_net 180 = .ok (.aload_n 0, 1) := by decide +kernel
theorem dX11_net_181 : decode cX11_net 181 = .ok (.getfield 51, 3) := by decide +kernel
theorem dX11_net_184 : decode cX11_net 184 = .ok (.iload_n 2, 1) := by decide +kernel
theorem dX11_net_185 : decode cX11_net 185 = .ok (.aload_n 0, 1) := by decide +kernel
theorem dX11_net_186 : decode cX11_net 186 = .ok (.getfield 51, 3) := by decide +kernel
theorem dX11_net_189 : decode cX11_net 189 = .ok (.bipush 64, 2) := by decide +kernel
theorem dX11_net_191 : decode cX11_net 191 = .ok (.iload_n 2, 1) := by decide +kernel
theorem dX11_net_192 : decode cX11_net 192 = .ok (.iadd, 1) := by decide +kernel
theorem dX11_net_193 : decode cX11_net 193 = .ok (.iaload, 1) := by decide +kernel
theorem dX11_net_194 : decode cX11_net 194 = .ok (.iastore, 1) := by decide +kernel
theorem dX11_net_195 : decode cX11_net 195 = .ok (.aload_n 0, 1) := by decide +kernel
theorem dX11_net_196 : decode cX11_net 196 = .ok (.getfield 54, 3) := by decide +kernel
theorem dX11_net_199 : decode cX11_net 199 = .ok (.iload_n 2, 1) := by decide +kernel
theorem dX11_net_200 : decode cX11_net 200 = .ok (.aload_n 0, 1) := by decide +kernel
theorem dX11_net_201 : decode cX11_net 201 = .ok (.getfield 54, 3) := by decide +kernel
theorem dX11_net_204 : decode cX11_net 204 = .ok (.bipush 64, 2) := by decide +kernel
theorem dX11_net_206 : decode cX11_net 206 = .ok (.iload_n 2, 1) := by decide +kernel
theorem dX11_net_207 : decode cX11_net 207 = .ok (.iadd, 1) := by decide +kernel
theorem dX11_net_208 : decode cX11_net 208 = .ok (.iaload, 1) := by decide +kernel
theorem dX11_net_209 : decode cX11_net 209 = .ok (.iastore, 1) := by decide +kernel
theorem dX11_net_210 : decode cX11_net 210 = .ok (.aload_n 0, 1) := by decide +kernel
theorem dX11_net_211 : decode cX11_net 211 = .ok (.getfield 57, 3) := by decide +kernel
theorem dX11_net_214 : decode cX11_net 214 = .ok (.iload_n 2, 1) := by decide +kernel
theorem dX11_net_215 : decode cX11_net 215 = .ok (.aload_n 0, 1) := by decide +kernel
theorem dX11_net_216 : decode cX11_net 216 = .ok (.getfield 57, 3) := by decide +kernel
theorem dX11_net_219 : decode cX11_net 219 = .ok (.bipush 64, 2) := by decide +kernel
theorem dX11_net_221 : decode cX11_net 221 = .ok (.iload_n 2, 1) := by decide +kernel
theorem dX11_net_222 : decode cX11_net 222 = .ok (.iadd, 1) := by decide +kernel
theorem dX11_net_223 : decode cX11_net 223 = .ok (.iaload, 1) := by decide +kernel
theorem dX11_net_224 : decode cX11_net 224 = .ok (.iastore, 1) := by decide +kernel
theorem dX11_net_225 : decode cX11_net 225 = .ok (.iinc 2 1, 3) := by decide +kernel
theorem dX11_net_228 : decode cX11_net 228 = .ok (.goto (-54), 3) := by decide +kernel
theorem dX11_net_231 : decode cX11_net 231 = .ok (.iconst 0, 1) := by decide +kernel
theorem dX11_net_232 : decode cX11_net 232 = .ok (.istore_n 2, 1) := by decide +kernel
theorem dX11_net_233 : decode cX11_net 233 = .ok (.iload_n 2, 1) := by decide +kernel
theorem dX11_net_234 : decode cX11_net 234 = .ok (.bipush 24, 2) := by decide +kernel
theorem dX11_net_236 : decode cX11_net 236 = .ok (.if_icmp .ge 39, 3) := by decide +kernel
theorem dX11_net_239 : decode cX11_net 239 = .ok (.aload_n 0, 1) := by decide +kernel
theorem dX11_net_240 : decode cX11_net 240 = .ok (.getfield 45, 3) := by decide +kernel
theorem dX11_net_243 : decode cX11_net 243 = .ok (.iload_n 2, 1) := by decide +kernel
theorem dX11_net_244 : decode cX11_net 244 = .ok (.aload_n 0, 1) := by decide +kernel
theorem dX11_net_245 : decode cX11_net 245 = .ok (.getfield 45, 3) := by decide +kernel
theorem dX11_net_248 : decode cX11_net 248 = .ok (.bipush 24, 2) := by decide +kernel
theorem dX11_net_250 : decode cX11_net 250 = .ok (.iload_n 2, 1) := by decide +kernel
theorem dX11_net_251 : decode cX11_net 251 = .ok (.iadd, 1) := by decide +kernel
theorem dX11_net_252 : decode cX11_net 252 = .ok (.iaload, 1) := by decide +kernel
theorem dX11_net_253 : decode cX11_net 253 = .ok (.iastore, 1) := by decide +kernel
theorem dX11_net_254 : decode cX11_net 254 = .ok (.aload_n 0, 1) := by decide +kernel
theorem dX11_net_255 : decode cX11_net 255 = .ok (.getfield 48, 3) := by decide +kernel
theorem dX11_net_258 : decode cX11_net 258 = .ok (.iload_n 2, 1) := by decide +kernel
theorem dX11_net_259 : decode cX11_net 259 = .ok (.aload_n 0, 1) := by decide +kernel
theorem dX11_net_260 : decode cX11_net 260 = .ok (.getfield 48, 3) := by decide +kernel
theorem dX11_net_263 : decode cX11_net 263 = .ok (.bipush 24, 2) := by decide +kernel
theorem dX11_net_265 : decode cX11_net 265 = .ok (.iload_n 2, 1) := by decide +kernel
theorem dX11_net_266 : decode cX11_net 266 = .ok (.iadd, 1) := by decide +kernel
theorem dX11_net_267 : decode cX11_net 267 = .ok (.iaload, 1) := by decide +kernel
theorem dX11_net_268 : decode cX11_net 268 = .ok (.iastore, 1) := by decide +kernel
theorem dX11_net_269 : decode cX11_net 269 = .ok (.iinc 2 1, 3) := by decide +kernel
theorem dX11_net_272 : decode cX11_net 272 = .ok (.goto (-39), 3) := by decide +kernel
theorem dX11_net_275 : decode cX11_net 275 = .ok (.aload_n 0, 1) := by decide +kernel
theorem dX11_net_276 : decode cX11_net 276 = .ok (.iconst 0, 1) := by decide +kernel
theorem dX11_net_277 : decode cX11_net 277 = .ok (.putfield 271, 3) := by decide +kernel
theorem dX11_net_280 : decode cX11_net 280 = .ok (.aload_n 0, 1) := by decide +kernel
theorem dX11_net_281 : decode cX11_net 281 = .ok (.iconst 0, 1) := by decide +kernel
theorem dX11_net_282 : decode cX11_net 282 = .ok (.putfield 274, 3) := by decide +kernel
theorem dX11_net_285 : decode cX11_net 285 = .ok (.aload_n 0, 1) := by decide +kernel
theorem dX11_net_286 : decode cX11_net 286 = .ok (.iconst 0, 1) := by decide +kernel
theorem dX11_net_287 : decode cX11_net 287 = .ok (.putfield 277, 3) := by decide +kernel
theorem dX11_net_290 : decode cX11_net 290 = .ok (.aload_n 0, 1) := by decide +kernel
theorem dX11_net_291 : decode cX11_net 291 = .ok (.invokevirtual 280, 3) := by decide +kernel
theorem dX11_net_294 : decode cX11_net 294 = .ok (.iconst 0, 1) := by decide +kernel
theorem dX11_net_295 : decode cX11_net 295 = .ok (.istore_n 2, 1) := by decide +kernel
theorem dX11_net_296 : decode cX11_net 296 = .ok (.iload_n 2, 1) := by decide +kernel
theorem dX11_net_297 : decode cX11_net 297 = .ok (.iconst 4, 1) := by decide +kernel
theorem dX11_net_298 : decode cX11_net 298 = .ok (.if_icmp .ge 16, 3) := by decide +kernel
theorem dX11_net_301 : decode cX11_net 301 = .ok (.aload_n 0, 1) := by decide +kernel
theorem dX11_net_302 : decode cX11_net 302 = .ok (.getfield 90, 3) := by decide +kernel
theorem dX11_net_305 : decode cX11_net 305 = .ok (.iload_n 2, 1) := by decide +kernel
theorem dX11_net_306 : decode cX11_net 306 = .ok (.iconst 0, 1) := by decide +kernel
theorem dX11_net_307 : decode cX11_net 307 = .ok (.bastore, 1) := by decide +kernel
theorem dX11_net_308 : decode cX11_net 308 = .ok (.iinc 2 1, 3) := by decide +kernel
theorem dX11_net_311 : decode cX11_net 311 = .ok (.goto (-15), 3) := by decide +kernel
theorem dX11_net_314 : decode cX11_net 314 = .ok (.aload_n 0, 1) := by decide +kernel
theorem dX11_net_315 : decode cX11_net 315 = .ok (.getfield 265, 3) := by decide +kernel
theorem dX11_net_318 : decode cX11_net 318 = .ok (.ireturn, 1) := by decide +kernel
theorem dX11_squares_0 : decode cX11_squares 0 = .ok (.aload_n 0, 1) := by decide +kernel
theorem dX11_squares_1 : decode cX11_squares 1 = .ok (.getfield 283, 3) := by decide +kernel
theorem dX11_squares_4 : decode cX11_squares 4 = .ok (.aload_n 0, 1) := by decide +kernel
theorem dX11_squares_5 : decode cX11_squares 5 = .ok (.getfield 286, 3) := by decide +kernel
theorem dX11_squares_8 : decode cX11_squares 8 = .ok (.imul, 1) := by decide +kernel
theorem dX11_squares_9 : decode cX11_squares 9 = .ok (.ireturn, 1) := by decide +kernel
theorem dX11_isSquare_0 : decode cX11_isSquare 0 = .ok (.iload_n 1, 1) := by decide +kernel
theorem dX11_isSquare_1 : decode cX11_isSquare 1 = .ok (.ifCond .lt 15, 3) := by decide +kernel
theorem dX11_isSquare_4 : decode cX11_isSquare 4 = .ok (.iload_n 1, 1) := by decide +kernel
theorem dX11_isSquare_5 : decode cX11_isSquare 5 = .ok (.aload_n 0, 1) := by decide +kernel
theorem dX11_isSquare_6 : decode cX11_isSquare 6 = .ok (.invokevirtual 289, 3) := by decide +kernel
theorem dX11_isSquare_9 : decode cX11_isSquare 9 = .ok (.if_icmp .ge 7, 3) := by decide +kernel
theorem dX11_isSquare_12 : decode cX11_isSquare 12 = .ok (.iconst 1, 1) := by decide +kernel
theorem dX11_isSquare_13 : decode cX11_isSquare 13 = .ok (.goto 4, 3) := by decide +kernel
theorem dX11_isSquare_16 : decode cX11_isSquare 16 = .ok (.iconst 0, 1) := by decide +kernel
theorem dX11_isSquare_17 : decode cX11_isSquare 17 = .ok (.ireturn, 1) := by decide +kernel
theorem dX11_begins_0 : decode cX11_begins 0 = .ok (.aload_n 0, 1) := by decide +kernel
theorem dX11_begins_1 : decode cX11_begins 1 = .ok (.iload_n 1, 1) := by decide +kernel
theorem dX11_begins_2 : decode cX11_begins 2 = .ok (.putfield 283, 3) := by decide +kernel
theorem dX11_begins_5 : decode cX11_begins 5 = .ok (.aload_n 0, 1) := by decide +kernel
theorem dX11_begins_6 : decode cX11_begins 6 = .ok (.iload_n 2, 1) := by decide +kernel
theorem dX11_begins_7 : decode cX11_begins 7 = .ok (.putfield 286, 3) := by decide +kernel
theorem dX11_begins_10 : decode cX11_begins 10 = .ok (.aload_n 0, 1) := by decide +kernel
theorem dX11_begins_11 : decode cX11_begins 11 = .ok (.iload_n 1, 1) := by decide +kernel
theorem dX11_begins_12 : decode cX11_begins 12 = .ok (.iload_n 2, 1) := by decide +kernel
theorem dX11_begins_13 : decode cX11_begins 13 = .ok (.imul, 1) := by decide +kernel
theorem dX11_begins_14 : decode cX11_begins 14 = .ok (.iconst 1, 1) := by decide +kernel
theorem dX11_begins_15 : decode cX11_begins 15 = .ok (.isub, 1) := by decide +kernel
theorem dX11_begins_16 : decode cX11_begins 16 = .ok (.putfield 292, 3) := by decide +kernel
theorem dX11_begins_19 : decode cX11_begins 19 = .ok (.aload_n 0, 1) := by decide +kernel
theorem dX11_begins_20 : decode cX11_begins 20 = .ok (.iconst 0, 1) := by decide +kernel
theorem dX11_begins_21 : decode cX11_begins 21 = .ok (.putfield 295, 3) := by decide +kernel
theorem dX11_begins_24 : decode cX11_begins 24 = .ok (.aload_n 0, 1) := by decide +kernel
theorem dX11_begins_25 : decode cX11_begins 25 = .ok (.iconst 0, 1) := by decide +kernel
theorem dX11_begins_26 : decode cX11_begins 26 = .ok (.putfield 298, 3) := by decide +kernel
theorem dX11_begins_29 : decode cX11_begins 29 = .ok (.aload_n 0, 1) := by decide +kernel
theorem dX11_begins_30 : decode cX11_begins 30 = .ok (.iconst 0, 1) := by decide +kernel
theorem dX11_begins_31 : decode cX11_begins 31 = .ok (.putfield 301, 3) := by decide +kernel
theorem dX11_begins_34 : decode cX11_begins 34 = .ok (.aload_n 0, 1) := by decide +kernel
theorem dX11_begins_35 : decode cX11_begins 35 = .ok (.iconst 0, 1) := by decide +kernel
theorem dX11_begins_36 : decode cX11_begins 36 = .ok (.putfield 304, 3) := by decide +kernel
theorem dX11_begins_39 : decode cX11_begins 39 = .ok (.aload_n 0, 1) := by decide +kernel
theorem dX11_begins_40 : decode cX11_begins 40 = .ok (.aload_n 0, 1) := by decide +kernel
theorem dX11_begins_41 : decode cX11_begins 41 = .ok (.getfield 274, 3) := by decide +kernel
theorem dX11_begins_44 : decode cX11_begins 44 = .ok (.aload_n 0, 1) := by decide +kernel
theorem dX11_begins_45 : decode cX11_begins 45 = .ok (.getfield 277, 3) := by decide +kernel
theorem dX11_begins_48 : decode cX11_begins 48 = .ok (.iand, 1) := by decide +kernel
theorem dX11_begins_49 : decode cX11_begins 49 = .ok (.putfield 271, 3) := by decide +kernel
theorem dX11_begins_52 : decode cX11_begins 52 = .ok (.aload_n 0, 1) := by decide +kernel
theorem dX11_begins_53 : decode cX11_begins 53 = .ok (.invokevirtual 307, 3) := by decide +kernel
theorem dX11_begins_56 : decode cX11_begins 56 = .ok (.iconst 0, 1) := by decide +kernel
theorem dX11_begins_57 : decode cX11_begins 57 = .ok (.istore_n 3, 1) := by decide +kernel
theorem dX11_begins_58 : decode cX11_begins 58 = .ok (.iload_n 3, 1) := by decide +kernel
theorem dX11_begins_59 : decode cX11_begins 59 = .ok (.bipush 36, 2) := by decide +kernel
theorem dX11_begins_61 : decode cX11_begins 61 = .ok (.if_icmp .ge 23, 3) := by decide +kernel
theorem dX11_begins_64 : decode cX11_begins 64 = .ok (.aload_n 0, 1) := by decide +kernel
theorem dX11_begins_65 : decode cX11_begins 65 = .ok (.getfield 72, 3) := by decide +kernel
theorem dX11_begins_68 : decode cX11_begins 68 = .ok (.iload_n 3, 1) := by decide +kernel
theorem dX11_begins_69 : decode cX11_begins 69 = .ok (.iconst 0, 1) := by decide +kernel
theorem dX11_begins_70 : decode cX11_begins 70 = .ok (.iastore, 1) := by decide +kernel
theorem dX11_begins_71 : decode cX11_begins 71 = .ok (.aload_n 0, 1) := by decide +kernel
theorem dX11_begins_72 : decode cX11_begins 72 = .ok (.getfield 75, 3) := by decide +kernel
theorem dX11_begins_75 : decode cX11_begins 75 = .ok (.iload_n 3, 1) := by decide +kernel
theorem dX11_begins_76 : decode cX11_begins 76 = .ok (.iconst 0, 1) := by decide +kernel
theorem dX11_begins_77 : decode cX11_begins 77 = .ok (.iastore, 1) := by decide +kernel
theorem dX11_begins_78 : decode cX11_begins 78 = .ok (.iinc 3 1, 3) := by decide +kernel
theorem dX11_begins_81 : decode cX11_begins 81 = .ok (.goto (-23), 3) := by decide +kernel
theorem dX11_begins_84 : decode cX11_begins 84 = .ok (.aload_n 0, 1) := by decide +kernel
theorem dX11_begins_85 : decode cX11_begins 85 = .ok (.iconst (-1), 1) := by decide +kernel
theorem dX11_begins_86 : decode cX11_begins 86 = .ok (.putfield 78, 3) := by decide +kernel
theorem dX11_begins_89 : decode cX11_begins 89 = .ok (.aload_n 0, 1) := by decide +kernel
theorem dX11_begins_90 : decode cX11_begins 90 = .ok (.invokevirtual 280, 3) := by decide +kernel
theorem dX11_begins_93 : decode cX11_begins 93 = .ok (.iconst 0, 1) := by decide +kernel
theorem dX11_begins_94 : decode cX11_begins 94 = .ok (.istore_n 3, 1) := by decide +kernel
theorem dX11_begins_95 : decode cX11_begins 95 = .ok (.iload_n 3, 1) := by decide +kernel
theorem dX11_begins_96 : decode cX11_begins 96 = .ok (.iconst 4, 1) := by decide +kernel
theorem dX11_begins_97 : decode cX11_begins 97 = .ok (.if_icmp .ge 16, 3) := by decide +kernel
theorem dX11_begins_100 : decode cX11_begins 100 = .ok (.aload_n 0, 1) := by decide +kernel
theorem dX11_begins_101 : decode cX11_begins 101 = .ok (.getfield 90, 3) := by decide +kernel
theorem dX11_begins_104 : decode cX11_begins 104 = .ok (.iload_n 3, 1) := by decide +kernel
theorem dX11_begins_105 : decode cX11_begins 105 = .ok (.iconst 0, 1) := by decide +kernel
theorem dX11_begins_106 : decode cX11_begins 106 = .ok (.bastore, 1) := by decide +kernel
theorem dX11_begins_107 : decode cX11_begins 107 = .ok (.iinc 3 1, 3) := by decide +kernel
theorem dX11_begins_110 : decode cX11_begins 110 = .ok (.goto (-15), 3) := by decide +kernel
theorem dX11_begins_113 : decode cX11_begins 113 = .ok (.return_, 1) := by decide +kernel
theorem dX11_plainWalls_0 : decode cX11_plainWalls 0 = .ok (.iconst 0, 1) := by decide +kernel
theorem dX11_plainWalls_1 : decode cX11_plainWalls 1 = .ok (.istore_n 1, 1) := by decide +kernel
theorem dX11_plainWalls_2 : decode cX11_plainWalls 2 = .ok (.iload_n 1, 1) := by decide +kernel
theorem dX11_plainWalls_3 : decode cX11_plainWalls 3 = .ok (.aload_n 0, 1) := by decide +kernel
theorem dX11_plainWalls_4 : decode cX11_plainWalls 4 = .ok (.invokevirtual 289, 3) := by decide +kernel
theorem dX11_plainWalls_7 : decode cX11_plainWalls 7 = .ok (.if_icmp .ge 84, 3) := by decide +kernel
theorem dX11_plainWalls_10 : decode cX11_plainWalls 10 = .ok (.aload_n 0, 1) := by decide +kernel
theorem dX11_plainWalls_11 : decode cX11_plainWalls 11 = .ok (.getfield 69, 3) := by decide +kernel
theorem dX11_plainWalls_14 : decode cX11_plainWalls 14 = .ok (.iload_n 1, 1) := by decide +kernel
theorem dX11_plainWalls_15 : decode cX11_plainWalls 15 = .ok (.iload_n 1, 1) := by decide +kernel
theorem dX11_plainWalls_16 : decode cX11_plainWalls 16 = .ok (.aload_n 0, 1) := by decide +kernel
theorem dX11_plainWalls_17 : decode cX11_plainWalls 17 = .ok (.getfield 283, 3) := by decide +kernel
theorem dX11_plainWalls_20 : decode cX11_plainWalls 20 = .ok (.if_icmp .ge 7, 3) := by decide +kernel
theorem dX11_plainWalls_23 : decode cX11_plainWalls 23 = .ok (.iconst 1, 1) := by decide +kernel
theorem dX11_plainWalls_24 : decode cX11_plainWalls 24 = .ok (.goto 4, 3) := by decide +kernel
theorem dX11_plainWalls_27 : decode cX11_plainWalls 27 = .ok (.iconst 0, 1) := by decide +kernel
theorem dX11_plainWalls_28 : decode cX11_plainWalls 28 = .ok (.iload_n 1, 1) := by decide +kernel
theorem dX11_plainWalls_29 : decode cX11_plainWalls 29 = .ok (.aload_n 0, 1) := by decide +kernel
theorem dX11_plainWalls_30 : decode cX11_plainWalls 30 = .ok (.getfield 283, 3) := by decide +kernel
theorem dX11_plainWalls_33 : decode cX11_plainWalls 33 = .ok (.irem, 1) := by decide +kernel
theorem dX11_plainWalls_34 : decode cX11_plainWalls 34 = .ok (.aload_n 0, 1) := by decide +kernel
theorem dX11_plainWalls_35 : decode cX11_plainWalls 35 = .ok (.getfield 283, 3) := by decide +kernel
theorem dX11_plainWalls_38 : decode cX11_plainWalls 38 = .ok (.iconst 1, 1) := by decide +kernel
theorem dX11_plainWalls_39 : decode cX11_plainWalls 39 = .ok (.isub, 1) := by decide +kernel
theorem dX11_plainWalls_40 : decode cX11_plainWalls 40 = .ok (.if_icmp .ne 7, 3) := by decide +kernel
theorem dX11_plainWalls_43 : decode cX11_plainWalls 43 = .ok (.iconst 2, 1) := by decide +kernel
theorem dX11_plainWalls_44 : decode cX11_plainWalls 44 = .ok (.goto 4, 3) := by decide +kernel
theorem dX11_plainWalls_47 : decode cX11_plainWalls 47 = .ok (.iconst 0, 1) := by decide +kernel
theorem dX11_plainWalls_48 : decode cX11_plainWalls 48 = .ok (.ior, 1) := by decide +kernel
theorem dX11_plainWalls_49 : decode cX11_plainWalls 49 = .ok (.iload_n 1, 1) := by decide +kernel
theorem dX11_plainWalls_50 : decode cX11_plainWalls 50 = .ok (.aload_n 0, 1) := by decide +kernel
theorem dX11_plainWalls_51 : decode cX11_plainWalls 51 = .ok (.invokevirtual 289, 3) := by decide +kernel
theorem dX11_plainWalls_54 : decode cX11_plainWalls 54 = .ok (.aload_n 0, 1) := by decide +kernel
theorem dX11_plainWalls_55 : decode cX11_plainWalls 55 = .ok (.getfield 283, 3) := by decide +kernel
theorem dX11_plainWalls_58 : decode cX11_plainWalls 58 = .ok (.isub, 1) := by decide +kernel
theorem dX11_plainWalls_59 : decode cX11_plainWalls 59 = .ok (.if_icmp .lt 7, 3) := by decide +kernel
theorem dX11_plainWalls_62 : decode cX11_plainWalls 62 = .ok (.iconst 4, 1) := by decide +kernel
theorem dX11_plainWalls_63 : decode cX11_plainWalls 63 = .ok (.goto 4, 3) := by decide +kernel
theorem dX11_plainWalls_66 : decode cX11_plainWalls 66 = .ok (.iconst 0, 1) := by decide +kernel
theorem dX11_plainWalls_67 : decode cX11_plainWalls 67 = .ok (.ior, 1) := by decide +kernel
theorem dX11_plainWalls_68 : decode cX11_plainWalls 68 = .ok (.iload_n 1, 1) := by decide +kernel
theorem dX11_plainWalls_69 : decode cX11_plainWalls 69 = .ok (.aload_n 0, 1) := by decide +kernel
theorem dX11_plainWalls_70 : decode cX11_plainWalls 70 = .ok (.getfield 283, 3) := by decide +kernel
theorem dX11_plainWalls_73 : decode cX11_plainWalls 73 = .ok (.irem, 1) := by decide +kernel
theorem dX11_plainWalls_74 : decode cX11_plainWalls 74 = .ok (.ifCond .ne 8, 3) := by decide +kernel
theorem dX11_plainWalls_77 : decode cX11_plainWalls 77 = .ok (.bipush 8, 2) := by decide +kernel
theorem dX11_plainWalls_79 : decode cX11_plainWalls 79 = .ok (.goto 4, 3) := by decide +kernel
theorem dX11_plainWalls_82 : decode cX11_plainWalls 82 = .ok (.iconst 0, 1) := by decide +kernel
theorem dX11_plainWalls_83 : decode cX11_plainWalls 83 = .ok (.ior, 1) := by decide +kernel
theorem dX11_plainWalls_84 : decode cX11_plainWalls 84 = .ok (.iastore, 1) := by decide +kernel
theorem dX11_plainWalls_85 : decode cX11_plainWalls 85 = .ok (.iinc 1 1, 3) := by decide +kernel
theorem dX11_plainWalls_88 : decode cX11_plainWalls 88 = .ok (.goto (-86), 3) := by decide +kernel
theorem dX11_plainWalls_91 : decode cX11_plainWalls 91 = .ok (.return_, 1) := by decide +kernel
theorem dX11_ahead_0 : decode cX11_ahead 0 = .ok (.iload_n 2, 1) := by decide +kernel
theorem dX11_ahead_1 : decode cX11_ahead 1 = .ok (.ifCond .ne 12, 3) := by decide +kernel
theorem dX11_ahead_4 : decode cX11_ahead 4 = .ok (.iload_n 1, 1) := by decide +kernel
theorem dX11_ahead_5 : decode cX11_ahead 5 = .ok (.aload_n 0, 1) := by decide +kernel
theorem dX11_ahead_6 : decode cX11_ahead 6 = .ok (.getfield 283, 3) := by decide +kernel
theorem dX11_ahead_9 : decode cX11_ahead 9 = .ok (.isub, 1) := by decide +kernel
theorem dX11_ahead_10 : decode cX11_ahead 10 = .ok (.goto 31, 3) := by decide +kernel
theorem dX11_ahead_13 : decode cX11_ahead 13 = .ok (.iload_n 2, 1) := by decide +kernel
theorem dX11_ahead_14 : decode cX11_ahead 14 = .ok (.iconst 1, 1) := by decide +kernel
theorem dX11_ahead_15 : decode cX11_ahead 15 = .ok (.if_icmp .ne 9, 3) := by decide +kernel
theorem dX11_ahead_18 : decode cX11_ahead 18 = .ok (.iload_n 1, 1) := by decide +kernel
theorem dX11_ahead_19 : decode cX11_ahead 19 = .ok (.iconst 1, 1) := by decide +kernel
theorem dX11_ahead_20 : decode cX11_ahead 20 = .ok (.iadd, 1) := by decide +kernel
theorem dX11_ahead_21 : decode cX11_ahead 21 = .ok (.goto 20, 3) := by decide +kernel
theorem dX11_ahead_24 : decode cX11_ahead 24 = .ok (.iload_n 2, 1) := by decide +kernel
theorem dX11_ahead_25 : decode cX11_ahead 25 = .ok (.iconst 2, 1) := by decide +kernel
theorem dX11_ahead_26 : decode cX11_ahead 26 = .ok (.if_icmp .ne 12, 3) := by decide +kernel
theorem dX11_ahead_29 : decode cX11_ahead 29 = .ok (.iload_n 1, 1) := by decide +kernel
theorem dX11_ahead_30 : decode cX11_ahead 30 = .ok (.aload_n 0, 1) := by decide +kernel
theorem dX11_ahead_31 : decode cX11_ahead 31 = .ok (.getfield 283, 3) := by decide +kernel
theorem dX11_ahead_34 : decode cX11_ahead 34 = .ok (.iadd, 1) := by decide +kernel
theorem dX11_ahead_35 : decode cX11_ahead 35 = .ok (.goto 6, 3) := by decide +kernel
theorem dX11_ahead_38 : decode cX11_ahead 38 = .ok (.iload_n 1, 1) := by decide +kernel
theorem dX11_ahead_39 : decode cX11_ahead 39 = .ok (.iconst 1, 1) := by decide +kernel
theorem dX11_ahead_40 : decode cX11_ahead 40 = .ok (.isub, 1) := by decide +kernel
theorem dX11_ahead_41 : decode cX11_ahead 41 = .ok (.ireturn, 1) := by decide +kernel
theorem dX11_isWall_0 : decode cX11_isWall 0 = .ok (.aload_n 0, 1) := by decide +kernel
theorem dX11_isWall_1 : decode cX11_isWall 1 = .ok (.getfield 69, 3) := by decide +kernel
theorem dX11_isWall_4 : decode cX11_isWall 4 = .ok (.iload_n 1, 1) := by decide +kernel
theorem dX11_isWall_5 : decode cX11_isWall 5 = .ok (.iaload, 1) := by decide +kernel
theorem dX11_isWall_6 : decode cX11_isWall 6 = .ok (.iload_n 2, 1) := by decide +kernel
theorem dX11_isWall_7 : decode cX11_isWall 7 = .ok (.invokestatic 310, 3) := by decide +kernel
theorem dX11_isWall_10 : decode cX11_isWall 10 = .ok (.ireturn, 1) := by decide +kernel
theorem dX11_putWall_0 : decode cX11_putWall 0 = .ok (.aload_n 0, 1) := by decide +kernel
theorem dX11_putWall_1 : decode cX11_putWall 1 = .ok (.iload_n 1, 1) := by decide +kernel
theorem dX11_putWall_2 : decode cX11_putWall 2 = .ok (.iload_n 2, 1) := by decide +kernel
theorem dX11_putWall_3 : decode cX11_putWall 3 = .ok (.invokevirtual 314, 3) := by decide +kernel
theorem dX11_putWall_6 : decode cX11_putWall 6 = .ok (.istore 4, 2) := by decide +kernel
theorem dX11_putWall_8 : decode cX11_putWall 8 = .ok (.iload_n 2, 1) := by decide +kernel
theorem dX11_putWall_9 : decode cX11_putWall 9 = .ok (.iconst 2, 1) := by decide +kernel
theorem dX11_putWall_10 : decode cX11_putWall 10 = .ok (.iadd, 1) := by decide +kernel
theorem dX11_putWall_11 : decode cX11_putWall 11 = .ok (.iconst 4, 1) := by decide +kernel
theorem dX11_putWall_12 : decode cX11_putWall 12 = .ok (.irem, 1) := by decide +kernel
theorem dX11_putWall_13 : decode cX11_putWall 13 = .ok (.istore 5, 2) := by decide +kernel
theorem dX11_putWall_15 : decode cX11_putWall 15 = .ok (.aload_n 0, 1) := by decide +kernel
theorem dX11_putWall_16 : decode cX11_putWall 16 = .ok (.getfield 69, 3) := by decide +kernel
theorem dX11_putWall_19 : decode cX11_putWall 19 = .ok (.iload_n 1, 1) := by decide +kernel
theorem dX11_putWall_20 : decode cX11_putWall 20 = .ok (.iload_n 3, 1) := by decide +kernel
theorem dX11_putWall_21 : decode cX11_putWall 21 = .ok (.ifCond .eq 16, 3) := by decide +kernel
theorem dX11_putWall_24 : decode cX11_putWall 24 = .ok (.aload_n 0, 1) := by decide +kernel
theorem dX11_putWall_25 : decode cX11_putWall 25 = .ok (.getfield 69, 3) := by decide +kernel
theorem dX11_putWall_28 : decode cX11_putWall 28 = .ok (.iload_n 1, 1) := by decide +kernel
theorem dX11_putWall_29 : decode cX11_putWall 29 = .ok (.iaload, 1) := by decide +kernel
theorem dX11_putWall_30 : decode cX11_putWall 30 = .ok (.iconst 1, 1) := by decide +kernel
theorem dX11_putWall_31 : decode cX11_putWall 31 = .ok (.iload_n 2, 1) := by decide +kernel
theorem dX11_putWall_32 : decode cX11_putWall 32 = .ok (.ishl, 1) := by decide +kernel
theorem dX11_putWall_33 : decode cX11_putWall 33 = .ok (.ior, 1) := by decide +kernel
theorem dX11_putWall_34 : decode cX11_putWall 34 = .ok (.goto 15, 3) := by decide +kernel
theorem dX11_putWall_37 : decode cX11_putWall 37 = .ok (.aload_n 0, 1) := by decide +kernel
theorem dX11_putWall_38 : decode cX11_putWall 38 = .ok (.getfield 69, 3) := by decide +kernel
theorem dX11_putWall_41 : decode cX11_putWall 41 = .ok (.iload_n 1, 1) := by decide +kernel
theorem dX11_putWall_42 : decode cX11_putWall 42 = .ok (.iaload, 1) := by decide +kernel
theorem dX11_putWall_43 : decode cX11_putWall 43 = .ok (.iconst 1, 1) := by decide +kernel
theorem dX11_putWall_44 : decode cX11_putWall 44 = .ok (.iload_n 2, 1) := by decide +kernel
theorem dX11_putWall_45 : decode cX11_putWall 45 = .ok (.ishl, 1) := by decide +kernel
theorem dX11_putWall_46 : decode cX11_putWall 46 = .ok (.iconst (-1), 1) := by decide +kernel
theorem dX11_putWall_47 : decode cX11_putWall 47 = .ok (.ixor, 1) := by decide +kernel
theorem dX11_putWall_48 : decode cX11_putWall 48 = .ok (.iand, 1) := by decide +kernel
theorem dX11_putWall_49 : decode cX11_putWall 49 = .ok (.iastore, 1) := by decide +kernel
theorem dX11_putWall_50 : decode cX11_putWall 50 = .ok (.aload_n 0, 1) := by decide +kernel
theorem dX11_putWall_51 : decode cX11_putWall 51 = .ok (.getfield 69, 3) := by decide +kernel
theorem dX11_putWall_54 : decode cX11_putWall 54 = .ok (.iload 4, 2) := by decide +kernel
theorem dX11_putWall_56 : decode cX11_putWall 56 = .ok (.iload_n 3, 1) := by decide +kernel
theorem dX11_putWall_57 : decode cX11_putWall 57 = .ok (.ifCond .eq 18, 3) := by decide +kernel
theorem dX11_putWall_60 : decode cX11_putWall 60 = .ok (.aload_n 0, 1) := by decide +kernel
theorem dX11_putWall_61 : decode cX11_putWall 61 = .ok (.getfield 69, 3) := by decide +kernel
theorem dX11_putWall_64 : decode cX11_putWall 64 = .ok (.iload 4, 2) := by decide +kernel
theorem dX11_putWall_66 : decode cX11_putWall 66 = .ok (.iaload, 1) := by decide +kernel
theorem dX11_putWall_67 : decode cX11_putWall 67 = .ok (.iconst 1, 1) := by decide +kernel
theorem dX11_putWall_68 : decode cX11_putWall 68 = .ok (.iload 5, 2) := by decide +kernel
theorem dX11_putWall_70 : decode cX11_putWall 70 = .ok (.ishl, 1) := by decide +kernel
theorem dX11_putWall_71 : decode cX11_putWall 71 = .ok (.ior, 1) := by decide +kernel
theorem dX11_putWall_72 : decode cX11_putWall 72 = .ok (.goto 17, 3) := by decide +kernel
theorem dX11_putWall_75 : decode cX11_putWall 75 = .ok (.aload_n 0, 1) := by decide +kernel
theorem dX11_putWall_76 : decode cX11_putWall 76 = .ok (.getfield 69, 3) := by decide +kernel
theorem dX11_putWall_79 : decode cX11_putWall 79 = .ok (.iload 4, 2) := by decide +kernel
theorem dX11_putWall_81 : decode cX11_putWall 81 = .ok (.iaload, 1) := by decide +kernel
theorem dX11_putWall_82 : decode cX11_putWall 82 = .ok (.iconst 1, 1) := by decide +kernel
theorem dX11_putWall_83 : decode cX11_putWall 83 = .ok (.iload 5, 2) := by decide +kernel
theorem dX11_putWall_85 : decode cX11_putWall 85 = .ok (.ishl, 1) := by decide +kernel
theorem dX11_putWall_86 : decode cX11_putWall 86 = .ok (.iconst (-1), 1) := by decide +kernel
theorem dX11_putWall_87 : decode cX11_putWall 87 = .ok (.ixor, 1) := by decide +kernel
theorem dX11_putWall_88 : decode cX11_putWall 88 = .ok (.iand, 1) := by decide +kernel
theorem dX11_putWall_89 : decode cX11_putWall 89 = .ok (.iastore, 1) := by decide +kernel
theorem dX11_putWall_90 : decode cX11_putWall 90 = .ok (.return_, 1) := by decide +kernel
theorem dX11_floor_0 : decode cX11_floor 0 = .ok (.aload_n 0, 1) := by decide +kernel
theorem dX11_floor_1 : decode cX11_floor 1 = .ok (.iconst 0, 1) := by decide +kernel
theorem dX11_floor_2 : decode cX11_floor 2 = .ok (.putfield 130, 3) := by decide +kernel
theorem dX11_floor_5 : decode cX11_floor 5 = .ok (.iload_n 1, 1) := by decide +kernel
theorem dX11_floor_6 : decode cX11_floor 6 = .ok (.iconst 2, 1) := by decide +kernel
theorem dX11_floor_7 : decode cX11_floor 7 = .ok (.bipush 6, 2) := by decide +kernel
theorem dX11_floor_9 : decode cX11_floor 9 = .ok (.invokestatic 317, 3) := by decide +kernel
theorem dX11_floor_12 : decode cX11_floor 12 = .ok (.ifCond .eq 13, 3) := by decide +kernel
theorem dX11_floor_15 : decode cX11_floor 15 = .ok (.iload_n 2, 1) := by decide +kernel
theorem dX11_floor_16 : decode cX11_floor 16 = .ok (.iconst 2, 1) := by decide +kernel
theorem dX11_floor_17 : decode cX11_floor 17 = .ok (.bipush 6, 2) := by decide +kernel
theorem dX11_floor_19 : decode cX11_floor 19 = .ok (.invokestatic 317, 3) := by decide +kernel
theorem dX11_floor_22 : decode cX11_floor 22 = .ok (.ifCond .ne 5, 3) := by decide +kernel
theorem dX11_floor_25 : decode cX11_floor 25 = .ok (.iconst 0, 1) := by decide +kernel
theorem dX11_floor_26 : decode cX11_floor 26 = .ok (.ireturn, 1) := by decide +kernel
theorem dX11_floor_27 : decode cX11_floor 27 = .ok (.aload_n 0, 1) := by decide +kernel
theorem dX11_floor_28 : decode cX11_floor 28 = .ok (.iload_n 1, 1) := by decide +kernel
theorem dX11_floor_29 : decode cX11_floor 29 = .ok (.iload_n 2, 1) := by decide +kernel
theorem dX11_floor_30 : decode cX11_floor 30 = .ok (.invokevirtual 126, 3) := by decide +kernel
theorem dX11_floor_33 : decode cX11_floor 33 = .ok (.iconst 1, 1) := by decide +kernel
theorem dX11_floor_34 : decode cX11_floor 34 = .ok (.ireturn, 1) := by decide +kernel
theorem dX11_isAround_0 : decode cX11_isAround 0 = .ok (.iload_n 2, 1) := by decide +kernel
theorem dX11_isAround_1 : decode cX11_isAround 1 = .ok (.ifCond .ne 19, 3) := by decide +kernel
theorem dX11_isAround_4 : decode cX11_isAround 4 = .ok (.iload_n 1, 1) := by decide +kernel
theorem dX11_isAround_5 : decode cX11_isAround 5 = .ok (.aload_n 0, 1) := by decide +kernel
theorem dX11_isAround_6 : decode cX11_isAround 6 = .ok (.getfield 283, 3) := by decide +kernel
theorem dX11_isAround_9 : decode cX11_isAround 9 = .ok (.if_icmp .ge 7, 3) := by decide +kernel
theorem dX11_isAround_12 : decode cX11_isAround 12 = .ok (.iconst 1, 1) := by decide +kernel
theorem dX11_isAround_13 : decode cX11_isAround 13 = .ok (.goto 75, 3) := by decide +kernel
theorem dX11_isAround_16 : decode cX11_isAround 16 = .ok (.iconst 0, 1) := by decide +kernel
theorem dX11_isAround_17 : decode cX11_isAround 17 = .ok (.goto 71, 3) := by decide +kernel
theorem dX11_isAround_20 : decode cX11_isAround 20 = .ok (.iload_n 2, 1) := by decide +kernel
theorem dX11_isAround_21 : decode cX11_isAround 21 = .ok (.iconst 1, 1) := by decide +kernel
theorem dX11_isAround_22 : decode cX11_isAround 22 = .ok (.if_icmp .ne 26, 3) := by decide +kernel
theorem dX11_isAround_25 : decode cX11_isAround 25 = .ok (.iload_n 1, 1) := by decide +kernel
theorem dX11_isAround_26 : decode cX11_isAround 26 = .ok (.aload_n 0, 1) := by decide +kernel
theorem dX11_isAround_27 : decode cX11_isAround 27 = .ok (.getfield 283, 3) := by decide +kernel
theorem dX11_isAround_30 : decode cX11_isAround 30 = .ok (.irem, 1) := by decide +kernel
theorem dX11_isAround_31 : decode cX11_isAround 31 = .ok (.aload_n 0, 1) := by decide +kernel
theorem dX11_isAround_32 : decode cX11_isAround 32 = .ok (.getfield 283, 3) := by decide +kernel
theorem dX11_isAround_35 : decode cX11_isAround 35 = .ok (.iconst 1, 1) := by decide +kernel
theorem dX11_isAround_36 : decode cX11_isAround 36 = .ok (.isub, 1) := by decide +kernel
theorem dX11_isAround_37 : decode cX11_isAround 37 = .ok (.if_icmp .ne 7, 3) := by decide +kernel
theorem dX11_isAround_40 : decode cX11_isAround 40 = .ok (.iconst 1, 1) := by decide +kernel
theorem dX11_isAround_41 : decode cX11_isAround 41 = .ok (.goto 47, 3) := by decide +kernel
theorem dX11_isAround_44 : decode cX11_isAround 44 = .ok (.iconst 0, 1) := by decide +kernel
theorem dX11_isAround_45 : decode cX11_isAround 45 = .ok (.goto 43, 3) := by decide +kernel
theorem dX11_isAround_48 : decode cX11_isAround 48 = .ok (.iload_n 2, 1) := by decide +kernel
theorem dX11_isAround_49 : decode cX11_isAround 49 = .ok (.iconst 2, 1) := by decide +kernel
theorem dX11_isAround_50 : decode cX11_isAround 50 = .ok (.if_icmp .ne 24, 3) := by decide +kernel
theorem dX11_isAround_53 : decode cX11_isAround 53 = .ok (.iload_n 1, 1) := by decide +kernel
theorem dX11_isAround_54 : decode cX11_isAround 54 = .ok (.aload_n 0, 1) := by decide +kernel
theorem dX11_isAround_55 : decode cX11_isAround 55 = .ok (.invokevirtual 289, 3) := by decide +kernel
theorem dX11_isAround_58 : decode cX11_isAround 58 = .ok (.aload_n 0, 1) := by decide +kernel
theorem dX11_isAround_59 : decode cX11_isAround 59 = .ok (.getfield 283, 3) := by decide +kernel
theorem dX11_isAround_62 : decode cX11_isAround 62 = .ok (.isub, 1) := by decide +kernel
theorem dX11_isAround_63 : decode cX11_isAround 63 = .ok (.if_icmp .lt 7, 3) := by decide +kernel
theorem dX11_isAround_66 : decode cX11_isAround 66 = .ok (.iconst 1, 1) := by decide +kernel
theorem dX11_isAround_67 : decode cX11_isAround 67 = .ok (.goto 21, 3) := by decide +kernel
theorem dX11_isAround_70 : decode cX11_isAround 70 = .ok (.iconst 0, 1) := by decide +kernel
theorem dX11_isAround_71 : decode cX11_isAround 71 = .ok (.goto 17, 3) := by decide +kernel
theorem dX11_isAround_74 : decode cX11_isAround 74 = .ok (.iload_n 1, 1) := by decide +kernel
theorem dX11_isAround_75 : decode cX11_isAround 75 = .ok (.aload_n 0, 1) := by decide +kernel
theorem dX11_isAround_76 : decode cX11_isAround 76 = .ok (.getfield 283, 3) := by decide +kernel
theorem dX11_isAround_79 : decode cX11_isAround 79 = .ok (.irem, 1) := by decide +kernel
theorem dX11_isAround_80 : decode cX11_isAround 80 = .ok (.ifCond .ne 7, 3) := by decide +kernel
theorem dX11_isAround_83 : decode cX11_isAround 83 = .ok (.iconst 1, 1) := by decide +kernel
theorem dX11_isAround_84 : decode cX11_isAround 84 = .ok (.goto 4, 3) := by decide +kernel
theorem dX11_isAround_87 : decode cX11_isAround 87 = .ok (.iconst 0, 1) := by decide +kernel
theorem dX11_isAround_88 : decode cX11_isAround 88 = .ok (.ireturn, 1) := by decide +kernel
theorem dX11_wall_0 : decode cX11_wall 0 = .ok (.aload_n 0, 1) := by decide +kernel
theorem dX11_wall_1 : decode cX11_wall 1 = .ok (.iconst 0, 1) := by decide +kernel
theorem dX11_wall_2 : decode cX11_wall 2 = .ok (.putfield 130, 3) := by decide +kernel
theorem dX11_wall_5 : decode cX11_wall 5 = .ok (.aload_n 0, 1) := by decide +kernel
theorem dX11_wall_6 : decode cX11_wall 6 = .ok (.iload_n 1, 1) := by decide +kernel
theorem dX11_wall_7 : decode cX11_wall 7 = .ok (.invokevirtual 321, 3) := by decide +kernel
theorem dX11_wall_10 : decode cX11_wall 10 = .ok (.ifCond .eq 31, 3) := by decide +kernel
theorem dX11_wall_13 : decode cX11_wall 13 = .ok (.iload_n 2, 1) := by decide +kernel
theorem dX11_wall_14 : decode cX11_wall 14 = .ok (.iconst 0, 1) := by decide +kernel
theorem dX11_wall_15 : decode cX11_wall 15 = .ok (.iconst 3, 1) := by decide +kernel
theorem dX11_wall_16 : decode cX11_wall 16 = .ok (.invokestatic 317, 3) := by decide +kernel
theorem dX11_wall_19 : decode cX11_wall 19 = .ok (.ifCond .eq 22, 3) := by decide +kernel
theorem dX11_wall_22 : decode cX11_wall 22 = .ok (.aload_n 0, 1) := by decide +kernel
theorem dX11_wall_23 : decode cX11_wall 23 = .ok (.iload_n 1, 1) := by decide +kernel
theorem dX11_wall_24 : decode cX11_wall 24 = .ok (.iload_n 2, 1) := by decide +kernel
theorem dX11_wall_25 : decode cX11_wall 25 = .ok (.invokevirtual 324, 3) := by decide +kernel
theorem dX11_wall_28 : decode cX11_wall 28 = .ok (.ifCond .ne 13, 3) := by decide +kernel
theorem dX11_wall_31 : decode cX11_wall 31 = .ok (.aload_n 0, 1) := by decide +kernel
theorem dX11_wall_32 : decode cX11_wall 32 = .ok (.iload_n 1, 1) := by decide +kernel
theorem dX11_wall_33 : decode cX11_wall 33 = .ok (.iload_n 2, 1) := by decide +kernel
theorem dX11_wall_34 : decode cX11_wall 34 = .ok (.invokevirtual 327, 3) := by decide +kernel
theorem dX11_wall_37 : decode cX11_wall 37 = .ok (.iload_n 3, 1) := by decide +kernel
theorem dX11_wall_38 : decode cX11_wall 38 = .ok (.if_icmp .ne 5, 3) := by decide +kernel
theorem dX11_wall_41 : decode cX11_wall 41 = .ok (.iconst 0, 1) := by decide +kernel
theorem dX11_wall_42 : decode cX11_wall 42 = .ok (.ireturn, 1) := by decide +kernel
theorem dX11_wall_43 : decode cX11_wall 43 = .ok (.aload_n 0, 1) := by decide +kernel
theorem dX11_wall_44 : decode cX11_wall 44 = .ok (.iload_n 1, 1) := by decide +kernel
theorem dX11_wall_45 : decode cX11_wall 45 = .ok (.iload_n 2, 1) := by decide +kernel
theorem dX11_wall_46 : decode cX11_wall 46 = .ok (.iload_n 3, 1) := by decide +kernel
theorem dX11_wall_47 : decode cX11_wall 47 = .ok (.invokevirtual 330, 3) := by decide +kernel
theorem dX11_wall_50 : decode cX11_wall 50 = .ok (.iconst 1, 1) := by decide +kernel
theorem dX11_wall_51 : decode cX11_wall 51 = .ok (.ireturn, 1) := by decide +kernel
theorem dX11_bell_0 : decode cX11_bell 0 = .ok (.aload_n 0, 1) := by decide +kernel
theorem dX11_bell_1 : decode cX11_bell 1 = .ok (.iconst 0, 1) := by decide +kernel
theorem dX11_bell_2 : decode cX11_bell 2 = .ok (.putfield 130, 3) := by decide +kernel
theorem dX11_bell_5 : decode cX11_bell 5 = .ok (.aload_n 0, 1) := by decide +kernel
theorem dX11_bell_6 : decode cX11_bell 6 = .ok (.iload_n 1, 1) := by decide +kernel
theorem dX11_bell_7 : decode cX11_bell 7 = .ok (.invokevirtual 321, 3) := by decide +kernel
theorem dX11_bell_10 : decode cX11_bell 10 = .ok (.ifCond .ne 5, 3) := by decide +kernel
theorem dX11_bell_13 : decode cX11_bell 13 = .ok (.iconst 0, 1) := by decide +kernel
theorem dX11_bell_14 : decode cX11_bell 14 = .ok (.ireturn, 1) := by decide +kernel
theorem dX11_bell_15 : decode cX11_bell 15 = .ok (.aload_n 0, 1) := by decide +kernel
theorem dX11_bell_16 : decode cX11_bell 16 = .ok (.iload_n 1, 1) := by decide +kernel
theorem dX11_bell_17 : decode cX11_bell 17 = .ok (.putfield 292, 3) := by decide +kernel
theorem dX11_bell_20 : decode cX11_bell 20 = .ok (.iconst 1, 1) := by decide +kernel
theorem dX11_bell_21 : decode cX11_bell 21 = .ok (.ireturn, 1) := by decide +kernel
theorem dX11_lift_0 : decode cX11_lift 0 = .ok (.aload_n 0, 1) := by decide +kernel
theorem dX11_lift_1 : decode cX11_lift 1 = .ok (.iconst 0, 1) := by decide +kernel
theorem dX11_lift_2 : decode cX11_lift 2 = .ok (.putfield 130, 3) := by decide +kernel
theorem dX11_lift_5 : decode cX11_lift 5 = .ok (.aload_n 0, 1) := by decide +kernel
theorem dX11_lift_6 : decode cX11_lift 6 = .ok (.iload_n 1, 1) := by decide +kernel
theorem dX11_lift_7 : decode cX11_lift 7 = .ok (.invokevirtual 321, 3) := by decide +kernel
theorem dX11_lift_10 : decode cX11_lift 10 = .ok (.ifCond .eq 12, 3) := by decide +kernel
theorem dX11_lift_13 : decode cX11_lift 13 = .ok (.iload_n 2, 1) := by decide +kernel
theorem dX11_lift_14 : decode cX11_lift 14 = .ok (.iconst 0, 1) := by decide +kernel
theorem dX11_lift_15 : decode cX11_lift 15 = .ok (.iconst 3, 1) := by decide +kernel
theorem dX11_lift_16 : decode cX11_lift 16 = .ok (.invokestatic 317, 3) := by decide +kernel
theorem dX11_lift_19 : decode cX11_lift 19 = .ok (.ifCond .ne 5, 3) := by decide +kernel
theorem dX11_lift_22 : decode cX11_lift 22 = .ok (.iconst 0, 1) := by decide +kernel
theorem dX11_lift_23 : decode cX11_lift 23 = .ok (.ireturn, 1) := by decide +kernel
theorem dX11_lift_24 : decode cX11_lift 24 = .ok (.aload_n 0, 1) := by decide +kernel
theorem dX11_lift_25 : decode cX11_lift 25 = .ok (.iload_n 1, 1) := by decide +kernel
theorem dX11_lift_26 : decode cX11_lift 26 = .ok (.putfield 295, 3) := by decide +kernel
theorem dX11_lift_29 : decode cX11_lift 29 = .ok (.aload_n 0, 1) := by decide +kernel
theorem dX11_lift_30 : decode cX11_lift 30 = .ok (.iload_n 2, 1) := by decide +kernel
theorem dX11_lift_31 : decode cX11_lift 31 = .ok (.putfield 298, 3) := by decide +kernel
theorem dX11_lift_34 : decode cX11_lift 34 = .ok (.iconst 1, 1) := by decide +kernel
theorem dX11_lift_35 : decode cX11_lift 35 = .ok (.ireturn, 1) := by decide +kernel
theorem dX11_wipes_0 : decode cX11_wipes 0 = .ok (.iconst 0, 1) := by decide +kernel
theorem dX11_wipes_1 : decode cX11_wipes 1 = .ok (.istore_n 1, 1) := by decide +kernel
theorem dX11_wipes_2 : decode cX11_wipes 2 = .ok (.iload_n 1, 1) := by decide +kernel
theorem dX11_wipes_3 : decode cX11_wipes 3 = .ok (.aload_n 0, 1) := by decide +kernel
theorem dX11_wipes_4 : decode cX11_wipes 4 = .ok (.invokevirtual 289, 3) := by decide +kernel
theorem dX11_wipes_7 : decode cX11_wipes 7 = .ok (.if_icmp .ge 23, 3) := by decide +kernel
theorem dX11_wipes_10 : decode cX11_wipes 10 = .ok (.aload_n 0, 1) := by decide +kernel
theorem dX11_wipes_11 : decode cX11_wipes 11 = .ok (.getfield 72, 3) := by decide +kernel
theorem dX11_wipes_14 : decode cX11_wipes 14 = .ok (.iload_n 1, 1) := by decide +kernel
theorem dX11_wipes_15 : decode cX11_wipes 15 = .ok (.iconst 0, 1) := by decide +kernel
theorem dX11_wipes_16 : decode cX11_wipes 16 = .ok (.iastore, 1) := by decide +kernel
theorem dX11_wipes_17 : decode cX11_wipes 17 = .ok (.aload_n 0, 1) := by decide +kernel
theorem dX11_wipes_18 : decode cX11_wipes 18 = .ok (.getfield 75, 3) := by decide +kernel
theorem dX11_wipes_21 : decode cX11_wipes 21 = .ok (.iload_n 1, 1) := by decide +kernel
theorem dX11_wipes_22 : decode cX11_wipes 22 = .ok (.iconst 0, 1) := by decide +kernel
theorem dX11_wipes_23 : decode cX11_wipes 23 = .ok (.iastore, 1) := by decide +kernel
theorem dX11_wipes_24 : decode cX11_wipes 24 = .ok (.iinc 1 1, 3) := by decide +kernel
theorem dX11_wipes_27 : decode cX11_wipes 27 = .ok (.goto (-25), 3) := by decide +kernel
theorem dX11_wipes_30 : decode cX11_wipes 30 = .ok (.return_, 1) := by decide +kernel
theorem dX11_wipe_0 : decode cX11_wipe 0 = .ok (.aload_n 0, 1) := by decide +kernel
theorem dX11_wipe_1 : decode cX11_wipe 1 = .ok (.iconst 0, 1) := by decide +kernel
theorem dX11_wipe_2 : decode cX11_wipe 2 = .ok (.putfield 130, 3) := by decide +kernel
theorem dX11_wipe_5 : decode cX11_wipe 5 = .ok (.iconst 0, 1) := by decide +kernel
theorem dX11_wipe_6 : decode cX11_wipe 6 = .ok (.istore_n 1, 1) := by decide +kernel
theorem dX11_wipe_7 : decode cX11_wipe 7 = .ok (.iconst 0, 1) := by decide +kernel
theorem dX11_wipe_8 : decode cX11_wipe 8 = .ok (.istore_n 2, 1) := by decide +kernel
theorem dX11_wipe_9 : decode cX11_wipe 9 = .ok (.iload_n 2, 1) := by decide +kernel
theorem dX11_wipe_10 : decode cX11_wipe 10 = .ok (.aload_n 0, 1) := by decide +kernel
theorem dX11_wipe_11 : decode cX11_wipe 11 = .ok (.invokevirtual 289, 3) := by decide +kernel
theorem dX11_wipe_14 : decode cX11_wipe 14 = .ok (.if_icmp .ge 35, 3) := by decide +kernel
theorem dX11_wipe_17 : decode cX11_wipe 17 = .ok (.iload_n 1, 1) := by decide +kernel
theorem dX11_wipe_18 : decode cX11_wipe 18 = .ok (.aload_n 0, 1) := by decide +kernel
theorem dX11_wipe_19 : decode cX11_wipe 19 = .ok (.getfield 72, 3) := by decide +kernel
theorem dX11_wipe_22 : decode cX11_wipe 22 = .ok (.iload_n 2, 1) := by decide +kernel
theorem dX11_wipe_23 : decode cX11_wipe 23 = .ok (.iaload, 1) := by decide +kernel
theorem dX11_wipe_24 : decode cX11_wipe 24 = .ok (.ifCond .ne 12, 3) := by decide +kernel
theorem dX11_wipe_27 : decode cX11_wipe 27 = .ok (.aload_n 0, 1) := by decide +kernel
theorem dX11_wipe_28 : decode cX11_wipe 28 = .ok (.getfield 75, 3) := by decide +kernel
theorem dX11_wipe_31 : decode cX11_wipe 31 = .ok (.iload_n 2, 1) := by decide +kernel
theorem dX11_wipe_32 : decode cX11_wipe 32 = .ok (.iaload, 1) := by decide +kernel
theorem dX11_wipe_33 : decode cX11_wipe 33 = .ok (.ifCond .eq 7, 3) := by decide +kernel
theorem dX11_wipe_36 : decode cX11_wipe 36 = .ok (.iconst 1, 1) := by decide +kernel
theorem dX11_wipe_37 : decode cX11_wipe 37 = .ok (.goto 4, 3) := by decide +kernel
theorem dX11_wipe_40 : decode cX11_wipe 40 = .ok (.iconst 0, 1) := by decide +kernel
theorem dX11_wipe_41 : decode cX11_wipe 41 = .ok (.iadd, 1) := by decide +kernel
theorem dX11_wipe_42 : decode cX11_wipe 42 = .ok (.istore_n 1, 1) := by decide +kernel
theorem dX11_wipe_43 : decode cX11_wipe 43 = .ok (.iinc 2 1, 3) := by decide +kernel
theorem dX11_wipe_46 : decode cX11_wipe 46 = .ok (.goto (-37), 3) := by decide +kernel
theorem dX11_wipe_49 : decode cX11_wipe 49 = .ok (.aload_n 0, 1) := by decide +kernel
theorem dX11_wipe_50 : decode cX11_wipe 50 = .ok (.invokevirtual 334, 3) := by decide +kernel
theorem dX11_wipe_53 : decode cX11_wipe 53 = .ok (.aload_n 0, 1) := by decide +kernel
theorem dX11_wipe_54 : decode cX11_wipe 54 = .ok (.iconst 0, 1) := by decide +kernel
theorem dX11_wipe_55 : decode cX11_wipe 55 = .ok (.putfield 301, 3) := by decide +kernel
theorem dX11_wipe_58 : decode cX11_wipe 58 = .ok (.aload_n 0, 1) := by decide +kernel
theorem dX11_wipe_59 : decode cX11_wipe 59 = .ok (.iconst 0, 1) := by decide +kernel
theorem dX11_wipe_60 : decode cX11_wipe 60 = .ok (.putfield 304, 3) := by decide +kernel
theorem dX11_wipe_63 : decode cX11_wipe 63 = .ok (.aload_n 0, 1) := by decide +kernel
theorem dX11_wipe_64 : decode cX11_wipe 64 = .ok (.aload_n 0, 1) := by decide +kernel
theorem dX11_wipe_65 : decode cX11_wipe 65 = .ok (.getfield 274, 3) := by decide +kernel
theorem dX11_wipe_68 : decode cX11_wipe 68 = .ok (.aload_n 0, 1) := by decide +kernel
theorem dX11_wipe_69 : decode cX11_wipe 69 = .ok (.getfield 277, 3) := by decide +kernel
theorem dX11_wipe_72 : decode cX11_wipe 72 = .ok (.iand, 1) := by decide +kernel
theorem dX11_wipe_73 : decode cX11_wipe 73 = .ok (.putfield 271, 3) := by decide +kernel
theorem dX11_wipe_76 : decode cX11_wipe 76 = .ok (.iload_n 1, 1) := by decide +kernel
theorem dX11_wipe_77 : decode cX11_wipe 77 = .ok (.ireturn, 1) := by decide +kernel
theorem dX11_goes_0 : decode cX11_goes 0 = .ok (.aload_n 0, 1) := by decide +kernel
theorem dX11_goes_1 : decode cX11_goes 1 = .ok (.aload_n 0, 1) := by decide +kernel
theorem dX11_goes_2 : decode cX11_goes 2 = .ok (.getfield 295, 3) := by decide +kernel
theorem dX11_goes_5 : decode cX11_goes 5 = .ok (.aload_n 0, 1) := by decide +kernel
theorem dX11_goes_6 : decode cX11_goes 6 = .ok (.getfield 298, 3) := by decide +kernel
theorem dX11_goes_9 : decode cX11_goes 9 = .ok (.invokevirtual 327, 3) := by decide +kernel
theorem dX11_goes_12 : decode cX11_goes 12 = .ok (.ifCond .eq 4, 3) := by decide +kernel
theorem dX11_goes_15 : decode cX11_goes 15 = .ok (.return_, 1) := by decide +kernel
theorem dX11_goes_16 : decode cX11_goes 16 = .ok (.aload_n 0, 1) := by decide +kernel
theorem dX11_goes_17 : decode cX11_goes 17 = .ok (.aload_n 0, 1) := by decide +kernel
theorem dX11_goes_18 : decode cX11_goes 18 = .ok (.aload_n 0, 1) := by decide +kernel
theorem dX11_goes_19 : decode cX11_goes 19 = .ok (.getfield 295, 3) := by decide +kernel
theorem dX11_goes_22 : decode cX11_goes 22 = .ok (.aload_n 0, 1) := by decide +kernel
theorem dX11_goes_23 : decode cX11_goes 23 = .ok (.getfield 298, 3) := by decide +kernel
theorem dX11_goes_26 : decode cX11_goes 26 = .ok (.invokevirtual 314, 3) := by decide +kernel
theorem dX11_goes_29 : decode cX11_goes 29 = .ok (.putfield 295, 3) := by decide +kernel
theorem dX11_goes_32 : decode cX11_goes 32 = .ok (.aload_n 0, 1) := by decide +kernel
theorem dX11_goes_33 : decode cX11_goes 33 = .ok (.dup, 1) := by decide +kernel
theorem dX11_goes_34 : decode cX11_goes 34 = .ok (.getfield 337, 3) := by decide +kernel
theorem dX11_goes_37 : decode cX11_goes 37 = .ok (.iconst 1, 1) := by decide +kernel
theorem dX11_goes_38 : decode cX11_goes 38 = .ok (.iadd, 1) := by decide +kernel
theorem dX11_goes_39 : decode cX11_goes 39 = .ok (.putfield 337, 3) := by decide +kernel
theorem dX11_goes_42 : decode cX11_goes 42 = .ok (.return_, 1) := by decide +kernel
theorem dX11_holds_0 : decode cX11_holds 0 = .ok (.aload_n 0, 1) := by decide +kernel
theorem dX11_holds_1 : decode cX11_holds 1 = .ok (.getfield 26, 3) := by decide +kernel
theorem dX11_holds_4 : decode cX11_holds 4 = .ok (.iload_n 1, 1) := by decide +kernel
theorem dX11_holds_5 : decode cX11_holds 5 = .ok (.iaload, 1) := by decide +kernel
theorem dX11_holds_6 : decode cX11_holds 6 = .ok (.tableswitch 139 3 7 #[34, 50, 70, 95, 117], 34) := by decide +kernel
theorem dX11_holds_40 : decode cX11_holds 40 = .ok (.aload_n 0, 1) := by decide +kernel
theorem dX11_holds_41 : decode cX11_holds 41 = .ok (.aload_n 0, 1) := by decide +kernel
theorem dX11_holds_42 : decode cX11_holds 42 = .ok (.getfield 295, 3) := by decide +kernel
theorem dX11_holds_45 : decode cX11_holds 45 = .ok (.aload_n 0, 1) := by decide +kernel
theorem dX11_holds_46 : decode cX11_holds 46 = .ok (.getfield 298, 3) := by decide +kernel
theorem dX11_holds_49 : decode cX11_holds 49 = .ok (.invokevirtual 327, 3) := by decide +kernel
theorem dX11_holds_52 : decode cX11_holds 52 = .ok (.istore_n 2, 1) := by decide +kernel
theorem dX11_holds_53 : decode cX11_holds 53 = .ok (.goto 111, 3) := by decide +kernel
theorem dX11_holds_56 : decode cX11_holds 56 = .ok (.aload_n 0, 1) := by decide +kernel
theorem dX11_holds_57 : decode cX11_holds 57 = .ok (.getfield 295, 3) := by decide +kernel
theorem dX11_holds_60 : decode cX11_holds 60 = .ok (.aload_n 0, 1) := by decide +kernel
theorem dX11_holds_61 : decode cX11_holds 61 = .ok (.getfield 292, 3) := by decide +kernel
theorem dX11_holds_64 : decode cX11_holds 64 = .ok (.if_icmp .ne 7, 3) := by decide +kernel
theorem dX11_holds_67 : decode cX11_holds 67 = .ok (.iconst 1, 1) := by decide +kernel
theorem dX11_holds_68 : decode cX11_holds 68 = .ok (.goto 4, 3) := by decide +kernel
theorem dX11_holds_71 : decode cX11_holds 71 = .ok (.iconst 0, 1) := by decide +kernel
theorem dX11_holds_72 : decode cX11_holds 72 = .ok (.istore_n 2, 1) := by decide +kernel
theorem dX11_holds_73 : decode cX11_holds 73 = .ok (.goto 91, 3) := by decide +kernel
theorem dX11_holds_76 : decode cX11_holds 76 = .ok (.aload_n 0, 1) := by decide +kernel
theorem dX11_holds_77 : decode cX11_holds 77 = .ok (.getfield 298, 3) := by decide +kernel
theorem dX11_holds_80 : decode cX11_holds 80 = .ok (.aload_n 0, 1) := by decide +kernel
theorem dX11_holds_81 : decode cX11_holds 81 = .ok (.getfield 72, 3) := by decide +kernel
theorem dX11_holds_84 : decode cX11_holds 84 = .ok (.aload_n 0, 1) := by decide +kernel
theorem dX11_holds_85 : decode cX11_holds 85 = .ok (.getfield 295, 3) := by decide +kernel
theorem dX11_holds_88 : decode cX11_holds 88 = .ok (.iaload, 1) := by decide +kernel
theorem dX11_holds_89 : decode cX11_holds 89 = .ok (.if_icmp .ne 7, 3) := by decide +kernel
theorem dX11_holds_92 : decode cX11_holds 92 = .ok (.iconst 1, 1) := by decide +kernel
theorem dX11_holds_93 : decode cX11_holds 93 = .ok (.goto 4, 3) := by decide +kernel
theorem dX11_holds_96 : decode cX11_holds 96 = .ok (.iconst 0, 1) := by decide +kernel
theorem dX11_holds_97 : decode cX11_holds 97 = .ok (.istore_n 2, 1) := by decide +kernel
theorem dX11_holds_98 : decode cX11_holds 98 = .ok (.goto 66, 3) := by decide +kernel
theorem dX11_holds_101 : decode cX11_holds 101 = .ok (.aload_n 0, 1) := by decide +kernel
theorem dX11_holds_102 : decode cX11_holds 102 = .ok (.getfield 301, 3) := by decide +kernel
theorem dX11_holds_105 : decode cX11_holds 105 = .ok (.aload_n 0, 1) := by decide +kernel
theorem dX11_holds_106 : decode cX11_holds 106 = .ok (.getfield 29, 3) := by decide +kernel
theorem dX11_holds_109 : decode cX11_holds 109 = .ok (.iload_n 1, 1) := by decide +kernel
theorem dX11_holds_110 : decode cX11_holds 110 = .ok (.iaload, 1) := by decide +kernel
theorem dX11_holds_111 : decode cX11_holds 111 = .ok (.if_icmp .ne 7, 3) := by decide +kernel
theorem dX11_holds_114 : decode cX11_holds 114 = .ok (.iconst 1, 1) := by decide +kernel
theorem dX11_holds_115 : decode cX11_holds 115 = .ok (.goto 4, 3) := by decide +kernel
theorem dX11_holds_118 : decode cX11_holds 118 = .ok (.iconst 0, 1) := by decide +kernel
theorem dX11_holds_119 : decode cX11_holds 119 = .ok (.istore_n 2, 1) := by decide +kernel
theorem dX11_holds_120 : decode cX11_holds 120 = .ok (.goto 44, 3) := by decide +kernel
theorem dX11_holds_123 : decode cX11_holds 123 = .ok (.aload_n 0, 1) := by decide +kernel
theorem dX11_holds_124 : decode cX11_holds 124 = .ok (.getfield 304, 3) := by decide +kernel
theorem dX11_holds_127 : decode cX11_holds 127 = .ok (.aload_n 0, 1) := by decide +kernel
theorem dX11_holds_128 : decode cX11_holds 128 = .ok (.getfield 29, 3) := by decide +kernel
theorem dX11_holds_131 : decode cX11_holds 131 = .ok (.iload_n 1, 1) := by decide +kernel
theorem dX11_holds_132 : decode cX11_holds 132 = .ok (.iaload, 1) := by decide +kernel
theorem dX11_holds_133 : decode cX11_holds 133 = .ok (.if_icmp .lt 7, 3) := by decide +kernel
theorem dX11_holds_136 : decode cX11_holds 136 = .ok (.iconst 1, 1) := by decide +kernel
theorem dX11_holds_137 : decode cX11_holds 137 = .ok (.goto 4, 3) := by decide +kernel
theorem dX11_holds_140 : decode cX11_holds 140 = .ok (.iconst 0, 1) := by decide +kernel
theorem dX11_holds_141 : decode cX11_holds 141 = .ok (.istore_n 2, 1) := by decide +kernel
theorem dX11_holds_142 : decode cX11_holds 142 = .ok (.goto 22, 3) := by decide +kernel
theorem dX11_holds_145 : decode cX11_holds 145 = .ok (.aload_n 0, 1) := by decide +kernel
theorem dX11_holds_146 : decode cX11_holds 146 = .ok (.getfield 75, 3) := by decide +kernel
theorem dX11_holds_149 : decode cX11_holds 149 = .ok (.aload_n 0, 1) := by decide +kernel
theorem dX11_holds_150 : decode cX11_holds 150 = .ok (.getfield 295, 3) := by decide +kernel
theorem dX11_holds_153 : decode cX11_holds 153 = .ok (.iaload, 1) := by decide +kernel
theorem dX11_holds_154 : decode cX11_holds 154 = .ok (.aload_n 0, 1) := by decide +kernel
theorem dX11_holds_155 : decode cX11_holds 155 = .ok (.getfield 29, 3) := by decide +kernel
theorem dX11_holds_158 : decode cX11_holds 158 = .ok (.iload_n 1, 1) := by decide +kernel
