theorem dX11_thrown_0 : decode cX11_thrown 0 = .ok (.aload_n 0, 1) := by decide +kernel
theorem dX11_thrown_1 : decode cX11_thrown 1 = .ok (.getfield 130, 3) := by decide +kernel
theorem dX11_thrown_4 : decode cX11_thrown 4 = .ok (.ireturn, 1) := by decide +kernel
theorem dX11_feed_0 : decode cX11_feed 0 = .ok (.aload_n 0, 1) := by decide +kernel
theorem dX11_feed_1 : decode cX11_feed 1 = .ok (.iconst 0, 1) := by decide +kernel
theorem dX11_feed_2 : decode cX11_feed 2 = .ok (.putfield 130, 3) := by decide +kernel
theorem dX11_feed_5 : decode cX11_feed 5 = .ok (.aload_n 0, 1) := by decide +kernel
theorem dX11_feed_6 : decode cX11_feed 6 = .ok (.getfield 133, 3) := by decide +kernel
theorem dX11_feed_9 : decode cX11_feed 9 = .ok (.bipush 20, 2) := by decide +kernel
theorem dX11_feed_11 : decode cX11_feed 11 = .ok (.iadd, 1) := by decide +kernel
theorem dX11_feed_12 : decode cX11_feed 12 = .ok (.sipush 500, 3) := by decide +kernel
theorem dX11_feed_15 : decode cX11_feed 15 = .ok (.if_icmp .le 5, 3) := by decide +kernel
theorem dX11_feed_18 : decode cX11_feed 18 = .ok (.iconst (-1), 1) := by decide +kernel
theorem dX11_feed_19 : decode cX11_feed 19 = .ok (.ireturn, 1) := by decide +kernel
theorem dX11_feed_20 : decode cX11_feed 20 = .ok (.iconst 0, 1) := by decide +kernel
theorem dX11_feed_21 : decode cX11_feed 21 = .ok (.istore 6, 2) := by decide +kernel
theorem dX11_feed_23 : decode cX11_feed 23 = .ok (.iload 6, 2) := by decide +kernel
theorem dX11_feed_25 : decode cX11_feed 25 = .ok (.bipush 20, 2) := by decide +kernel
theorem dX11_feed_27 : decode cX11_feed 27 = .ok (.if_icmp .ge 86, 3) := by decide +kernel
theorem dX11_feed_30 : decode cX11_feed 30 = .ok (.iload 6, 2) := by decide +kernel
theorem dX11_feed_32 : decode cX11_feed 32 = .ok (.iconst 4, 1) := by decide +kernel
theorem dX11_feed_33 : decode cX11_feed 33 = .ok (.if_icmp .ge 7, 3) := by decide +kernel
theorem dX11_feed_36 : decode cX11_feed 36 = .ok (.iload_n 1, 1) := by decide +kernel
theorem dX11_feed_37 : decode cX11_feed 37 = .ok (.goto 39, 3) := by decide +kernel
theorem dX11_feed_40 : decode cX11_feed 40 = .ok (.iload 6, 2) := by decide +kernel
theorem dX11_feed_42 : decode cX11_feed 42 = .ok (.bipush 8, 2) := by decide +kernel
theorem dX11_feed_44 : decode cX11_feed 44 = .ok (.if_icmp .ge 7, 3) := by decide +kernel
theorem dX11_feed_47 : decode cX11_feed 47 = .ok (.iload_n 2, 1) := by decide +kernel
theorem dX11_feed_48 : decode cX11_feed 48 = .ok (.goto 28, 3) := by decide +kernel
theorem dX11_feed_51 : decode cX11_feed 51 = .ok (.iload 6, 2) := by decide +kernel
theorem dX11_feed_53 : decode cX11_feed 53 = .ok (.bipush 12, 2) := by decide +kernel
theorem dX11_feed_55 : decode cX11_feed 55 = .ok (.if_icmp .ge 7, 3) := by decide +kernel
theorem dX11_feed_58 : decode cX11_feed 58 = .ok (.iload_n 3, 1) := by decide +kernel
theorem dX11_feed_59 : decode cX11_feed 59 = .ok (.goto 17, 3) := by decide +kernel
theorem dX11_feed_62 : decode cX11_feed 62 = .ok (.iload 6, 2) := by decide +kernel
theorem dX11_feed_64 : decode cX11_feed 64 = .ok (.bipush 16, 2) := by decide +kernel
theorem dX11_feed_66 : decode cX11_feed 66 = .ok (.if_icmp .ge 8, 3) := by decide +kernel
theorem dX11_feed_69 : decode cX11_feed 69 = .ok (.iload 4, 2) := by decide +kernel
theorem dX11_feed_71 : decode cX11_feed 71 = .ok (.goto 5, 3) := by decide +kernel
theorem dX11_feed_74 : decode cX11_feed 74 = .ok (.iload 5, 2) := by decide +kernel
theorem dX11_feed_76 : decode cX11_feed 76 = .ok (.istore 7, 2) := by decide +kernel
theorem dX11_feed_78 : decode cX11_feed 78 = .ok (.aload_n 0, 1) := by decide +kernel
theorem dX11_feed_79 : decode cX11_feed 79 = .ok (.getfield 7, 3) := by decide +kernel
theorem dX11_feed_82 : decode cX11_feed 82 = .ok (.aload_n 0, 1) := by decide +kernel
theorem dX11_feed_83 : decode cX11_feed 83 = .ok (.getfield 133, 3) := by decide +kernel
theorem dX11_feed_86 : decode cX11_feed 86 = .ok (.iload 6, 2) := by decide +kernel
theorem dX11_feed_88 : decode cX11_feed 88 = .ok (.iadd, 1) := by decide +kernel
theorem dX11_feed_89 : decode cX11_feed 89 = .ok (.iload 7, 2) := by decide +kernel
theorem dX11_feed_91 : decode cX11_feed 91 = .ok (.bipush 24, 2) := by decide +kernel
theorem dX11_feed_93 : decode cX11_feed 93 = .ok (.bipush 8, 2) := by decide +kernel
theorem dX11_feed_95 : decode cX11_feed 95 = .ok (.iload 6, 2) := by decide +kernel
theorem dX11_feed_97 : decode cX11_feed 97 = .ok (.iconst 4, 1) := by decide +kernel
theorem dX11_feed_98 : decode cX11_feed 98 = .ok (.irem, 1) := by decide +kernel
theorem dX11_feed_99 : decode cX11_feed 99 = .ok (.imul, 1) := by decide +kernel
theorem dX11_feed_100 : decode cX11_feed 100 = .ok (.isub, 1) := by decide +kernel
theorem dX11_feed_101 : decode cX11_feed 101 = .ok (.ishr, 1) := by decide +kernel
theorem dX11_feed_102 : decode cX11_feed 102 = .ok (.sipush 255, 3) := by decide +kernel
theorem dX11_feed_105 : decode cX11_feed 105 = .ok (.iand, 1) := by decide +kernel
theorem dX11_feed_106 : decode cX11_feed 106 = .ok (.iastore, 1) := by decide +kernel
theorem dX11_feed_107 : decode cX11_feed 107 = .ok (.iinc 6 1, 3) := by decide +kernel
theorem dX11_feed_110 : decode cX11_feed 110 = .ok (.goto (-87), 3) := by decide +kernel
theorem dX11_feed_113 : decode cX11_feed 113 = .ok (.aload_n 0, 1) := by decide +kernel
theorem dX11_feed_114 : decode cX11_feed 114 = .ok (.dup, 1) := by decide +kernel
theorem dX11_feed_115 : decode cX11_feed 115 = .ok (.getfield 133, 3) := by decide +kernel
theorem dX11_feed_118 : decode cX11_feed 118 = .ok (.bipush 20, 2) := by decide +kernel
theorem dX11_feed_120 : decode cX11_feed 120 = .ok (.iadd, 1) := by decide +kernel
theorem dX11_feed_121 : decode cX11_feed 121 = .ok (.putfield 133, 3) := by decide +kernel
theorem dX11_feed_124 : decode cX11_feed 124 = .ok (.aload_n 0, 1) := by decide +kernel
theorem dX11_feed_125 : decode cX11_feed 125 = .ok (.getfield 133, 3) := by decide +kernel
theorem dX11_feed_128 : decode cX11_feed 128 = .ok (.ireturn, 1) := by decide +kernel
theorem dX11_isIn_0 : decode cX11_isIn 0 = .ok (.iload_n 0, 1) := by decide +kernel
theorem dX11_isIn_1 : decode cX11_isIn 1 = .ok (.iload_n 1, 1) := by decide +kernel
theorem dX11_isIn_2 : decode cX11_isIn 2 = .ok (.if_icmp .lt 12, 3) := by decide +kernel
theorem dX11_isIn_5 : decode cX11_isIn 5 = .ok (.iload_n 0, 1) := by decide +kernel
theorem dX11_isIn_6 : decode cX11_isIn 6 = .ok (.iload_n 2, 1) := by decide +kernel
theorem dX11_isIn_7 : decode cX11_isIn 7 = .ok (.if_icmp .gt 7, 3) := by decide +kernel
theorem dX11_isIn_10 : decode cX11_isIn 10 = .ok (.iconst 1, 1) := by decide +kernel
theorem dX11_isIn_11 : decode cX11_isIn 11 = .ok (.goto 4, 3) := by decide +kernel
theorem dX11_isIn_14 : decode cX11_isIn 14 = .ok (.iconst 0, 1) := by decide +kernel
theorem dX11_isIn_15 : decode cX11_isIn 15 = .ok (.ireturn, 1) := by decide +kernel
theorem dX11_isOf_0 : decode cX11_isOf 0 = .ok (.iload_n 0, 1) := by decide +kernel
theorem dX11_isOf_1 : decode cX11_isOf 1 = .ok (.iload_n 1, 1) := by decide +kernel
theorem dX11_isOf_2 : decode cX11_isOf 2 = .ok (.ishr, 1) := by decide +kernel
theorem dX11_isOf_3 : decode cX11_isOf 3 = .ok (.iconst 1, 1) := by decide +kernel
theorem dX11_isOf_4 : decode cX11_isOf 4 = .ok (.iand, 1) := by decide +kernel
theorem dX11_isOf_5 : decode cX11_isOf 5 = .ok (.iconst 1, 1) := by decide +kernel
theorem dX11_isOf_6 : decode cX11_isOf 6 = .ok (.if_icmp .ne 7, 3) := by decide +kernel
theorem dX11_isOf_9 : decode cX11_isOf 9 = .ok (.iconst 1, 1) := by decide +kernel
theorem dX11_isOf_10 : decode cX11_isOf 10 = .ok (.goto 4, 3) := by decide +kernel
theorem dX11_isOf_13 : decode cX11_isOf 13 = .ok (.iconst 0, 1) := by decide +kernel
theorem dX11_isOf_14 : decode cX11_isOf 14 = .ok (.ireturn, 1) := by decide +kernel
theorem dX11_take_0 : decode cX11_take 0 = .ok (.aload_n 0, 1) := by decide +kernel
theorem dX11_take_1 : decode cX11_take 1 = .ok (.getfield 145, 3) := by decide +kernel
theorem dX11_take_4 : decode cX11_take 4 = .ok (.aload_n 0, 1) := by decide +kernel
theorem dX11_take_5 : decode cX11_take 5 = .ok (.getfield 142, 3) := by decide +kernel
theorem dX11_take_8 : decode cX11_take 8 = .ok (.if_icmp .ge 44, 3) := by decide +kernel
theorem dX11_take_11 : decode cX11_take 11 = .ok (.aload_n 0, 1) := by decide +kernel
theorem dX11_take_12 : decode cX11_take 12 = .ok (.getfield 7, 3) := by decide +kernel
theorem dX11_take_15 : decode cX11_take 15 = .ok (.aload_n 0, 1) := by decide +kernel
theorem dX11_take_16 : decode cX11_take 16 = .ok (.getfield 145, 3) := by decide +kernel
theorem dX11_take_19 : decode cX11_take 19 = .ok (.iaload, 1) := by decide +kernel
theorem dX11_take_20 : decode cX11_take 20 = .ok (.bipush 10, 2) := by decide +kernel
theorem dX11_take_22 : decode cX11_take 22 = .ok (.if_icmp .eq 17, 3) := by decide +kernel
theorem dX11_take_25 : decode cX11_take 25 = .ok (.aload_n 0, 1) := by decide +kernel
theorem dX11_take_26 : decode cX11_take 26 = .ok (.getfield 7, 3) := by decide +kernel
theorem dX11_take_29 : decode cX11_take 29 = .ok (.aload_n 0, 1) := by decide +kernel
theorem dX11_take_30 : decode cX11_take 30 = .ok (.getfield 145, 3) := by decide +kernel
theorem dX11_take_33 : decode cX11_take 33 = .ok (.iaload, 1) := by decide +kernel
theorem dX11_take_34 : decode cX11_take 34 = .ok (.bipush 32, 2) := by decide +kernel
theorem dX11_take_36 : decode cX11_take 36 = .ok (.if_icmp .ne 16, 3) := by decide +kernel
theorem dX11_take_39 : decode cX11_take 39 = .ok (.aload_n 0, 1) := by decide +kernel
theorem dX11_take_40 : decode cX11_take 40 = .ok (.dup, 1) := by decide +kernel
theorem dX11_take_41 : decode cX11_take 41 = .ok (.getfield 145, 3) := by decide +kernel
theorem dX11_take_44 : decode cX11_take 44 = .ok (.iconst 1, 1) := by decide +kernel
theorem dX11_take_45 : decode cX11_take 45 = .ok (.iadd, 1) := by decide +kernel
theorem dX11_take_46 : decode cX11_take 46 = .ok (.putfield 145, 3) := by decide +kernel
theorem dX11_take_49 : decode cX11_take 49 = .ok (.goto (-49), 3) := by decide +kernel
theorem dX11_take_52 : decode cX11_take 52 = .ok (.aload_n 0, 1) := by decide +kernel
theorem dX11_take_53 : decode cX11_take 53 = .ok (.aload_n 0, 1) := by decide +kernel
theorem dX11_take_54 : decode cX11_take 54 = .ok (.getfield 145, 3) := by decide +kernel
theorem dX11_take_57 : decode cX11_take 57 = .ok (.putfield 139, 3) := by decide +kernel
theorem dX11_take_60 : decode cX11_take 60 = .ok (.aload_n 0, 1) := by decide +kernel
theorem dX11_take_61 : decode cX11_take 61 = .ok (.getfield 145, 3) := by decide +kernel
theorem dX11_take_64 : decode cX11_take 64 = .ok (.aload_n 0, 1) := by decide +kernel
theorem dX11_take_65 : decode cX11_take 65 = .ok (.getfield 142, 3) := by decide +kernel
theorem dX11_take_68 : decode cX11_take 68 = .ok (.if_icmp .ne 11, 3) := by decide +kernel
theorem dX11_take_71 : decode cX11_take 71 = .ok (.aload_n 0, 1) := by decide +kernel
theorem dX11_take_72 : decode cX11_take 72 = .ok (.iconst 0, 1) := by decide +kernel
theorem dX11_take_73 : decode cX11_take 73 = .ok (.putfield 148, 3) := by decide +kernel
theorem dX11_take_76 : decode cX11_take 76 = .ok (.goto 331, 3) := by decide +kernel
theorem dX11_take_79 : decode cX11_take 79 = .ok (.aload_n 0, 1) := by decide +kernel
theorem dX11_take_80 : decode cX11_take 80 = .ok (.aload_n 0, 1) := by decide +kernel
theorem dX11_take_81 : decode cX11_take 81 = .ok (.getfield 145, 3) := by decide +kernel
theorem dX11_take_84 : decode cX11_take 84 = .ok (.invokevirtual 151, 3) := by decide +kernel
theorem dX11_take_87 : decode cX11_take 87 = .ok (.ifCond .eq 150, 3) := by decide +kernel
theorem dX11_take_90 : decode cX11_take 90 = .ok (.aload_n 0, 1) := by decide +kernel
theorem dX11_take_91 : decode cX11_take 91 = .ok (.aload_n 0, 1) := by decide +kernel
theorem dX11_take_92 : decode cX11_take 92 = .ok (.getfield 145, 3) := by decide +kernel
theorem dX11_take_95 : decode cX11_take 95 = .ok (.invokevirtual 151, 3) := by decide +kernel
theorem dX11_take_98 : decode cX11_take 98 = .ok (.ifCond .eq 16, 3) := by decide +kernel
theorem dX11_take_101 : decode cX11_take 101 = .ok (.aload_n 0, 1) := by decide +kernel
theorem dX11_take_102 : decode cX11_take 102 = .ok (.dup, 1) := by decide +kernel
theorem dX11_take_103 : decode cX11_take 103 = .ok (.getfield 145, 3) := by decide +kernel
theorem dX11_take_106 : decode cX11_take 106 = .ok (.iconst 1, 1) := by decide +kernel
theorem dX11_take_107 : decode cX11_take 107 = .ok (.iadd, 1) := by decide +kernel
theorem dX11_take_108 : decode cX11_take 108 = .ok (.putfield 145, 3) := by decide +kernel
theorem dX11_take_111 : decode cX11_take 111 = .ok (.goto (-21), 3) := by decide +kernel
theorem dX11_take_114 : decode cX11_take 114 = .ok (.aload_n 0, 1) := by decide +kernel
theorem dX11_take_115 : decode cX11_take 115 = .ok (.aload_n 0, 1) := by decide +kernel
theorem dX11_take_116 : decode cX11_take 116 = .ok (.aload_n 0, 1) := by decide +kernel
theorem dX11_take_117 : decode cX11_take 117 = .ok (.getfield 139, 3) := by decide +kernel
theorem dX11_take_120 : decode cX11_take 120 = .ok (.aload_n 0, 1) := by decide +kernel
theorem dX11_take_121 : decode cX11_take 121 = .ok (.getfield 145, 3) := by decide +kernel
theorem dX11_take_124 : decode cX11_take 124 = .ok (.invokevirtual 155, 3) := by decide +kernel
theorem dX11_take_127 : decode cX11_take 127 = .ok (.putfield 159, 3) := by decide +kernel
theorem dX11_take_130 : decode cX11_take 130 = .ok (.aload_n 0, 1) := by decide +kernel
theorem dX11_take_131 : decode cX11_take 131 = .ok (.getfield 159, 3) := by decide +kernel
theorem dX11_take_134 : decode cX11_take 134 = .ok (.ifCond .lt 36, 3) := by decide +kernel
theorem dX11_take_137 : decode cX11_take 137 = .ok (.aload_n 0, 1) := by decide +kernel
theorem dX11_take_138 : decode cX11_take 138 = .ok (.getfield 162, 3) := by decide +kernel
theorem dX11_take_141 : decode cX11_take 141 = .ok (.ifCond .eq 16, 3) := by decide +kernel
theorem dX11_take_144 : decode cX11_take 144 = .ok (.aload_n 0, 1) := by decide +kernel
theorem dX11_take_145 : decode cX11_take 145 = .ok (.getfield 159, 3) := by decide +kernel
theorem dX11_take_148 : decode cX11_take 148 = .ok (.invokestatic 166, 3) := by decide +kernel
theorem dX11_take_151 : decode cX11_take 151 = .ok (.ifCond .eq 19, 3) := by decide +kernel
theorem dX11_take_154 : decode cX11_take 154 = .ok (.goto 12, 3) := by decide +kernel
theorem dX11_take_157 : decode cX11_take 157 = .ok (.aload_n 0, 1) := by decide +kernel
theorem dX11_take_158 : decode cX11_take 158 = .ok (.getfield 159, 3) := by decide +kernel
theorem dX11_take_161 : decode cX11_take 161 = .ok (.bipush 20, 2) := by decide +kernel
theorem dX11_take_163 : decode cX11_take 163 = .ok (.if_icmp .ge 7, 3) := by decide +kernel
theorem dX11_take_166 : decode cX11_take 166 = .ok (.iconst 1, 1) := by decide +kernel
theorem dX11_take_167 : decode cX11_take 167 = .ok (.goto 4, 3) := by decide +kernel
theorem dX11_take_170 : decode cX11_take 170 = .ok (.iconst 0, 1) := by decide +kernel
theorem dX11_take_171 : decode cX11_take 171 = .ok (.istore_n 1, 1) := by decide +kernel
theorem dX11_take_172 : decode cX11_take 172 = .ok (.aload_n 0, 1) := by decide +kernel
theorem dX11_take_173 : decode cX11_take 173 = .ok (.iload_n 1, 1) := by decide +kernel
theorem dX11_take_174 : decode cX11_take 174 = .ok (.ifCond .eq 7, 3) := by decide +kernel
theorem dX11_take_177 : decode cX11_take 177 = .ok (.iconst 1, 1) := by decide +kernel
theorem dX11_take_178 : decode cX11_take 178 = .ok (.goto 29, 3) := by decide +kernel
theorem dX11_take_181 : decode cX11_take 181 = .ok (.aload_n 0, 1) := by decide +kernel
theorem dX11_take_182 : decode cX11_take 182 = .ok (.getfield 162, 3) := by decide +kernel
theorem dX11_take_185 : decode cX11_take 185 = .ok (.ifCond .eq 21, 3) := by decide +kernel
theorem dX11_take_188 : decode cX11_take 188 = .ok (.aload_n 0, 1) := by decide +kernel
theorem dX11_take_189 : decode cX11_take 189 = .ok (.getfield 145, 3) := by decide +kernel
theorem dX11_take_192 : decode cX11_take 192 = .ok (.aload_n 0, 1) := by decide +kernel
theorem dX11_take_193 : decode cX11_take 193 = .ok (.getfield 139, 3) := by decide +kernel
theorem dX11_take_196 : decode cX11_take 196 = .ok (.isub, 1) := by decide +kernel
theorem dX11_take_197 : decode cX11_take 197 = .ok (.bipush 7, 2) := by decide +kernel
theorem dX11_take_199 : decode cX11_take 199 = .ok (.if_icmp .ge 7, 3) := by decide +kernel
theorem dX11_take_202 : decode cX11_take 202 = .ok (.iconst 2, 1) := by decide +kernel
theorem dX11_take_203 : decode cX11_take 203 = .ok (.goto 4, 3) := by decide +kernel
theorem dX11_take_206 : decode cX11_take 206 = .ok (.iconst 5, 1) := by decide +kernel
theorem dX11_take_207 : decode cX11_take 207 = .ok (.putfield 148, 3) := by decide +kernel
theorem dX11_take_210 : decode cX11_take 210 = .ok (.aload_n 0, 1) := by decide +kernel
theorem dX11_take_211 : decode cX11_take 211 = .ok (.getfield 148, 3) := by decide +kernel
theorem dX11_take_214 : decode cX11_take 214 = .ok (.iconst 2, 1) := by decide +kernel
theorem dX11_take_215 : decode cX11_take 215 = .ok (.if_icmp .ne 19, 3) := by decide +kernel
theorem dX11_take_218 : decode cX11_take 218 = .ok (.aload_n 0, 1) := by decide +kernel
theorem dX11_take_219 : decode cX11_take 219 = .ok (.aload_n 0, 1) := by decide +kernel
theorem dX11_take_220 : decode cX11_take 220 = .ok (.aload_n 0, 1) := by decide +kernel
theorem dX11_take_221 : decode cX11_take 221 = .ok (.getfield 139, 3) := by decide +kernel
theorem dX11_take_224 : decode cX11_take 224 = .ok (.aload_n 0, 1) := by decide +kernel
theorem dX11_take_225 : decode cX11_take 225 = .ok (.getfield 145, 3) := by decide +kernel
theorem dX11_take_228 : decode cX11_take 228 = .ok (.invokevirtual 169, 3) := by decide +kernel
theorem dX11_take_231 : decode cX11_take 231 = .ok (.putfield 159, 3) := by decide +kernel
theorem dX11_take_234 : decode cX11_take 234 = .ok (.goto 173, 3) := by decide +kernel
theorem dX11_take_237 : decode cX11_take 237 = .ok (.aload_n 0, 1) := by decide +kernel
theorem dX11_take_238 : decode cX11_take 238 = .ok (.aload_n 0, 1) := by decide +kernel
theorem dX11_take_239 : decode cX11_take 239 = .ok (.getfield 145, 3) := by decide +kernel
theorem dX11_take_242 : decode cX11_take 242 = .ok (.invokevirtual 172, 3) := by decide +kernel
theorem dX11_take_245 : decode cX11_take 245 = .ok (.ifCond .eq 77, 3) := by decide +kernel
theorem dX11_take_248 : decode cX11_take 248 = .ok (.aload_n 0, 1) := by decide +kernel
theorem dX11_take_249 : decode cX11_take 249 = .ok (.iconst 3, 1) := by decide +kernel
theorem dX11_take_250 : decode cX11_take 250 = .ok (.putfield 148, 3) := by decide +kernel
theorem dX11_take_253 : decode cX11_take 253 = .ok (.aload_n 0, 1) := by decide +kernel
theorem dX11_take_254 : decode cX11_take 254 = .ok (.iconst 0, 1) := by decide +kernel
theorem dX11_take_255 : decode cX11_take 255 = .ok (.putfield 159, 3) := by decide +kernel
theorem dX11_take_258 : decode cX11_take 258 = .ok (.aload_n 0, 1) := by decide +kernel
theorem dX11_take_259 : decode cX11_take 259 = .ok (.aload_n 0, 1) := by decide +kernel
theorem dX11_take_260 : decode cX11_take 260 = .ok (.getfield 145, 3) := by decide +kernel
theorem dX11_take_263 : decode cX11_take 263 = .ok (.invokevirtual 172, 3) := by decide +kernel
theorem dX11_take_266 : decode cX11_take 266 = .ok (.ifCond .eq 141, 3) := by decide +kernel
theorem dX11_take_269 : decode cX11_take 269 = .ok (.aload_n 0, 1) := by decide +kernel
theorem dX11_take_270 : decode cX11_take 270 = .ok (.aload_n 0, 1) := by decide +kernel
theorem dX11_take_271 : decode cX11_take 271 = .ok (.getfield 159, 3) := by decide +kernel
theorem dX11_take_274 : decode cX11_take 274 = .ok (.bipush 99, 2) := by decide +kernel
theorem dX11_take_276 : decode cX11_take 276 = .ok (.if_icmp .le 10, 3) := by decide +kernel
theorem dX11_take_279 : decode cX11_take 279 = .ok (.aload_n 0, 1) := by decide +kernel
theorem dX11_take_280 : decode cX11_take 280 = .ok (.getfield 159, 3) := by decide +kernel
theorem dX11_take_283 : decode cX11_take 283 = .ok (.goto 23, 3) := by decide +kernel
theorem dX11_take_286 : decode cX11_take 286 = .ok (.bipush 10, 2) := by decide +kernel
theorem dX11_take_288 : decode cX11_take 288 = .ok (.aload_n 0, 1) := by decide +kernel
theorem dX11_take_289 : decode cX11_take 289 = .ok (.getfield 159, 3) := by decide +kernel
theorem dX11_take_292 : decode cX11_take 292 = .ok (.imul, 1) := by decide +kernel
theorem dX11_take_293 : decode cX11_take 293 = .ok (.aload_n 0, 1) := by decide +kernel
theorem dX11_take_294 : decode cX11_take 294 = .ok (.getfield 7, 3) := by decide +kernel
theorem dX11_take_297 : decode cX11_take 297 = .ok (.aload_n 0, 1) := by decide +kernel
theorem dX11_take_298 : decode cX11_take 298 = .ok (.getfield 145, 3) := by decide +kernel
theorem dX11_take_301 : decode cX11_take 301 = .ok (.iaload, 1) := by decide +kernel
theorem dX11_take_302 : decode cX11_take 302 = .ok (.iadd, 1) := by decide +kernel
theorem dX11_take_303 : decode cX11_take 303 = .ok (.bipush 48, 2) := by decide +kernel
theorem dX11_take_305 : decode cX11_take 305 = .ok (.isub, 1) := by decide +kernel
theorem dX11_take_306 : decode cX11_take 306 = .ok (.putfield 159, 3) := by decide +kernel
theorem dX11_take_309 : decode cX11_take 309 = .ok (.aload_n 0, 1) := by decide +kernel
theorem dX11_take_310 : decode cX11_take 310 = .ok (.dup, 1) := by decide +kernel
theorem dX11_take_311 : decode cX11_take 311 = .ok (.getfield 145, 3) := by decide +kernel
theorem dX11_take_314 : decode cX11_take 314 = .ok (.iconst 1, 1) := by decide +kernel
theorem dX11_take_315 : decode cX11_take 315 = .ok (.iadd, 1) := by decide +kernel
theorem dX11_take_316 : decode cX11_take 316 = .ok (.putfield 145, 3) := by decide +kernel
theorem dX11_take_319 : decode cX11_take 319 = .ok (.goto (-61), 3) := by decide +kernel
theorem dX11_take_322 : decode cX11_take 322 = .ok (.aload_n 0, 1) := by decide +kernel
theorem dX11_take_323 : decode cX11_take 323 = .ok (.aload_n 0, 1) := by decide +kernel
theorem dX11_take_324 : decode cX11_take 324 = .ok (.getfield 7, 3) := by decide +kernel
theorem dX11_take_327 : decode cX11_take 327 = .ok (.aload_n 0, 1) := by decide +kernel
theorem dX11_take_328 : decode cX11_take 328 = .ok (.getfield 145, 3) := by decide +kernel
theorem dX11_take_331 : decode cX11_take 331 = .ok (.iaload, 1) := by decide +kernel
theorem dX11_take_332 : decode cX11_take 332 = .ok (.putfield 159, 3) := by decide +kernel
theorem dX11_take_335 : decode cX11_take 335 = .ok (.aload_n 0, 1) := by decide +kernel
theorem dX11_take_336 : decode cX11_take 336 = .ok (.getfield 162, 3) := by decide +kernel
theorem dX11_take_339 : decode cX11_take 339 = .ok (.ifCond .eq 34, 3) := by decide +kernel
theorem dX11_take_342 : decode cX11_take 342 = .ok (.aload_n 0, 1) := by decide +kernel
theorem dX11_take_343 : decode cX11_take 343 = .ok (.getfield 159, 3) := by decide +kernel
theorem dX11_take_346 : decode cX11_take 346 = .ok (.bipush 40, 2) := by decide +kernel
theorem dX11_take_348 : decode cX11_take 348 = .ok (.if_icmp .eq 21, 3) := by decide +kernel
theorem dX11_take_351 : decode cX11_take 351 = .ok (.aload_n 0, 1) := by decide +kernel
theorem dX11_take_352 : decode cX11_take 352 = .ok (.getfield 159, 3) := by decide +kernel
theorem dX11_take_355 : decode cX11_take 355 = .ok (.bipush 41, 2) := by decide +kernel
theorem dX11_take_357 : decode cX11_take 357 = .ok (.if_icmp .eq 12, 3) := by decide +kernel
theorem dX11_take_360 : decode cX11_take 360 = .ok (.aload_n 0, 1) := by decide +kernel
theorem dX11_take_361 : decode cX11_take 361 = .ok (.getfield 159, 3) := by decide +kernel
theorem dX11_take_364 : decode cX11_take 364 = .ok (.bipush 61, 2) := by decide +kernel
theorem dX11_take_366 : decode cX11_take 366 = .ok (.if_icmp .ne 7, 3) := by decide +kernel
theorem dX11_take_369 : decode cX11_take 369 = .ok (.iconst 1, 1) := by decide +kernel
theorem dX11_take_370 : decode cX11_take 370 = .ok (.goto 4, 3) := by decide +kernel
theorem dX11_take_373 : decode cX11_take 373 = .ok (.iconst 0, 1) := by decide +kernel
theorem dX11_take_374 : decode cX11_take 374 = .ok (.istore_n 1, 1) := by decide +kernel
theorem dX11_take_375 : decode cX11_take 375 = .ok (.aload_n 0, 1) := by decide +kernel
theorem dX11_take_376 : decode cX11_take 376 = .ok (.aload_n 0, 1) := by decide +kernel
theorem dX11_take_377 : decode cX11_take 377 = .ok (.getfield 159, 3) := by decide +kernel
theorem dX11_take_380 : decode cX11_take 380 = .ok (.bipush 59, 2) := by decide +kernel
theorem dX11_take_382 : decode cX11_take 382 = .ok (.if_icmp .eq 7, 3) := by decide +kernel
theorem dX11_take_385 : decode cX11_take 385 = .ok (.iload_n 1, 1) := by decide +kernel
theorem dX11_take_386 : decode cX11_take 386 = .ok (.ifCond .eq 7, 3) := by decide +kernel
theorem dX11_take_389 : decode cX11_take 389 = .ok (.iconst 4, 1) := by decide +kernel
theorem dX11_take_390 : decode cX11_take 390 = .ok (.goto 4, 3) := by decide +kernel
theorem dX11_take_393 : decode cX11_take 393 = .ok (.iconst 5, 1) := by decide +kernel
theorem dX11_take_394 : decode cX11_take 394 = .ok (.putfield 148, 3) := by decide +kernel
theorem dX11_take_397 : decode cX11_take 397 = .ok (.aload_n 0, 1) := by decide +kernel
theorem dX11_take_398 : decode cX11_take 398 = .ok (.dup, 1) := by decide +kernel
theorem dX11_take_399 : decode cX11_take 399 = .ok (.getfield 145, 3) := by decide +kernel
theorem dX11_take_402 : decode cX11_take 402 = .ok (.iconst 1, 1) := by decide +kernel
theorem dX11_take_403 : decode cX11_take 403 = .ok (.iadd, 1) := by decide +kernel
theorem dX11_take_404 : decode cX11_take 404 = .ok (.putfield 145, 3) := by decide +kernel
theorem dX11_take_407 : decode cX11_take 407 = .ok (.return_, 1) := by decide +kernel
theorem dX11_starts_0 : decode cX11_starts 0 = .ok (.iload_n 1, 1) := by decide +kernel
theorem dX11_starts_1 : decode cX11_starts 1 = .ok (.ifCond .lt 11, 3) := by decide +kernel
theorem dX11_starts_4 : decode cX11_starts 4 = .ok (.iload_n 1, 1) := by decide +kernel
theorem dX11_starts_5 : decode cX11_starts 5 = .ok (.aload_n 0, 1) := by decide +kernel
theorem dX11_starts_6 : decode cX11_starts 6 = .ok (.getfield 133, 3) := by decide +kernel
theorem dX11_starts_9 : decode cX11_starts 9 = .ok (.if_icmp .le 5, 3) := by decide +kernel
theorem dX11_starts_12 : decode cX11_starts 12 = .ok (.iconst 0, 1) := by decide +kernel
theorem dX11_starts_13 : decode cX11_starts 13 = .ok (.ireturn, 1) := by decide +kernel
theorem dX11_starts_14 : decode cX11_starts 14 = .ok (.aload_n 0, 1) := by decide +kernel
theorem dX11_starts_15 : decode cX11_starts 15 = .ok (.iload_n 1, 1) := by decide +kernel
theorem dX11_starts_16 : decode cX11_starts 16 = .ok (.putfield 142, 3) := by decide +kernel
theorem dX11_starts_19 : decode cX11_starts 19 = .ok (.aload_n 0, 1) := by decide +kernel
theorem dX11_starts_20 : decode cX11_starts 20 = .ok (.iconst 0, 1) := by decide +kernel
theorem dX11_starts_21 : decode cX11_starts 21 = .ok (.putfield 133, 3) := by decide +kernel
theorem dX11_starts_24 : decode cX11_starts 24 = .ok (.aload_n 0, 1) := by decide +kernel
theorem dX11_starts_25 : decode cX11_starts 25 = .ok (.iconst 0, 1) := by decide +kernel
theorem dX11_starts_26 : decode cX11_starts 26 = .ok (.putfield 136, 3) := by decide +kernel
theorem dX11_starts_29 : decode cX11_starts 29 = .ok (.aload_n 0, 1) := by decide +kernel
theorem dX11_starts_30 : decode cX11_starts 30 = .ok (.iconst (-1), 1) := by decide +kernel
theorem dX11_starts_31 : decode cX11_starts 31 = .ok (.putfield 16, 3) := by decide +kernel
theorem dX11_starts_34 : decode cX11_starts 34 = .ok (.aload_n 0, 1) := by decide +kernel
theorem dX11_starts_35 : decode cX11_starts 35 = .ok (.iconst 0, 1) := by decide +kernel
theorem dX11_starts_36 : decode cX11_starts 36 = .ok (.putfield 145, 3) := by decide +kernel
theorem dX11_starts_39 : decode cX11_starts 39 = .ok (.aload_n 0, 1) := by decide +kernel
theorem dX11_starts_40 : decode cX11_starts 40 = .ok (.iload_n 2, 1) := by decide +kernel
theorem dX11_starts_41 : decode cX11_starts 41 = .ok (.putfield 162, 3) := by decide +kernel
theorem dX11_starts_44 : decode cX11_starts 44 = .ok (.aload_n 0, 1) := by decide +kernel
theorem dX11_starts_45 : decode cX11_starts 45 = .ok (.invokevirtual 181, 3) := by decide +kernel
theorem dX11_starts_48 : decode cX11_starts 48 = .ok (.iconst 1, 1) := by decide +kernel
theorem dX11_starts_49 : decode cX11_starts 49 = .ok (.ireturn, 1) := by decide +kernel
theorem dX11_rules_0 : decode cX11_rules 0 = .ok (.aload_n 0, 1) := by decide +kernel
theorem dX11_rules_1 : decode cX11_rules 1 = .ok (.iconst 0, 1) := by decide +kernel
theorem dX11_rules_2 : decode cX11_rules 2 = .ok (.putfield 130, 3) := by decide +kernel
theorem dX11_rules_5 : decode cX11_rules 5 = .ok (.aload_n 0, 1) := by decide +kernel
theorem dX11_rules_6 : decode cX11_rules 6 = .ok (.iload_n 1, 1) := by decide +kernel
theorem dX11_rules_7 : decode cX11_rules 7 = .ok (.iconst 0, 1) := by decide +kernel
theorem dX11_rules_8 : decode cX11_rules 8 = .ok (.invokevirtual 196, 3) := by decide +kernel
theorem dX11_rules_11 : decode cX11_rules 11 = .ok (.ifCond .ne 6, 3) := by decide +kernel
theorem dX11_rules_14 : decode cX11_rules 14 = .ok (.bipush (-2), 2) := by decide +kernel
theorem dX11_rules_16 : decode cX11_rules 16 = .ok (.ireturn, 1) := by decide +kernel
theorem dX11_rules_17 : decode cX11_rules 17 = .ok (.iconst 0, 1) := by decide +kernel
theorem dX11_rules_18 : decode cX11_rules 18 = .ok (.istore_n 2, 1) := by decide +kernel
theorem dX11_rules_19 : decode cX11_rules 19 = .ok (.aload_n 0, 1) := by decide +kernel
theorem dX11_rules_20 : decode cX11_rules 20 = .ok (.getfield 148, 3) := by decide +kernel
theorem dX11_rules_23 : decode cX11_rules 23 = .ok (.ifCond .eq 19, 3) := by decide +kernel
theorem dX11_rules_26 : decode cX11_rules 26 = .ok (.aload_n 0, 1) := by decide +kernel
theorem dX11_rules_27 : decode cX11_rules 27 = .ok (.iload_n 2, 1) := by decide +kernel
theorem dX11_rules_28 : decode cX11_rules 28 = .ok (.invokevirtual 200, 3) := by decide +kernel
theorem dX11_rules_31 : decode cX11_rules 31 = .ok (.ifCond .ne 5, 3) := by decide +kernel
theorem dX11_rules_34 : decode cX11_rules 34 = .ok (.iconst (-1), 1) := by decide +kernel
theorem dX11_rules_35 : decode cX11_rules 35 = .ok (.ireturn, 1) := by decide +kernel
theorem dX11_rules_36 : decode cX11_rules 36 = .ok (.iinc 2 1, 3) := by decide +kernel
theorem dX11_rules_39 : decode cX11_rules 39 = .ok (.goto (-20), 3) := by decide +kernel
theorem dX11_rules_42 : decode cX11_rules 42 = .ok (.aload_n 0, 1) := by decide +kernel
theorem dX11_rules_43 : decode cX11_rules 43 = .ok (.iload_n 2, 1) := by decide +kernel
theorem dX11_rules_44 : decode cX11_rules 44 = .ok (.putfield 203, 3) := by decide +kernel
theorem dX11_rules_47 : decode cX11_rules 47 = .ok (.iconst 0, 1) := by decide +kernel
theorem dX11_rules_48 : decode cX11_rules 48 = .ok (.istore_n 3, 1) := by decide +kernel
theorem dX11_rules_49 : decode cX11_rules 49 = .ok (.iload_n 3, 1) := by decide +kernel
theorem dX11_rules_50 : decode cX11_rules 50 = .ok (.aload_n 0, 1) := by decide +kernel
theorem dX11_rules_51 : decode cX11_rules 51 = .ok (.getfield 203, 3) := by decide +kernel
theorem dX11_rules_54 : decode cX11_rules 54 = .ok (.if_icmp .ge 39, 3) := by decide +kernel
theorem dX11_rules_57 : decode cX11_rules 57 = .ok (.aload_n 0, 1) := by decide +kernel
theorem dX11_rules_58 : decode cX11_rules 58 = .ok (.getfield 20, 3) := by decide +kernel
theorem dX11_rules_61 : decode cX11_rules 61 = .ok (.iload_n 3, 1) := by decide +kernel
theorem dX11_rules_62 : decode cX11_rules 62 = .ok (.aload_n 0, 1) := by decide +kernel
theorem dX11_rules_63 : decode cX11_rules 63 = .ok (.getfield 20, 3) := by decide +kernel
theorem dX11_rules_66 : decode cX11_rules 66 = .ok (.bipush 30, 2) := by decide +kernel
theorem dX11_rules_68 : decode cX11_rules 68 = .ok (.iload_n 3, 1) := by decide +kernel
theorem dX11_rules_69 : decode cX11_rules 69 = .ok (.iadd, 1) := by decide +kernel
theorem dX11_rules_70 : decode cX11_rules 70 = .ok (.iaload, 1) := by decide +kernel
theorem dX11_rules_71 : decode cX11_rules 71 = .ok (.iastore, 1) := by decide +kernel
theorem dX11_rules_72 : decode cX11_rules 72 = .ok (.aload_n 0, 1) := by decide +kernel
theorem dX11_rules_73 : decode cX11_rules 73 = .ok (.getfield 23, 3) := by decide +kernel
theorem dX11_rules_76 : decode cX11_rules 76 = .ok (.iload_n 3, 1) := by decide +kernel
theorem dX11_rules_77 : decode cX11_rules 77 = .ok (.aload_n 0, 1) := by decide +kernel
theorem dX11_rules_78 : decode cX11_rules 78 = .ok (.getfield 23, 3) := by decide +kernel
theorem dX11_rules_81 : decode cX11_rules 81 = .ok (.bipush 30, 2) := by decide +kernel
theorem dX11_rules_83 : decode cX11_rules 83 = .ok (.iload_n 3, 1) := by decide +kernel
theorem dX11_rules_84 : decode cX11_rules 84 = .ok (.iadd, 1) := by decide +kernel
theorem dX11_rules_85 : decode cX11_rules 85 = .ok (.iaload, 1) := by decide +kernel
theorem dX11_rules_86 : decode cX11_rules 86 = .ok (.iastore, 1) := by decide +kernel
theorem dX11_rules_87 : decode cX11_rules 87 = .ok (.iinc 3 1, 3) := by decide +kernel
theorem dX11_rules_90 : decode cX11_rules 90 = .ok (.goto (-41), 3) := by decide +kernel
theorem dX11_rules_93 : decode cX11_rules 93 = .ok (.iconst 0, 1) := by decide +kernel
theorem dX11_rules_94 : decode cX11_rules 94 = .ok (.istore_n 3, 1) := by decide +kernel
theorem dX11_rules_95 : decode cX11_rules 95 = .ok (.iload_n 3, 1) := by decide +kernel
theorem dX11_rules_96 : decode cX11_rules 96 = .ok (.bipush 12, 2) := by decide +kernel
theorem dX11_rules_98 : decode cX11_rules 98 = .ok (.aload_n 0, 1) := by decide +kernel
theorem dX11_rules_99 : decode cX11_rules 99 = .ok (.getfield 203, 3) := by decide +kernel
theorem dX11_rules_102 : decode cX11_rules 102 = .ok (.imul, 1) := by decide +kernel
theorem dX11_rules_103 : decode cX11_rules 103 = .ok (.if_icmp .ge 89, 3) := by decide +kernel
theorem dX11_rules_106 : decode cX11_rules 106 = .ok (.aload_n 0, 1) := by decide +kernel
theorem dX11_rules_107 : decode cX11_rules 107 = .ok (.getfield 26, 3) := by decide +kernel
theorem dX11_rules_110 : decode cX11_rules 110 = .ok (.iload_n 3, 1) := by decide +kernel
theorem dX11_rules_111 : decode cX11_rules 111 = .ok (.aload_n 0, 1) := by decide +kernel
theorem dX11_rules_112 : decode cX11_rules 112 = .ok (.getfield 26, 3) := by decide +kernel
theorem dX11_rules_115 : decode cX11_rules 115 = .ok (.sipush 360, 3) := by decide +kernel
theorem dX11_rules_118 : decode cX11_rules 118 = .ok (.iload_n 3, 1) := by decide +kernel
theorem dX11_rules_119 : decode cX11_rules 119 = .ok (.iadd, 1) := by decide +kernel
theorem dX11_rules_120 : decode cX11_rules 120 = .ok (.iaload, 1) := by decide +kernel
theorem dX11_rules_121 : decode cX11_rules 121 = .ok (.iastore, 1) := by decide +kernel
theorem dX11_rules_122 : decode cX11_rules 122 = .ok (.aload_n 0, 1) := by decide +kernel
theorem dX11_rules_123 : decode cX11_rules 123 = .ok (.getfield 29, 3) := by decide +kernel
theorem dX11_rules_126 : decode cX11_rules 126 = .ok (.iload_n 3, 1) := by decide +kernel
theorem dX11_rules_127 : decode cX11_rules 127 = .ok (.aload_n 0, 1) := by decide +kernel
theorem dX11_rules_128 : decode cX11_rules 128 = .ok (.getfield 29, 3) := by decide +kernel
theorem dX11_rules_131 : decode cX11_rules 131 = .ok (.sipush 360, 3) := by decide +kernel
theorem dX11_rules_134 : decode cX11_rules 134 = .ok (.iload_n 3, 1) := by decide +kernel
theorem dX11_rules_135 : decode cX11_rules 135 = .ok (.iadd, 1) := by decide +kernel
theorem dX11_rules_136 : decode cX11_rules 136 = .ok (.iaload, 1) := by decide +kernel
theorem dX11_rules_137 : decode cX11_rules 137 = .ok (.iastore, 1) := by decide +kernel
theorem dX11_rules_138 : decode cX11_rules 138 = .ok (.aload_n 0, 1) := by decide +kernel
theorem dX11_rules_139 : decode cX11_rules 139 = .ok (.getfield 32, 3) := by decide +kernel
theorem dX11_rules_142 : decode cX11_rules 142 = .ok (.iload_n 3, 1) := by decide +kernel
theorem dX11_rules_143 : decode cX11_rules 143 = .ok (.aload_n 0, 1) := by decide +kernel
theorem dX11_rules_144 : decode cX11_rules 144 = .ok (.getfield 32, 3) := by decide +kernel
theorem dX11_rules_147 : decode cX11_rules 147 = .ok (.sipush 360, 3) := by decide +kernel
theorem dX11_rules_150 : decode cX11_rules 150 = .ok (.iload_n 3, 1) := by decide +kernel
theorem dX11_rules_151 : decode cX11_rules 151 = .ok (.iadd, 1) := by decide +kernel
theorem dX11_rules_152 : decode cX11_rules 152 = .ok (.baload, 1) := by decide +kernel
theorem dX11_rules_153 : decode cX11_rules 153 = .ok (.bastore, 1) := by decide +kernel
theorem dX11_rules_154 : decode cX11_rules 154 = .ok (.aload_n 0, 1) := by decide +kernel
theorem dX11_rules_155 : decode cX11_rules 155 = .ok (.getfield 36, 3) := by decide +kernel
theorem dX11_rules_158 : decode cX11_rules 158 = .ok (.iload_n 3, 1) := by decide +kernel
theorem dX11_rules_159 : decode cX11_rules 159 = .ok (.aload_n 0, 1) := by decide +kernel
theorem dX11_rules_160 : decode cX11_rules 160 = .ok (.getfield 36, 3) := by decide +kernel
theorem dX11_rules_163 : decode cX11_rules 163 = .ok (.sipush 360, 3) := by decide +kernel
theorem dX11_rules_166 : decode cX11_rules 166 = .ok (.iload_n 3, 1) := by decide +kernel
theorem dX11_rules_167 : decode cX11_rules 167 = .ok (.iadd, 1) := by decide +kernel
theorem dX11_rules_168 : decode cX11_rules 168 = .ok (.iaload, 1) := by decide +kernel
theorem dX11_rules_169 : decode cX11_rules 169 = .ok (.iastore, 1) := by decide +kernel
theorem dX11_rules_170 : decode cX11_rules 170 = .ok (.aload_n 0, 1) := by decide +kernel
theorem dX11_rules_171 : decode cX11_rules 171 = .ok (.getfield 39, 3) := by decide +kernel
theorem dX11_rules_174 : decode cX11_rules 174 = .ok (.iload_n 3, 1) := by decide +kernel
theorem dX11_rules_175 : decode cX11_rules 175 = .ok (.aload_n 0, 1) := by decide +kernel
theorem dX11_rules_176 : decode cX11_rules 176 = .ok (.getfield 39, 3) := by decide +kernel
theorem dX11_rules_179 : decode cX11_rules 179 = .ok (.sipush 360, 3) := by decide +kernel
theorem dX11_rules_182 : decode cX11_rules 182 = .ok (.iload_n 3, 1) := by decide +kernel
theorem dX11_rules_183 : decode cX11_rules 183 = .ok (.iadd, 1) := by decide +kernel
theorem dX11_rules_184 : decode cX11_rules 184 = .ok (.iaload, 1) := by decide +kernel
theorem dX11_rules_185 : decode cX11_rules 185 = .ok (.iastore, 1) := by decide +kernel
theorem dX11_rules_186 : decode cX11_rules 186 = .ok (.iinc 3 1, 3) := by decide +kernel
theorem dX11_rules_189 : decode cX11_rules 189 = .ok (.goto (-94), 3) := by decide +kernel
theorem dX11_rules_192 : decode cX11_rules 192 = .ok (.aload_n 0, 1) := by decide +kernel
theorem dX11_rules_193 : decode cX11_rules 193 = .ok (.iconst (-1), 1) := by decide +kernel
theorem dX11_rules_194 : decode cX11_rules 194 = .ok (.putfield 78, 3) := by decide +kernel
theorem dX11_rules_197 : decode cX11_rules 197 = .ok (.iconst 0, 1) := by decide +kernel
theorem dX11_rules_198 : decode cX11_rules 198 = .ok (.istore_n 3, 1) := by decide +kernel
theorem dX11_rules_199 : decode cX11_rules 199 = .ok (.iload_n 3, 1) := by decide +kernel
theorem dX11_rules_200 : decode cX11_rules 200 = .ok (.bipush 16, 2) := by decide +kernel
theorem dX11_rules_202 : decode cX11_rules 202 = .ok (.if_icmp .ge 16, 3) := by decide +kernel
theorem dX11_rules_205 : decode cX11_rules 205 = .ok (.aload_n 0, 1) := by decide +kernel
theorem dX11_rules_206 : decode cX11_rules 206 = .ok (.getfield 96, 3) := by decide +kernel
theorem dX11_rules_209 : decode cX11_rules 209 = .ok (.iload_n 3, 1) := by decide +kernel
theorem dX11_rules_210 : decode cX11_rules 210 = .ok (.iconst 0, 1) := by decide +kernel
theorem dX11_rules_211 : decode cX11_rules 211 = .ok (.bastore, 1) := by decide +kernel
theorem dX11_rules_212 : decode cX11_rules 212 = .ok (.iinc 3 1, 3) := by decide +kernel
theorem dX11_rules_215 : decode cX11_rules 215 = .ok (.goto (-16), 3) := by decide +kernel
theorem dX11_rules_218 : decode cX11_rules 218 = .ok (.aload_n 0, 1) := by decide +kernel
theorem dX11_rules_219 : decode cX11_rules 219 = .ok (.getfield 203, 3) := by decide +kernel
theorem dX11_rules_222 : decode cX11_rules 222 = .ok (.ireturn, 1) := by decide +kernel
theorem dX11_fault_0 : decode cX11_fault 0 = .ok (.aload_n 0, 1) := by decide +kernel
theorem dX11_fault_1 : decode cX11_fault 1 = .ok (.iconst 0, 1) := by decide +kernel
theorem dX11_fault_2 : decode cX11_fault 2 = .ok (.putfield 130, 3) := by decide +kernel
theorem dX11_fault_5 : decode cX11_fault 5 = .ok (.iload_n 1, 1) := by decide +kernel
theorem dX11_fault_6 : decode cX11_fault 6 = .ok (.ifCond .ne 10, 3) := by decide +kernel
theorem dX11_fault_9 : decode cX11_fault 9 = .ok (.aload_n 0, 1) := by decide +kernel
theorem dX11_fault_10 : decode cX11_fault 10 = .ok (.getfield 136, 3) := by decide +kernel
theorem dX11_fault_13 : decode cX11_fault 13 = .ok (.goto 16, 3) := by decide +kernel
theorem dX11_fault_16 : decode cX11_fault 16 = .ok (.iload_n 1, 1) := by decide +kernel
theorem dX11_fault_17 : decode cX11_fault 17 = .ok (.iconst 1, 1) := by decide +kernel
theorem dX11_fault_18 : decode cX11_fault 18 = .ok (.if_icmp .ne 10, 3) := by decide +kernel
theorem dX11_fault_21 : decode cX11_fault 21 = .ok (.aload_n 0, 1) := by decide +kernel
theorem dX11_fault_22 : decode cX11_fault 22 = .ok (.getfield 16, 3) := by decide +kernel
theorem dX11_fault_25 : decode cX11_fault 25 = .ok (.goto 4, 3) := by decide +kernel
theorem dX11_fault_28 : decode cX11_fault 28 = .ok (.iconst (-1), 1) := by decide +kernel
theorem dX11_fault_29 : decode cX11_fault 29 = .ok (.ireturn, 1) := by decide +kernel
theorem dX11_forgets_0 : decode cX11_forgets 0 = .ok (.aload_n 0, 1) := by decide +kernel
theorem dX11_forgets_1 : decode cX11_forgets 1 = .ok (.iconst 0, 1) := by decide +kernel
theorem dX11_forgets_2 : decode cX11_forgets 2 = .ok (.putfield 394, 3) := by decide +kernel
theorem dX11_forgets_5 : decode cX11_forgets 5 = .ok (.return_, 1) := by decide +kernel
theorem dX11_net_0 : decode cX11_net 0 = .ok (.aload_n 0, 1) := by decide +kernel
theorem dX11_net_1 : decode cX11_net 1 = .ok (.iconst 0, 1) := by decide +kernel
theorem dX11_net_2 : decode cX11_net 2 = .ok (.putfield 130, 3) := by decide +kernel
theorem dX11_net_5 : decode cX11_net 5 = .ok (.aload_n 0, 1) := by decide +kernel
theorem dX11_net_6 : decode cX11_net 6 = .ok (.iload_n 1, 1) := by decide +kernel
theorem dX11_net_7 : decode cX11_net 7 = .ok (.iconst 1, 1) := by decide +kernel
theorem dX11_net_8 : decode cX11_net 8 = .ok (.invokevirtual 196, 3) := by decide +kernel
theorem dX11_net_11 : decode cX11_net 11 = .ok (.ifCond .ne 6, 3) := by decide +kernel
theorem dX11_net_14 : decode cX11_net 14 = .ok (.bipush (-2), 2) := by decide +kernel
theorem dX11_net_16 : decode cX11_net 16 = .ok (.ireturn, 1) := by decide +kernel
theorem dX11_net_17 : decode cX11_net 17 = .ok (.aload_n 0, 1) := by decide +kernel
theorem dX11_net_18 : decode cX11_net 18 = .ok (.iconst 0, 1) := by decide +kernel
theorem dX11_net_19 : decode cX11_net 19 = .ok (.putfield 250, 3) := by decide +kernel
theorem dX11_net_22 : decode cX11_net 22 = .ok (.aload_n 0, 1) := by decide +kernel
theorem dX11_net_23 : decode cX11_net 23 = .ok (.iconst 0, 1) := by decide +kernel
theorem dX11_net_24 : decode cX11_net 24 = .ok (.putfield 206, 3) := by decide +kernel
theorem dX11_net_27 : decode cX11_net 27 = .ok (.aload_n 0, 1) := by decide +kernel
theorem dX11_net_28 : decode cX11_net 28 = .ok (.iconst 0, 1) := by decide +kernel
theorem dX11_net_29 : decode cX11_net 29 = .ok (.putfield 227, 3) := by decide +kernel
theorem dX11_net_32 : decode cX11_net 32 = .ok (.iconst 0, 1) := by decide +kernel
theorem dX11_net_33 : decode cX11_net 33 = .ok (.istore_n 2, 1) := by decide +kernel
theorem dX11_net_34 : decode cX11_net 34 = .ok (.iload_n 2, 1) := by decide +kernel
theorem dX11_net_35 : decode cX11_net 35 = .ok (.bipush 24, 2) := by decide +kernel
theorem dX11_net_37 : decode cX11_net 37 = .ok (.if_icmp .ge 29, 3) := by decide +kernel
theorem dX11_net_40 : decode cX11_net 40 = .ok (.aload_n 0, 1) := by decide +kernel
theorem dX11_net_41 : decode cX11_net 41 = .ok (.getfield 45, 3) := by decide +kernel
theorem dX11_net_44 : decode cX11_net 44 = .ok (.bipush 24, 2) := by decide +kernel
theorem dX11_net_46 : decode cX11_net 46 = .ok (.iload_n 2, 1) := by decide +kernel
theorem dX11_net_47 : decode cX11_net 47 = .ok (.iadd, 1) := by decide +kernel
theorem dX11_net_48 : decode cX11_net 48 = .ok (.iconst 0, 1) := by decide +kernel
theorem dX11_net_49 : decode cX11_net 49 = .ok (.iastore, 1) := by decide +kernel
theorem dX11_net_50 : decode cX11_net 50 = .ok (.aload_n 0, 1) := by decide +kernel
theorem dX11_net_51 : decode cX11_net 51 = .ok (.getfield 48, 3) := by decide +kernel
theorem dX11_net_54 : decode cX11_net 54 = .ok (.bipush 24, 2) := by decide +kernel
theorem dX11_net_56 : decode cX11_net 56 = .ok (.iload_n 2, 1) := by decide +kernel
theorem dX11_net_57 : decode cX11_net 57 = .ok (.iadd, 1) := by decide +kernel
theorem dX11_net_58 : decode cX11_net 58 = .ok (.iconst 0, 1) := by decide +kernel
theorem dX11_net_59 : decode cX11_net 59 = .ok (.iastore, 1) := by decide +kernel
theorem dX11_net_60 : decode cX11_net 60 = .ok (.iinc 2 1, 3) := by decide +kernel
theorem dX11_net_63 : decode cX11_net 63 = .ok (.goto (-29), 3) := by decide +kernel
theorem dX11_net_66 : decode cX11_net 66 = .ok (.aload_n 0, 1) := by decide +kernel
theorem dX11_net_67 : decode cX11_net 67 = .ok (.getfield 148, 3) := by decide +kernel
theorem dX11_net_70 : decode cX11_net 70 = .ok (.ifCond .eq 12, 3) := by decide +kernel
theorem dX11_net_73 : decode cX11_net 73 = .ok (.aload_n 0, 1) := by decide +kernel
theorem dX11_net_74 : decode cX11_net 74 = .ok (.invokevirtual 262, 3) := by decide +kernel
theorem dX11_net_77 : decode cX11_net 77 = .ok (.ifCond .ne (-11), 3) := by decide +kernel
theorem dX11_net_80 : decode cX11_net 80 = .ok (.iconst (-1), 1) := by decide +kernel
theorem dX11_net_81 : decode cX11_net 81 = .ok (.ireturn, 1) := by decide +kernel
theorem dX11_net_82 : decode cX11_net 82 = .ok (.bipush 64, 2) := by decide +kernel
theorem dX11_net_84 : decode cX11_net 84 = .ok (.istore_n 2, 1) := by decide +kernel
theorem dX11_net_85 : decode cX11_net 85 = .ok (.iload_n 2, 1) := by decide +kernel
theorem dX11_net_86 : decode cX11_net 86 = .ok (.bipush 64, 2) := by decide +kernel
theorem dX11_net_88 : decode cX11_net 88 = .ok (.aload_n 0, 1) := by decide +kernel
theorem dX11_net_89 : decode cX11_net 89 = .ok (.getfield 206, 3) := by decide +kernel
theorem dX11_net_92 : decode cX11_net 92 = .ok (.iadd, 1) := by decide +kernel
theorem dX11_net_93 : decode cX11_net 93 = .ok (.if_icmp .ge 63, 3) := by decide +kernel
theorem dX11_net_96 : decode cX11_net 96 = .ok (.aload_n 0, 1) := by decide +kernel
theorem dX11_net_97 : decode cX11_net 97 = .ok (.getfield 51, 3) := by decide +kernel
theorem dX11_net_100 : decode cX11_net 100 = .ok (.iload_n 2, 1) := by decide +kernel
theorem dX11_net_101 : decode cX11_net 101 = .ok (.iaload, 1) := by decide +kernel
theorem dX11_net_102 : decode cX11_net 102 = .ok (.iconst 4, 1) := by decide +kernel
theorem dX11_net_103 : decode cX11_net 103 = .ok (.if_icmp .eq 6, 3) := by decide +kernel
theorem dX11_net_106 : decode cX11_net 106 = .ok (.goto 44, 3) := by decide +kernel
theorem dX11_net_109 : decode cX11_net 109 = .ok (.aload_n 0, 1) := by decide +kernel
theorem dX11_net_110 : decode cX11_net 110 = .ok (.aload_n 0, 1) := by decide +kernel
theorem dX11_net_111 : decode cX11_net 111 = .ok (.getfield 54, 3) := by decide +kernel
theorem dX11_net_114 : decode cX11_net 114 = .ok (.iload_n 2, 1) := by decide +kernel
theorem dX11_net_115 : decode cX11_net 115 = .ok (.iaload, 1) := by decide +kernel
theorem dX11_net_116 : decode cX11_net 116 = .ok (.invokevirtual 253, 3) := by decide +kernel
theorem dX11_net_119 : decode cX11_net 119 = .ok (.istore_n 3, 1) := by decide +kernel
theorem dX11_net_120 : decode cX11_net 120 = .ok (.iload_n 3, 1) := by decide +kernel
theorem dX11_net_121 : decode cX11_net 121 = .ok (.ifCond .ge 22, 3) := by decide +kernel
theorem dX11_net_124 : decode cX11_net 124 = .ok (.aload_n 0, 1) := by decide +kernel
theorem dX11_net_125 : decode cX11_net 125 = .ok (.aload_n 0, 1) := by decide +kernel
theorem dX11_net_126 : decode cX11_net 126 = .ok (.getfield 60, 3) := by decide +kernel
theorem dX11_net_129 : decode cX11_net 129 = .ok (.iload_n 2, 1) := by decide +kernel
theorem dX11_net_130 : decode cX11_net 130 = .ok (.iaload, 1) := by decide +kernel
theorem dX11_net_131 : decode cX11_net 131 = .ok (.putfield 139, 3) := by decide +kernel
theorem dX11_net_134 : decode cX11_net 134 = .ok (.aload_n 0, 1) := by decide +kernel
theorem dX11_net_135 : decode cX11_net 135 = .ok (.iconst 4, 1) := by decide +kernel
theorem dX11_net_136 : decode cX11_net 136 = .ok (.invokevirtual 178, 3) := by decide +kernel
theorem dX11_net_139 : decode cX11_net 139 = .ok (.istore 4, 2) := by decide +kernel
theorem dX11_net_141 : decode cX11_net 141 = .ok (.iconst (-1), 1) := by decide +kernel
theorem dX11_net_142 : decode cX11_net 142 = .ok (.ireturn, 1) := by decide +kernel
theorem dX11_net_143 : decode cX11_net 143 = .ok (.aload_n 0, 1) := by decide +kernel
theorem dX11_net_144 : decode cX11_net 144 = .ok (.getfield 54, 3) := by decide +kernel
theorem dX11_net_147 : decode cX11_net 147 = .ok (.iload_n 2, 1) := by decide +kernel
theorem dX11_net_148 : decode cX11_net 148 = .ok (.iload_n 3, 1) := by decide +kernel
theorem dX11_net_149 : decode cX11_net 149 = .ok (.iastore, 1) := by decide +kernel
theorem dX11_net_150 : decode cX11_net 150 = .ok (.iinc 2 1, 3) := by decide +kernel
theorem dX11_net_153 : decode cX11_net 153 = .ok (.goto (-68), 3) := by decide +kernel
theorem dX11_net_156 : decode cX11_net 156 = .ok (.aload_n 0, 1) := by decide +kernel
theorem dX11_net_157 : decode cX11_net 157 = .ok (.aload_n 0, 1) := by decide +kernel
theorem dX11_net_158 : decode cX11_net 158 = .ok (.getfield 250, 3) := by decide +kernel
theorem dX11_net_161 : decode cX11_net 161 = .ok (.putfield 265, 3) := by decide +kernel
theorem dX11_net_164 : decode cX11_net 164 = .ok (.aload_n 0, 1) := by decide +kernel
theorem dX11_net_165 : decode cX11_net 165 = .ok (.aload_n 0, 1) := by decide +kernel
theorem dX11_net_166 : decode cX11_net 166 = .ok (.getfield 206, 3) := by decide +kernel
theorem dX11_net_169 : decode cX11_net 169 = .ok (.putfield 268, 3) := by decide +kernel
theorem dX11_net_172 : decode cX11_net 172 = .ok (.iconst 0, 1) := by decide +kernel
theorem dX11_net_173 : decode cX11_net 173 = .ok (.istore_n 2, 1) := by decide +kernel
theorem dX11_net_174 : decode cX11_net 174 = .ok (.iload_n 2, 1) := by decide +kernel
theorem dX11_net_175 : decode cX11_net 175 = .ok (.bipush 64, 2) := by decide +kernel
theorem dX11_net_177 : decode cX11_net 177 = .ok (.if_icmp .ge 54, 3) := by decide +kernel
theorem dX11_net_180 : decode cX11_net 180 = .ok (.aload_n 0, 1) := by decide +kernel
theorem dX11_net_181 : decode cX11_net 181 = .ok (.getfield 51, 3) := by decide +kernel
theorem dX11_net_184 : decode cX11_net 184 = .ok (.iload_n 2, 1) := by decide +kernel
theorem dX11_net_185 : decode cX11_net 185 = .ok (.aload_n 0, 1) := by decide +kernel
theorem dX11_net_186 : decode cX11_net 186 = .ok (.getfield 51, 3) := by decide +kernel
theorem dX11_net_189 : decode cX11_net 189 = .ok (.bipush 64, 2) := by decide +kernel
theorem dX11_net_191 : decode cX11_net 191 = .ok (.iload_n 2, 1) := by decide +kernel
theorem dX11_net_192 : decode cX11_net 192 = .ok (.iadd, 1) := by decide +kernel
theorem dX11_net_193 : decode cX11_net 193 = .ok (.iaload, 1) := by decide +kernel
theorem dX11_net_194 : decode cX11_net 194 = .ok (.iastore, 1) := by decide +kernel
theorem dX11_net_195 : decode cX11_net 195 = .ok (.aload_n 0, 1) := by decide +kernel
theorem dX11_net_196 : decode cX11_net 196 = .ok (.getfield 54, 3) := by decide +kernel
theorem dX11_net_199 : decode cX11_net 199 = .ok (.iload_n 2, 1) := by decide +kernel
theorem dX11_net_200 : decode cX11_net 200 = .ok (.aload_n 0, 1) := by decide +kernel
theorem dX11_net_201 : decode cX11_net 201 = .ok (.getfield 54, 3) := by decide +kernel
theorem dX11_net_204 : decode cX11_net 204 = .ok (.bipush 64, 2) := by decide +kernel
theorem dX11_net_206 : decode cX11_net 206 = .ok (.iload_n 2, 1) := by decide +kernel
theorem dX11_net_207 : decode cX11_net 207 = .ok (.iadd, 1) := by decide +kernel
theorem dX11_net_208 : decode cX11_net 208 = .ok (.iaload, 1) := by decide +kernel
theorem dX11_net_209 : decode cX11_net 209 = .ok (.iastore, 1) := by decide +kernel
theorem dX11_net_210 : decode cX11_net 210 = .ok (.aload_n 0, 1) := by decide +kernel
theorem dX11_net_211 : decode cX11_net 211 = .ok (.getfield 57, 3) := by decide +kernel
theorem dX11_net_214 : decode cX11_net 214 = .ok (.iload_n 2, 1) := by decide +kernel
theorem dX11_net_215 : decode cX11_net 215 = .ok (.aload_n 0, 1) := by decide +kernel
theorem dX11_net_216 : decode cX11_net 216 = .ok (.getfield 57, 3) := by decide +kernel
theorem dX11_net_219 : decode cX11_net 219 = .ok (.bipush 64, 2) := by decide +kernel
theorem dX11_net_221 : decode cX11_net 221 = .ok (.iload_n 2, 1) := by decide +kernel
theorem dX11_net_222 : decode cX11_net 222 = .ok (.iadd, 1) := by decide +kernel
theorem dX11_net_223 : decode cX11_net 223 = .ok (.iaload, 1) := by decide +kernel
theorem dX11_net_224 : decode cX11_net 224 = .ok (.iastore, 1) := by decide +kernel
theorem dX11_net_225 : decode cX11_net 225 = .ok (.iinc 2 1, 3) := by decide +kernel
theorem dX11_net_228 : decode cX11_net 228 = .ok (.goto (-54), 3) := by decide +kernel
theorem dX11_net_231 : decode cX11_net 231 = .ok (.iconst 0, 1) := by decide +kernel
theorem dX11_net_232 : decode cX11_net 232 = .ok (.istore_n 2, 1) := by decide +kernel
theorem dX11_net_233 : decode cX11_net 233 = .ok (.iload_n 2, 1) := by decide +kernel
theorem dX11_net_234 : decode cX11_net 234 = .ok (.bipush 24, 2) := by decide +kernel
theorem dX11_net_236 : decode cX11_net 236 = .ok (.if_icmp .ge 39, 3) := by decide +kernel
theorem dX11_net_239 : decode cX11_net 239 = .ok (.aload_n 0, 1) := by decide +kernel
theorem dX11_net_240 : decode cX11_net 240 = .ok (.getfield 45, 3) := by decide +kernel
theorem dX11_net_243 : decode cX11_net 243 = .ok (.iload_n 2, 1) := by decide +kernel
theorem dX11_net_244 : decode cX11_net 244 = .ok (.aload_n 0, 1) := by decide +kernel
theorem dX11_net_245 : decode cX11_net 245 = .ok (.getfield 45, 3) := by decide +kernel
theorem dX11_net_248 : decode cX11_net 248 = .ok (.bipush 24, 2) := by decide +kernel
theorem dX11_net_250 : decode cX11_net 250 = .ok (.iload_n 2, 1) := by decide +kernel
theorem dX11_net_251 : decode cX11_net 251 = .ok (.iadd, 1) := by decide +kernel
theorem dX11_net_252 : decode cX11_net 252 = .ok (.iaload, 1) := by decide +kernel
theorem dX11_net_253 : decode cX11_net 253 = .ok (.iastore, 1) := by decide +kernel
theorem dX11_net_254 : decode cX11_net 254 = .ok (.aload_n 0, 1) := by decide +kernel
theorem dX11_net_255 : decode cX11_net 255 = .ok (.getfield 48, 3) := by decide +kernel
theorem dX11_net_258 : decode cX11_net 258 = .ok (.iload_n 2, 1) := by decide +kernel
theorem dX11_net_259 : decode cX11_net 259 = .ok (.aload_n 0, 1) := by decide +kernel
theorem dX11_net_260 : decode cX11_net 260 = .ok (.getfield 48, 3) := by decide +kernel
theorem dX11_net_263 : decode cX11_net 263 = .ok (.bipush 24, 2) := by decide +kernel
theorem dX11_net_265 : decode cX11_net 265 = .ok (.iload_n 2, 1) := by decide +kernel
theorem dX11_net_266 : decode cX11_net 266 = .ok (.iadd, 1) := by decide +kernel
theorem dX11_net_267 : decode cX11_net 267 = .ok (.iaload, 1) := by decide +kernel
theorem dX11_net_268 : decode cX11_net 268 = .ok (.iastore, 1) := by decide +kernel
theorem dX11_net_269 : decode cX11_net 269 = .ok (.iinc 2 1, 3) := by decide +kernel
theorem dX11_net_272 : decode cX11_net 272 = .ok (.goto (-39), 3) := by decide +kernel
theorem dX11_net_275 : decode cX11_net 275 = .ok (.aload_n 0, 1) := by decide +kernel
theorem dX11_net_276 : decode cX11_net 276 = .ok (.iconst 0, 1) := by decide +kernel
theorem dX11_net_277 : decode cX11_net 277 = .ok (.putfield 271, 3) := by decide +kernel
theorem dX11_net_280 : decode cX11_net 280 = .ok (.aload_n 0, 1) := by decide +kernel
theorem dX11_net_281 : decode cX11_net 281 = .ok (.iconst 0, 1) := by decide +kernel
theorem dX11_net_282 : decode cX11_net 282 = .ok (.putfield 274, 3) := by decide +kernel
theorem dX11_net_285 : decode cX11_net 285 = .ok (.aload_n 0, 1) := by decide +kernel
theorem dX11_net_286 : decode cX11_net 286 = .ok (.iconst 0, 1) := by decide +kernel
theorem dX11_net_287 : decode cX11_net 287 = .ok (.putfield 277, 3) := by decide +kernel
theorem dX11_net_290 : decode cX11_net 290 = .ok (.aload_n 0, 1) := by decide +kernel
theorem dX11_net_291 : decode cX11_net 291 = .ok (.invokevirtual 280, 3) := by decide +kernel
theorem dX11_net_294 : decode cX11_net 294 = .ok (.iconst 0, 1) := by decide +kernel
theorem dX11_net_295 : decode cX11_net 295 = .ok (.istore_n 2, 1) := by decide +kernel
theorem dX11_net_296 : decode cX11_net 296 = .ok (.iload_n 2, 1) := by decide +kernel
theorem dX11_net_297 : decode cX11_net 297 = .ok (.iconst 4, 1) := by decide +kernel
theorem dX11_net_298 : decode cX11_net 298 = .ok (.if_icmp .ge 16, 3) := by decide +kernel
theorem dX11_net_301 : decode cX11_net 301 = .ok (.aload_n 0, 1) := by decide +kernel
theorem dX11_net_302 : decode cX11_net 302 = .ok (.getfield 90, 3) := by decide +kernel
theorem dX11_net_305 : decode cX11_net 305 = .ok (.iload_n 2, 1) := by decide +kernel
theorem dX11_net_306 : decode cX11_net 306 = .ok (.iconst 0, 1) := by decide +kernel
theorem dX11_net_307 : decode cX11_net 307 = .ok (.bastore, 1) := by decide +kernel
theorem dX11_net_308 : decode cX11_net 308 = .ok (.iinc 2 1, 3) := by decide +kernel
theorem dX11_net_311 : decode cX11_net 311 = .ok (.goto (-15), 3) := by decide +kernel
theorem dX11_net_314 : decode cX11_net 314 = .ok (.aload_n 0, 1) := by decide +kernel
theorem dX11_net_315 : decode cX11_net 315 = .ok (.getfield 265, 3) := by decide +kernel
theorem dX11_net_318 : decode cX11_net 318 = .ok (.ireturn, 1) := by decide +kernel
theorem dX11_squares_0 : decode cX11_squares 0 = .ok (.aload_n 0, 1) := by decide +kernel
theorem dX11_squares_1 : decode cX11_squares 1 = .ok (.getfield 283, 3) := by decide +kernel
theorem dX11_squares_4 : decode cX11_squares 4 = .ok (.aload_n 0, 1) := by decide +kernel
theorem dX11_squares_5 : decode cX11_squares 5 = .ok (.getfield 286, 3) := by decide +kernel
theorem dX11_squares_8 : decode cX11_squares 8 = .ok (.imul, 1) := by decide +kernel
theorem dX11_squares_9 : decode cX11_squares 9 = .ok (.ireturn, 1) := by decide +kernel
theorem dX11_isSquare_0 : decode cX11_isSquare 0 = .ok (.iload_n 1, 1) := by decide +kernel
theorem dX11_isSquare_1 : decode cX11_isSquare 1 = .ok (.ifCond .lt 15, 3) := by decide +kernel
theorem dX11_isSquare_4 : decode cX11_isSquare 4 = .ok (.iload_n 1, 1) := by decide +kernel
theorem dX11_isSquare_5 : decode cX11_isSquare 5 = .ok (.aload_n 0, 1) := by decide +kernel
theorem dX11_isSquare_6 : decode cX11_isSquare 6 = .ok (.invokevirtual 289, 3) := by decide +kernel
theorem dX11_isSquare_9 : decode cX11_isSquare 9 = .ok (.if_icmp .ge 7, 3) := by decide +kernel
theorem dX11_isSquare_12 : decode cX11_isSquare 12 = .ok (.iconst 1, 1) := by decide +kernel
theorem dX11_isSquare_13 : decode cX11_isSquare 13 = .ok (.goto 4, 3) := by decide +kernel
theorem dX11_isSquare_16 : decode cX11_isSquare 16 = .ok (.iconst 0, 1) := by decide +kernel
theorem dX11_isSquare_17 : decode cX11_isSquare 17 = .ok (.ireturn, 1) := by decide +kernel
theorem dX11_plainWalls_0 : decode cX11_plainWalls 0 = .ok (.iconst 0, 1) := by decide +kernel
theorem dX11_plainWalls_1 : decode cX11_plainWalls 1 = .ok (.istore_n 1, 1) := by decide +kernel
theorem dX11_plainWalls_2 : decode cX11_plainWalls 2 = .ok (.iload_n 1, 1) := by decide +kernel
theorem dX11_plainWalls_3 : decode cX11_plainWalls 3 = .ok (.aload_n 0, 1) := by decide +kernel
theorem dX11_plainWalls_4 : decode cX11_plainWalls 4 = .ok (.invokevirtual 289, 3) := by decide +kernel
theorem dX11_plainWalls_7 : decode cX11_plainWalls 7 = .ok (.if_icmp .ge 84, 3) := by decide +kernel
theorem dX11_plainWalls_10 : decode cX11_plainWalls 10 = .ok (.aload_n 0, 1) := by decide +kernel
theorem dX11_plainWalls_11 : decode cX11_plainWalls 11 = .ok (.getfield 69, 3) := by decide +kernel
theorem dX11_plainWalls_14 : decode cX11_plainWalls 14 = .ok (.iload_n 1, 1) := by decide +kernel
theorem dX11_plainWalls_15 : decode cX11_plainWalls 15 = .ok (.iload_n 1, 1) := by decide +kernel
theorem dX11_plainWalls_16 : decode cX11_plainWalls 16 = .ok (.aload_n 0, 1) := by decide +kernel
theorem dX11_plainWalls_17 : decode cX11_plainWalls 17 = .ok (.getfield 283, 3) := by decide +kernel
theorem dX11_plainWalls_20 : decode cX11_plainWalls 20 = .ok (.if_icmp .ge 7, 3) := by decide +kernel
theorem dX11_plainWalls_23 : decode cX11_plainWalls 23 = .ok (.iconst 1, 1) := by decide +kernel
theorem dX11_plainWalls_24 : decode cX11_plainWalls 24 = .ok (.goto 4, 3) := by decide +kernel
theorem dX11_plainWalls_27 : decode cX11_plainWalls 27 = .ok (.iconst 0, 1) := by decide +kernel
theorem dX11_plainWalls_28 : decode cX11_plainWalls 28 = .ok (.iload_n 1, 1) := by decide +kernel
theorem dX11_plainWalls_29 : decode cX11_plainWalls 29 = .ok (.aload_n 0, 1) := by decide +kernel
theorem dX11_plainWalls_30 : decode cX11_plainWalls 30 = .ok (.getfield 283, 3) := by decide +kernel
theorem dX11_plainWalls_33 : decode cX11_plainWalls 33 = .ok (.irem, 1) := by decide +kernel
theorem dX11_plainWalls_34 : decode cX11_plainWalls 34 = .ok (.aload_n 0, 1) := by decide +kernel
theorem dX11_plainWalls_35 : decode cX11_plainWalls 35 = .ok (.getfield 283, 3) := by decide +kernel
theorem dX11_plainWalls_38 : decode cX11_plainWalls 38 = .ok (.iconst 1, 1) := by decide +kernel
theorem dX11_plainWalls_39 : decode cX11_plainWalls 39 = .ok (.isub, 1) := by decide +kernel
theorem dX11_plainWalls_40 : decode cX11_plainWalls 40 = .ok (.if_icmp .ne 7, 3) := by decide +kernel
theorem dX11_plainWalls_43 : decode cX11_plainWalls 43 = .ok (.iconst 2, 1) := by decide +kernel
theorem dX11_plainWalls_44 : decode cX11_plainWalls 44 = .ok (.goto 4, 3) := by decide +kernel
theorem dX11_plainWalls_47 : decode cX11_plainWalls 47 = .ok (.iconst 0, 1) := by decide +kernel
theorem dX11_plainWalls_48 : decode cX11_plainWalls 48 = .ok (.ior, 1) := by decide +kernel
theorem dX11_plainWalls_49 : decode cX11_plainWalls 49 = .ok (.iload_n 1, 1) := by decide +kernel
theorem dX11_plainWalls_50 : decode cX11_plainWalls 50 = .ok (.aload_n 0, 1) := by decide +kernel
theorem dX11_plainWalls_51 : decode cX11_plainWalls 51 = .ok (.invokevirtual 289, 3) := by decide +kernel
theorem dX11_plainWalls_54 : decode cX11_plainWalls 54 = .ok (.aload_n 0, 1) := by decide +kernel
theorem dX11_plainWalls_55 : decode cX11_plainWalls 55 = .ok (.getfield 283, 3) := by decide +kernel
theorem dX11_plainWalls_58 : decode cX11_plainWalls 58 = .ok (.isub, 1) := by decide +kernel
theorem dX11_plainWalls_59 : decode cX11_plainWalls 59 = .ok (.if_icmp .lt 7, 3) := by decide +kernel
theorem dX11_plainWalls_62 : decode cX11_plainWalls 62 = .ok (.iconst 4, 1) := by decide +kernel
theorem dX11_plainWalls_63 : decode cX11_plainWalls 63 = .ok (.goto 4, 3) := by decide +kernel
theorem dX11_plainWalls_66 : decode cX11_plainWalls 66 = .ok (.iconst 0, 1) := by decide +kernel
theorem dX11_plainWalls_67 : decode cX11_plainWalls 67 = .ok (.ior, 1) := by decide +kernel
theorem dX11_plainWalls_68 : decode cX11_plainWalls 68 = .ok (.iload_n 1, 1) := by decide +kernel
theorem dX11_plainWalls_69 : decode cX11_plainWalls 69 = .ok (.aload_n 0, 1) := by decide +kernel
theorem dX11_plainWalls_70 : decode cX11_plainWalls 70 = .ok (.getfield 283, 3) := by decide +kernel
theorem dX11_plainWalls_73 : decode cX11_plainWalls 73 = .ok (.irem, 1) := by decide +kernel
theorem dX11_plainWalls_74 : decode cX11_plainWalls 74 = .ok (.ifCond .ne 8, 3) := by decide +kernel
theorem dX11_plainWalls_77 : decode cX11_plainWalls 77 = .ok (.bipush 8, 2) := by decide +kernel
theorem dX11_plainWalls_79 : decode cX11_plainWalls 79 = .ok (.goto 4, 3) := by decide +kernel
theorem dX11_plainWalls_82 : decode cX11_plainWalls 82 = .ok (.iconst 0, 1) := by decide +kernel
theorem dX11_plainWalls_83 : decode cX11_plainWalls 83 = .ok (.ior, 1) := by decide +kernel
theorem dX11_plainWalls_84 : decode cX11_plainWalls 84 = .ok (.iastore, 1) := by decide +kernel
theorem dX11_plainWalls_85 : decode cX11_plainWalls 85 = .ok (.iinc 1 1, 3) := by decide +kernel
theorem dX11_plainWalls_88 : decode cX11_plainWalls 88 = .ok (.goto (-86), 3) := by decide +kernel
theorem dX11_plainWalls_91 : decode cX11_plainWalls 91 = .ok (.return_, 1) := by decide +kernel
theorem dX11_begins_0 : decode cX11_begins 0 = .ok (.aload_n 0, 1) := by decide +kernel
theorem dX11_begins_1 : decode cX11_begins 1 = .ok (.iload_n 1, 1) := by decide +kernel
theorem dX11_begins_2 : decode cX11_begins 2 = .ok (.putfield 283, 3) := by decide +kernel
theorem dX11_begins_5 : decode cX11_begins 5 = .ok (.aload_n 0, 1) := by decide +kernel
theorem dX11_begins_6 : decode cX11_begins 6 = .ok (.iload_n 2, 1) := by decide +kernel
theorem dX11_begins_7 : decode cX11_begins 7 = .ok (.putfield 286, 3) := by decide +kernel
theorem dX11_begins_10 : decode cX11_begins 10 = .ok (.aload_n 0, 1) := by decide +kernel
theorem dX11_begins_11 : decode cX11_begins 11 = .ok (.iload_n 1, 1) := by decide +kernel
theorem dX11_begins_12 : decode cX11_begins 12 = .ok (.iload_n 2, 1) := by decide +kernel
theorem dX11_begins_13 : decode cX11_begins 13 = .ok (.imul, 1) := by decide +kernel
theorem dX11_begins_14 : decode cX11_begins 14 = .ok (.iconst 1, 1) := by decide +kernel
theorem dX11_begins_15 : decode cX11_begins 15 = .ok (.isub, 1) := by decide +kernel
theorem dX11_begins_16 : decode cX11_begins 16 = .ok (.putfield 292, 3) := by decide +kernel
theorem dX11_begins_19 : decode cX11_begins 19 = .ok (.aload_n 0, 1) := by decide +kernel
theorem dX11_begins_20 : decode cX11_begins 20 = .ok (.iconst 0, 1) := by decide +kernel
theorem dX11_begins_21 : decode cX11_begins 21 = .ok (.putfield 295, 3) := by decide +kernel
theorem dX11_begins_24 : decode cX11_begins 24 = .ok (.aload_n 0, 1) := by decide +kernel
theorem dX11_begins_25 : decode cX11_begins 25 = .ok (.iconst 0, 1) := by decide +kernel
theorem dX11_begins_26 : decode cX11_begins 26 = .ok (.putfield 298, 3) := by decide +kernel
theorem dX11_begins_29 : decode cX11_begins 29 = .ok (.aload_n 0, 1) := by decide +kernel
theorem dX11_begins_30 : decode cX11_begins 30 = .ok (.iconst 0, 1) := by decide +kernel
theorem dX11_begins_31 : decode cX11_begins 31 = .ok (.putfield 301, 3) := by decide +kernel
theorem dX11_begins_34 : decode cX11_begins 34 = .ok (.aload_n 0, 1) := by decide +kernel
theorem dX11_begins_35 : decode cX11_begins 35 = .ok (.iconst 0, 1) := by decide +kernel
theorem dX11_begins_36 : decode cX11_begins 36 = .ok (.putfield 304, 3) := by decide +kernel
theorem dX11_begins_39 : decode cX11_begins 39 = .ok (.aload_n 0, 1) := by decide +kernel
theorem dX11_begins_40 : decode cX11_begins 40 = .ok (.aload_n 0, 1) := by decide +kernel
theorem dX11_begins_41 : decode cX11_begins 41 = .ok (.getfield 274, 3) := by decide +kernel
theorem dX11_begins_44 : decode cX11_begins 44 = .ok (.aload_n 0, 1) := by decide +kernel
theorem dX11_begins_45 : decode cX11_begins 45 = .ok (.getfield 277, 3) := by decide +kernel
theorem dX11_begins_48 : decode cX11_begins 48 = .ok (.iand, 1) := by decide +kernel
theorem dX11_begins_49 : decode cX11_begins 49 = .ok (.putfield 271, 3) := by decide +kernel
theorem dX11_begins_52 : decode cX11_begins 52 = .ok (.aload_n 0, 1) := by decide +kernel
theorem dX11_begins_53 : decode cX11_begins 53 = .ok (.invokevirtual 307, 3) := by decide +kernel
theorem dX11_begins_56 : decode cX11_begins 56 = .ok (.iconst 0, 1) := by decide +kernel
theorem dX11_begins_57 : decode cX11_begins 57 = .ok (.istore_n 3, 1) := by decide +kernel
theorem dX11_begins_58 : decode cX11_begins 58 = .ok (.iload_n 3, 1) := by decide +kernel
theorem dX11_begins_59 : decode cX11_begins 59 = .ok (.bipush 36, 2) := by decide +kernel
theorem dX11_begins_61 : decode cX11_begins 61 = .ok (.if_icmp .ge 23, 3) := by decide +kernel
theorem dX11_begins_64 : decode cX11_begins 64 = .ok (.aload_n 0, 1) := by decide +kernel
theorem dX11_begins_65 : decode cX11_begins 65 = .ok (.getfield 72, 3) := by decide +kernel
theorem dX11_begins_68 : decode cX11_begins 68 = .ok (.iload_n 3, 1) := by decide +kernel
theorem dX11_begins_69 : decode cX11_begins 69 = .ok (.iconst 0, 1) := by decide +kernel
theorem dX11_begins_70 : decode cX11_begins 70 = .ok (.iastore, 1) := by decide +kernel
theorem dX11_begins_71 : decode cX11_begins 71 = .ok (.aload_n 0, 1) := by decide +kernel
theorem dX11_begins_72 : decode cX11_begins 72 = .ok (.getfield 75, 3) := by decide +kernel
theorem dX11_begins_75 : decode cX11_begins 75 = .ok (.iload_n 3, 1) := by decide +kernel
theorem dX11_begins_76 : decode cX11_begins 76 = .ok (.iconst 0, 1) := by decide +kernel
theorem dX11_begins_77 : decode cX11_begins 77 = .ok (.iastore, 1) := by decide +kernel
theorem dX11_begins_78 : decode cX11_begins 78 = .ok (.iinc 3 1, 3) := by decide +kernel
theorem dX11_begins_81 : decode cX11_begins 81 = .ok (.goto (-23), 3) := by decide +kernel
theorem dX11_begins_84 : decode cX11_begins 84 = .ok (.aload_n 0, 1) := by decide +kernel
theorem dX11_begins_85 : decode cX11_begins 85 = .ok (.iconst (-1), 1) := by decide +kernel
theorem dX11_begins_86 : decode cX11_begins 86 = .ok (.putfield 78, 3) := by decide +kernel
theorem dX11_begins_89 : decode cX11_begins 89 = .ok (.aload_n 0, 1) := by decide +kernel
theorem dX11_begins_90 : decode cX11_begins 90 = .ok (.invokevirtual 280, 3) := by decide +kernel
theorem dX11_begins_93 : decode cX11_begins 93 = .ok (.iconst 0, 1) := by decide +kernel
theorem dX11_begins_94 : decode cX11_begins 94 = .ok (.istore_n 3, 1) := by decide +kernel
theorem dX11_begins_95 : decode cX11_begins 95 = .ok (.iload_n 3, 1) := by decide +kernel
theorem dX11_begins_96 : decode cX11_begins 96 = .ok (.iconst 4, 1) := by decide +kernel
theorem dX11_begins_97 : decode cX11_begins 97 = .ok (.if_icmp .ge 16, 3) := by decide +kernel
theorem dX11_begins_100 : decode cX11_begins 100 = .ok (.aload_n 0, 1) := by decide +kernel
theorem dX11_begins_101 : decode cX11_begins 101 = .ok (.getfield 90, 3) := by decide +kernel
theorem dX11_begins_104 : decode cX11_begins 104 = .ok (.iload_n 3, 1) := by decide +kernel
theorem dX11_begins_105 : decode cX11_begins 105 = .ok (.iconst 0, 1) := by decide +kernel
theorem dX11_begins_106 : decode cX11_begins 106 = .ok (.bastore, 1) := by decide +kernel
theorem dX11_begins_107 : decode cX11_begins 107 = .ok (.iinc 3 1, 3) := by decide +kernel
theorem dX11_begins_110 : decode cX11_begins 110 = .ok (.goto (-15), 3) := by decide +kernel
theorem dX11_begins_113 : decode cX11_begins 113 = .ok (.return_, 1) := by decide +kernel
theorem dX11_ahead_0 : decode cX11_ahead 0 = .ok (.iload_n 2, 1) := by decide +kernel
theorem dX11_ahead_1 : decode cX11_ahead 1 = .ok (.ifCond .ne 12, 3) := by decide +kernel
theorem dX11_ahead_4 : decode cX11_ahead 4 = .ok (.iload_n 1, 1) := by decide +kernel
theorem dX11_ahead_5 : decode cX11_ahead 5 = .ok (.aload_n 0, 1) := by decide +kernel
theorem dX11_ahead_6 : decode cX11_ahead 6 = .ok (.getfield 283, 3) := by decide +kernel
theorem dX11_ahead_9 : decode cX11_ahead 9 = .ok (.isub, 1) := by decide +kernel
theorem dX11_ahead_10 : decode cX11_ahead 10 = .ok (.goto 31, 3) := by decide +kernel
theorem dX11_ahead_13 : decode cX11_ahead 13 = .ok (.iload_n 2, 1) := by decide +kernel
theorem dX11_ahead_14 : decode cX11_ahead 14 = .ok (.iconst 1, 1) := by decide +kernel
theorem dX11_ahead_15 : decode cX11_ahead 15 = .ok (.if_icmp .ne 9, 3) := by decide +kernel
theorem dX11_ahead_18 : decode cX11_ahead 18 = .ok (.iload_n 1, 1) := by decide +kernel
theorem dX11_ahead_19 : decode cX11_ahead 19 = .ok (.iconst 1, 1) := by decide +kernel
theorem dX11_ahead_20 : decode cX11_ahead 20 = .ok (.iadd, 1) := by decide +kernel
theorem dX11_ahead_21 : decode cX11_ahead 21 = .ok (.goto 20, 3) := by decide +kernel
theorem dX11_ahead_24 : decode cX11_ahead 24 = .ok (.iload_n 2, 1) := by decide +kernel
theorem dX11_ahead_25 : decode cX11_ahead 25 = .ok (.iconst 2, 1) := by decide +kernel
theorem dX11_ahead_26 : decode cX11_ahead 26 = .ok (.if_icmp .ne 12, 3) := by decide +kernel
theorem dX11_ahead_29 : decode cX11_ahead 29 = .ok (.iload_n 1, 1) := by decide +kernel
theorem dX11_ahead_30 : decode cX11_ahead 30 = .ok (.aload_n 0, 1) := by decide +kernel
theorem dX11_ahead_31 : decode cX11_ahead 31 = .ok (.getfield 283, 3) := by decide +kernel
theorem dX11_ahead_34 : decode cX11_ahead 34 = .ok (.iadd, 1) := by decide +kernel
theorem dX11_ahead_35 : decode cX11_ahead 35 = .ok (.goto 6, 3) := by decide +kernel
theorem dX11_ahead_38 : decode cX11_ahead 38 = .ok (.iload_n 1, 1) := by decide +kernel
theorem dX11_ahead_39 : decode cX11_ahead 39 = .ok (.iconst 1, 1) := by decide +kernel
theorem dX11_ahead_40 : decode cX11_ahead 40 = .ok (.isub, 1) := by decide +kernel
theorem dX11_ahead_41 : decode cX11_ahead 41 = .ok (.ireturn, 1) := by decide +kernel
theorem dX11_isWall_0 : decode cX11_isWall 0 = .ok (.aload_n 0, 1) := by decide +kernel
theorem dX11_isWall_1 : decode cX11_isWall 1 = .ok (.getfield 69, 3) := by decide +kernel
theorem dX11_isWall_4 : decode cX11_isWall 4 = .ok (.iload_n 1, 1) := by decide +kernel
theorem dX11_isWall_5 : decode cX11_isWall 5 = .ok (.iaload, 1) := by decide +kernel
theorem dX11_isWall_6 : decode cX11_isWall 6 = .ok (.iload_n 2, 1) := by decide +kernel
theorem dX11_isWall_7 : decode cX11_isWall 7 = .ok (.invokestatic 310, 3) := by decide +kernel
theorem dX11_isWall_10 : decode cX11_isWall 10 = .ok (.ireturn, 1) := by decide +kernel
theorem dX11_putWall_0 : decode cX11_putWall 0 = .ok (.aload_n 0, 1) := by decide +kernel
theorem dX11_putWall_1 : decode cX11_putWall 1 = .ok (.iload_n 1, 1) := by decide +kernel
theorem dX11_putWall_2 : decode cX11_putWall 2 = .ok (.iload_n 2, 1) := by decide +kernel
theorem dX11_putWall_3 : decode cX11_putWall 3 = .ok (.invokevirtual 314, 3) := by decide +kernel
theorem dX11_putWall_6 : decode cX11_putWall 6 = .ok (.istore 4, 2) := by decide +kernel
theorem dX11_putWall_8 : decode cX11_putWall 8 = .ok (.iload_n 2, 1) := by decide +kernel
theorem dX11_putWall_9 : decode cX11_putWall 9 = .ok (.iconst 2, 1) := by decide +kernel
theorem dX11_putWall_10 : decode cX11_putWall 10 = .ok (.iadd, 1) := by decide +kernel
theorem dX11_putWall_11 : decode cX11_putWall 11 = .ok (.iconst 4, 1) := by decide +kernel
theorem dX11_putWall_12 : decode cX11_putWall 12 = .ok (.irem, 1) := by decide +kernel
theorem dX11_putWall_13 : decode cX11_putWall 13 = .ok (.istore 5, 2) := by decide +kernel
theorem dX11_putWall_15 : decode cX11_putWall 15 = .ok (.aload_n 0, 1) := by decide +kernel
theorem dX11_putWall_16 : decode cX11_putWall 16 = .ok (.getfield 69, 3) := by decide +kernel
theorem dX11_putWall_19 : decode cX11_putWall 19 = .ok (.iload_n 1, 1) := by decide +kernel
theorem dX11_putWall_20 : decode cX11_putWall 20 = .ok (.iload_n 3, 1) := by decide +kernel
theorem dX11_putWall_21 : decode cX11_putWall 21 = .ok (.ifCond .eq 16, 3) := by decide +kernel
theorem dX11_putWall_24 : decode cX11_putWall 24 = .ok (.aload_n 0, 1) := by decide +kernel
theorem dX11_putWall_25 : decode cX11_putWall 25 = .ok (.getfield 69, 3) := by decide +kernel
theorem dX11_putWall_28 : decode cX11_putWall 28 = .ok (.iload_n 1, 1) := by decide +kernel
theorem dX11_putWall_29 : decode cX11_putWall 29 = .ok (.iaload, 1) := by decide +kernel
theorem dX11_putWall_30 : decode cX11_putWall 30 = .ok (.iconst 1, 1) := by decide +kernel
theorem dX11_putWall_31 : decode cX11_putWall 31 = .ok (.iload_n 2, 1) := by decide +kernel
theorem dX11_putWall_32 : decode cX11_putWall 32 = .ok (.ishl, 1) := by decide +kernel
theorem dX11_putWall_33 : decode cX11_putWall 33 = .ok (.ior, 1) := by decide +kernel
theorem dX11_putWall_34 : decode cX11_putWall 34 = .ok (.goto 15, 3) := by decide +kernel
theorem dX11_putWall_37 : decode cX11_putWall 37 = .ok (.aload_n 0, 1) := by decide +kernel
theorem dX11_putWall_38 : decode cX11_putWall 38 = .ok (.getfield 69, 3) := by decide +kernel
theorem dX11_putWall_41 : decode cX11_putWall 41 = .ok (.iload_n 1, 1) := by decide +kernel
theorem dX11_putWall_42 : decode cX11_putWall 42 = .ok (.iaload, 1) := by decide +kernel
theorem dX11_putWall_43 : decode cX11_putWall 43 = .ok (.iconst 1, 1) := by decide +kernel
theorem dX11_putWall_44 : decode cX11_putWall 44 = .ok (.iload_n 2, 1) := by decide +kernel
theorem dX11_putWall_45 : decode cX11_putWall 45 = .ok (.ishl, 1) := by decide +kernel
theorem dX11_putWall_46 : decode cX11_putWall 46 = .ok (.iconst (-1), 1) := by decide +kernel
theorem dX11_putWall_47 : decode cX11_putWall 47 = .ok (.ixor, 1) := by decide +kernel
theorem dX11_putWall_48 : decode cX11_putWall 48 = .ok (.iand, 1) := by decide +kernel
theorem dX11_putWall_49 : decode cX11_putWall 49 = .ok (.iastore, 1) := by decide +kernel
theorem dX11_putWall_50 : decode cX11_putWall 50 = .ok (.aload_n 0, 1) := by decide +kernel
theorem dX11_putWall_51 : decode cX11_putWall 51 = .ok (.getfield 69, 3) := by decide +kernel
theorem dX11_putWall_54 : decode cX11_putWall 54 = .ok (.iload 4, 2) := by decide +kernel
theorem dX11_putWall_56 : decode cX11_putWall 56 = .ok (.iload_n 3, 1) := by decide +kernel
theorem dX11_putWall_57 : decode cX11_putWall 57 = .ok (.ifCond .eq 18, 3) := by decide +kernel
theorem dX11_putWall_60 : decode cX11_putWall 60 = .ok (.aload_n 0, 1) := by decide +kernel
theorem dX11_putWall_61 : decode cX11_putWall 61 = .ok (.getfield 69, 3) := by decide +kernel
theorem dX11_putWall_64 : decode cX11_putWall 64 = .ok (.iload 4, 2) := by decide +kernel
theorem dX11_putWall_66 : decode cX11_putWall 66 = .ok (.iaload, 1) := by decide +kernel
theorem dX11_putWall_67 : decode cX11_putWall 67 = .ok (.iconst 1, 1) := by decide +kernel
theorem dX11_putWall_68 : decode cX11_putWall 68 = .ok (.iload 5, 2) := by decide +kernel
theorem dX11_putWall_70 : decode cX11_putWall 70 = .ok (.ishl, 1) := by decide +kernel
theorem dX11_putWall_71 : decode cX11_putWall 71 = .ok (.ior, 1) := by decide +kernel
theorem dX11_putWall_72 : decode cX11_putWall 72 = .ok (.goto 17, 3) := by decide +kernel
theorem dX11_putWall_75 : decode cX11_putWall 75 = .ok (.aload_n 0, 1) := by decide +kernel
theorem dX11_putWall_76 : decode cX11_putWall 76 = .ok (.getfield 69, 3) := by decide +kernel
theorem dX11_putWall_79 : decode cX11_putWall 79 = .ok (.iload 4, 2) := by decide +kernel
theorem dX11_putWall_81 : decode cX11_putWall 81 = .ok (.iaload, 1) := by decide +kernel
theorem dX11_putWall_82 : decode cX11_putWall 82 = .ok (.iconst 1, 1) := by decide +kernel
theorem dX11_putWall_83 : decode cX11_putWall 83 = .ok (.iload 5, 2) := by decide +kernel
theorem dX11_putWall_85 : decode cX11_putWall 85 = .ok (.ishl, 1) := by decide +kernel
theorem dX11_putWall_86 : decode cX11_putWall 86 = .ok (.iconst (-1), 1) := by decide +kernel
theorem dX11_putWall_87 : decode cX11_putWall 87 = .ok (.ixor, 1) := by decide +kernel
theorem dX11_putWall_88 : decode cX11_putWall 88 = .ok (.iand, 1) := by decide +kernel
theorem dX11_putWall_89 : decode cX11_putWall 89 = .ok (.iastore, 1) := by decide +kernel
theorem dX11_putWall_90 : decode cX11_putWall 90 = .ok (.return_, 1) := by decide +kernel
theorem dX11_floor_0 : decode cX11_floor 0 = .ok (.aload_n 0, 1) := by decide +kernel
theorem dX11_floor_1 : decode cX11_floor 1 = .ok (.iconst 0, 1) := by decide +kernel
theorem dX11_floor_2 : decode cX11_floor 2 = .ok (.putfield 130, 3) := by decide +kernel
theorem dX11_floor_5 : decode cX11_floor 5 = .ok (.iload_n 1, 1) := by decide +kernel
theorem dX11_floor_6 : decode cX11_floor 6 = .ok (.iconst 2, 1) := by decide +kernel
theorem dX11_floor_7 : decode cX11_floor 7 = .ok (.bipush 6, 2) := by decide +kernel
theorem dX11_floor_9 : decode cX11_floor 9 = .ok (.invokestatic 317, 3) := by decide +kernel
theorem dX11_floor_12 : decode cX11_floor 12 = .ok (.ifCond .eq 13, 3) := by decide +kernel
theorem dX11_floor_15 : decode cX11_floor 15 = .ok (.iload_n 2, 1) := by decide +kernel
theorem dX11_floor_16 : decode cX11_floor 16 = .ok (.iconst 2, 1) := by decide +kernel
theorem dX11_floor_17 : decode cX11_floor 17 = .ok (.bipush 6, 2) := by decide +kernel
theorem dX11_floor_19 : decode cX11_floor 19 = .ok (.invokestatic 317, 3) := by decide +kernel
theorem dX11_floor_22 : decode cX11_floor 22 = .ok (.ifCond .ne 5, 3) := by decide +kernel
theorem dX11_floor_25 : decode cX11_floor 25 = .ok (.iconst 0, 1) := by decide +kernel
theorem dX11_floor_26 : decode cX11_floor 26 = .ok (.ireturn, 1) := by decide +kernel
theorem dX11_floor_27 : decode cX11_floor 27 = .ok (.aload_n 0, 1) := by decide +kernel
theorem dX11_floor_28 : decode cX11_floor 28 = .ok (.iload_n 1, 1) := by decide +kernel
theorem dX11_floor_29 : decode cX11_floor 29 = .ok (.iload_n 2, 1) := by decide +kernel
theorem dX11_floor_30 : decode cX11_floor 30 = .ok (.invokevirtual 126, 3) := by decide +kernel
theorem dX11_floor_33 : decode cX11_floor 33 = .ok (.iconst 1, 1) := by decide +kernel
theorem dX11_floor_34 : decode cX11_floor 34 = .ok (.ireturn, 1) := by decide +kernel
theorem dX11_isAround_0 : decode cX11_isAround 0 = .ok (.iload_n 2, 1) := by decide +kernel
theorem dX11_isAround_1 : decode cX11_isAround 1 = .ok (.ifCond .ne 19, 3) := by decide +kernel
theorem dX11_isAround_4 : decode cX11_isAround 4 = .ok (.iload_n 1, 1) := by decide +kernel
theorem dX11_isAround_5 : decode cX11_isAround 5 = .ok (.aload_n 0, 1) := by decide +kernel
theorem dX11_isAround_6 : decode cX11_isAround 6 = .ok (.getfield 283, 3) := by decide +kernel
theorem dX11_isAround_9 : decode cX11_isAround 9 = .ok (.if_icmp .ge 7, 3) := by decide +kernel
theorem dX11_isAround_12 : decode cX11_isAround 12 = .ok (.iconst 1, 1) := by decide +kernel
theorem dX11_isAround_13 : decode cX11_isAround 13 = .ok (.goto 75, 3) := by decide +kernel
theorem dX11_isAround_16 : decode cX11_isAround 16 = .ok (.iconst 0, 1) := by decide +kernel
theorem dX11_isAround_17 : decode cX11_isAround 17 = .ok (.goto 71, 3) := by decide +kernel
theorem dX11_isAround_20 : decode cX11_isAround 20 = .ok (.iload_n 2, 1) := by decide +kernel
theorem dX11_isAround_21 : decode cX11_isAround 21 = .ok (.iconst 1, 1) := by decide +kernel
theorem dX11_isAround_22 : decode cX11_isAround 22 = .ok (.if_icmp .ne 26, 3) := by decide +kernel
theorem dX11_isAround_25 : decode cX11_isAround 25 = .ok (.iload_n 1, 1) := by decide +kernel
theorem dX11_isAround_26 : decode cX11_isAround 26 = .ok (.aload_n 0, 1) := by decide +kernel
theorem dX11_isAround_27 : decode cX11_isAround 27 = .ok (.getfield 283, 3) := by decide +kernel
theorem dX11_isAround_30 : decode cX11_isAround 30 = .ok (.irem, 1) := by decide +kernel
theorem dX11_isAround_31 : decode cX11_isAround 31 = .ok (.aload_n 0, 1) := by decide +kernel
theorem dX11_isAround_32 : decode cX11_isAround 32 = .ok (.getfield 283, 3) := by decide +kernel
theorem dX11_isAround_35 : decode cX11_isAround 35 = .ok (.iconst 1, 1) := by decide +kernel
theorem dX11_isAround_36 : decode cX11_isAround 36 = .ok (.isub, 1) := by decide +kernel
theorem dX11_isAround_37 : decode cX11_isAround 37 = .ok (.if_icmp .ne 7, 3) := by decide +kernel
theorem dX11_isAround_40 : decode cX11_isAround 40 = .ok (.iconst 1, 1) := by decide +kernel
theorem dX11_isAround_41 : decode cX11_isAround 41 = .ok (.goto 47, 3) := by decide +kernel
theorem dX11_isAround_44 : decode cX11_isAround 44 = .ok (.iconst 0, 1) := by decide +kernel
theorem dX11_isAround_45 : decode cX11_isAround 45 = .ok (.goto 43, 3) := by decide +kernel
theorem dX11_isAround_48 : decode cX11_isAround 48 = .ok (.iload_n 2, 1) := by decide +kernel
theorem dX11_isAround_49 : decode cX11_isAround 49 = .ok (.iconst 2, 1) := by decide +kernel
theorem dX11_isAround_50 : decode cX11_isAround 50 = .ok (.if_icmp .ne 24, 3) := by decide +kernel
theorem dX11_isAround_53 : decode cX11_isAround 53 = .ok (.iload_n 1, 1) := by decide +kernel
theorem dX11_isAround_54 : decode cX11_isAround 54 = .ok (.aload_n 0, 1) := by decide +kernel
theorem dX11_isAround_55 : decode cX11_isAround 55 = .ok (.invokevirtual 289, 3) := by decide +kernel
theorem dX11_isAround_58 : decode cX11_isAround 58 = .ok (.aload_n 0, 1) := by decide +kernel
theorem dX11_isAround_59 : decode cX11_isAround 59 = .ok (.getfield 283, 3) := by decide +kernel
theorem dX11_isAround_62 : decode cX11_isAround 62 = .ok (.isub, 1) := by decide +kernel
theorem dX11_isAround_63 : decode cX11_isAround 63 = .ok (.if_icmp .lt 7, 3) := by decide +kernel
theorem dX11_isAround_66 : decode cX11_isAround 66 = .ok (.iconst 1, 1) := by decide +kernel
theorem dX11_isAround_67 : decode cX11_isAround 67 = .ok (.goto 21, 3) := by decide +kernel
theorem dX11_isAround_70 : decode cX11_isAround 70 = .ok (.iconst 0, 1) := by decide +kernel
theorem dX11_isAround_71 : decode cX11_isAround 71 = .ok (.goto 17, 3) := by decide +kernel
theorem dX11_isAround_74 : decode cX11_isAround 74 = .ok (.iload_n 1, 1) := by decide +kernel
theorem dX11_isAround_75 : decode cX11_isAround 75 = .ok (.aload_n 0, 1) := by decide +kernel
theorem dX11_isAround_76 : decode cX11_isAround 76 = .ok (.getfield 283, 3) := by decide +kernel
theorem dX11_isAround_79 : decode cX11_isAround 79 = .ok (.irem, 1) := by decide +kernel
theorem dX11_isAround_80 : decode cX11_isAround 80 = .ok (.ifCond .ne 7, 3) := by decide +kernel
theorem dX11_isAround_83 : decode cX11_isAround 83 = .ok (.iconst 1, 1) := by decide +kernel
theorem dX11_isAround_84 : decode cX11_isAround 84 = .ok (.goto 4, 3) := by decide +kernel
theorem dX11_isAround_87 : decode cX11_isAround 87 = .ok (.iconst 0, 1) := by decide +kernel
theorem dX11_isAround_88 : decode cX11_isAround 88 = .ok (.ireturn, 1) := by decide +kernel
theorem dX11_wall_0 : decode cX11_wall 0 = .ok (.aload_n 0, 1) := by decide +kernel
theorem dX11_wall_1 : decode cX11_wall 1 = .ok (.iconst 0, 1) := by decide +kernel
theorem dX11_wall_2 : decode cX11_wall 2 = .ok (.putfield 130, 3) := by decide +kernel
theorem dX11_wall_5 : decode cX11_wall 5 = .ok (.aload_n 0, 1) := by decide +kernel
theorem dX11_wall_6 : decode cX11_wall 6 = .ok (.iload_n 1, 1) := by decide +kernel
theorem dX11_wall_7 : decode cX11_wall 7 = .ok (.invokevirtual 321, 3) := by decide +kernel
theorem dX11_wall_10 : decode cX11_wall 10 = .ok (.ifCond .eq 31, 3) := by decide +kernel
theorem dX11_wall_13 : decode cX11_wall 13 = .ok (.iload_n 2, 1) := by decide +kernel
theorem dX11_wall_14 : decode cX11_wall 14 = .ok (.iconst 0, 1) := by decide +kernel
theorem dX11_wall_15 : decode cX11_wall 15 = .ok (.iconst 3, 1) := by decide +kernel
theorem dX11_wall_16 : decode cX11_wall 16 = .ok (.invokestatic 317, 3) := by decide +kernel
theorem dX11_wall_19 : decode cX11_wall 19 = .ok (.ifCond .eq 22, 3) := by decide +kernel
theorem dX11_wall_22 : decode cX11_wall 22 = .ok (.aload_n 0, 1) := by decide +kernel
theorem dX11_wall_23 : decode cX11_wall 23 = .ok (.iload_n 1, 1) := by decide +kernel
theorem dX11_wall_24 : decode cX11_wall 24 = .ok (.iload_n 2, 1) := by decide +kernel
theorem dX11_wall_25 : decode cX11_wall 25 = .ok (.invokevirtual 324, 3) := by decide +kernel
theorem dX11_wall_28 : decode cX11_wall 28 = .ok (.ifCond .ne 13, 3) := by decide +kernel
theorem dX11_wall_31 : decode cX11_wall 31 = .ok (.aload_n 0, 1) := by decide +kernel
theorem dX11_wall_32 : decode cX11_wall 32 = .ok (.iload_n 1, 1) := by decide +kernel
theorem dX11_wall_33 : decode cX11_wall 33 = .ok (.iload_n 2, 1) := by decide +kernel
theorem dX11_wall_34 : decode cX11_wall 34 = .ok (.invokevirtual 327, 3) := by decide +kernel
theorem dX11_wall_37 : decode cX11_wall 37 = .ok (.iload_n 3, 1) := by decide +kernel
theorem dX11_wall_38 : decode cX11_wall 38 = .ok (.if_icmp .ne 5, 3) := by decide +kernel
theorem dX11_wall_41 : decode cX11_wall 41 = .ok (.iconst 0, 1) := by decide +kernel
theorem dX11_wall_42 : decode cX11_wall 42 = .ok (.ireturn, 1) := by decide +kernel
theorem dX11_wall_43 : decode cX11_wall 43 = .ok (.aload_n 0, 1) := by decide +kernel
theorem dX11_wall_44 : decode cX11_wall 44 = .ok (.iload_n 1, 1) := by decide +kernel
theorem dX11_wall_45 : decode cX11_wall 45 = .ok (.iload_n 2, 1) := by decide +kernel
theorem dX11_wall_46 : decode cX11_wall 46 = .ok (.iload_n 3, 1) := by decide +kernel
theorem dX11_wall_47 : decode cX11_wall 47 = .ok (.invokevirtual 330, 3) := by decide +kernel
theorem dX11_wall_50 : decode cX11_wall 50 = .ok (.iconst 1, 1) := by decide +kernel
theorem dX11_wall_51 : decode cX11_wall 51 = .ok (.ireturn, 1) := by decide +kernel
theorem dX11_bell_0 : decode cX11_bell 0 = .ok (.aload_n 0, 1) := by decide +kernel
theorem dX11_bell_1 : decode cX11_bell 1 = .ok (.iconst 0, 1) := by decide +kernel
theorem dX11_bell_2 : decode cX11_bell 2 = .ok (.putfield 130, 3) := by decide +kernel
theorem dX11_bell_5 : decode cX11_bell 5 = .ok (.aload_n 0, 1) := by decide +kernel
theorem dX11_bell_6 : decode cX11_bell 6 = .ok (.iload_n 1, 1) := by decide +kernel
theorem dX11_bell_7 : decode cX11_bell 7 = .ok (.invokevirtual 321, 3) := by decide +kernel
theorem dX11_bell_10 : decode cX11_bell 10 = .ok (.ifCond .ne 5, 3) := by decide +kernel
theorem dX11_bell_13 : decode cX11_bell 13 = .ok (.iconst 0, 1) := by decide +kernel
theorem dX11_bell_14 : decode cX11_bell 14 = .ok (.ireturn, 1) := by decide +kernel
theorem dX11_bell_15 : decode cX11_bell 15 = .ok (.aload_n 0, 1) := by decide +kernel
theorem dX11_bell_16 : decode cX11_bell 16 = .ok (.iload_n 1, 1) := by decide +kernel
theorem dX11_bell_17 : decode cX11_bell 17 = .ok (.putfield 292, 3) := by decide +kernel
theorem dX11_bell_20 : decode cX11_bell 20 = .ok (.iconst 1, 1) := by decide +kernel
theorem dX11_bell_21 : decode cX11_bell 21 = .ok (.ireturn, 1) := by decide +kernel
theorem dX11_lift_0 : decode cX11_lift 0 = .ok (.aload_n 0, 1) := by decide +kernel
theorem dX11_lift_1 : decode cX11_lift 1 = .ok (.iconst 0, 1) := by decide +kernel
theorem dX11_lift_2 : decode cX11_lift 2 = .ok (.putfield 130, 3) := by decide +kernel
theorem dX11_lift_5 : decode cX11_lift 5 = .ok (.aload_n 0, 1) := by decide +kernel
theorem dX11_lift_6 : decode cX11_lift 6 = .ok (.iload_n 1, 1) := by decide +kernel
theorem dX11_lift_7 : decode cX11_lift 7 = .ok (.invokevirtual 321, 3) := by decide +kernel
theorem dX11_lift_10 : decode cX11_lift 10 = .ok (.ifCond .eq 12, 3) := by decide +kernel
theorem dX11_lift_13 : decode cX11_lift 13 = .ok (.iload_n 2, 1) := by decide +kernel
theorem dX11_lift_14 : decode cX11_lift 14 = .ok (.iconst 0, 1) := by decide +kernel
theorem dX11_lift_15 : decode cX11_lift 15 = .ok (.iconst 3, 1) := by decide +kernel
theorem dX11_lift_16 : decode cX11_lift 16 = .ok (.invokestatic 317, 3) := by decide +kernel
theorem dX11_lift_19 : decode cX11_lift 19 = .ok (.ifCond .ne 5, 3) := by decide +kernel
theorem dX11_lift_22 : decode cX11_lift 22 = .ok (.iconst 0, 1) := by decide +kernel
theorem dX11_lift_23 : decode cX11_lift 23 = .ok (.ireturn, 1) := by decide +kernel
theorem dX11_lift_24 : decode cX11_lift 24 = .ok (.aload_n 0, 1) := by decide +kernel
theorem dX11_lift_25 : decode cX11_lift 25 = .ok (.iload_n 1, 1) := by decide +kernel
theorem dX11_lift_26 : decode cX11_lift 26 = .ok (.putfield 295, 3) := by decide +kernel
theorem dX11_lift_29 : decode cX11_lift 29 = .ok (.aload_n 0, 1) := by decide +kernel
theorem dX11_lift_30 : decode cX11_lift 30 = .ok (.iload_n 2, 1) := by decide +kernel
theorem dX11_lift_31 : decode cX11_lift 31 = .ok (.putfield 298, 3) := by decide +kernel
theorem dX11_lift_34 : decode cX11_lift 34 = .ok (.iconst 1, 1) := by decide +kernel
theorem dX11_lift_35 : decode cX11_lift 35 = .ok (.ireturn, 1) := by decide +kernel
theorem dX11_wipes_0 : decode cX11_wipes 0 = .ok (.iconst 0, 1) := by decide +kernel
theorem dX11_wipes_1 : decode cX11_wipes 1 = .ok (.istore_n 1, 1) := by decide +kernel
theorem dX11_wipes_2 : decode cX11_wipes 2 = .ok (.iload_n 1, 1) := by decide +kernel
theorem dX11_wipes_3 : decode cX11_wipes 3 = .ok (.aload_n 0, 1) := by decide +kernel
theorem dX11_wipes_4 : decode cX11_wipes 4 = .ok (.invokevirtual 289, 3) := by decide +kernel
theorem dX11_wipes_7 : decode cX11_wipes 7 = .ok (.if_icmp .ge 23, 3) := by decide +kernel
theorem dX11_wipes_10 : decode cX11_wipes 10 = .ok (.aload_n 0, 1) := by decide +kernel
theorem dX11_wipes_11 : decode cX11_wipes 11 = .ok (.getfield 72, 3) := by decide +kernel
theorem dX11_wipes_14 : decode cX11_wipes 14 = .ok (.iload_n 1, 1) := by decide +kernel
theorem dX11_wipes_15 : decode cX11_wipes 15 = .ok (.iconst 0, 1) := by decide +kernel
theorem dX11_wipes_16 : decode cX11_wipes 16 = .ok (.iastore, 1) := by decide +kernel
theorem dX11_wipes_17 : decode cX11_wipes 17 = .ok (.aload_n 0, 1) := by decide +kernel
theorem dX11_wipes_18 : decode cX11_wipes 18 = .ok (.getfield 75, 3) := by decide +kernel
theorem dX11_wipes_21 : decode cX11_wipes 21 = .ok (.iload_n 1, 1) := by decide +kernel
theorem dX11_wipes_22 : decode cX11_wipes 22 = .ok (.iconst 0, 1) := by decide +kernel
theorem dX11_wipes_23 : decode cX11_wipes 23 = .ok (.iastore, 1) := by decide +kernel
theorem dX11_wipes_24 : decode cX11_wipes 24 = .ok (.iinc 1 1, 3) := by decide +kernel
theorem dX11_wipes_27 : decode cX11_wipes 27 = .ok (.goto (-25), 3) := by decide +kernel
theorem dX11_wipes_30 : decode cX11_wipes 30 = .ok (.return_, 1) := by decide +kernel
theorem dX11_wipe_0 : decode cX11_wipe 0 = .ok (.aload_n 0, 1) := by decide +kernel
theorem dX11_wipe_1 : decode cX11_wipe 1 = .ok (.iconst 0, 1) := by decide +kernel
theorem dX11_wipe_2 : decode cX11_wipe 2 = .ok (.putfield 130, 3) := by decide +kernel
theorem dX11_wipe_5 : decode cX11_wipe 5 = .ok (.iconst 0, 1) := by decide +kernel
theorem dX11_wipe_6 : decode cX11_wipe 6 = .ok (.istore_n 1, 1) := by decide +kernel
theorem dX11_wipe_7 : decode cX11_wipe 7 = .ok (.iconst 0, 1) := by decide +kernel
theorem dX11_wipe_8 : decode cX11_wipe 8 = .ok (.istore_n 2, 1) := by decide +kernel
theorem dX11_wipe_9 : decode cX11_wipe 9 = .ok (.iload_n 2, 1) := by decide +kernel
theorem dX11_wipe_10 : decode cX11_wipe 10 = .ok (.aload_n 0, 1) := by decide +kernel
theorem dX11_wipe_11 : decode cX11_wipe 11 = .ok (.invokevirtual 289, 3) := by decide +kernel
theorem dX11_wipe_14 : decode cX11_wipe 14 = .ok (.if_icmp .ge 35, 3) := by decide +kernel
theorem dX11_wipe_17 : decode cX11_wipe 17 = .ok (.iload_n 1, 1) := by decide +kernel
theorem dX11_wipe_18 : decode cX11_wipe 18 = .ok (.aload_n 0, 1) := by decide +kernel
theorem dX11_wipe_19 : decode cX11_wipe 19 = .ok (.getfield 72, 3) := by decide +kernel
theorem dX11_wipe_22 : decode cX11_wipe 22 = .ok (.iload_n 2, 1) := by decide +kernel
theorem dX11_wipe_23 : decode cX11_wipe 23 = .ok (.iaload, 1) := by decide +kernel
theorem dX11_wipe_24 : decode cX11_wipe 24 = .ok (.ifCond .ne 12, 3) := by decide +kernel
theorem dX11_wipe_27 : decode cX11_wipe 27 = .ok (.aload_n 0, 1) := by decide +kernel
theorem dX11_wipe_28 : decode cX11_wipe 28 = .ok (.getfield 75, 3) := by decide +kernel
theorem dX11_wipe_31 : decode cX11_wipe 31 = .ok (.iload_n 2, 1) := by decide +kernel
theorem dX11_wipe_32 : decode cX11_wipe 32 = .ok (.iaload, 1) := by decide +kernel
theorem dX11_wipe_33 : decode cX11_wipe 33 = .ok (.ifCond .eq 7, 3) := by decide +kernel
theorem dX11_wipe_36 : decode cX11_wipe 36 = .ok (.iconst 1, 1) := by decide +kernel
theorem dX11_wipe_37 : decode cX11_wipe 37 = .ok (.goto 4, 3) := by decide +kernel
theorem dX11_wipe_40 : decode cX11_wipe 40 = .ok (.iconst 0, 1) := by decide +kernel
theorem dX11_wipe_41 : decode cX11_wipe 41 = .ok (.iadd, 1) := by decide +kernel
theorem dX11_wipe_42 : decode cX11_wipe 42 = .ok (.istore_n 1, 1) := by decide +kernel
theorem dX11_wipe_43 : decode cX11_wipe 43 = .ok (.iinc 2 1, 3) := by decide +kernel
theorem dX11_wipe_46 : decode cX11_wipe 46 = .ok (.goto (-37), 3) := by decide +kernel
theorem dX11_wipe_49 : decode cX11_wipe 49 = .ok (.aload_n 0, 1) := by decide +kernel
theorem dX11_wipe_50 : decode cX11_wipe 50 = .ok (.invokevirtual 334, 3) := by decide +kernel
theorem dX11_wipe_53 : decode cX11_wipe 53 = .ok (.aload_n 0, 1) := by decide +kernel
theorem dX11_wipe_54 : decode cX11_wipe 54 = .ok (.iconst 0, 1) := by decide +kernel
theorem dX11_wipe_55 : decode cX11_wipe 55 = .ok (.putfield 301, 3) := by decide +kernel
theorem dX11_wipe_58 : decode cX11_wipe 58 = .ok (.aload_n 0, 1) := by decide +kernel
theorem dX11_wipe_59 : decode cX11_wipe 59 = .ok (.iconst 0, 1) := by decide +kernel
theorem dX11_wipe_60 : decode cX11_wipe 60 = .ok (.putfield 304, 3) := by decide +kernel
theorem dX11_wipe_63 : decode cX11_wipe 63 = .ok (.aload_n 0, 1) := by decide +kernel
theorem dX11_wipe_64 : decode cX11_wipe 64 = .ok (.aload_n 0, 1) := by decide +kernel
theorem dX11_wipe_65 : decode cX11_wipe 65 = .ok (.getfield 274, 3) := by decide +kernel
theorem dX11_wipe_68 : decode cX11_wipe 68 = .ok (.aload_n 0, 1) := by decide +kernel
theorem dX11_wipe_69 : decode cX11_wipe 69 = .ok (.getfield 277, 3) := by decide +kernel
theorem dX11_wipe_72 : decode cX11_wipe 72 = .ok (.iand, 1) := by decide +kernel
theorem dX11_wipe_73 : decode cX11_wipe 73 = .ok (.putfield 271, 3) := by decide +kernel
theorem dX11_wipe_76 : decode cX11_wipe 76 = .ok (.iload_n 1, 1) := by decide +kernel
theorem dX11_wipe_77 : decode cX11_wipe 77 = .ok (.ireturn, 1) := by decide +kernel
theorem dX11_ticks_0 : decode cX11_ticks 0 = .ok (.iconst 0, 1) := by decide +kernel
theorem dX11_ticks_1 : decode cX11_ticks 1 = .ok (.istore_n 1, 1) := by decide +kernel
theorem dX11_ticks_2 : decode cX11_ticks 2 = .ok (.iload_n 1, 1) := by decide +kernel
theorem dX11_ticks_3 : decode cX11_ticks 3 = .ok (.aload_n 0, 1) := by decide +kernel
theorem dX11_ticks_4 : decode cX11_ticks 4 = .ok (.getfield 203, 3) := by decide +kernel
theorem dX11_ticks_7 : decode cX11_ticks 7 = .ok (.if_icmp .ge 87, 3) := by decide +kernel
theorem dX11_ticks_10 : decode cX11_ticks 10 = .ok (.iconst 1, 1) := by decide +kernel
theorem dX11_ticks_11 : decode cX11_ticks 11 = .ok (.istore_n 2, 1) := by decide +kernel
theorem dX11_ticks_12 : decode cX11_ticks 12 = .ok (.bipush 12, 2) := by decide +kernel
theorem dX11_ticks_14 : decode cX11_ticks 14 = .ok (.iload_n 1, 1) := by decide +kernel
theorem dX11_ticks_15 : decode cX11_ticks 15 = .ok (.imul, 1) := by decide +kernel
theorem dX11_ticks_16 : decode cX11_ticks 16 = .ok (.istore_n 3, 1) := by decide +kernel
theorem dX11_ticks_17 : decode cX11_ticks 17 = .ok (.iload_n 3, 1) := by decide +kernel
theorem dX11_ticks_18 : decode cX11_ticks 18 = .ok (.bipush 12, 2) := by decide +kernel
theorem dX11_ticks_20 : decode cX11_ticks 20 = .ok (.iload_n 1, 1) := by decide +kernel
theorem dX11_ticks_21 : decode cX11_ticks 21 = .ok (.imul, 1) := by decide +kernel
theorem dX11_ticks_22 : decode cX11_ticks 22 = .ok (.aload_n 0, 1) := by decide +kernel
theorem dX11_ticks_23 : decode cX11_ticks 23 = .ok (.getfield 20, 3) := by decide +kernel
theorem dX11_ticks_26 : decode cX11_ticks 26 = .ok (.iload_n 1, 1) := by decide +kernel
theorem dX11_ticks_27 : decode cX11_ticks 27 = .ok (.iaload, 1) := by decide +kernel
theorem dX11_ticks_28 : decode cX11_ticks 28 = .ok (.iadd, 1) := by decide +kernel
theorem dX11_ticks_29 : decode cX11_ticks 29 = .ok (.if_icmp .ge 19, 3) := by decide +kernel
theorem dX11_ticks_32 : decode cX11_ticks 32 = .ok (.iload_n 2, 1) := by decide +kernel
theorem dX11_ticks_33 : decode cX11_ticks 33 = .ok (.ifCond .eq 15, 3) := by decide +kernel
theorem dX11_ticks_36 : decode cX11_ticks 36 = .ok (.aload_n 0, 1) := by decide +kernel
theorem dX11_ticks_37 : decode cX11_ticks 37 = .ok (.iload_n 3, 1) := by decide +kernel
theorem dX11_ticks_38 : decode cX11_ticks 38 = .ok (.invokevirtual 343, 3) := by decide +kernel
theorem dX11_ticks_41 : decode cX11_ticks 41 = .ok (.istore_n 2, 1) := by decide +kernel
theorem dX11_ticks_42 : decode cX11_ticks 42 = .ok (.iinc 3 1, 3) := by decide +kernel
theorem dX11_ticks_45 : decode cX11_ticks 45 = .ok (.goto (-28), 3) := by decide +kernel
theorem dX11_ticks_48 : decode cX11_ticks 48 = .ok (.iload_n 2, 1) := by decide +kernel
theorem dX11_ticks_49 : decode cX11_ticks 49 = .ok (.ifCond .ne 6, 3) := by decide +kernel
theorem dX11_ticks_52 : decode cX11_ticks 52 = .ok (.goto 36, 3) := by decide +kernel
theorem dX11_ticks_55 : decode cX11_ticks 55 = .ok (.bipush 12, 2) := by decide +kernel
theorem dX11_ticks_57 : decode cX11_ticks 57 = .ok (.iload_n 1, 1) := by decide +kernel
theorem dX11_ticks_58 : decode cX11_ticks 58 = .ok (.imul, 1) := by decide +kernel
theorem dX11_ticks_59 : decode cX11_ticks 59 = .ok (.istore_n 3, 1) := by decide +kernel
theorem dX11_ticks_60 : decode cX11_ticks 60 = .ok (.iload_n 3, 1) := by decide +kernel
theorem dX11_ticks_61 : decode cX11_ticks 61 = .ok (.bipush 12, 2) := by decide +kernel
theorem dX11_ticks_63 : decode cX11_ticks 63 = .ok (.iload_n 1, 1) := by decide +kernel
theorem dX11_ticks_64 : decode cX11_ticks 64 = .ok (.imul, 1) := by decide +kernel
theorem dX11_ticks_65 : decode cX11_ticks 65 = .ok (.aload_n 0, 1) := by decide +kernel
theorem dX11_ticks_66 : decode cX11_ticks 66 = .ok (.getfield 23, 3) := by decide +kernel
theorem dX11_ticks_69 : decode cX11_ticks 69 = .ok (.iload_n 1, 1) := by decide +kernel
theorem dX11_ticks_70 : decode cX11_ticks 70 = .ok (.iaload, 1) := by decide +kernel
theorem dX11_ticks_71 : decode cX11_ticks 71 = .ok (.iadd, 1) := by decide +kernel
theorem dX11_ticks_72 : decode cX11_ticks 72 = .ok (.if_icmp .ge 14, 3) := by decide +kernel
theorem dX11_ticks_75 : decode cX11_ticks 75 = .ok (.aload_n 0, 1) := by decide +kernel
theorem dX11_ticks_76 : decode cX11_ticks 76 = .ok (.iload_n 3, 1) := by decide +kernel
theorem dX11_ticks_77 : decode cX11_ticks 77 = .ok (.invokevirtual 346, 3) := by decide +kernel
theorem dX11_ticks_80 : decode cX11_ticks 80 = .ok (.iinc 3 1, 3) := by decide +kernel
theorem dX11_ticks_83 : decode cX11_ticks 83 = .ok (.goto (-23), 3) := by decide +kernel
theorem dX11_ticks_86 : decode cX11_ticks 86 = .ok (.iload_n 1, 1) := by decide +kernel
theorem dX11_ticks_87 : decode cX11_ticks 87 = .ok (.ireturn, 1) := by decide +kernel
theorem dX11_ticks_88 : decode cX11_ticks 88 = .ok (.iinc 1 1, 3) := by decide +kernel
theorem dX11_ticks_91 : decode cX11_ticks 91 = .ok (.goto (-89), 3) := by decide +kernel
theorem dX11_ticks_94 : decode cX11_ticks 94 = .ok (.iconst (-1), 1) := by decide +kernel
theorem dX11_ticks_95 : decode cX11_ticks 95 = .ok (.ireturn, 1) := by decide +kernel
theorem dX11_tick_0 : decode cX11_tick 0 = .ok (.aload_n 0, 1) := by decide +kernel
theorem dX11_tick_1 : decode cX11_tick 1 = .ok (.iconst 0, 1) := by decide +kernel
theorem dX11_tick_2 : decode cX11_tick 2 = .ok (.putfield 130, 3) := by decide +kernel
theorem dX11_tick_5 : decode cX11_tick 5 = .ok (.iload_n 1, 1) := by decide +kernel
theorem dX11_tick_6 : decode cX11_tick 6 = .ok (.iconst 0, 1) := by decide +kernel
theorem dX11_tick_7 : decode cX11_tick 7 = .ok (.sipush 5000, 3) := by decide +kernel
theorem dX11_tick_10 : decode cX11_tick 10 = .ok (.invokestatic 317, 3) := by decide +kernel
theorem dX11_tick_13 : decode cX11_tick 13 = .ok (.ifCond .ne 5, 3) := by decide +kernel
theorem dX11_tick_16 : decode cX11_tick 16 = .ok (.iconst (-1), 1) := by decide +kernel
theorem dX11_tick_17 : decode cX11_tick 17 = .ok (.ireturn, 1) := by decide +kernel
theorem dX11_tick_18 : decode cX11_tick 18 = .ok (.iconst 0, 1) := by decide +kernel
theorem dX11_tick_19 : decode cX11_tick 19 = .ok (.istore_n 2, 1) := by decide +kernel
theorem dX11_tick_20 : decode cX11_tick 20 = .ok (.iconst 0, 1) := by decide +kernel
theorem dX11_tick_21 : decode cX11_tick 21 = .ok (.istore_n 3, 1) := by decide +kernel
theorem dX11_tick_22 : decode cX11_tick 22 = .ok (.iload_n 3, 1) := by decide +kernel
theorem dX11_tick_23 : decode cX11_tick 23 = .ok (.iload_n 1, 1) := by decide +kernel
theorem dX11_tick_24 : decode cX11_tick 24 = .ok (.if_icmp .ge 32, 3) := by decide +kernel
theorem dX11_tick_27 : decode cX11_tick 27 = .ok (.aload_n 0, 1) := by decide +kernel
theorem dX11_tick_28 : decode cX11_tick 28 = .ok (.aload_n 0, 1) := by decide +kernel
theorem dX11_tick_29 : decode cX11_tick 29 = .ok (.invokevirtual 349, 3) := by decide +kernel
theorem dX11_tick_32 : decode cX11_tick 32 = .ok (.putfield 78, 3) := by decide +kernel
theorem dX11_tick_35 : decode cX11_tick 35 = .ok (.iload_n 2, 1) := by decide +kernel
theorem dX11_tick_36 : decode cX11_tick 36 = .ok (.aload_n 0, 1) := by decide +kernel
theorem dX11_tick_37 : decode cX11_tick 37 = .ok (.getfield 78, 3) := by decide +kernel
theorem dX11_tick_40 : decode cX11_tick 40 = .ok (.ifCond .lt 7, 3) := by decide +kernel
theorem dX11_tick_43 : decode cX11_tick 43 = .ok (.iconst 1, 1) := by decide +kernel
theorem dX11_tick_44 : decode cX11_tick 44 = .ok (.goto 4, 3) := by decide +kernel
theorem dX11_tick_47 : decode cX11_tick 47 = .ok (.iconst 0, 1) := by decide +kernel
theorem dX11_tick_48 : decode cX11_tick 48 = .ok (.iadd, 1) := by decide +kernel
theorem dX11_tick_49 : decode cX11_tick 49 = .ok (.istore_n 2, 1) := by decide +kernel
theorem dX11_tick_50 : decode cX11_tick 50 = .ok (.iinc 3 1, 3) := by decide +kernel
theorem dX11_tick_53 : decode cX11_tick 53 = .ok (.goto (-31), 3) := by decide +kernel
theorem dX11_tick_56 : decode cX11_tick 56 = .ok (.iload_n 2, 1) := by decide +kernel
theorem dX11_tick_57 : decode cX11_tick 57 = .ok (.ireturn, 1) := by decide +kernel
theorem dX11_run_0 : decode cX11_run 0 = .ok (.aload_n 0, 1) := by decide +kernel
theorem dX11_run_1 : decode cX11_run 1 = .ok (.iconst 0, 1) := by decide +kernel
theorem dX11_run_2 : decode cX11_run 2 = .ok (.putfield 130, 3) := by decide +kernel
theorem dX11_run_5 : decode cX11_run 5 = .ok (.iload_n 1, 1) := by decide +kernel
theorem dX11_run_6 : decode cX11_run 6 = .ok (.iconst 0, 1) := by decide +kernel
theorem dX11_run_7 : decode cX11_run 7 = .ok (.sipush 5000, 3) := by decide +kernel
theorem dX11_run_10 : decode cX11_run 10 = .ok (.invokestatic 317, 3) := by decide +kernel
theorem dX11_run_13 : decode cX11_run 13 = .ok (.ifCond .ne 5, 3) := by decide +kernel
theorem dX11_run_16 : decode cX11_run 16 = .ok (.iconst (-1), 1) := by decide +kernel
theorem dX11_run_17 : decode cX11_run 17 = .ok (.ireturn, 1) := by decide +kernel
theorem dX11_run_18 : decode cX11_run 18 = .ok (.iconst 0, 1) := by decide +kernel
theorem dX11_run_19 : decode cX11_run 19 = .ok (.istore_n 2, 1) := by decide +kernel
theorem dX11_run_20 : decode cX11_run 20 = .ok (.aload_n 0, 1) := by decide +kernel
theorem dX11_run_21 : decode cX11_run 21 = .ok (.getfield 295, 3) := by decide +kernel
theorem dX11_run_24 : decode cX11_run 24 = .ok (.aload_n 0, 1) := by decide +kernel
theorem dX11_run_25 : decode cX11_run 25 = .ok (.getfield 292, 3) := by decide +kernel
theorem dX11_run_28 : decode cX11_run 28 = .ok (.if_icmp .eq 25, 3) := by decide +kernel
theorem dX11_run_31 : decode cX11_run 31 = .ok (.iload_n 2, 1) := by decide +kernel
theorem dX11_run_32 : decode cX11_run 32 = .ok (.iload_n 1, 1) := by decide +kernel
theorem dX11_run_33 : decode cX11_run 33 = .ok (.if_icmp .ne 6, 3) := by decide +kernel
theorem dX11_run_36 : decode cX11_run 36 = .ok (.bipush (-2), 2) := by decide +kernel
theorem dX11_run_38 : decode cX11_run 38 = .ok (.ireturn, 1) := by decide +kernel
theorem dX11_run_39 : decode cX11_run 39 = .ok (.aload_n 0, 1) := by decide +kernel
theorem dX11_run_40 : decode cX11_run 40 = .ok (.aload_n 0, 1) := by decide +kernel
theorem dX11_run_41 : decode cX11_run 41 = .ok (.invokevirtual 349, 3) := by decide +kernel
theorem dX11_run_44 : decode cX11_run 44 = .ok (.putfield 78, 3) := by decide +kernel
theorem dX11_run_47 : decode cX11_run 47 = .ok (.iinc 2 1, 3) := by decide +kernel
theorem dX11_run_50 : decode cX11_run 50 = .ok (.goto (-30), 3) := by decide +kernel
theorem dX11_run_53 : decode cX11_run 53 = .ok (.iload_n 2, 1) := by decide +kernel
theorem dX11_run_54 : decode cX11_run 54 = .ok (.ireturn, 1) := by decide +kernel
theorem dX11_comesIn_0 : decode cX11_comesIn 0 = .ok (.iconst 0, 1) := by decide +kernel
theorem dX11_comesIn_1 : decode cX11_comesIn 1 = .ok (.istore_n 2, 1) := by decide +kernel
theorem dX11_comesIn_2 : decode cX11_comesIn 2 = .ok (.aload_n 0, 1) := by decide +kernel
theorem dX11_comesIn_3 : decode cX11_comesIn 3 = .ok (.getfield 295, 3) := by decide +kernel
theorem dX11_comesIn_6 : decode cX11_comesIn 6 = .ok (.aload_n 0, 1) := by decide +kernel
theorem dX11_comesIn_7 : decode cX11_comesIn 7 = .ok (.getfield 292, 3) := by decide +kernel
theorem dX11_comesIn_10 : decode cX11_comesIn 10 = .ok (.if_icmp .eq 22, 3) := by decide +kernel
theorem dX11_comesIn_13 : decode cX11_comesIn 13 = .ok (.iload_n 2, 1) := by decide +kernel
theorem dX11_comesIn_14 : decode cX11_comesIn 14 = .ok (.iload_n 1, 1) := by decide +kernel
theorem dX11_comesIn_15 : decode cX11_comesIn 15 = .ok (.if_icmp .ne 6, 3) := by decide +kernel
theorem dX11_comesIn_18 : decode cX11_comesIn 18 = .ok (.bipush (-2), 2) := by decide +kernel
theorem dX11_comesIn_20 : decode cX11_comesIn 20 = .ok (.ireturn, 1) := by decide +kernel
theorem dX11_comesIn_21 : decode cX11_comesIn 21 = .ok (.aload_n 0, 1) := by decide +kernel
theorem dX11_comesIn_22 : decode cX11_comesIn 22 = .ok (.invokevirtual 349, 3) := by decide +kernel
theorem dX11_comesIn_25 : decode cX11_comesIn 25 = .ok (.istore_n 3, 1) := by decide +kernel
theorem dX11_comesIn_26 : decode cX11_comesIn 26 = .ok (.iinc 2 1, 3) := by decide +kernel
theorem dX11_comesIn_29 : decode cX11_comesIn 29 = .ok (.goto (-27), 3) := by decide +kernel
theorem dX11_comesIn_32 : decode cX11_comesIn 32 = .ok (.iload_n 2, 1) := by decide +kernel
theorem dX11_comesIn_33 : decode cX11_comesIn 33 = .ok (.ireturn, 1) := by decide +kernel
theorem dX11_mouse_0 : decode cX11_mouse 0 = .ok (.aload_n 0, 1) := by decide +kernel
theorem dX11_mouse_1 : decode cX11_mouse 1 = .ok (.iconst 0, 1) := by decide +kernel
theorem dX11_mouse_2 : decode cX11_mouse 2 = .ok (.putfield 130, 3) := by decide +kernel
theorem dX11_mouse_5 : decode cX11_mouse 5 = .ok (.iload_n 1, 1) := by decide +kernel
theorem dX11_mouse_6 : decode cX11_mouse 6 = .ok (.tableswitch 59 0 4 #[34, 39, 44, 49, 54], 34) := by decide +kernel
theorem dX11_mouse_40 : decode cX11_mouse 40 = .ok (.aload_n 0, 1) := by decide +kernel
theorem dX11_mouse_41 : decode cX11_mouse 41 = .ok (.getfield 295, 3) := by decide +kernel
theorem dX11_mouse_44 : decode cX11_mouse 44 = .ok (.ireturn, 1) := by decide +kernel
theorem dX11_mouse_45 : decode cX11_mouse 45 = .ok (.aload_n 0, 1) := by decide +kernel
theorem dX11_mouse_46 : decode cX11_mouse 46 = .ok (.getfield 298, 3) := by decide +kernel
theorem dX11_mouse_49 : decode cX11_mouse 49 = .ok (.ireturn, 1) := by decide +kernel
theorem dX11_mouse_50 : decode cX11_mouse 50 = .ok (.aload_n 0, 1) := by decide +kernel
theorem dX11_mouse_51 : decode cX11_mouse 51 = .ok (.getfield 301, 3) := by decide +kernel
theorem dX11_mouse_54 : decode cX11_mouse 54 = .ok (.ireturn, 1) := by decide +kernel
theorem dX11_mouse_55 : decode cX11_mouse 55 = .ok (.aload_n 0, 1) := by decide +kernel
theorem dX11_mouse_56 : decode cX11_mouse 56 = .ok (.getfield 304, 3) := by decide +kernel
theorem dX11_mouse_59 : decode cX11_mouse 59 = .ok (.ireturn, 1) := by decide +kernel
theorem dX11_mouse_60 : decode cX11_mouse 60 = .ok (.aload_n 0, 1) := by decide +kernel
theorem dX11_mouse_61 : decode cX11_mouse 61 = .ok (.getfield 78, 3) := by decide +kernel
theorem dX11_mouse_64 : decode cX11_mouse 64 = .ok (.ireturn, 1) := by decide +kernel
theorem dX11_mouse_65 : decode cX11_mouse 65 = .ok (.iconst (-1), 1) := by decide +kernel
theorem dX11_mouse_66 : decode cX11_mouse 66 = .ok (.ireturn, 1) := by decide +kernel
theorem dX11_fails_0 : decode cX11_fails 0 = .ok (.aload_n 0, 1) := by decide +kernel
theorem dX11_fails_1 : decode cX11_fails 1 = .ok (.iload_n 1, 1) := by decide +kernel
theorem dX11_fails_2 : decode cX11_fails 2 = .ok (.putfield 130, 3) := by decide +kernel
theorem dX11_fails_5 : decode cX11_fails 5 = .ok (.iconst 0, 1) := by decide +kernel
theorem dX11_fails_6 : decode cX11_fails 6 = .ok (.ireturn, 1) := by decide +kernel
theorem dX11_layFar_0 : decode cX11_layFar 0 = .ok (.iconst 0, 1) := by decide +kernel
theorem dX11_layFar_1 : decode cX11_layFar 1 = .ok (.istore_n 1, 1) := by decide +kernel
theorem dX11_layFar_2 : decode cX11_layFar 2 = .ok (.iload_n 1, 1) := by decide +kernel
theorem dX11_layFar_3 : decode cX11_layFar 3 = .ok (.bipush 36, 2) := by decide +kernel
theorem dX11_layFar_5 : decode cX11_layFar 5 = .ok (.if_icmp .ge 16, 3) := by decide +kernel
theorem dX11_layFar_8 : decode cX11_layFar 8 = .ok (.aload_n 0, 1) := by decide +kernel
theorem dX11_layFar_9 : decode cX11_layFar 9 = .ok (.getfield 84, 3) := by decide +kernel
theorem dX11_layFar_12 : decode cX11_layFar 12 = .ok (.iload_n 1, 1) := by decide +kernel
theorem dX11_layFar_13 : decode cX11_layFar 13 = .ok (.iconst (-1), 1) := by decide +kernel
theorem dX11_layFar_14 : decode cX11_layFar 14 = .ok (.iastore, 1) := by decide +kernel
theorem dX11_layFar_15 : decode cX11_layFar 15 = .ok (.iinc 1 1, 3) := by decide +kernel
theorem dX11_layFar_18 : decode cX11_layFar 18 = .ok (.goto (-16), 3) := by decide +kernel
theorem dX11_layFar_21 : decode cX11_layFar 21 = .ok (.aload_n 0, 1) := by decide +kernel
theorem dX11_layFar_22 : decode cX11_layFar 22 = .ok (.getfield 84, 3) := by decide +kernel
theorem dX11_layFar_25 : decode cX11_layFar 25 = .ok (.aload_n 0, 1) := by decide +kernel
theorem dX11_layFar_26 : decode cX11_layFar 26 = .ok (.getfield 292, 3) := by decide +kernel
theorem dX11_layFar_29 : decode cX11_layFar 29 = .ok (.iconst 0, 1) := by decide +kernel
theorem dX11_layFar_30 : decode cX11_layFar 30 = .ok (.iastore, 1) := by decide +kernel
theorem dX11_layFar_31 : decode cX11_layFar 31 = .ok (.aload_n 0, 1) := by decide +kernel
theorem dX11_layFar_32 : decode cX11_layFar 32 = .ok (.getfield 87, 3) := by decide +kernel
theorem dX11_layFar_35 : decode cX11_layFar 35 = .ok (.iconst 0, 1) := by decide +kernel
theorem dX11_layFar_36 : decode cX11_layFar 36 = .ok (.aload_n 0, 1) := by decide +kernel
theorem dX11_layFar_37 : decode cX11_layFar 37 = .ok (.getfield 292, 3) := by decide +kernel
theorem dX11_layFar_40 : decode cX11_layFar 40 = .ok (.iastore, 1) := by decide +kernel
theorem dX11_layFar_41 : decode cX11_layFar 41 = .ok (.iconst 1, 1) := by decide +kernel
theorem dX11_layFar_42 : decode cX11_layFar 42 = .ok (.istore_n 1, 1) := by decide +kernel
theorem dX11_layFar_43 : decode cX11_layFar 43 = .ok (.iconst 0, 1) := by decide +kernel
theorem dX11_layFar_44 : decode cX11_layFar 44 = .ok (.istore_n 2, 1) := by decide +kernel
theorem dX11_layFar_45 : decode cX11_layFar 45 = .ok (.iload_n 2, 1) := by decide +kernel
theorem dX11_layFar_46 : decode cX11_layFar 46 = .ok (.iload_n 1, 1) := by decide +kernel
theorem dX11_layFar_47 : decode cX11_layFar 47 = .ok (.if_icmp .ge 97, 3) := by decide +kernel
theorem dX11_layFar_50 : decode cX11_layFar 50 = .ok (.iconst 0, 1) := by decide +kernel
theorem dX11_layFar_51 : decode cX11_layFar 51 = .ok (.istore_n 3, 1) := by decide +kernel
theorem dX11_layFar_52 : decode cX11_layFar 52 = .ok (.iload_n 3, 1) := by decide +kernel
theorem dX11_layFar_53 : decode cX11_layFar 53 = .ok (.iconst 4, 1) := by decide +kernel
theorem dX11_layFar_54 : decode cX11_layFar 54 = .ok (.if_icmp .ge 84, 3) := by decide +kernel
theorem dX11_layFar_57 : decode cX11_layFar 57 = .ok (.aload_n 0, 1) := by decide +kernel
theorem dX11_layFar_58 : decode cX11_layFar 58 = .ok (.aload_n 0, 1) := by decide +kernel
theorem dX11_layFar_59 : decode cX11_layFar 59 = .ok (.getfield 87, 3) := by decide +kernel
theorem dX11_layFar_62 : decode cX11_layFar 62 = .ok (.iload_n 2, 1) := by decide +kernel
theorem dX11_layFar_63 : decode cX11_layFar 63 = .ok (.iaload, 1) := by decide +kernel
theorem dX11_layFar_64 : decode cX11_layFar 64 = .ok (.iload_n 3, 1) := by decide +kernel
theorem dX11_layFar_65 : decode cX11_layFar 65 = .ok (.invokevirtual 327, 3) := by decide +kernel
theorem dX11_layFar_68 : decode cX11_layFar 68 = .ok (.ifCond .eq 6, 3) := by decide +kernel
theorem dX11_layFar_71 : decode cX11_layFar 71 = .ok (.goto 61, 3) := by decide +kernel
theorem dX11_layFar_74 : decode cX11_layFar 74 = .ok (.aload_n 0, 1) := by decide +kernel
theorem dX11_layFar_75 : decode cX11_layFar 75 = .ok (.aload_n 0, 1) := by decide +kernel
theorem dX11_layFar_76 : decode cX11_layFar 76 = .ok (.getfield 87, 3) := by decide +kernel
theorem dX11_layFar_79 : decode cX11_layFar 79 = .ok (.iload_n 2, 1) := by decide +kernel
theorem dX11_layFar_80 : decode cX11_layFar 80 = .ok (.iaload, 1) := by decide +kernel
theorem dX11_layFar_81 : decode cX11_layFar 81 = .ok (.iload_n 3, 1) := by decide +kernel
theorem dX11_layFar_82 : decode cX11_layFar 82 = .ok (.invokevirtual 314, 3) := by decide +kernel
theorem dX11_layFar_85 : decode cX11_layFar 85 = .ok (.istore 4, 2) := by decide +kernel
theorem dX11_layFar_87 : decode cX11_layFar 87 = .ok (.aload_n 0, 1) := by decide +kernel
theorem dX11_layFar_88 : decode cX11_layFar 88 = .ok (.getfield 84, 3) := by decide +kernel
theorem dX11_layFar_91 : decode cX11_layFar 91 = .ok (.iload 4, 2) := by decide +kernel
theorem dX11_layFar_93 : decode cX11_layFar 93 = .ok (.iaload, 1) := by decide +kernel
theorem dX11_layFar_94 : decode cX11_layFar 94 = .ok (.iconst (-1), 1) := by decide +kernel
theorem dX11_layFar_95 : decode cX11_layFar 95 = .ok (.if_icmp .eq 6, 3) := by decide +kernel
theorem dX11_layFar_98 : decode cX11_layFar 98 = .ok (.goto 34, 3) := by decide +kernel
theorem dX11_layFar_101 : decode cX11_layFar 101 = .ok (.aload_n 0, 1) := by decide +kernel
theorem dX11_layFar_102 : decode cX11_layFar 102 = .ok (.getfield 84, 3) := by decide +kernel
theorem dX11_layFar_105 : decode cX11_layFar 105 = .ok (.iload 4, 2) := by decide +kernel
theorem dX11_layFar_107 : decode cX11_layFar 107 = .ok (.aload_n 0, 1) := by decide +kernel
theorem dX11_layFar_108 : decode cX11_layFar 108 = .ok (.getfield 84, 3) := by decide +kernel
theorem dX11_layFar_111 : decode cX11_layFar 111 = .ok (.aload_n 0, 1) := by decide +kernel
theorem dX11_layFar_112 : decode cX11_layFar 112 = .ok (.getfield 87, 3) := by decide +kernel
theorem dX11_layFar_115 : decode cX11_layFar 115 = .ok (.iload_n 2, 1) := by decide +kernel
theorem dX11_layFar_116 : decode cX11_layFar 116 = .ok (.iaload, 1) := by decide +kernel
theorem dX11_layFar_117 : decode cX11_layFar 117 = .ok (.iaload, 1) := by decide +kernel
theorem dX11_layFar_118 : decode cX11_layFar 118 = .ok (.iconst 1, 1) := by decide +kernel
theorem dX11_layFar_119 : decode cX11_layFar 119 = .ok (.iadd, 1) := by decide +kernel
theorem dX11_layFar_120 : decode cX11_layFar 120 = .ok (.iastore, 1) := by decide +kernel
theorem dX11_layFar_121 : decode cX11_layFar 121 = .ok (.aload_n 0, 1) := by decide +kernel
theorem dX11_layFar_122 : decode cX11_layFar 122 = .ok (.getfield 87, 3) := by decide +kernel
theorem dX11_layFar_125 : decode cX11_layFar 125 = .ok (.iload_n 1, 1) := by decide +kernel
theorem dX11_layFar_126 : decode cX11_layFar 126 = .ok (.iload 4, 2) := by decide +kernel
theorem dX11_layFar_128 : decode cX11_layFar 128 = .ok (.iastore, 1) := by decide +kernel
theorem dX11_layFar_129 : decode cX11_layFar 129 = .ok (.iinc 1 1, 3) := by decide +kernel
theorem dX11_layFar_132 : decode cX11_layFar 132 = .ok (.iinc 3 1, 3) := by decide +kernel
theorem dX11_layFar_135 : decode cX11_layFar 135 = .ok (.goto (-83), 3) := by decide +kernel
theorem dX11_layFar_138 : decode cX11_layFar 138 = .ok (.iinc 2 1, 3) := by decide +kernel
theorem dX11_layFar_141 : decode cX11_layFar 141 = .ok (.goto (-96), 3) := by decide +kernel
theorem dX11_layFar_144 : decode cX11_layFar 144 = .ok (.return_, 1) := by decide +kernel
theorem dX11_look_0 : decode cX11_look 0 = .ok (.aload_n 0, 1) := by decide +kernel
theorem dX11_look_1 : decode cX11_look 1 = .ok (.iconst 0, 1) := by decide +kernel
theorem dX11_look_2 : decode cX11_look 2 = .ok (.putfield 130, 3) := by decide +kernel
theorem dX11_look_5 : decode cX11_look 5 = .ok (.aload_n 0, 1) := by decide +kernel
theorem dX11_look_6 : decode cX11_look 6 = .ok (.iload_n 1, 1) := by decide +kernel
theorem dX11_look_7 : decode cX11_look 7 = .ok (.invokevirtual 321, 3) := by decide +kernel
theorem dX11_look_10 : decode cX11_look 10 = .ok (.ifCond .ne 9, 3) := by decide +kernel
theorem dX11_look_13 : decode cX11_look 13 = .ok (.aload_n 0, 1) := by decide +kernel
theorem dX11_look_14 : decode cX11_look 14 = .ok (.iconst 1, 1) := by decide +kernel
theorem dX11_look_15 : decode cX11_look 15 = .ok (.invokevirtual 352, 3) := by decide +kernel
theorem dX11_look_18 : decode cX11_look 18 = .ok (.ireturn, 1) := by decide +kernel
theorem dX11_look_19 : decode cX11_look 19 = .ok (.iload_n 2, 1) := by decide +kernel
theorem dX11_look_20 : decode cX11_look 20 = .ok (.tableswitch 64 0 3 #[32, 39, 46, 53], 32) := by decide +kernel
theorem dX11_look_52 : decode cX11_look 52 = .ok (.aload_n 0, 1) := by decide +kernel
theorem dX11_look_53 : decode cX11_look 53 = .ok (.getfield 72, 3) := by decide +kernel
theorem dX11_look_56 : decode cX11_look 56 = .ok (.iload_n 1, 1) := by decide +kernel
theorem dX11_look_57 : decode cX11_look 57 = .ok (.iaload, 1) := by decide +kernel
theorem dX11_look_58 : decode cX11_look 58 = .ok (.ireturn, 1) := by decide +kernel
theorem dX11_look_59 : decode cX11_look 59 = .ok (.aload_n 0, 1) := by decide +kernel
theorem dX11_look_60 : decode cX11_look 60 = .ok (.getfield 75, 3) := by decide +kernel
theorem dX11_look_63 : decode cX11_look 63 = .ok (.iload_n 1, 1) := by decide +kernel
theorem dX11_look_64 : decode cX11_look 64 = .ok (.iaload, 1) := by decide +kernel
theorem dX11_look_65 : decode cX11_look 65 = .ok (.ireturn, 1) := by decide +kernel
theorem dX11_look_66 : decode cX11_look 66 = .ok (.aload_n 0, 1) := by decide +kernel
theorem dX11_look_67 : decode cX11_look 67 = .ok (.getfield 69, 3) := by decide +kernel
theorem dX11_look_70 : decode cX11_look 70 = .ok (.iload_n 1, 1) := by decide +kernel
theorem dX11_look_71 : decode cX11_look 71 = .ok (.iaload, 1) := by decide +kernel
theorem dX11_look_72 : decode cX11_look 72 = .ok (.ireturn, 1) := by decide +kernel
theorem dX11_look_73 : decode cX11_look 73 = .ok (.aload_n 0, 1) := by decide +kernel
theorem dX11_look_74 : decode cX11_look 74 = .ok (.invokevirtual 355, 3) := by decide +kernel
theorem dX11_look_77 : decode cX11_look 77 = .ok (.aload_n 0, 1) := by decide +kernel
theorem dX11_look_78 : decode cX11_look 78 = .ok (.getfield 84, 3) := by decide +kernel
theorem dX11_look_81 : decode cX11_look 81 = .ok (.iload_n 1, 1) := by decide +kernel
theorem dX11_look_82 : decode cX11_look 82 = .ok (.iaload, 1) := by decide +kernel
theorem dX11_look_83 : decode cX11_look 83 = .ok (.ireturn, 1) := by decide +kernel
theorem dX11_look_84 : decode cX11_look 84 = .ok (.aload_n 0, 1) := by decide +kernel
theorem dX11_look_85 : decode cX11_look 85 = .ok (.iconst 2, 1) := by decide +kernel
theorem dX11_look_86 : decode cX11_look 86 = .ok (.invokevirtual 352, 3) := by decide +kernel
theorem dX11_look_89 : decode cX11_look 89 = .ok (.ireturn, 1) := by decide +kernel
theorem dX11_puts_0 : decode cX11_puts 0 = .ok (.bipush 120, 2) := by decide +kernel
theorem dX11_puts_2 : decode cX11_puts 2 = .ok (.iload_n 1, 1) := by decide +kernel
theorem dX11_puts_3 : decode cX11_puts 3 = .ok (.imul, 1) := by decide +kernel
theorem dX11_puts_4 : decode cX11_puts 4 = .ok (.istore_n 2, 1) := by decide +kernel
theorem dX11_puts_5 : decode cX11_puts 5 = .ok (.aload_n 0, 1) := by decide +kernel
theorem dX11_puts_6 : decode cX11_puts 6 = .ok (.getfield 93, 3) := by decide +kernel
theorem dX11_puts_9 : decode cX11_puts 9 = .ok (.iload_n 2, 1) := by decide +kernel
theorem dX11_puts_10 : decode cX11_puts 10 = .ok (.aload_n 0, 1) := by decide +kernel
theorem dX11_puts_11 : decode cX11_puts 11 = .ok (.getfield 283, 3) := by decide +kernel
theorem dX11_puts_14 : decode cX11_puts 14 = .ok (.iastore, 1) := by decide +kernel
theorem dX11_puts_15 : decode cX11_puts 15 = .ok (.aload_n 0, 1) := by decide +kernel
theorem dX11_puts_16 : decode cX11_puts 16 = .ok (.getfield 93, 3) := by decide +kernel
theorem dX11_puts_19 : decode cX11_puts 19 = .ok (.iload_n 2, 1) := by decide +kernel
theorem dX11_puts_20 : decode cX11_puts 20 = .ok (.iconst 1, 1) := by decide +kernel
theorem dX11_puts_21 : decode cX11_puts 21 = .ok (.iadd, 1) := by decide +kernel
theorem dX11_puts_22 : decode cX11_puts 22 = .ok (.aload_n 0, 1) := by decide +kernel
theorem dX11_puts_23 : decode cX11_puts 23 = .ok (.getfield 286, 3) := by decide +kernel
theorem dX11_puts_26 : decode cX11_puts 26 = .ok (.iastore, 1) := by decide +kernel
theorem dX11_puts_27 : decode cX11_puts 27 = .ok (.aload_n 0, 1) := by decide +kernel
theorem dX11_puts_28 : decode cX11_puts 28 = .ok (.getfield 93, 3) := by decide +kernel
theorem dX11_puts_31 : decode cX11_puts 31 = .ok (.iload_n 2, 1) := by decide +kernel
theorem dX11_puts_32 : decode cX11_puts 32 = .ok (.iconst 2, 1) := by decide +kernel
theorem dX11_puts_33 : decode cX11_puts 33 = .ok (.iadd, 1) := by decide +kernel
theorem dX11_puts_34 : decode cX11_puts 34 = .ok (.aload_n 0, 1) := by decide +kernel
theorem dX11_puts_35 : decode cX11_puts 35 = .ok (.getfield 292, 3) := by decide +kernel
theorem dX11_puts_38 : decode cX11_puts 38 = .ok (.iastore, 1) := by decide +kernel
theorem dX11_puts_39 : decode cX11_puts 39 = .ok (.aload_n 0, 1) := by decide +kernel
theorem dX11_puts_40 : decode cX11_puts 40 = .ok (.getfield 93, 3) := by decide +kernel
theorem dX11_puts_43 : decode cX11_puts 43 = .ok (.iload_n 2, 1) := by decide +kernel
theorem dX11_puts_44 : decode cX11_puts 44 = .ok (.iconst 3, 1) := by decide +kernel
theorem dX11_puts_45 : decode cX11_puts 45 = .ok (.iadd, 1) := by decide +kernel
theorem dX11_puts_46 : decode cX11_puts 46 = .ok (.aload_n 0, 1) := by decide +kernel
theorem dX11_puts_47 : decode cX11_puts 47 = .ok (.getfield 295, 3) := by decide +kernel
theorem dX11_puts_50 : decode cX11_puts 50 = .ok (.iastore, 1) := by decide +kernel
theorem dX11_puts_51 : decode cX11_puts 51 = .ok (.aload_n 0, 1) := by decide +kernel
theorem dX11_puts_52 : decode cX11_puts 52 = .ok (.getfield 93, 3) := by decide +kernel
theorem dX11_puts_55 : decode cX11_puts 55 = .ok (.iload_n 2, 1) := by decide +kernel
theorem dX11_puts_56 : decode cX11_puts 56 = .ok (.iconst 4, 1) := by decide +kernel
theorem dX11_puts_57 : decode cX11_puts 57 = .ok (.iadd, 1) := by decide +kernel
theorem dX11_puts_58 : decode cX11_puts 58 = .ok (.aload_n 0, 1) := by decide +kernel
theorem dX11_puts_59 : decode cX11_puts 59 = .ok (.getfield 298, 3) := by decide +kernel
theorem dX11_puts_62 : decode cX11_puts 62 = .ok (.iastore, 1) := by decide +kernel
theorem dX11_puts_63 : decode cX11_puts 63 = .ok (.aload_n 0, 1) := by decide +kernel
theorem dX11_puts_64 : decode cX11_puts 64 = .ok (.getfield 93, 3) := by decide +kernel
theorem dX11_puts_67 : decode cX11_puts 67 = .ok (.iload_n 2, 1) := by decide +kernel
theorem dX11_puts_68 : decode cX11_puts 68 = .ok (.iconst 5, 1) := by decide +kernel
theorem dX11_puts_69 : decode cX11_puts 69 = .ok (.iadd, 1) := by decide +kernel
theorem dX11_puts_70 : decode cX11_puts 70 = .ok (.aload_n 0, 1) := by decide +kernel
theorem dX11_puts_71 : decode cX11_puts 71 = .ok (.getfield 301, 3) := by decide +kernel
theorem dX11_puts_74 : decode cX11_puts 74 = .ok (.iastore, 1) := by decide +kernel
theorem dX11_puts_75 : decode cX11_puts 75 = .ok (.aload_n 0, 1) := by decide +kernel
theorem dX11_puts_76 : decode cX11_puts 76 = .ok (.getfield 93, 3) := by decide +kernel
theorem dX11_puts_79 : decode cX11_puts 79 = .ok (.iload_n 2, 1) := by decide +kernel
theorem dX11_puts_80 : decode cX11_puts 80 = .ok (.bipush 6, 2) := by decide +kernel
theorem dX11_puts_82 : decode cX11_puts 82 = .ok (.iadd, 1) := by decide +kernel
theorem dX11_puts_83 : decode cX11_puts 83 = .ok (.aload_n 0, 1) := by decide +kernel
theorem dX11_puts_84 : decode cX11_puts 84 = .ok (.getfield 304, 3) := by decide +kernel
theorem dX11_puts_87 : decode cX11_puts 87 = .ok (.iastore, 1) := by decide +kernel
theorem dX11_puts_88 : decode cX11_puts 88 = .ok (.aload_n 0, 1) := by decide +kernel
theorem dX11_puts_89 : decode cX11_puts 89 = .ok (.getfield 93, 3) := by decide +kernel
theorem dX11_puts_92 : decode cX11_puts 92 = .ok (.iload_n 2, 1) := by decide +kernel
theorem dX11_puts_93 : decode cX11_puts 93 = .ok (.bipush 7, 2) := by decide +kernel
theorem dX11_puts_95 : decode cX11_puts 95 = .ok (.iadd, 1) := by decide +kernel
theorem dX11_puts_96 : decode cX11_puts 96 = .ok (.aload_n 0, 1) := by decide +kernel
theorem dX11_puts_97 : decode cX11_puts 97 = .ok (.getfield 271, 3) := by decide +kernel
theorem dX11_puts_100 : decode cX11_puts 100 = .ok (.iastore, 1) := by decide +kernel
theorem dX11_puts_101 : decode cX11_puts 101 = .ok (.iconst 0, 1) := by decide +kernel
theorem dX11_puts_102 : decode cX11_puts 102 = .ok (.istore_n 3, 1) := by decide +kernel
theorem dX11_puts_103 : decode cX11_puts 103 = .ok (.iload_n 3, 1) := by decide +kernel
theorem dX11_puts_104 : decode cX11_puts 104 = .ok (.bipush 36, 2) := by decide +kernel
theorem dX11_puts_106 : decode cX11_puts 106 = .ok (.if_icmp .ge 60, 3) := by decide +kernel
theorem dX11_puts_109 : decode cX11_puts 109 = .ok (.aload_n 0, 1) := by decide +kernel
theorem dX11_puts_110 : decode cX11_puts 110 = .ok (.getfield 93, 3) := by decide +kernel
theorem dX11_puts_113 : decode cX11_puts 113 = .ok (.iload_n 2, 1) := by decide +kernel
theorem dX11_puts_114 : decode cX11_puts 114 = .ok (.bipush 8, 2) := by decide +kernel
theorem dX11_puts_116 : decode cX11_puts 116 = .ok (.iadd, 1) := by decide +kernel
theorem dX11_puts_117 : decode cX11_puts 117 = .ok (.iload_n 3, 1) := by decide +kernel
theorem dX11_puts_118 : decode cX11_puts 118 = .ok (.iadd, 1) := by decide +kernel
theorem dX11_puts_119 : decode cX11_puts 119 = .ok (.aload_n 0, 1) := by decide +kernel
theorem dX11_puts_120 : decode cX11_puts 120 = .ok (.getfield 69, 3) := by decide +kernel
theorem dX11_puts_123 : decode cX11_puts 123 = .ok (.iload_n 3, 1) := by decide +kernel
theorem dX11_puts_124 : decode cX11_puts 124 = .ok (.iaload, 1) := by decide +kernel
theorem dX11_puts_125 : decode cX11_puts 125 = .ok (.iastore, 1) := by decide +kernel
theorem dX11_puts_126 : decode cX11_puts 126 = .ok (.aload_n 0, 1) := by decide +kernel
theorem dX11_puts_127 : decode cX11_puts 127 = .ok (.getfield 93, 3) := by decide +kernel
theorem dX11_puts_130 : decode cX11_puts 130 = .ok (.iload_n 2, 1) := by decide +kernel
theorem dX11_puts_131 : decode cX11_puts 131 = .ok (.bipush 44, 2) := by decide +kernel
theorem dX11_puts_133 : decode cX11_puts 133 = .ok (.iadd, 1) := by decide +kernel
theorem dX11_puts_134 : decode cX11_puts 134 = .ok (.iload_n 3, 1) := by decide +kernel
theorem dX11_puts_135 : decode cX11_puts 135 = .ok (.iadd, 1) := by decide +kernel
theorem dX11_puts_136 : decode cX11_puts 136 = .ok (.aload_n 0, 1) := by decide +kernel
theorem dX11_puts_137 : decode cX11_puts 137 = .ok (.getfield 72, 3) := by decide +kernel
theorem dX11_puts_140 : decode cX11_puts 140 = .ok (.iload_n 3, 1) := by decide +kernel
theorem dX11_puts_141 : decode cX11_puts 141 = .ok (.iaload, 1) := by decide +kernel
theorem dX11_puts_142 : decode cX11_puts 142 = .ok (.iastore, 1) := by decide +kernel
theorem dX11_puts_143 : decode cX11_puts 143 = .ok (.aload_n 0, 1) := by decide +kernel
theorem dX11_puts_144 : decode cX11_puts 144 = .ok (.getfield 93, 3) := by decide +kernel
theorem dX11_puts_147 : decode cX11_puts 147 = .ok (.iload_n 2, 1) := by decide +kernel
theorem dX11_puts_148 : decode cX11_puts 148 = .ok (.bipush 80, 2) := by decide +kernel
theorem dX11_puts_150 : decode cX11_puts 150 = .ok (.iadd, 1) := by decide +kernel
theorem dX11_puts_151 : decode cX11_puts 151 = .ok (.iload_n 3, 1) := by decide +kernel
theorem dX11_puts_152 : decode cX11_puts 152 = .ok (.iadd, 1) := by decide +kernel
theorem dX11_puts_153 : decode cX11_puts 153 = .ok (.aload_n 0, 1) := by decide +kernel
theorem dX11_puts_154 : decode cX11_puts 154 = .ok (.getfield 75, 3) := by decide +kernel
theorem dX11_puts_157 : decode cX11_puts 157 = .ok (.iload_n 3, 1) := by decide +kernel
theorem dX11_puts_158 : decode cX11_puts 158 = .ok (.iaload, 1) := by decide +kernel
theorem dX11_puts_159 : decode cX11_puts 159 = .ok (.iastore, 1) := by decide +kernel
theorem dX11_puts_160 : decode cX11_puts 160 = .ok (.iinc 3 1, 3) := by decide +kernel
theorem dX11_puts_163 : decode cX11_puts 163 = .ok (.goto (-60), 3) := by decide +kernel
theorem dX11_puts_166 : decode cX11_puts 166 = .ok (.return_, 1) := by decide +kernel
theorem dX11_takes_0 : decode cX11_takes 0 = .ok (.bipush 120, 2) := by decide +kernel
theorem dX11_takes_2 : decode cX11_takes 2 = .ok (.iload_n 1, 1) := by decide +kernel
theorem dX11_takes_3 : decode cX11_takes 3 = .ok (.imul, 1) := by decide +kernel
theorem dX11_takes_4 : decode cX11_takes 4 = .ok (.istore_n 2, 1) := by decide +kernel
theorem dX11_takes_5 : decode cX11_takes 5 = .ok (.aload_n 0, 1) := by decide +kernel
theorem dX11_takes_6 : decode cX11_takes 6 = .ok (.aload_n 0, 1) := by decide +kernel
theorem dX11_takes_7 : decode cX11_takes 7 = .ok (.getfield 93, 3) := by decide +kernel
theorem dX11_takes_10 : decode cX11_takes 10 = .ok (.iload_n 2, 1) := by decide +kernel
theorem dX11_takes_11 : decode cX11_takes 11 = .ok (.iaload, 1) := by decide +kernel
theorem dX11_takes_12 : decode cX11_takes 12 = .ok (.putfield 283, 3) := by decide +kernel
theorem dX11_takes_15 : decode cX11_takes 15 = .ok (.aload_n 0, 1) := by decide +kernel
theorem dX11_takes_16 : decode cX11_takes 16 = .ok (.aload_n 0, 1) := by decide +kernel
theorem dX11_takes_17 : decode cX11_takes 17 = .ok (.getfield 93, 3) := by decide +kernel
theorem dX11_takes_20 : decode cX11_takes 20 = .ok (.iload_n 2, 1) := by decide +kernel
theorem dX11_takes_21 : decode cX11_takes 21 = .ok (.iconst 1, 1) := by decide +kernel
theorem dX11_takes_22 : decode cX11_takes 22 = .ok (.iadd, 1) := by decide +kernel
theorem dX11_takes_23 : decode cX11_takes 23 = .ok (.iaload, 1) := by decide +kernel
theorem dX11_takes_24 : decode cX11_takes 24 = .ok (.putfield 286, 3) := by decide +kernel
theorem dX11_takes_27 : decode cX11_takes 27 = .ok (.aload_n 0, 1) := by decide +kernel
theorem dX11_takes_28 : decode cX11_takes 28 = .ok (.aload_n 0, 1) := by decide +kernel
theorem dX11_takes_29 : decode cX11_takes 29 = .ok (.getfield 93, 3) := by decide +kernel
theorem dX11_takes_32 : decode cX11_takes 32 = .ok (.iload_n 2, 1) := by decide +kernel
theorem dX11_takes_33 : decode cX11_takes 33 = .ok (.iconst 2, 1) := by decide +kernel
theorem dX11_takes_34 : decode cX11_takes 34 = .ok (.iadd, 1) := by decide +kernel
theorem dX11_takes_35 : decode cX11_takes 35 = .ok (.iaload, 1) := by decide +kernel
theorem dX11_takes_36 : decode cX11_takes 36 = .ok (.putfield 292, 3) := by decide +kernel
theorem dX11_takes_39 : decode cX11_takes 39 = .ok (.aload_n 0, 1) := by decide +kernel
theorem dX11_takes_40 : decode cX11_takes 40 = .ok (.aload_n 0, 1) := by decide +kernel
theorem dX11_takes_41 : decode cX11_takes 41 = .ok (.getfield 93, 3) := by decide +kernel
theorem dX11_takes_44 : decode cX11_takes 44 = .ok (.iload_n 2, 1) := by decide +kernel
theorem dX11_takes_45 : decode cX11_takes 45 = .ok (.iconst 3, 1) := by decide +kernel
theorem dX11_takes_46 : decode cX11_takes 46 = .ok (.iadd, 1) := by decide +kernel
theorem dX11_takes_47 : decode cX11_takes 47 = .ok (.iaload, 1) := by decide +kernel
theorem dX11_takes_48 : decode cX11_takes 48 = .ok (.putfield 295, 3) := by decide +kernel
theorem dX11_takes_51 : decode cX11_takes 51 = .ok (.aload_n 0, 1) := by decide +kernel
theorem dX11_takes_52 : decode cX11_takes 52 = .ok (.aload_n 0, 1) := by decide +kernel
theorem dX11_takes_53 : decode cX11_takes 53 = .ok (.getfield 93, 3) := by decide +kernel
theorem dX11_takes_56 : decode cX11_takes 56 = .ok (.iload_n 2, 1) := by decide +kernel
theorem dX11_takes_57 : decode cX11_takes 57 = .ok (.iconst 4, 1) := by decide +kernel
theorem dX11_takes_58 : decode cX11_takes 58 = .ok (.iadd, 1) := by decide +kernel
theorem dX11_takes_59 : decode cX11_takes 59 = .ok (.iaload, 1) := by decide +kernel
theorem dX11_takes_60 : decode cX11_takes 60 = .ok (.putfield 298, 3) := by decide +kernel
theorem dX11_takes_63 : decode cX11_takes 63 = .ok (.aload_n 0, 1) := by decide +kernel
theorem dX11_takes_64 : decode cX11_takes 64 = .ok (.aload_n 0, 1) := by decide +kernel
theorem dX11_takes_65 : decode cX11_takes 65 = .ok (.getfield 93, 3) := by decide +kernel
theorem dX11_takes_68 : decode cX11_takes 68 = .ok (.iload_n 2, 1) := by decide +kernel
theorem dX11_takes_69 : decode cX11_takes 69 = .ok (.iconst 5, 1) := by decide +kernel
theorem dX11_takes_70 : decode cX11_takes 70 = .ok (.iadd, 1) := by decide +kernel
theorem dX11_takes_71 : decode cX11_takes 71 = .ok (.iaload, 1) := by decide +kernel
theorem dX11_takes_72 : decode cX11_takes 72 = .ok (.putfield 301, 3) := by decide +kernel
theorem dX11_takes_75 : decode cX11_takes 75 = .ok (.aload_n 0, 1) := by decide +kernel
theorem dX11_takes_76 : decode cX11_takes 76 = .ok (.aload_n 0, 1) := by decide +kernel
theorem dX11_takes_77 : decode cX11_takes 77 = .ok (.getfield 93, 3) := by decide +kernel
theorem dX11_takes_80 : decode cX11_takes 80 = .ok (.iload_n 2, 1) := by decide +kernel
theorem dX11_takes_81 : decode cX11_takes 81 = .ok (.bipush 6, 2) := by decide +kernel
theorem dX11_takes_83 : decode cX11_takes 83 = .ok (.iadd, 1) := by decide +kernel
theorem dX11_takes_84 : decode cX11_takes 84 = .ok (.iaload, 1) := by decide +kernel
theorem dX11_takes_85 : decode cX11_takes 85 = .ok (.putfield 304, 3) := by decide +kernel
theorem dX11_takes_88 : decode cX11_takes 88 = .ok (.aload_n 0, 1) := by decide +kernel
theorem dX11_takes_89 : decode cX11_takes 89 = .ok (.aload_n 0, 1) := by decide +kernel
theorem dX11_takes_90 : decode cX11_takes 90 = .ok (.getfield 93, 3) := by decide +kernel
theorem dX11_takes_93 : decode cX11_takes 93 = .ok (.iload_n 2, 1) := by decide +kernel
theorem dX11_takes_94 : decode cX11_takes 94 = .ok (.bipush 7, 2) := by decide +kernel
theorem dX11_takes_96 : decode cX11_takes 96 = .ok (.iadd, 1) := by decide +kernel
theorem dX11_takes_97 : decode cX11_takes 97 = .ok (.iaload, 1) := by decide +kernel
theorem dX11_takes_98 : decode cX11_takes 98 = .ok (.putfield 271, 3) := by decide +kernel
theorem dX11_takes_101 : decode cX11_takes 101 = .ok (.iconst 0, 1) := by decide +kernel
theorem dX11_takes_102 : decode cX11_takes 102 = .ok (.istore_n 3, 1) := by decide +kernel
theorem dX11_takes_103 : decode cX11_takes 103 = .ok (.iload_n 3, 1) := by decide +kernel
theorem dX11_takes_104 : decode cX11_takes 104 = .ok (.bipush 36, 2) := by decide +kernel
theorem dX11_takes_106 : decode cX11_takes 106 = .ok (.if_icmp .ge 60, 3) := by decide +kernel
theorem dX11_takes_109 : decode cX11_takes 109 = .ok (.aload_n 0, 1) := by decide +kernel
theorem dX11_takes_110 : decode cX11_takes 110 = .ok (.getfield 69, 3) := by decide +kernel
theorem dX11_takes_113 : decode cX11_takes 113 = .ok (.iload_n 3, 1) := by decide +kernel
theorem dX11_takes_114 : decode cX11_takes 114 = .ok (.aload_n 0, 1) := by decide +kernel
theorem dX11_takes_115 : decode cX11_takes 115 = .ok (.getfield 93, 3) := by decide +kernel
theorem dX11_takes_118 : decode cX11_takes 118 = .ok (.iload_n 2, 1) := by decide +kernel
theorem dX11_takes_119 : decode cX11_takes 119 = .ok (.bipush 8, 2) := by decide +kernel
theorem dX11_takes_121 : decode cX11_takes 121 = .ok (.iadd, 1) := by decide +kernel
theorem dX11_takes_122 : decode cX11_takes 122 = .ok (.iload_n 3, 1) := by decide +kernel
theorem dX11_takes_123 : decode cX11_takes 123 = .ok (.iadd, 1) := by decide +kernel
theorem dX11_takes_124 : decode cX11_takes 124 = .ok (.iaload, 1) := by decide +kernel
theorem dX11_takes_125 : decode cX11_takes 125 = .ok (.iastore, 1) := by decide +kernel
theorem dX11_takes_126 : decode cX11_takes 126 = .ok (.aload_n 0, 1) := by decide +kernel
theorem dX11_takes_127 : decode cX11_takes 127 = .ok (.getfield 72, 3) := by decide +kernel
theorem dX11_takes_130 : decode cX11_takes 130 = .ok (.iload_n 3, 1) := by decide +kernel
theorem dX11_takes_131 : decode cX11_takes 131 = .ok (.aload_n 0, 1) := by decide +kernel
theorem dX11_takes_132 : decode cX11_takes 132 = .ok (.getfield 93, 3) := by decide +kernel
theorem dX11_takes_135 : decode cX11_takes 135 = .ok (.iload_n 2, 1) := by decide +kernel
theorem dX11_takes_136 : decode cX11_takes 136 = .ok (.bipush 44, 2) := by decide +kernel
theorem dX11_takes_138 : decode cX11_takes 138 = .ok (.iadd, 1) := by decide +kernel
theorem dX11_takes_139 : decode cX11_takes 139 = .ok (.iload_n 3, 1) := by decide +kernel
theorem dX11_takes_140 : decode cX11_takes 140 = .ok (.iadd, 1) := by decide +kernel
theorem dX11_takes_141 : decode cX11_takes 141 = .ok (.iaload, 1) := by decide +kernel
theorem dX11_takes_142 : decode cX11_takes 142 = .ok (.iastore, 1) := by decide +kernel
theorem dX11_takes_143 : decode cX11_takes 143 = .ok (.aload_n 0, 1) := by decide +kernel
theorem dX11_takes_144 : decode cX11_takes 144 = .ok (.getfield 75, 3) := by decide +kernel
theorem dX11_takes_147 : decode cX11_takes 147 = .ok (.iload_n 3, 1) := by decide +kernel
theorem dX11_takes_148 : decode cX11_takes 148 = .ok (.aload_n 0, 1) := by decide +kernel
theorem dX11_takes_149 : decode cX11_takes 149 = .ok (.getfield 93, 3) := by decide +kernel
theorem dX11_takes_152 : decode cX11_takes 152 = .ok (.iload_n 2, 1) := by decide +kernel
theorem dX11_takes_153 : decode cX11_takes 153 = .ok (.bipush 80, 2) := by decide +kernel
theorem dX11_takes_155 : decode cX11_takes 155 = .ok (.iadd, 1) := by decide +kernel
theorem dX11_takes_156 : decode cX11_takes 156 = .ok (.iload_n 3, 1) := by decide +kernel
theorem dX11_takes_157 : decode cX11_takes 157 = .ok (.iadd, 1) := by decide +kernel
theorem dX11_takes_158 : decode cX11_takes 158 = .ok (.iaload, 1) := by decide +kernel
theorem dX11_takes_159 : decode cX11_takes 159 = .ok (.iastore, 1) := by decide +kernel
theorem dX11_takes_160 : decode cX11_takes 160 = .ok (.iinc 3 1, 3) := by decide +kernel
theorem dX11_takes_163 : decode cX11_takes 163 = .ok (.goto (-60), 3) := by decide +kernel
theorem dX11_takes_166 : decode cX11_takes 166 = .ok (.return_, 1) := by decide +kernel
theorem dX11_keep_0 : decode cX11_keep 0 = .ok (.aload_n 0, 1) := by decide +kernel
theorem dX11_keep_1 : decode cX11_keep 1 = .ok (.iconst 0, 1) := by decide +kernel
theorem dX11_keep_2 : decode cX11_keep 2 = .ok (.putfield 130, 3) := by decide +kernel
theorem dX11_keep_5 : decode cX11_keep 5 = .ok (.iload_n 1, 1) := by decide +kernel
theorem dX11_keep_6 : decode cX11_keep 6 = .ok (.iconst 0, 1) := by decide +kernel
theorem dX11_keep_7 : decode cX11_keep 7 = .ok (.iconst 3, 1) := by decide +kernel
theorem dX11_keep_8 : decode cX11_keep 8 = .ok (.invokestatic 317, 3) := by decide +kernel
theorem dX11_keep_11 : decode cX11_keep 11 = .ok (.ifCond .ne 5, 3) := by decide +kernel
theorem dX11_keep_14 : decode cX11_keep 14 = .ok (.iconst 0, 1) := by decide +kernel
theorem dX11_keep_15 : decode cX11_keep 15 = .ok (.ireturn, 1) := by decide +kernel
theorem dX11_keep_16 : decode cX11_keep 16 = .ok (.aload_n 0, 1) := by decide +kernel
theorem dX11_keep_17 : decode cX11_keep 17 = .ok (.iload_n 1, 1) := by decide +kernel
theorem dX11_keep_18 : decode cX11_keep 18 = .ok (.invokevirtual 358, 3) := by decide +kernel
theorem dX11_keep_21 : decode cX11_keep 21 = .ok (.aload_n 0, 1) := by decide +kernel
theorem dX11_keep_22 : decode cX11_keep 22 = .ok (.getfield 90, 3) := by decide +kernel
theorem dX11_keep_25 : decode cX11_keep 25 = .ok (.iload_n 1, 1) := by decide +kernel
theorem dX11_keep_26 : decode cX11_keep 26 = .ok (.iconst 1, 1) := by decide +kernel
theorem dX11_keep_27 : decode cX11_keep 27 = .ok (.bastore, 1) := by decide +kernel
theorem dX11_keep_28 : decode cX11_keep 28 = .ok (.iconst 1, 1) := by decide +kernel
theorem dX11_keep_29 : decode cX11_keep 29 = .ok (.ireturn, 1) := by decide +kernel
theorem dX11_restore_0 : decode cX11_restore 0 = .ok (.aload_n 0, 1) := by decide +kernel
theorem dX11_restore_1 : decode cX11_restore 1 = .ok (.iconst 0, 1) := by decide +kernel
theorem dX11_restore_2 : decode cX11_restore 2 = .ok (.putfield 130, 3) := by decide +kernel
theorem dX11_restore_5 : decode cX11_restore 5 = .ok (.iload_n 1, 1) := by decide +kernel
theorem dX11_restore_6 : decode cX11_restore 6 = .ok (.iconst 0, 1) := by decide +kernel
theorem dX11_restore_7 : decode cX11_restore 7 = .ok (.iconst 3, 1) := by decide +kernel
theorem dX11_restore_8 : decode cX11_restore 8 = .ok (.invokestatic 317, 3) := by decide +kernel
theorem dX11_restore_11 : decode cX11_restore 11 = .ok (.ifCond .eq 12, 3) := by decide +kernel
theorem dX11_restore_14 : decode cX11_restore 14 = .ok (.aload_n 0, 1) := by decide +kernel
theorem dX11_restore_15 : decode cX11_restore 15 = .ok (.getfield 90, 3) := by decide +kernel
theorem dX11_restore_18 : decode cX11_restore 18 = .ok (.iload_n 1, 1) := by decide +kernel
theorem dX11_restore_19 : decode cX11_restore 19 = .ok (.baload, 1) := by decide +kernel
theorem dX11_restore_20 : decode cX11_restore 20 = .ok (.ifCond .ne 5, 3) := by decide +kernel
theorem dX11_restore_23 : decode cX11_restore 23 = .ok (.iconst 0, 1) := by decide +kernel
theorem dX11_restore_24 : decode cX11_restore 24 = .ok (.ireturn, 1) := by decide +kernel
theorem dX11_restore_25 : decode cX11_restore 25 = .ok (.aload_n 0, 1) := by decide +kernel
theorem dX11_restore_26 : decode cX11_restore 26 = .ok (.iload_n 1, 1) := by decide +kernel
theorem dX11_restore_27 : decode cX11_restore 27 = .ok (.invokevirtual 361, 3) := by decide +kernel
theorem dX11_restore_30 : decode cX11_restore 30 = .ok (.aload_n 0, 1) := by decide +kernel
theorem dX11_restore_31 : decode cX11_restore 31 = .ok (.aload_n 0, 1) := by decide +kernel
theorem dX11_restore_32 : decode cX11_restore 32 = .ok (.getfield 271, 3) := by decide +kernel
theorem dX11_restore_35 : decode cX11_restore 35 = .ok (.aload_n 0, 1) := by decide +kernel
theorem dX11_restore_36 : decode cX11_restore 36 = .ok (.getfield 274, 3) := by decide +kernel
theorem dX11_restore_39 : decode cX11_restore 39 = .ok (.iconst (-1), 1) := by decide +kernel
theorem dX11_restore_40 : decode cX11_restore 40 = .ok (.ixor, 1) := by decide +kernel
theorem dX11_restore_41 : decode cX11_restore 41 = .ok (.iand, 1) := by decide +kernel
theorem dX11_restore_42 : decode cX11_restore 42 = .ok (.aload_n 0, 1) := by decide +kernel
theorem dX11_restore_43 : decode cX11_restore 43 = .ok (.getfield 274, 3) := by decide +kernel
theorem dX11_restore_46 : decode cX11_restore 46 = .ok (.aload_n 0, 1) := by decide +kernel
theorem dX11_restore_47 : decode cX11_restore 47 = .ok (.getfield 277, 3) := by decide +kernel
theorem dX11_restore_50 : decode cX11_restore 50 = .ok (.iand, 1) := by decide +kernel
theorem dX11_restore_51 : decode cX11_restore 51 = .ok (.ior, 1) := by decide +kernel
theorem dX11_restore_52 : decode cX11_restore 52 = .ok (.putfield 271, 3) := by decide +kernel
theorem dX11_restore_55 : decode cX11_restore 55 = .ok (.iconst 1, 1) := by decide +kernel
theorem dX11_restore_56 : decode cX11_restore 56 = .ok (.ireturn, 1) := by decide +kernel
theorem dX11_setDown_0 : decode cX11_setDown 0 = .ok (.aload_n 0, 1) := by decide +kernel
theorem dX11_setDown_1 : decode cX11_setDown 1 = .ok (.invokevirtual 334, 3) := by decide +kernel
theorem dX11_setDown_4 : decode cX11_setDown 4 = .ok (.aload_n 0, 1) := by decide +kernel
theorem dX11_setDown_5 : decode cX11_setDown 5 = .ok (.iload_n 1, 1) := by decide +kernel
theorem dX11_setDown_6 : decode cX11_setDown 6 = .ok (.putfield 295, 3) := by decide +kernel
theorem dX11_setDown_9 : decode cX11_setDown 9 = .ok (.aload_n 0, 1) := by decide +kernel
theorem dX11_setDown_10 : decode cX11_setDown 10 = .ok (.iconst 0, 1) := by decide +kernel
theorem dX11_setDown_11 : decode cX11_setDown 11 = .ok (.putfield 298, 3) := by decide +kernel
theorem dX11_setDown_14 : decode cX11_setDown 14 = .ok (.aload_n 0, 1) := by decide +kernel
theorem dX11_setDown_15 : decode cX11_setDown 15 = .ok (.iconst 0, 1) := by decide +kernel
theorem dX11_setDown_16 : decode cX11_setDown 16 = .ok (.putfield 301, 3) := by decide +kernel
theorem dX11_setDown_19 : decode cX11_setDown 19 = .ok (.aload_n 0, 1) := by decide +kernel
theorem dX11_setDown_20 : decode cX11_setDown 20 = .ok (.iconst 0, 1) := by decide +kernel
theorem dX11_setDown_21 : decode cX11_setDown 21 = .ok (.putfield 304, 3) := by decide +kernel
theorem dX11_setDown_24 : decode cX11_setDown 24 = .ok (.return_, 1) := by decide +kernel
theorem dX11_comes_0 : decode cX11_comes 0 = .ok (.aload_n 0, 1) := by decide +kernel
theorem dX11_comes_1 : decode cX11_comes 1 = .ok (.iconst 0, 1) := by decide +kernel
theorem dX11_comes_2 : decode cX11_comes 2 = .ok (.putfield 130, 3) := by decide +kernel
theorem dX11_comes_5 : decode cX11_comes 5 = .ok (.iload_n 1, 1) := by decide +kernel
theorem dX11_comes_6 : decode cX11_comes 6 = .ok (.iconst 0, 1) := by decide +kernel
theorem dX11_comes_7 : decode cX11_comes 7 = .ok (.iconst 1, 1) := by decide +kernel
theorem dX11_comes_8 : decode cX11_comes 8 = .ok (.invokestatic 317, 3) := by decide +kernel
theorem dX11_comes_11 : decode cX11_comes 11 = .ok (.ifCond .ne 5, 3) := by decide +kernel
theorem dX11_comes_14 : decode cX11_comes 14 = .ok (.iconst (-1), 1) := by decide +kernel
theorem dX11_comes_15 : decode cX11_comes 15 = .ok (.ireturn, 1) := by decide +kernel
theorem dX11_comes_16 : decode cX11_comes 16 = .ok (.aload_n 0, 1) := by decide +kernel
theorem dX11_comes_17 : decode cX11_comes 17 = .ok (.iconst 4, 1) := by decide +kernel
theorem dX11_comes_18 : decode cX11_comes 18 = .ok (.invokevirtual 358, 3) := by decide +kernel
theorem dX11_comes_21 : decode cX11_comes 21 = .ok (.aload_n 0, 1) := by decide +kernel
theorem dX11_comes_22 : decode cX11_comes 22 = .ok (.invokevirtual 355, 3) := by decide +kernel
theorem dX11_comes_25 : decode cX11_comes 25 = .ok (.iconst 0, 1) := by decide +kernel
theorem dX11_comes_26 : decode cX11_comes 26 = .ok (.istore_n 2, 1) := by decide +kernel
theorem dX11_comes_27 : decode cX11_comes 27 = .ok (.iconst (-1), 1) := by decide +kernel
theorem dX11_comes_28 : decode cX11_comes 28 = .ok (.istore_n 3, 1) := by decide +kernel
theorem dX11_comes_29 : decode cX11_comes 29 = .ok (.iconst 0, 1) := by decide +kernel
theorem dX11_comes_30 : decode cX11_comes 30 = .ok (.istore 4, 2) := by decide +kernel
theorem dX11_comes_32 : decode cX11_comes 32 = .ok (.iload 4, 2) := by decide +kernel
theorem dX11_comes_34 : decode cX11_comes 34 = .ok (.aload_n 0, 1) := by decide +kernel
theorem dX11_comes_35 : decode cX11_comes 35 = .ok (.invokevirtual 289, 3) := by decide +kernel
theorem dX11_comes_38 : decode cX11_comes 38 = .ok (.if_icmp .ge 58, 3) := by decide +kernel
theorem dX11_comes_41 : decode cX11_comes 41 = .ok (.aload_n 0, 1) := by decide +kernel
theorem dX11_comes_42 : decode cX11_comes 42 = .ok (.getfield 84, 3) := by decide +kernel
theorem dX11_comes_45 : decode cX11_comes 45 = .ok (.iload 4, 2) := by decide +kernel
theorem dX11_comes_47 : decode cX11_comes 47 = .ok (.iaload, 1) := by decide +kernel
theorem dX11_comes_48 : decode cX11_comes 48 = .ok (.iconst (-1), 1) := by decide +kernel
theorem dX11_comes_49 : decode cX11_comes 49 = .ok (.if_icmp .ne 6, 3) := by decide +kernel
theorem dX11_comes_52 : decode cX11_comes 52 = .ok (.goto 38, 3) := by decide +kernel
theorem dX11_comes_55 : decode cX11_comes 55 = .ok (.aload_n 0, 1) := by decide +kernel
theorem dX11_comes_56 : decode cX11_comes 56 = .ok (.iload 4, 2) := by decide +kernel
theorem dX11_comes_58 : decode cX11_comes 58 = .ok (.invokevirtual 364, 3) := by decide +kernel
theorem dX11_comes_61 : decode cX11_comes 61 = .ok (.aload_n 0, 1) := by decide +kernel
theorem dX11_comes_62 : decode cX11_comes 62 = .ok (.sipush 2000, 3) := by decide +kernel
theorem dX11_comes_65 : decode cX11_comes 65 = .ok (.invokevirtual 367, 3) := by decide +kernel
theorem dX11_comes_68 : decode cX11_comes 68 = .ok (.bipush (-2), 2) := by decide +kernel
theorem dX11_comes_70 : decode cX11_comes 70 = .ok (.if_icmp .eq 6, 3) := by decide +kernel
theorem dX11_comes_73 : decode cX11_comes 73 = .ok (.goto 17, 3) := by decide +kernel
theorem dX11_comes_76 : decode cX11_comes 76 = .ok (.iload_n 2, 1) := by decide +kernel
theorem dX11_comes_77 : decode cX11_comes 77 = .ok (.ifCond .ne 8, 3) := by decide +kernel
theorem dX11_comes_80 : decode cX11_comes 80 = .ok (.iload 4, 2) := by decide +kernel
theorem dX11_comes_82 : decode cX11_comes 82 = .ok (.goto 4, 3) := by decide +kernel
theorem dX11_comes_85 : decode cX11_comes 85 = .ok (.iload_n 3, 1) := by decide +kernel
theorem dX11_comes_86 : decode cX11_comes 86 = .ok (.istore_n 3, 1) := by decide +kernel
theorem dX11_comes_87 : decode cX11_comes 87 = .ok (.iinc 2 1, 3) := by decide +kernel
theorem dX11_comes_90 : decode cX11_comes 90 = .ok (.iinc 4 1, 3) := by decide +kernel
theorem dX11_comes_93 : decode cX11_comes 93 = .ok (.goto (-61), 3) := by decide +kernel
theorem dX11_comes_96 : decode cX11_comes 96 = .ok (.aload_n 0, 1) := by decide +kernel
theorem dX11_comes_97 : decode cX11_comes 97 = .ok (.iconst 4, 1) := by decide +kernel
theorem dX11_comes_98 : decode cX11_comes 98 = .ok (.invokevirtual 361, 3) := by decide +kernel
theorem dX11_comes_101 : decode cX11_comes 101 = .ok (.iload_n 1, 1) := by decide +kernel
theorem dX11_comes_102 : decode cX11_comes 102 = .ok (.ifCond .ne 7, 3) := by decide +kernel
theorem dX11_comes_105 : decode cX11_comes 105 = .ok (.iload_n 2, 1) := by decide +kernel
theorem dX11_comes_106 : decode cX11_comes 106 = .ok (.goto 4, 3) := by decide +kernel
theorem dX11_comes_109 : decode cX11_comes 109 = .ok (.iload_n 3, 1) := by decide +kernel
theorem dX11_comes_110 : decode cX11_comes 110 = .ok (.ireturn, 1) := by decide +kernel
theorem dX11_second_0 : decode cX11_second 0 = .ok (.aload_n 0, 1) := by decide +kernel
theorem dX11_second_1 : decode cX11_second 1 = .ok (.iconst 0, 1) := by decide +kernel
theorem dX11_second_2 : decode cX11_second 2 = .ok (.putfield 130, 3) := by decide +kernel
theorem dX11_second_5 : decode cX11_second 5 = .ok (.aload_n 0, 1) := by decide +kernel
theorem dX11_second_6 : decode cX11_second 6 = .ok (.iload_n 1, 1) := by decide +kernel
theorem dX11_second_7 : decode cX11_second 7 = .ok (.invokevirtual 321, 3) := by decide +kernel
theorem dX11_second_10 : decode cX11_second 10 = .ok (.ifCond .eq 12, 3) := by decide +kernel
theorem dX11_second_13 : decode cX11_second 13 = .ok (.iload_n 2, 1) := by decide +kernel
theorem dX11_second_14 : decode cX11_second 14 = .ok (.iconst 0, 1) := by decide +kernel
theorem dX11_second_15 : decode cX11_second 15 = .ok (.iconst 3, 1) := by decide +kernel
theorem dX11_second_16 : decode cX11_second 16 = .ok (.invokestatic 317, 3) := by decide +kernel
theorem dX11_second_19 : decode cX11_second 19 = .ok (.ifCond .ne 5, 3) := by decide +kernel
theorem dX11_second_22 : decode cX11_second 22 = .ok (.iconst (-1), 1) := by decide +kernel
theorem dX11_second_23 : decode cX11_second 23 = .ok (.ireturn, 1) := by decide +kernel
theorem dX11_second_24 : decode cX11_second 24 = .ok (.aload_n 0, 1) := by decide +kernel
theorem dX11_second_25 : decode cX11_second 25 = .ok (.iconst 4, 1) := by decide +kernel
theorem dX11_second_26 : decode cX11_second 26 = .ok (.invokevirtual 358, 3) := by decide +kernel
theorem dX11_second_29 : decode cX11_second 29 = .ok (.aload_n 0, 1) := by decide +kernel
theorem dX11_second_30 : decode cX11_second 30 = .ok (.iload_n 1, 1) := by decide +kernel
theorem dX11_second_31 : decode cX11_second 31 = .ok (.invokevirtual 364, 3) := by decide +kernel
theorem dX11_second_34 : decode cX11_second 34 = .ok (.aload_n 0, 1) := by decide +kernel
theorem dX11_second_35 : decode cX11_second 35 = .ok (.iconst 0, 1) := by decide +kernel
theorem dX11_second_36 : decode cX11_second 36 = .ok (.putfield 337, 3) := by decide +kernel
theorem dX11_second_39 : decode cX11_second 39 = .ok (.aload_n 0, 1) := by decide +kernel
theorem dX11_second_40 : decode cX11_second 40 = .ok (.sipush 2000, 3) := by decide +kernel
theorem dX11_second_43 : decode cX11_second 43 = .ok (.invokevirtual 367, 3) := by decide +kernel
theorem dX11_second_46 : decode cX11_second 46 = .ok (.istore_n 3, 1) := by decide +kernel
theorem dX11_second_47 : decode cX11_second 47 = .ok (.aload_n 0, 1) := by decide +kernel
theorem dX11_second_48 : decode cX11_second 48 = .ok (.getfield 337, 3) := by decide +kernel
theorem dX11_second_51 : decode cX11_second 51 = .ok (.istore 4, 2) := by decide +kernel
theorem dX11_second_53 : decode cX11_second 53 = .ok (.bipush (-2), 2) := by decide +kernel
theorem dX11_second_55 : decode cX11_second 55 = .ok (.istore 5, 2) := by decide +kernel
theorem dX11_second_57 : decode cX11_second 57 = .ok (.iload_n 3, 1) := by decide +kernel
theorem dX11_second_58 : decode cX11_second 58 = .ok (.bipush (-2), 2) := by decide +kernel
theorem dX11_second_60 : decode cX11_second 60 = .ok (.if_icmp .eq 37, 3) := by decide +kernel
theorem dX11_second_63 : decode cX11_second 63 = .ok (.aload_n 0, 1) := by decide +kernel
theorem dX11_second_64 : decode cX11_second 64 = .ok (.iload_n 1, 1) := by decide +kernel
theorem dX11_second_65 : decode cX11_second 65 = .ok (.putfield 295, 3) := by decide +kernel
theorem dX11_second_68 : decode cX11_second 68 = .ok (.aload_n 0, 1) := by decide +kernel
theorem dX11_second_69 : decode cX11_second 69 = .ok (.iconst 0, 1) := by decide +kernel
theorem dX11_second_70 : decode cX11_second 70 = .ok (.putfield 298, 3) := by decide +kernel
theorem dX11_second_73 : decode cX11_second 73 = .ok (.aload_n 0, 1) := by decide +kernel
theorem dX11_second_74 : decode cX11_second 74 = .ok (.iconst 0, 1) := by decide +kernel
theorem dX11_second_75 : decode cX11_second 75 = .ok (.putfield 301, 3) := by decide +kernel
theorem dX11_second_78 : decode cX11_second 78 = .ok (.aload_n 0, 1) := by decide +kernel
theorem dX11_second_79 : decode cX11_second 79 = .ok (.iconst 0, 1) := by decide +kernel
theorem dX11_second_80 : decode cX11_second 80 = .ok (.putfield 304, 3) := by decide +kernel
theorem dX11_second_83 : decode cX11_second 83 = .ok (.aload_n 0, 1) := by decide +kernel
theorem dX11_second_84 : decode cX11_second 84 = .ok (.iconst 0, 1) := by decide +kernel
theorem dX11_second_85 : decode cX11_second 85 = .ok (.putfield 337, 3) := by decide +kernel
theorem dX11_second_88 : decode cX11_second 88 = .ok (.aload_n 0, 1) := by decide +kernel
theorem dX11_second_89 : decode cX11_second 89 = .ok (.sipush 2000, 3) := by decide +kernel
theorem dX11_second_92 : decode cX11_second 92 = .ok (.invokevirtual 367, 3) := by decide +kernel
theorem dX11_second_95 : decode cX11_second 95 = .ok (.istore 5, 2) := by decide +kernel
theorem dX11_second_97 : decode cX11_second 97 = .ok (.aload_n 0, 1) := by decide +kernel
theorem dX11_second_98 : decode cX11_second 98 = .ok (.getfield 337, 3) := by decide +kernel
theorem dX11_second_101 : decode cX11_second 101 = .ok (.istore 6, 2) := by decide +kernel
theorem dX11_second_103 : decode cX11_second 103 = .ok (.aload_n 0, 1) := by decide +kernel
theorem dX11_second_104 : decode cX11_second 104 = .ok (.iconst 4, 1) := by decide +kernel
theorem dX11_second_105 : decode cX11_second 105 = .ok (.invokevirtual 361, 3) := by decide +kernel
theorem dX11_second_108 : decode cX11_second 108 = .ok (.iload_n 2, 1) := by decide +kernel
theorem dX11_second_109 : decode cX11_second 109 = .ok (.iconst 2, 1) := by decide +kernel
theorem dX11_second_110 : decode cX11_second 110 = .ok (.irem, 1) := by decide +kernel
theorem dX11_second_111 : decode cX11_second 111 = .ok (.ifCond .ne 12, 3) := by decide +kernel
theorem dX11_second_114 : decode cX11_second 114 = .ok (.iload_n 3, 1) := by decide +kernel
theorem dX11_second_115 : decode cX11_second 115 = .ok (.bipush (-2), 2) := by decide +kernel
theorem dX11_second_117 : decode cX11_second 117 = .ok (.if_icmp .ne 16, 3) := by decide +kernel
theorem dX11_second_120 : decode cX11_second 120 = .ok (.goto 10, 3) := by decide +kernel
theorem dX11_second_123 : decode cX11_second 123 = .ok (.iload 5, 2) := by decide +kernel
theorem dX11_second_125 : decode cX11_second 125 = .ok (.bipush (-2), 2) := by decide +kernel
theorem dX11_second_127 : decode cX11_second 127 = .ok (.if_icmp .ne 6, 3) := by decide +kernel
theorem dX11_second_130 : decode cX11_second 130 = .ok (.bipush (-2), 2) := by decide +kernel
theorem dX11_second_132 : decode cX11_second 132 = .ok (.ireturn, 1) := by decide +kernel
theorem dX11_second_133 : decode cX11_second 133 = .ok (.iload_n 2, 1) := by decide +kernel
theorem dX11_second_134 : decode cX11_second 134 = .ok (.ifCond .ne 7, 3) := by decide +kernel
theorem dX11_second_137 : decode cX11_second 137 = .ok (.iload_n 3, 1) := by decide +kernel
theorem dX11_second_138 : decode cX11_second 138 = .ok (.goto 25, 3) := by decide +kernel
theorem dX11_second_141 : decode cX11_second 141 = .ok (.iload_n 2, 1) := by decide +kernel
theorem dX11_second_142 : decode cX11_second 142 = .ok (.iconst 1, 1) := by decide +kernel
theorem dX11_second_143 : decode cX11_second 143 = .ok (.if_icmp .ne 8, 3) := by decide +kernel
theorem dX11_second_146 : decode cX11_second 146 = .ok (.iload 5, 2) := by decide +kernel
theorem dX11_second_148 : decode cX11_second 148 = .ok (.goto 15, 3) := by decide +kernel
theorem dX11_second_151 : decode cX11_second 151 = .ok (.iload_n 2, 1) := by decide +kernel
theorem dX11_second_152 : decode cX11_second 152 = .ok (.iconst 2, 1) := by decide +kernel
theorem dX11_second_153 : decode cX11_second 153 = .ok (.if_icmp .ne 8, 3) := by decide +kernel
theorem dX11_second_156 : decode cX11_second 156 = .ok (.iload 4, 2) := by decide +kernel
theorem dX11_second_158 : decode cX11_second 158 = .ok (.goto 5, 3) := by decide +kernel
theorem dX11_second_161 : decode cX11_second 161 = .ok (.iload 6, 2) := by decide +kernel
theorem dX11_second_163 : decode cX11_second 163 = .ok (.ireturn, 1) := by decide +kernel
theorem dX11_isSmallFloor_0 : decode cX11_isSmallFloor 0 = .ok (.iload_n 0, 1) := by decide +kernel
theorem dX11_isSmallFloor_1 : decode cX11_isSmallFloor 1 = .ok (.iconst 2, 1) := by decide +kernel
theorem dX11_isSmallFloor_2 : decode cX11_isSmallFloor 2 = .ok (.iconst 3, 1) := by decide +kernel
theorem dX11_isSmallFloor_3 : decode cX11_isSmallFloor 3 = .ok (.invokestatic 317, 3) := by decide +kernel
theorem dX11_isSmallFloor_6 : decode cX11_isSmallFloor 6 = .ok (.ifCond .eq 16, 3) := by decide +kernel
theorem dX11_isSmallFloor_9 : decode cX11_isSmallFloor 9 = .ok (.iload_n 1, 1) := by decide +kernel
theorem dX11_isSmallFloor_10 : decode cX11_isSmallFloor 10 = .ok (.iconst 2, 1) := by decide +kernel
theorem dX11_isSmallFloor_11 : decode cX11_isSmallFloor 11 = .ok (.iconst 3, 1) := by decide +kernel
theorem dX11_isSmallFloor_12 : decode cX11_isSmallFloor 12 = .ok (.invokestatic 317, 3) := by decide +kernel
theorem dX11_isSmallFloor_15 : decode cX11_isSmallFloor 15 = .ok (.ifCond .eq 7, 3) := by decide +kernel
theorem dX11_isSmallFloor_18 : decode cX11_isSmallFloor 18 = .ok (.iconst 1, 1) := by decide +kernel
theorem dX11_isSmallFloor_19 : decode cX11_isSmallFloor 19 = .ok (.goto 4, 3) := by decide +kernel
theorem dX11_isSmallFloor_22 : decode cX11_isSmallFloor 22 = .ok (.iconst 0, 1) := by decide +kernel
theorem dX11_isSmallFloor_23 : decode cX11_isSmallFloor 23 = .ok (.ireturn, 1) := by decide +kernel
theorem dX11_wallMany_0 : decode cX11_wallMany 0 = .ok (.aload_n 0, 1) := by decide +kernel
theorem dX11_wallMany_1 : decode cX11_wallMany 1 = .ok (.getfield 286, 3) := by decide +kernel
theorem dX11_wallMany_4 : decode cX11_wallMany 4 = .ok (.aload_n 0, 1) := by decide +kernel
theorem dX11_wallMany_5 : decode cX11_wallMany 5 = .ok (.getfield 283, 3) := by decide +kernel
theorem dX11_wallMany_8 : decode cX11_wallMany 8 = .ok (.iconst 1, 1) := by decide +kernel
theorem dX11_wallMany_9 : decode cX11_wallMany 9 = .ok (.isub, 1) := by decide +kernel
theorem dX11_wallMany_10 : decode cX11_wallMany 10 = .ok (.imul, 1) := by decide +kernel
theorem dX11_wallMany_11 : decode cX11_wallMany 11 = .ok (.aload_n 0, 1) := by decide +kernel
theorem dX11_wallMany_12 : decode cX11_wallMany 12 = .ok (.getfield 283, 3) := by decide +kernel
theorem dX11_wallMany_15 : decode cX11_wallMany 15 = .ok (.aload_n 0, 1) := by decide +kernel
theorem dX11_wallMany_16 : decode cX11_wallMany 16 = .ok (.getfield 286, 3) := by decide +kernel
theorem dX11_wallMany_19 : decode cX11_wallMany 19 = .ok (.iconst 1, 1) := by decide +kernel
theorem dX11_wallMany_20 : decode cX11_wallMany 20 = .ok (.isub, 1) := by decide +kernel
theorem dX11_wallMany_21 : decode cX11_wallMany 21 = .ok (.imul, 1) := by decide +kernel
theorem dX11_wallMany_22 : decode cX11_wallMany 22 = .ok (.iadd, 1) := by decide +kernel
theorem dX11_wallMany_23 : decode cX11_wallMany 23 = .ok (.ireturn, 1) := by decide +kernel
theorem dX11_wallAt_0 : decode cX11_wallAt 0 = .ok (.aload_n 0, 1) := by decide +kernel
theorem dX11_wallAt_1 : decode cX11_wallAt 1 = .ok (.getfield 286, 3) := by decide +kernel
theorem dX11_wallAt_4 : decode cX11_wallAt 4 = .ok (.aload_n 0, 1) := by decide +kernel
theorem dX11_wallAt_5 : decode cX11_wallAt 5 = .ok (.getfield 283, 3) := by decide +kernel
theorem dX11_wallAt_8 : decode cX11_wallAt 8 = .ok (.iconst 1, 1) := by decide +kernel
theorem dX11_wallAt_9 : decode cX11_wallAt 9 = .ok (.isub, 1) := by decide +kernel
theorem dX11_wallAt_10 : decode cX11_wallAt 10 = .ok (.imul, 1) := by decide +kernel
theorem dX11_wallAt_11 : decode cX11_wallAt 11 = .ok (.istore_n 2, 1) := by decide +kernel
theorem dX11_wallAt_12 : decode cX11_wallAt 12 = .ok (.iload_n 1, 1) := by decide +kernel
theorem dX11_wallAt_13 : decode cX11_wallAt 13 = .ok (.iload_n 2, 1) := by decide +kernel
theorem dX11_wallAt_14 : decode cX11_wallAt 14 = .ok (.if_icmp .ge 30, 3) := by decide +kernel
theorem dX11_wallAt_17 : decode cX11_wallAt 17 = .ok (.iconst 4, 1) := by decide +kernel
theorem dX11_wallAt_18 : decode cX11_wallAt 18 = .ok (.iload_n 1, 1) := by decide +kernel
theorem dX11_wallAt_19 : decode cX11_wallAt 19 = .ok (.aload_n 0, 1) := by decide +kernel
theorem dX11_wallAt_20 : decode cX11_wallAt 20 = .ok (.getfield 283, 3) := by decide +kernel
theorem dX11_wallAt_23 : decode cX11_wallAt 23 = .ok (.iconst 1, 1) := by decide +kernel
theorem dX11_wallAt_24 : decode cX11_wallAt 24 = .ok (.isub, 1) := by decide +kernel
theorem dX11_wallAt_25 : decode cX11_wallAt 25 = .ok (.idiv, 1) := by decide +kernel
theorem dX11_wallAt_26 : decode cX11_wallAt 26 = .ok (.aload_n 0, 1) := by decide +kernel
theorem dX11_wallAt_27 : decode cX11_wallAt 27 = .ok (.getfield 283, 3) := by decide +kernel
theorem dX11_wallAt_30 : decode cX11_wallAt 30 = .ok (.imul, 1) := by decide +kernel
theorem dX11_wallAt_31 : decode cX11_wallAt 31 = .ok (.iload_n 1, 1) := by decide +kernel
theorem dX11_wallAt_32 : decode cX11_wallAt 32 = .ok (.aload_n 0, 1) := by decide +kernel
theorem dX11_wallAt_33 : decode cX11_wallAt 33 = .ok (.getfield 283, 3) := by decide +kernel
theorem dX11_wallAt_36 : decode cX11_wallAt 36 = .ok (.iconst 1, 1) := by decide +kernel
theorem dX11_wallAt_37 : decode cX11_wallAt 37 = .ok (.isub, 1) := by decide +kernel
theorem dX11_wallAt_38 : decode cX11_wallAt 38 = .ok (.irem, 1) := by decide +kernel
theorem dX11_wallAt_39 : decode cX11_wallAt 39 = .ok (.iadd, 1) := by decide +kernel
theorem dX11_wallAt_40 : decode cX11_wallAt 40 = .ok (.imul, 1) := by decide +kernel
theorem dX11_wallAt_41 : decode cX11_wallAt 41 = .ok (.iconst 1, 1) := by decide +kernel
theorem dX11_wallAt_42 : decode cX11_wallAt 42 = .ok (.iadd, 1) := by decide +kernel
theorem dX11_wallAt_43 : decode cX11_wallAt 43 = .ok (.ireturn, 1) := by decide +kernel
theorem dX11_wallAt_44 : decode cX11_wallAt 44 = .ok (.iconst 4, 1) := by decide +kernel
theorem dX11_wallAt_45 : decode cX11_wallAt 45 = .ok (.iload_n 1, 1) := by decide +kernel
theorem dX11_wallAt_46 : decode cX11_wallAt 46 = .ok (.iload_n 2, 1) := by decide +kernel
theorem dX11_wallAt_47 : decode cX11_wallAt 47 = .ok (.isub, 1) := by decide +kernel
theorem dX11_wallAt_48 : decode cX11_wallAt 48 = .ok (.imul, 1) := by decide +kernel
theorem dX11_wallAt_49 : decode cX11_wallAt 49 = .ok (.iconst 2, 1) := by decide +kernel
theorem dX11_wallAt_50 : decode cX11_wallAt 50 = .ok (.iadd, 1) := by decide +kernel
theorem dX11_wallAt_51 : decode cX11_wallAt 51 = .ok (.ireturn, 1) := by decide +kernel
theorem dX11_small_0 : decode cX11_small 0 = .ok (.aload_n 0, 1) := by decide +kernel
theorem dX11_small_1 : decode cX11_small 1 = .ok (.iload_n 1, 1) := by decide +kernel
theorem dX11_small_2 : decode cX11_small 2 = .ok (.putfield 283, 3) := by decide +kernel
theorem dX11_small_5 : decode cX11_small 5 = .ok (.aload_n 0, 1) := by decide +kernel
theorem dX11_small_6 : decode cX11_small 6 = .ok (.iload_n 2, 1) := by decide +kernel
theorem dX11_small_7 : decode cX11_small 7 = .ok (.putfield 286, 3) := by decide +kernel
theorem dX11_small_10 : decode cX11_small 10 = .ok (.aload_n 0, 1) := by decide +kernel
theorem dX11_small_11 : decode cX11_small 11 = .ok (.iload_n 1, 1) := by decide +kernel
theorem dX11_small_12 : decode cX11_small 12 = .ok (.iload_n 2, 1) := by decide +kernel
theorem dX11_small_13 : decode cX11_small 13 = .ok (.imul, 1) := by decide +kernel
theorem dX11_small_14 : decode cX11_small 14 = .ok (.iconst 1, 1) := by decide +kernel
theorem dX11_small_15 : decode cX11_small 15 = .ok (.isub, 1) := by decide +kernel
theorem dX11_small_16 : decode cX11_small 16 = .ok (.putfield 292, 3) := by decide +kernel
theorem dX11_small_19 : decode cX11_small 19 = .ok (.return_, 1) := by decide +kernel
theorem dX11_wallsBy_0 : decode cX11_wallsBy 0 = .ok (.aload_n 0, 1) := by decide +kernel
theorem dX11_wallsBy_1 : decode cX11_wallsBy 1 = .ok (.invokevirtual 307, 3) := by decide +kernel
theorem dX11_wallsBy_4 : decode cX11_wallsBy 4 = .ok (.iconst 0, 1) := by decide +kernel
theorem dX11_wallsBy_5 : decode cX11_wallsBy 5 = .ok (.istore_n 2, 1) := by decide +kernel
theorem dX11_wallsBy_6 : decode cX11_wallsBy 6 = .ok (.iload_n 2, 1) := by decide +kernel
theorem dX11_wallsBy_7 : decode cX11_wallsBy 7 = .ok (.aload_n 0, 1) := by decide +kernel
theorem dX11_wallsBy_8 : decode cX11_wallsBy 8 = .ok (.invokevirtual 370, 3) := by decide +kernel
theorem dX11_wallsBy_11 : decode cX11_wallsBy 11 = .ok (.if_icmp .ge 36, 3) := by decide +kernel
theorem dX11_wallsBy_14 : decode cX11_wallsBy 14 = .ok (.iload_n 1, 1) := by decide +kernel
theorem dX11_wallsBy_15 : decode cX11_wallsBy 15 = .ok (.iload_n 2, 1) := by decide +kernel
theorem dX11_wallsBy_16 : decode cX11_wallsBy 16 = .ok (.invokestatic 310, 3) := by decide +kernel
theorem dX11_wallsBy_19 : decode cX11_wallsBy 19 = .ok (.ifCond .eq 22, 3) := by decide +kernel
theorem dX11_wallsBy_22 : decode cX11_wallsBy 22 = .ok (.aload_n 0, 1) := by decide +kernel
theorem dX11_wallsBy_23 : decode cX11_wallsBy 23 = .ok (.aload_n 0, 1) := by decide +kernel
theorem dX11_wallsBy_24 : decode cX11_wallsBy 24 = .ok (.iload_n 2, 1) := by decide +kernel
theorem dX11_wallsBy_25 : decode cX11_wallsBy 25 = .ok (.invokevirtual 373, 3) := by decide +kernel
theorem dX11_wallsBy_28 : decode cX11_wallsBy 28 = .ok (.iconst 4, 1) := by decide +kernel
theorem dX11_wallsBy_29 : decode cX11_wallsBy 29 = .ok (.idiv, 1) := by decide +kernel
theorem dX11_wallsBy_30 : decode cX11_wallsBy 30 = .ok (.aload_n 0, 1) := by decide +kernel
theorem dX11_wallsBy_31 : decode cX11_wallsBy 31 = .ok (.iload_n 2, 1) := by decide +kernel
theorem dX11_wallsBy_32 : decode cX11_wallsBy 32 = .ok (.invokevirtual 373, 3) := by decide +kernel
theorem dX11_wallsBy_35 : decode cX11_wallsBy 35 = .ok (.iconst 4, 1) := by decide +kernel
theorem dX11_wallsBy_36 : decode cX11_wallsBy 36 = .ok (.irem, 1) := by decide +kernel
theorem dX11_wallsBy_37 : decode cX11_wallsBy 37 = .ok (.iconst 1, 1) := by decide +kernel
theorem dX11_wallsBy_38 : decode cX11_wallsBy 38 = .ok (.invokevirtual 330, 3) := by decide +kernel
theorem dX11_wallsBy_41 : decode cX11_wallsBy 41 = .ok (.iinc 2 1, 3) := by decide +kernel
theorem dX11_wallsBy_44 : decode cX11_wallsBy 44 = .ok (.goto (-38), 3) := by decide +kernel
theorem dX11_wallsBy_47 : decode cX11_wallsBy 47 = .ok (.aload_n 0, 1) := by decide +kernel
theorem dX11_wallsBy_48 : decode cX11_wallsBy 48 = .ok (.invokevirtual 355, 3) := by decide +kernel
theorem dX11_wallsBy_51 : decode cX11_wallsBy 51 = .ok (.return_, 1) := by decide +kernel
theorem dX11_laySmallRun_0 : decode cX11_laySmallRun 0 = .ok (.aload_n 0, 1) := by decide +kernel
theorem dX11_laySmallRun_1 : decode cX11_laySmallRun 1 = .ok (.iload_n 3, 1) := by decide +kernel
theorem dX11_laySmallRun_2 : decode cX11_laySmallRun 2 = .ok (.invokevirtual 364, 3) := by decide +kernel
theorem dX11_laySmallRun_5 : decode cX11_laySmallRun 5 = .ok (.aload_n 0, 1) := by decide +kernel
theorem dX11_laySmallRun_6 : decode cX11_laySmallRun 6 = .ok (.bipush 100, 2) := by decide +kernel
theorem dX11_laySmallRun_8 : decode cX11_laySmallRun 8 = .ok (.invokevirtual 367, 3) := by decide +kernel
theorem dX11_laySmallRun_11 : decode cX11_laySmallRun 11 = .ok (.istore 4, 2) := by decide +kernel
theorem dX11_laySmallRun_13 : decode cX11_laySmallRun 13 = .ok (.iload 4, 2) := by decide +kernel
theorem dX11_laySmallRun_15 : decode cX11_laySmallRun 15 = .ok (.bipush (-2), 2) := by decide +kernel
theorem dX11_laySmallRun_17 : decode cX11_laySmallRun 17 = .ok (.if_icmp .ne 28, 3) := by decide +kernel
theorem dX11_laySmallRun_20 : decode cX11_laySmallRun 20 = .ok (.aload_n 0, 1) := by decide +kernel
theorem dX11_laySmallRun_21 : decode cX11_laySmallRun 21 = .ok (.getfield 99, 3) := by decide +kernel
theorem dX11_laySmallRun_24 : decode cX11_laySmallRun 24 = .ok (.iload_n 1, 1) := by decide +kernel
theorem dX11_laySmallRun_25 : decode cX11_laySmallRun 25 = .ok (.iaload, 1) := by decide +kernel
theorem dX11_laySmallRun_26 : decode cX11_laySmallRun 26 = .ok (.bipush (-2), 2) := by decide +kernel
theorem dX11_laySmallRun_28 : decode cX11_laySmallRun 28 = .ok (.if_icmp .ne 17, 3) := by decide +kernel
theorem dX11_laySmallRun_31 : decode cX11_laySmallRun 31 = .ok (.aload_n 0, 1) := by decide +kernel
theorem dX11_laySmallRun_32 : decode cX11_laySmallRun 32 = .ok (.getfield 99, 3) := by decide +kernel
theorem dX11_laySmallRun_35 : decode cX11_laySmallRun 35 = .ok (.iload_n 1, 1) := by decide +kernel
theorem dX11_laySmallRun_36 : decode cX11_laySmallRun 36 = .ok (.iload_n 2, 1) := by decide +kernel
theorem dX11_laySmallRun_37 : decode cX11_laySmallRun 37 = .ok (.iastore, 1) := by decide +kernel
theorem dX11_laySmallRun_38 : decode cX11_laySmallRun 38 = .ok (.aload_n 0, 1) := by decide +kernel
theorem dX11_laySmallRun_39 : decode cX11_laySmallRun 39 = .ok (.getfield 102, 3) := by decide +kernel
theorem dX11_laySmallRun_42 : decode cX11_laySmallRun 42 = .ok (.iload_n 1, 1) := by decide +kernel
theorem dX11_laySmallRun_43 : decode cX11_laySmallRun 43 = .ok (.iload_n 3, 1) := by decide +kernel
theorem dX11_laySmallRun_44 : decode cX11_laySmallRun 44 = .ok (.iastore, 1) := by decide +kernel
theorem dX11_laySmallRun_45 : decode cX11_laySmallRun 45 = .ok (.iload 4, 2) := by decide +kernel
theorem dX11_laySmallRun_47 : decode cX11_laySmallRun 47 = .ok (.aload_n 0, 1) := by decide +kernel
theorem dX11_laySmallRun_48 : decode cX11_laySmallRun 48 = .ok (.getfield 105, 3) := by decide +kernel
theorem dX11_laySmallRun_51 : decode cX11_laySmallRun 51 = .ok (.iload_n 1, 1) := by decide +kernel
theorem dX11_laySmallRun_52 : decode cX11_laySmallRun 52 = .ok (.iaload, 1) := by decide +kernel
theorem dX11_laySmallRun_53 : decode cX11_laySmallRun 53 = .ok (.if_icmp .le 25, 3) := by decide +kernel
theorem dX11_laySmallRun_56 : decode cX11_laySmallRun 56 = .ok (.aload_n 0, 1) := by decide +kernel
theorem dX11_laySmallRun_57 : decode cX11_laySmallRun 57 = .ok (.getfield 105, 3) := by decide +kernel
theorem dX11_laySmallRun_60 : decode cX11_laySmallRun 60 = .ok (.iload_n 1, 1) := by decide +kernel
theorem dX11_laySmallRun_61 : decode cX11_laySmallRun 61 = .ok (.iload 4, 2) := by decide +kernel
theorem dX11_laySmallRun_63 : decode cX11_laySmallRun 63 = .ok (.iastore, 1) := by decide +kernel
theorem dX11_laySmallRun_64 : decode cX11_laySmallRun 64 = .ok (.aload_n 0, 1) := by decide +kernel
theorem dX11_laySmallRun_65 : decode cX11_laySmallRun 65 = .ok (.getfield 108, 3) := by decide +kernel
theorem dX11_laySmallRun_68 : decode cX11_laySmallRun 68 = .ok (.iload_n 1, 1) := by decide +kernel
theorem dX11_laySmallRun_69 : decode cX11_laySmallRun 69 = .ok (.iload_n 2, 1) := by decide +kernel
theorem dX11_laySmallRun_70 : decode cX11_laySmallRun 70 = .ok (.iastore, 1) := by decide +kernel
theorem dX11_laySmallRun_71 : decode cX11_laySmallRun 71 = .ok (.aload_n 0, 1) := by decide +kernel
theorem dX11_laySmallRun_72 : decode cX11_laySmallRun 72 = .ok (.getfield 111, 3) := by decide +kernel
theorem dX11_laySmallRun_75 : decode cX11_laySmallRun 75 = .ok (.iload_n 1, 1) := by decide +kernel
theorem dX11_laySmallRun_76 : decode cX11_laySmallRun 76 = .ok (.iload_n 3, 1) := by decide +kernel
theorem dX11_laySmallRun_77 : decode cX11_laySmallRun 77 = .ok (.iastore, 1) := by decide +kernel
theorem dX11_laySmallRun_78 : decode cX11_laySmallRun 78 = .ok (.return_, 1) := by decide +kernel
theorem dX11_laySmall_0 : decode cX11_laySmall 0 = .ok (.iconst 4, 1) := by decide +kernel
theorem dX11_laySmall_1 : decode cX11_laySmall 1 = .ok (.iload_n 1, 1) := by decide +kernel
theorem dX11_laySmall_2 : decode cX11_laySmall 2 = .ok (.iconst 2, 1) := by decide +kernel
theorem dX11_laySmall_3 : decode cX11_laySmall 3 = .ok (.isub, 1) := by decide +kernel
theorem dX11_laySmall_4 : decode cX11_laySmall 4 = .ok (.imul, 1) := by decide +kernel
theorem dX11_laySmall_5 : decode cX11_laySmall 5 = .ok (.iload_n 2, 1) := by decide +kernel
theorem dX11_laySmall_6 : decode cX11_laySmall 6 = .ok (.iadd, 1) := by decide +kernel
theorem dX11_laySmall_7 : decode cX11_laySmall 7 = .ok (.iconst 2, 1) := by decide +kernel
theorem dX11_laySmall_8 : decode cX11_laySmall 8 = .ok (.isub, 1) := by decide +kernel
theorem dX11_laySmall_9 : decode cX11_laySmall 9 = .ok (.istore_n 3, 1) := by decide +kernel
theorem dX11_laySmall_10 : decode cX11_laySmall 10 = .ok (.aload_n 0, 1) := by decide +kernel
theorem dX11_laySmall_11 : decode cX11_laySmall 11 = .ok (.getfield 96, 3) := by decide +kernel
theorem dX11_laySmall_14 : decode cX11_laySmall 14 = .ok (.iload_n 3, 1) := by decide +kernel
theorem dX11_laySmall_15 : decode cX11_laySmall 15 = .ok (.baload, 1) := by decide +kernel
theorem dX11_laySmall_16 : decode cX11_laySmall 16 = .ok (.ifCond .eq 4, 3) := by decide +kernel
theorem dX11_laySmall_19 : decode cX11_laySmall 19 = .ok (.return_, 1) := by decide +kernel
theorem dX11_laySmall_20 : decode cX11_laySmall 20 = .ok (.aload_n 0, 1) := by decide +kernel
theorem dX11_laySmall_21 : decode cX11_laySmall 21 = .ok (.getfield 96, 3) := by decide +kernel
theorem dX11_laySmall_24 : decode cX11_laySmall 24 = .ok (.iload_n 3, 1) := by decide +kernel
theorem dX11_laySmall_25 : decode cX11_laySmall 25 = .ok (.iconst 1, 1) := by decide +kernel
theorem dX11_laySmall_26 : decode cX11_laySmall 26 = .ok (.bastore, 1) := by decide +kernel
theorem dX11_laySmall_27 : decode cX11_laySmall 27 = .ok (.aload_n 0, 1) := by decide +kernel
theorem dX11_laySmall_28 : decode cX11_laySmall 28 = .ok (.iconst 4, 1) := by decide +kernel
theorem dX11_laySmall_29 : decode cX11_laySmall 29 = .ok (.invokevirtual 358, 3) := by decide +kernel
theorem dX11_laySmall_32 : decode cX11_laySmall 32 = .ok (.aload_n 0, 1) := by decide +kernel
theorem dX11_laySmall_33 : decode cX11_laySmall 33 = .ok (.iload_n 1, 1) := by decide +kernel
theorem dX11_laySmall_34 : decode cX11_laySmall 34 = .ok (.iload_n 2, 1) := by decide +kernel
theorem dX11_laySmall_35 : decode cX11_laySmall 35 = .ok (.invokevirtual 376, 3) := by decide +kernel
theorem dX11_laySmall_38 : decode cX11_laySmall 38 = .ok (.aload_n 0, 1) := by decide +kernel
theorem dX11_laySmall_39 : decode cX11_laySmall 39 = .ok (.getfield 99, 3) := by decide +kernel
theorem dX11_laySmall_42 : decode cX11_laySmall 42 = .ok (.iload_n 3, 1) := by decide +kernel
theorem dX11_laySmall_43 : decode cX11_laySmall 43 = .ok (.bipush (-2), 2) := by decide +kernel
theorem dX11_laySmall_45 : decode cX11_laySmall 45 = .ok (.iastore, 1) := by decide +kernel
theorem dX11_laySmall_46 : decode cX11_laySmall 46 = .ok (.aload_n 0, 1) := by decide +kernel
theorem dX11_laySmall_47 : decode cX11_laySmall 47 = .ok (.getfield 102, 3) := by decide +kernel
theorem dX11_laySmall_50 : decode cX11_laySmall 50 = .ok (.iload_n 3, 1) := by decide +kernel
theorem dX11_laySmall_51 : decode cX11_laySmall 51 = .ok (.bipush (-2), 2) := by decide +kernel
theorem dX11_laySmall_53 : decode cX11_laySmall 53 = .ok (.iastore, 1) := by decide +kernel
theorem dX11_laySmall_54 : decode cX11_laySmall 54 = .ok (.aload_n 0, 1) := by decide +kernel
theorem dX11_laySmall_55 : decode cX11_laySmall 55 = .ok (.getfield 105, 3) := by decide +kernel
theorem dX11_laySmall_58 : decode cX11_laySmall 58 = .ok (.iload_n 3, 1) := by decide +kernel
theorem dX11_laySmall_59 : decode cX11_laySmall 59 = .ok (.iconst (-1), 1) := by decide +kernel
theorem dX11_laySmall_60 : decode cX11_laySmall 60 = .ok (.iastore, 1) := by decide +kernel
theorem dX11_laySmall_61 : decode cX11_laySmall 61 = .ok (.iconst 0, 1) := by decide +kernel
theorem dX11_laySmall_62 : decode cX11_laySmall 62 = .ok (.istore 4, 2) := by decide +kernel
theorem dX11_laySmall_64 : decode cX11_laySmall 64 = .ok (.iload 4, 2) := by decide +kernel
theorem dX11_laySmall_66 : decode cX11_laySmall 66 = .ok (.iconst 1, 1) := by decide +kernel
theorem dX11_laySmall_67 : decode cX11_laySmall 67 = .ok (.aload_n 0, 1) := by decide +kernel
theorem dX11_laySmall_68 : decode cX11_laySmall 68 = .ok (.invokevirtual 370, 3) := by decide +kernel
theorem dX11_laySmall_71 : decode cX11_laySmall 71 = .ok (.ishl, 1) := by decide +kernel
theorem dX11_laySmall_72 : decode cX11_laySmall 72 = .ok (.if_icmp .ge 53, 3) := by decide +kernel
theorem dX11_laySmall_75 : decode cX11_laySmall 75 = .ok (.aload_n 0, 1) := by decide +kernel
theorem dX11_laySmall_76 : decode cX11_laySmall 76 = .ok (.iload 4, 2) := by decide +kernel
theorem dX11_laySmall_78 : decode cX11_laySmall 78 = .ok (.invokevirtual 379, 3) := by decide +kernel
theorem dX11_laySmall_81 : decode cX11_laySmall 81 = .ok (.iconst 0, 1) := by decide +kernel
theorem dX11_laySmall_82 : decode cX11_laySmall 82 = .ok (.istore 5, 2) := by decide +kernel
theorem dX11_laySmall_84 : decode cX11_laySmall 84 = .ok (.iload 5, 2) := by decide +kernel
theorem dX11_laySmall_86 : decode cX11_laySmall 86 = .ok (.aload_n 0, 1) := by decide +kernel
theorem dX11_laySmall_87 : decode cX11_laySmall 87 = .ok (.invokevirtual 289, 3) := by decide +kernel
theorem dX11_laySmall_90 : decode cX11_laySmall 90 = .ok (.if_icmp .ge 29, 3) := by decide +kernel
theorem dX11_laySmall_93 : decode cX11_laySmall 93 = .ok (.aload_n 0, 1) := by decide +kernel
theorem dX11_laySmall_94 : decode cX11_laySmall 94 = .ok (.getfield 84, 3) := by decide +kernel
theorem dX11_laySmall_97 : decode cX11_laySmall 97 = .ok (.iload 5, 2) := by decide +kernel
theorem dX11_laySmall_99 : decode cX11_laySmall 99 = .ok (.iaload, 1) := by decide +kernel
theorem dX11_laySmall_100 : decode cX11_laySmall 100 = .ok (.iconst (-1), 1) := by decide +kernel
theorem dX11_laySmall_101 : decode cX11_laySmall 101 = .ok (.if_icmp .eq 12, 3) := by decide +kernel
theorem dX11_laySmall_104 : decode cX11_laySmall 104 = .ok (.aload_n 0, 1) := by decide +kernel
theorem dX11_laySmall_105 : decode cX11_laySmall 105 = .ok (.iload_n 3, 1) := by decide +kernel
theorem dX11_laySmall_106 : decode cX11_laySmall 106 = .ok (.iload 4, 2) := by decide +kernel
theorem dX11_laySmall_108 : decode cX11_laySmall 108 = .ok (.iload 5, 2) := by decide +kernel
theorem dX11_laySmall_110 : decode cX11_laySmall 110 = .ok (.invokevirtual 382, 3) := by decide +kernel
theorem dX11_laySmall_113 : decode cX11_laySmall 113 = .ok (.iinc 5 1, 3) := by decide +kernel
theorem dX11_laySmall_116 : decode cX11_laySmall 116 = .ok (.goto (-32), 3) := by decide +kernel
theorem dX11_laySmall_119 : decode cX11_laySmall 119 = .ok (.iinc 4 1, 3) := by decide +kernel
theorem dX11_laySmall_122 : decode cX11_laySmall 122 = .ok (.goto (-58), 3) := by decide +kernel
theorem dX11_laySmall_125 : decode cX11_laySmall 125 = .ok (.aload_n 0, 1) := by decide +kernel
theorem dX11_laySmall_126 : decode cX11_laySmall 126 = .ok (.iconst 4, 1) := by decide +kernel
theorem dX11_laySmall_127 : decode cX11_laySmall 127 = .ok (.invokevirtual 361, 3) := by decide +kernel
theorem dX11_laySmall_130 : decode cX11_laySmall 130 = .ok (.return_, 1) := by decide +kernel
theorem dX11_held_0 : decode cX11_held 0 = .ok (.aload_n 0, 1) := by decide +kernel
theorem dX11_held_1 : decode cX11_held 1 = .ok (.iconst 0, 1) := by decide +kernel
theorem dX11_held_2 : decode cX11_held 2 = .ok (.putfield 130, 3) := by decide +kernel
theorem dX11_held_5 : decode cX11_held 5 = .ok (.iload_n 1, 1) := by decide +kernel
theorem dX11_held_6 : decode cX11_held 6 = .ok (.iload_n 2, 1) := by decide +kernel
theorem dX11_held_7 : decode cX11_held 7 = .ok (.invokestatic 385, 3) := by decide +kernel
theorem dX11_held_10 : decode cX11_held 10 = .ok (.ifCond .eq 12, 3) := by decide +kernel
theorem dX11_held_13 : decode cX11_held 13 = .ok (.iload_n 3, 1) := by decide +kernel
theorem dX11_held_14 : decode cX11_held 14 = .ok (.iconst 0, 1) := by decide +kernel
theorem dX11_held_15 : decode cX11_held 15 = .ok (.iconst 1, 1) := by decide +kernel
theorem dX11_held_16 : decode cX11_held 16 = .ok (.invokestatic 317, 3) := by decide +kernel
theorem dX11_held_19 : decode cX11_held 19 = .ok (.ifCond .ne 5, 3) := by decide +kernel
theorem dX11_held_22 : decode cX11_held 22 = .ok (.iconst (-1), 1) := by decide +kernel
theorem dX11_held_23 : decode cX11_held 23 = .ok (.ireturn, 1) := by decide +kernel
theorem dX11_held_24 : decode cX11_held 24 = .ok (.aload_n 0, 1) := by decide +kernel
theorem dX11_held_25 : decode cX11_held 25 = .ok (.iload_n 1, 1) := by decide +kernel
theorem dX11_held_26 : decode cX11_held 26 = .ok (.iload_n 2, 1) := by decide +kernel
theorem dX11_held_27 : decode cX11_held 27 = .ok (.invokevirtual 388, 3) := by decide +kernel
theorem dX11_held_30 : decode cX11_held 30 = .ok (.iconst 4, 1) := by decide +kernel
theorem dX11_held_31 : decode cX11_held 31 = .ok (.iload_n 1, 1) := by decide +kernel
theorem dX11_held_32 : decode cX11_held 32 = .ok (.iconst 2, 1) := by decide +kernel
theorem dX11_held_33 : decode cX11_held 33 = .ok (.isub, 1) := by decide +kernel
theorem dX11_held_34 : decode cX11_held 34 = .ok (.imul, 1) := by decide +kernel
theorem dX11_held_35 : decode cX11_held 35 = .ok (.iload_n 2, 1) := by decide +kernel
theorem dX11_held_36 : decode cX11_held 36 = .ok (.iadd, 1) := by decide +kernel
theorem dX11_held_37 : decode cX11_held 37 = .ok (.iconst 2, 1) := by decide +kernel
theorem dX11_held_38 : decode cX11_held 38 = .ok (.isub, 1) := by decide +kernel
theorem dX11_held_39 : decode cX11_held 39 = .ok (.istore 4, 2) := by decide +kernel
theorem dX11_held_41 : decode cX11_held 41 = .ok (.iload_n 3, 1) := by decide +kernel
theorem dX11_held_42 : decode cX11_held 42 = .ok (.ifCond .ne 13, 3) := by decide +kernel
theorem dX11_held_45 : decode cX11_held 45 = .ok (.aload_n 0, 1) := by decide +kernel
theorem dX11_held_46 : decode cX11_held 46 = .ok (.getfield 99, 3) := by decide +kernel
theorem dX11_held_49 : decode cX11_held 49 = .ok (.iload 4, 2) := by decide +kernel
theorem dX11_held_51 : decode cX11_held 51 = .ok (.iaload, 1) := by decide +kernel
theorem dX11_held_52 : decode cX11_held 52 = .ok (.goto 10, 3) := by decide +kernel
theorem dX11_held_55 : decode cX11_held 55 = .ok (.aload_n 0, 1) := by decide +kernel
theorem dX11_held_56 : decode cX11_held 56 = .ok (.getfield 102, 3) := by decide +kernel
theorem dX11_held_59 : decode cX11_held 59 = .ok (.iload 4, 2) := by decide +kernel
theorem dX11_held_61 : decode cX11_held 61 = .ok (.iaload, 1) := by decide +kernel
theorem dX11_held_62 : decode cX11_held 62 = .ok (.ireturn, 1) := by decide +kernel
theorem dX11_longest_0 : decode cX11_longest 0 = .ok (.aload_n 0, 1) := by decide +kernel
theorem dX11_longest_1 : decode cX11_longest 1 = .ok (.iconst 0, 1) := by decide +kernel
theorem dX11_longest_2 : decode cX11_longest 2 = .ok (.putfield 130, 3) := by decide +kernel
theorem dX11_longest_5 : decode cX11_longest 5 = .ok (.iload_n 1, 1) := by decide +kernel
theorem dX11_longest_6 : decode cX11_longest 6 = .ok (.iload_n 2, 1) := by decide +kernel
theorem dX11_longest_7 : decode cX11_longest 7 = .ok (.invokestatic 385, 3) := by decide +kernel
theorem dX11_longest_10 : decode cX11_longest 10 = .ok (.ifCond .eq 12, 3) := by decide +kernel
theorem dX11_longest_13 : decode cX11_longest 13 = .ok (.iload_n 3, 1) := by decide +kernel
theorem dX11_longest_14 : decode cX11_longest 14 = .ok (.iconst 0, 1) := by decide +kernel
theorem dX11_longest_15 : decode cX11_longest 15 = .ok (.iconst 2, 1) := by decide +kernel
theorem dX11_longest_16 : decode cX11_longest 16 = .ok (.invokestatic 317, 3) := by decide +kernel
theorem dX11_longest_19 : decode cX11_longest 19 = .ok (.ifCond .ne 5, 3) := by decide +kernel
theorem dX11_longest_22 : decode cX11_longest 22 = .ok (.iconst (-1), 1) := by decide +kernel
theorem dX11_longest_23 : decode cX11_longest 23 = .ok (.ireturn, 1) := by decide +kernel
theorem dX11_longest_24 : decode cX11_longest 24 = .ok (.aload_n 0, 1) := by decide +kernel
theorem dX11_longest_25 : decode cX11_longest 25 = .ok (.iload_n 1, 1) := by decide +kernel
theorem dX11_longest_26 : decode cX11_longest 26 = .ok (.iload_n 2, 1) := by decide +kernel
theorem dX11_longest_27 : decode cX11_longest 27 = .ok (.invokevirtual 388, 3) := by decide +kernel
theorem dX11_longest_30 : decode cX11_longest 30 = .ok (.iconst 4, 1) := by decide +kernel
theorem dX11_longest_31 : decode cX11_longest 31 = .ok (.iload_n 1, 1) := by decide +kernel
theorem dX11_longest_32 : decode cX11_longest 32 = .ok (.iconst 2, 1) := by decide +kernel
theorem dX11_longest_33 : decode cX11_longest 33 = .ok (.isub, 1) := by decide +kernel
theorem dX11_longest_34 : decode cX11_longest 34 = .ok (.imul, 1) := by decide +kernel
theorem dX11_longest_35 : decode cX11_longest 35 = .ok (.iload_n 2, 1) := by decide +kernel
theorem dX11_longest_36 : decode cX11_longest 36 = .ok (.iadd, 1) := by decide +kernel
theorem dX11_longest_37 : decode cX11_longest 37 = .ok (.iconst 2, 1) := by decide +kernel
theorem dX11_longest_38 : decode cX11_longest 38 = .ok (.isub, 1) := by decide +kernel
theorem dX11_longest_39 : decode cX11_longest 39 = .ok (.istore 4, 2) := by decide +kernel
theorem dX11_longest_41 : decode cX11_longest 41 = .ok (.iload_n 3, 1) := by decide +kernel
theorem dX11_longest_42 : decode cX11_longest 42 = .ok (.ifCond .ne 13, 3) := by decide +kernel
theorem dX11_longest_45 : decode cX11_longest 45 = .ok (.aload_n 0, 1) := by decide +kernel
theorem dX11_longest_46 : decode cX11_longest 46 = .ok (.getfield 105, 3) := by decide +kernel
theorem dX11_longest_49 : decode cX11_longest 49 = .ok (.iload 4, 2) := by decide +kernel
theorem dX11_longest_51 : decode cX11_longest 51 = .ok (.iaload, 1) := by decide +kernel
theorem dX11_longest_52 : decode cX11_longest 52 = .ok (.goto 25, 3) := by decide +kernel
theorem dX11_longest_55 : decode cX11_longest 55 = .ok (.iload_n 3, 1) := by decide +kernel
theorem dX11_longest_56 : decode cX11_longest 56 = .ok (.iconst 1, 1) := by decide +kernel
theorem dX11_longest_57 : decode cX11_longest 57 = .ok (.if_icmp .ne 13, 3) := by decide +kernel
theorem dX11_longest_60 : decode cX11_longest 60 = .ok (.aload_n 0, 1) := by decide +kernel
theorem dX11_longest_61 : decode cX11_longest 61 = .ok (.getfield 108, 3) := by decide +kernel
theorem dX11_longest_64 : decode cX11_longest 64 = .ok (.iload 4, 2) := by decide +kernel
theorem dX11_longest_66 : decode cX11_longest 66 = .ok (.iaload, 1) := by decide +kernel
theorem dX11_longest_67 : decode cX11_longest 67 = .ok (.goto 10, 3) := by decide +kernel
theorem dX11_longest_70 : decode cX11_longest 70 = .ok (.aload_n 0, 1) := by decide +kernel
theorem dX11_longest_71 : decode cX11_longest 71 = .ok (.getfield 111, 3) := by decide +kernel
theorem dX11_longest_74 : decode cX11_longest 74 = .ok (.iload 4, 2) := by decide +kernel
theorem dX11_longest_76 : decode cX11_longest 76 = .ok (.iaload, 1) := by decide +kernel
theorem dX11_longest_77 : decode cX11_longest 77 = .ok (.ireturn, 1) := by decide +kernel
theorem dX11_isUnlike_0 : decode cX11_isUnlike 0 = .ok (.aload_n 0, 1) := by decide +kernel
theorem dX11_isUnlike_1 : decode cX11_isUnlike 1 = .ok (.iload_n 1, 1) := by decide +kernel
theorem dX11_isUnlike_2 : decode cX11_isUnlike 2 = .ok (.invokevirtual 364, 3) := by decide +kernel
theorem dX11_isUnlike_5 : decode cX11_isUnlike 5 = .ok (.iconst 0, 1) := by decide +kernel
theorem dX11_isUnlike_6 : decode cX11_isUnlike 6 = .ok (.istore_n 3, 1) := by decide +kernel
theorem dX11_isUnlike_7 : decode cX11_isUnlike 7 = .ok (.iload_n 3, 1) := by decide +kernel
theorem dX11_isUnlike_8 : decode cX11_isUnlike 8 = .ok (.bipush 100, 2) := by decide +kernel
theorem dX11_isUnlike_10 : decode cX11_isUnlike 10 = .ok (.if_icmp .ge 43, 3) := by decide +kernel
theorem dX11_isUnlike_13 : decode cX11_isUnlike 13 = .ok (.aload_n 0, 1) := by decide +kernel
theorem dX11_isUnlike_14 : decode cX11_isUnlike 14 = .ok (.getfield 295, 3) := by decide +kernel
theorem dX11_isUnlike_17 : decode cX11_isUnlike 17 = .ok (.aload_n 0, 1) := by decide +kernel
theorem dX11_isUnlike_18 : decode cX11_isUnlike 18 = .ok (.getfield 292, 3) := by decide +kernel
theorem dX11_isUnlike_21 : decode cX11_isUnlike 21 = .ok (.if_icmp .eq 32, 3) := by decide +kernel
theorem dX11_isUnlike_24 : decode cX11_isUnlike 24 = .ok (.aload_n 0, 1) := by decide +kernel
theorem dX11_isUnlike_25 : decode cX11_isUnlike 25 = .ok (.invokevirtual 349, 3) := by decide +kernel
theorem dX11_isUnlike_28 : decode cX11_isUnlike 28 = .ok (.istore 4, 2) := by decide +kernel
theorem dX11_isUnlike_30 : decode cX11_isUnlike 30 = .ok (.aload_n 0, 1) := by decide +kernel
theorem dX11_isUnlike_31 : decode cX11_isUnlike 31 = .ok (.getfield 114, 3) := by decide +kernel
theorem dX11_isUnlike_34 : decode cX11_isUnlike 34 = .ok (.iload_n 3, 1) := by decide +kernel
theorem dX11_isUnlike_35 : decode cX11_isUnlike 35 = .ok (.iconst 4, 1) := by decide +kernel
theorem dX11_isUnlike_36 : decode cX11_isUnlike 36 = .ok (.aload_n 0, 1) := by decide +kernel
theorem dX11_isUnlike_37 : decode cX11_isUnlike 37 = .ok (.getfield 295, 3) := by decide +kernel
theorem dX11_isUnlike_40 : decode cX11_isUnlike 40 = .ok (.imul, 1) := by decide +kernel
theorem dX11_isUnlike_41 : decode cX11_isUnlike 41 = .ok (.aload_n 0, 1) := by decide +kernel
theorem dX11_isUnlike_42 : decode cX11_isUnlike 42 = .ok (.getfield 298, 3) := by decide +kernel
theorem dX11_isUnlike_45 : decode cX11_isUnlike 45 = .ok (.iadd, 1) := by decide +kernel
theorem dX11_isUnlike_46 : decode cX11_isUnlike 46 = .ok (.iastore, 1) := by decide +kernel
theorem dX11_isUnlike_47 : decode cX11_isUnlike 47 = .ok (.iinc 3 1, 3) := by decide +kernel
theorem dX11_isUnlike_50 : decode cX11_isUnlike 50 = .ok (.goto (-43), 3) := by decide +kernel
theorem dX11_isUnlike_53 : decode cX11_isUnlike 53 = .ok (.aload_n 0, 1) := by decide +kernel
theorem dX11_isUnlike_54 : decode cX11_isUnlike 54 = .ok (.getfield 295, 3) := by decide +kernel
theorem dX11_isUnlike_57 : decode cX11_isUnlike 57 = .ok (.aload_n 0, 1) := by decide +kernel
theorem dX11_isUnlike_58 : decode cX11_isUnlike 58 = .ok (.getfield 292, 3) := by decide +kernel
theorem dX11_isUnlike_61 : decode cX11_isUnlike 61 = .ok (.if_icmp .ne 7, 3) := by decide +kernel
theorem dX11_isUnlike_64 : decode cX11_isUnlike 64 = .ok (.iconst 1, 1) := by decide +kernel
theorem dX11_isUnlike_65 : decode cX11_isUnlike 65 = .ok (.goto 4, 3) := by decide +kernel
theorem dX11_isUnlike_68 : decode cX11_isUnlike 68 = .ok (.iconst 0, 1) := by decide +kernel
theorem dX11_isUnlike_69 : decode cX11_isUnlike 69 = .ok (.istore 4, 2) := by decide +kernel
theorem dX11_isUnlike_71 : decode cX11_isUnlike 71 = .ok (.aload_n 0, 1) := by decide +kernel
theorem dX11_isUnlike_72 : decode cX11_isUnlike 72 = .ok (.iload_n 1, 1) := by decide +kernel
theorem dX11_isUnlike_73 : decode cX11_isUnlike 73 = .ok (.invokevirtual 364, 3) := by decide +kernel
theorem dX11_isUnlike_76 : decode cX11_isUnlike 76 = .ok (.aload_n 0, 1) := by decide +kernel
theorem dX11_isUnlike_77 : decode cX11_isUnlike 77 = .ok (.iload_n 2, 1) := by decide +kernel
theorem dX11_isUnlike_78 : decode cX11_isUnlike 78 = .ok (.putfield 81, 3) := by decide +kernel
theorem dX11_isUnlike_81 : decode cX11_isUnlike 81 = .ok (.iconst 0, 1) := by decide +kernel
theorem dX11_isUnlike_82 : decode cX11_isUnlike 82 = .ok (.istore 5, 2) := by decide +kernel
theorem dX11_isUnlike_84 : decode cX11_isUnlike 84 = .ok (.iconst 0, 1) := by decide +kernel
theorem dX11_isUnlike_85 : decode cX11_isUnlike 85 = .ok (.istore 6, 2) := by decide +kernel
theorem dX11_isUnlike_87 : decode cX11_isUnlike 87 = .ok (.iload 5, 2) := by decide +kernel
theorem dX11_isUnlike_89 : decode cX11_isUnlike 89 = .ok (.bipush 100, 2) := by decide +kernel
theorem dX11_isUnlike_91 : decode cX11_isUnlike 91 = .ok (.if_icmp .ge 65, 3) := by decide +kernel
theorem dX11_isUnlike_94 : decode cX11_isUnlike 94 = .ok (.aload_n 0, 1) := by decide +kernel
theorem dX11_isUnlike_95 : decode cX11_isUnlike 95 = .ok (.getfield 295, 3) := by decide +kernel
theorem dX11_isUnlike_98 : decode cX11_isUnlike 98 = .ok (.aload_n 0, 1) := by decide +kernel
theorem dX11_isUnlike_99 : decode cX11_isUnlike 99 = .ok (.getfield 292, 3) := by decide +kernel
theorem dX11_isUnlike_102 : decode cX11_isUnlike 102 = .ok (.if_icmp .eq 54, 3) := by decide +kernel
theorem dX11_isUnlike_105 : decode cX11_isUnlike 105 = .ok (.iload 6, 2) := by decide +kernel
theorem dX11_isUnlike_107 : decode cX11_isUnlike 107 = .ok (.ifCond .ne 49, 3) := by decide +kernel
theorem dX11_isUnlike_110 : decode cX11_isUnlike 110 = .ok (.aload_n 0, 1) := by decide +kernel
theorem dX11_isUnlike_111 : decode cX11_isUnlike 111 = .ok (.invokevirtual 349, 3) := by decide +kernel
theorem dX11_isUnlike_114 : decode cX11_isUnlike 114 = .ok (.istore 7, 2) := by decide +kernel
theorem dX11_isUnlike_116 : decode cX11_isUnlike 116 = .ok (.iload 5, 2) := by decide +kernel
theorem dX11_isUnlike_118 : decode cX11_isUnlike 118 = .ok (.iload_n 3, 1) := by decide +kernel
theorem dX11_isUnlike_119 : decode cX11_isUnlike 119 = .ok (.if_icmp .ge 24, 3) := by decide +kernel
theorem dX11_isUnlike_122 : decode cX11_isUnlike 122 = .ok (.aload_n 0, 1) := by decide +kernel
theorem dX11_isUnlike_123 : decode cX11_isUnlike 123 = .ok (.getfield 114, 3) := by decide +kernel
theorem dX11_isUnlike_126 : decode cX11_isUnlike 126 = .ok (.iload 5, 2) := by decide +kernel
theorem dX11_isUnlike_128 : decode cX11_isUnlike 128 = .ok (.iaload, 1) := by decide +kernel
theorem dX11_isUnlike_129 : decode cX11_isUnlike 129 = .ok (.iconst 4, 1) := by decide +kernel
theorem dX11_isUnlike_130 : decode cX11_isUnlike 130 = .ok (.aload_n 0, 1) := by decide +kernel
theorem dX11_isUnlike_131 : decode cX11_isUnlike 131 = .ok (.getfield 295, 3) := by decide +kernel
theorem dX11_isUnlike_134 : decode cX11_isUnlike 134 = .ok (.imul, 1) := by decide +kernel
theorem dX11_isUnlike_135 : decode cX11_isUnlike 135 = .ok (.aload_n 0, 1) := by decide +kernel
theorem dX11_isUnlike_136 : decode cX11_isUnlike 136 = .ok (.getfield 298, 3) := by decide +kernel
theorem dX11_isUnlike_139 : decode cX11_isUnlike 139 = .ok (.iadd, 1) := by decide +kernel
theorem dX11_isUnlike_140 : decode cX11_isUnlike 140 = .ok (.if_icmp .eq 7, 3) := by decide +kernel
theorem dX11_isUnlike_143 : decode cX11_isUnlike 143 = .ok (.iconst 1, 1) := by decide +kernel
theorem dX11_isUnlike_144 : decode cX11_isUnlike 144 = .ok (.goto 4, 3) := by decide +kernel
theorem dX11_isUnlike_147 : decode cX11_isUnlike 147 = .ok (.iconst 0, 1) := by decide +kernel
theorem dX11_isUnlike_148 : decode cX11_isUnlike 148 = .ok (.istore 6, 2) := by decide +kernel
theorem dX11_isUnlike_150 : decode cX11_isUnlike 150 = .ok (.iinc 5 1, 3) := by decide +kernel
theorem dX11_isUnlike_153 : decode cX11_isUnlike 153 = .ok (.goto (-66), 3) := by decide +kernel
theorem dX11_isUnlike_156 : decode cX11_isUnlike 156 = .ok (.aload_n 0, 1) := by decide +kernel
theorem dX11_isUnlike_157 : decode cX11_isUnlike 157 = .ok (.iconst (-1), 1) := by decide +kernel
theorem dX11_isUnlike_158 : decode cX11_isUnlike 158 = .ok (.putfield 81, 3) := by decide +kernel
theorem dX11_isUnlike_161 : decode cX11_isUnlike 161 = .ok (.iload 6, 2) := by decide +kernel
theorem dX11_isUnlike_163 : decode cX11_isUnlike 163 = .ok (.ifCond .ne 30, 3) := by decide +kernel
theorem dX11_isUnlike_166 : decode cX11_isUnlike 166 = .ok (.iload 5, 2) := by decide +kernel
theorem dX11_isUnlike_168 : decode cX11_isUnlike 168 = .ok (.iload_n 3, 1) := by decide +kernel
theorem dX11_isUnlike_169 : decode cX11_isUnlike 169 = .ok (.if_icmp .ne 24, 3) := by decide +kernel
theorem dX11_isUnlike_172 : decode cX11_isUnlike 172 = .ok (.iload 4, 2) := by decide +kernel
theorem dX11_isUnlike_174 : decode cX11_isUnlike 174 = .ok (.aload_n 0, 1) := by decide +kernel
theorem dX11_isUnlike_175 : decode cX11_isUnlike 175 = .ok (.getfield 295, 3) := by decide +kernel
theorem dX11_isUnlike_178 : decode cX11_isUnlike 178 = .ok (.aload_n 0, 1) := by decide +kernel
theorem dX11_isUnlike_179 : decode cX11_isUnlike 179 = .ok (.getfield 292, 3) := by decide +kernel
theorem dX11_isUnlike_182 : decode cX11_isUnlike 182 = .ok (.if_icmp .ne 7, 3) := by decide +kernel
theorem dX11_isUnlike_185 : decode cX11_isUnlike 185 = .ok (.iconst 1, 1) := by decide +kernel
theorem dX11_isUnlike_186 : decode cX11_isUnlike 186 = .ok (.goto 4, 3) := by decide +kernel
theorem dX11_isUnlike_189 : decode cX11_isUnlike 189 = .ok (.iconst 0, 1) := by decide +kernel
theorem dX11_isUnlike_190 : decode cX11_isUnlike 190 = .ok (.if_icmp .eq 7, 3) := by decide +kernel
theorem dX11_isUnlike_193 : decode cX11_isUnlike 193 = .ok (.iconst 1, 1) := by decide +kernel
theorem dX11_isUnlike_194 : decode cX11_isUnlike 194 = .ok (.goto 4, 3) := by decide +kernel
theorem dX11_isUnlike_197 : decode cX11_isUnlike 197 = .ok (.iconst 0, 1) := by decide +kernel
theorem dX11_isUnlike_198 : decode cX11_isUnlike 198 = .ok (.ireturn, 1) := by decide +kernel
theorem dX11_needs_0 : decode cX11_needs 0 = .ok (.aload_n 0, 1) := by decide +kernel
theorem dX11_needs_1 : decode cX11_needs 1 = .ok (.iconst 0, 1) := by decide +kernel
theorem dX11_needs_2 : decode cX11_needs 2 = .ok (.putfield 130, 3) := by decide +kernel
theorem dX11_needs_5 : decode cX11_needs 5 = .ok (.iload_n 1, 1) := by decide +kernel
theorem dX11_needs_6 : decode cX11_needs 6 = .ok (.iconst 0, 1) := by decide +kernel
theorem dX11_needs_7 : decode cX11_needs 7 = .ok (.iconst 2, 1) := by decide +kernel
theorem dX11_needs_8 : decode cX11_needs 8 = .ok (.invokestatic 317, 3) := by decide +kernel
theorem dX11_needs_11 : decode cX11_needs 11 = .ok (.ifCond .eq 11, 3) := by decide +kernel
theorem dX11_needs_14 : decode cX11_needs 14 = .ok (.iload_n 2, 1) := by decide +kernel
theorem dX11_needs_15 : decode cX11_needs 15 = .ok (.iload_n 3, 1) := by decide +kernel
theorem dX11_needs_16 : decode cX11_needs 16 = .ok (.invokestatic 385, 3) := by decide +kernel
theorem dX11_needs_19 : decode cX11_needs 19 = .ok (.ifCond .ne 5, 3) := by decide +kernel
theorem dX11_needs_22 : decode cX11_needs 22 = .ok (.iconst (-1), 1) := by decide +kernel
theorem dX11_needs_23 : decode cX11_needs 23 = .ok (.ireturn, 1) := by decide +kernel
theorem dX11_needs_24 : decode cX11_needs 24 = .ok (.aload_n 0, 1) := by decide +kernel
theorem dX11_needs_25 : decode cX11_needs 25 = .ok (.iconst 4, 1) := by decide +kernel
theorem dX11_needs_26 : decode cX11_needs 26 = .ok (.invokevirtual 358, 3) := by decide +kernel
theorem dX11_needs_29 : decode cX11_needs 29 = .ok (.aload_n 0, 1) := by decide +kernel
theorem dX11_needs_30 : decode cX11_needs 30 = .ok (.iload_n 2, 1) := by decide +kernel
theorem dX11_needs_31 : decode cX11_needs 31 = .ok (.iload_n 3, 1) := by decide +kernel
theorem dX11_needs_32 : decode cX11_needs 32 = .ok (.invokevirtual 376, 3) := by decide +kernel
theorem dX11_needs_35 : decode cX11_needs 35 = .ok (.iconst 0, 1) := by decide +kernel
theorem dX11_needs_36 : decode cX11_needs 36 = .ok (.istore 4, 2) := by decide +kernel
theorem dX11_needs_38 : decode cX11_needs 38 = .ok (.iconst 0, 1) := by decide +kernel
theorem dX11_needs_39 : decode cX11_needs 39 = .ok (.istore 5, 2) := by decide +kernel
theorem dX11_needs_41 : decode cX11_needs 41 = .ok (.iload 5, 2) := by decide +kernel
theorem dX11_needs_43 : decode cX11_needs 43 = .ok (.iconst 1, 1) := by decide +kernel
theorem dX11_needs_44 : decode cX11_needs 44 = .ok (.aload_n 0, 1) := by decide +kernel
theorem dX11_needs_45 : decode cX11_needs 45 = .ok (.invokevirtual 370, 3) := by decide +kernel
theorem dX11_needs_48 : decode cX11_needs 48 = .ok (.ishl, 1) := by decide +kernel
theorem dX11_needs_49 : decode cX11_needs 49 = .ok (.if_icmp .ge 71, 3) := by decide +kernel
theorem dX11_needs_52 : decode cX11_needs 52 = .ok (.iload 4, 2) := by decide +kernel
theorem dX11_needs_54 : decode cX11_needs 54 = .ok (.ifCond .ne 66, 3) := by decide +kernel
theorem dX11_needs_57 : decode cX11_needs 57 = .ok (.aload_n 0, 1) := by decide +kernel
theorem dX11_needs_58 : decode cX11_needs 58 = .ok (.iload 5, 2) := by decide +kernel
theorem dX11_needs_60 : decode cX11_needs 60 = .ok (.invokevirtual 379, 3) := by decide +kernel
theorem dX11_needs_63 : decode cX11_needs 63 = .ok (.iconst 0, 1) := by decide +kernel
theorem dX11_needs_64 : decode cX11_needs 64 = .ok (.istore 6, 2) := by decide +kernel
theorem dX11_needs_66 : decode cX11_needs 66 = .ok (.iload 6, 2) := by decide +kernel
theorem dX11_needs_68 : decode cX11_needs 68 = .ok (.aload_n 0, 1) := by decide +kernel
theorem dX11_needs_69 : decode cX11_needs 69 = .ok (.invokevirtual 289, 3) := by decide +kernel
theorem dX11_needs_72 : decode cX11_needs 72 = .ok (.if_icmp .ge 42, 3) := by decide +kernel
theorem dX11_needs_75 : decode cX11_needs 75 = .ok (.iload 4, 2) := by decide +kernel
theorem dX11_needs_77 : decode cX11_needs 77 = .ok (.ifCond .ne 37, 3) := by decide +kernel
theorem dX11_needs_80 : decode cX11_needs 80 = .ok (.aload_n 0, 1) := by decide +kernel
theorem dX11_needs_81 : decode cX11_needs 81 = .ok (.getfield 84, 3) := by decide +kernel
theorem dX11_needs_84 : decode cX11_needs 84 = .ok (.iload 6, 2) := by decide +kernel
theorem dX11_needs_86 : decode cX11_needs 86 = .ok (.iaload, 1) := by decide +kernel
theorem dX11_needs_87 : decode cX11_needs 87 = .ok (.iconst (-1), 1) := by decide +kernel
theorem dX11_needs_88 : decode cX11_needs 88 = .ok (.if_icmp .eq 17, 3) := by decide +kernel
theorem dX11_needs_91 : decode cX11_needs 91 = .ok (.aload_n 0, 1) := by decide +kernel
theorem dX11_needs_92 : decode cX11_needs 92 = .ok (.iload 6, 2) := by decide +kernel
theorem dX11_needs_94 : decode cX11_needs 94 = .ok (.iload_n 1, 1) := by decide +kernel
theorem dX11_needs_95 : decode cX11_needs 95 = .ok (.invokevirtual 391, 3) := by decide +kernel
theorem dX11_needs_98 : decode cX11_needs 98 = .ok (.ifCond .eq 7, 3) := by decide +kernel
theorem dX11_needs_101 : decode cX11_needs 101 = .ok (.iconst 1, 1) := by decide +kernel
theorem dX11_needs_102 : decode cX11_needs 102 = .ok (.goto 4, 3) := by decide +kernel
theorem dX11_needs_105 : decode cX11_needs 105 = .ok (.iconst 0, 1) := by decide +kernel
theorem dX11_needs_106 : decode cX11_needs 106 = .ok (.istore 4, 2) := by decide +kernel
theorem dX11_needs_108 : decode cX11_needs 108 = .ok (.iinc 6 1, 3) := by decide +kernel
theorem dX11_needs_111 : decode cX11_needs 111 = .ok (.goto (-45), 3) := by decide +kernel
theorem dX11_needs_114 : decode cX11_needs 114 = .ok (.iinc 5 1, 3) := by decide +kernel
theorem dX11_needs_117 : decode cX11_needs 117 = .ok (.goto (-76), 3) := by decide +kernel
theorem dX11_needs_120 : decode cX11_needs 120 = .ok (.aload_n 0, 1) := by decide +kernel
theorem dX11_needs_121 : decode cX11_needs 121 = .ok (.iconst 4, 1) := by decide +kernel
theorem dX11_needs_122 : decode cX11_needs 122 = .ok (.invokevirtual 361, 3) := by decide +kernel
theorem dX11_needs_125 : decode cX11_needs 125 = .ok (.iload 4, 2) := by decide +kernel
theorem dX11_needs_127 : decode cX11_needs 127 = .ok (.ifCond .eq 7, 3) := by decide +kernel
theorem dX11_needs_130 : decode cX11_needs 130 = .ok (.iconst 1, 1) := by decide +kernel
theorem dX11_needs_131 : decode cX11_needs 131 = .ok (.goto 4, 3) := by decide +kernel
theorem dX11_needs_134 : decode cX11_needs 134 = .ok (.iconst 0, 1) := by decide +kernel
theorem dX11_needs_135 : decode cX11_needs 135 = .ok (.ireturn, 1) := by decide +kernel
theorem dX11_knows_0 : decode cX11_knows 0 = .ok (.aload_n 0, 1) := by decide +kernel
theorem dX11_knows_1 : decode cX11_knows 1 = .ok (.iconst 0, 1) := by decide +kernel
theorem dX11_knows_2 : decode cX11_knows 2 = .ok (.putfield 130, 3) := by decide +kernel
theorem dX11_knows_5 : decode cX11_knows 5 = .ok (.aload_n 0, 1) := by decide +kernel
theorem dX11_knows_6 : decode cX11_knows 6 = .ok (.iload_n 1, 1) := by decide +kernel
theorem dX11_knows_7 : decode cX11_knows 7 = .ok (.invokevirtual 321, 3) := by decide +kernel
theorem dX11_knows_10 : decode cX11_knows 10 = .ok (.ifCond .ne 5, 3) := by decide +kernel
theorem dX11_knows_13 : decode cX11_knows 13 = .ok (.iconst (-1), 1) := by decide +kernel
theorem dX11_knows_14 : decode cX11_knows 14 = .ok (.ireturn, 1) := by decide +kernel
theorem dX11_knows_15 : decode cX11_knows 15 = .ok (.iload_n 1, 1) := by decide +kernel
theorem dX11_knows_16 : decode cX11_knows 16 = .ok (.istore_n 2, 1) := by decide +kernel
theorem dX11_knows_17 : decode cX11_knows 17 = .ok (.iconst 0, 1) := by decide +kernel
theorem dX11_knows_18 : decode cX11_knows 18 = .ok (.istore_n 3, 1) := by decide +kernel
theorem dX11_knows_19 : decode cX11_knows 19 = .ok (.iload_n 2, 1) := by decide +kernel
theorem dX11_knows_20 : decode cX11_knows 20 = .ok (.aload_n 0, 1) := by decide +kernel
theorem dX11_knows_21 : decode cX11_knows 21 = .ok (.getfield 292, 3) := by decide +kernel
theorem dX11_knows_24 : decode cX11_knows 24 = .ok (.if_icmp .eq 43, 3) := by decide +kernel
theorem dX11_knows_27 : decode cX11_knows 27 = .ok (.aload_n 0, 1) := by decide +kernel
theorem dX11_knows_28 : decode cX11_knows 28 = .ok (.iload_n 2, 1) := by decide +kernel
theorem dX11_knows_29 : decode cX11_knows 29 = .ok (.aload_n 0, 1) := by decide +kernel
theorem dX11_knows_30 : decode cX11_knows 30 = .ok (.getfield 72, 3) := by decide +kernel
theorem dX11_knows_33 : decode cX11_knows 33 = .ok (.iload_n 2, 1) := by decide +kernel
theorem dX11_knows_34 : decode cX11_knows 34 = .ok (.iaload, 1) := by decide +kernel
theorem dX11_knows_35 : decode cX11_knows 35 = .ok (.invokevirtual 327, 3) := by decide +kernel
theorem dX11_knows_38 : decode cX11_knows 38 = .ok (.ifCond .ne 9, 3) := by decide +kernel
theorem dX11_knows_41 : decode cX11_knows 41 = .ok (.iload_n 3, 1) := by decide +kernel
theorem dX11_knows_42 : decode cX11_knows 42 = .ok (.bipush 36, 2) := by decide +kernel
theorem dX11_knows_44 : decode cX11_knows 44 = .ok (.if_icmp .le 5, 3) := by decide +kernel
theorem dX11_knows_47 : decode cX11_knows 47 = .ok (.iconst (-1), 1) := by decide +kernel
theorem dX11_knows_48 : decode cX11_knows 48 = .ok (.ireturn, 1) := by decide +kernel
theorem dX11_knows_49 : decode cX11_knows 49 = .ok (.aload_n 0, 1) := by decide +kernel
theorem dX11_knows_50 : decode cX11_knows 50 = .ok (.iload_n 2, 1) := by decide +kernel
theorem dX11_knows_51 : decode cX11_knows 51 = .ok (.aload_n 0, 1) := by decide +kernel
theorem dX11_knows_52 : decode cX11_knows 52 = .ok (.getfield 72, 3) := by decide +kernel
theorem dX11_knows_55 : decode cX11_knows 55 = .ok (.iload_n 2, 1) := by decide +kernel
theorem dX11_knows_56 : decode cX11_knows 56 = .ok (.iaload, 1) := by decide +kernel
theorem dX11_knows_57 : decode cX11_knows 57 = .ok (.invokevirtual 314, 3) := by decide +kernel
theorem dX11_knows_60 : decode cX11_knows 60 = .ok (.istore_n 2, 1) := by decide +kernel
theorem dX11_knows_61 : decode cX11_knows 61 = .ok (.iinc 3 1, 3) := by decide +kernel
theorem dX11_knows_64 : decode cX11_knows 64 = .ok (.goto (-45), 3) := by decide +kernel
theorem dX11_knows_67 : decode cX11_knows 67 = .ok (.iload_n 3, 1) := by decide +kernel
theorem dX11_knows_68 : decode cX11_knows 68 = .ok (.ireturn, 1) := by decide +kernel
theorem dX11_felt_0 : decode cX11_felt 0 = .ok (.aload_n 0, 1) := by decide +kernel
theorem dX11_felt_1 : decode cX11_felt 1 = .ok (.aload_n 0, 1) := by decide +kernel
theorem dX11_felt_2 : decode cX11_felt 2 = .ok (.getfield 295, 3) := by decide +kernel
theorem dX11_felt_5 : decode cX11_felt 5 = .ok (.aload_n 0, 1) := by decide +kernel
theorem dX11_felt_6 : decode cX11_felt 6 = .ok (.getfield 298, 3) := by decide +kernel
theorem dX11_felt_9 : decode cX11_felt 9 = .ok (.invokevirtual 327, 3) := by decide +kernel
theorem dX11_felt_12 : decode cX11_felt 12 = .ok (.ifCond .eq 7, 3) := by decide +kernel
theorem dX11_felt_15 : decode cX11_felt 15 = .ok (.iconst 1, 1) := by decide +kernel
theorem dX11_felt_16 : decode cX11_felt 16 = .ok (.goto 4, 3) := by decide +kernel
theorem dX11_felt_19 : decode cX11_felt 19 = .ok (.iconst 0, 1) := by decide +kernel
theorem dX11_felt_20 : decode cX11_felt 20 = .ok (.aload_n 0, 1) := by decide +kernel
theorem dX11_felt_21 : decode cX11_felt 21 = .ok (.getfield 295, 3) := by decide +kernel
theorem dX11_felt_24 : decode cX11_felt 24 = .ok (.aload_n 0, 1) := by decide +kernel
theorem dX11_felt_25 : decode cX11_felt 25 = .ok (.getfield 292, 3) := by decide +kernel
theorem dX11_felt_28 : decode cX11_felt 28 = .ok (.if_icmp .ne 7, 3) := by decide +kernel
theorem dX11_felt_31 : decode cX11_felt 31 = .ok (.iconst 2, 1) := by decide +kernel
theorem dX11_felt_32 : decode cX11_felt 32 = .ok (.goto 4, 3) := by decide +kernel
theorem dX11_felt_35 : decode cX11_felt 35 = .ok (.iconst 0, 1) := by decide +kernel
theorem dX11_felt_36 : decode cX11_felt 36 = .ok (.ior, 1) := by decide +kernel
theorem dX11_felt_37 : decode cX11_felt 37 = .ok (.aload_n 0, 1) := by decide +kernel
theorem dX11_felt_38 : decode cX11_felt 38 = .ok (.getfield 72, 3) := by decide +kernel
theorem dX11_felt_41 : decode cX11_felt 41 = .ok (.aload_n 0, 1) := by decide +kernel
theorem dX11_felt_42 : decode cX11_felt 42 = .ok (.getfield 295, 3) := by decide +kernel
theorem dX11_felt_45 : decode cX11_felt 45 = .ok (.iaload, 1) := by decide +kernel
theorem dX11_felt_46 : decode cX11_felt 46 = .ok (.iconst 2, 1) := by decide +kernel
theorem dX11_felt_47 : decode cX11_felt 47 = .ok (.irem, 1) := by decide +kernel
theorem dX11_felt_48 : decode cX11_felt 48 = .ok (.iconst 1, 1) := by decide +kernel
theorem dX11_felt_49 : decode cX11_felt 49 = .ok (.if_icmp .ne 7, 3) := by decide +kernel
theorem dX11_felt_52 : decode cX11_felt 52 = .ok (.iconst 4, 1) := by decide +kernel
theorem dX11_felt_53 : decode cX11_felt 53 = .ok (.goto 4, 3) := by decide +kernel
theorem dX11_felt_56 : decode cX11_felt 56 = .ok (.iconst 0, 1) := by decide +kernel
theorem dX11_felt_57 : decode cX11_felt 57 = .ok (.ior, 1) := by decide +kernel
theorem dX11_felt_58 : decode cX11_felt 58 = .ok (.aload_n 0, 1) := by decide +kernel
theorem dX11_felt_59 : decode cX11_felt 59 = .ok (.getfield 72, 3) := by decide +kernel
theorem dX11_felt_62 : decode cX11_felt 62 = .ok (.aload_n 0, 1) := by decide +kernel
theorem dX11_felt_63 : decode cX11_felt 63 = .ok (.getfield 295, 3) := by decide +kernel
theorem dX11_felt_66 : decode cX11_felt 66 = .ok (.iaload, 1) := by decide +kernel
theorem dX11_felt_67 : decode cX11_felt 67 = .ok (.iconst 1, 1) := by decide +kernel
theorem dX11_felt_68 : decode cX11_felt 68 = .ok (.if_icmp .le 8, 3) := by decide +kernel
theorem dX11_felt_71 : decode cX11_felt 71 = .ok (.bipush 8, 2) := by decide +kernel
theorem dX11_felt_73 : decode cX11_felt 73 = .ok (.goto 4, 3) := by decide +kernel
theorem dX11_felt_76 : decode cX11_felt 76 = .ok (.iconst 0, 1) := by decide +kernel
theorem dX11_felt_77 : decode cX11_felt 77 = .ok (.ior, 1) := by decide +kernel
theorem dX11_felt_78 : decode cX11_felt 78 = .ok (.ireturn, 1) := by decide +kernel
theorem dX11_works_0 : decode cX11_works 0 = .ok (.aload_n 0, 1) := by decide +kernel
theorem dX11_works_1 : decode cX11_works 1 = .ok (.getfield 45, 3) := by decide +kernel
theorem dX11_works_4 : decode cX11_works 4 = .ok (.iload_n 1, 1) := by decide +kernel
theorem dX11_works_5 : decode cX11_works 5 = .ok (.iaload, 1) := by decide +kernel
theorem dX11_works_6 : decode cX11_works 6 = .ok (.istore 4, 2) := by decide +kernel
theorem dX11_works_8 : decode cX11_works 8 = .ok (.iload 4, 2) := by decide +kernel
theorem dX11_works_10 : decode cX11_works 10 = .ok (.aload_n 0, 1) := by decide +kernel
theorem dX11_works_11 : decode cX11_works 11 = .ok (.getfield 48, 3) := by decide +kernel
theorem dX11_works_14 : decode cX11_works 14 = .ok (.iload_n 1, 1) := by decide +kernel
theorem dX11_works_15 : decode cX11_works 15 = .ok (.iaload, 1) := by decide +kernel
theorem dX11_works_16 : decode cX11_works 16 = .ok (.if_icmp .ge 205, 3) := by decide +kernel
theorem dX11_works_19 : decode cX11_works 19 = .ok (.aload_n 0, 1) := by decide +kernel
theorem dX11_works_20 : decode cX11_works 20 = .ok (.getfield 51, 3) := by decide +kernel
theorem dX11_works_23 : decode cX11_works 23 = .ok (.iload 4, 2) := by decide +kernel
theorem dX11_works_25 : decode cX11_works 25 = .ok (.iaload, 1) := by decide +kernel
theorem dX11_works_26 : decode cX11_works 26 = .ok (.tableswitch 171 4 7 #[30, 51, 81, 126], 30) := by decide +kernel
theorem dX11_works_56 : decode cX11_works 56 = .ok (.aload_n 0, 1) := by decide +kernel
theorem dX11_works_57 : decode cX11_works 57 = .ok (.getfield 117, 3) := by decide +kernel
theorem dX11_works_60 : decode cX11_works 60 = .ok (.iload 4, 2) := by decide +kernel
theorem dX11_works_62 : decode cX11_works 62 = .ok (.iload_n 2, 1) := by decide +kernel
theorem dX11_works_63 : decode cX11_works 63 = .ok (.aload_n 0, 1) := by decide +kernel
theorem dX11_works_64 : decode cX11_works 64 = .ok (.getfield 54, 3) := by decide +kernel
theorem dX11_works_67 : decode cX11_works 67 = .ok (.iload 4, 2) := by decide +kernel
theorem dX11_works_69 : decode cX11_works 69 = .ok (.iaload, 1) := by decide +kernel
theorem dX11_works_70 : decode cX11_works 70 = .ok (.invokestatic 310, 3) := by decide +kernel
theorem dX11_works_73 : decode cX11_works 73 = .ok (.bastore, 1) := by decide +kernel
theorem dX11_works_74 : decode cX11_works 74 = .ok (.goto 141, 3) := by decide +kernel
theorem dX11_works_77 : decode cX11_works 77 = .ok (.aload_n 0, 1) := by decide +kernel
theorem dX11_works_78 : decode cX11_works 78 = .ok (.getfield 117, 3) := by decide +kernel
theorem dX11_works_81 : decode cX11_works 81 = .ok (.iload 4, 2) := by decide +kernel
theorem dX11_works_83 : decode cX11_works 83 = .ok (.aload_n 0, 1) := by decide +kernel
theorem dX11_works_84 : decode cX11_works 84 = .ok (.getfield 117, 3) := by decide +kernel
theorem dX11_works_87 : decode cX11_works 87 = .ok (.aload_n 0, 1) := by decide +kernel
theorem dX11_works_88 : decode cX11_works 88 = .ok (.getfield 54, 3) := by decide +kernel
theorem dX11_works_91 : decode cX11_works 91 = .ok (.iload 4, 2) := by decide +kernel
theorem dX11_works_93 : decode cX11_works 93 = .ok (.iaload, 1) := by decide +kernel
theorem dX11_works_94 : decode cX11_works 94 = .ok (.baload, 1) := by decide +kernel
theorem dX11_works_95 : decode cX11_works 95 = .ok (.ifCond .ne 7, 3) := by decide +kernel
theorem dX11_works_98 : decode cX11_works 98 = .ok (.iconst 1, 1) := by decide +kernel
theorem dX11_works_99 : decode cX11_works 99 = .ok (.goto 4, 3) := by decide +kernel
theorem dX11_works_102 : decode cX11_works 102 = .ok (.iconst 0, 1) := by decide +kernel
theorem dX11_works_103 : decode cX11_works 103 = .ok (.bastore, 1) := by decide +kernel
theorem dX11_works_104 : decode cX11_works 104 = .ok (.goto 111, 3) := by decide +kernel
theorem dX11_works_107 : decode cX11_works 107 = .ok (.aload_n 0, 1) := by decide +kernel
theorem dX11_works_108 : decode cX11_works 108 = .ok (.getfield 117, 3) := by decide +kernel
theorem dX11_works_111 : decode cX11_works 111 = .ok (.iload 4, 2) := by decide +kernel
theorem dX11_works_113 : decode cX11_works 113 = .ok (.aload_n 0, 1) := by decide +kernel
theorem dX11_works_114 : decode cX11_works 114 = .ok (.getfield 117, 3) := by decide +kernel
theorem dX11_works_117 : decode cX11_works 117 = .ok (.aload_n 0, 1) := by decide +kernel
theorem dX11_works_118 : decode cX11_works 118 = .ok (.getfield 54, 3) := by decide +kernel
theorem dX11_works_121 : decode cX11_works 121 = .ok (.iload 4, 2) := by decide +kernel
theorem dX11_works_123 : decode cX11_works 123 = .ok (.iaload, 1) := by decide +kernel
theorem dX11_works_124 : decode cX11_works 124 = .ok (.baload, 1) := by decide +kernel
theorem dX11_works_125 : decode cX11_works 125 = .ok (.ifCond .eq 22, 3) := by decide +kernel
theorem dX11_works_128 : decode cX11_works 128 = .ok (.aload_n 0, 1) := by decide +kernel
theorem dX11_works_129 : decode cX11_works 129 = .ok (.getfield 117, 3) := by decide +kernel
theorem dX11_works_132 : decode cX11_works 132 = .ok (.aload_n 0, 1) := by decide +kernel
theorem dX11_works_133 : decode cX11_works 133 = .ok (.getfield 57, 3) := by decide +kernel
theorem dX11_works_136 : decode cX11_works 136 = .ok (.iload 4, 2) := by decide +kernel
theorem dX11_works_138 : decode cX11_works 138 = .ok (.iaload, 1) := by decide +kernel
theorem dX11_works_139 : decode cX11_works 139 = .ok (.baload, 1) := by decide +kernel
theorem dX11_works_140 : decode cX11_works 140 = .ok (.ifCond .eq 7, 3) := by decide +kernel
theorem dX11_works_143 : decode cX11_works 143 = .ok (.iconst 1, 1) := by decide +kernel
theorem dX11_works_144 : decode cX11_works 144 = .ok (.goto 4, 3) := by decide +kernel
theorem dX11_works_147 : decode cX11_works 147 = .ok (.iconst 0, 1) := by decide +kernel
theorem dX11_works_148 : decode cX11_works 148 = .ok (.bastore, 1) := by decide +kernel
theorem dX11_works_149 : decode cX11_works 149 = .ok (.goto 66, 3) := by decide +kernel
theorem dX11_works_152 : decode cX11_works 152 = .ok (.aload_n 0, 1) := by decide +kernel
theorem dX11_works_153 : decode cX11_works 153 = .ok (.getfield 117, 3) := by decide +kernel
theorem dX11_works_156 : decode cX11_works 156 = .ok (.iload 4, 2) := by decide +kernel
theorem dX11_works_158 : decode cX11_works 158 = .ok (.aload_n 0, 1) := by decide +kernel
theorem dX11_works_159 : decode cX11_works 159 = .ok (.getfield 117, 3) := by decide +kernel
theorem dX11_works_162 : decode cX11_works 162 = .ok (.aload_n 0, 1) := by decide +kernel
theorem dX11_works_163 : decode cX11_works 163 = .ok (.getfield 54, 3) := by decide +kernel
theorem dX11_works_166 : decode cX11_works 166 = .ok (.iload 4, 2) := by decide +kernel
theorem dX11_works_168 : decode cX11_works 168 = .ok (.iaload, 1) := by decide +kernel
theorem dX11_works_169 : decode cX11_works 169 = .ok (.baload, 1) := by decide +kernel
theorem dX11_works_170 : decode cX11_works 170 = .ok (.ifCond .ne 18, 3) := by decide +kernel
theorem dX11_works_173 : decode cX11_works 173 = .ok (.aload_n 0, 1) := by decide +kernel
theorem dX11_works_174 : decode cX11_works 174 = .ok (.getfield 117, 3) := by decide +kernel
theorem dX11_works_177 : decode cX11_works 177 = .ok (.aload_n 0, 1) := by decide +kernel
theorem dX11_works_178 : decode cX11_works 178 = .ok (.getfield 57, 3) := by decide +kernel
theorem dX11_works_181 : decode cX11_works 181 = .ok (.iload 4, 2) := by decide +kernel
theorem dX11_works_183 : decode cX11_works 183 = .ok (.iaload, 1) := by decide +kernel
theorem dX11_works_184 : decode cX11_works 184 = .ok (.baload, 1) := by decide +kernel
theorem dX11_works_185 : decode cX11_works 185 = .ok (.ifCond .eq 7, 3) := by decide +kernel
theorem dX11_works_188 : decode cX11_works 188 = .ok (.iconst 1, 1) := by decide +kernel
theorem dX11_works_189 : decode cX11_works 189 = .ok (.goto 4, 3) := by decide +kernel
theorem dX11_works_192 : decode cX11_works 192 = .ok (.iconst 0, 1) := by decide +kernel
theorem dX11_works_193 : decode cX11_works 193 = .ok (.bastore, 1) := by decide +kernel
theorem dX11_works_194 : decode cX11_works 194 = .ok (.goto 21, 3) := by decide +kernel
theorem dX11_works_197 : decode cX11_works 197 = .ok (.aload_n 0, 1) := by decide +kernel
theorem dX11_works_198 : decode cX11_works 198 = .ok (.getfield 117, 3) := by decide +kernel
theorem dX11_works_201 : decode cX11_works 201 = .ok (.iload 4, 2) := by decide +kernel
theorem dX11_works_203 : decode cX11_works 203 = .ok (.iload_n 3, 1) := by decide +kernel
theorem dX11_works_204 : decode cX11_works 204 = .ok (.aload_n 0, 1) := by decide +kernel
theorem dX11_works_205 : decode cX11_works 205 = .ok (.getfield 51, 3) := by decide +kernel
theorem dX11_works_208 : decode cX11_works 208 = .ok (.iload 4, 2) := by decide +kernel
theorem dX11_works_210 : decode cX11_works 210 = .ok (.iaload, 1) := by decide +kernel
theorem dX11_works_211 : decode cX11_works 211 = .ok (.invokestatic 310, 3) := by decide +kernel
theorem dX11_works_214 : decode cX11_works 214 = .ok (.bastore, 1) := by decide +kernel
theorem dX11_works_215 : decode cX11_works 215 = .ok (.iinc 4 1, 3) := by decide +kernel
theorem dX11_works_218 : decode cX11_works 218 = .ok (.goto (-210), 3) := by decide +kernel
theorem dX11_works_221 : decode cX11_works 221 = .ok (.aload_n 0, 1) := by decide +kernel
theorem dX11_works_222 : decode cX11_works 222 = .ok (.getfield 48, 3) := by decide +kernel
theorem dX11_works_225 : decode cX11_works 225 = .ok (.iload_n 1, 1) := by decide +kernel
theorem dX11_works_226 : decode cX11_works 226 = .ok (.iaload, 1) := by decide +kernel
theorem dX11_works_227 : decode cX11_works 227 = .ok (.aload_n 0, 1) := by decide +kernel
theorem dX11_works_228 : decode cX11_works 228 = .ok (.getfield 45, 3) := by decide +kernel
theorem dX11_works_231 : decode cX11_works 231 = .ok (.iload_n 1, 1) := by decide +kernel
theorem dX11_works_232 : decode cX11_works 232 = .ok (.iaload, 1) := by decide +kernel
theorem dX11_works_233 : decode cX11_works 233 = .ok (.if_icmp .le 23, 3) := by decide +kernel
theorem dX11_works_236 : decode cX11_works 236 = .ok (.aload_n 0, 1) := by decide +kernel
theorem dX11_works_237 : decode cX11_works 237 = .ok (.getfield 117, 3) := by decide +kernel
theorem dX11_works_240 : decode cX11_works 240 = .ok (.aload_n 0, 1) := by decide +kernel
theorem dX11_works_241 : decode cX11_works 241 = .ok (.getfield 48, 3) := by decide +kernel
theorem dX11_works_244 : decode cX11_works 244 = .ok (.iload_n 1, 1) := by decide +kernel
theorem dX11_works_245 : decode cX11_works 245 = .ok (.iaload, 1) := by decide +kernel
theorem dX11_works_246 : decode cX11_works 246 = .ok (.iconst 1, 1) := by decide +kernel
theorem dX11_works_247 : decode cX11_works 247 = .ok (.isub, 1) := by decide +kernel
theorem dX11_works_248 : decode cX11_works 248 = .ok (.baload, 1) := by decide +kernel
theorem dX11_works_249 : decode cX11_works 249 = .ok (.ifCond .eq 7, 3) := by decide +kernel
theorem dX11_works_252 : decode cX11_works 252 = .ok (.iconst 1, 1) := by decide +kernel
theorem dX11_works_253 : decode cX11_works 253 = .ok (.goto 4, 3) := by decide +kernel
theorem dX11_works_256 : decode cX11_works 256 = .ok (.iconst 0, 1) := by decide +kernel
theorem dX11_works_257 : decode cX11_works 257 = .ok (.ireturn, 1) := by decide +kernel
theorem dX11_pulls_0 : decode cX11_pulls 0 = .ok (.aload_n 0, 1) := by decide +kernel
theorem dX11_pulls_1 : decode cX11_pulls 1 = .ok (.invokevirtual 397, 3) := by decide +kernel
theorem dX11_pulls_4 : decode cX11_pulls 4 = .ok (.istore_n 1, 1) := by decide +kernel
theorem dX11_pulls_5 : decode cX11_pulls 5 = .ok (.iconst 0, 1) := by decide +kernel
theorem dX11_pulls_6 : decode cX11_pulls 6 = .ok (.istore_n 2, 1) := by decide +kernel
theorem dX11_pulls_7 : decode cX11_pulls 7 = .ok (.iconst 0, 1) := by decide +kernel
theorem dX11_pulls_8 : decode cX11_pulls 8 = .ok (.istore_n 3, 1) := by decide +kernel
theorem dX11_pulls_9 : decode cX11_pulls 9 = .ok (.iload_n 3, 1) := by decide +kernel
theorem dX11_pulls_10 : decode cX11_pulls 10 = .ok (.aload_n 0, 1) := by decide +kernel
theorem dX11_pulls_11 : decode cX11_pulls 11 = .ok (.getfield 265, 3) := by decide +kernel
theorem dX11_pulls_14 : decode cX11_pulls 14 = .ok (.if_icmp .ge 58, 3) := by decide +kernel
theorem dX11_pulls_17 : decode cX11_pulls 17 = .ok (.aload_n 0, 1) := by decide +kernel
theorem dX11_pulls_18 : decode cX11_pulls 18 = .ok (.getfield 274, 3) := by decide +kernel
theorem dX11_pulls_21 : decode cX11_pulls 21 = .ok (.iload_n 3, 1) := by decide +kernel
theorem dX11_pulls_22 : decode cX11_pulls 22 = .ok (.invokestatic 310, 3) := by decide +kernel
theorem dX11_pulls_25 : decode cX11_pulls 25 = .ok (.ifCond .eq 14, 3) := by decide +kernel
theorem dX11_pulls_28 : decode cX11_pulls 28 = .ok (.aload_n 0, 1) := by decide +kernel
theorem dX11_pulls_29 : decode cX11_pulls 29 = .ok (.getfield 277, 3) := by decide +kernel
theorem dX11_pulls_32 : decode cX11_pulls 32 = .ok (.iload_n 3, 1) := by decide +kernel
theorem dX11_pulls_33 : decode cX11_pulls 33 = .ok (.invokestatic 310, 3) := by decide +kernel
theorem dX11_pulls_36 : decode cX11_pulls 36 = .ok (.goto 13, 3) := by decide +kernel
theorem dX11_pulls_39 : decode cX11_pulls 39 = .ok (.aload_n 0, 1) := by decide +kernel
theorem dX11_pulls_40 : decode cX11_pulls 40 = .ok (.iload_n 3, 1) := by decide +kernel
theorem dX11_pulls_41 : decode cX11_pulls 41 = .ok (.aload_n 0, 1) := by decide +kernel
theorem dX11_pulls_42 : decode cX11_pulls 42 = .ok (.getfield 271, 3) := by decide +kernel
theorem dX11_pulls_45 : decode cX11_pulls 45 = .ok (.iload_n 1, 1) := by decide +kernel
theorem dX11_pulls_46 : decode cX11_pulls 46 = .ok (.invokevirtual 400, 3) := by decide +kernel
theorem dX11_pulls_49 : decode cX11_pulls 49 = .ok (.istore 4, 2) := by decide +kernel
theorem dX11_pulls_51 : decode cX11_pulls 51 = .ok (.iload_n 2, 1) := by decide +kernel
theorem dX11_pulls_52 : decode cX11_pulls 52 = .ok (.iload 4, 2) := by decide +kernel
theorem dX11_pulls_54 : decode cX11_pulls 54 = .ok (.ifCond .eq 9, 3) := by decide +kernel
theorem dX11_pulls_57 : decode cX11_pulls 57 = .ok (.iconst 1, 1) := by decide +kernel
theorem dX11_pulls_58 : decode cX11_pulls 58 = .ok (.iload_n 3, 1) := by decide +kernel
theorem dX11_pulls_59 : decode cX11_pulls 59 = .ok (.ishl, 1) := by decide +kernel
theorem dX11_pulls_60 : decode cX11_pulls 60 = .ok (.goto 4, 3) := by decide +kernel
theorem dX11_pulls_63 : decode cX11_pulls 63 = .ok (.iconst 0, 1) := by decide +kernel
theorem dX11_pulls_64 : decode cX11_pulls 64 = .ok (.ior, 1) := by decide +kernel
theorem dX11_pulls_65 : decode cX11_pulls 65 = .ok (.istore_n 2, 1) := by decide +kernel
theorem dX11_pulls_66 : decode cX11_pulls 66 = .ok (.iinc 3 1, 3) := by decide +kernel
theorem dX11_pulls_69 : decode cX11_pulls 69 = .ok (.goto (-60), 3) := by decide +kernel
theorem dX11_pulls_72 : decode cX11_pulls 72 = .ok (.aload_n 0, 1) := by decide +kernel
theorem dX11_pulls_73 : decode cX11_pulls 73 = .ok (.iload_n 2, 1) := by decide +kernel
theorem dX11_pulls_74 : decode cX11_pulls 74 = .ok (.putfield 271, 3) := by decide +kernel
theorem dX11_pulls_77 : decode cX11_pulls 77 = .ok (.aload_n 0, 1) := by decide +kernel
theorem dX11_pulls_78 : decode cX11_pulls 78 = .ok (.bipush 23, 2) := by decide +kernel
theorem dX11_pulls_80 : decode cX11_pulls 80 = .ok (.iload_n 2, 1) := by decide +kernel
theorem dX11_pulls_81 : decode cX11_pulls 81 = .ok (.iload_n 1, 1) := by decide +kernel
theorem dX11_pulls_82 : decode cX11_pulls 82 = .ok (.invokevirtual 400, 3) := by decide +kernel
theorem dX11_pulls_85 : decode cX11_pulls 85 = .ok (.ifCond .eq 16, 3) := by decide +kernel
theorem dX11_pulls_88 : decode cX11_pulls 88 = .ok (.aload_n 0, 1) := by decide +kernel
theorem dX11_pulls_89 : decode cX11_pulls 89 = .ok (.getfield 72, 3) := by decide +kernel
theorem dX11_pulls_92 : decode cX11_pulls 92 = .ok (.aload_n 0, 1) := by decide +kernel
theorem dX11_pulls_93 : decode cX11_pulls 93 = .ok (.getfield 295, 3) := by decide +kernel
theorem dX11_pulls_96 : decode cX11_pulls 96 = .ok (.aload_n 0, 1) := by decide +kernel
theorem dX11_pulls_97 : decode cX11_pulls 97 = .ok (.getfield 298, 3) := by decide +kernel
theorem dX11_pulls_100 : decode cX11_pulls 100 = .ok (.iastore, 1) := by decide +kernel
theorem dX11_pulls_101 : decode cX11_pulls 101 = .ok (.aload_n 0, 1) := by decide +kernel
theorem dX11_pulls_102 : decode cX11_pulls 102 = .ok (.bipush 21, 2) := by decide +kernel
theorem dX11_pulls_104 : decode cX11_pulls 104 = .ok (.iload_n 2, 1) := by decide +kernel
theorem dX11_pulls_105 : decode cX11_pulls 105 = .ok (.iload_n 1, 1) := by decide +kernel
theorem dX11_pulls_106 : decode cX11_pulls 106 = .ok (.invokevirtual 400, 3) := by decide +kernel
theorem dX11_pulls_109 : decode cX11_pulls 109 = .ok (.istore_n 3, 1) := by decide +kernel
theorem dX11_pulls_110 : decode cX11_pulls 110 = .ok (.aload_n 0, 1) := by decide +kernel
theorem dX11_pulls_111 : decode cX11_pulls 111 = .ok (.bipush 22, 2) := by decide +kernel
theorem dX11_pulls_113 : decode cX11_pulls 113 = .ok (.iload_n 2, 1) := by decide +kernel
theorem dX11_pulls_114 : decode cX11_pulls 114 = .ok (.iload_n 1, 1) := by decide +kernel
theorem dX11_pulls_115 : decode cX11_pulls 115 = .ok (.invokevirtual 400, 3) := by decide +kernel
theorem dX11_pulls_118 : decode cX11_pulls 118 = .ok (.istore 4, 2) := by decide +kernel
theorem dX11_pulls_120 : decode cX11_pulls 120 = .ok (.aload_n 0, 1) := by decide +kernel
theorem dX11_pulls_121 : decode cX11_pulls 121 = .ok (.bipush 20, 2) := by decide +kernel
theorem dX11_pulls_123 : decode cX11_pulls 123 = .ok (.iload_n 2, 1) := by decide +kernel
theorem dX11_pulls_124 : decode cX11_pulls 124 = .ok (.iload_n 1, 1) := by decide +kernel
theorem dX11_pulls_125 : decode cX11_pulls 125 = .ok (.invokevirtual 400, 3) := by decide +kernel
theorem dX11_pulls_128 : decode cX11_pulls 128 = .ok (.istore 5, 2) := by decide +kernel
theorem dX11_pulls_130 : decode cX11_pulls 130 = .ok (.iload_n 3, 1) := by decide +kernel
theorem dX11_pulls_131 : decode cX11_pulls 131 = .ok (.ifCond .eq 15, 3) := by decide +kernel
theorem dX11_pulls_134 : decode cX11_pulls 134 = .ok (.aload_n 0, 1) := by decide +kernel
theorem dX11_pulls_135 : decode cX11_pulls 135 = .ok (.aload_n 0, 1) := by decide +kernel
theorem dX11_pulls_136 : decode cX11_pulls 136 = .ok (.getfield 298, 3) := by decide +kernel
theorem dX11_pulls_139 : decode cX11_pulls 139 = .ok (.iconst 3, 1) := by decide +kernel
theorem dX11_pulls_140 : decode cX11_pulls 140 = .ok (.iadd, 1) := by decide +kernel
theorem dX11_pulls_141 : decode cX11_pulls 141 = .ok (.iconst 4, 1) := by decide +kernel
theorem dX11_pulls_142 : decode cX11_pulls 142 = .ok (.irem, 1) := by decide +kernel
theorem dX11_pulls_143 : decode cX11_pulls 143 = .ok (.putfield 298, 3) := by decide +kernel
theorem dX11_pulls_146 : decode cX11_pulls 146 = .ok (.iload 4, 2) := by decide +kernel
theorem dX11_pulls_148 : decode cX11_pulls 148 = .ok (.ifCond .eq 15, 3) := by decide +kernel
theorem dX11_pulls_151 : decode cX11_pulls 151 = .ok (.aload_n 0, 1) := by decide +kernel
theorem dX11_pulls_152 : decode cX11_pulls 152 = .ok (.aload_n 0, 1) := by decide +kernel
theorem dX11_pulls_153 : decode cX11_pulls 153 = .ok (.getfield 298, 3) := by decide +kernel
theorem dX11_pulls_156 : decode cX11_pulls 156 = .ok (.iconst 1, 1) := by decide +kernel
theorem dX11_pulls_157 : decode cX11_pulls 157 = .ok (.iadd, 1) := by decide +kernel
theorem dX11_pulls_158 : decode cX11_pulls 158 = .ok (.iconst 4, 1) := by decide +kernel
theorem dX11_pulls_159 : decode cX11_pulls 159 = .ok (.irem, 1) := by decide +kernel
theorem dX11_pulls_160 : decode cX11_pulls 160 = .ok (.putfield 298, 3) := by decide +kernel
theorem dX11_pulls_163 : decode cX11_pulls 163 = .ok (.iload 5, 2) := by decide +kernel
theorem dX11_pulls_165 : decode cX11_pulls 165 = .ok (.ifCond .eq 7, 3) := by decide +kernel
theorem dX11_pulls_168 : decode cX11_pulls 168 = .ok (.aload_n 0, 1) := by decide +kernel
theorem dX11_pulls_169 : decode cX11_pulls 169 = .ok (.invokevirtual 340, 3) := by decide +kernel
theorem dX11_pulls_172 : decode cX11_pulls 172 = .ok (.return_, 1) := by decide +kernel
theorem dX11_pullsTold_0 : decode cX11_pullsTold 0 = .ok (.aload_n 0, 1) := by decide +kernel
theorem dX11_pullsTold_1 : decode cX11_pullsTold 1 = .ok (.aload_n 0, 1) := by decide +kernel
theorem dX11_pullsTold_2 : decode cX11_pullsTold 2 = .ok (.invokevirtual 397, 3) := by decide +kernel
theorem dX11_pullsTold_5 : decode cX11_pullsTold 5 = .ok (.putfield 403, 3) := by decide +kernel
theorem dX11_pullsTold_8 : decode cX11_pullsTold 8 = .ok (.aload_n 0, 1) := by decide +kernel
theorem dX11_pullsTold_9 : decode cX11_pullsTold 9 = .ok (.aload_n 0, 1) := by decide +kernel
theorem dX11_pullsTold_10 : decode cX11_pullsTold 10 = .ok (.getfield 271, 3) := by decide +kernel
theorem dX11_pullsTold_13 : decode cX11_pullsTold 13 = .ok (.putfield 406, 3) := by decide +kernel
theorem dX11_pullsTold_16 : decode cX11_pullsTold 16 = .ok (.aload_n 0, 1) := by decide +kernel
theorem dX11_pullsTold_17 : decode cX11_pullsTold 17 = .ok (.invokevirtual 409, 3) := by decide +kernel
theorem dX11_pullsTold_20 : decode cX11_pullsTold 20 = .ok (.aload_n 0, 1) := by decide +kernel
theorem dX11_pullsTold_21 : decode cX11_pullsTold 21 = .ok (.aload_n 0, 1) := by decide +kernel
theorem dX11_pullsTold_22 : decode cX11_pullsTold 22 = .ok (.getfield 271, 3) := by decide +kernel
theorem dX11_pullsTold_25 : decode cX11_pullsTold 25 = .ok (.putfield 412, 3) := by decide +kernel
theorem dX11_pullsTold_28 : decode cX11_pullsTold 28 = .ok (.aload_n 0, 1) := by decide +kernel
theorem dX11_pullsTold_29 : decode cX11_pullsTold 29 = .ok (.iconst 1, 1) := by decide +kernel
theorem dX11_pullsTold_30 : decode cX11_pullsTold 30 = .ok (.putfield 394, 3) := by decide +kernel
theorem dX11_pullsTold_33 : decode cX11_pullsTold 33 = .ok (.return_, 1) := by decide +kernel
theorem dX11_pull_0 : decode cX11_pull 0 = .ok (.aload_n 0, 1) := by decide +kernel
theorem dX11_pull_1 : decode cX11_pull 1 = .ok (.iconst 0, 1) := by decide +kernel
theorem dX11_pull_2 : decode cX11_pull 2 = .ok (.putfield 130, 3) := by decide +kernel
theorem dX11_pull_5 : decode cX11_pull 5 = .ok (.iload_n 1, 1) := by decide +kernel
theorem dX11_pull_6 : decode cX11_pull 6 = .ok (.iconst 0, 1) := by decide +kernel
theorem dX11_pull_7 : decode cX11_pull 7 = .ok (.sipush 5000, 3) := by decide +kernel
theorem dX11_pull_10 : decode cX11_pull 10 = .ok (.invokestatic 317, 3) := by decide +kernel
theorem dX11_pull_13 : decode cX11_pull 13 = .ok (.ifCond .ne 5, 3) := by decide +kernel
theorem dX11_pull_16 : decode cX11_pull 16 = .ok (.iconst (-1), 1) := by decide +kernel
theorem dX11_pull_17 : decode cX11_pull 17 = .ok (.ireturn, 1) := by decide +kernel
theorem dX11_pull_18 : decode cX11_pull 18 = .ok (.aload_n 0, 1) := by decide +kernel
theorem dX11_pull_19 : decode cX11_pull 19 = .ok (.iconst 0, 1) := by decide +kernel
theorem dX11_pull_20 : decode cX11_pull 20 = .ok (.putfield 337, 3) := by decide +kernel
theorem dX11_pull_23 : decode cX11_pull 23 = .ok (.iconst 0, 1) := by decide +kernel
theorem dX11_pull_24 : decode cX11_pull 24 = .ok (.istore_n 2, 1) := by decide +kernel
theorem dX11_pull_25 : decode cX11_pull 25 = .ok (.iload_n 2, 1) := by decide +kernel
theorem dX11_pull_26 : decode cX11_pull 26 = .ok (.iload_n 1, 1) := by decide +kernel
theorem dX11_pull_27 : decode cX11_pull 27 = .ok (.if_icmp .ge 13, 3) := by decide +kernel
theorem dX11_pull_30 : decode cX11_pull 30 = .ok (.aload_n 0, 1) := by decide +kernel
theorem dX11_pull_31 : decode cX11_pull 31 = .ok (.invokevirtual 415, 3) := by decide +kernel
theorem dX11_pull_34 : decode cX11_pull 34 = .ok (.iinc 2 1, 3) := by decide +kernel
theorem dX11_pull_37 : decode cX11_pull 37 = .ok (.goto (-12), 3) := by decide +kernel
theorem dX11_pull_40 : decode cX11_pull 40 = .ok (.aload_n 0, 1) := by decide +kernel
theorem dX11_pull_41 : decode cX11_pull 41 = .ok (.getfield 337, 3) := by decide +kernel
theorem dX11_pull_44 : decode cX11_pull 44 = .ok (.ireturn, 1) := by decide +kernel
theorem dX11_pullRun_0 : decode cX11_pullRun 0 = .ok (.aload_n 0, 1) := by decide +kernel
theorem dX11_pullRun_1 : decode cX11_pullRun 1 = .ok (.iconst 0, 1) := by decide +kernel
theorem dX11_pullRun_2 : decode cX11_pullRun 2 = .ok (.putfield 130, 3) := by decide +kernel
theorem dX11_pullRun_5 : decode cX11_pullRun 5 = .ok (.iload_n 1, 1) := by decide +kernel
theorem dX11_pullRun_6 : decode cX11_pullRun 6 = .ok (.iconst 0, 1) := by decide +kernel
theorem dX11_pullRun_7 : decode cX11_pullRun 7 = .ok (.sipush 5000, 3) := by decide +kernel
theorem dX11_pullRun_10 : decode cX11_pullRun 10 = .ok (.invokestatic 317, 3) := by decide +kernel
theorem dX11_pullRun_13 : decode cX11_pullRun 13 = .ok (.ifCond .ne 5, 3) := by decide +kernel
theorem dX11_pullRun_16 : decode cX11_pullRun 16 = .ok (.iconst (-1), 1) := by decide +kernel
theorem dX11_pullRun_17 : decode cX11_pullRun 17 = .ok (.ireturn, 1) := by decide +kernel
theorem dX11_pullRun_18 : decode cX11_pullRun 18 = .ok (.iconst 0, 1) := by decide +kernel
theorem dX11_pullRun_19 : decode cX11_pullRun 19 = .ok (.istore_n 2, 1) := by decide +kernel
theorem dX11_pullRun_20 : decode cX11_pullRun 20 = .ok (.aload_n 0, 1) := by decide +kernel
theorem dX11_pullRun_21 : decode cX11_pullRun 21 = .ok (.getfield 295, 3) := by decide +kernel
theorem dX11_pullRun_24 : decode cX11_pullRun 24 = .ok (.aload_n 0, 1) := by decide +kernel
theorem dX11_pullRun_25 : decode cX11_pullRun 25 = .ok (.getfield 292, 3) := by decide +kernel
theorem dX11_pullRun_28 : decode cX11_pullRun 28 = .ok (.if_icmp .eq 21, 3) := by decide +kernel
theorem dX11_pullRun_31 : decode cX11_pullRun 31 = .ok (.iload_n 2, 1) := by decide +kernel
theorem dX11_pullRun_32 : decode cX11_pullRun 32 = .ok (.iload_n 1, 1) := by decide +kernel
theorem dX11_pullRun_33 : decode cX11_pullRun 33 = .ok (.if_icmp .ne 6, 3) := by decide +kernel
theorem dX11_pullRun_36 : decode cX11_pullRun 36 = .ok (.bipush (-2), 2) := by decide +kernel
theorem dX11_pullRun_38 : decode cX11_pullRun 38 = .ok (.ireturn, 1) := by decide +kernel
theorem dX11_pullRun_39 : decode cX11_pullRun 39 = .ok (.aload_n 0, 1) := by decide +kernel
theorem dX11_pullRun_40 : decode cX11_pullRun 40 = .ok (.invokevirtual 415, 3) := by decide +kernel
theorem dX11_pullRun_43 : decode cX11_pullRun 43 = .ok (.iinc 2 1, 3) := by decide +kernel
theorem dX11_pullRun_46 : decode cX11_pullRun 46 = .ok (.goto (-26), 3) := by decide +kernel
theorem dX11_pullRun_49 : decode cX11_pullRun 49 = .ok (.iload_n 2, 1) := by decide +kernel
theorem dX11_pullRun_50 : decode cX11_pullRun 50 = .ok (.ireturn, 1) := by decide +kernel
theorem dX11_relays_0 : decode cX11_relays 0 = .ok (.aload_n 0, 1) := by decide +kernel
theorem dX11_relays_1 : decode cX11_relays 1 = .ok (.iconst 0, 1) := by decide +kernel
theorem dX11_relays_2 : decode cX11_relays 2 = .ok (.putfield 130, 3) := by decide +kernel
theorem dX11_relays_5 : decode cX11_relays 5 = .ok (.aload_n 0, 1) := by decide +kernel
theorem dX11_relays_6 : decode cX11_relays 6 = .ok (.getfield 271, 3) := by decide +kernel
theorem dX11_relays_9 : decode cX11_relays 9 = .ok (.ireturn, 1) := by decide +kernel
theorem dX11_race_0 : decode cX11_race 0 = .ok (.aload_n 0, 1) := by decide +kernel
theorem dX11_race_1 : decode cX11_race 1 = .ok (.iconst 0, 1) := by decide +kernel
theorem dX11_race_2 : decode cX11_race 2 = .ok (.putfield 130, 3) := by decide +kernel
theorem dX11_race_5 : decode cX11_race 5 = .ok (.aload_n 0, 1) := by decide +kernel
theorem dX11_race_6 : decode cX11_race 6 = .ok (.getfield 394, 3) := by decide +kernel
theorem dX11_race_9 : decode cX11_race 9 = .ok (.ifCond .ne 5, 3) := by decide +kernel
theorem dX11_race_12 : decode cX11_race 12 = .ok (.iconst (-1), 1) := by decide +kernel
theorem dX11_race_13 : decode cX11_race 13 = .ok (.ireturn, 1) := by decide +kernel
theorem dX11_race_14 : decode cX11_race 14 = .ok (.aload_n 0, 1) := by decide +kernel
theorem dX11_race_15 : decode cX11_race 15 = .ok (.getfield 406, 3) := by decide +kernel
theorem dX11_race_18 : decode cX11_race 18 = .ok (.aload_n 0, 1) := by decide +kernel
theorem dX11_race_19 : decode cX11_race 19 = .ok (.getfield 412, 3) := by decide +kernel
theorem dX11_race_22 : decode cX11_race 22 = .ok (.ixor, 1) := by decide +kernel
theorem dX11_race_23 : decode cX11_race 23 = .ok (.istore_n 1, 1) := by decide +kernel
theorem dX11_race_24 : decode cX11_race 24 = .ok (.iconst 0, 1) := by decide +kernel
theorem dX11_race_25 : decode cX11_race 25 = .ok (.istore_n 2, 1) := by decide +kernel
theorem dX11_race_26 : decode cX11_race 26 = .ok (.iload_n 2, 1) := by decide +kernel
theorem dX11_race_27 : decode cX11_race 27 = .ok (.aload_n 0, 1) := by decide +kernel
theorem dX11_race_28 : decode cX11_race 28 = .ok (.getfield 265, 3) := by decide +kernel
theorem dX11_race_31 : decode cX11_race 31 = .ok (.if_icmp .ge 78, 3) := by decide +kernel
theorem dX11_race_34 : decode cX11_race 34 = .ok (.iload_n 2, 1) := by decide +kernel
theorem dX11_race_35 : decode cX11_race 35 = .ok (.iconst 1, 1) := by decide +kernel
theorem dX11_race_36 : decode cX11_race 36 = .ok (.iadd, 1) := by decide +kernel
theorem dX11_race_37 : decode cX11_race 37 = .ok (.istore_n 3, 1) := by decide +kernel
theorem dX11_race_38 : decode cX11_race 38 = .ok (.iload_n 3, 1) := by decide +kernel
theorem dX11_race_39 : decode cX11_race 39 = .ok (.aload_n 0, 1) := by decide +kernel
theorem dX11_race_40 : decode cX11_race 40 = .ok (.getfield 265, 3) := by decide +kernel
theorem dX11_race_43 : decode cX11_race 43 = .ok (.if_icmp .ge 60, 3) := by decide +kernel
theorem dX11_race_46 : decode cX11_race 46 = .ok (.iload_n 1, 1) := by decide +kernel
theorem dX11_race_47 : decode cX11_race 47 = .ok (.iload_n 2, 1) := by decide +kernel
theorem dX11_race_48 : decode cX11_race 48 = .ok (.invokestatic 310, 3) := by decide +kernel
theorem dX11_race_51 : decode cX11_race 51 = .ok (.ifCond .eq 46, 3) := by decide +kernel
theorem dX11_race_54 : decode cX11_race 54 = .ok (.iload_n 1, 1) := by decide +kernel
theorem dX11_race_55 : decode cX11_race 55 = .ok (.iload_n 3, 1) := by decide +kernel
theorem dX11_race_56 : decode cX11_race 56 = .ok (.invokestatic 310, 3) := by decide +kernel
theorem dX11_race_59 : decode cX11_race 59 = .ok (.ifCond .ne 6, 3) := by decide +kernel
theorem dX11_race_62 : decode cX11_race 62 = .ok (.goto 35, 3) := by decide +kernel
theorem dX11_race_65 : decode cX11_race 65 = .ok (.aload_n 0, 1) := by decide +kernel
theorem dX11_race_66 : decode cX11_race 66 = .ok (.iload_n 2, 1) := by decide +kernel
theorem dX11_race_67 : decode cX11_race 67 = .ok (.iload_n 3, 1) := by decide +kernel
theorem dX11_race_68 : decode cX11_race 68 = .ok (.invokevirtual 418, 3) := by decide +kernel
theorem dX11_race_71 : decode cX11_race 71 = .ok (.ifCond .eq 10, 3) := by decide +kernel
theorem dX11_race_74 : decode cX11_race 74 = .ok (.bipush 32, 2) := by decide +kernel
theorem dX11_race_76 : decode cX11_race 76 = .ok (.iload_n 2, 1) := by decide +kernel
theorem dX11_race_77 : decode cX11_race 77 = .ok (.imul, 1) := by decide +kernel
theorem dX11_race_78 : decode cX11_race 78 = .ok (.iload_n 3, 1) := by decide +kernel
theorem dX11_race_79 : decode cX11_race 79 = .ok (.iadd, 1) := by decide +kernel
theorem dX11_race_80 : decode cX11_race 80 = .ok (.ireturn, 1) := by decide +kernel
theorem dX11_race_81 : decode cX11_race 81 = .ok (.aload_n 0, 1) := by decide +kernel
theorem dX11_race_82 : decode cX11_race 82 = .ok (.iload_n 3, 1) := by decide +kernel
theorem dX11_race_83 : decode cX11_race 83 = .ok (.iload_n 2, 1) := by decide +kernel
theorem dX11_race_84 : decode cX11_race 84 = .ok (.invokevirtual 418, 3) := by decide +kernel
theorem dX11_race_87 : decode cX11_race 87 = .ok (.ifCond .eq 10, 3) := by decide +kernel
theorem dX11_race_90 : decode cX11_race 90 = .ok (.bipush 32, 2) := by decide +kernel
theorem dX11_race_92 : decode cX11_race 92 = .ok (.iload_n 3, 1) := by decide +kernel
theorem dX11_race_93 : decode cX11_race 93 = .ok (.imul, 1) := by decide +kernel
theorem dX11_race_94 : decode cX11_race 94 = .ok (.iload_n 2, 1) := by decide +kernel
theorem dX11_race_95 : decode cX11_race 95 = .ok (.iadd, 1) := by decide +kernel
theorem dX11_race_96 : decode cX11_race 96 = .ok (.ireturn, 1) := by decide +kernel
theorem dX11_race_97 : decode cX11_race 97 = .ok (.iinc 3 1, 3) := by decide +kernel
theorem dX11_race_100 : decode cX11_race 100 = .ok (.goto (-62), 3) := by decide +kernel
theorem dX11_race_103 : decode cX11_race 103 = .ok (.iinc 2 1, 3) := by decide +kernel
theorem dX11_race_106 : decode cX11_race 106 = .ok (.goto (-80), 3) := by decide +kernel
theorem dX11_race_109 : decode cX11_race 109 = .ok (.iconst (-1), 1) := by decide +kernel
theorem dX11_race_110 : decode cX11_race 110 = .ok (.ireturn, 1) := by decide +kernel
theorem dX11_stick_0 : decode cX11_stick 0 = .ok (.aload_n 0, 1) := by decide +kernel
theorem dX11_stick_1 : decode cX11_stick 1 = .ok (.iconst 0, 1) := by decide +kernel
theorem dX11_stick_2 : decode cX11_stick 2 = .ok (.putfield 130, 3) := by decide +kernel
theorem dX11_stick_5 : decode cX11_stick 5 = .ok (.iload_n 1, 1) := by decide +kernel
theorem dX11_stick_6 : decode cX11_stick 6 = .ok (.ifCond .lt 20, 3) := by decide +kernel
theorem dX11_stick_9 : decode cX11_stick 9 = .ok (.iload_n 1, 1) := by decide +kernel
theorem dX11_stick_10 : decode cX11_stick 10 = .ok (.aload_n 0, 1) := by decide +kernel
theorem dX11_stick_11 : decode cX11_stick 11 = .ok (.getfield 265, 3) := by decide +kernel
theorem dX11_stick_14 : decode cX11_stick 14 = .ok (.if_icmp .ge 12, 3) := by decide +kernel
theorem dX11_stick_17 : decode cX11_stick 17 = .ok (.iload_n 2, 1) := by decide +kernel
theorem dX11_stick_18 : decode cX11_stick 18 = .ok (.iconst 0, 1) := by decide +kernel
theorem dX11_stick_19 : decode cX11_stick 19 = .ok (.iconst 2, 1) := by decide +kernel
theorem dX11_stick_20 : decode cX11_stick 20 = .ok (.invokestatic 317, 3) := by decide +kernel
theorem dX11_stick_23 : decode cX11_stick 23 = .ok (.ifCond .ne 5, 3) := by decide +kernel
theorem dX11_stick_26 : decode cX11_stick 26 = .ok (.iconst 0, 1) := by decide +kernel
theorem dX11_stick_27 : decode cX11_stick 27 = .ok (.ireturn, 1) := by decide +kernel
theorem dX11_stick_28 : decode cX11_stick 28 = .ok (.aload_n 0, 1) := by decide +kernel
theorem dX11_stick_29 : decode cX11_stick 29 = .ok (.iload_n 1, 1) := by decide +kernel
theorem dX11_stick_30 : decode cX11_stick 30 = .ok (.iload_n 2, 1) := by decide +kernel
theorem dX11_stick_31 : decode cX11_stick 31 = .ok (.invokevirtual 421, 3) := by decide +kernel
theorem dX11_stick_34 : decode cX11_stick 34 = .ok (.iconst 1, 1) := by decide +kernel
theorem dX11_stick_35 : decode cX11_stick 35 = .ok (.ireturn, 1) := by decide +kernel
theorem dX11_stuck_0 : decode cX11_stuck 0 = .ok (.aload_n 0, 1) := by decide +kernel
theorem dX11_stuck_1 : decode cX11_stuck 1 = .ok (.iconst 0, 1) := by decide +kernel
theorem dX11_stuck_2 : decode cX11_stuck 2 = .ok (.putfield 130, 3) := by decide +kernel
theorem dX11_stuck_5 : decode cX11_stuck 5 = .ok (.aload_n 0, 1) := by decide +kernel
theorem dX11_stuck_6 : decode cX11_stuck 6 = .ok (.getfield 274, 3) := by decide +kernel
theorem dX11_stuck_9 : decode cX11_stuck 9 = .ok (.ireturn, 1) := by decide +kernel
theorem dX11_same_0 : decode cX11_same 0 = .ok (.aload_n 0, 1) := by decide +kernel
theorem dX11_same_1 : decode cX11_same 1 = .ok (.iconst 0, 1) := by decide +kernel
theorem dX11_same_2 : decode cX11_same 2 = .ok (.putfield 130, 3) := by decide +kernel
theorem dX11_same_5 : decode cX11_same 5 = .ok (.iload_n 1, 1) := by decide +kernel
theorem dX11_same_6 : decode cX11_same 6 = .ok (.iconst 1, 1) := by decide +kernel
theorem dX11_same_7 : decode cX11_same 7 = .ok (.sipush 500, 3) := by decide +kernel
theorem dX11_same_10 : decode cX11_same 10 = .ok (.invokestatic 317, 3) := by decide +kernel
theorem dX11_same_13 : decode cX11_same 13 = .ok (.ifCond .ne 5, 3) := by decide +kernel
theorem dX11_same_16 : decode cX11_same 16 = .ok (.iconst (-1), 1) := by decide +kernel
theorem dX11_same_17 : decode cX11_same 17 = .ok (.ireturn, 1) := by decide +kernel
theorem dX11_same_18 : decode cX11_same 18 = .ok (.aload_n 0, 1) := by decide +kernel
theorem dX11_same_19 : decode cX11_same 19 = .ok (.iconst 4, 1) := by decide +kernel
theorem dX11_same_20 : decode cX11_same 20 = .ok (.invokevirtual 358, 3) := by decide +kernel
theorem dX11_same_23 : decode cX11_same 23 = .ok (.aload_n 0, 1) := by decide +kernel
theorem dX11_same_24 : decode cX11_same 24 = .ok (.aload_n 0, 1) := by decide +kernel
theorem dX11_same_25 : decode cX11_same 25 = .ok (.getfield 274, 3) := by decide +kernel
theorem dX11_same_28 : decode cX11_same 28 = .ok (.aload_n 0, 1) := by decide +kernel
theorem dX11_same_29 : decode cX11_same 29 = .ok (.getfield 277, 3) := by decide +kernel
theorem dX11_same_32 : decode cX11_same 32 = .ok (.iand, 1) := by decide +kernel
theorem dX11_same_33 : decode cX11_same 33 = .ok (.putfield 271, 3) := by decide +kernel
theorem dX11_same_36 : decode cX11_same 36 = .ok (.aload_n 0, 1) := by decide +kernel
theorem dX11_same_37 : decode cX11_same 37 = .ok (.iconst 5, 1) := by decide +kernel
theorem dX11_same_38 : decode cX11_same 38 = .ok (.invokevirtual 358, 3) := by decide +kernel
theorem dX11_same_41 : decode cX11_same 41 = .ok (.aload_n 0, 1) := by decide +kernel
theorem dX11_same_42 : decode cX11_same 42 = .ok (.bipush 6, 2) := by decide +kernel
theorem dX11_same_44 : decode cX11_same 44 = .ok (.invokevirtual 358, 3) := by decide +kernel
theorem dX11_same_47 : decode cX11_same 47 = .ok (.iconst 0, 1) := by decide +kernel
theorem dX11_same_48 : decode cX11_same 48 = .ok (.istore_n 2, 1) := by decide +kernel
theorem dX11_same_49 : decode cX11_same 49 = .ok (.iconst 1, 1) := by decide +kernel
theorem dX11_same_50 : decode cX11_same 50 = .ok (.istore_n 3, 1) := by decide +kernel
theorem dX11_same_51 : decode cX11_same 51 = .ok (.iload_n 3, 1) := by decide +kernel
theorem dX11_same_52 : decode cX11_same 52 = .ok (.iload_n 1, 1) := by decide +kernel
theorem dX11_same_53 : decode cX11_same 53 = .ok (.if_icmp .gt 171, 3) := by decide +kernel
theorem dX11_same_56 : decode cX11_same 56 = .ok (.iload_n 2, 1) := by decide +kernel
theorem dX11_same_57 : decode cX11_same 57 = .ok (.ifCond .ne 167, 3) := by decide +kernel
theorem dX11_same_60 : decode cX11_same 60 = .ok (.aload_n 0, 1) := by decide +kernel
theorem dX11_same_61 : decode cX11_same 61 = .ok (.iconst 5, 1) := by decide +kernel
theorem dX11_same_62 : decode cX11_same 62 = .ok (.invokevirtual 361, 3) := by decide +kernel
theorem dX11_same_65 : decode cX11_same 65 = .ok (.aload_n 0, 1) := by decide +kernel
theorem dX11_same_66 : decode cX11_same 66 = .ok (.invokevirtual 409, 3) := by decide +kernel
theorem dX11_same_69 : decode cX11_same 69 = .ok (.aload_n 0, 1) := by decide +kernel
theorem dX11_same_70 : decode cX11_same 70 = .ok (.iconst 5, 1) := by decide +kernel
theorem dX11_same_71 : decode cX11_same 71 = .ok (.invokevirtual 358, 3) := by decide +kernel
theorem dX11_same_74 : decode cX11_same 74 = .ok (.iconst 4, 1) := by decide +kernel
theorem dX11_same_75 : decode cX11_same 75 = .ok (.aload_n 0, 1) := by decide +kernel
theorem dX11_same_76 : decode cX11_same 76 = .ok (.getfield 295, 3) := by decide +kernel
theorem dX11_same_79 : decode cX11_same 79 = .ok (.imul, 1) := by decide +kernel
theorem dX11_same_80 : decode cX11_same 80 = .ok (.aload_n 0, 1) := by decide +kernel
theorem dX11_same_81 : decode cX11_same 81 = .ok (.getfield 298, 3) := by decide +kernel
theorem dX11_same_84 : decode cX11_same 84 = .ok (.iadd, 1) := by decide +kernel
theorem dX11_same_85 : decode cX11_same 85 = .ok (.istore 4, 2) := by decide +kernel
theorem dX11_same_87 : decode cX11_same 87 = .ok (.iconst 0, 1) := by decide +kernel
theorem dX11_same_88 : decode cX11_same 88 = .ok (.istore 5, 2) := by decide +kernel
theorem dX11_same_90 : decode cX11_same 90 = .ok (.iload 5, 2) := by decide +kernel
theorem dX11_same_92 : decode cX11_same 92 = .ok (.aload_n 0, 1) := by decide +kernel
theorem dX11_same_93 : decode cX11_same 93 = .ok (.invokevirtual 289, 3) := by decide +kernel
theorem dX11_same_96 : decode cX11_same 96 = .ok (.if_icmp .ge 23, 3) := by decide +kernel
theorem dX11_same_99 : decode cX11_same 99 = .ok (.aload_n 0, 1) := by decide +kernel
theorem dX11_same_100 : decode cX11_same 100 = .ok (.getfield 120, 3) := by decide +kernel
theorem dX11_same_103 : decode cX11_same 103 = .ok (.iload 5, 2) := by decide +kernel
theorem dX11_same_105 : decode cX11_same 105 = .ok (.aload_n 0, 1) := by decide +kernel
theorem dX11_same_106 : decode cX11_same 106 = .ok (.getfield 72, 3) := by decide +kernel
theorem dX11_same_109 : decode cX11_same 109 = .ok (.iload 5, 2) := by decide +kernel
theorem dX11_same_111 : decode cX11_same 111 = .ok (.iaload, 1) := by decide +kernel
theorem dX11_same_112 : decode cX11_same 112 = .ok (.iastore, 1) := by decide +kernel
theorem dX11_same_113 : decode cX11_same 113 = .ok (.iinc 5 1, 3) := by decide +kernel
theorem dX11_same_116 : decode cX11_same 116 = .ok (.goto (-26), 3) := by decide +kernel
theorem dX11_same_119 : decode cX11_same 119 = .ok (.aload_n 0, 1) := by decide +kernel
theorem dX11_same_120 : decode cX11_same 120 = .ok (.bipush 6, 2) := by decide +kernel
theorem dX11_same_122 : decode cX11_same 122 = .ok (.invokevirtual 361, 3) := by decide +kernel
theorem dX11_same_125 : decode cX11_same 125 = .ok (.aload_n 0, 1) := by decide +kernel
theorem dX11_same_126 : decode cX11_same 126 = .ok (.invokevirtual 349, 3) := by decide +kernel
theorem dX11_same_129 : decode cX11_same 129 = .ok (.istore 5, 2) := by decide +kernel
theorem dX11_same_131 : decode cX11_same 131 = .ok (.aload_n 0, 1) := by decide +kernel
theorem dX11_same_132 : decode cX11_same 132 = .ok (.bipush 6, 2) := by decide +kernel
theorem dX11_same_134 : decode cX11_same 134 = .ok (.invokevirtual 358, 3) := by decide +kernel
theorem dX11_same_137 : decode cX11_same 137 = .ok (.iconst 4, 1) := by decide +kernel
theorem dX11_same_138 : decode cX11_same 138 = .ok (.aload_n 0, 1) := by decide +kernel
theorem dX11_same_139 : decode cX11_same 139 = .ok (.getfield 295, 3) := by decide +kernel
theorem dX11_same_142 : decode cX11_same 142 = .ok (.imul, 1) := by decide +kernel
theorem dX11_same_143 : decode cX11_same 143 = .ok (.aload_n 0, 1) := by decide +kernel
theorem dX11_same_144 : decode cX11_same 144 = .ok (.getfield 298, 3) := by decide +kernel
theorem dX11_same_147 : decode cX11_same 147 = .ok (.iadd, 1) := by decide +kernel
theorem dX11_same_148 : decode cX11_same 148 = .ok (.iload 4, 2) := by decide +kernel
theorem dX11_same_150 : decode cX11_same 150 = .ok (.if_icmp .eq 7, 3) := by decide +kernel
theorem dX11_same_153 : decode cX11_same 153 = .ok (.iconst 1, 1) := by decide +kernel
theorem dX11_same_154 : decode cX11_same 154 = .ok (.goto 4, 3) := by decide +kernel
theorem dX11_same_157 : decode cX11_same 157 = .ok (.iconst 0, 1) := by decide +kernel
theorem dX11_same_158 : decode cX11_same 158 = .ok (.istore 6, 2) := by decide +kernel
theorem dX11_same_160 : decode cX11_same 160 = .ok (.iconst 0, 1) := by decide +kernel
theorem dX11_same_161 : decode cX11_same 161 = .ok (.istore 7, 2) := by decide +kernel
theorem dX11_same_163 : decode cX11_same 163 = .ok (.iload 7, 2) := by decide +kernel
theorem dX11_same_165 : decode cX11_same 165 = .ok (.aload_n 0, 1) := by decide +kernel
theorem dX11_same_166 : decode cX11_same 166 = .ok (.invokevirtual 289, 3) := by decide +kernel
theorem dX11_same_169 : decode cX11_same 169 = .ok (.if_icmp .ge 38, 3) := by decide +kernel
theorem dX11_same_172 : decode cX11_same 172 = .ok (.iload 6, 2) := by decide +kernel
theorem dX11_same_174 : decode cX11_same 174 = .ok (.ifCond .ne 20, 3) := by decide +kernel
theorem dX11_same_177 : decode cX11_same 177 = .ok (.aload_n 0, 1) := by decide +kernel
theorem dX11_same_178 : decode cX11_same 178 = .ok (.getfield 72, 3) := by decide +kernel
theorem dX11_same_181 : decode cX11_same 181 = .ok (.iload 7, 2) := by decide +kernel
theorem dX11_same_183 : decode cX11_same 183 = .ok (.iaload, 1) := by decide +kernel
theorem dX11_same_184 : decode cX11_same 184 = .ok (.aload_n 0, 1) := by decide +kernel
theorem dX11_same_185 : decode cX11_same 185 = .ok (.getfield 120, 3) := by decide +kernel
theorem dX11_same_188 : decode cX11_same 188 = .ok (.iload 7, 2) := by decide +kernel
theorem dX11_same_190 : decode cX11_same 190 = .ok (.iaload, 1) := by decide +kernel
theorem dX11_same_191 : decode cX11_same 191 = .ok (.if_icmp .eq 7, 3) := by decide +kernel
theorem dX11_same_194 : decode cX11_same 194 = .ok (.iconst 1, 1) := by decide +kernel
theorem dX11_same_195 : decode cX11_same 195 = .ok (.goto 4, 3) := by decide +kernel
theorem dX11_same_198 : decode cX11_same 198 = .ok (.iconst 0, 1) := by decide +kernel
theorem dX11_same_199 : decode cX11_same 199 = .ok (.istore 6, 2) := by decide +kernel
theorem dX11_same_201 : decode cX11_same 201 = .ok (.iinc 7 1, 3) := by decide +kernel
theorem dX11_same_204 : decode cX11_same 204 = .ok (.goto (-41), 3) := by decide +kernel
theorem dX11_same_207 : decode cX11_same 207 = .ok (.iload 6, 2) := by decide +kernel
theorem dX11_same_209 : decode cX11_same 209 = .ok (.ifCond .eq 7, 3) := by decide +kernel
theorem dX11_same_212 : decode cX11_same 212 = .ok (.iload_n 3, 1) := by decide +kernel
theorem dX11_same_213 : decode cX11_same 213 = .ok (.goto 4, 3) := by decide +kernel
theorem dX11_same_216 : decode cX11_same 216 = .ok (.iconst 0, 1) := by decide +kernel
theorem dX11_same_217 : decode cX11_same 217 = .ok (.istore_n 2, 1) := by decide +kernel
theorem dX11_same_218 : decode cX11_same 218 = .ok (.iinc 3 1, 3) := by decide +kernel
theorem dX11_same_221 : decode cX11_same 221 = .ok (.goto (-170), 3) := by decide +kernel
theorem dX11_same_224 : decode cX11_same 224 = .ok (.aload_n 0, 1) := by decide +kernel
theorem dX11_same_225 : decode cX11_same 225 = .ok (.iconst 4, 1) := by decide +kernel
theorem dX11_same_226 : decode cX11_same 226 = .ok (.invokevirtual 361, 3) := by decide +kernel
theorem dX11_same_229 : decode cX11_same 229 = .ok (.iload_n 2, 1) := by decide +kernel
theorem dX11_same_230 : decode cX11_same 230 = .ok (.ireturn, 1) := by decide +kernel
theorem dX11_layLike_0 : decode cX11_layLike 0 = .ok (.aload_n 0, 1) := by decide +kernel
theorem dX11_layLike_1 : decode cX11_layLike 1 = .ok (.iconst 4, 1) := by decide +kernel
theorem dX11_layLike_2 : decode cX11_layLike 2 = .ok (.invokevirtual 361, 3) := by decide +kernel
theorem dX11_layLike_5 : decode cX11_layLike 5 = .ok (.aload_n 0, 1) := by decide +kernel
theorem dX11_layLike_6 : decode cX11_layLike 6 = .ok (.aload_n 0, 1) := by decide +kernel
theorem dX11_layLike_7 : decode cX11_layLike 7 = .ok (.getfield 274, 3) := by decide +kernel
theorem dX11_layLike_10 : decode cX11_layLike 10 = .ok (.aload_n 0, 1) := by decide +kernel
theorem dX11_layLike_11 : decode cX11_layLike 11 = .ok (.getfield 277, 3) := by decide +kernel
theorem dX11_layLike_14 : decode cX11_layLike 14 = .ok (.iand, 1) := by decide +kernel
theorem dX11_layLike_15 : decode cX11_layLike 15 = .ok (.putfield 271, 3) := by decide +kernel
theorem dX11_layLike_18 : decode cX11_layLike 18 = .ok (.iconst 0, 1) := by decide +kernel
theorem dX11_layLike_19 : decode cX11_layLike 19 = .ok (.istore_n 2, 1) := by decide +kernel
theorem dX11_layLike_20 : decode cX11_layLike 20 = .ok (.iload_n 2, 1) := by decide +kernel
theorem dX11_layLike_21 : decode cX11_layLike 21 = .ok (.iload_n 1, 1) := by decide +kernel
theorem dX11_layLike_22 : decode cX11_layLike 22 = .ok (.if_icmp .ge 30, 3) := by decide +kernel
theorem dX11_layLike_25 : decode cX11_layLike 25 = .ok (.aload_n 0, 1) := by decide +kernel
theorem dX11_layLike_26 : decode cX11_layLike 26 = .ok (.invokevirtual 409, 3) := by decide +kernel
theorem dX11_layLike_29 : decode cX11_layLike 29 = .ok (.aload_n 0, 1) := by decide +kernel
theorem dX11_layLike_30 : decode cX11_layLike 30 = .ok (.getfield 123, 3) := by decide +kernel
theorem dX11_layLike_33 : decode cX11_layLike 33 = .ok (.iload_n 2, 1) := by decide +kernel
theorem dX11_layLike_34 : decode cX11_layLike 34 = .ok (.iconst 4, 1) := by decide +kernel
theorem dX11_layLike_35 : decode cX11_layLike 35 = .ok (.aload_n 0, 1) := by decide +kernel
theorem dX11_layLike_36 : decode cX11_layLike 36 = .ok (.getfield 295, 3) := by decide +kernel
theorem dX11_layLike_39 : decode cX11_layLike 39 = .ok (.imul, 1) := by decide +kernel
theorem dX11_layLike_40 : decode cX11_layLike 40 = .ok (.aload_n 0, 1) := by decide +kernel
theorem dX11_layLike_41 : decode cX11_layLike 41 = .ok (.getfield 298, 3) := by decide +kernel
theorem dX11_layLike_44 : decode cX11_layLike 44 = .ok (.iadd, 1) := by decide +kernel
theorem dX11_layLike_45 : decode cX11_layLike 45 = .ok (.iastore, 1) := by decide +kernel
theorem dX11_layLike_46 : decode cX11_layLike 46 = .ok (.iinc 2 1, 3) := by decide +kernel
theorem dX11_layLike_49 : decode cX11_layLike 49 = .ok (.goto (-29), 3) := by decide +kernel
theorem dX11_layLike_52 : decode cX11_layLike 52 = .ok (.return_, 1) := by decide +kernel
theorem dX11_isLike_0 : decode cX11_isLike 0 = .ok (.aload_n 0, 1) := by decide +kernel
theorem dX11_isLike_1 : decode cX11_isLike 1 = .ok (.iconst 4, 1) := by decide +kernel
theorem dX11_isLike_2 : decode cX11_isLike 2 = .ok (.invokevirtual 361, 3) := by decide +kernel
theorem dX11_isLike_5 : decode cX11_isLike 5 = .ok (.aload_n 0, 1) := by decide +kernel
theorem dX11_isLike_6 : decode cX11_isLike 6 = .ok (.aload_n 0, 1) := by decide +kernel
theorem dX11_isLike_7 : decode cX11_isLike 7 = .ok (.getfield 274, 3) := by decide +kernel
theorem dX11_isLike_10 : decode cX11_isLike 10 = .ok (.aload_n 0, 1) := by decide +kernel
theorem dX11_isLike_11 : decode cX11_isLike 11 = .ok (.getfield 277, 3) := by decide +kernel
theorem dX11_isLike_14 : decode cX11_isLike 14 = .ok (.iand, 1) := by decide +kernel
theorem dX11_isLike_15 : decode cX11_isLike 15 = .ok (.putfield 271, 3) := by decide +kernel
theorem dX11_isLike_18 : decode cX11_isLike 18 = .ok (.iconst 1, 1) := by decide +kernel
theorem dX11_isLike_19 : decode cX11_isLike 19 = .ok (.istore_n 2, 1) := by decide +kernel
theorem dX11_isLike_20 : decode cX11_isLike 20 = .ok (.iconst 0, 1) := by decide +kernel
theorem dX11_isLike_21 : decode cX11_isLike 21 = .ok (.istore_n 3, 1) := by decide +kernel
theorem dX11_isLike_22 : decode cX11_isLike 22 = .ok (.iload_n 3, 1) := by decide +kernel
theorem dX11_isLike_23 : decode cX11_isLike 23 = .ok (.iload_n 1, 1) := by decide +kernel
theorem dX11_isLike_24 : decode cX11_isLike 24 = .ok (.if_icmp .ge 43, 3) := by decide +kernel
theorem dX11_isLike_27 : decode cX11_isLike 27 = .ok (.iload_n 2, 1) := by decide +kernel
theorem dX11_isLike_28 : decode cX11_isLike 28 = .ok (.ifCond .eq 39, 3) := by decide +kernel
theorem dX11_isLike_31 : decode cX11_isLike 31 = .ok (.aload_n 0, 1) := by decide +kernel
theorem dX11_isLike_32 : decode cX11_isLike 32 = .ok (.invokevirtual 409, 3) := by decide +kernel
theorem dX11_isLike_35 : decode cX11_isLike 35 = .ok (.aload_n 0, 1) := by decide +kernel
theorem dX11_isLike_36 : decode cX11_isLike 36 = .ok (.getfield 123, 3) := by decide +kernel
theorem dX11_isLike_39 : decode cX11_isLike 39 = .ok (.iload_n 3, 1) := by decide +kernel
theorem dX11_isLike_40 : decode cX11_isLike 40 = .ok (.iaload, 1) := by decide +kernel
theorem dX11_isLike_41 : decode cX11_isLike 41 = .ok (.iconst 4, 1) := by decide +kernel
theorem dX11_isLike_42 : decode cX11_isLike 42 = .ok (.aload_n 0, 1) := by decide +kernel
theorem dX11_isLike_43 : decode cX11_isLike 43 = .ok (.getfield 295, 3) := by decide +kernel
