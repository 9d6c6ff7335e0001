theorem dX11_holds_159 : decode cX11_holds 159 = .ok (.iaload, 1) := by decide +kernel
theorem dX11_holds_160 : decode cX11_holds 160 = .ok (.invokestatic 310, 3) := by decide +kernel
theorem dX11_holds_163 : decode cX11_holds 163 = .ok (.istore_n 2, 1) := by decide +kernel
theorem dX11_holds_164 : decode cX11_holds 164 = .ok (.iload_n 2, 1) := by decide +kernel
theorem dX11_holds_165 : decode cX11_holds 165 = .ok (.aload_n 0, 1) := by decide +kernel
theorem dX11_holds_166 : decode cX11_holds 166 = .ok (.getfield 32, 3) := by decide +kernel
theorem dX11_holds_169 : decode cX11_holds 169 = .ok (.iload_n 1, 1) := by decide +kernel
theorem dX11_holds_170 : decode cX11_holds 170 = .ok (.baload, 1) := by decide +kernel
theorem dX11_holds_171 : decode cX11_holds 171 = .ok (.if_icmp .eq 7, 3) := by decide +kernel
theorem dX11_holds_174 : decode cX11_holds 174 = .ok (.iconst 1, 1) := by decide +kernel
theorem dX11_holds_175 : decode cX11_holds 175 = .ok (.goto 4, 3) := by decide +kernel
theorem dX11_holds_178 : decode cX11_holds 178 = .ok (.iconst 0, 1) := by decide +kernel
theorem dX11_holds_179 : decode cX11_holds 179 = .ok (.ireturn, 1) := by decide +kernel
theorem dX11_does_0 : decode cX11_does 0 = .ok (.aload_n 0, 1) := by decide +kernel
theorem dX11_does_1 : decode cX11_does 1 = .ok (.getfield 36, 3) := by decide +kernel
theorem dX11_does_4 : decode cX11_does 4 = .ok (.iload_n 1, 1) := by decide +kernel
theorem dX11_does_5 : decode cX11_does 5 = .ok (.iaload, 1) := by decide +kernel
theorem dX11_does_6 : decode cX11_does 6 = .ok (.tableswitch 262 6 18 #[215, 262, 262, 66, 81, 96, 111, 127, 143, 150, 190, 228, 254], 66) := by decide +kernel
theorem dX11_does_72 : decode cX11_does 72 = .ok (.aload_n 0, 1) := by decide +kernel
theorem dX11_does_73 : decode cX11_does 73 = .ok (.aload_n 0, 1) := by decide +kernel
theorem dX11_does_74 : decode cX11_does 74 = .ok (.getfield 298, 3) := by decide +kernel
theorem dX11_does_77 : decode cX11_does 77 = .ok (.iconst 1, 1) := by decide +kernel
theorem dX11_does_78 : decode cX11_does 78 = .ok (.iadd, 1) := by decide +kernel
theorem dX11_does_79 : decode cX11_does 79 = .ok (.iconst 4, 1) := by decide +kernel
theorem dX11_does_80 : decode cX11_does 80 = .ok (.irem, 1) := by decide +kernel
theorem dX11_does_81 : decode cX11_does 81 = .ok (.putfield 298, 3) := by decide +kernel
theorem dX11_does_84 : decode cX11_does 84 = .ok (.goto 188, 3) := by decide +kernel
theorem dX11_does_87 : decode cX11_does 87 = .ok (.aload_n 0, 1) := by decide +kernel
theorem dX11_does_88 : decode cX11_does 88 = .ok (.aload_n 0, 1) := by decide +kernel
theorem dX11_does_89 : decode cX11_does 89 = .ok (.getfield 298, 3) := by decide +kernel
theorem dX11_does_92 : decode cX11_does 92 = .ok (.iconst 3, 1) := by decide +kernel
theorem dX11_does_93 : decode cX11_does 93 = .ok (.iadd, 1) := by decide +kernel
theorem dX11_does_94 : decode cX11_does 94 = .ok (.iconst 4, 1) := by decide +kernel
theorem dX11_does_95 : decode cX11_does 95 = .ok (.irem, 1) := by decide +kernel
theorem dX11_does_96 : decode cX11_does 96 = .ok (.putfield 298, 3) := by decide +kernel
theorem dX11_does_99 : decode cX11_does 99 = .ok (.goto 173, 3) := by decide +kernel
theorem dX11_does_102 : decode cX11_does 102 = .ok (.aload_n 0, 1) := by decide +kernel
theorem dX11_does_103 : decode cX11_does 103 = .ok (.aload_n 0, 1) := by decide +kernel
theorem dX11_does_104 : decode cX11_does 104 = .ok (.getfield 298, 3) := by decide +kernel
theorem dX11_does_107 : decode cX11_does 107 = .ok (.iconst 2, 1) := by decide +kernel
theorem dX11_does_108 : decode cX11_does 108 = .ok (.iadd, 1) := by decide +kernel
theorem dX11_does_109 : decode cX11_does 109 = .ok (.iconst 4, 1) := by decide +kernel
theorem dX11_does_110 : decode cX11_does 110 = .ok (.irem, 1) := by decide +kernel
theorem dX11_does_111 : decode cX11_does 111 = .ok (.putfield 298, 3) := by decide +kernel
theorem dX11_does_114 : decode cX11_does 114 = .ok (.goto 158, 3) := by decide +kernel
theorem dX11_does_117 : decode cX11_does 117 = .ok (.aload_n 0, 1) := by decide +kernel
theorem dX11_does_118 : decode cX11_does 118 = .ok (.aload_n 0, 1) := by decide +kernel
theorem dX11_does_119 : decode cX11_does 119 = .ok (.getfield 72, 3) := by decide +kernel
theorem dX11_does_122 : decode cX11_does 122 = .ok (.aload_n 0, 1) := by decide +kernel
theorem dX11_does_123 : decode cX11_does 123 = .ok (.getfield 295, 3) := by decide +kernel
theorem dX11_does_126 : decode cX11_does 126 = .ok (.iaload, 1) := by decide +kernel
theorem dX11_does_127 : decode cX11_does 127 = .ok (.putfield 298, 3) := by decide +kernel
theorem dX11_does_130 : decode cX11_does 130 = .ok (.goto 142, 3) := by decide +kernel
theorem dX11_does_133 : decode cX11_does 133 = .ok (.aload_n 0, 1) := by decide +kernel
theorem dX11_does_134 : decode cX11_does 134 = .ok (.getfield 72, 3) := by decide +kernel
theorem dX11_does_137 : decode cX11_does 137 = .ok (.aload_n 0, 1) := by decide +kernel
theorem dX11_does_138 : decode cX11_does 138 = .ok (.getfield 295, 3) := by decide +kernel
theorem dX11_does_141 : decode cX11_does 141 = .ok (.aload_n 0, 1) := by decide +kernel
theorem dX11_does_142 : decode cX11_does 142 = .ok (.getfield 298, 3) := by decide +kernel
theorem dX11_does_145 : decode cX11_does 145 = .ok (.iastore, 1) := by decide +kernel
theorem dX11_does_146 : decode cX11_does 146 = .ok (.goto 126, 3) := by decide +kernel
theorem dX11_does_149 : decode cX11_does 149 = .ok (.aload_n 0, 1) := by decide +kernel
theorem dX11_does_150 : decode cX11_does 150 = .ok (.invokevirtual 340, 3) := by decide +kernel
theorem dX11_does_153 : decode cX11_does 153 = .ok (.goto 119, 3) := by decide +kernel
theorem dX11_does_156 : decode cX11_does 156 = .ok (.aload_n 0, 1) := by decide +kernel
theorem dX11_does_157 : decode cX11_does 157 = .ok (.getfield 75, 3) := by decide +kernel
theorem dX11_does_160 : decode cX11_does 160 = .ok (.aload_n 0, 1) := by decide +kernel
theorem dX11_does_161 : decode cX11_does 161 = .ok (.getfield 295, 3) := by decide +kernel
theorem dX11_does_164 : decode cX11_does 164 = .ok (.dup2, 1) := by decide +kernel
theorem dX11_does_165 : decode cX11_does 165 = .ok (.iaload, 1) := by decide +kernel
theorem dX11_does_166 : decode cX11_does 166 = .ok (.aload_n 0, 1) := by decide +kernel
theorem dX11_does_167 : decode cX11_does 167 = .ok (.getfield 39, 3) := by decide +kernel
theorem dX11_does_170 : decode cX11_does 170 = .ok (.iload_n 1, 1) := by decide +kernel
theorem dX11_does_171 : decode cX11_does 171 = .ok (.iaload, 1) := by decide +kernel
theorem dX11_does_172 : decode cX11_does 172 = .ok (.aload_n 0, 1) := by decide +kernel
theorem dX11_does_173 : decode cX11_does 173 = .ok (.getfield 81, 3) := by decide +kernel
theorem dX11_does_176 : decode cX11_does 176 = .ok (.if_icmp .ne 7, 3) := by decide +kernel
theorem dX11_does_179 : decode cX11_does 179 = .ok (.iconst 0, 1) := by decide +kernel
theorem dX11_does_180 : decode cX11_does 180 = .ok (.goto 11, 3) := by decide +kernel
theorem dX11_does_183 : decode cX11_does 183 = .ok (.iconst 1, 1) := by decide +kernel
theorem dX11_does_184 : decode cX11_does 184 = .ok (.aload_n 0, 1) := by decide +kernel
theorem dX11_does_185 : decode cX11_does 185 = .ok (.getfield 39, 3) := by decide +kernel
theorem dX11_does_188 : decode cX11_does 188 = .ok (.iload_n 1, 1) := by decide +kernel
theorem dX11_does_189 : decode cX11_does 189 = .ok (.iaload, 1) := by decide +kernel
theorem dX11_does_190 : decode cX11_does 190 = .ok (.ishl, 1) := by decide +kernel
theorem dX11_does_191 : decode cX11_does 191 = .ok (.ior, 1) := by decide +kernel
theorem dX11_does_192 : decode cX11_does 192 = .ok (.iastore, 1) := by decide +kernel
theorem dX11_does_193 : decode cX11_does 193 = .ok (.goto 79, 3) := by decide +kernel
theorem dX11_does_196 : decode cX11_does 196 = .ok (.aload_n 0, 1) := by decide +kernel
theorem dX11_does_197 : decode cX11_does 197 = .ok (.getfield 75, 3) := by decide +kernel
theorem dX11_does_200 : decode cX11_does 200 = .ok (.aload_n 0, 1) := by decide +kernel
theorem dX11_does_201 : decode cX11_does 201 = .ok (.getfield 295, 3) := by decide +kernel
theorem dX11_does_204 : decode cX11_does 204 = .ok (.dup2, 1) := by decide +kernel
theorem dX11_does_205 : decode cX11_does 205 = .ok (.iaload, 1) := by decide +kernel
theorem dX11_does_206 : decode cX11_does 206 = .ok (.iconst 1, 1) := by decide +kernel
theorem dX11_does_207 : decode cX11_does 207 = .ok (.aload_n 0, 1) := by decide +kernel
theorem dX11_does_208 : decode cX11_does 208 = .ok (.getfield 39, 3) := by decide +kernel
theorem dX11_does_211 : decode cX11_does 211 = .ok (.iload_n 1, 1) := by decide +kernel
theorem dX11_does_212 : decode cX11_does 212 = .ok (.iaload, 1) := by decide +kernel
theorem dX11_does_213 : decode cX11_does 213 = .ok (.ishl, 1) := by decide +kernel
theorem dX11_does_214 : decode cX11_does 214 = .ok (.iconst (-1), 1) := by decide +kernel
theorem dX11_does_215 : decode cX11_does 215 = .ok (.ixor, 1) := by decide +kernel
theorem dX11_does_216 : decode cX11_does 216 = .ok (.iand, 1) := by decide +kernel
theorem dX11_does_217 : decode cX11_does 217 = .ok (.iastore, 1) := by decide +kernel
theorem dX11_does_218 : decode cX11_does 218 = .ok (.goto 54, 3) := by decide +kernel
theorem dX11_does_221 : decode cX11_does 221 = .ok (.aload_n 0, 1) := by decide +kernel
theorem dX11_does_222 : decode cX11_does 222 = .ok (.aload_n 0, 1) := by decide +kernel
theorem dX11_does_223 : decode cX11_does 223 = .ok (.getfield 39, 3) := by decide +kernel
theorem dX11_does_226 : decode cX11_does 226 = .ok (.iload_n 1, 1) := by decide +kernel
theorem dX11_does_227 : decode cX11_does 227 = .ok (.iaload, 1) := by decide +kernel
theorem dX11_does_228 : decode cX11_does 228 = .ok (.putfield 301, 3) := by decide +kernel
theorem dX11_does_231 : decode cX11_does 231 = .ok (.goto 41, 3) := by decide +kernel
theorem dX11_does_234 : decode cX11_does 234 = .ok (.aload_n 0, 1) := by decide +kernel
theorem dX11_does_235 : decode cX11_does 235 = .ok (.dup, 1) := by decide +kernel
theorem dX11_does_236 : decode cX11_does 236 = .ok (.getfield 304, 3) := by decide +kernel
theorem dX11_does_239 : decode cX11_does 239 = .ok (.aload_n 0, 1) := by decide +kernel
theorem dX11_does_240 : decode cX11_does 240 = .ok (.getfield 304, 3) := by decide +kernel
theorem dX11_does_243 : decode cX11_does 243 = .ok (.bipush 99, 2) := by decide +kernel
theorem dX11_does_245 : decode cX11_does 245 = .ok (.if_icmp .ge 7, 3) := by decide +kernel
theorem dX11_does_248 : decode cX11_does 248 = .ok (.iconst 1, 1) := by decide +kernel
theorem dX11_does_249 : decode cX11_does 249 = .ok (.goto 4, 3) := by decide +kernel
theorem dX11_does_252 : decode cX11_does 252 = .ok (.iconst 0, 1) := by decide +kernel
theorem dX11_does_253 : decode cX11_does 253 = .ok (.iadd, 1) := by decide +kernel
theorem dX11_does_254 : decode cX11_does 254 = .ok (.putfield 304, 3) := by decide +kernel
theorem dX11_does_257 : decode cX11_does 257 = .ok (.goto 15, 3) := by decide +kernel
theorem dX11_does_260 : decode cX11_does 260 = .ok (.aload_n 0, 1) := by decide +kernel
theorem dX11_does_261 : decode cX11_does 261 = .ok (.iconst 0, 1) := by decide +kernel
theorem dX11_does_262 : decode cX11_does 262 = .ok (.putfield 304, 3) := by decide +kernel
theorem dX11_does_265 : decode cX11_does 265 = .ok (.goto 7, 3) := by decide +kernel
theorem dX11_does_268 : decode cX11_does 268 = .ok (.aload_n 0, 1) := by decide +kernel
theorem dX11_does_269 : decode cX11_does 269 = .ok (.invokevirtual 334, 3) := by decide +kernel
theorem dX11_does_272 : decode cX11_does 272 = .ok (.return_, 1) := by decide +kernel
theorem dX11_ticks_0 : decode cX11_ticks 0 = .ok (.iconst 0, 1) := by decide +kernel
theorem dX11_ticks_1 : decode cX11_ticks 1 = .ok (.istore_n 1, 1) := by decide +kernel
theorem dX11_ticks_2 : decode cX11_ticks 2 = .ok (.iload_n 1, 1) := by decide +kernel
theorem dX11_ticks_3 : decode cX11_ticks 3 = .ok (.aload_n 0, 1) := by decide +kernel
theorem dX11_ticks_4 : decode cX11_ticks 4 = .ok (.getfield 203, 3) := by decide +kernel
theorem dX11_ticks_7 : decode cX11_ticks 7 = .ok (.if_icmp .ge 87, 3) := by decide +kernel
theorem dX11_ticks_10 : decode cX11_ticks 10 = .ok (.iconst 1, 1) := by decide +kernel
theorem dX11_ticks_11 : decode cX11_ticks 11 = .ok (.istore_n 2, 1) := by decide +kernel
theorem dX11_ticks_12 : decode cX11_ticks 12 = .ok (.bipush 12, 2) := by decide +kernel
theorem dX11_ticks_14 : decode cX11_ticks 14 = .ok (.iload_n 1, 1) := by decide +kernel
theorem dX11_ticks_15 : decode cX11_ticks 15 = .ok (.imul, 1) := by decide +kernel
theorem dX11_ticks_16 : decode cX11_ticks 16 = .ok (.istore_n 3, 1) := by decide +kernel
theorem dX11_ticks_17 : decode cX11_ticks 17 = .ok (.iload_n 3, 1) := by decide +kernel
theorem dX11_ticks_18 : decode cX11_ticks 18 = .ok (.bipush 12, 2) := by decide +kernel
theorem dX11_ticks_20 : decode cX11_ticks 20 = .ok (.iload_n 1, 1) := by decide +kernel
theorem dX11_ticks_21 : decode cX11_ticks 21 = .ok (.imul, 1) := by decide +kernel
theorem dX11_ticks_22 : decode cX11_ticks 22 = .ok (.aload_n 0, 1) := by decide +kernel
theorem dX11_ticks_23 : decode cX11_ticks 23 = .ok (.getfield 20, 3) := by decide +kernel
theorem dX11_ticks_26 : decode cX11_ticks 26 = .ok (.iload_n 1, 1) := by decide +kernel
theorem dX11_ticks_27 : decode cX11_ticks 27 = .ok (.iaload, 1) := by decide +kernel
theorem dX11_ticks_28 : decode cX11_ticks 28 = .ok (.iadd, 1) := by decide +kernel
theorem dX11_ticks_29 : decode cX11_ticks 29 = .ok (.if_icmp .ge 19, 3) := by decide +kernel
theorem dX11_ticks_32 : decode cX11_ticks 32 = .ok (.iload_n 2, 1) := by decide +kernel
theorem dX11_ticks_33 : decode cX11_ticks 33 = .ok (.ifCond .eq 15, 3) := by decide +kernel
theorem dX11_ticks_36 : decode cX11_ticks 36 = .ok (.aload_n 0, 1) := by decide +kernel
theorem dX11_ticks_37 : decode cX11_ticks 37 = .ok (.iload_n 3, 1) := by decide +kernel
theorem dX11_ticks_38 : decode cX11_ticks 38 = .ok (.invokevirtual 343, 3) := by decide +kernel
theorem dX11_ticks_41 : decode cX11_ticks 41 = .ok (.istore_n 2, 1) := by decide +kernel
theorem dX11_ticks_42 : decode cX11_ticks 42 = .ok (.iinc 3 1, 3) := by decide +kernel
theorem dX11_ticks_45 : decode cX11_ticks 45 = .ok (.goto (-28), 3) := by decide +kernel
theorem dX11_ticks_48 : decode cX11_ticks 48 = .ok (.iload_n 2, 1) := by decide +kernel
theorem dX11_ticks_49 : decode cX11_ticks 49 = .ok (.ifCond .ne 6, 3) := by decide +kernel
theorem dX11_ticks_52 : decode cX11_ticks 52 = .ok (.goto 36, 3) := by decide +kernel
theorem dX11_ticks_55 : decode cX11_ticks 55 = .ok (.bipush 12, 2) := by decide +kernel
theorem dX11_ticks_57 : decode cX11_ticks 57 = .ok (.iload_n 1, 1) := by decide +kernel
theorem dX11_ticks_58 : decode cX11_ticks 58 = .ok (.imul, 1) := by decide +kernel
theorem dX11_ticks_59 : decode cX11_ticks 59 = .ok (.istore_n 3, 1) := by decide +kernel
theorem dX11_ticks_60 : decode cX11_ticks 60 = .ok (.iload_n 3, 1) := by decide +kernel
theorem dX11_ticks_61 : decode cX11_ticks 61 = .ok (.bipush 12, 2) := by decide +kernel
theorem dX11_ticks_63 : decode cX11_ticks 63 = .ok (.iload_n 1, 1) := by decide +kernel
theorem dX11_ticks_64 : decode cX11_ticks 64 = .ok (.imul, 1) := by decide +kernel
theorem dX11_ticks_65 : decode cX11_ticks 65 = .ok (.aload_n 0, 1) := by decide +kernel
theorem dX11_ticks_66 : decode cX11_ticks 66 = .ok (.getfield 23, 3) := by decide +kernel
theorem dX11_ticks_69 : decode cX11_ticks 69 = .ok (.iload_n 1, 1) := by decide +kernel
theorem dX11_ticks_70 : decode cX11_ticks 70 = .ok (.iaload, 1) := by decide +kernel
theorem dX11_ticks_71 : decode cX11_ticks 71 = .ok (.iadd, 1) := by decide +kernel
theorem dX11_ticks_72 : decode cX11_ticks 72 = .ok (.if_icmp .ge 14, 3) := by decide +kernel
theorem dX11_ticks_75 : decode cX11_ticks 75 = .ok (.aload_n 0, 1) := by decide +kernel
theorem dX11_ticks_76 : decode cX11_ticks 76 = .ok (.iload_n 3, 1) := by decide +kernel
theorem dX11_ticks_77 : decode cX11_ticks 77 = .ok (.invokevirtual 346, 3) := by decide +kernel
theorem dX11_ticks_80 : decode cX11_ticks 80 = .ok (.iinc 3 1, 3) := by decide +kernel
theorem dX11_ticks_83 : decode cX11_ticks 83 = .ok (.goto (-23), 3) := by decide +kernel
theorem dX11_ticks_86 : decode cX11_ticks 86 = .ok (.iload_n 1, 1) := by decide +kernel
theorem dX11_ticks_87 : decode cX11_ticks 87 = .ok (.ireturn, 1) := by decide +kernel
theorem dX11_ticks_88 : decode cX11_ticks 88 = .ok (.iinc 1 1, 3) := by decide +kernel
theorem dX11_ticks_91 : decode cX11_ticks 91 = .ok (.goto (-89), 3) := by decide +kernel
theorem dX11_ticks_94 : decode cX11_ticks 94 = .ok (.iconst (-1), 1) := by decide +kernel
theorem dX11_ticks_95 : decode cX11_ticks 95 = .ok (.ireturn, 1) := by decide +kernel
theorem dX11_tick_0 : decode cX11_tick 0 = .ok (.aload_n 0, 1) := by decide +kernel
theorem dX11_tick_1 : decode cX11_tick 1 = .ok (.iconst 0, 1) := by decide +kernel
theorem dX11_tick_2 : decode cX11_tick 2 = .ok (.putfield 130, 3) := by decide +kernel
theorem dX11_tick_5 : decode cX11_tick 5 = .ok (.iload_n 1, 1) := by decide +kernel
theorem dX11_tick_6 : decode cX11_tick 6 = .ok (.iconst 0, 1) := by decide +kernel
theorem dX11_tick_7 : decode cX11_tick 7 = .ok (.sipush 5000, 3) := by decide +kernel
theorem dX11_tick_10 : decode cX11_tick 10 = .ok (.invokestatic 317, 3) := by decide +kernel
theorem dX11_tick_13 : decode cX11_tick 13 = .ok (.ifCond .ne 5, 3) := by decide +kernel
theorem dX11_tick_16 : decode cX11_tick 16 = .ok (.iconst (-1), 1) := by decide +kernel
theorem dX11_tick_17 : decode cX11_tick 17 = .ok (.ireturn, 1) := by decide +kernel
theorem dX11_tick_18 : decode cX11_tick 18 = .ok (.iconst 0, 1) := by decide +kernel
theorem dX11_tick_19 : decode cX11_tick 19 = .ok (.istore_n 2, 1) := by decide +kernel
theorem dX11_tick_20 : decode cX11_tick 20 = .ok (.iconst 0, 1) := by decide +kernel
theorem dX11_tick_21 : decode cX11_tick 21 = .ok (.istore_n 3, 1) := by decide +kernel
theorem dX11_tick_22 : decode cX11_tick 22 = .ok (.iload_n 3, 1) := by decide +kernel
theorem dX11_tick_23 : decode cX11_tick 23 = .ok (.iload_n 1, 1) := by decide +kernel
theorem dX11_tick_24 : decode cX11_tick 24 = .ok (.if_icmp .ge 32, 3) := by decide +kernel
theorem dX11_tick_27 : decode cX11_tick 27 = .ok (.aload_n 0, 1) := by decide +kernel
theorem dX11_tick_28 : decode cX11_tick 28 = .ok (.aload_n 0, 1) := by decide +kernel
theorem dX11_tick_29 : decode cX11_tick 29 = .ok (.invokevirtual 349, 3) := by decide +kernel
theorem dX11_tick_32 : decode cX11_tick 32 = .ok (.putfield 78, 3) := by decide +kernel
theorem dX11_tick_35 : decode cX11_tick 35 = .ok (.iload_n 2, 1) := by decide +kernel
theorem dX11_tick_36 : decode cX11_tick 36 = .ok (.aload_n 0, 1) := by decide +kernel
theorem dX11_tick_37 : decode cX11_tick 37 = .ok (.getfield 78, 3) := by decide +kernel
theorem dX11_tick_40 : decode cX11_tick 40 = .ok (.ifCond .lt 7, 3) := by decide +kernel
theorem dX11_tick_43 : decode cX11_tick 43 = .ok (.iconst 1, 1) := by decide +kernel
theorem dX11_tick_44 : decode cX11_tick 44 = .ok (.goto 4, 3) := by decide +kernel
theorem dX11_tick_47 : decode cX11_tick 47 = .ok (.iconst 0, 1) := by decide +kernel
theorem dX11_tick_48 : decode cX11_tick 48 = .ok (.iadd, 1) := by decide +kernel
theorem dX11_tick_49 : decode cX11_tick 49 = .ok (.istore_n 2, 1) := by decide +kernel
theorem dX11_tick_50 : decode cX11_tick 50 = .ok (.iinc 3 1, 3) := by decide +kernel
theorem dX11_tick_53 : decode cX11_tick 53 = .ok (.goto (-31), 3) := by decide +kernel
theorem dX11_tick_56 : decode cX11_tick 56 = .ok (.iload_n 2, 1) := by decide +kernel
theorem dX11_tick_57 : decode cX11_tick 57 = .ok (.ireturn, 1) := by decide +kernel
theorem dX11_run_0 : decode cX11_run 0 = .ok (.aload_n 0, 1) := by decide +kernel
theorem dX11_run_1 : decode cX11_run 1 = .ok (.iconst 0, 1) := by decide +kernel
theorem dX11_run_2 : decode cX11_run 2 = .ok (.putfield 130, 3) := by decide +kernel
theorem dX11_run_5 : decode cX11_run 5 = .ok (.iload_n 1, 1) := by decide +kernel
theorem dX11_run_6 : decode cX11_run 6 = .ok (.iconst 0, 1) := by decide +kernel
theorem dX11_run_7 : decode cX11_run 7 = .ok (.sipush 5000, 3) := by decide +kernel
theorem dX11_run_10 : decode cX11_run 10 = .ok (.invokestatic 317, 3) := by decide +kernel
theorem dX11_run_13 : decode cX11_run 13 = .ok (.ifCond .ne 5, 3) := by decide +kernel
theorem dX11_run_16 : decode cX11_run 16 = .ok (.iconst (-1), 1) := by decide +kernel
theorem dX11_run_17 : decode cX11_run 17 = .ok (.ireturn, 1) := by decide +kernel
theorem dX11_run_18 : decode cX11_run 18 = .ok (.iconst 0, 1) := by decide +kernel
theorem dX11_run_19 : decode cX11_run 19 = .ok (.istore_n 2, 1) := by decide +kernel
theorem dX11_run_20 : decode cX11_run 20 = .ok (.aload_n 0, 1) := by decide +kernel
theorem dX11_run_21 : decode cX11_run 21 = .ok (.getfield 295, 3) := by decide +kernel
theorem dX11_run_24 : decode cX11_run 24 = .ok (.aload_n 0, 1) := by decide +kernel
theorem dX11_run_25 : decode cX11_run 25 = .ok (.getfield 292, 3) := by decide +kernel
theorem dX11_run_28 : decode cX11_run 28 = .ok (.if_icmp .eq 25, 3) := by decide +kernel
theorem dX11_run_31 : decode cX11_run 31 = .ok (.iload_n 2, 1) := by decide +kernel
theorem dX11_run_32 : decode cX11_run 32 = .ok (.iload_n 1, 1) := by decide +kernel
theorem dX11_run_33 : decode cX11_run 33 = .ok (.if_icmp .ne 6, 3) := by decide +kernel
theorem dX11_run_36 : decode cX11_run 36 = .ok (.bipush (-2), 2) := by decide +kernel
theorem dX11_run_38 : decode cX11_run 38 = .ok (.ireturn, 1) := by decide +kernel
theorem dX11_run_39 : decode cX11_run 39 = .ok (.aload_n 0, 1) := by decide +kernel
theorem dX11_run_40 : decode cX11_run 40 = .ok (.aload_n 0, 1) := by decide +kernel
theorem dX11_run_41 : decode cX11_run 41 = .ok (.invokevirtual 349, 3) := by decide +kernel
theorem dX11_run_44 : decode cX11_run 44 = .ok (.putfield 78, 3) := by decide +kernel
theorem dX11_run_47 : decode cX11_run 47 = .ok (.iinc 2 1, 3) := by decide +kernel
theorem dX11_run_50 : decode cX11_run 50 = .ok (.goto (-30), 3) := by decide +kernel
theorem dX11_run_53 : decode cX11_run 53 = .ok (.iload_n 2, 1) := by decide +kernel
theorem dX11_run_54 : decode cX11_run 54 = .ok (.ireturn, 1) := by decide +kernel
theorem dX11_comesIn_0 : decode cX11_comesIn 0 = .ok (.iconst 0, 1) := by decide +kernel
theorem dX11_comesIn_1 : decode cX11_comesIn 1 = .ok (.istore_n 2, 1) := by decide +kernel
theorem dX11_comesIn_2 : decode cX11_comesIn 2 = .ok (.aload_n 0, 1) := by decide +kernel
theorem dX11_comesIn_3 : decode cX11_comesIn 3 = .ok (.getfield 295, 3) := by decide +kernel
theorem dX11_comesIn_6 : decode cX11_comesIn 6 = .ok (.aload_n 0, 1) := by decide +kernel
theorem dX11_comesIn_7 : decode cX11_comesIn 7 = .ok (.getfield 292, 3) := by decide +kernel
theorem dX11_comesIn_10 : decode cX11_comesIn 10 = .ok (.if_icmp .eq 22, 3) := by decide +kernel
theorem dX11_comesIn_13 : decode cX11_comesIn 13 = .ok (.iload_n 2, 1) := by decide +kernel
theorem dX11_comesIn_14 : decode cX11_comesIn 14 = .ok (.iload_n 1, 1) := by decide +kernel
theorem dX11_comesIn_15 : decode cX11_comesIn 15 = .ok (.if_icmp .ne 6, 3) := by decide +kernel
theorem dX11_comesIn_18 : decode cX11_comesIn 18 = .ok (.bipush (-2), 2) := by decide +kernel
theorem dX11_comesIn_20 : decode cX11_comesIn 20 = .ok (.ireturn, 1) := by decide +kernel
theorem dX11_comesIn_21 : decode cX11_comesIn 21 = .ok (.aload_n 0, 1) := by decide +kernel
theorem dX11_comesIn_22 : decode cX11_comesIn 22 = .ok (.invokevirtual 349, 3) := by decide +kernel
theorem dX11_comesIn_25 : decode cX11_comesIn 25 = .ok (.istore_n 3, 1) := by decide +kernel
theorem dX11_comesIn_26 : decode cX11_comesIn 26 = .ok (.iinc 2 1, 3) := by decide +kernel
theorem dX11_comesIn_29 : decode cX11_comesIn 29 = .ok (.goto (-27), 3) := by decide +kernel
theorem dX11_comesIn_32 : decode cX11_comesIn 32 = .ok (.iload_n 2, 1) := by decide +kernel
theorem dX11_comesIn_33 : decode cX11_comesIn 33 = .ok (.ireturn, 1) := by decide +kernel
theorem dX11_mouse_0 : decode cX11_mouse 0 = .ok (.aload_n 0, 1) := by decide +kernel
theorem dX11_mouse_1 : decode cX11_mouse 1 = .ok (.iconst 0, 1) := by decide +kernel
theorem dX11_mouse_2 : decode cX11_mouse 2 = .ok (.putfield 130, 3) := by decide +kernel
theorem dX11_mouse_5 : decode cX11_mouse 5 = .ok (.iload_n 1, 1) := by decide +kernel
theorem dX11_mouse_6 : decode cX11_mouse 6 = .ok (.tableswitch 59 0 4 #[34, 39, 44, 49, 54], 34) := by decide +kernel
theorem dX11_mouse_40 : decode cX11_mouse 40 = .ok (.aload_n 0, 1) := by decide +kernel
theorem dX11_mouse_41 : decode cX11_mouse 41 = .ok (.getfield 295, 3) := by decide +kernel
theorem dX11_mouse_44 : decode cX11_mouse 44 = .ok (.ireturn, 1) := by decide +kernel
theorem dX11_mouse_45 : decode cX11_mouse 45 = .ok (.aload_n 0, 1) := by decide +kernel
theorem dX11_mouse_46 : decode cX11_mouse 46 = .ok (.getfield 298, 3) := by decide +kernel
theorem dX11_mouse_49 : decode cX11_mouse 49 = .ok (.ireturn, 1) := by decide +kernel
theorem dX11_mouse_50 : decode cX11_mouse 50 = .ok (.aload_n 0, 1) := by decide +kernel
theorem dX11_mouse_51 : decode cX11_mouse 51 = .ok (.getfield 301, 3) := by decide +kernel
theorem dX11_mouse_54 : decode cX11_mouse 54 = .ok (.ireturn, 1) := by decide +kernel
theorem dX11_mouse_55 : decode cX11_mouse 55 = .ok (.aload_n 0, 1) := by decide +kernel
theorem dX11_mouse_56 : decode cX11_mouse 56 = .ok (.getfield 304, 3) := by decide +kernel
theorem dX11_mouse_59 : decode cX11_mouse 59 = .ok (.ireturn, 1) := by decide +kernel
theorem dX11_mouse_60 : decode cX11_mouse 60 = .ok (.aload_n 0, 1) := by decide +kernel
theorem dX11_mouse_61 : decode cX11_mouse 61 = .ok (.getfield 78, 3) := by decide +kernel
theorem dX11_mouse_64 : decode cX11_mouse 64 = .ok (.ireturn, 1) := by decide +kernel
theorem dX11_mouse_65 : decode cX11_mouse 65 = .ok (.iconst (-1), 1) := by decide +kernel
theorem dX11_mouse_66 : decode cX11_mouse 66 = .ok (.ireturn, 1) := by decide +kernel
theorem dX11_fails_0 : decode cX11_fails 0 = .ok (.aload_n 0, 1) := by decide +kernel
theorem dX11_fails_1 : decode cX11_fails 1 = .ok (.iload_n 1, 1) := by decide +kernel
theorem dX11_fails_2 : decode cX11_fails 2 = .ok (.putfield 130, 3) := by decide +kernel
theorem dX11_fails_5 : decode cX11_fails 5 = .ok (.iconst 0, 1) := by decide +kernel
theorem dX11_fails_6 : decode cX11_fails 6 = .ok (.ireturn, 1) := by decide +kernel
theorem dX11_layFar_0 : decode cX11_layFar 0 = .ok (.iconst 0, 1) := by decide +kernel
theorem dX11_layFar_1 : decode cX11_layFar 1 = .ok (.istore_n 1, 1) := by decide +kernel
theorem dX11_layFar_2 : decode cX11_layFar 2 = .ok (.iload_n 1, 1) := by decide +kernel
theorem dX11_layFar_3 : decode cX11_layFar 3 = .ok (.bipush 36, 2) := by decide +kernel
theorem dX11_layFar_5 : decode cX11_layFar 5 = .ok (.if_icmp .ge 16, 3) := by decide +kernel
theorem dX11_layFar_8 : decode cX11_layFar 8 = .ok (.aload_n 0, 1) := by decide +kernel
theorem dX11_layFar_9 : decode cX11_layFar 9 = .ok (.getfield 84, 3) := by decide +kernel
theorem dX11_layFar_12 : decode cX11_layFar 12 = .ok (.iload_n 1, 1) := by decide +kernel
theorem dX11_layFar_13 : decode cX11_layFar 13 = .ok (.iconst (-1), 1) := by decide +kernel
theorem dX11_layFar_14 : decode cX11_layFar 14 = .ok (.iastore, 1) := by decide +kernel
theorem dX11_layFar_15 : decode cX11_layFar 15 = .ok (.iinc 1 1, 3) := by decide +kernel
theorem dX11_layFar_18 : decode cX11_layFar 18 = .ok (.goto (-16), 3) := by decide +kernel
theorem dX11_layFar_21 : decode cX11_layFar 21 = .ok (.aload_n 0, 1) := by decide +kernel
theorem dX11_layFar_22 : decode cX11_layFar 22 = .ok (.getfield 84, 3) := by decide +kernel
theorem dX11_layFar_25 : decode cX11_layFar 25 = .ok (.aload_n 0, 1) := by decide +kernel
theorem dX11_layFar_26 : decode cX11_layFar 26 = .ok (.getfield 292, 3) := by decide +kernel
theorem dX11_layFar_29 : decode cX11_layFar 29 = .ok (.iconst 0, 1) := by decide +kernel
theorem dX11_layFar_30 : decode cX11_layFar 30 = .ok (.iastore, 1) := by decide +kernel
theorem dX11_layFar_31 : decode cX11_layFar 31 = .ok (.aload_n 0, 1) := by decide +kernel
theorem dX11_layFar_32 : decode cX11_layFar 32 = .ok (.getfield 87, 3) := by decide +kernel
theorem dX11_layFar_35 : decode cX11_layFar 35 = .ok (.iconst 0, 1) := by decide +kernel
theorem dX11_layFar_36 : decode cX11_layFar 36 = .ok (.aload_n 0, 1) := by decide +kernel
theorem dX11_layFar_37 : decode cX11_layFar 37 = .ok (.getfield 292, 3) := by decide +kernel
theorem dX11_layFar_40 : decode cX11_layFar 40 = .ok (.iastore, 1) := by decide +kernel
theorem dX11_layFar_41 : decode cX11_layFar 41 = .ok (.iconst 1, 1) := by decide +kernel
theorem dX11_layFar_42 : decode cX11_layFar 42 = .ok (.istore_n 1, 1) := by decide +kernel
theorem dX11_layFar_43 : decode cX11_layFar 43 = .ok (.iconst 0, 1) := by decide +kernel
theorem dX11_layFar_44 : decode cX11_layFar 44 = .ok (.istore_n 2, 1) := by decide +kernel
theorem dX11_layFar_45 : decode cX11_layFar 45 = .ok (.iload_n 2, 1) := by decide +kernel
theorem dX11_layFar_46 : decode cX11_layFar 46 = .ok (.iload_n 1, 1) := by decide +kernel
theorem dX11_layFar_47 : decode cX11_layFar 47 = .ok (.if_icmp .ge 97, 3) := by decide +kernel
theorem dX11_layFar_50 : decode cX11_layFar 50 = .ok (.iconst 0, 1) := by decide +kernel
theorem dX11_layFar_51 : decode cX11_layFar 51 = .ok (.istore_n 3, 1) := by decide +kernel
theorem dX11_layFar_52 : decode cX11_layFar 52 = .ok (.iload_n 3, 1) := by decide +kernel
theorem dX11_layFar_53 : decode cX11_layFar 53 = .ok (.iconst 4, 1) := by decide +kernel
theorem dX11_layFar_54 : decode cX11_layFar 54 = .ok (.if_icmp .ge 84, 3) := by decide +kernel
theorem dX11_layFar_57 : decode cX11_layFar 57 = .ok (.aload_n 0, 1) := by decide +kernel
theorem dX11_layFar_58 : decode cX11_layFar 58 = .ok (.aload_n 0, 1) := by decide +kernel
theorem dX11_layFar_59 : decode cX11_layFar 59 = .ok (.getfield 87, 3) := by decide +kernel
theorem dX11_layFar_62 : decode cX11_layFar 62 = .ok (.iload_n 2, 1) := by decide +kernel
theorem dX11_layFar_63 : decode cX11_layFar 63 = .ok (.iaload, 1) := by decide +kernel
theorem dX11_layFar_64 : decode cX11_layFar 64 = .ok (.iload_n 3, 1) := by decide +kernel
theorem dX11_layFar_65 : decode cX11_layFar 65 = .ok (.invokevirtual 327, 3) := by decide +kernel
theorem dX11_layFar_68 : decode cX11_layFar 68 = .ok (.ifCond .eq 6, 3) := by decide +kernel
theorem dX11_layFar_71 : decode cX11_layFar 71 = .ok (.goto 61, 3) := by decide +kernel
theorem dX11_layFar_74 : decode cX11_layFar 74 = .ok (.aload_n 0, 1) := by decide +kernel
theorem dX11_layFar_75 : decode cX11_layFar 75 = .ok (.aload_n 0, 1) := by decide +kernel
theorem dX11_layFar_76 : decode cX11_layFar 76 = .ok (.getfield 87, 3) := by decide +kernel
theorem dX11_layFar_79 : decode cX11_layFar 79 = .ok (.iload_n 2, 1) := by decide +kernel
theorem dX11_layFar_80 : decode cX11_layFar 80 = .ok (.iaload, 1) := by decide +kernel
theorem dX11_layFar_81 : decode cX11_layFar 81 = .ok (.iload_n 3, 1) := by decide +kernel
theorem dX11_layFar_82 : decode cX11_layFar 82 = .ok (.invokevirtual 314, 3) := by decide +kernel
theorem dX11_layFar_85 : decode cX11_layFar 85 = .ok (.istore 4, 2) := by decide +kernel
theorem dX11_layFar_87 : decode cX11_layFar 87 = .ok (.aload_n 0, 1) := by decide +kernel
theorem dX11_layFar_88 : decode cX11_layFar 88 = .ok (.getfield 84, 3) := by decide +kernel
theorem dX11_layFar_91 : decode cX11_layFar 91 = .ok (.iload 4, 2) := by decide +kernel
theorem dX11_layFar_93 : decode cX11_layFar 93 = .ok (.iaload, 1) := by decide +kernel
theorem dX11_layFar_94 : decode cX11_layFar 94 = .ok (.iconst (-1), 1) := by decide +kernel
theorem dX11_layFar_95 : decode cX11_layFar 95 = .ok (.if_icmp .eq 6, 3) := by decide +kernel
theorem dX11_layFar_98 : decode cX11_layFar 98 = .ok (.goto 34, 3) := by decide +kernel
theorem dX11_layFar_101 : decode cX11_layFar 101 = .ok (.aload_n 0, 1) := by decide +kernel
theorem dX11_layFar_102 : decode cX11_layFar 102 = .ok (.getfield 84, 3) := by decide +kernel
theorem dX11_layFar_105 : decode cX11_layFar 105 = .ok (.iload 4, 2) := by decide +kernel
theorem dX11_layFar_107 : decode cX11_layFar 107 = .ok (.aload_n 0, 1) := by decide +kernel
theorem dX11_layFar_108 : decode cX11_layFar 108 = .ok (.getfield 84, 3) := by decide +kernel
theorem dX11_layFar_111 : decode cX11_layFar 111 = .ok (.aload_n 0, 1) := by decide +kernel
theorem dX11_layFar_112 : decode cX11_layFar 112 = .ok (.getfield 87, 3) := by decide +kernel
theorem dX11_layFar_115 : decode cX11_layFar 115 = .ok (.iload_n 2, 1) := by decide +kernel
theorem dX11_layFar_116 : decode cX11_layFar 116 = .ok (.iaload, 1) := by decide +kernel
theorem dX11_layFar_117 : decode cX11_layFar 117 = .ok (.iaload, 1) := by decide +kernel
theorem dX11_layFar_118 : decode cX11_layFar 118 = .ok (.iconst 1, 1) := by decide +kernel
theorem dX11_layFar_119 : decode cX11_layFar 119 = .ok (.iadd, 1) := by decide +kernel
theorem dX11_layFar_120 : decode cX11_layFar 120 = .ok (.iastore, 1) := by decide +kernel
theorem dX11_layFar_121 : decode cX11_layFar 121 = .ok (.aload_n 0, 1) := by decide +kernel
theorem dX11_layFar_122 : decode cX11_layFar 122 = .ok (.getfield 87, 3) := by decide +kernel
theorem dX11_layFar_125 : decode cX11_layFar 125 = .ok (.iload_n 1, 1) := by decide +kernel
theorem dX11_layFar_126 : decode cX11_layFar 126 = .ok (.iload 4, 2) := by decide +kernel
theorem dX11_layFar_128 : decode cX11_layFar 128 = .ok (.iastore, 1) := by decide +kernel
theorem dX11_layFar_129 : decode cX11_layFar 129 = .ok (.iinc 1 1, 3) := by decide +kernel
theorem dX11_layFar_132 : decode cX11_layFar 132 = .ok (.iinc 3 1, 3) := by decide +kernel
theorem dX11_layFar_135 : decode cX11_layFar 135 = .ok (.goto (-83), 3) := by decide +kernel
theorem dX11_layFar_138 : decode cX11_layFar 138 = .ok (.iinc 2 1, 3) := by decide +kernel
theorem dX11_layFar_141 : decode cX11_layFar 141 = .ok (.goto (-96), 3) := by decide +kernel
theorem dX11_layFar_144 : decode cX11_layFar 144 = .ok (.return_, 1) := by decide +kernel
theorem dX11_look_0 : decode cX11_look 0 = .ok (.aload_n 0, 1) := by decide +kernel
theorem dX11_look_1 : decode cX11_look 1 = .ok (.iconst 0, 1) := by decide +kernel
theorem dX11_look_2 : decode cX11_look 2 = .ok (.putfield 130, 3) := by decide +kernel
theorem dX11_look_5 : decode cX11_look 5 = .ok (.aload_n 0, 1) := by decide +kernel
theorem dX11_look_6 : decode cX11_look 6 = .ok (.iload_n 1, 1) := by decide +kernel
theorem dX11_look_7 : decode cX11_look 7 = .ok (.invokevirtual 321, 3) := by decide +kernel
theorem dX11_look_10 : decode cX11_look 10 = .ok (.ifCond .ne 9, 3) := by decide +kernel
theorem dX11_look_13 : decode cX11_look 13 = .ok (.aload_n 0, 1) := by decide +kernel
theorem dX11_look_14 : decode cX11_look 14 = .ok (.iconst 1, 1) := by decide +kernel
theorem dX11_look_15 : decode cX11_look 15 = .ok (.invokevirtual 352, 3) := by decide +kernel
theorem dX11_look_18 : decode cX11_look 18 = .ok (.ireturn, 1) := by decide +kernel
theorem dX11_look_19 : decode cX11_look 19 = .ok (.iload_n 2, 1) := by decide +kernel
theorem dX11_look_20 : decode cX11_look 20 = .ok (.tableswitch 64 0 3 #[32, 39, 46, 53], 32) := by decide +kernel
theorem dX11_look_52 : decode cX11_look 52 = .ok (.aload_n 0, 1) := by decide +kernel
theorem dX11_look_53 : decode cX11_look 53 = .ok (.getfield 72, 3) := by decide +kernel
theorem dX11_look_56 : decode cX11_look 56 = .ok (.iload_n 1, 1) := by decide +kernel
theorem dX11_look_57 : decode cX11_look 57 = .ok (.iaload, 1) := by decide +kernel
theorem dX11_look_58 : decode cX11_look 58 = .ok (.ireturn, 1) := by decide +kernel
theorem dX11_look_59 : decode cX11_look 59 = .ok (.aload_n 0, 1) := by decide +kernel
theorem dX11_look_60 : decode cX11_look 60 = .ok (.getfield 75, 3) := by decide +kernel
theorem dX11_look_63 : decode cX11_look 63 = .ok (.iload_n 1, 1) := by decide +kernel
theorem dX11_look_64 : decode cX11_look 64 = .ok (.iaload, 1) := by decide +kernel
theorem dX11_look_65 : decode cX11_look 65 = .ok (.ireturn, 1) := by decide +kernel
theorem dX11_look_66 : decode cX11_look 66 = .ok (.aload_n 0, 1) := by decide +kernel
theorem dX11_look_67 : decode cX11_look 67 = .ok (.getfield 69, 3) := by decide +kernel
theorem dX11_look_70 : decode cX11_look 70 = .ok (.iload_n 1, 1) := by decide +kernel
theorem dX11_look_71 : decode cX11_look 71 = .ok (.iaload, 1) := by decide +kernel
theorem dX11_look_72 : decode cX11_look 72 = .ok (.ireturn, 1) := by decide +kernel
theorem dX11_look_73 : decode cX11_look 73 = .ok (.aload_n 0, 1) := by decide +kernel
theorem dX11_look_74 : decode cX11_look 74 = .ok (.invokevirtual 355, 3) := by decide +kernel
theorem dX11_look_77 : decode cX11_look 77 = .ok (.aload_n 0, 1) := by decide +kernel
theorem dX11_look_78 : decode cX11_look 78 = .ok (.getfield 84, 3) := by decide +kernel
theorem dX11_look_81 : decode cX11_look 81 = .ok (.iload_n 1, 1) := by decide +kernel
theorem dX11_look_82 : decode cX11_look 82 = .ok (.iaload, 1) := by decide +kernel
theorem dX11_look_83 : decode cX11_look 83 = .ok (.ireturn, 1) := by decide +kernel
theorem dX11_look_84 : decode cX11_look 84 = .ok (.aload_n 0, 1) := by decide +kernel
theorem dX11_look_85 : decode cX11_look 85 = .ok (.iconst 2, 1) := by decide +kernel
theorem dX11_look_86 : decode cX11_look 86 = .ok (.invokevirtual 352, 3) := by decide +kernel
theorem dX11_look_89 : decode cX11_look 89 = .ok (.ireturn, 1) := by decide +kernel
theorem dX11_puts_0 : decode cX11_puts 0 = .ok (.bipush 120, 2) := by decide +kernel
theorem dX11_puts_2 : decode cX11_puts 2 = .ok (.iload_n 1, 1) := by decide +kernel
theorem dX11_puts_3 : decode cX11_puts 3 = .ok (.imul, 1) := by decide +kernel
theorem dX11_puts_4 : decode cX11_puts 4 = .ok (.istore_n 2, 1) := by decide +kernel
theorem dX11_puts_5 : decode cX11_puts 5 = .ok (.aload_n 0, 1) := by decide +kernel
theorem dX11_puts_6 : decode cX11_puts 6 = .ok (.getfield 93, 3) := by decide +kernel
theorem dX11_puts_9 : decode cX11_puts 9 = .ok (.iload_n 2, 1) := by decide +kernel
theorem dX11_puts_10 : decode cX11_puts 10 = .ok (.aload_n 0, 1) := by decide +kernel
theorem dX11_puts_11 : decode cX11_puts 11 = .ok (.getfield 283, 3) := by decide +kernel
theorem dX11_puts_14 : decode cX11_puts 14 = .ok (.iastore, 1) := by decide +kernel
theorem dX11_puts_15 : decode cX11_puts 15 = .ok (.aload_n 0, 1) := by decide +kernel
theorem dX11_puts_16 : decode cX11_puts 16 = .ok (.getfield 93, 3) := by decide +kernel
theorem dX11_puts_19 : decode cX11_puts 19 = .ok (.iload_n 2, 1) := by decide +kernel
theorem dX11_puts_20 : decode cX11_puts 20 = .ok (.iconst 1, 1) := by decide +kernel
theorem dX11_puts_21 : decode cX11_puts 21 = .ok (.iadd, 1) := by decide +kernel
theorem dX11_puts_22 : decode cX11_puts 22 = .ok (.aload_n 0, 1) := by decide +kernel
theorem dX11_puts_23 : decode cX11_puts 23 = .ok (.getfield 286, 3) := by decide +kernel
theorem dX11_puts_26 : decode cX11_puts 26 = .ok (.iastore, 1) := by decide +kernel
theorem dX11_puts_27 : decode cX11_puts 27 = .ok (.aload_n 0, 1) := by decide +kernel
theorem dX11_puts_28 : decode cX11_puts 28 = .ok (.getfield 93, 3) := by decide +kernel
theorem dX11_puts_31 : decode cX11_puts 31 = .ok (.iload_n 2, 1) := by decide +kernel
theorem dX11_puts_32 : decode cX11_puts 32 = .ok (.iconst 2, 1) := by decide +kernel
theorem dX11_puts_33 : decode cX11_puts 33 = .ok (.iadd, 1) := by decide +kernel
theorem dX11_puts_34 : decode cX11_puts 34 = .ok (.aload_n 0, 1) := by decide +kernel
theorem dX11_puts_35 : decode cX11_puts 35 = .ok (.getfield 292, 3) := by decide +kernel
theorem dX11_puts_38 : decode cX11_puts 38 = .ok (.iastore, 1) := by decide +kernel
theorem dX11_puts_39 : decode cX11_puts 39 = .ok (.aload_n 0, 1) := by decide +kernel
theorem dX11_puts_40 : decode cX11_puts 40 = .ok (.getfield 93, 3) := by decide +kernel
theorem dX11_puts_43 : decode cX11_puts 43 = .ok (.iload_n 2, 1) := by decide +kernel
theorem dX11_puts_44 : decode cX11_puts 44 = .ok (.iconst 3, 1) := by decide +kernel
theorem dX11_puts_45 : decode cX11_puts 45 = .ok (.iadd, 1) := by decide +kernel
theorem dX11_puts_46 : decode cX11_puts 46 = .ok (.aload_n 0, 1) := by decide +kernel
theorem dX11_puts_47 : decode cX11_puts 47 = .ok (.getfield 295, 3) := by decide +kernel
theorem dX11_puts_50 : decode cX11_puts 50 = .ok (.iastore, 1) := by decide +kernel
theorem dX11_puts_51 : decode cX11_puts 51 = .ok (.aload_n 0, 1) := by decide +kernel
theorem dX11_puts_52 : decode cX11_puts 52 = .ok (.getfield 93, 3) := by decide +kernel
theorem dX11_puts_55 : decode cX11_puts 55 = .ok (.iload_n 2, 1) := by decide +kernel
theorem dX11_puts_56 : decode cX11_puts 56 = .ok (.iconst 4, 1) := by decide +kernel
theorem dX11_puts_57 : decode cX11_puts 57 = .ok (.iadd, 1) := by decide +kernel
theorem dX11_puts_58 : decode cX11_puts 58 = .ok (.aload_n 0, 1) := by decide +kernel
theorem dX11_puts_59 : decode cX11_puts 59 = .ok (.getfield 298, 3) := by decide +kernel
theorem dX11_puts_62 : decode cX11_puts 62 = .ok (.iastore, 1) := by decide +kernel
theorem dX11_puts_63 : decode cX11_puts 63 = .ok (.aload_n 0, 1) := by decide +kernel
theorem dX11_puts_64 : decode cX11_puts 64 = .ok (.getfield 93, 3) := by decide +kernel
theorem dX11_puts_67 : decode cX11_puts 67 = .ok (.iload_n 2, 1) := by decide +kernel
theorem dX11_puts_68 : decode cX11_puts 68 = .ok (.iconst 5, 1) := by decide +kernel
theorem dX11_puts_69 : decode cX11_puts 69 = .ok (.iadd, 1) := by decide +kernel
theorem dX11_puts_70 : decode cX11_puts 70 = .ok (.aload_n 0, 1) := by decide +kernel
theorem dX11_puts_71 : decode cX11_puts 71 = .ok (.getfield 301, 3) := by decide +kernel
theorem dX11_puts_74 : decode cX11_puts 74 = .ok (.iastore, 1) := by decide +kernel
theorem dX11_puts_75 : decode cX11_puts 75 = .ok (.aload_n 0, 1) := by decide +kernel
theorem dX11_puts_76 : decode cX11_puts 76 = .ok (.getfield 93, 3) := by decide +kernel
theorem dX11_puts_79 : decode cX11_puts 79 = .ok (.iload_n 2, 1) := by decide +kernel
theorem dX11_puts_80 : decode cX11_puts 80 = .ok (.bipush 6, 2) := by decide +kernel
theorem dX11_puts_82 : decode cX11_puts 82 = .ok (.iadd, 1) := by decide +kernel
theorem dX11_puts_83 : decode cX11_puts 83 = .ok (.aload_n 0, 1) := by decide +kernel
theorem dX11_puts_84 : decode cX11_puts 84 = .ok (.getfield 304, 3) := by decide +kernel
theorem dX11_puts_87 : decode cX11_puts 87 = .ok (.iastore, 1) := by decide +kernel
theorem dX11_puts_88 : decode cX11_puts 88 = .ok (.aload_n 0, 1) := by decide +kernel
theorem dX11_puts_89 : decode cX11_puts 89 = .ok (.getfield 93, 3) := by decide +kernel
theorem dX11_puts_92 : decode cX11_puts 92 = .ok (.iload_n 2, 1) := by decide +kernel
theorem dX11_puts_93 : decode cX11_puts 93 = .ok (.bipush 7, 2) := by decide +kernel
theorem dX11_puts_95 : decode cX11_puts 95 = .ok (.iadd, 1) := by decide +kernel
theorem dX11_puts_96 : decode cX11_puts 96 = .ok (.aload_n 0, 1) := by decide +kernel
theorem dX11_puts_97 : decode cX11_puts 97 = .ok (.getfield 271, 3) := by decide +kernel
theorem dX11_puts_100 : decode cX11_puts 100 = .ok (.iastore, 1) := by decide +kernel
theorem dX11_puts_101 : decode cX11_puts 101 = .ok (.iconst 0, 1) := by decide +kernel
theorem dX11_puts_102 : decode cX11_puts 102 = .ok (.istore_n 3, 1) := by decide +kernel
theorem dX11_puts_103 : decode cX11_puts 103 = .ok (.iload_n 3, 1) := by decide +kernel
theorem dX11_puts_104 : decode cX11_puts 104 = .ok (.bipush 36, 2) := by decide +kernel
theorem dX11_puts_106 : decode cX11_puts 106 = .ok (.if_icmp .ge 60, 3) := by decide +kernel
theorem dX11_puts_109 : decode cX11_puts 109 = .ok (.aload_n 0, 1) := by decide +kernel
theorem dX11_puts_110 : decode cX11_puts 110 = .ok (.getfield 93, 3) := by decide +kernel
theorem dX11_puts_113 : decode cX11_puts 113 = .ok (.iload_n 2, 1) := by decide +kernel
theorem dX11_puts_114 : decode cX11_puts 114 = .ok (.bipush 8, 2) := by decide +kernel
theorem dX11_puts_116 : decode cX11_puts 116 = .ok (.iadd, 1) := by decide +kernel
theorem dX11_puts_117 : decode cX11_puts 117 = .ok (.iload_n 3, 1) := by decide +kernel
theorem dX11_puts_118 : decode cX11_puts 118 = .ok (.iadd, 1) := by decide +kernel
theorem dX11_puts_119 : decode cX11_puts 119 = .ok (.aload_n 0, 1) := by decide +kernel
theorem dX11_puts_120 : decode cX11_puts 120 = .ok (.getfield 69, 3) := by decide +kernel
theorem dX11_puts_123 : decode cX11_puts 123 = .ok (.iload_n 3, 1) := by decide +kernel
theorem dX11_puts_124 : decode cX11_puts 124 = .ok (.iaload, 1) := by decide +kernel
theorem dX11_puts_125 : decode cX11_puts 125 = .ok (.iastore, 1) := by decide +kernel
theorem dX11_puts_126 : decode cX11_puts 126 = .ok (.aload_n 0, 1) := by decide +kernel
theorem dX11_puts_127 : decode cX11_puts 127 = .ok (.getfield 93, 3) := by decide +kernel
theorem dX11_puts_130 : decode cX11_puts 130 = .ok (.iload_n 2, 1) := by decide +kernel
theorem dX11_puts_131 : decode cX11_puts 131 = .ok (.bipush 44, 2) := by decide +kernel
theorem dX11_puts_133 : decode cX11_puts 133 = .ok (.iadd, 1) := by decide +kernel
theorem dX11_puts_134 : decode cX11_puts 134 = .ok (.iload_n 3, 1) := by decide +kernel
theorem dX11_puts_135 : decode cX11_puts 135 = .ok (.iadd, 1) := by decide +kernel
theorem dX11_puts_136 : decode cX11_puts 136 = .ok (.aload_n 0, 1) := by decide +kernel
theorem dX11_puts_137 : decode cX11_puts 137 = .ok (.getfield 72, 3) := by decide +kernel
theorem dX11_puts_140 : decode cX11_puts 140 = .ok (.iload_n 3, 1) := by decide +kernel
theorem dX11_puts_141 : decode cX11_puts 141 = .ok (.iaload, 1) := by decide +kernel
theorem dX11_puts_142 : decode cX11_puts 142 = .ok (.iastore, 1) := by decide +kernel
theorem dX11_puts_143 : decode cX11_puts 143 = .ok (.aload_n 0, 1) := by decide +kernel
theorem dX11_puts_144 : decode cX11_puts 144 = .ok (.getfield 93, 3) := by decide +kernel
theorem dX11_puts_147 : decode cX11_puts 147 = .ok (.iload_n 2, 1) := by decide +kernel
theorem dX11_puts_148 : decode cX11_puts 148 = .ok (.bipush 80, 2) := by decide +kernel
theorem dX11_puts_150 : decode cX11_puts 150 = .ok (.iadd, 1) := by decide +kernel
theorem dX11_puts_151 : decode cX11_puts 151 = .ok (.iload_n 3, 1) := by decide +kernel
theorem dX11_puts_152 : decode cX11_puts 152 = .ok (.iadd, 1) := by decide +kernel
theorem dX11_puts_153 : decode cX11_puts 153 = .ok (.aload_n 0, 1) := by decide +kernel
theorem dX11_puts_154 : decode cX11_puts 154 = .ok (.getfield 75, 3) := by decide +kernel
theorem dX11_puts_157 : decode cX11_puts 157 = .ok (.iload_n 3, 1) := by decide +kernel
theorem dX11_puts_158 : decode cX11_puts 158 = .ok (.iaload, 1) := by decide +kernel
theorem dX11_puts_159 : decode cX11_puts 159 = .ok (.iastore, 1) := by decide +kernel
theorem dX11_puts_160 : decode cX11_puts 160 = .ok (.iinc 3 1, 3) := by decide +kernel
theorem dX11_puts_163 : decode cX11_puts 163 = .ok (.goto (-60), 3) := by decide +kernel
theorem dX11_puts_166 : decode cX11_puts 166 = .ok (.return_, 1) := by decide +kernel
theorem dX11_takes_0 : decode cX11_takes 0 = .ok (.bipush 120, 2) := by decide +kernel
theorem dX11_takes_2 : decode cX11_takes 2 = .ok (.iload_n 1, 1) := by decide +kernel
theorem dX11_takes_3 : decode cX11_takes 3 = .ok (.imul, 1) := by decide +kernel
theorem dX11_takes_4 : decode cX11_takes 4 = .ok (.istore_n 2, 1) := by decide +kernel
theorem dX11_takes_5 : decode cX11_takes 5 = .ok (.aload_n 0, 1) := by decide +kernel
theorem dX11_takes_6 : decode cX11_takes 6 = .ok (.aload_n 0, 1) := by decide +kernel
theorem dX11_takes_7 : decode cX11_takes 7 = .ok (.getfield 93, 3) := by decide +kernel
theorem dX11_takes_10 : decode cX11_takes 10 = .ok (.iload_n 2, 1) := by decide +kernel
theorem dX11_takes_11 : decode cX11_takes 11 = .ok (.iaload, 1) := by decide +kernel
theorem dX11_takes_12 : decode cX11_takes 12 = .ok (.putfield 283, 3) := by decide +kernel
theorem dX11_takes_15 : decode cX11_takes 15 = .ok (.aload_n 0, 1) := by decide +kernel
theorem dX11_takes_16 : decode cX11_takes 16 = .ok (.aload_n 0, 1) := by decide +kernel
theorem dX11_takes_17 : decode cX11_takes 17 = .ok (.getfield 93, 3) := by decide +kernel
theorem dX11_takes_20 : decode cX11_takes 20 = .ok (.iload_n 2, 1) := by decide +kernel
theorem dX11_takes_21 : decode cX11_takes 21 = .ok (.iconst 1, 1) := by decide +kernel
theorem dX11_takes_22 : decode cX11_takes 22 = .ok (.iadd, 1) := by decide +kernel
theorem dX11_takes_23 : decode cX11_takes 23 = .ok (.iaload, 1) := by decide +kernel
theorem dX11_takes_24 : decode cX11_takes 24 = .ok (.putfield 286, 3) := by decide +kernel
theorem dX11_takes_27 : decode cX11_takes 27 = .ok (.aload_n 0, 1) := by decide +kernel
theorem dX11_takes_28 : decode cX11_takes 28 = .ok (.aload_n 0, 1) := by decide +kernel
theorem dX11_takes_29 : decode cX11_takes 29 = .ok (.getfield 93, 3) := by decide +kernel
theorem dX11_takes_32 : decode cX11_takes 32 = .ok (.iload_n 2, 1) := by decide +kernel
theorem dX11_takes_33 : decode cX11_takes 33 = .ok (.iconst 2, 1) := by decide +kernel
theorem dX11_takes_34 : decode cX11_takes 34 = .ok (.iadd, 1) := by decide +kernel
theorem dX11_takes_35 : decode cX11_takes 35 = .ok (.iaload, 1) := by decide +kernel
theorem dX11_takes_36 : decode cX11_takes 36 = .ok (.putfield 292, 3) := by decide +kernel
theorem dX11_takes_39 : decode cX11_takes 39 = .ok (.aload_n 0, 1) := by decide +kernel
theorem dX11_takes_40 : decode cX11_takes 40 = .ok (.aload_n 0, 1) := by decide +kernel
theorem dX11_takes_41 : decode cX11_takes 41 = .ok (.getfield 93, 3) := by decide +kernel
theorem dX11_takes_44 : decode cX11_takes 44 = .ok (.iload_n 2, 1) := by decide +kernel
theorem dX11_takes_45 : decode cX11_takes 45 = .ok (.iconst 3, 1) := by decide +kernel
theorem dX11_takes_46 : decode cX11_takes 46 = .ok (.iadd, 1) := by decide +kernel
theorem dX11_takes_47 : decode cX11_takes 47 = .ok (.iaload, 1) := by decide +kernel
theorem dX11_takes_48 : decode cX11_takes 48 = .ok (.putfield 295, 3) := by decide +kernel
theorem dX11_takes_51 : decode cX11_takes 51 = .ok (.aload_n 0, 1) := by decide +kernel
theorem dX11_takes_52 : decode cX11_takes 52 = .ok (.aload_n 0, 1) := by decide +kernel
theorem dX11_takes_53 : decode cX11_takes 53 = .ok (.getfield 93, 3) := by decide +kernel
theorem dX11_takes_56 : decode cX11_takes 56 = .ok (.iload_n 2, 1) := by decide +kernel
theorem dX11_takes_57 : decode cX11_takes 57 = .ok (.iconst 4, 1) := by decide +kernel
theorem dX11_takes_58 : decode cX11_takes 58 = .ok (.iadd, 1) := by decide +kernel
theorem dX11_takes_59 : decode cX11_takes 59 = .ok (.iaload, 1) := by decide +kernel
theorem dX11_takes_60 : decode cX11_takes 60 = .ok (.putfield 298, 3) := by decide +kernel
theorem dX11_takes_63 : decode cX11_takes 63 = .ok (.aload_n 0, 1) := by decide +kernel
theorem dX11_takes_64 : decode cX11_takes 64 = .ok (.aload_n 0, 1) := by decide +kernel
theorem dX11_takes_65 : decode cX11_takes 65 = .ok (.getfield 93, 3) := by decide +kernel
theorem dX11_takes_68 : decode cX11_takes 68 = .ok (.iload_n 2, 1) := by decide +kernel
theorem dX11_takes_69 : decode cX11_takes 69 = .ok (.iconst 5, 1) := by decide +kernel
theorem dX11_takes_70 : decode cX11_takes 70 = .ok (.iadd, 1) := by decide +kernel
theorem dX11_takes_71 : decode cX11_takes 71 = .ok (.iaload, 1) := by decide +kernel
theorem dX11_takes_72 : decode cX11_takes 72 = .ok (.putfield 301, 3) := by decide +kernel
theorem dX11_takes_75 : decode cX11_takes 75 = .ok (.aload_n 0, 1) := by decide +kernel
theorem dX11_takes_76 : decode cX11_takes 76 = .ok (.aload_n 0, 1) := by decide +kernel
theorem dX11_takes_77 : decode cX11_takes 77 = .ok (.getfield 93, 3) := by decide +kernel
theorem dX11_takes_80 : decode cX11_takes 80 = .ok (.iload_n 2, 1) := by decide +kernel
theorem dX11_takes_81 : decode cX11_takes 81 = .ok (.bipush 6, 2) := by decide +kernel
theorem dX11_takes_83 : decode cX11_takes 83 = .ok (.iadd, 1) := by decide +kernel
theorem dX11_takes_84 : decode cX11_takes 84 = .ok (.iaload, 1) := by decide +kernel
theorem dX11_takes_85 : decode cX11_takes 85 = .ok (.putfield 304, 3) := by decide +kernel
theorem dX11_takes_88 : decode cX11_takes 88 = .ok (.aload_n 0, 1) := by decide +kernel
theorem dX11_takes_89 : decode cX11_takes 89 = .ok (.aload_n 0, 1) := by decide +kernel
theorem dX11_takes_90 : decode cX11_takes 90 = .ok (.getfield 93, 3) := by decide +kernel
theorem dX11_takes_93 : decode cX11_takes 93 = .ok (.iload_n 2, 1) := by decide +kernel
theorem dX11_takes_94 : decode cX11_takes 94 = .ok (.bipush 7, 2) := by decide +kernel
theorem dX11_takes_96 : decode cX11_takes 96 = .ok (.iadd, 1) := by decide +kernel
theorem dX11_takes_97 : decode cX11_takes 97 = .ok (.iaload, 1) := by decide +kernel
theorem dX11_takes_98 : decode cX11_takes 98 = .ok (.putfield 271, 3) := by decide +kernel
theorem dX11_takes_101 : decode cX11_takes 101 = .ok (.iconst 0, 1) := by decide +kernel
theorem dX11_takes_102 : decode cX11_takes 102 = .ok (.istore_n 3, 1) := by decide +kernel
theorem dX11_takes_103 : decode cX11_takes 103 = .ok (.iload_n 3, 1) := by decide +kernel
theorem dX11_takes_104 : decode cX11_takes 104 = .ok (.bipush 36, 2) := by decide +kernel
theorem dX11_takes_106 : decode cX11_takes 106 = .ok (.if_icmp .ge 60, 3) := by decide +kernel
theorem dX11_takes_109 : decode cX11_takes 109 = .ok (.aload_n 0, 1) := by decide +kernel
theorem dX11_takes_110 : decode cX11_takes 110 = .ok (.getfield 69, 3) := by decide +kernel
theorem dX11_takes_113 : decode cX11_takes 113 = .ok (.iload_n 3, 1) := by decide +kernel
theorem dX11_takes_114 : decode cX11_takes 114 = .ok (.aload_n 0, 1) := by decide +kernel
theorem dX11_takes_115 : decode cX11_takes 115 = .ok (.getfield 93, 3) := by decide +kernel
theorem dX11_takes_118 : decode cX11_takes 118 = .ok (.iload_n 2, 1) := by decide +kernel
theorem dX11_takes_119 : decode cX11_takes 119 = .ok (.bipush 8, 2) := by decide +kernel
theorem dX11_takes_121 : decode cX11_takes 121 = .ok (.iadd, 1) := by decide +kernel
theorem dX11_takes_122 : decode cX11_takes 122 = .ok (.iload_n 3, 1) := by decide +kernel
theorem dX11_takes_123 : decode cX11_takes 123 = .ok (.iadd, 1) := by decide +kernel
theorem dX11_takes_124 : decode cX11_takes 124 = .ok (.iaload, 1) := by decide +kernel
theorem dX11_takes_125 : decode cX11_takes 125 = .ok (.iastore, 1) := by decide +kernel
theorem dX11_takes_126 : decode cX11_takes 126 = .ok (.aload_n 0, 1) := by decide +kernel
theorem dX11_takes_127 : decode cX11_takes 127 = .ok (.getfield 72, 3) := by decide +kernel
theorem dX11_takes_130 : decode cX11_takes 130 = .ok (.iload_n 3, 1) := by decide +kernel
theorem dX11_takes_131 : decode cX11_takes 131 = .ok (.aload_n 0, 1) := by decide +kernel
theorem dX11_takes_132 : decode cX11_takes 132 = .ok (.getfield 93, 3) := by decide +kernel
theorem dX11_takes_135 : decode cX11_takes 135 = .ok (.iload_n 2, 1) := by decide +kernel
theorem dX11_takes_136 : decode cX11_takes 136 = .ok (.bipush 44, 2) := by decide +kernel
theorem dX11_takes_138 : decode cX11_takes 138 = .ok (.iadd, 1) := by decide +kernel
theorem dX11_takes_139 : decode cX11_takes 139 = .ok (.iload_n 3, 1) := by decide +kernel
theorem dX11_takes_140 : decode cX11_takes 140 = .ok (.iadd, 1) := by decide +kernel
theorem dX11_takes_141 : decode cX11_takes 141 = .ok (.iaload, 1) := by decide +kernel
theorem dX11_takes_142 : decode cX11_takes 142 = .ok (.iastore, 1) := by decide +kernel
theorem dX11_takes_143 : decode cX11_takes 143 = .ok (.aload_n 0, 1) := by decide +kernel
theorem dX11_takes_144 : decode cX11_takes 144 = .ok (.getfield 75, 3) := by decide +kernel
theorem dX11_takes_147 : decode cX11_takes 147 = .ok (.iload_n 3, 1) := by decide +kernel
theorem dX11_takes_148 : decode cX11_takes 148 = .ok (.aload_n 0, 1) := by decide +kernel
theorem dX11_takes_149 : decode cX11_takes 149 = .ok (.getfield 93, 3) := by decide +kernel
theorem dX11_takes_152 : decode cX11_takes 152 = .ok (.iload_n 2, 1) := by decide +kernel
theorem dX11_takes_153 : decode cX11_takes 153 = .ok (.bipush 80, 2) := by decide +kernel
theorem dX11_takes_155 : decode cX11_takes 155 = .ok (.iadd, 1) := by decide +kernel
theorem dX11_takes_156 : decode cX11_takes 156 = .ok (.iload_n 3, 1) := by decide +kernel
theorem dX11_takes_157 : decode cX11_takes 157 = .ok (.iadd, 1) := by decide +kernel
theorem dX11_takes_158 : decode cX11_takes 158 = .ok (.iaload, 1) := by decide +kernel
theorem dX11_takes_159 : decode cX11_takes 159 = .ok (.iastore, 1) := by decide +kernel
theorem dX11_takes_160 : decode cX11_takes 160 = .ok (.iinc 3 1, 3) := by decide +kernel
theorem dX11_takes_163 : decode cX11_takes 163 = .ok (.goto (-60), 3) := by decide +kernel
theorem dX11_takes_166 : decode cX11_takes 166 = .ok (.return_, 1) := by decide +kernel
theorem dX11_keep_0 : decode cX11_keep 0 = .ok (.aload_n 0, 1) := by decide +kernel
theorem dX11_keep_1 : decode cX11_keep 1 = .ok (.iconst 0, 1) := by decide +kernel
theorem dX11_keep_2 : decode cX11_keep 2 = .ok (.putfield 130, 3) := by decide +kernel
theorem dX11_keep_5 : decode cX11_keep 5 = .ok (.iload_n 1, 1) := by decide +kernel
theorem dX11_keep_6 : decode cX11_keep 6 = .ok (.iconst 0, 1) := by decide +kernel
theorem dX11_keep_7 : decode cX11_keep 7 = .ok (.iconst 3, 1) := by decide +kernel
theorem dX11_keep_8 : decode cX11_keep 8 = .ok (.invokestatic 317, 3) := by decide +kernel
theorem dX11_keep_11 : decode cX11_keep 11 = .ok (.ifCond .ne 5, 3) := by decide +kernel
theorem dX11_keep_14 : decode cX11_keep 14 = .ok (.iconst 0, 1) := by decide +kernel
theorem dX11_keep_15 : decode cX11_keep 15 = .ok (.ireturn, 1) := by decide +kernel
theorem dX11_keep_16 : decode cX11_keep 16 = .ok (.aload_n 0, 1) := by decide +kernel
theorem dX11_keep_17 : decode cX11_keep 17 = .ok (.iload_n 1, 1) := by decide +kernel
theorem dX11_keep_18 : decode cX11_keep 18 = .ok (.invokevirtual 358, 3) := by decide +kernel
theorem dX11_keep_21 : decode cX11_keep 21 = .ok (.aload_n 0, 1) := by decide +kernel
theorem dX11_keep_22 : decode cX11_keep 22 = .ok (.getfield 90, 3) := by decide +kernel
theorem dX11_keep_25 : decode cX11_keep 25 = .ok (.iload_n 1, 1) := by decide +kernel
theorem dX11_keep_26 : decode cX11_keep 26 = .ok (.iconst 1, 1) := by decide +kernel
theorem dX11_keep_27 : decode cX11_keep 27 = .ok (.bastore, 1) := by decide +kernel
theorem dX11_keep_28 : decode cX11_keep 28 = .ok (.iconst 1, 1) := by decide +kernel
theorem dX11_keep_29 : decode cX11_keep 29 = .ok (.ireturn, 1) := by decide +kernel
theorem dX11_restore_0 : decode cX11_restore 0 = .ok (.aload_n 0, 1) := by decide +kernel
theorem dX11_restore_1 : decode cX11_restore 1 = .ok (.iconst 0, 1) := by decide +kernel
theorem dX11_restore_2 : decode cX11_restore 2 = .ok (.putfield 130, 3) := by decide +kernel
theorem dX11_restore_5 : decode cX11_restore 5 = .ok (.iload_n 1, 1) := by decide +kernel
theorem dX11_restore_6 : decode cX11_restore 6 = .ok (.iconst 0, 1) := by decide +kernel
theorem dX11_restore_7 : decode cX11_restore 7 = .ok (.iconst 3, 1) := by decide +kernel
theorem dX11_restore_8 : decode cX11_restore 8 = .ok (.invokestatic 317, 3) := by decide +kernel
theorem dX11_restore_11 : decode cX11_restore 11 = .ok (.ifCond .eq 12, 3) := by decide +kernel
theorem dX11_restore_14 : decode cX11_restore 14 = .ok (.aload_n 0, 1) := by decide +kernel
theorem dX11_restore_15 : decode cX11_restore 15 = .ok (.getfield 90, 3) := by decide +kernel
theorem dX11_restore_18 : decode cX11_restore 18 = .ok (.iload_n 1, 1) := by decide +kernel
theorem dX11_restore_19 : decode cX11_restore 19 = .ok (.baload, 1) := by decide +kernel
theorem dX11_restore_20 : decode cX11_restore 20 = .ok (.ifCond .ne 5, 3) := by decide +kernel
theorem dX11_restore_23 : decode cX11_restore 23 = .ok (.iconst 0, 1) := by decide +kernel
theorem dX11_restore_24 : decode cX11_restore 24 = .ok (.ireturn, 1) := by decide +kernel
theorem dX11_restore_25 : decode cX11_restore 25 = .ok (.aload_n 0, 1) := by decide +kernel
theorem dX11_restore_26 : decode cX11_restore 26 = .ok (.iload_n 1, 1) := by decide +kernel
theorem dX11_restore_27 : decode cX11_restore 27 = .ok (.invokevirtual 361, 3) := by decide +kernel
theorem dX11_restore_30 : decode cX11_restore 30 = .ok (.aload_n 0, 1) := by decide +kernel
theorem dX11_restore_31 : decode cX11_restore 31 = .ok (.aload_n 0, 1) := by decide +kernel
theorem dX11_restore_32 : decode cX11_restore 32 = .ok (.getfield 271, 3) := by decide +kernel
theorem dX11_restore_35 : decode cX11_restore 35 = .ok (.aload_n 0, 1) := by decide +kernel
theorem dX11_restore_36 : decode cX11_restore 36 = .ok (.getfield 274, 3) := by decide +kernel
theorem dX11_restore_39 : decode cX11_restore 39 = .ok (.iconst (-1), 1) := by decide +kernel
theorem dX11_restore_40 : decode cX11_restore 40 = .ok (.ixor, 1) := by decide +kernel
theorem dX11_restore_41 : decode cX11_restore 41 = .ok (.iand, 1) := by decide +kernel
theorem dX11_restore_42 : decode cX11_restore 42 = .ok (.aload_n 0, 1) := by decide +kernel
theorem dX11_restore_43 : decode cX11_restore 43 = .ok (.getfield 274, 3) := by decide +kernel
theorem dX11_restore_46 : decode cX11_restore 46 = .ok (.aload_n 0, 1) := by decide +kernel
theorem dX11_restore_47 : decode cX11_restore 47 = .ok (.getfield 277, 3) := by decide +kernel
theorem dX11_restore_50 : decode cX11_restore 50 = .ok (.iand, 1) := by decide +kernel
theorem dX11_restore_51 : decode cX11_restore 51 = .ok (.ior, 1) := by decide +kernel
theorem dX11_restore_52 : decode cX11_restore 52 = .ok (.putfield 271, 3) := by decide +kernel
theorem dX11_restore_55 : decode cX11_restore 55 = .ok (.iconst 1, 1) := by decide +kernel
theorem dX11_restore_56 : decode cX11_restore 56 = .ok (.ireturn, 1) := by decide +kernel
theorem dX11_setDown_0 : decode cX11_setDown 0 = .ok (.aload_n 0, 1) := by decide +kernel
theorem dX11_setDown_1 : decode cX11_setDown 1 = .ok (.invokevirtual 334, 3) := by decide +kernel
theorem dX11_setDown_4 : decode cX11_setDown 4 = .ok (.aload_n 0, 1) := by decide +kernel
theorem dX11_setDown_5 : decode cX11_setDown 5 = .ok (.iload_n 1, 1) := by decide +kernel
theorem dX11_setDown_6 : decode cX11_setDown 6 = .ok (.putfield 295, 3) := by decide +kernel
theorem dX11_setDown_9 : decode cX11_setDown 9 = .ok (.aload_n 0, 1) := by decide +kernel
theorem dX11_setDown_10 : decode cX11_setDown 10 = .ok (.iconst 0, 1) := by decide +kernel
theorem dX11_setDown_11 : decode cX11_setDown 11 = .ok (.putfield 298, 3) := by decide +kernel
theorem dX11_setDown_14 : decode cX11_setDown 14 = .ok (.aload_n 0, 1) := by decide +kernel
theorem dX11_setDown_15 : decode cX11_setDown 15 = .ok (.iconst 0, 1) := by decide +kernel
theorem dX11_setDown_16 : decode cX11_setDown 16 = .ok (.putfield 301, 3) := by decide +kernel
theorem dX11_setDown_19 : decode cX11_setDown 19 = .ok (.aload_n 0, 1) := by decide +kernel
theorem dX11_setDown_20 : decode cX11_setDown 20 = .ok (.iconst 0, 1) := by decide +kernel
theorem dX11_setDown_21 : decode cX11_setDown 21 = .ok (.putfield 304, 3) := by decide +kernel
theorem dX11_setDown_24 : decode cX11_setDown 24 = .ok (.return_, 1) := by decide +kernel
theorem dX11_comes_0 : decode cX11_comes 0 = .ok (.aload_n 0, 1) := by decide +kernel
theorem dX11_comes_1 : decode cX11_comes 1 = .ok (.iconst 0, 1) := by decide +kernel
theorem dX11_comes_2 : decode cX11_comes 2 = .ok (.putfield 130, 3) := by decide +kernel
theorem dX11_comes_5 : decode cX11_comes 5 = .ok (.iload_n 1, 1) := by decide +kernel
theorem dX11_comes_6 : decode cX11_comes 6 = .ok (.iconst 0, 1) := by decide +kernel
theorem dX11_comes_7 : decode cX11_comes 7 = .ok (.iconst 1, 1) := by decide +kernel
theorem dX11_comes_8 : decode cX11_comes 8 = .ok (.invokestatic 317, 3) := by decide +kernel
theorem dX11_comes_11 : decode cX11_comes 11 = .ok (.ifCond .ne 5, 3) := by decide +kernel
theorem dX11_comes_14 : decode cX11_comes 14 = .ok (.iconst (-1), 1) := by decide +kernel
theorem dX11_comes_15 : decode cX11_comes 15 = .ok (.ireturn, 1) := by decide +kernel
theorem dX11_comes_16 : decode cX11_comes 16 = .ok (.aload_n 0, 1) := by decide +kernel
theorem dX11_comes_17 : decode cX11_comes 17 = .ok (.iconst 4, 1) := by decide +kernel
theorem dX11_comes_18 : decode cX11_comes 18 = .ok (.invokevirtual 358, 3) := by decide +kernel
theorem dX11_comes_21 : decode cX11_comes 21 = .ok (.aload_n 0, 1) := by decide +kernel
theorem dX11_comes_22 : decode cX11_comes 22 = .ok (.invokevirtual 355, 3) := by decide +kernel
theorem dX11_comes_25 : decode cX11_comes 25 = .ok (.iconst 0, 1) := by decide +kernel
theorem dX11_comes_26 : decode cX11_comes 26 = .ok (.istore_n 2, 1) := by decide +kernel
theorem dX11_comes_27 : decode cX11_comes 27 = .ok (.iconst (-1), 1) := by decide +kernel
theorem dX11_comes_28 : decode cX11_comes 28 = .ok (.istore_n 3, 1) := by decide +kernel
theorem dX11_comes_29 : decode cX11_comes 29 = .ok (.iconst 0, 1) := by decide +kernel
theorem dX11_comes_30 : decode cX11_comes 30 = .ok (.istore 4, 2) := by decide +kernel
theorem dX11_comes_32 : decode cX11_comes 32 = .ok (.iload 4, 2) := by decide +kernel
theorem dX11_comes_34 : decode cX11_comes 34 = .ok (.aload_n 0, 1) := by decide +kernel
theorem dX11_comes_35 : decode cX11_comes 35 = .ok (.invokevirtual 289, 3) := by decide +kernel
theorem dX11_comes_38 : decode cX11_comes 38 = .ok (.if_icmp .ge 58, 3) := by decide +kernel
theorem dX11_comes_41 : decode cX11_comes 41 = .ok (.aload_n 0, 1) := by decide +kernel
theorem dX11_comes_42 : decode cX11_comes 42 = .ok (.getfield 84, 3) := by decide +kernel
theorem dX11_comes_45 : decode cX11_comes 45 = .ok (.iload 4, 2) := by decide +kernel
theorem dX11_comes_47 : decode cX11_comes 47 = .ok (.iaload, 1) := by decide +kernel
theorem dX11_comes_48 : decode cX11_comes 48 = .ok (.iconst (-1), 1) := by decide +kernel
theorem dX11_comes_49 : decode cX11_comes 49 = .ok (.if_icmp .ne 6, 3) := by decide +kernel
theorem dX11_comes_52 : decode cX11_comes 52 = .ok (.goto 38, 3) := by decide +kernel
theorem dX11_comes_55 : decode cX11_comes 55 = .ok (.aload_n 0, 1) := by decide +kernel
theorem dX11_comes_56 : decode cX11_comes 56 = .ok (.iload 4, 2) := by decide +kernel
theorem dX11_comes_58 : decode cX11_comes 58 = .ok (.invokevirtual 364, 3) := by decide +kernel
theorem dX11_comes_61 : decode cX11_comes 61 = .ok (.aload_n 0, 1) := by decide +kernel
theorem dX11_comes_62 : decode cX11_comes 62 = .ok (.sipush 2000, 3) := by decide +kernel
theorem dX11_comes_65 : decode cX11_comes 65 = .ok (.invokevirtual 367, 3) := by decide +kernel
theorem dX11_comes_68 : decode cX11_comes 68 = .ok (.bipush (-2), 2) := by decide +kernel
theorem dX11_comes_70 : decode cX11_comes 70 = .ok (.if_icmp .eq 6, 3) := by decide +kernel
theorem dX11_comes_73 : decode cX11_comes 73 = .ok (.goto 17, 3) := by decide +kernel
theorem dX11_comes_76 : decode cX11_comes 76 = .ok (.iload_n 2, 1) := by decide +kernel
theorem dX11_comes_77 : decode cX11_comes 77 = .ok (.ifCond .ne 8, 3) := by decide +kernel
theorem dX11_comes_80 : decode cX11_comes 80 = .ok (.iload 4, 2) := by decide +kernel
theorem dX11_comes_82 : decode cX11_comes 82 = .ok (.goto 4, 3) := by decide +kernel
theorem dX11_comes_85 : decode cX11_comes 85 = .ok (.iload_n 3, 1) := by decide +kernel
theorem dX11_comes_86 : decode cX11_comes 86 = .ok (.istore_n 3, 1) := by decide +kernel
theorem dX11_comes_87 : decode cX11_comes 87 = .ok (.iinc 2 1, 3) := by decide +kernel
theorem dX11_comes_90 : decode cX11_comes 90 = .ok (.iinc 4 1, 3) := by decide +kernel
theorem dX11_comes_93 : decode cX11_comes 93 = .ok (.goto (-61), 3) := by decide +kernel
theorem dX11_comes_96 : decode cX11_comes 96 = .ok (.aload_n 0, 1) := by decide +kernel
theorem dX11_comes_97 : decode cX11_comes 97 = .ok (.iconst 4, 1) := by decide +kernel
theorem dX11_comes_98 : decode cX11_comes 98 = .ok (.invokevirtual 361, 3) := by decide +kernel
theorem dX11_comes_101 : decode cX11_comes 101 = .ok (.iload_n 1, 1) := by decide +kernel
theorem dX11_comes_102 : decode cX11_comes 102 = .ok (.ifCond .ne 7, 3) := by decide +kernel
theorem dX11_comes_105 : decode cX11_comes 105 = .ok (.iload_n 2, 1) := by decide +kernel
theorem dX11_comes_106 : decode cX11_comes 106 = .ok (.goto 4, 3) := by decide +kernel
theorem dX11_comes_109 : decode cX11_comes 109 = .ok (.iload_n 3, 1) := by decide +kernel
theorem dX11_comes_110 : decode cX11_comes 110 = .ok (.ireturn, 1) := by decide +kernel
theorem dX11_second_0 : decode cX11_second 0 = .ok (.aload_n 0, 1) := by decide +kernel
theorem dX11_second_1 : decode cX11_second 1 = .ok (.iconst 0, 1) := by decide +kernel
theorem dX11_second_2 : decode cX11_second 2 = .ok (.putfield 130, 3) := by decide +kernel
theorem dX11_second_5 : decode cX11_second 5 = .ok (.aload_n 0, 1) := by decide +kernel
theorem dX11_second_6 : decode cX11_second 6 = .ok (.iload_n 1, 1) := by decide +kernel
theorem dX11_second_7 : decode cX11_second 7 = .ok (.invokevirtual 321, 3) := by decide +kernel
theorem dX11_second_10 : decode cX11_second 10 = .ok (.ifCond .eq 12, 3) := by decide +kernel
theorem dX11_second_13 : decode cX11_second 13 = .ok (.iload_n 2, 1) := by decide +kernel
theorem dX11_second_14 : decode cX11_second 14 = .ok (.iconst 0, 1) := by decide +kernel
theorem dX11_second_15 : decode cX11_second 15 = .ok (.iconst 3, 1) := by decide +kernel
theorem dX11_second_16 : decode cX11_second 16 = .ok (.invokestatic 317, 3) := by decide +kernel
theorem dX11_second_19 : decode cX11_second 19 = .ok (.ifCond .ne 5, 3) := by decide +kernel
theorem dX11_second_22 : decode cX11_second 22 = .ok (.iconst (-1), 1) := by decide +kernel
theorem dX11_second_23 : decode cX11_second 23 = .ok (.ireturn, 1) := by decide +kernel
theorem dX11_second_24 : decode cX11_second 24 = .ok (.aload_n 0, 1) := by decide +kernel
theorem dX11_second_25 : decode cX11_second 25 = .ok (.iconst 4, 1) := by decide +kernel
theorem dX11_second_26 : decode cX11_second 26 = .ok (.invokevirtual 358, 3) := by decide +kernel
theorem dX11_second_29 : decode cX11_second 29 = .ok (.aload_n 0, 1) := by decide +kernel
theorem dX11_second_30 : decode cX11_second 30 = .ok (.iload_n 1, 1) := by decide +kernel
theorem dX11_second_31 : decode cX11_second 31 = .ok (.invokevirtual 364, 3) := by decide +kernel
theorem dX11_second_34 : decode cX11_second 34 = .ok (.aload_n 0, 1) := by decide +kernel
theorem dX11_second_35 : decode cX11_second 35 = .ok (.iconst 0, 1) := by decide +kernel
theorem dX11_second_36 : decode cX11_second 36 = .ok (.putfield 337, 3) := by decide +kernel
theorem dX11_second_39 : decode cX11_second 39 = .ok (.aload_n 0, 1) := by decide +kernel
theorem dX11_second_40 : decode cX11_second 40 = .ok (.sipush 2000, 3) := by decide +kernel
theorem dX11_second_43 : decode cX11_second 43 = .ok (.invokevirtual 367, 3) := by decide +kernel
theorem dX11_second_46 : decode cX11_second 46 = .ok (.istore_n 3, 1) := by decide +kernel
theorem dX11_second_47 : decode cX11_second 47 = .ok (.aload_n 0, 1) := by decide +kernel
theorem dX11_second_48 : decode cX11_second 48 = .ok (.getfield 337, 3) := by decide +kernel
theorem dX11_second_51 : decode cX11_second 51 = .ok (.istore 4, 2) := by decide +kernel
theorem dX11_second_53 : decode cX11_second 53 = .ok (.bipush (-2), 2) := by decide +kernel
theorem dX11_second_55 : decode cX11_second 55 = .ok (.istore 5, 2) := by decide +kernel
theorem dX11_second_57 : decode cX11_second 57 = .ok (.iload_n 3, 1) := by decide +kernel
theorem dX11_second_58 : decode cX11_second 58 = .ok (.bipush (-2), 2) := by decide +kernel
theorem dX11_second_60 : decode cX11_second 60 = .ok (.if_icmp .eq 37, 3) := by decide +kernel
theorem dX11_second_63 : decode cX11_second 63 = .ok (.aload_n 0, 1) := by decide +kernel
theorem dX11_second_64 : decode cX11_second 64 = .ok (.iload_n 1, 1) := by decide +kernel
theorem dX11_second_65 : decode cX11_second 65 = .ok (.putfield 295, 3) := by decide +kernel
theorem dX11_second_68 : decode cX11_second 68 = .ok (.aload_n 0, 1) := by decide +kernel
theorem dX11_second_69 : decode cX11_second 69 = .ok (.iconst 0, 1) := by decide +kernel
theorem dX11_second_70 : decode cX11_second 70 = .ok (.putfield 298, 3) := by decide +kernel
theorem dX11_second_73 : decode cX11_second 73 = .ok (.aload_n 0, 1) := by decide +kernel
theorem dX11_second_74 : decode cX11_second 74 = .ok (.iconst 0, 1) := by decide +kernel
theorem dX11_second_75 : decode cX11_second 75 = .ok (.putfield 301, 3) := by decide +kernel
theorem dX11_second_78 : decode cX11_second 78 = .ok (.aload_n 0, 1) := by decide +kernel
theorem dX11_second_79 : decode cX11_second 79 = .ok (.iconst 0, 1) := by decide +kernel
theorem dX11_second_80 : decode cX11_second 80 = .ok (.putfield 304, 3) := by decide +kernel
theorem dX11_second_83 : decode cX11_second 83 = .ok (.aload_n 0, 1) := by decide +kernel
theorem dX11_second_84 : decode cX11_second 84 = .ok (.iconst 0, 1) := by decide +kernel
theorem dX11_second_85 : decode cX11_second 85 = .ok (.putfield 337, 3) := by decide +kernel
theorem dX11_second_88 : decode cX11_second 88 = .ok (.aload_n 0, 1) := by decide +kernel
theorem dX11_second_89 : decode cX11_second 89 = .ok (.sipush 2000, 3) := by decide +kernel
theorem dX11_second_92 : decode cX11_second 92 = .ok (.invokevirtual 367, 3) := by decide +kernel
theorem dX11_second_95 : decode cX11_second 95 = .ok (.istore 5, 2) := by decide +kernel
theorem dX11_second_97 : decode cX11_second 97 = .ok (.aload_n 0, 1) := by decide +kernel
theorem dX11_second_98 : decode cX11_second 98 = .ok (.getfield 337, 3) := by decide +kernel
theorem dX11_second_101 : decode cX11_second 101 = .ok (.istore 6, 2) := by decide +kernel
theorem dX11_second_103 : decode cX11_second 103 = .ok (.aload_n 0, 1) := by decide +kernel
theorem dX11_second_104 : decode cX11_second 104 = .ok (.iconst 4, 1) := by decide +kernel
theorem dX11_second_105 : decode cX11_second 105 = .ok (.invokevirtual 361, 3) := by decide +kernel
theorem dX11_second_108 : decode cX11_second 108 = .ok (.iload_n 2, 1) := by decide +kernel
theorem dX11_second_109 : decode cX11_second 109 = .ok (.iconst 2, 1) := by decide +kernel
theorem dX11_second_110 : decode cX11_second 110 = .ok (.irem, 1) := by decide +kernel
theorem dX11_second_111 : decode cX11_second 111 = .ok (.ifCond .ne 12, 3) := by decide +kernel
theorem dX11_second_114 : decode cX11_second 114 = .ok (.iload_n 3, 1) := by decide +kernel
theorem dX11_second_115 : decode cX11_second 115 = .ok (.bipush (-2), 2) := by decide +kernel
theorem dX11_second_117 : decode cX11_second 117 = .ok (.if_icmp .ne 16, 3) := by decide +kernel
theorem dX11_second_120 : decode cX11_second 120 = .ok (.goto 10, 3) := by decide +kernel
theorem dX11_second_123 : decode cX11_second 123 = .ok (.iload 5, 2) := by decide +kernel
theorem dX11_second_125 : decode cX11_second 125 = .ok (.bipush (-2), 2) := by decide +kernel
theorem dX11_second_127 : decode cX11_second 127 = .ok (.if_icmp .ne 6, 3) := by decide +kernel
theorem dX11_second_130 : decode cX11_second 130 = .ok (.bipush (-2), 2) := by decide +kernel
theorem dX11_second_132 : decode cX11_second 132 = .ok (.ireturn, 1) := by decide +kernel
theorem dX11_second_133 : decode cX11_second 133 = .ok (.iload_n 2, 1) := by decide +kernel
theorem dX11_second_134 : decode cX11_second 134 = .ok (.ifCond .ne 7, 3) := by decide +kernel
theorem dX11_second_137 : decode cX11_second 137 = .ok (.iload_n 3, 1) := by decide +kernel
theorem dX11_second_138 : decode cX11_second 138 = .ok (.goto 25, 3) := by decide +kernel
theorem dX11_second_141 : decode cX11_second 141 = .ok (.iload_n 2, 1) := by decide +kernel
theorem dX11_second_142 : decode cX11_second 142 = .ok (.iconst 1, 1) := by decide +kernel
theorem dX11_second_143 : decode cX11_second 143 = .ok (.if_icmp .ne 8, 3) := by decide +kernel
theorem dX11_second_146 : decode cX11_second 146 = .ok (.iload 5, 2) := by decide +kernel
theorem dX11_second_148 : decode cX11_second 148 = .ok (.goto 15, 3) := by decide +kernel
theorem dX11_second_151 : decode cX11_second 151 = .ok (.iload_n 2, 1) := by decide +kernel
theorem dX11_second_152 : decode cX11_second 152 = .ok (.iconst 2, 1) := by decide +kernel
theorem dX11_second_153 : decode cX11_second 153 = .ok (.if_icmp .ne 8, 3) := by decide +kernel
theorem dX11_second_156 : decode cX11_second 156 = .ok (.iload 4, 2) := by decide +kernel
theorem dX11_second_158 : decode cX11_second 158 = .ok (.goto 5, 3) := by decide +kernel
theorem dX11_second_161 : decode cX11_second 161 = .ok (.iload 6, 2) := by decide +kernel
theorem dX11_second_163 : decode cX11_second 163 = .ok (.ireturn, 1) := by decide +kernel
theorem dX11_isSmallFloor_0 : decode cX11_isSmallFloor 0 = .ok (.iload_n 0, 1) := by decide +kernel
theorem dX11_isSmallFloor_1 : decode cX11_isSmallFloor 1 = .ok (.iconst 2, 1) := by decide +kernel
theorem dX11_isSmallFloor_2 : decode cX11_isSmallFloor 2 = .ok (.iconst 3, 1) := by decide +kernel
theorem dX11_isSmallFloor_3 : decode cX11_isSmallFloor 3 = .ok (.invokestatic 317, 3) := by decide +kernel
theorem dX11_isSmallFloor_6 : decode cX11_isSmallFloor 6 = .ok (.ifCond .eq 16, 3) := by decide +kernel
theorem dX11_isSmallFloor_9 : decode cX11_isSmallFloor 9 = .ok (.iload_n 1, 1) := by decide +kernel
theorem dX11_isSmallFloor_10 : decode cX11_isSmallFloor 10 = .ok (.iconst 2, 1) := by decide +kernel
theorem dX11_isSmallFloor_11 : decode cX11_isSmallFloor 11 = .ok (.iconst 3, 1) := by decide +kernel
theorem dX11_isSmallFloor_12 : decode cX11_isSmallFloor 12 = .ok (.invokestatic 317, 3) := by decide +kernel
theorem dX11_isSmallFloor_15 : decode cX11_isSmallFloor 15 = .ok (.ifCond .eq 7, 3) := by decide +kernel
theorem dX11_isSmallFloor_18 : decode cX11_isSmallFloor 18 = .ok (.iconst 1, 1) := by decide +kernel
theorem dX11_isSmallFloor_19 : decode cX11_isSmallFloor 19 = .ok (.goto 4, 3) := by decide +kernel
theorem dX11_isSmallFloor_22 : decode cX11_isSmallFloor 22 = .ok (.iconst 0, 1) := by decide +kernel
theorem dX11_isSmallFloor_23 : decode cX11_isSmallFloor 23 = .ok (.ireturn, 1) := by decide +kernel
theorem dX11_wallMany_0 : decode cX11_wallMany 0 = .ok (.aload_n 0, 1) := by decide +kernel
theorem dX11_wallMany_1 : decode cX11_wallMany 1 = .ok (.getfield 286, 3) := by decide +kernel
theorem dX11_wallMany_4 : decode cX11_wallMany 4 = .ok (.aload_n 0, 1) := by decide +kernel
theorem dX11_wallMany_5 : decode cX11_wallMany 5 = .ok (.getfield 283, 3) := by decide +kernel
theorem dX11_wallMany_8 : decode cX11_wallMany 8 = .ok (.iconst 1, 1) := by decide +kernel
theorem dX11_wallMany_9 : decode cX11_wallMany 9 = .ok (.isub, 1) := by decide +kernel
theorem dX11_wallMany_10 : decode cX11_wallMany 10 = .ok (.imul, 1) := by decide +kernel
theorem dX11_wallMany_11 : decode cX11_wallMany 11 = .ok (.aload_n 0, 1) := by decide +kernel
theorem dX11_wallMany_12 : decode cX11_wallMany 12 = .ok (.getfield 283, 3) := by decide +kernel
theorem dX11_wallMany_15 : decode cX11_wallMany 15 = .ok (.aload_n 0, 1) := by decide +kernel
theorem dX11_wallMany_16 : decode cX11_wallMany 16 = .ok (.getfield 286, 3) := by decide +kernel
theorem dX11_wallMany_19 : decode cX11_wallMany 19 = .ok (.iconst 1, 1) := by decide +kernel
theorem dX11_wallMany_20 : decode cX11_wallMany 20 = .ok (.isub, 1) := by decide +kernel
theorem dX11_wallMany_21 : decode cX11_wallMany 21 = .ok (.imul, 1) := by decide +kernel
theorem dX11_wallMany_22 : decode cX11_wallMany 22 = .ok (.iadd, 1) := by decide +kernel
theorem dX11_wallMany_23 : decode cX11_wallMany 23 = .ok (.ireturn, 1) := by decide +kernel
theorem dX11_wallAt_0 : decode cX11_wallAt 0 = .ok (.aload_n 0, 1) := by decide +kernel
theorem dX11_wallAt_1 : decode cX11_wallAt 1 = .ok (.getfield 286, 3) := by decide +kernel
theorem dX11_wallAt_4 : decode cX11_wallAt 4 = .ok (.aload_n 0, 1) := by decide +kernel
theorem dX11_wallAt_5 : decode cX11_wallAt 5 = .ok (.getfield 283, 3) := by decide +kernel
theorem dX11_wallAt_8 : decode cX11_wallAt 8 = .ok (.iconst 1, 1) := by decide +kernel
theorem dX11_wallAt_9 : decode cX11_wallAt 9 = .ok (.isub, 1) := by decide +kernel
theorem dX11_wallAt_10 : decode cX11_wallAt 10 = .ok (.imul, 1) := by decide +kernel
theorem dX11_wallAt_11 : decode cX11_wallAt 11 = .ok (.istore_n 2, 1) := by decide +kernel
theorem dX11_wallAt_12 : decode cX11_wallAt 12 = .ok (.iload_n 1, 1) := by decide +kernel
theorem dX11_wallAt_13 : decode cX11_wallAt 13 = .ok (.iload_n 2, 1) := by decide +kernel
theorem dX11_wallAt_14 : decode cX11_wallAt 14 = .ok (.if_icmp .ge 30, 3) := by decide +kernel
theorem dX11_wallAt_17 : decode cX11_wallAt 17 = .ok (.iconst 4, 1) := by decide +kernel
theorem dX11_wallAt_18 : decode cX11_wallAt 18 = .ok (.iload_n 1, 1) := by decide +kernel
theorem dX11_wallAt_19 : decode cX11_wallAt 19 = .ok (.aload_n 0, 1) := by decide +kernel
theorem dX11_wallAt_20 : decode cX11_wallAt 20 = .ok (.getfield 283, 3) := by decide +kernel
theorem dX11_wallAt_23 : decode cX11_wallAt 23 = .ok (.iconst 1, 1) := by decide +kernel
theorem dX11_wallAt_24 : decode cX11_wallAt 24 = .ok (.isub, 1) := by decide +kernel
theorem dX11_wallAt_25 : decode cX11_wallAt 25 = .ok (.idiv, 1) := by decide +kernel
theorem dX11_wallAt_26 : decode cX11_wallAt 26 = .ok (.aload_n 0, 1) := by decide +kernel
theorem dX11_wallAt_27 : decode cX11_wallAt 27 = .ok (.getfield 283, 3) := by decide +kernel
theorem dX11_wallAt_30 : decode cX11_wallAt 30 = .ok (.imul, 1) := by decide +kernel
theorem dX11_wallAt_31 : decode cX11_wallAt 31 = .ok (.iload_n 1, 1) := by decide +kernel
theorem dX11_wallAt_32 : decode cX11_wallAt 32 = .ok (.aload_n 0, 1) := by decide +kernel
theorem dX11_wallAt_33 : decode cX11_wallAt 33 = .ok (.getfield 283, 3) := by decide +kernel
theorem dX11_wallAt_36 : decode cX11_wallAt 36 = .ok (.iconst 1, 1) := by decide +kernel
theorem dX11_wallAt_37 : decode cX11_wallAt 37 = .ok (.isub, 1) := by decide +kernel
theorem dX11_wallAt_38 : decode cX11_wallAt 38 = .ok (.irem, 1) := by decide +kernel
theorem dX11_wallAt_39 : decode cX11_wallAt 39 = .ok (.iadd, 1) := by decide +kernel
theorem dX11_wallAt_40 : decode cX11_wallAt 40 = .ok (.imul, 1) := by decide +kernel
theorem dX11_wallAt_41 : decode cX11_wallAt 41 = .ok (.iconst 1, 1) := by decide +kernel
theorem dX11_wallAt_42 : decode cX11_wallAt 42 = .ok (.iadd, 1) := by decide +kernel
theorem dX11_wallAt_43 : decode cX11_wallAt 43 = .ok (.ireturn, 1) := by decide +kernel
theorem dX11_wallAt_44 : decode cX11_wallAt 44 = .ok (.iconst 4, 1) := by decide +kernel
theorem dX11_wallAt_45 : decode cX11_wallAt 45 = .ok (.iload_n 1, 1) := by decide +kernel
theorem dX11_wallAt_46 : decode cX11_wallAt 46 = .ok (.iload_n 2, 1) := by decide +kernel
theorem dX11_wallAt_47 : decode cX11_wallAt 47 = .ok (.isub, 1) := by decide +kernel
theorem dX11_wallAt_48 : decode cX11_wallAt 48 = .ok (.imul, 1) := by decide +kernel
theorem dX11_wallAt_49 : decode cX11_wallAt 49 = .ok (.iconst 2, 1) := by decide +kernel
theorem dX11_wallAt_50 : decode cX11_wallAt 50 = .ok (.iadd, 1) := by decide +kernel
theorem dX11_wallAt_51 : decode cX11_wallAt 51 = .ok (.ireturn, 1) := by decide +kernel
theorem dX11_small_0 : decode cX11_small 0 = .ok (.aload_n 0, 1) := by decide +kernel
theorem dX11_small_1 : decode cX11_small 1 = .ok (.iload_n 1, 1) := by decide +kernel
theorem dX11_small_2 : decode cX11_small 2 = .ok (.putfield 283, 3) := by decide +kernel
theorem dX11_small_5 : decode cX11_small 5 = .ok (.aload_n 0, 1) := by decide +kernel
theorem dX11_small_6 : decode cX11_small 6 = .ok (.iload_n 2, 1) := by decide +kernel
theorem dX11_small_7 : decode cX11_small 7 = .ok (.putfield 286, 3) := by decide +kernel
theorem dX11_small_10 : decode cX11_small 10 = .ok (.aload_n 0, 1) := by decide +kernel
theorem dX11_small_11 : decode cX11_small 11 = .ok (.iload_n 1, 1) := by decide +kernel
theorem dX11_small_12 : decode cX11_small 12 = .ok (.iload_n 2, 1) := by decide +kernel
theorem dX11_small_13 : decode cX11_small 13 = .ok (.imul, 1) := by decide +kernel
theorem dX11_small_14 : decode cX11_small 14 = .ok (.iconst 1, 1) := by decide +kernel
theorem dX11_small_15 : decode cX11_small 15 = .ok (.isub, 1) := by decide +kernel
theorem dX11_small_16 : decode cX11_small 16 = .ok (.putfield 292, 3) := by decide +kernel
theorem dX11_small_19 : decode cX11_small 19 = .ok (.return_, 1) := by decide +kernel
theorem dX11_wallsBy_0 : decode cX11_wallsBy 0 = .ok (.aload_n 0, 1) := by decide +kernel
theorem dX11_wallsBy_1 : decode cX11_wallsBy 1 = .ok (.invokevirtual 307, 3) := by decide +kernel
theorem dX11_wallsBy_4 : decode cX11_wallsBy 4 = .ok (.iconst 0, 1) := by decide +kernel
theorem dX11_wallsBy_5 : decode cX11_wallsBy 5 = .ok (.istore_n 2, 1) := by decide +kernel
theorem dX11_wallsBy_6 : decode cX11_wallsBy 6 = .ok (.iload_n 2, 1) := by decide +kernel
theorem dX11_wallsBy_7 : decode cX11_wallsBy 7 = .ok (.aload_n 0, 1) := by decide +kernel
theorem dX11_wallsBy_8 : decode cX11_wallsBy 8 = .ok (.invokevirtual 370, 3) := by decide +kernel
theorem dX11_wallsBy_11 : decode cX11_wallsBy 11 = .ok (.if_icmp .ge 36, 3) := by decide +kernel
theorem dX11_wallsBy_14 : decode cX11_wallsBy 14 = .ok (.iload_n 1, 1) := by decide +kernel
theorem dX11_wallsBy_15 : decode cX11_wallsBy 15 = .ok (.iload_n 2, 1) := by decide +kernel
theorem dX11_wallsBy_16 : decode cX11_wallsBy 16 = .ok (.invokestatic 310, 3) := by decide +kernel
theorem dX11_wallsBy_19 : decode cX11_wallsBy 19 = .ok (.ifCond .eq 22, 3) := by decide +kernel
theorem dX11_wallsBy_22 : decode cX11_wallsBy 22 = .ok (.aload_n 0, 1) := by decide +kernel
theorem dX11_wallsBy_23 : decode cX11_wallsBy 23 = .ok (.aload_n 0, 1) := by decide +kernel
theorem dX11_wallsBy_24 : decode cX11_wallsBy 24 = .ok (.iload_n 2, 1) := by decide +kernel
theorem dX11_wallsBy_25 : decode cX11_wallsBy 25 = .ok (.invokevirtual 373, 3) := by decide +kernel
theorem dX11_wallsBy_28 : decode cX11_wallsBy 28 = .ok (.iconst 4, 1) := by decide +kernel
theorem dX11_wallsBy_29 : decode cX11_wallsBy 29 = .ok (.idiv, 1) := by decide +kernel
theorem dX11_wallsBy_30 : decode cX11_wallsBy 30 = .ok (.aload_n 0, 1) := by decide +kernel
theorem dX11_wallsBy_31 : decode cX11_wallsBy 31 = .ok (.iload_n 2, 1) := by decide +kernel
theorem dX11_wallsBy_32 : decode cX11_wallsBy 32 = .ok (.invokevirtual 373, 3) := by decide +kernel
theorem dX11_wallsBy_35 : decode cX11_wallsBy 35 = .ok (.iconst 4, 1) := by decide +kernel
theorem dX11_wallsBy_36 : decode cX11_wallsBy 36 = .ok (.irem, 1) := by decide +kernel
theorem dX11_wallsBy_37 : decode cX11_wallsBy 37 = .ok (.iconst 1, 1) := by decide +kernel
theorem dX11_wallsBy_38 : decode cX11_wallsBy 38 = .ok (.invokevirtual 330, 3) := by decide +kernel
theorem dX11_wallsBy_41 : decode cX11_wallsBy 41 = .ok (.iinc 2 1, 3) := by decide +kernel
theorem dX11_wallsBy_44 : decode cX11_wallsBy 44 = .ok (.goto (-38), 3) := by decide +kernel
theorem dX11_wallsBy_47 : decode cX11_wallsBy 47 = .ok (.aload_n 0, 1) := by decide +kernel
theorem dX11_wallsBy_48 : decode cX11_wallsBy 48 = .ok (.invokevirtual 355, 3) := by decide +kernel
theorem dX11_wallsBy_51 : decode cX11_wallsBy 51 = .ok (.return_, 1) := by decide +kernel
theorem dX11_laySmall_0 : decode cX11_laySmall 0 = .ok (.iconst 4, 1) := by decide +kernel
theorem dX11_laySmall_1 : decode cX11_laySmall 1 = .ok (.iload_n 1, 1) := by decide +kernel
theorem dX11_laySmall_2 : decode cX11_laySmall 2 = .ok (.iconst 2, 1) := by decide +kernel
theorem dX11_laySmall_3 : decode cX11_laySmall 3 = .ok (.isub, 1) := by decide +kernel
theorem dX11_laySmall_4 : decode cX11_laySmall 4 = .ok (.imul, 1) := by decide +kernel
theorem dX11_laySmall_5 : decode cX11_laySmall 5 = .ok (.iload_n 2, 1) := by decide +kernel
theorem dX11_laySmall_6 : decode cX11_laySmall 6 = .ok (.iadd, 1) := by decide +kernel
theorem dX11_laySmall_7 : decode cX11_laySmall 7 = .ok (.iconst 2, 1) := by decide +kernel
theorem dX11_laySmall_8 : decode cX11_laySmall 8 = .ok (.isub, 1) := by decide +kernel
theorem dX11_laySmall_9 : decode cX11_laySmall 9 = .ok (.istore_n 3, 1) := by decide +kernel
theorem dX11_laySmall_10 : decode cX11_laySmall 10 = .ok (.aload_n 0, 1) := by decide +kernel
theorem dX11_laySmall_11 : decode cX11_laySmall 11 = .ok (.getfield 96, 3) := by decide +kernel
theorem dX11_laySmall_14 : decode cX11_laySmall 14 = .ok (.iload_n 3, 1) := by decide +kernel
theorem dX11_laySmall_15 : decode cX11_laySmall 15 = .ok (.baload, 1) := by decide +kernel
theorem dX11_laySmall_16 : decode cX11_laySmall 16 = .ok (.ifCond .eq 4, 3) := by decide +kernel
theorem dX11_laySmall_19 : decode cX11_laySmall 19 = .ok (.return_, 1) := by decide +kernel
theorem dX11_laySmall_20 : decode cX11_laySmall 20 = .ok (.aload_n 0, 1) := by decide +kernel
theorem dX11_laySmall_21 : decode cX11_laySmall 21 = .ok (.getfield 96, 3) := by decide +kernel
theorem dX11_laySmall_24 : decode cX11_laySmall 24 = .ok (.iload_n 3, 1) := by decide +kernel
theorem dX11_laySmall_25 : decode cX11_laySmall 25 = .ok (.iconst 1, 1) := by decide +kernel
theorem dX11_laySmall_26 : decode cX11_laySmall 26 = .ok (.bastore, 1) := by decide +kernel
theorem dX11_laySmall_27 : decode cX11_laySmall 27 = .ok (.aload_n 0, 1) := by decide +kernel
theorem dX11_laySmall_28 : decode cX11_laySmall 28 = .ok (.iconst 4, 1) := by decide +kernel
theorem dX11_laySmall_29 : decode cX11_laySmall 29 = .ok (.invokevirtual 358, 3) := by decide +kernel
theorem dX11_laySmall_32 : decode cX11_laySmall 32 = .ok (.aload_n 0, 1) := by decide +kernel
theorem dX11_laySmall_33 : decode cX11_laySmall 33 = .ok (.iload_n 1, 1) := by decide +kernel
theorem dX11_laySmall_34 : decode cX11_laySmall 34 = .ok (.iload_n 2, 1) := by decide +kernel
theorem dX11_laySmall_35 : decode cX11_laySmall 35 = .ok (.invokevirtual 376, 3) := by decide +kernel
theorem dX11_laySmall_38 : decode cX11_laySmall 38 = .ok (.aload_n 0, 1) := by decide +kernel
theorem dX11_laySmall_39 : decode cX11_laySmall 39 = .ok (.getfield 99, 3) := by decide +kernel
theorem dX11_laySmall_42 : decode cX11_laySmall 42 = .ok (.iload_n 3, 1) := by decide +kernel
theorem dX11_laySmall_43 : decode cX11_laySmall 43 = .ok (.bipush (-2), 2) := by decide +kernel
theorem dX11_laySmall_45 : decode cX11_laySmall 45 = .ok (.iastore, 1) := by decide +kernel
theorem dX11_laySmall_46 : decode cX11_laySmall 46 = .ok (.aload_n 0, 1) := by decide +kernel
theorem dX11_laySmall_47 : decode cX11_laySmall 47 = .ok (.getfield 102, 3) := by decide +kernel
theorem dX11_laySmall_50 : decode cX11_laySmall 50 = .ok (.iload_n 3, 1) := by decide +kernel
theorem dX11_laySmall_51 : decode cX11_laySmall 51 = .ok (.bipush (-2), 2) := by decide +kernel
theorem dX11_laySmall_53 : decode cX11_laySmall 53 = .ok (.iastore, 1) := by decide +kernel
theorem dX11_laySmall_54 : decode cX11_laySmall 54 = .ok (.aload_n 0, 1) := by decide +kernel
theorem dX11_laySmall_55 : decode cX11_laySmall 55 = .ok (.getfield 105, 3) := by decide +kernel
theorem dX11_laySmall_58 : decode cX11_laySmall 58 = .ok (.iload_n 3, 1) := by decide +kernel
theorem dX11_laySmall_59 : decode cX11_laySmall 59 = .ok (.iconst (-1), 1) := by decide +kernel
theorem dX11_laySmall_60 : decode cX11_laySmall 60 = .ok (.iastore, 1) := by decide +kernel
theorem dX11_laySmall_61 : decode cX11_laySmall 61 = .ok (.iconst 0, 1) := by decide +kernel
theorem dX11_laySmall_62 : decode cX11_laySmall 62 = .ok (.istore 4, 2) := by decide +kernel
theorem dX11_laySmall_64 : decode cX11_laySmall 64 = .ok (.iload 4, 2) := by decide +kernel
theorem dX11_laySmall_66 : decode cX11_laySmall 66 = .ok (.iconst 1, 1) := by decide +kernel
theorem dX11_laySmall_67 : decode cX11_laySmall 67 = .ok (.aload_n 0, 1) := by decide +kernel
theorem dX11_laySmall_68 : decode cX11_laySmall 68 = .ok (.invokevirtual 370, 3) := by decide +kernel
theorem dX11_laySmall_71 : decode cX11_laySmall 71 = .ok (.ishl, 1) := by decide +kernel
theorem dX11_laySmall_72 : decode cX11_laySmall 72 = .ok (.if_icmp .ge 53, 3) := by decide +kernel
theorem dX11_laySmall_75 : decode cX11_laySmall 75 = .ok (.aload_n 0, 1) := by decide +kernel
theorem dX11_laySmall_76 : decode cX11_laySmall 76 = .ok (.iload 4, 2) := by decide +kernel
theorem dX11_laySmall_78 : decode cX11_laySmall 78 = .ok (.invokevirtual 379, 3) := by decide +kernel
theorem dX11_laySmall_81 : decode cX11_laySmall 81 = .ok (.iconst 0, 1) := by decide +kernel
theorem dX11_laySmall_82 : decode cX11_laySmall 82 = .ok (.istore 5, 2) := by decide +kernel
theorem dX11_laySmall_84 : decode cX11_laySmall 84 = .ok (.iload 5, 2) := by decide +kernel
theorem dX11_laySmall_86 : decode cX11_laySmall 86 = .ok (.aload_n 0, 1) := by decide +kernel
theorem dX11_laySmall_87 : decode cX11_laySmall 87 = .ok (.invokevirtual 289, 3) := by decide +kernel
theorem dX11_laySmall_90 : decode cX11_laySmall 90 = .ok (.if_icmp .ge 29, 3) := by decide +kernel
theorem dX11_laySmall_93 : decode cX11_laySmall 93 = .ok (.aload_n 0, 1) := by decide +kernel
theorem dX11_laySmall_94 : decode cX11_laySmall 94 = .ok (.getfield 84, 3) := by decide +kernel
theorem dX11_laySmall_97 : decode cX11_laySmall 97 = .ok (.iload 5, 2) := by decide +kernel
theorem dX11_laySmall_99 : decode cX11_laySmall 99 = .ok (.iaload, 1) := by decide +kernel
theorem dX11_laySmall_100 : decode cX11_laySmall 100 = .ok (.iconst (-1), 1) := by decide +kernel
theorem dX11_laySmall_101 : decode cX11_laySmall 101 = .ok (.if_icmp .eq 12, 3) := by decide +kernel
theorem dX11_laySmall_104 : decode cX11_laySmall 104 = .ok (.aload_n 0, 1) := by decide +kernel
theorem dX11_laySmall_105 : decode cX11_laySmall 105 = .ok (.iload_n 3, 1) := by decide +kernel
theorem dX11_laySmall_106 : decode cX11_laySmall 106 = .ok (.iload 4, 2) := by decide +kernel
theorem dX11_laySmall_108 : decode cX11_laySmall 108 = .ok (.iload 5, 2) := by decide +kernel
theorem dX11_laySmall_110 : decode cX11_laySmall 110 = .ok (.invokevirtual 382, 3) := by decide +kernel
theorem dX11_laySmall_113 : decode cX11_laySmall 113 = .ok (.iinc 5 1, 3) := by decide +kernel
theorem dX11_laySmall_116 : decode cX11_laySmall 116 = .ok (.goto (-32), 3) := by decide +kernel
theorem dX11_laySmall_119 : decode cX11_laySmall 119 = .ok (.iinc 4 1, 3) := by decide +kernel
theorem dX11_laySmall_122 : decode cX11_laySmall 122 = .ok (.goto (-58), 3) := by decide +kernel
theorem dX11_laySmall_125 : decode cX11_laySmall 125 = .ok (.aload_n 0, 1) := by decide +kernel
theorem dX11_laySmall_126 : decode cX11_laySmall 126 = .ok (.iconst 4, 1) := by decide +kernel
theorem dX11_laySmall_127 : decode cX11_laySmall 127 = .ok (.invokevirtual 361, 3) := by decide +kernel
theorem dX11_laySmall_130 : decode cX11_laySmall 130 = .ok (.return_, 1) := by decide +kernel
theorem dX11_laySmallRun_0 : decode cX11_laySmallRun 0 = .ok (.aload_n 0, 1) := by decide +kernel
theorem dX11_laySmallRun_1 : decode cX11_laySmallRun 1 = .ok (.iload_n 3, 1) := by decide +kernel
theorem dX11_laySmallRun_2 : decode cX11_laySmallRun 2 = .ok (.invokevirtual 364, 3) := by decide +kernel
theorem dX11_laySmallRun_5 : decode cX11_laySmallRun 5 = .ok (.aload_n 0, 1) := by decide +kernel
theorem dX11_laySmallRun_6 : decode cX11_laySmallRun 6 = .ok (.bipush 100, 2) := by decide +kernel
theorem dX11_laySmallRun_8 : decode cX11_laySmallRun 8 = .ok (.invokevirtual 367, 3) := by decide +kernel
theorem dX11_laySmallRun_11 : decode cX11_laySmallRun 11 = .ok (.istore 4, 2) := by decide +kernel
theorem dX11_laySmallRun_13 : decode cX11_laySmallRun 13 = .ok (.iload 4, 2) := by decide +kernel
theorem dX11_laySmallRun_15 : decode cX11_laySmallRun 15 = .ok (.bipush (-2), 2) := by decide +kernel
theorem dX11_laySmallRun_17 : decode cX11_laySmallRun 17 = .ok (.if_icmp .ne 28, 3) := by decide +kernel
theorem dX11_laySmallRun_20 : decode cX11_laySmallRun 20 = .ok (.aload_n 0, 1) := by decide +kernel
theorem dX11_laySmallRun_21 : decode cX11_laySmallRun 21 = .ok (.getfield 99, 3) := by decide +kernel
theorem dX11_laySmallRun_24 : decode cX11_laySmallRun 24 = .ok (.iload_n 1, 1) := by decide +kernel
theorem dX11_laySmallRun_25 : decode cX11_laySmallRun 25 = .ok (.iaload, 1) := by decide +kernel
theorem dX11_laySmallRun_26 : decode cX11_laySmallRun 26 = .ok (.bipush (-2), 2) := by decide +kernel
theorem dX11_laySmallRun_28 : decode cX11_laySmallRun 28 = .ok (.if_icmp .ne 17, 3) := by decide +kernel
theorem dX11_laySmallRun_31 : decode cX11_laySmallRun 31 = .ok (.aload_n 0, 1) := by decide +kernel
theorem dX11_laySmallRun_32 : decode cX11_laySmallRun 32 = .ok (.getfield 99, 3) := by decide +kernel
theorem dX11_laySmallRun_35 : decode cX11_laySmallRun 35 = .ok (.iload_n 1, 1) := by decide +kernel
theorem dX11_laySmallRun_36 : decode cX11_laySmallRun 36 = .ok (.iload_n 2, 1) := by decide +kernel
theorem dX11_laySmallRun_37 : decode cX11_laySmallRun 37 = .ok (.iastore, 1) := by decide +kernel
theorem dX11_laySmallRun_38 : decode cX11_laySmallRun 38 = .ok (.aload_n 0, 1) := by decide +kernel
theorem dX11_laySmallRun_39 : decode cX11_laySmallRun 39 = .ok (.getfield 102, 3) := by decide +kernel
theorem dX11_laySmallRun_42 : decode cX11_laySmallRun 42 = .ok (.iload_n 1, 1) := by decide +kernel
theorem dX11_laySmallRun_43 : decode cX11_laySmallRun 43 = .ok (.iload_n 3, 1) := by decide +kernel
theorem dX11_laySmallRun_44 : decode cX11_laySmallRun 44 = .ok (.iastore, 1) := by decide +kernel
theorem dX11_laySmallRun_45 : decode cX11_laySmallRun 45 = .ok (.iload 4, 2) := by decide +kernel
theorem dX11_laySmallRun_47 : decode cX11_laySmallRun 47 = .ok (.aload_n 0, 1) := by decide +kernel
theorem dX11_laySmallRun_48 : decode cX11_laySmallRun 48 = .ok (.getfield 105, 3) := by decide +kernel
theorem dX11_laySmallRun_51 : decode cX11_laySmallRun 51 = .ok (.iload_n 1, 1) := by decide +kernel
theorem dX11_laySmallRun_52 : decode cX11_laySmallRun 52 = .ok (.iaload, 1) := by decide +kernel
theorem dX11_laySmallRun_53 : decode cX11_laySmallRun 53 = .ok (.if_icmp .le 25, 3) := by decide +kernel
theorem dX11_laySmallRun_56 : decode cX11_laySmallRun 56 = .ok (.aload_n 0, 1) := by decide +kernel
theorem dX11_laySmallRun_57 : decode cX11_laySmallRun 57 = .ok (.getfield 105, 3) := by decide +kernel
theorem dX11_laySmallRun_60 : decode cX11_laySmallRun 60 = .ok (.iload_n 1, 1) := by decide +kernel
theorem dX11_laySmallRun_61 : decode cX11_laySmallRun 61 = .ok (.iload 4, 2) := by decide +kernel
theorem dX11_laySmallRun_63 : decode cX11_laySmallRun 63 = .ok (.iastore, 1) := by decide +kernel
theorem dX11_laySmallRun_64 : decode cX11_laySmallRun 64 = .ok (.aload_n 0, 1) := by decide +kernel
theorem dX11_laySmallRun_65 : decode cX11_laySmallRun 65 = .ok (.getfield 108, 3) := by decide +kernel
theorem dX11_laySmallRun_68 : decode cX11_laySmallRun 68 = .ok (.iload_n 1, 1) := by decide +kernel
theorem dX11_laySmallRun_69 : decode cX11_laySmallRun 69 = .ok (.iload_n 2, 1) := by decide +kernel
theorem dX11_laySmallRun_70 : decode cX11_laySmallRun 70 = .ok (.iastore, 1) := by decide +kernel
theorem dX11_laySmallRun_71 : decode cX11_laySmallRun 71 = .ok (.aload_n 0, 1) := by decide +kernel
theorem dX11_laySmallRun_72 : decode cX11_laySmallRun 72 = .ok (.getfield 111, 3) := by decide +kernel
theorem dX11_laySmallRun_75 : decode cX11_laySmallRun 75 = .ok (.iload_n 1, 1) := by decide +kernel
theorem dX11_laySmallRun_76 : decode cX11_laySmallRun 76 = .ok (.iload_n 3, 1) := by decide +kernel
theorem dX11_laySmallRun_77 : decode cX11_laySmallRun 77 = .ok (.iastore, 1) := by decide +kernel
theorem dX11_laySmallRun_78 : decode cX11_laySmallRun 78 = .ok (.return_, 1) := by decide +kernel
theorem dX11_held_0 : decode cX11_held 0 = .ok (.aload_n 0, 1) := by decide +kernel
theorem dX11_held_1 : decode cX11_held 1 = .ok (.iconst 0, 1) := by decide +kernel
theorem dX11_held_2 : decode cX11_held 2 = .ok (.putfield 130, 3) := by decide +kernel
theorem dX11_held_5 : decode cX11_held 5 = .ok (.iload_n 1, 1) := by decide +kernel
theorem dX11_held_6 : decode cX11_held 6 = .ok (.iload_n 2, 1) := by decide +kernel
theorem dX11_held_7 : decode cX11_held 7 = .ok (.invokestatic 385, 3) := by decide +kernel
theorem dX11_held_10 : decode cX11_held 10 = .ok (.ifCond .eq 12, 3) := by decide +kernel
theorem dX11_held_13 : decode cX11_held 13 = .ok (.iload_n 3, 1) := by decide +kernel
theorem dX11_held_14 : decode cX11_held 14 = .ok (.iconst 0, 1) := by decide +kernel
theorem dX11_held_15 : decode cX11_held 15 = .ok (.iconst 1, 1) := by decide +kernel
theorem dX11_held_16 : decode cX11_held 16 = .ok (.invokestatic 317, 3) := by decide +kernel
theorem dX11_held_19 : decode cX11_held 19 = .ok (.ifCond .ne 5, 3) := by decide +kernel
theorem dX11_held_22 : decode cX11_held 22 = .ok (.iconst (-1), 1) := by decide +kernel
theorem dX11_held_23 : decode cX11_held 23 = .ok (.ireturn, 1) := by decide +kernel
theorem dX11_held_24 : decode cX11_held 24 = .ok (.aload_n 0, 1) := by decide +kernel
theorem dX11_held_25 : decode cX11_held 25 = .ok (.iload_n 1, 1) := by decide +kernel
theorem dX11_held_26 : decode cX11_held 26 = .ok (.iload_n 2, 1) := by decide +kernel
theorem dX11_held_27 : decode cX11_held 27 = .ok (.invokevirtual 388, 3) := by decide +kernel
theorem dX11_held_30 : decode cX11_held 30 = .ok (.iconst 4, 1) := by decide +kernel
theorem dX11_held_31 : decode cX11_held 31 = .ok (.iload_n 1, 1) := by decide +kernel
theorem dX11_held_32 : decode cX11_held 32 = .ok (.iconst 2, 1) := by decide +kernel
theorem dX11_held_33 : decode cX11_held 33 = .ok (.isub, 1) := by decide +kernel
theorem dX11_held_34 : decode cX11_held 34 = .ok (.imul, 1) := by decide +kernel
theorem dX11_held_35 : decode cX11_held 35 = .ok (.iload_n 2, 1) := by decide +kernel
theorem dX11_held_36 : decode cX11_held 36 = .ok (.iadd, 1) := by decide +kernel
theorem dX11_held_37 : decode cX11_held 37 = .ok (.iconst 2, 1) := by decide +kernel
theorem dX11_held_38 : decode cX11_held 38 = .ok (.isub, 1) := by decide +kernel
theorem dX11_held_39 : decode cX11_held 39 = .ok (.istore 4, 2) := by decide +kernel
theorem dX11_held_41 : decode cX11_held 41 = .ok (.iload_n 3, 1) := by decide +kernel
theorem dX11_held_42 : decode cX11_held 42 = .ok (.ifCond .ne 13, 3) := by decide +kernel
theorem dX11_held_45 : decode cX11_held 45 = .ok (.aload_n 0, 1) := by decide +kernel
theorem dX11_held_46 : decode cX11_held 46 = .ok (.getfield 99, 3) := by decide +kernel
theorem dX11_held_49 : decode cX11_held 49 = .ok (.iload 4, 2) := by decide +kernel
theorem dX11_held_51 : decode cX11_held 51 = .ok (.iaload, 1) := by decide +kernel
theorem dX11_held_52 : decode cX11_held 52 = .ok (.goto 10, 3) := by decide +kernel
theorem dX11_held_55 : decode cX11_held 55 = .ok (.aload_n 0, 1) := by decide +kernel
theorem dX11_held_56 : decode cX11_held 56 = .ok (.getfield 102, 3) := by decide +kernel
theorem dX11_held_59 : decode cX11_held 59 = .ok (.iload 4, 2) := by decide +kernel
theorem dX11_held_61 : decode cX11_held 61 = .ok (.iaload, 1) := by decide +kernel
theorem dX11_held_62 : decode cX11_held 62 = .ok (.ireturn, 1) := by decide +kernel
theorem dX11_longest_0 : decode cX11_longest 0 = .ok (.aload_n 0, 1) := by decide +kernel
theorem dX11_longest_1 : decode cX11_longest 1 = .ok (.iconst 0, 1) := by decide +kernel
theorem dX11_longest_2 : decode cX11_longest 2 = .ok (.putfield 130, 3) := by decide +kernel
theorem dX11_longest_5 : decode cX11_longest 5 = .ok (.iload_n 1, 1) := by decide +kernel
theorem dX11_longest_6 : decode cX11_longest 6 = .ok (.iload_n 2, 1) := by decide +kernel
theorem dX11_longest_7 : decode cX11_longest 7 = .ok (.invokestatic 385, 3) := by decide +kernel
theorem dX11_longest_10 : decode cX11_longest 10 = .ok (.ifCond .eq 12, 3) := by decide +kernel
theorem dX11_longest_13 : decode cX11_longest 13 = .ok (.iload_n 3, 1) := by decide +kernel
theorem dX11_longest_14 : decode cX11_longest 14 = .ok (.iconst 0, 1) := by decide +kernel
theorem dX11_longest_15 : decode cX11_longest 15 = .ok (.iconst 2, 1) := by decide +kernel
theorem dX11_longest_16 : decode cX11_longest 16 = .ok (.invokestatic 317, 3) := by decide +kernel
theorem dX11_longest_19 : decode cX11_longest 19 = .ok (.ifCond .ne 5, 3) := by decide +kernel
theorem dX11_longest_22 : decode cX11_longest 22 = .ok (.iconst (-1), 1) := by decide +kernel
theorem dX11_longest_23 : decode cX11_longest 23 = .ok (.ireturn, 1) := by decide +kernel
theorem dX11_longest_24 : decode cX11_longest 24 = .ok (.aload_n 0, 1) := by decide +kernel
theorem dX11_longest_25 : decode cX11_longest 25 = .ok (.iload_n 1, 1) := by decide +kernel
theorem dX11_longest_26 : decode cX11_longest 26 = .ok (.iload_n 2, 1) := by decide +kernel
theorem dX11_longest_27 : decode cX11_longest 27 = .ok (.invokevirtual 388, 3) := by decide +kernel
theorem dX11_longest_30 : decode cX11_longest 30 = .ok (.iconst 4, 1) := by decide +kernel
theorem dX11_longest_31 : decode cX11_longest 31 = .ok (.iload_n 1, 1) := by decide +kernel
theorem dX11_longest_32 : decode cX11_longest 32 = .ok (.iconst 2, 1) := by decide +kernel
theorem dX11_longest_33 : decode cX11_longest 33 = .ok (.isub, 1) := by decide +kernel
theorem dX11_longest_34 : decode cX11_longest 34 = .ok (.imul, 1) := by decide +kernel
theorem dX11_longest_35 : decode cX11_longest 35 = .ok (.iload_n 2, 1) := by decide +kernel
theorem dX11_longest_36 : decode cX11_longest 36 = .ok (.iadd, 1) := by decide +kernel
theorem dX11_longest_37 : decode cX11_longest 37 = .ok (.iconst 2, 1) := by decide +kernel
theorem dX11_longest_38 : decode cX11_longest 38 = .ok (.isub, 1) := by decide +kernel
theorem dX11_longest_39 : decode cX11_longest 39 = .ok (.istore 4, 2) := by decide +kernel
theorem dX11_longest_41 : decode cX11_longest 41 = .ok (.iload_n 3, 1) := by decide +kernel
theorem dX11_longest_42 : decode cX11_longest 42 = .ok (.ifCond .ne 13, 3) := by decide +kernel
theorem dX11_longest_45 : decode cX11_longest 45 = .ok (.aload_n 0, 1) := by decide +kernel
theorem dX11_longest_46 : decode cX11_longest 46 = .ok (.getfield 105, 3) := by decide +kernel
theorem dX11_longest_49 : decode cX11_longest 49 = .ok (.iload 4, 2) := by decide +kernel
theorem dX11_longest_51 : decode cX11_longest 51 = .ok (.iaload, 1) := by decide +kernel
theorem dX11_longest_52 : decode cX11_longest 52 = .ok (.goto 25, 3) := by decide +kernel
theorem dX11_longest_55 : decode cX11_longest 55 = .ok (.iload_n 3, 1) := by decide +kernel
theorem dX11_longest_56 : decode cX11_longest 56 = .ok (.iconst 1, 1) := by decide +kernel
theorem dX11_longest_57 : decode cX11_longest 57 = .ok (.if_icmp .ne 13, 3) := by decide +kernel
theorem dX11_longest_60 : decode cX11_longest 60 = .ok (.aload_n 0, 1) := by decide +kernel
theorem dX11_longest_61 : decode cX11_longest 61 = .ok (.getfield 108, 3) := by decide +kernel
theorem dX11_longest_64 : decode cX11_longest 64 = .ok (.iload 4, 2) := by decide +kernel
theorem dX11_longest_66 : decode cX11_longest 66 = .ok (.iaload, 1) := by decide +kernel
theorem dX11_longest_67 : decode cX11_longest 67 = .ok (.goto 10, 3) := by decide +kernel
theorem dX11_longest_70 : decode cX11_longest 70 = .ok (.aload_n 0, 1) := by decide +kernel
theorem dX11_longest_71 : decode cX11_longest 71 = .ok (.getfield 111, 3) := by decide +kernel
theorem dX11_longest_74 : decode cX11_longest 74 = .ok (.iload 4, 2) := by decide +kernel
theorem dX11_longest_76 : decode cX11_longest 76 = .ok (.iaload, 1) := by decide +kernel
theorem dX11_longest_77 : decode cX11_longest 77 = .ok (.ireturn, 1) := by decide +kernel
theorem dX11_isUnlike_0 : decode cX11_isUnlike 0 = .ok (.aload_n 0, 1) := by decide +kernel
theorem dX11_isUnlike_1 : decode cX11_isUnlike 1 = .ok (.iload_n 1, 1) := by decide +kernel
theorem dX11_isUnlike_2 : decode cX11_isUnlike 2 = .ok (.invokevirtual 364, 3) := by decide +kernel
theorem dX11_isUnlike_5 : decode cX11_isUnlike 5 = .ok (.iconst 0, 1) := by decide +kernel
theorem dX11_isUnlike_6 : decode cX11_isUnlike 6 = .ok (.istore_n 3, 1) := by decide +kernel
theorem dX11_isUnlike_7 : decode cX11_isUnlike 7 = .ok (.iload_n 3, 1) := by decide +kernel
theorem dX11_isUnlike_8 : decode cX11_isUnlike 8 = .ok (.bipush 100, 2) := by decide +kernel
theorem dX11_isUnlike_10 : decode cX11_isUnlike 10 = .ok (.if_icmp .ge 43, 3) := by decide +kernel
theorem dX11_isUnlike_13 : decode cX11_isUnlike 13 = .ok (.aload_n 0, 1) := by decide +kernel
theorem dX11_isUnlike_14 : decode cX11_isUnlike 14 = .ok (.getfield 295, 3) := by decide +kernel
theorem dX11_isUnlike_17 : decode cX11_isUnlike 17 = .ok (.aload_n 0, 1) := by decide +kernel
theorem dX11_isUnlike_18 : decode cX11_isUnlike 18 = .ok (.getfield 292, 3) := by decide +kernel
theorem dX11_isUnlike_21 : decode cX11_isUnlike 21 = .ok (.if_icmp .eq 32, 3) := by decide +kernel
theorem dX11_isUnlike_24 : decode cX11_isUnlike 24 = .ok (.aload_n 0, 1) := by decide +kernel
theorem dX11_isUnlike_25 : decode cX11_isUnlike 25 = .ok (.invokevirtual 349, 3) := by decide +kernel
theorem dX11_isUnlike_28 : decode cX11_isUnlike 28 = .ok (.istore 4, 2) := by decide +kernel
theorem dX11_isUnlike_30 : decode cX11_isUnlike 30 = .ok (.aload_n 0, 1) := by decide +kernel
theorem dX11_isUnlike_31 : decode cX11_isUnlike 31 = .ok (.getfield 114, 3) := by decide +kernel
theorem dX11_isUnlike_34 : decode cX11_isUnlike 34 = .ok (.iload_n 3, 1) := by decide +kernel
theorem dX11_isUnlike_35 : decode cX11_isUnlike 35 = .ok (.iconst 4, 1) := by decide +kernel
theorem dX11_isUnlike_36 : decode cX11_isUnlike 36 = .ok (.aload_n 0, 1) := by decide +kernel
theorem dX11_isUnlike_37 : decode cX11_isUnlike 37 = .ok (.getfield 295, 3) := by decide +kernel
theorem dX11_isUnlike_40 : decode cX11_isUnlike 40 = .ok (.imul, 1) := by decide +kernel
theorem dX11_isUnlike_41 : decode cX11_isUnlike 41 = .ok (.aload_n 0, 1) := by decide +kernel
theorem dX11_isUnlike_42 : decode cX11_isUnlike 42 = .ok (.getfield 298, 3) := by decide +kernel
theorem dX11_isUnlike_45 : decode cX11_isUnlike 45 = .ok (.iadd, 1) := by decide +kernel
theorem dX11_isUnlike_46 : decode cX11_isUnlike 46 = .ok (.iastore, 1) := by decide +kernel
theorem dX11_isUnlike_47 : decode cX11_isUnlike 47 = .ok (.iinc 3 1, 3) := by decide +kernel
theorem dX11_isUnlike_50 : decode cX11_isUnlike 50 = .ok (.goto (-43), 3) := by decide +kernel
theorem dX11_isUnlike_53 : decode cX11_isUnlike 53 = .ok (.aload_n 0, 1) := by decide +kernel
theorem dX11_isUnlike_54 : decode cX11_isUnlike 54 = .ok (.getfield 295, 3) := by decide +kernel
theorem dX11_isUnlike_57 : decode cX11_isUnlike 57 = .ok (.aload_n 0, 1) := by decide +kernel
theorem dX11_isUnlike_58 : decode cX11_isUnlike 58 = .ok (.getfield 292, 3) := by decide +kernel
theorem dX11_isUnlike_61 : decode cX11_isUnlike 61 = .ok (.if_icmp .ne 7, 3) := by decide +kernel
theorem dX11_isUnlike_64 : decode cX11_isUnlike 64 = .ok (.iconst 1, 1) := by decide +kernel
theorem dX11_isUnlike_65 : decode cX11_isUnlike 65 = .ok (.goto 4, 3) := by decide +kernel
theorem dX11_isUnlike_68 : decode cX11_isUnlike 68 = .ok (.iconst 0, 1) := by decide +kernel
theorem dX11_isUnlike_69 : decode cX11_isUnlike 69 = .ok (.istore 4, 2) := by decide +kernel
theorem dX11_isUnlike_71 : decode cX11_isUnlike 71 = .ok (.aload_n 0, 1) := by decide +kernel
theorem dX11_isUnlike_72 : decode cX11_isUnlike 72 = .ok (.iload_n 1, 1) := by decide +kernel
theorem dX11_isUnlike_73 : decode cX11_isUnlike 73 = .ok (.invokevirtual 364, 3) := by decide +kernel
theorem dX11_isUnlike_76 : decode cX11_isUnlike 76 = .ok (.aload_n 0, 1) := by decide +kernel
theorem dX11_isUnlike_77 : decode cX11_isUnlike 77 = .ok (.iload_n 2, 1) := by decide +kernel
theorem dX11_isUnlike_78 : decode cX11_isUnlike 78 = .ok (.putfield 81, 3) := by decide +kernel
theorem dX11_isUnlike_81 : decode cX11_isUnlike 81 = .ok (.iconst 0, 1) := by decide +kernel
theorem dX11_isUnlike_82 : decode cX11_isUnlike 82 = .ok (.istore 5, 2) := by decide +kernel
theorem dX11_isUnlike_84 : decode cX11_isUnlike 84 = .ok (.iconst 0, 1) := by decide +kernel
theorem dX11_isUnlike_85 : decode cX11_isUnlike 85 = .ok (.istore 6, 2) := by decide +kernel
theorem dX11_isUnlike_87 : decode cX11_isUnlike 87 = .ok (.iload 5, 2) := by decide +kernel
theorem dX11_isUnlike_89 : decode cX11_isUnlike 89 = .ok (.bipush 100, 2) := by decide +kernel
theorem dX11_isUnlike_91 : decode cX11_isUnlike 91 = .ok (.if_icmp .ge 65, 3) := by decide +kernel
theorem dX11_isUnlike_94 : decode cX11_isUnlike 94 = .ok (.aload_n 0, 1) := by decide +kernel
theorem dX11_isUnlike_95 : decode cX11_isUnlike 95 = .ok (.getfield 295, 3) := by decide +kernel
theorem dX11_isUnlike_98 : decode cX11_isUnlike 98 = .ok (.aload_n 0, 1) := by decide +kernel
theorem dX11_isUnlike_99 : decode cX11_isUnlike 99 = .ok (.getfield 292, 3) := by decide +kernel
theorem dX11_isUnlike_102 : decode cX11_isUnlike 102 = .ok (.if_icmp .eq 54, 3) := by decide +kernel
theorem dX11_isUnlike_105 : decode cX11_isUnlike 105 = .ok (.iload 6, 2) := by decide +kernel
theorem dX11_isUnlike_107 : decode cX11_isUnlike 107 = .ok (.ifCond .ne 49, 3) := by decide +kernel
theorem dX11_isUnlike_110 : decode cX11_isUnlike 110 = .ok (.aload_n 0, 1) := by decide +kernel
theorem dX11_isUnlike_111 : decode cX11_isUnlike 111 = .ok (.invokevirtual 349, 3) := by decide +kernel
theorem dX11_isUnlike_114 : decode cX11_isUnlike 114 = .ok (.istore 7, 2) := by decide +kernel
theorem dX11_isUnlike_116 : decode cX11_isUnlike 116 = .ok (.iload 5, 2) := by decide +kernel
theorem dX11_isUnlike_118 : decode cX11_isUnlike 118 = .ok (.iload_n 3, 1) := by decide +kernel
theorem dX11_isUnlike_119 : decode cX11_isUnlike 119 = .ok (.if_icmp .ge 24, 3) := by decide +kernel
theorem dX11_isUnlike_122 : decode cX11_isUnlike 122 = .ok (.aload_n 0, 1) := by decide +kernel
theorem dX11_isUnlike_123 : decode cX11_isUnlike 123 = .ok (.getfield 114, 3) := by decide +kernel
theorem dX11_isUnlike_126 : decode cX11_isUnlike 126 = .ok (.iload 5, 2) := by decide +kernel
theorem dX11_isUnlike_128 : decode cX11_isUnlike 128 = .ok (.iaload, 1) := by decide +kernel
theorem dX11_isUnlike_129 : decode cX11_isUnlike 129 = .ok (.iconst 4, 1) := by decide +kernel
theorem dX11_isUnlike_130 : decode cX11_isUnlike 130 = .ok (.aload_n 0, 1) := by decide +kernel
theorem dX11_isUnlike_131 : decode cX11_isUnlike 131 = .ok (.getfield 295, 3) := by decide +kernel
theorem dX11_isUnlike_134 : decode cX11_isUnlike 134 = .ok (.imul, 1) := by decide +kernel
theorem dX11_isUnlike_135 : decode cX11_isUnlike 135 = .ok (.aload_n 0, 1) := by decide +kernel
theorem dX11_isUnlike_136 : decode cX11_isUnlike 136 = .ok (.getfield 298, 3) := by decide +kernel
theorem dX11_isUnlike_139 : decode cX11_isUnlike 139 = .ok (.iadd, 1) := by decide +kernel
theorem dX11_isUnlike_140 : decode cX11_isUnlike 140 = .ok (.if_icmp .eq 7, 3) := by decide +kernel
theorem dX11_isUnlike_143 : decode cX11_isUnlike 143 = .ok (.iconst 1, 1) := by decide +kernel
theorem dX11_isUnlike_144 : decode cX11_isUnlike 144 = .ok (.goto 4, 3) := by decide +kernel
theorem dX11_isUnlike_147 : decode cX11_isUnlike 147 = .ok (.iconst 0, 1) := by decide +kernel
theorem dX11_isUnlike_148 : decode cX11_isUnlike 148 = .ok (.istore 6, 2) := by decide +kernel
theorem dX11_isUnlike_150 : decode cX11_isUnlike 150 = .ok (.iinc 5 1, 3) := by decide +kernel
theorem dX11_isUnlike_153 : decode cX11_isUnlike 153 = .ok (.goto (-66), 3) := by decide +kernel
theorem dX11_isUnlike_156 : decode cX11_isUnlike 156 = .ok (.aload_n 0, 1) := by decide +kernel
theorem dX11_isUnlike_157 : decode cX11_isUnlike 157 = .ok (.iconst (-1), 1) := by decide +kernel
theorem dX11_isUnlike_158 : decode cX11_isUnlike 158 = .ok (.putfield 81, 3) := by decide +kernel
theorem dX11_isUnlike_161 : decode cX11_isUnlike 161 = .ok (.iload 6, 2) := by decide +kernel
theorem dX11_isUnlike_163 : decode cX11_isUnlike 163 = .ok (.ifCond .ne 30, 3) := by decide +kernel
theorem dX11_isUnlike_166 : decode cX11_isUnlike 166 = .ok (.iload 5, 2) := by decide +kernel
theorem dX11_isUnlike_168 : decode cX11_isUnlike 168 = .ok (.iload_n 3, 1) := by decide +kernel
theorem dX11_isUnlike_169 : decode cX11_isUnlike 169 = .ok (.if_icmp .ne 24, 3) := by decide +kernel
theorem dX11_isUnlike_172 : decode cX11_isUnlike 172 = .ok (.iload 4, 2) := by decide +kernel
theorem dX11_isUnlike_174 : decode cX11_isUnlike 174 = .ok (.aload_n 0, 1) := by decide +kernel
theorem dX11_isUnlike_175 : decode cX11_isUnlike 175 = .ok (.getfield 295, 3) := by decide +kernel
theorem dX11_isUnlike_178 : decode cX11_isUnlike 178 = .ok (.aload_n 0, 1) := by decide +kernel
theorem dX11_isUnlike_179 : decode cX11_isUnlike 179 = .ok (.getfield 292, 3) := by decide +kernel
theorem dX11_isUnlike_182 : decode cX11_isUnlike 182 = .ok (.if_icmp .ne 7, 3) := by decide +kernel
theorem dX11_isUnlike_185 : decode cX11_isUnlike 185 = .ok (.iconst 1, 1) := by decide +kernel
theorem dX11_isUnlike_186 : decode cX11_isUnlike 186 = .ok (.goto 4, 3) := by decide +kernel
theorem dX11_isUnlike_189 : decode cX11_isUnlike 189 = .ok (.iconst 0, 1) := by decide +kernel
theorem dX11_isUnlike_190 : decode cX11_isUnlike 190 = .ok (.if_icmp .eq 7, 3) := by decide +kernel
theorem dX11_isUnlike_193 : decode cX11_isUnlike 193 = .ok (.iconst 1, 1) := by decide +kernel
theorem dX11_isUnlike_194 : decode cX11_isUnlike 194 = .ok (.goto 4, 3) := by decide +kernel
theorem dX11_isUnlike_197 : decode cX11_isUnlike 197 = .ok (.iconst 0, 1) := by decide +kernel
theorem dX11_isUnlike_198 : decode cX11_isUnlike 198 = .ok (.ireturn, 1) := by decide +kernel
theorem dX11_needs_0 : decode cX11_needs 0 = .ok (.aload_n 0, 1) := by decide +kernel
theorem dX11_needs_1 : decode cX11_needs 1 = .ok (.iconst 0, 1) := by decide +kernel
theorem dX11_needs_2 : decode cX11_needs 2 = .ok (.putfield 130, 3) := by decide +kernel
theorem dX11_needs_5 : decode cX11_needs 5 = .ok (.iload_n 1, 1) := by decide +kernel
theorem dX11_needs_6 : decode cX11_needs 6 = .ok (.iconst 0, 1) := by decide +kernel
theorem dX11_needs_7 : decode cX11_needs 7 = .ok (.iconst 2, 1) := by decide +kernel
theorem dX11_needs_8 : decode cX11_needs 8 = .ok (.invokestatic 317, 3) := by decide +kernel
theorem dX11_needs_11 : decode cX11_needs 11 = .ok (.ifCond .eq 11, 3) := by decide +kernel
theorem dX11_needs_14 : decode cX11_needs 14 = .ok (.iload_n 2, 1) := by decide +kernel
theorem dX11_needs_15 : decode cX11_needs 15 = .ok (.iload_n 3, 1) := by decide +kernel
theorem dX11_needs_16 : decode cX11_needs 16 = .ok (.invokestatic 385, 3) := by decide +kernel
theorem dX11_needs_19 : decode cX11_needs 19 = .ok (.ifCond .ne 5, 3) := by decide +kernel
theorem dX11_needs_22 : decode cX11_needs 22 = .ok (.iconst (-1), 1) := by decide +kernel
theorem dX11_needs_23 : decode cX11_needs 23 = .ok (.ireturn, 1) := by decide +kernel
theorem dX11_needs_24 : decode cX11_needs 24 = .ok (.aload_n 0, 1) := by decide +kernel
theorem dX11_needs_25 : decode cX11_needs 25 = .ok (.iconst 4, 1) := by decide +kernel
theorem dX11_needs_26 : decode cX11_needs 26 = .ok (.invokevirtual 358, 3) := by decide +kernel
theorem dX11_needs_29 : decode cX11_needs 29 = .ok (.aload_n 0, 1) := by decide +kernel
theorem dX11_needs_30 : decode cX11_needs 30 = .ok (.iload_n 2, 1) := by decide +kernel
theorem dX11_needs_31 : decode cX11_needs 31 = .ok (.iload_n 3, 1) := by decide +kernel
theorem dX11_needs_32 : decode cX11_needs 32 = .ok (.invokevirtual 376, 3) := by decide +kernel
theorem dX11_needs_35 : decode cX11_needs 35 = .ok (.iconst 0, 1) := by decide +kernel
theorem dX11_needs_36 : decode cX11_needs 36 = .ok (.istore 4, 2) := by decide +kernel
theorem dX11_needs_38 : decode cX11_needs 38 = .ok (.iconst 0, 1) := by decide +kernel
theorem dX11_needs_39 : decode cX11_needs 39 = .ok (.istore 5, 2) := by decide +kernel
theorem dX11_needs_41 : decode cX11_needs 41 = .ok (.iload 5, 2) := by decide +kernel
theorem dX11_needs_43 : decode cX11_needs 43 = .ok (.iconst 1, 1) := by decide +kernel
theorem dX11_needs_44 : decode cX11_needs 44 = .ok (.aload_n 0, 1) := by decide +kernel
theorem dX11_needs_45 : decode cX11_needs 45 = .ok (.invokevirtual 370, 3) := by decide +kernel
theorem dX11_needs_48 : decode cX11_needs 48 = .ok (.ishl, 1) := by decide +kernel
theorem dX11_needs_49 : decode cX11_needs 49 = .ok (.if_icmp .ge 71, 3) := by decide +kernel
theorem dX11_needs_52 : decode cX11_needs 52 = .ok (.iload 4, 2) := by decide +kernel
theorem dX11_needs_54 : decode cX11_needs 54 = .ok (.ifCond .ne 66, 3) := by decide +kernel
theorem dX11_needs_57 : decode cX11_needs 57 = .ok (.aload_n 0, 1) := by decide +kernel
theorem dX11_needs_58 : decode cX11_needs 58 = .ok (.iload 5, 2) := by decide +kernel
theorem dX11_needs_60 : decode cX11_needs 60 = .ok (.invokevirtual 379, 3) := by decide +kernel
theorem dX11_needs_63 : decode cX11_needs 63 = .ok (.iconst 0, 1) := by decide +kernel
theorem dX11_needs_64 : decode cX11_needs 64 = .ok (.istore 6, 2) := by decide +kernel
theorem dX11_needs_66 : decode cX11_needs 66 = .ok (.iload 6, 2) := by decide +kernel
theorem dX11_needs_68 : decode cX11_needs 68 = .ok (.aload_n 0, 1) := by decide +kernel
theorem dX11_needs_69 : decode cX11_needs 69 = .ok (.invokevirtual 289, 3) := by decide +kernel
theorem dX11_needs_72 : decode cX11_needs 72 = .ok (.if_icmp .ge 42, 3) := by decide +kernel
theorem dX11_needs_75 : decode cX11_needs 75 = .ok (.iload 4, 2) := by decide +kernel
theorem dX11_needs_77 : decode cX11_needs 77 = .ok (.ifCond .ne 37, 3) := by decide +kernel
theorem dX11_needs_80 : decode cX11_needs 80 = .ok (.aload_n 0, 1) := by decide +kernel
theorem dX11_needs_81 : decode cX11_needs 81 = .ok (.getfield 84, 3) := by decide +kernel
theorem dX11_needs_84 : decode cX11_needs 84 = .ok (.iload 6, 2) := by decide +kernel
theorem dX11_needs_86 : decode cX11_needs 86 = .ok (.iaload, 1) := by decide +kernel
theorem dX11_needs_87 : decode cX11_needs 87 = .ok (.iconst (-1), 1) := by decide +kernel
theorem dX11_needs_88 : decode cX11_needs 88 = .ok (.if_icmp .eq 17, 3) := by decide +kernel
theorem dX11_needs_91 : decode cX11_needs 91 = .ok (.aload_n 0, 1) := by decide +kernel
theorem dX11_needs_92 : decode cX11_needs 92 = .ok (.iload 6, 2) := by decide +kernel
theorem dX11_needs_94 : decode cX11_needs 94 = .ok (.iload_n 1, 1) := by decide +kernel
theorem dX11_needs_95 : decode cX11_needs 95 = .ok (.invokevirtual 391, 3) := by decide +kernel
theorem dX11_needs_98 : decode cX11_needs 98 = .ok (.ifCond .eq 7, 3) := by decide +kernel
theorem dX11_needs_101 : decode cX11_needs 101 = .ok (.iconst 1, 1) := by decide +kernel
theorem dX11_needs_102 : decode cX11_needs 102 = .ok (.goto 4, 3) := by decide +kernel
theorem dX11_needs_105 : decode cX11_needs 105 = .ok (.iconst 0, 1) := by decide +kernel
theorem dX11_needs_106 : decode cX11_needs 106 = .ok (.istore 4, 2) := by decide +kernel
theorem dX11_needs_108 : decode cX11_needs 108 = .ok (.iinc 6 1, 3) := by decide +kernel
theorem dX11_needs_111 : decode cX11_needs 111 = .ok (.goto (-45), 3) := by decide +kernel
theorem dX11_needs_114 : decode cX11_needs 114 = .ok (.iinc 5 1, 3) := by decide +kernel
theorem dX11_needs_117 : decode cX11_needs 117 = .ok (.goto (-76), 3) := by decide +kernel
theorem dX11_needs_120 : decode cX11_needs 120 = .ok (.aload_n 0, 1) := by decide +kernel
theorem dX11_needs_121 : decode cX11_needs 121 = .ok (.iconst 4, 1) := by decide +kernel
theorem dX11_needs_122 : decode cX11_needs 122 = .ok (.invokevirtual 361, 3) := by decide +kernel
theorem dX11_needs_125 : decode cX11_needs 125 = .ok (.iload 4, 2) := by decide +kernel
theorem dX11_needs_127 : decode cX11_needs 127 = .ok (.ifCond .eq 7, 3) := by decide +kernel
theorem dX11_needs_130 : decode cX11_needs 130 = .ok (.iconst 1, 1) := by decide +kernel
theorem dX11_needs_131 : decode cX11_needs 131 = .ok (.goto 4, 3) := by decide +kernel
theorem dX11_needs_134 : decode cX11_needs 134 = .ok (.iconst 0, 1) := by decide +kernel
theorem dX11_needs_135 : decode cX11_needs 135 = .ok (.ireturn, 1) := by decide +kernel
theorem dX11_knows_0 : decode cX11_knows 0 = .ok (.aload_n 0, 1) := by decide +kernel
theorem dX11_knows_1 : decode cX11_knows 1 = .ok (.iconst 0, 1) := by decide +kernel
theorem dX11_knows_2 : decode cX11_knows 2 = .ok (.putfield 130, 3) := by decide +kernel
theorem dX11_knows_5 : decode cX11_knows 5 = .ok (.aload_n 0, 1) := by decide +kernel
theorem dX11_knows_6 : decode cX11_knows 6 = .ok (.iload_n 1, 1) := by decide +kernel
theorem dX11_knows_7 : decode cX11_knows 7 = .ok (.invokevirtual 321, 3) := by decide +kernel
theorem dX11_knows_10 : decode cX11_knows 10 = .ok (.ifCond .ne 5, 3) := by decide +kernel
theorem dX11_knows_13 : decode cX11_knows 13 = .ok (.iconst (-1), 1) := by decide +kernel
theorem dX11_knows_14 : decode cX11_knows 14 = .ok (.ireturn, 1) := by decide +kernel
theorem dX11_knows_15 : decode cX11_knows 15 = .ok (.iload_n 1, 1) := by decide +kernel
theorem dX11_knows_16 : decode cX11_knows 16 = .ok (.istore_n 2, 1) := by decide +kernel
theorem dX11_knows_17 : decode cX11_knows 17 = .ok (.iconst 0, 1) := by decide +kernel
theorem dX11_knows_18 : decode cX11_knows 18 = .ok (.istore_n 3, 1) := by decide +kernel
theorem dX11_knows_19 : decode cX11_knows 19 = .ok (.iload_n 2, 1) := by decide +kernel
theorem dX11_knows_20 : decode cX11_knows 20 = .ok (.aload_n 0, 1) := by decide +kernel
theorem dX11_knows_21 : decode cX11_knows 21 = .ok (.getfield 292, 3) := by decide +kernel
theorem dX11_knows_24 : decode cX11_knows 24 = .ok (.if_icmp .eq 43, 3) := by decide +kernel
theorem dX11_knows_27 : decode cX11_knows 27 = .ok (.aload_n 0, 1) := by decide +kernel
theorem dX11_knows_28 : decode cX11_knows 28 = .ok (.iload_n 2, 1) := by decide +kernel
theorem dX11_knows_29 : decode cX11_knows 29 = .ok (.aload_n 0, 1) := by decide +kernel
theorem dX11_knows_30 : decode cX11_knows 30 = .ok (.getfield 72, 3) := by decide +kernel
theorem dX11_knows_33 : decode cX11_knows 33 = .ok (.iload_n 2, 1) := by decide +kernel
theorem dX11_knows_34 : decode cX11_knows 34 = .ok (.iaload, 1) := by decide +kernel
theorem dX11_knows_35 : decode cX11_knows 35 = .ok (.invokevirtual 327, 3) := by decide +kernel
theorem dX11_knows_38 : decode cX11_knows 38 = .ok (.ifCond .ne 9, 3) := by decide +kernel
theorem dX11_knows_41 : decode cX11_knows 41 = .ok (.iload_n 3, 1) := by decide +kernel
theorem dX11_knows_42 : decode cX11_knows 42 = .ok (.bipush 36, 2) := by decide +kernel
theorem dX11_knows_44 : decode cX11_knows 44 = .ok (.if_icmp .le 5, 3) := by decide +kernel
theorem dX11_knows_47 : decode cX11_knows 47 = .ok (.iconst (-1), 1) := by decide +kernel
theorem dX11_knows_48 : decode cX11_knows 48 = .ok (.ireturn, 1) := by decide +kernel
theorem dX11_knows_49 : decode cX11_knows 49 = .ok (.aload_n 0, 1) := by decide +kernel
theorem dX11_knows_50 : decode cX11_knows 50 = .ok (.iload_n 2, 1) := by decide +kernel
theorem dX11_knows_51 : decode cX11_knows 51 = .ok (.aload_n 0, 1) := by decide +kernel
theorem dX11_knows_52 : decode cX11_knows 52 = .ok (.getfield 72, 3) := by decide +kernel
theorem dX11_knows_55 : decode cX11_knows 55 = .ok (.iload_n 2, 1) := by decide +kernel
theorem dX11_knows_56 : decode cX11_knows 56 = .ok (.iaload, 1) := by decide +kernel
theorem dX11_knows_57 : decode cX11_knows 57 = .ok (.invokevirtual 314, 3) := by decide +kernel
theorem dX11_knows_60 : decode cX11_knows 60 = .ok (.istore_n 2, 1) := by decide +kernel
theorem dX11_knows_61 : decode cX11_knows 61 = .ok (.iinc 3 1, 3) := by decide +kernel
theorem dX11_knows_64 : decode cX11_knows 64 = .ok (.goto (-45), 3) := by decide +kernel
theorem dX11_knows_67 : decode cX11_knows 67 = .ok (.iload_n 3, 1) := by decide +kernel
theorem dX11_knows_68 : decode cX11_knows 68 = .ok (.ireturn, 1) := by decide +kernel
theorem dX11_forgets_0 : decode cX11_forgets 0 = .ok (.aload_n 0, 1) := by decide +kernel
theorem dX11_forgets_1 : decode cX11_forgets 1 = .ok (.iconst 0, 1) := by decide +kernel
theorem dX11_forgets_2 : decode cX11_forgets 2 = .ok (.putfield 394, 3) := by decide +kernel
theorem dX11_forgets_5 : decode cX11_forgets 5 = .ok (.return_, 1) := by decide +kernel
theorem dX11_felt_0 : decode cX11_felt 0 = .ok (.aload_n 0, 1) := by decide +kernel
theorem dX11_felt_1 : decode cX11_felt 1 = .ok (.aload_n 0, 1) := by decide +kernel
theorem dX11_felt_2 : decode cX11_felt 2 = .ok (.getfield 295, 3) := by decide +kernel
theorem dX11_felt_5 : decode cX11_felt 5 = .ok (.aload_n 0, 1) := by decide +kernel
theorem dX11_felt_6 : decode cX11_felt 6 = .ok (.getfield 298, 3) := by decide +kernel
theorem dX11_felt_9 : decode cX11_felt 9 = .ok (.invokevirtual 327, 3) := by decide +kernel
theorem dX11_felt_12 : decode cX11_felt 12 = .ok (.ifCond .eq 7, 3) := by decide +kernel
theorem dX11_felt_15 : decode cX11_felt 15 = .ok (.iconst 1, 1) := by decide +kernel
theorem dX11_felt_16 : decode cX11_felt 16 = .ok (.goto 4, 3) := by decide +kernel
theorem dX11_felt_19 : decode cX11_felt 19 = .ok (.iconst 0, 1) := by decide +kernel
theorem dX11_felt_20 : decode cX11_felt 20 = .ok (.aload_n 0, 1) := by decide +kernel
theorem dX11_felt_21 : decode cX11_felt 21 = .ok (.getfield 295, 3) := by decide +kernel
theorem dX11_felt_24 : decode cX11_felt 24 = .ok (.aload_n 0, 1) := by decide +kernel
theorem dX11_felt_25 : decode cX11_felt 25 = .ok (.getfield 292, 3) := by decide +kernel
theorem dX11_felt_28 : decode cX11_felt 28 = .ok (.if_icmp .ne 7, 3) := by decide +kernel
theorem dX11_felt_31 : decode cX11_felt 31 = .ok (.iconst 2, 1) := by decide +kernel
theorem dX11_felt_32 : decode cX11_felt 32 = .ok (.goto 4, 3) := by decide +kernel
theorem dX11_felt_35 : decode cX11_felt 35 = .ok (.iconst 0, 1) := by decide +kernel
theorem dX11_felt_36 : decode cX11_felt 36 = .ok (.ior, 1) := by decide +kernel
theorem dX11_felt_37 : decode cX11_felt 37 = .ok (.aload_n 0, 1) := by decide +kernel
theorem dX11_felt_38 : decode cX11_felt 38 = .ok (.getfield 72, 3) := by decide +kernel
theorem dX11_felt_41 : decode cX11_felt 41 = .ok (.aload_n 0, 1) := by decide +kernel
theorem dX11_felt_42 : decode cX11_felt 42 = .ok (.getfield 295, 3) := by decide +kernel
theorem dX11_felt_45 : decode cX11_felt 45 = .ok (.iaload, 1) := by decide +kernel
theorem dX11_felt_46 : decode cX11_felt 46 = .ok (.iconst 2, 1) := by decide +kernel
theorem dX11_felt_47 : decode cX11_felt 47 = .ok (.irem, 1) := by decide +kernel
theorem dX11_felt_48 : decode cX11_felt 48 = .ok (.iconst 1, 1) := by decide +kernel
theorem dX11_felt_49 : decode cX11_felt 49 = .ok (.if_icmp .ne 7, 3) := by decide +kernel
theorem dX11_felt_52 : decode cX11_felt 52 = .ok (.iconst 4, 1) := by decide +kernel
theorem dX11_felt_53 : decode cX11_felt 53 = .ok (.goto 4, 3) := by decide +kernel
theorem dX11_felt_56 : decode cX11_felt 56 = .ok (.iconst 0, 1) := by decide +kernel
theorem dX11_felt_57 : decode cX11_felt 57 = .ok (.ior, 1) := by decide +kernel
theorem dX11_felt_58 : decode cX11_felt 58 = .ok (.aload_n 0, 1) := by decide +kernel
theorem dX11_felt_59 : decode cX11_felt 59 = .ok (.getfield 72, 3) := by decide +kernel
theorem dX11_felt_62 : decode cX11_felt 62 = .ok (.aload_n 0, 1) := by decide +kernel
theorem dX11_felt_63 : decode cX11_felt 63 = .ok (.getfield 295, 3) := by decide +kernel
theorem dX11_felt_66 : decode cX11_felt 66 = .ok (.iaload, 1) := by decide +kernel
theorem dX11_felt_67 : decode cX11_felt 67 = .ok (.iconst 1, 1) := by decide +kernel
theorem dX11_felt_68 : decode cX11_felt 68 = .ok (.if_icmp .le 8, 3) := by decide +kernel
theorem dX11_felt_71 : decode cX11_felt 71 = .ok (.bipush 8, 2) := by decide +kernel
theorem dX11_felt_73 : decode cX11_felt 73 = .ok (.goto 4, 3) := by decide +kernel
theorem dX11_felt_76 : decode cX11_felt 76 = .ok (.iconst 0, 1) := by decide +kernel
theorem dX11_felt_77 : decode cX11_felt 77 = .ok (.ior, 1) := by decide +kernel
theorem dX11_felt_78 : decode cX11_felt 78 = .ok (.ireturn, 1) := by decide +kernel
theorem dX11_works_0 : decode cX11_works 0 = .ok (.aload_n 0, 1) := by decide +kernel
theorem dX11_works_1 : decode cX11_works 1 = .ok (.getfield 45, 3) := by decide +kernel
theorem dX11_works_4 : decode cX11_works 4 = .ok (.iload_n 1, 1) := by decide +kernel
theorem dX11_works_5 : decode cX11_works 5 = .ok (.iaload, 1) := by decide +kernel
theorem dX11_works_6 : decode cX11_works 6 = .ok (.istore 4, 2) := by decide +kernel
theorem dX11_works_8 : decode cX11_works 8 = .ok (.iload 4, 2) := by decide +kernel
theorem dX11_works_10 : decode cX11_works 10 = .ok (.aload_n 0, 1) := by decide +kernel
theorem dX11_works_11 : decode cX11_works 11 = .ok (.getfield 48, 3) := by decide +kernel
theorem dX11_works_14 : decode cX11_works 14 = .ok (.iload_n 1, 1) := by decide +kernel
theorem dX11_works_15 : decode cX11_works 15 = .ok (.iaload, 1) := by decide +kernel
theorem dX11_works_16 : decode cX11_works 16 = .ok (.if_icmp .ge 205, 3) := by decide +kernel
theorem dX11_works_19 : decode cX11_works 19 = .ok (.aload_n 0, 1) := by decide +kernel
theorem dX11_works_20 : decode cX11_works 20 = .ok (.getfield 51, 3) := by decide +kernel
theorem dX11_works_23 : decode cX11_works 23 = .ok (.iload 4, 2) := by decide +kernel
theorem dX11_works_25 : decode cX11_works 25 = .ok (.iaload, 1) := by decide +kernel
theorem dX11_works_26 : decode cX11_works 26 = .ok (.tableswitch 171 4 7 #[30, 51, 81, 126], 30) := by decide +kernel
theorem dX11_works_56 : decode cX11_works 56 = .ok (.aload_n 0, 1) := by decide +kernel
theorem dX11_works_57 : decode cX11_works 57 = .ok (.getfield 117, 3) := by decide +kernel
theorem dX11_works_60 : decode cX11_works 60 = .ok (.iload 4, 2) := by decide +kernel
theorem dX11_works_62 : decode cX11_works 62 = .ok (.iload_n 2, 1) := by decide +kernel
theorem dX11_works_63 : decode cX11_works 63 = .ok (.aload_n 0, 1) := by decide +kernel
theorem dX11_works_64 : decode cX11_works 64 = .ok (.getfield 54, 3) := by decide +kernel
theorem dX11_works_67 : decode cX11_works 67 = .ok (.iload 4, 2) := by decide +kernel
theorem dX11_works_69 : decode cX11_works 69 = .ok (.iaload, 1) := by decide +kernel
theorem dX11_works_70 : decode cX11_works 70 = .ok (.invokestatic 310, 3) := by decide +kernel
theorem dX11_works_73 : decode cX11_works 73 = .ok (.bastore, 1) := by decide +kernel
theorem dX11_works_74 : decode cX11_works 74 = .ok (.goto 141, 3) := by decide +kernel
theorem dX11_works_77 : decode cX11_works 77 = .ok (.aload_n 0, 1) := by decide +kernel
theorem dX11_works_78 : decode cX11_works 78 = .ok (.getfield 117, 3) := by decide +kernel
theorem dX11_works_81 : decode cX11_works 81 = .ok (.iload 4, 2) := by decide +kernel
theorem dX11_works_83 : decode cX11_works 83 = .ok (.aload_n 0, 1) := by decide +kernel
theorem dX11_works_84 : decode cX11_works 84 = .ok (.getfield 117, 3) := by decide +kernel
theorem dX11_works_87 : decode cX11_works 87 = .ok (.aload_n 0, 1) := by decide +kernel
theorem dX11_works_88 : decode cX11_works 88 = .ok (.getfield 54, 3) := by decide +kernel
theorem dX11_works_91 : decode cX11_works 91 = .ok (.iload 4, 2) := by decide +kernel
theorem dX11_works_93 : decode cX11_works 93 = .ok (.iaload, 1) := by decide +kernel
theorem dX11_works_94 : decode cX11_works 94 = .ok (.baload, 1) := by decide +kernel
theorem dX11_works_95 : decode cX11_works 95 = .ok (.ifCond .ne 7, 3) := by decide +kernel
theorem dX11_works_98 : decode cX11_works 98 = .ok (.iconst 1, 1) := by decide +kernel
theorem dX11_works_99 : decode cX11_works 99 = .ok (.goto 4, 3) := by decide +kernel
theorem dX11_works_102 : decode cX11_works 102 = .ok (.iconst 0, 1) := by decide +kernel
theorem dX11_works_103 : decode cX11_works 103 = .ok (.bastore, 1) := by decide +kernel
theorem dX11_works_104 : decode cX11_works 104 = .ok (.goto 111, 3) := by decide +kernel
theorem dX11_works_107 : decode cX11_works 107 = .ok (.aload_n 0, 1) := by decide +kernel
theorem dX11_works_108 : decode cX11_works 108 = .ok (.getfield 117, 3) := by decide +kernel
theorem dX11_works_111 : decode cX11_works 111 = .ok (.iload 4, 2) := by decide +kernel
theorem dX11_works_113 : decode cX11_works 113 = .ok (.aload_n 0, 1) := by decide +kernel
theorem dX11_works_114 : decode cX11_works 114 = .ok (.getfield 117, 3) := by decide +kernel
theorem dX11_works_117 : decode cX11_works 117 = .ok (.aload_n 0, 1) := by decide +kernel
theorem dX11_works_118 : decode cX11_works 118 = .ok (.getfield 54, 3) := by decide +kernel
theorem dX11_works_121 : decode cX11_works 121 = .ok (.iload 4, 2) := by decide +kernel
theorem dX11_works_123 : decode cX11_works 123 = .ok (.iaload, 1) := by decide +kernel
theorem dX11_works_124 : decode cX11_works 124 = .ok (.baload, 1) := by decide +kernel
theorem dX11_works_125 : decode cX11_works 125 = .ok (.ifCond .eq 22, 3) := by decide +kernel
theorem dX11_works_128 : decode cX11_works 128 = .ok (.aload_n 0, 1) := by decide +kernel
theorem dX11_works_129 : decode cX11_works 129 = .ok (.getfield 117, 3) := by decide +kernel
theorem dX11_works_132 : decode cX11_works 132 = .ok (.aload_n 0, 1) := by decide +kernel
theorem dX11_works_133 : decode cX11_works 133 = .ok (.getfield 57, 3) := by decide +kernel
theorem dX11_works_136 : decode cX11_works 136 = .ok (.iload 4, 2) := by decide +kernel
theorem dX11_works_138 : decode cX11_works 138 = .ok (.iaload, 1) := by decide +kernel
theorem dX11_works_139 : decode cX11_works 139 = .ok (.baload, 1) := by decide +kernel
theorem dX11_works_140 : decode cX11_works 140 = .ok (.ifCond .eq 7, 3) := by decide +kernel
theorem dX11_works_143 : decode cX11_works 143 = .ok (.iconst 1, 1) := by decide +kernel
theorem dX11_works_144 : decode cX11_works 144 = .ok (.goto 4, 3) := by decide +kernel
theorem dX11_works_147 : decode cX11_works 147 = .ok (.iconst 0, 1) := by decide +kernel
theorem dX11_works_148 : decode cX11_works 148 = .ok (.bastore, 1) := by decide +kernel
theorem dX11_works_149 : decode cX11_works 149 = .ok (.goto 66, 3) := by decide +kernel
theorem dX11_works_152 : decode cX11_works 152 = .ok (.aload_n 0, 1) := by decide +kernel
theorem dX11_works_153 : decode cX11_works 153 = .ok (.getfield 117, 3) := by decide +kernel
theorem dX11_works_156 : decode cX11_works 156 = .ok (.iload 4, 2) := by decide +kernel
theorem dX11_works_158 : decode cX11_works 158 = .ok (.aload_n 0, 1) := by decide +kernel
theorem dX11_works_159 : decode cX11_works 159 = .ok (.getfield 117, 3) := by decide +kernel
theorem dX11_works_162 : decode cX11_works 162 = .ok (.aload_n 0, 1) := by decide +kernel
theorem dX11_works_163 : decode cX11_works 163 = .ok (.getfield 54, 3) := by decide +kernel
theorem dX11_works_166 : decode cX11_works 166 = .ok (.iload 4, 2) := by decide +kernel
theorem dX11_works_168 : decode cX11_works 168 = .ok (.iaload, 1) := by decide +kernel
theorem dX11_works_169 : decode cX11_works 169 = .ok (.baload, 1) := by decide +kernel
theorem dX11_works_170 : decode cX11_works 170 = .ok (.ifCond .ne 18, 3) := by decide +kernel
theorem dX11_works_173 : decode cX11_works 173 = .ok (.aload_n 0, 1) := by decide +kernel
theorem dX11_works_174 : decode cX11_works 174 = .ok (.getfield 117, 3) := by decide +kernel
theorem dX11_works_177 : decode cX11_works 177 = .ok (.aload_n 0, 1) := by decide +kernel
theorem dX11_works_178 : decode cX11_works 178 = .ok (.getfield 57, 3) := by decide +kernel
theorem dX11_works_181 : decode cX11_works 181 = .ok (.iload 4, 2) := by decide +kernel
theorem dX11_works_183 : decode cX11_works 183 = .ok (.iaload, 1) := by decide +kernel
theorem dX11_works_184 : decode cX11_works 184 = .ok (.baload, 1) := by decide +kernel
theorem dX11_works_185 : decode cX11_works 185 = .ok (.ifCond .eq 7, 3) := by decide +kernel
theorem dX11_works_188 : decode cX11_works 188 = .ok (.iconst 1, 1) := by decide +kernel
theorem dX11_works_189 : decode cX11_works 189 = .ok (.goto 4, 3) := by decide +kernel
theorem dX11_works_192 : decode cX11_works 192 = .ok (.iconst 0, 1) := by decide +kernel
theorem dX11_works_193 : decode cX11_works 193 = .ok (.bastore, 1) := by decide +kernel
theorem dX11_works_194 : decode cX11_works 194 = .ok (.goto 21, 3) := by decide +kernel
theorem dX11_works_197 : decode cX11_works 197 = .ok (.aload_n 0, 1) := by decide +kernel
theorem dX11_works_198 : decode cX11_works 198 = .ok (.getfield 117, 3) := by decide +kernel
theorem dX11_works_201 : decode cX11_works 201 = .ok (.iload 4, 2) := by decide +kernel
theorem dX11_works_203 : decode cX11_works 203 = .ok (.iload_n 3, 1) := by decide +kernel
theorem dX11_works_204 : decode cX11_works 204 = .ok (.aload_n 0, 1) := by decide +kernel
theorem dX11_works_205 : decode cX11_works 205 = .ok (.getfield 51, 3) := by decide +kernel
theorem dX11_works_208 : decode cX11_works 208 = .ok (.iload 4, 2) := by decide +kernel
theorem dX11_works_210 : decode cX11_works 210 = .ok (.iaload, 1) := by decide +kernel
theorem dX11_works_211 : decode cX11_works 211 = .ok (.invokestatic 310, 3) := by decide +kernel
theorem dX11_works_214 : decode cX11_works 214 = .ok (.bastore, 1) := by decide +kernel
theorem dX11_works_215 : decode cX11_works 215 = .ok (.iinc 4 1, 3) := by decide +kernel
theorem dX11_works_218 : decode cX11_works 218 = .ok (.goto (-210), 3) := by decide +kernel
theorem dX11_works_221 : decode cX11_works 221 = .ok (.aload_n 0, 1) := by decide +kernel
theorem dX11_works_222 : decode cX11_works 222 = .ok (.getfield 48, 3) := by decide +kernel
theorem dX11_works_225 : decode cX11_works 225 = .ok (.iload_n 1, 1) := by decide +kernel
theorem dX11_works_226 : decode cX11_works 226 = .ok (.iaload, 1) := by decide +kernel
theorem dX11_works_227 : decode cX11_works 227 = .ok (.aload_n 0, 1) := by decide +kernel
theorem dX11_works_228 : decode cX11_works 228 = .ok (.getfield 45, 3) := by decide +kernel
theorem dX11_works_231 : decode cX11_works 231 = .ok (.iload_n 1, 1) := by decide +kernel
theorem dX11_works_232 : decode cX11_works 232 = .ok (.iaload, 1) := by decide +kernel
theorem dX11_works_233 : decode cX11_works 233 = .ok (.if_icmp .le 23, 3) := by decide +kernel
theorem dX11_works_236 : decode cX11_works 236 = .ok (.aload_n 0, 1) := by decide +kernel
theorem dX11_works_237 : decode cX11_works 237 = .ok (.getfield 117, 3) := by decide +kernel
theorem dX11_works_240 : decode cX11_works 240 = .ok (.aload_n 0, 1) := by decide +kernel
theorem dX11_works_241 : decode cX11_works 241 = .ok (.getfield 48, 3) := by decide +kernel
theorem dX11_works_244 : decode cX11_works 244 = .ok (.iload_n 1, 1) := by decide +kernel
theorem dX11_works_245 : decode cX11_works 245 = .ok (.iaload, 1) := by decide +kernel
theorem dX11_works_246 : decode cX11_works 246 = .ok (.iconst 1, 1) := by decide +kernel
theorem dX11_works_247 : decode cX11_works 247 = .ok (.isub, 1) := by decide +kernel
theorem dX11_works_248 : decode cX11_works 248 = .ok (.baload, 1) := by decide +kernel
theorem dX11_works_249 : decode cX11_works 249 = .ok (.ifCond .eq 7, 3) := by decide +kernel
theorem dX11_works_252 : decode cX11_works 252 = .ok (.iconst 1, 1) := by decide +kernel
theorem dX11_works_253 : decode cX11_works 253 = .ok (.goto 4, 3) := by decide +kernel
theorem dX11_works_256 : decode cX11_works 256 = .ok (.iconst 0, 1) := by decide +kernel
theorem dX11_works_257 : decode cX11_works 257 = .ok (.ireturn, 1) := by decide +kernel
theorem dX11_pulls_0 : decode cX11_pulls 0 = .ok (.aload_n 0, 1) := by decide +kernel
theorem dX11_pulls_1 : decode cX11_pulls 1 = .ok (.invokevirtual 397, 3) := by decide +kernel
theorem dX11_pulls_4 : decode cX11_pulls 4 = .ok (.istore_n 1, 1) := by decide +kernel
theorem dX11_pulls_5 : decode cX11_pulls 5 = .ok (.iconst 0, 1) := by decide +kernel
theorem dX11_pulls_6 : decode cX11_pulls 6 = .ok (.istore_n 2, 1) := by decide +kernel
theorem dX11_pulls_7 : decode cX11_pulls 7 = .ok (.iconst 0, 1) := by decide +kernel
theorem dX11_pulls_8 : decode cX11_pulls 8 = .ok (.istore_n 3, 1) := by decide +kernel
theorem dX11_pulls_9 : decode cX11_pulls 9 = .ok (.iload_n 3, 1) := by decide +kernel
theorem dX11_pulls_10 : decode cX11_pulls 10 = .ok (.aload_n 0, 1) := by decide +kernel
theorem dX11_pulls_11 : decode cX11_pulls 11 = .ok (.getfield 265, 3) := by decide +kernel
theorem dX11_pulls_14 : decode cX11_pulls 14 = .ok (.if_icmp .ge 58, 3) := by decide +kernel
theorem dX11_pulls_17 : decode cX11_pulls 17 = .ok (.aload_n 0, 1) := by decide +kernel
theorem dX11_pulls_18 : decode cX11_pulls 18 = .ok (.getfield 274, 3) := by decide +kernel
theorem dX11_pulls_21 : decode cX11_pulls 21 = .ok (.iload_n 3, 1) := by decide +kernel
theorem dX11_pulls_22 : decode cX11_pulls 22 = .ok (.invokestatic 310, 3) := by decide +kernel
theorem dX11_pulls_25 : decode cX11_pulls 25 = .ok (.ifCond .eq 14, 3) := by decide +kernel
theorem dX11_pulls_28 : decode cX11_pulls 28 = .ok (.aload_n 0, 1) := by decide +kernel
theorem dX11_pulls_29 : decode cX11_pulls 29 = .ok (.getfield 277, 3) := by decide +kernel
theorem dX11_pulls_32 : decode cX11_pulls 32 = .ok (.iload_n 3, 1) := by decide +kernel
theorem dX11_pulls_33 : decode cX11_pulls 33 = .ok (.invokestatic 310, 3) := by decide +kernel
theorem dX11_pulls_36 : decode cX11_pulls 36 = .ok (.goto 13, 3) := by decide +kernel
theorem dX11_pulls_39 : decode cX11_pulls 39 = .ok (.aload_n 0, 1) := by decide +kernel
theorem dX11_pulls_40 : decode cX11_pulls 40 = .ok (.iload_n 3, 1) := by decide +kernel
theorem dX11_pulls_41 : decode cX11_pulls 41 = .ok (.aload_n 0, 1) := by decide +kernel
theorem dX11_pulls_42 : decode cX11_pulls 42 = .ok (.getfield 271, 3) := by decide +kernel
theorem dX11_pulls_45 : decode cX11_pulls 45 = .ok (.iload_n 1, 1) := by decide +kernel
theorem dX11_pulls_46 : decode cX11_pulls 46 = .ok (.invokevirtual 400, 3) := by decide +kernel
theorem dX11_pulls_49 : decode cX11_pulls 49 = .ok (.istore 4, 2) := by decide +kernel
theorem dX11_pulls_51 : decode cX11_pulls 51 = .ok (.iload_n 2, 1) := by decide +kernel
theorem dX11_pulls_52 : decode cX11_pulls 52 = .ok (.iload 4, 2) := by decide +kernel
theorem dX11_pulls_54 : decode cX11_pulls 54 = .ok (.ifCond .eq 9, 3) := by decide +kernel
theorem dX11_pulls_57 : decode cX11_pulls 57 = .ok (.iconst 1, 1) := by decide +kernel
theorem dX11_pulls_58 : decode cX11_pulls 58 = .ok (.iload_n 3, 1) := by decide +kernel
theorem dX11_pulls_59 : decode cX11_pulls 59 = .ok (.ishl, 1) := by decide +kernel
theorem dX11_pulls_60 : decode cX11_pulls 60 = .ok (.goto 4, 3) := by decide +kernel
theorem dX11_pulls_63 : decode cX11_pulls 63 = .ok (.iconst 0, 1) := by decide +kernel
theorem dX11_pulls_64 : decode cX11_pulls 64 = .ok (.ior, 1) := by decide +kernel
theorem dX11_pulls_65 : decode cX11_pulls 65 = .ok (.istore_n 2, 1) := by decide +kernel
theorem dX11_pulls_66 : decode cX11_pulls 66 = .ok (.iinc 3 1, 3) := by decide +kernel
theorem dX11_pulls_69 : decode cX11_pulls 69 = .ok (.goto (-60), 3) := by decide +kernel
theorem dX11_pulls_72 : decode cX11_pulls 72 = .ok (.aload_n 0, 1) := by decide +kernel
theorem dX11_pulls_73 : decode cX11_pulls 73 = .ok (.iload_n 2, 1) := by decide +kernel
theorem dX11_pulls_74 : decode cX11_pulls 74 = .ok (.putfield 271, 3) := by decide +kernel
theorem dX11_pulls_77 : decode cX11_pulls 77 = .ok (.aload_n 0, 1) := by decide +kernel
theorem dX11_pulls_78 : decode cX11_pulls 78 = .ok (.bipush 23, 2) := by decide +kernel
theorem dX11_pulls_80 : decode cX11_pulls 80 = .ok (.iload_n 2, 1) := by decide +kernel
theorem dX11_pulls_81 : decode cX11_pulls 81 = .ok (.iload_n 1, 1) := by decide +kernel
theorem dX11_pulls_82 : decode cX11_pulls 82 = .ok (.invokevirtual 400, 3) := by decide +kernel
theorem dX11_pulls_85 : decode cX11_pulls 85 = .ok (.ifCond .eq 16, 3) := by decide +kernel
theorem dX11_pulls_88 : decode cX11_pulls 88 = .ok (.aload_n 0, 1) := by decide +kernel
theorem dX11_pulls_89 : decode cX11_pulls 89 = .ok (.getfield 72, 3) := by decide +kernel
theorem dX11_pulls_92 : decode cX11_pulls 92 = .ok (.aload_n 0, 1) := by decide +kernel
theorem dX11_pulls_93 : decode cX11_pulls 93 = .ok (.getfield 295, 3) := by decide +kernel
theorem dX11_pulls_96 : decode cX11_pulls 96 = .ok (.aload_n 0, 1) := by decide +kernel
theorem dX11_pulls_97 : decode cX11_pulls 97 = .ok (.getfield 298, 3) := by decide +kernel
theorem dX11_pulls_100 : decode cX11_pulls 100 = .ok (.iastore, 1) := by decide +kernel
theorem dX11_pulls_101 : decode cX11_pulls 101 = .ok (.aload_n 0, 1) := by decide +kernel
theorem dX11_pulls_102 : decode cX11_pulls 102 = .ok (.bipush 21, 2) := by decide +kernel
theorem dX11_pulls_104 : decode cX11_pulls 104 = .ok (.iload_n 2, 1) := by decide +kernel
theorem dX11_pulls_105 : decode cX11_pulls 105 = .ok (.iload_n 1, 1) := by decide +kernel
theorem dX11_pulls_106 : decode cX11_pulls 106 = .ok (.invokevirtual 400, 3) := by decide +kernel
theorem dX11_pulls_109 : decode cX11_pulls 109 = .ok (.istore_n 3, 1) := by decide +kernel
theorem dX11_pulls_110 : decode cX11_pulls 110 = .ok (.aload_n 0, 1) := by decide +kernel
theorem dX11_pulls_111 : decode cX11_pulls 111 = .ok (.bipush 22, 2) := by decide +kernel
theorem dX11_pulls_113 : decode cX11_pulls 113 = .ok (.iload_n 2, 1) := by decide +kernel
theorem dX11_pulls_114 : decode cX11_pulls 114 = .ok (.iload_n 1, 1) := by decide +kernel
theorem dX11_pulls_115 : decode cX11_pulls 115 = .ok (.invokevirtual 400, 3) := by decide +kernel
theorem dX11_pulls_118 : decode cX11_pulls 118 = .ok (.istore 4, 2) := by decide +kernel
theorem dX11_pulls_120 : decode cX11_pulls 120 = .ok (.aload_n 0, 1) := by decide +kernel
theorem dX11_pulls_121 : decode cX11_pulls 121 = .ok (.bipush 20, 2) := by decide +kernel
theorem dX11_pulls_123 : decode cX11_pulls 123 = .ok (.iload_n 2, 1) := by decide +kernel
theorem dX11_pulls_124 : decode cX11_pulls 124 = .ok (.iload_n 1, 1) := by decide +kernel
theorem dX11_pulls_125 : decode cX11_pulls 125 = .ok (.invokevirtual 400, 3) := by decide +kernel
theorem dX11_pulls_128 : decode cX11_pulls 128 = .ok (.istore 5, 2) := by decide +kernel
theorem dX11_pulls_130 : decode cX11_pulls 130 = .ok (.iload_n 3, 1) := by decide +kernel
theorem dX11_pulls_131 : decode cX11_pulls 131 = .ok (.ifCond .eq 15, 3) := by decide +kernel
theorem dX11_pulls_134 : decode cX11_pulls 134 = .ok (.aload_n 0, 1) := by decide +kernel
theorem dX11_pulls_135 : decode cX11_pulls 135 = .ok (.aload_n 0, 1) := by decide +kernel
theorem dX11_pulls_136 : decode cX11_pulls 136 = .ok (.getfield 298, 3) := by decide +kernel
theorem dX11_pulls_139 : decode cX11_pulls 139 = .ok (.iconst 3, 1) := by decide +kernel
theorem dX11_pulls_140 : decode cX11_pulls 140 = .ok (.iadd, 1) := by decide +kernel
theorem dX11_pulls_141 : decode cX11_pulls 141 = .ok (.iconst 4, 1) := by decide +kernel
theorem dX11_pulls_142 : decode cX11_pulls 142 = .ok (.irem, 1) := by decide +kernel
theorem dX11_pulls_143 : decode cX11_pulls 143 = .ok (.putfield 298, 3) := by decide +kernel
theorem dX11_pulls_146 : decode cX11_pulls 146 = .ok (.iload 4, 2) := by decide +kernel
theorem dX11_pulls_148 : decode cX11_pulls 148 = .ok (.ifCond .eq 15, 3) := by decide +kernel
theorem dX11_pulls_151 : decode cX11_pulls 151 = .ok (.aload_n 0, 1) := by decide +kernel
theorem dX11_pulls_152 : decode cX11_pulls 152 = .ok (.aload_n 0, 1) := by decide +kernel
theorem dX11_pulls_153 : decode cX11_pulls 153 = .ok (.getfield 298, 3) := by decide +kernel
theorem dX11_pulls_156 : decode cX11_pulls 156 = .ok (.iconst 1, 1) := by decide +kernel
theorem dX11_pulls_157 : decode cX11_pulls 157 = .ok (.iadd, 1) := by decide +kernel
theorem dX11_pulls_158 : decode cX11_pulls 158 = .ok (.iconst 4, 1) := by decide +kernel
theorem dX11_pulls_159 : decode cX11_pulls 159 = .ok (.irem, 1) := by decide +kernel
theorem dX11_pulls_160 : decode cX11_pulls 160 = .ok (.putfield 298, 3) := by decide +kernel
theorem dX11_pulls_163 : decode cX11_pulls 163 = .ok (.iload 5, 2) := by decide +kernel
theorem dX11_pulls_165 : decode cX11_pulls 165 = .ok (.ifCond .eq 7, 3) := by decide +kernel
theorem dX11_pulls_168 : decode cX11_pulls 168 = .ok (.aload_n 0, 1) := by decide +kernel
theorem dX11_pulls_169 : decode cX11_pulls 169 = .ok (.invokevirtual 340, 3) := by decide +kernel
theorem dX11_pulls_172 : decode cX11_pulls 172 = .ok (.return_, 1) := by decide +kernel
theorem dX11_pullsTold_0 : decode cX11_pullsTold 0 = .ok (.aload_n 0, 1) := by decide +kernel
theorem dX11_pullsTold_1 : decode cX11_pullsTold 1 = .ok (.aload_n 0, 1) := by decide +kernel
theorem dX11_pullsTold_2 : decode cX11_pullsTold 2 = .ok (.invokevirtual 397, 3) := by decide +kernel
theorem dX11_pullsTold_5 : decode cX11_pullsTold 5 = .ok (.putfield 403, 3) := by decide +kernel
theorem dX11_pullsTold_8 : decode cX11_pullsTold 8 = .ok (.aload_n 0, 1) := by decide +kernel
theorem dX11_pullsTold_9 : decode cX11_pullsTold 9 = .ok (.aload_n 0, 1) := by decide +kernel
theorem dX11_pullsTold_10 : decode cX11_pullsTold 10 = .ok (.getfield 271, 3) := by decide +kernel
theorem dX11_pullsTold_13 : decode cX11_pullsTold 13 = .ok (.putfield 406, 3) := by decide +kernel
theorem dX11_pullsTold_16 : decode cX11_pullsTold 16 = .ok (.aload_n 0, 1) := by decide +kernel
theorem dX11_pullsTold_17 : decode cX11_pullsTold 17 = .ok (.invokevirtual 409, 3) := by decide +kernel
theorem dX11_pullsTold_20 : decode cX11_pullsTold 20 = .ok (.aload_n 0, 1) := by decide +kernel
theorem dX11_pullsTold_21 : decode cX11_pullsTold 21 = .ok (.aload_n 0, 1) := by decide +kernel
theorem dX11_pullsTold_22 : decode cX11_pullsTold 22 = .ok (.getfield 271, 3) := by decide +kernel
theorem dX11_pullsTold_25 : decode cX11_pullsTold 25 = .ok (.putfield 412, 3) := by decide +kernel
theorem dX11_pullsTold_28 : decode cX11_pullsTold 28 = .ok (.aload_n 0, 1) := by decide +kernel
theorem dX11_pullsTold_29 : decode cX11_pullsTold 29 = .ok (.iconst 1, 1) := by decide +kernel
theorem dX11_pullsTold_30 : decode cX11_pullsTold 30 = .ok (.putfield 394, 3) := by decide +kernel
theorem dX11_pullsTold_33 : decode cX11_pullsTold 33 = .ok (.return_, 1) := by decide +kernel
theorem dX11_pull_0 : decode cX11_pull 0 = .ok (.aload_n 0, 1) := by decide +kernel
theorem dX11_pull_1 : decode cX11_pull 1 = .ok (.iconst 0, 1) := by decide +kernel
theorem dX11_pull_2 : decode cX11_pull 2 = .ok (.putfield 130, 3) := by decide +kernel
theorem dX11_pull_5 : decode cX11_pull 5 = .ok (.iload_n 1, 1) := by decide +kernel
theorem dX11_pull_6 : decode cX11_pull 6 = .ok (.iconst 0, 1) := by decide +kernel
theorem dX11_pull_7 : decode cX11_pull 7 = .ok (.sipush 5000, 3) := by decide +kernel
theorem dX11_pull_10 : decode cX11_pull 10 = .ok (.invokestatic 317, 3) := by decide +kernel
theorem dX11_pull_13 : decode cX11_pull 13 = .ok (.ifCond .ne 5, 3) := by decide +kernel
theorem dX11_pull_16 : decode cX11_pull 16 = .ok (.iconst (-1), 1) := by decide +kernel
theorem dX11_pull_17 : decode cX11_pull 17 = .ok (.ireturn, 1) := by decide +kernel
theorem dX11_pull_18 : decode cX11_pull 18 = .ok (.aload_n 0, 1) := by decide +kernel
theorem dX11_pull_19 : decode cX11_pull 19 = .ok (.iconst 0, 1) := by decide +kernel
theorem dX11_pull_20 : decode cX11_pull 20 = .ok (.putfield 337, 3) := by decide +kernel
theorem dX11_pull_23 : decode cX11_pull 23 = .ok (.iconst 0, 1) := by decide +kernel
theorem dX11_pull_24 : decode cX11_pull 24 = .ok (.istore_n 2, 1) := by decide +kernel
theorem dX11_pull_25 : decode cX11_pull 25 = .ok (.iload_n 2, 1) := by decide +kernel
theorem dX11_pull_26 : decode cX11_pull 26 = .ok (.iload_n 1, 1) := by decide +kernel
theorem dX11_pull_27 : decode cX11_pull 27 = .ok (.if_icmp .ge 13, 3) := by decide +kernel
theorem dX11_pull_30 : decode cX11_pull 30 = .ok (.aload_n 0, 1) := by decide +kernel
theorem dX11_pull_31 : decode cX11_pull 31 = .ok (.invokevirtual 415, 3) := by decide +kernel
theorem dX11_pull_34 : decode cX11_pull 34 = .ok (.iinc 2 1, 3) := by decide +kernel
theorem dX11_pull_37 : decode cX11_pull 37 = .ok (.goto (-12), 3) := by decide +kernel
theorem dX11_pull_40 : decode cX11_pull 40 = .ok (.aload_n 0, 1) := by decide +kernel
theorem dX11_pull_41 : decode cX11_pull 41 = .ok (.getfield 337, 3) := by decide +kernel
theorem dX11_pull_44 : decode cX11_pull 44 = .ok (.ireturn, 1) := by decide +kernel
theorem dX11_pullRun_0 : decode cX11_pullRun 0 = .ok (.aload_n 0, 1) := by decide +kernel
theorem dX11_pullRun_1 : decode cX11_pullRun 1 = .ok (.iconst 0, 1) := by decide +kernel
theorem dX11_pullRun_2 : decode cX11_pullRun 2 = .ok (.putfield 130, 3) := by decide +kernel
theorem dX11_pullRun_5 : decode cX11_pullRun 5 = .ok (.iload_n 1, 1) := by decide +kernel
theorem dX11_pullRun_6 : decode cX11_pullRun 6 = .ok (.iconst 0, 1) := by decide +kernel
theorem dX11_pullRun_7 : decode cX11_pullRun 7 = .ok (.sipush 5000, 3) := by decide +kernel
theorem dX11_pullRun_10 : decode cX11_pullRun 10 = .ok (.invokestatic 317, 3) := by decide +kernel
theorem dX11_pullRun_13 : decode cX11_pullRun 13 = .ok (.ifCond .ne 5, 3) := by decide +kernel
theorem dX11_pullRun_16 : decode cX11_pullRun 16 = .ok (.iconst (-1), 1) := by decide +kernel
theorem dX11_pullRun_17 : decode cX11_pullRun 17 = .ok (.ireturn, 1) := by decide +kernel
theorem dX11_pullRun_18 : decode cX11_pullRun 18 = .ok (.iconst 0, 1) := by decide +kernel
theorem dX11_pullRun_19 : decode cX11_pullRun 19 = .ok (.istore_n 2, 1) := by decide +kernel
theorem dX11_pullRun_20 : decode cX11_pullRun 20 = .ok (.aload_n 0, 1) := by decide +kernel
theorem dX11_pullRun_21 : decode cX11_pullRun 21 = .ok (.getfield 295, 3) := by decide +kernel
theorem dX11_pullRun_24 : decode cX11_pullRun 24 = .ok (.aload_n 0, 1) := by decide +kernel
theorem dX11_pullRun_25 : decode cX11_pullRun 25 = .ok (.getfield 292, 3) := by decide +kernel
theorem dX11_pullRun_28 : decode cX11_pullRun 28 = .ok (.if_icmp .eq 21, 3) := by decide +kernel
theorem dX11_pullRun_31 : decode cX11_pullRun 31 = .ok (.iload_n 2, 1) := by decide +kernel
theorem dX11_pullRun_32 : decode cX11_pullRun 32 = .ok (.iload_n 1, 1) := by decide +kernel
theorem dX11_pullRun_33 : decode cX11_pullRun 33 = .ok (.if_icmp .ne 6, 3) := by decide +kernel
theorem dX11_pullRun_36 : decode cX11_pullRun 36 = .ok (.bipush (-2), 2) := by decide +kernel
theorem dX11_pullRun_38 : decode cX11_pullRun 38 = .ok (.ireturn, 1) := by decide +kernel
theorem dX11_pullRun_39 : decode cX11_pullRun 39 = .ok (.aload_n 0, 1) := by decide +kernel
theorem dX11_pullRun_40 : decode cX11_pullRun 40 = .ok (.invokevirtual 415, 3) := by decide +kernel
theorem dX11_pullRun_43 : decode cX11_pullRun 43 = .ok (.iinc 2 1, 3) := by decide +kernel
theorem dX11_pullRun_46 : decode cX11_pullRun 46 = .ok (.goto (-26), 3) := by decide +kernel
theorem dX11_pullRun_49 : decode cX11_pullRun 49 = .ok (.iload_n 2, 1) := by decide +kernel
theorem dX11_pullRun_50 : decode cX11_pullRun 50 = .ok (.ireturn, 1) := by decide +kernel
theorem dX11_relays_0 : decode cX11_relays 0 = .ok (.aload_n 0, 1) := by decide +kernel
theorem dX11_relays_1 : decode cX11_relays 1 = .ok (.iconst 0, 1) := by decide +kernel
theorem dX11_relays_2 : decode cX11_relays 2 = .ok (.putfield 130, 3) := by decide +kernel
theorem dX11_relays_5 : decode cX11_relays 5 = .ok (.aload_n 0, 1) := by decide +kernel
theorem dX11_relays_6 : decode cX11_relays 6 = .ok (.getfield 271, 3) := by decide +kernel
theorem dX11_relays_9 : decode cX11_relays 9 = .ok (.ireturn, 1) := by decide +kernel
theorem dX11_races_0 : decode cX11_races 0 = .ok (.aload_n 0, 1) := by decide +kernel
theorem dX11_races_1 : decode cX11_races 1 = .ok (.iload_n 1, 1) := by decide +kernel
theorem dX11_races_2 : decode cX11_races 2 = .ok (.aload_n 0, 1) := by decide +kernel
theorem dX11_races_3 : decode cX11_races 3 = .ok (.getfield 406, 3) := by decide +kernel
theorem dX11_races_6 : decode cX11_races 6 = .ok (.iconst 1, 1) := by decide +kernel
theorem dX11_races_7 : decode cX11_races 7 = .ok (.iload_n 2, 1) := by decide +kernel
theorem dX11_races_8 : decode cX11_races 8 = .ok (.ishl, 1) := by decide +kernel
theorem dX11_races_9 : decode cX11_races 9 = .ok (.ixor, 1) := by decide +kernel
theorem dX11_races_10 : decode cX11_races 10 = .ok (.aload_n 0, 1) := by decide +kernel
theorem dX11_races_11 : decode cX11_races 11 = .ok (.getfield 403, 3) := by decide +kernel
theorem dX11_races_14 : decode cX11_races 14 = .ok (.invokevirtual 400, 3) := by decide +kernel
theorem dX11_races_17 : decode cX11_races 17 = .ok (.aload_n 0, 1) := by decide +kernel
theorem dX11_races_18 : decode cX11_races 18 = .ok (.getfield 406, 3) := by decide +kernel
theorem dX11_races_21 : decode cX11_races 21 = .ok (.iload_n 1, 1) := by decide +kernel
theorem dX11_races_22 : decode cX11_races 22 = .ok (.invokestatic 310, 3) := by decide +kernel
theorem dX11_races_25 : decode cX11_races 25 = .ok (.if_icmp .ne 7, 3) := by decide +kernel
theorem dX11_races_28 : decode cX11_races 28 = .ok (.iconst 1, 1) := by decide +kernel
theorem dX11_races_29 : decode cX11_races 29 = .ok (.goto 4, 3) := by decide +kernel
theorem dX11_races_32 : decode cX11_races 32 = .ok (.iconst 0, 1) := by decide +kernel
theorem dX11_races_33 : decode cX11_races 33 = .ok (.ireturn, 1) := by decide +kernel
theorem dX11_race_0 : decode cX11_race 0 = .ok (.aload_n 0, 1) := by decide +kernel
theorem dX11_race_1 : decode cX11_race 1 = .ok (.iconst 0, 1) := by decide +kernel
theorem dX11_race_2 : decode cX11_race 2 = .ok (.putfield 130, 3) := by decide +kernel
theorem dX11_race_5 : decode cX11_race 5 = .ok (.aload_n 0, 1) := by decide +kernel
theorem dX11_race_6 : decode cX11_race 6 = .ok (.getfield 394, 3) := by decide +kernel
theorem dX11_race_9 : decode cX11_race 9 = .ok (.ifCond .ne 5, 3) := by decide +kernel
theorem dX11_race_12 : decode cX11_race 12 = .ok (.iconst (-1), 1) := by decide +kernel
theorem dX11_race_13 : decode cX11_race 13 = .ok (.ireturn, 1) := by decide +kernel
theorem dX11_race_14 : decode cX11_race 14 = .ok (.aload_n 0, 1) := by decide +kernel
theorem dX11_race_15 : decode cX11_race 15 = .ok (.getfield 406, 3) := by decide +kernel
theorem dX11_race_18 : decode cX11_race 18 = .ok (.aload_n 0, 1) := by decide +kernel
theorem dX11_race_19 : decode cX11_race 19 = .ok (.getfield 412, 3) := by decide +kernel
theorem dX11_race_22 : decode cX11_race 22 = .ok (.ixor, 1) := by decide +kernel
theorem dX11_race_23 : decode cX11_race 23 = .ok (.istore_n 1, 1) := by decide +kernel
theorem dX11_race_24 : decode cX11_race 24 = .ok (.iconst 0, 1) := by decide +kernel
theorem dX11_race_25 : decode cX11_race 25 = .ok (.istore_n 2, 1) := by decide +kernel
theorem dX11_race_26 : decode cX11_race 26 = .ok (.iload_n 2, 1) := by decide +kernel
theorem dX11_race_27 : decode cX11_race 27 = .ok (.aload_n 0, 1) := by decide +kernel
theorem dX11_race_28 : decode cX11_race 28 = .ok (.getfield 265, 3) := by decide +kernel
theorem dX11_race_31 : decode cX11_race 31 = .ok (.if_icmp .ge 78, 3) := by decide +kernel
theorem dX11_race_34 : decode cX11_race 34 = .ok (.iload_n 2, 1) := by decide +kernel
theorem dX11_race_35 : decode cX11_race 35 = .ok (.iconst 1, 1) := by decide +kernel
theorem dX11_race_36 : decode cX11_race 36 = .ok (.iadd, 1) := by decide +kernel
theorem dX11_race_37 : decode cX11_race 37 = .ok (.istore_n 3, 1) := by decide +kernel
theorem dX11_race_38 : decode cX11_race 38 = .ok (.iload_n 3, 1) := by decide +kernel
theorem dX11_race_39 : decode cX11_race 39 = .ok (.aload_n 0, 1) := by decide +kernel
theorem dX11_race_40 : decode cX11_race 40 = .ok (.getfield 265, 3) := by decide +kernel
theorem dX11_race_43 : decode cX11_race 43 = .ok (.if_icmp .ge 60, 3) := by decide +kernel
theorem dX11_race_46 : decode cX11_race 46 = .ok (.iload_n 1, 1) := by decide +kernel
theorem dX11_race_47 : decode cX11_race 47 = .ok (.iload_n 2, 1) := by decide +kernel
theorem dX11_race_48 : decode cX11_race 48 = .ok (.invokestatic 310, 3) := by decide +kernel
theorem dX11_race_51 : decode cX11_race 51 = .ok (.ifCond .eq 46, 3) := by decide +kernel
theorem dX11_race_54 : decode cX11_race 54 = .ok (.iload_n 1, 1) := by decide +kernel
theorem dX11_race_55 : decode cX11_race 55 = .ok (.iload_n 3, 1) := by decide +kernel
theorem dX11_race_56 : decode cX11_race 56 = .ok (.invokestatic 310, 3) := by decide +kernel
theorem dX11_race_59 : decode cX11_race 59 = .ok (.ifCond .ne 6, 3) := by decide +kernel
theorem dX11_race_62 : decode cX11_race 62 = .ok (.goto 35, 3) := by decide +kernel
theorem dX11_race_65 : decode cX11_race 65 = .ok (.aload_n 0, 1) := by decide +kernel
theorem dX11_race_66 : decode cX11_race 66 = .ok (.iload_n 2, 1) := by decide +kernel
theorem dX11_race_67 : decode cX11_race 67 = .ok (.iload_n 3, 1) := by decide +kernel
theorem dX11_race_68 : decode cX11_race 68 = .ok (.invokevirtual 418, 3) := by decide +kernel
theorem dX11_race_71 : decode cX11_race 71 = .ok (.ifCond .eq 10, 3) := by decide +kernel
theorem dX11_race_74 : decode cX11_race 74 = .ok (.bipush 32, 2) := by decide +kernel
theorem dX11_race_76 : decode cX11_race 76 = .ok (.iload_n 2, 1) := by decide +kernel
theorem dX11_race_77 : decode cX11_race 77 = .ok (.imul, 1) := by decide +kernel
theorem dX11_race_78 : decode cX11_race 78 = .ok (.iload_n 3, 1) := by decide +kernel
theorem dX11_race_79 : decode cX11_race 79 = .ok (.iadd, 1) := by decide +kernel
theorem dX11_race_80 : decode cX11_race 80 = .ok (.ireturn, 1) := by decide +kernel
theorem dX11_race_81 : decode cX11_race 81 = .ok (.aload_n 0, 1) := by decide +kernel
theorem dX11_race_82 : decode cX11_race 82 = .ok (.iload_n 3, 1) := by decide +kernel
theorem dX11_race_83 : decode cX11_race 83 = .ok (.iload_n 2, 1) := by decide +kernel
theorem dX11_race_84 : decode cX11_race 84 = .ok (.invokevirtual 418, 3) := by decide +kernel
theorem dX11_race_87 : decode cX11_race 87 = .ok (.ifCond .eq 10, 3) := by decide +kernel
theorem dX11_race_90 : decode cX11_race 90 = .ok (.bipush 32, 2) := by decide +kernel
theorem dX11_race_92 : decode cX11_race 92 = .ok (.iload_n 3, 1) := by decide +kernel
theorem dX11_race_93 : decode cX11_race 93 = .ok (.imul, 1) := by decide +kernel
theorem dX11_race_94 : decode cX11_race 94 = .ok (.iload_n 2, 1) := by decide +kernel
theorem dX11_race_95 : decode cX11_race 95 = .ok (.iadd, 1) := by decide +kernel
theorem dX11_race_96 : decode cX11_race 96 = .ok (.ireturn, 1) := by decide +kernel
theorem dX11_race_97 : decode cX11_race 97 = .ok (.iinc 3 1, 3) := by decide +kernel
theorem dX11_race_100 : decode cX11_race 100 = .ok (.goto (-62), 3) := by decide +kernel
theorem dX11_race_103 : decode cX11_race 103 = .ok (.iinc 2 1, 3) := by decide +kernel
theorem dX11_race_106 : decode cX11_race 106 = .ok (.goto (-80), 3) := by decide +kernel
theorem dX11_race_109 : decode cX11_race 109 = .ok (.iconst (-1), 1) := by decide +kernel
theorem dX11_race_110 : decode cX11_race 110 = .ok (.ireturn, 1) := by decide +kernel
theorem dX11_stick_0 : decode cX11_stick 0 = .ok (.aload_n 0, 1) := by decide +kernel
theorem dX11_stick_1 : decode cX11_stick 1 = .ok (.iconst 0, 1) := by decide +kernel
theorem dX11_stick_2 : decode cX11_stick 2 = .ok (.putfield 130, 3) := by decide +kernel
theorem dX11_stick_5 : decode cX11_stick 5 = .ok (.iload_n 1, 1) := by decide +kernel
theorem dX11_stick_6 : decode cX11_stick 6 = .ok (.ifCond .lt 20, 3) := by decide +kernel
theorem dX11_stick_9 : decode cX11_stick 9 = .ok (.iload_n 1, 1) := by decide +kernel
theorem dX11_stick_10 : decode cX11_stick 10 = .ok (.aload_n 0, 1) := by decide +kernel
theorem dX11_stick_11 : decode cX11_stick 11 = .ok (.getfield 265, 3) := by decide +kernel
theorem dX11_stick_14 : decode cX11_stick 14 = .ok (.if_icmp .ge 12, 3) := by decide +kernel
theorem dX11_stick_17 : decode cX11_stick 17 = .ok (.iload_n 2, 1) := by decide +kernel
theorem dX11_stick_18 : decode cX11_stick 18 = .ok (.iconst 0, 1) := by decide +kernel
theorem dX11_stick_19 : decode cX11_stick 19 = .ok (.iconst 2, 1) := by decide +kernel
theorem dX11_stick_20 : decode cX11_stick 20 = .ok (.invokestatic 317, 3) := by decide +kernel
theorem dX11_stick_23 : decode cX11_stick 23 = .ok (.ifCond .ne 5, 3) := by decide +kernel
theorem dX11_stick_26 : decode cX11_stick 26 = .ok (.iconst 0, 1) := by decide +kernel
theorem dX11_stick_27 : decode cX11_stick 27 = .ok (.ireturn, 1) := by decide +kernel
theorem dX11_stick_28 : decode cX11_stick 28 = .ok (.aload_n 0, 1) := by decide +kernel
theorem dX11_stick_29 : decode cX11_stick 29 = .ok (.iload_n 1, 1) := by decide +kernel
theorem dX11_stick_30 : decode cX11_stick 30 = .ok (.iload_n 2, 1) := by decide +kernel
theorem dX11_stick_31 : decode cX11_stick 31 = .ok (.invokevirtual 421, 3) := by decide +kernel
theorem dX11_stick_34 : decode cX11_stick 34 = .ok (.iconst 1, 1) := by decide +kernel
theorem dX11_stick_35 : decode cX11_stick 35 = .ok (.ireturn, 1) := by decide +kernel
theorem dX11_sticks_0 : decode cX11_sticks 0 = .ok (.aload_n 0, 1) := by decide +kernel
theorem dX11_sticks_1 : decode cX11_sticks 1 = .ok (.iload_n 2, 1) := by decide +kernel
theorem dX11_sticks_2 : decode cX11_sticks 2 = .ok (.iconst 2, 1) := by decide +kernel
theorem dX11_sticks_3 : decode cX11_sticks 3 = .ok (.if_icmp .ne 16, 3) := by decide +kernel
theorem dX11_sticks_6 : decode cX11_sticks 6 = .ok (.aload_n 0, 1) := by decide +kernel
theorem dX11_sticks_7 : decode cX11_sticks 7 = .ok (.getfield 274, 3) := by decide +kernel
theorem dX11_sticks_10 : decode cX11_sticks 10 = .ok (.iconst 1, 1) := by decide +kernel
theorem dX11_sticks_11 : decode cX11_sticks 11 = .ok (.iload_n 1, 1) := by decide +kernel
theorem dX11_sticks_12 : decode cX11_sticks 12 = .ok (.ishl, 1) := by decide +kernel
theorem dX11_sticks_13 : decode cX11_sticks 13 = .ok (.iconst (-1), 1) := by decide +kernel
theorem dX11_sticks_14 : decode cX11_sticks 14 = .ok (.ixor, 1) := by decide +kernel
theorem dX11_sticks_15 : decode cX11_sticks 15 = .ok (.iand, 1) := by decide +kernel
theorem dX11_sticks_16 : decode cX11_sticks 16 = .ok (.goto 11, 3) := by decide +kernel
theorem dX11_sticks_19 : decode cX11_sticks 19 = .ok (.aload_n 0, 1) := by decide +kernel
theorem dX11_sticks_20 : decode cX11_sticks 20 = .ok (.getfield 274, 3) := by decide +kernel
theorem dX11_sticks_23 : decode cX11_sticks 23 = .ok (.iconst 1, 1) := by decide +kernel
theorem dX11_sticks_24 : decode cX11_sticks 24 = .ok (.iload_n 1, 1) := by decide +kernel
theorem dX11_sticks_25 : decode cX11_sticks 25 = .ok (.ishl, 1) := by decide +kernel
theorem dX11_sticks_26 : decode cX11_sticks 26 = .ok (.ior, 1) := by decide +kernel
theorem dX11_sticks_27 : decode cX11_sticks 27 = .ok (.putfield 274, 3) := by decide +kernel
theorem dX11_sticks_30 : decode cX11_sticks 30 = .ok (.aload_n 0, 1) := by decide +kernel
theorem dX11_sticks_31 : decode cX11_sticks 31 = .ok (.iload_n 2, 1) := by decide +kernel
theorem dX11_sticks_32 : decode cX11_sticks 32 = .ok (.iconst 1, 1) := by decide +kernel
theorem dX11_sticks_33 : decode cX11_sticks 33 = .ok (.if_icmp .ne 14, 3) := by decide +kernel
theorem dX11_sticks_36 : decode cX11_sticks 36 = .ok (.aload_n 0, 1) := by decide +kernel
theorem dX11_sticks_37 : decode cX11_sticks 37 = .ok (.getfield 277, 3) := by decide +kernel
theorem dX11_sticks_40 : decode cX11_sticks 40 = .ok (.iconst 1, 1) := by decide +kernel
theorem dX11_sticks_41 : decode cX11_sticks 41 = .ok (.iload_n 1, 1) := by decide +kernel
theorem dX11_sticks_42 : decode cX11_sticks 42 = .ok (.ishl, 1) := by decide +kernel
theorem dX11_sticks_43 : decode cX11_sticks 43 = .ok (.ior, 1) := by decide +kernel
theorem dX11_sticks_44 : decode cX11_sticks 44 = .ok (.goto 13, 3) := by decide +kernel
theorem dX11_sticks_47 : decode cX11_sticks 47 = .ok (.aload_n 0, 1) := by decide +kernel
theorem dX11_sticks_48 : decode cX11_sticks 48 = .ok (.getfield 277, 3) := by decide +kernel
theorem dX11_sticks_51 : decode cX11_sticks 51 = .ok (.iconst 1, 1) := by decide +kernel
theorem dX11_sticks_52 : decode cX11_sticks 52 = .ok (.iload_n 1, 1) := by decide +kernel
theorem dX11_sticks_53 : decode cX11_sticks 53 = .ok (.ishl, 1) := by decide +kernel
theorem dX11_sticks_54 : decode cX11_sticks 54 = .ok (.iconst (-1), 1) := by decide +kernel
theorem dX11_sticks_55 : decode cX11_sticks 55 = .ok (.ixor, 1) := by decide +kernel
theorem dX11_sticks_56 : decode cX11_sticks 56 = .ok (.iand, 1) := by decide +kernel
theorem dX11_sticks_57 : decode cX11_sticks 57 = .ok (.putfield 277, 3) := by decide +kernel
theorem dX11_sticks_60 : decode cX11_sticks 60 = .ok (.iload_n 2, 1) := by decide +kernel
theorem dX11_sticks_61 : decode cX11_sticks 61 = .ok (.iconst 2, 1) := by decide +kernel
theorem dX11_sticks_62 : decode cX11_sticks 62 = .ok (.if_icmp .ge 33, 3) := by decide +kernel
theorem dX11_sticks_65 : decode cX11_sticks 65 = .ok (.aload_n 0, 1) := by decide +kernel
theorem dX11_sticks_66 : decode cX11_sticks 66 = .ok (.iload_n 2, 1) := by decide +kernel
theorem dX11_sticks_67 : decode cX11_sticks 67 = .ok (.iconst 1, 1) := by decide +kernel
theorem dX11_sticks_68 : decode cX11_sticks 68 = .ok (.if_icmp .ne 14, 3) := by decide +kernel
theorem dX11_sticks_71 : decode cX11_sticks 71 = .ok (.aload_n 0, 1) := by decide +kernel
theorem dX11_sticks_72 : decode cX11_sticks 72 = .ok (.getfield 271, 3) := by decide +kernel
theorem dX11_sticks_75 : decode cX11_sticks 75 = .ok (.iconst 1, 1) := by decide +kernel
theorem dX11_sticks_76 : decode cX11_sticks 76 = .ok (.iload_n 1, 1) := by decide +kernel
theorem dX11_sticks_77 : decode cX11_sticks 77 = .ok (.ishl, 1) := by decide +kernel
theorem dX11_sticks_78 : decode cX11_sticks 78 = .ok (.ior, 1) := by decide +kernel
theorem dX11_sticks_79 : decode cX11_sticks 79 = .ok (.goto 13, 3) := by decide +kernel
theorem dX11_sticks_82 : decode cX11_sticks 82 = .ok (.aload_n 0, 1) := by decide +kernel
theorem dX11_sticks_83 : decode cX11_sticks 83 = .ok (.getfield 271, 3) := by decide +kernel
theorem dX11_sticks_86 : decode cX11_sticks 86 = .ok (.iconst 1, 1) := by decide +kernel
theorem dX11_sticks_87 : decode cX11_sticks 87 = .ok (.iload_n 1, 1) := by decide +kernel
theorem dX11_sticks_88 : decode cX11_sticks 88 = .ok (.ishl, 1) := by decide +kernel
theorem dX11_sticks_89 : decode cX11_sticks 89 = .ok (.iconst (-1), 1) := by decide +kernel
theorem dX11_sticks_90 : decode cX11_sticks 90 = .ok (.ixor, 1) := by decide +kernel
theorem dX11_sticks_91 : decode cX11_sticks 91 = .ok (.iand, 1) := by decide +kernel
theorem dX11_sticks_92 : decode cX11_sticks 92 = .ok (.putfield 271, 3) := by decide +kernel
theorem dX11_sticks_95 : decode cX11_sticks 95 = .ok (.return_, 1) := by decide +kernel
theorem dX11_stuck_0 : decode cX11_stuck 0 = .ok (.aload_n 0, 1) := by decide +kernel
theorem dX11_stuck_1 : decode cX11_stuck 1 = .ok (.iconst 0, 1) := by decide +kernel
theorem dX11_stuck_2 : decode cX11_stuck 2 = .ok (.putfield 130, 3) := by decide +kernel
theorem dX11_stuck_5 : decode cX11_stuck 5 = .ok (.aload_n 0, 1) := by decide +kernel
theorem dX11_stuck_6 : decode cX11_stuck 6 = .ok (.getfield 274, 3) := by decide +kernel
theorem dX11_stuck_9 : decode cX11_stuck 9 = .ok (.ireturn, 1) := by decide +kernel
theorem dX11_same_0 : decode cX11_same 0 = .ok (.aload_n 0, 1) := by decide +kernel
theorem dX11_same_1 : decode cX11_same 1 = .ok (.iconst 0, 1) := by decide +kernel
theorem dX11_same_2 : decode cX11_same 2 = .ok (.putfield 130, 3) := by decide +kernel
theorem dX11_same_5 : decode cX11_same 5 = .ok (.iload_n 1, 1) := by decide +kernel
theorem dX11_same_6 : decode cX11_same 6 = .ok (.iconst 1, 1) := by decide +kernel
theorem dX11_same_7 : decode cX11_same 7 = .ok (.sipush 500, 3) := by decide +kernel
theorem dX11_same_10 : decode cX11_same 10 = .ok (.invokestatic 317, 3) := by decide +kernel
theorem dX11_same_13 : decode cX11_same 13 = .ok (.ifCond .ne 5, 3) := by decide +kernel
theorem dX11_same_16 : decode cX11_same 16 = .ok (.iconst (-1), 1) := by decide +kernel
theorem dX11_same_17 : decode cX11_same 17 = .ok (.ireturn, 1) := by decide +kernel
theorem dX11_same_18 : decode cX11_same 18 = .ok (.aload_n 0, 1) := by decide +kernel
theorem dX11_same_19 : decode cX11_same 19 = .ok (.iconst 4, 1) := by decide +kernel
theorem dX11_same_20 : decode cX11_same 20 = .ok (.invokevirtual 358, 3) := by decide +kernel
theorem dX11_same_23 : decode cX11_same 23 = .ok (.aload_n 0, 1) := by decide +kernel
theorem dX11_same_24 : decode cX11_same 24 = .ok (.aload_n 0, 1) := by decide +kernel
theorem dX11_same_25 : decode cX11_same 25 = .ok (.getfield 274, 3) := by decide +kernel
theorem dX11_same_28 : decode cX11_same 28 = .ok (.aload_n 0, 1) := by decide +kernel
theorem dX11_same_29 : decode cX11_same 29 = .ok (.getfield 277, 3) := by decide +kernel
theorem dX11_same_32 : decode cX11_same 32 = .ok (.iand, 1) := by decide +kernel
theorem dX11_same_33 : decode cX11_same 33 = .ok (.putfield 271, 3) := by decide +kernel
theorem dX11_same_36 : decode cX11_same 36 = .ok (.aload_n 0, 1) := by decide +kernel
theorem dX11_same_37 : decode cX11_same 37 = .ok (.iconst 5, 1) := by decide +kernel
theorem dX11_same_38 : decode cX11_same 38 = .ok (.invokevirtual 358, 3) := by decide +kernel
theorem dX11_same_41 : decode cX11_same 41 = .ok (.aload_n 0, 1) := by decide +kernel
theorem dX11_same_42 : decode cX11_same 42 = .ok (.bipush 6, 2) := by decide +kernel
theorem dX11_same_44 : decode cX11_same 44 = .ok (.invokevirtual 358, 3) := by decide +kernel
theorem dX11_same_47 : decode cX11_same 47 = .ok (.iconst 0, 1) := by decide +kernel
theorem dX11_same_48 : decode cX11_same 48 = .ok (.istore_n 2, 1) := by decide +kernel
theorem dX11_same_49 : decode cX11_same 49 = .ok (.iconst 1, 1) := by decide +kernel
theorem dX11_same_50 : decode cX11_same 50 = .ok (.istore_n 3, 1) := by decide +kernel
theorem dX11_same_51 : decode cX11_same 51 = .ok (.iload_n 3, 1) := by decide +kernel
theorem dX11_same_52 : decode cX11_same 52 = .ok (.iload_n 1, 1) := by decide +kernel
theorem dX11_same_53 : decode cX11_same 53 = .ok (.if_icmp .gt 171, 3) := by decide +kernel
theorem dX11_same_56 : decode cX11_same 56 = .ok (.iload_n 2, 1) := by decide +kernel
theorem dX11_same_57 : decode cX11_same 57 = .ok (.ifCond .ne 167, 3) := by decide +kernel
theorem dX11_same_60 : decode cX11_same 60 = .ok (.aload_n 0, 1) := by decide +kernel
theorem dX11_same_61 : decode cX11_same 61 = .ok (.iconst 5, 1) := by decide +kernel
theorem dX11_same_62 : decode cX11_same 62 = .ok (.invokevirtual 361, 3) := by decide +kernel
theorem dX11_same_65 : decode cX11_same 65 = .ok (.aload_n 0, 1) := by decide +kernel
theorem dX11_same_66 : decode cX11_same 66 = .ok (.invokevirtual 409, 3) := by decide +kernel
theorem dX11_same_69 : decode cX11_same 69 = .ok (.aload_n 0, 1) := by decide +kernel
theorem dX11_same_70 : decode cX11_same 70 = .ok (.iconst 5, 1) := by decide +kernel
theorem dX11_same_71 : decode cX11_same 71 = .ok (.invokevirtual 358, 3) := by decide +kernel
theorem dX11_same_74 : decode cX11_same 74 = .ok (.iconst 4, 1) := by decide +kernel
theorem dX11_same_75 : decode cX11_same 75 = .ok (.aload_n 0, 1) := by decide +kernel
theorem dX11_same_76 : decode cX11_same 76 = .ok (.getfield 295, 3) := by decide +kernel
theorem dX11_same_79 : decode cX11_same 79 = .ok (.imul, 1) := by decide +kernel
theorem dX11_same_80 : decode cX11_same 80 = .ok (.aload_n 0, 1) := by decide +kernel
theorem dX11_same_81 : decode cX11_same 81 = .ok (.getfield 298, 3) := by decide +kernel
theorem dX11_same_84 : decode cX11_same 84 = .ok (.iadd, 1) := by decide +kernel
theorem dX11_same_85 : decode cX11_same 85 = .ok (.istore 4, 2) := by decide +kernel
theorem dX11_same_87 : decode cX11_same 87 = .ok (.iconst 0, 1) := by decide +kernel
theorem dX11_same_88 : decode cX11_same 88 = .ok (.istore 5, 2) := by decide +kernel
theorem dX11_same_90 : decode cX11_same 90 = .ok (.iload 5, 2) := by decide +kernel
theorem dX11_same_92 : decode cX11_same 92 = .ok (.aload_n 0, 1) := by decide +kernel
theorem dX11_same_93 : decode cX11_same 93 = .ok (.invokevirtual 289, 3) := by decide +kernel
theorem dX11_same_96 : decode cX11_same 96 = .ok (.if_icmp .ge 23, 3) := by decide +kernel
theorem dX11_same_99 : decode cX11_same 99 = .ok (.aload_n 0, 1) := by decide +kernel
theorem dX11_same_100 : decode cX11_same 100 = .ok (.getfield 120, 3) := by decide +kernel
theorem dX11_same_103 : decode cX11_same 103 = .ok (.iload 5, 2) := by decide +kernel
theorem dX11_same_105 : decode cX11_same 105 = .ok (.aload_n 0, 1) := by decide +kernel
theorem dX11_same_106 : decode cX11_same 106 = .ok (.getfield 72, 3) := by decide +kernel
theorem dX11_same_109 : decode cX11_same 109 = .ok (.iload 5, 2) := by decide +kernel
theorem dX11_same_111 : decode cX11_same 111 = .ok (.iaload, 1) := by decide +kernel
theorem dX11_same_112 : decode cX11_same 112 = .ok (.iastore, 1) := by decide +kernel
theorem dX11_same_113 : decode cX11_same 113 = .ok (.iinc 5 1, 3) := by decide +kernel
theorem dX11_same_116 : decode cX11_same 116 = .ok (.goto (-26), 3) := by decide +kernel
theorem dX11_same_119 : decode cX11_same 119 = .ok (.aload_n 0, 1) := by decide +kernel
theorem dX11_same_120 : decode cX11_same 120 = .ok (.bipush 6, 2) := by decide +kernel
theorem dX11_same_122 : decode cX11_same 122 = .ok (.invokevirtual 361, 3) := by decide +kernel
theorem dX11_same_125 : decode cX11_same 125 = .ok (.aload_n 0, 1) := by decide +kernel
theorem dX11_same_126 : decode cX11_same 126 = .ok (.invokevirtual 349, 3) := by decide +kernel
theorem dX11_same_129 : decode cX11_same 129 = .ok (.istore 5, 2) := by decide +kernel
theorem dX11_same_131 : decode cX11_same 131 = .ok (.aload_n 0, 1) := by decide +kernel
theorem dX11_same_132 : decode cX11_same 132 = .ok (.bipush 6, 2) := by decide +kernel
theorem dX11_same_134 : decode cX11_same 134 = .ok (.invokevirtual 358, 3) := by decide +kernel
theorem dX11_same_137 : decode cX11_same 137 = .ok (.iconst 4, 1) := by decide +kernel
theorem dX11_same_138 : decode cX11_same 138 = .ok (.aload_n 0, 1) := by decide +kernel
theorem dX11_same_139 : decode cX11_same 139 = .ok (.getfield 295, 3) := by decide +kernel
theorem dX11_same_142 : decode cX11_same 142 = .ok (.imul, 1) := by decide +kernel
theorem dX11_same_143 : decode cX11_same 143 = .ok (.aload_n 0, 1) := by decide +kernel
theorem dX11_same_144 : decode cX11_same 144 = .ok (.getfield 298, 3) := by decide +kernel
theorem dX11_same_147 : decode cX11_same 147 = .ok (.iadd, 1) := by decide +kernel
theorem dX11_same_148 : decode cX11_same 148 = .ok (.iload 4, 2) := by decide +kernel
theorem dX11_same_150 : decode cX11_same 150 = .ok (.if_icmp .eq 7, 3) := by decide +kernel
theorem dX11_same_153 : decode cX11_same 153 = .ok (.iconst 1, 1) := by decide +kernel
theorem dX11_same_154 : decode cX11_same 154 = .ok (.goto 4, 3) := by decide +kernel
theorem dX11_same_157 : decode cX11_same 157 = .ok (.iconst 0, 1) := by decide +kernel
theorem dX11_same_158 : decode cX11_same 158 = .ok (.istore 6, 2) := by decide +kernel
theorem dX11_same_160 : decode cX11_same 160 = .ok (.iconst 0, 1) := by decide +kernel
theorem dX11_same_161 : decode cX11_same 161 = .ok (.istore 7, 2) := by decide +kernel
theorem dX11_same_163 : decode cX11_same 163 = .ok (.iload 7, 2) := by decide +kernel
theorem dX11_same_165 : decode cX11_same 165 = .ok (.aload_n 0, 1) := by decide +kernel
theorem dX11_same_166 : decode cX11_same 166 = .ok (.invokevirtual 289, 3) := by decide +kernel
theorem dX11_same_169 : decode cX11_same 169 = .ok (.if_icmp .ge 38, 3) := by decide +kernel
theorem dX11_same_172 : decode cX11_same 172 = .ok (.iload 6, 2) := by decide +kernel
theorem dX11_same_174 : decode cX11_same 174 = .ok (.ifCond .ne 20, 3) := by decide +kernel
theorem dX11_same_177 : decode cX11_same 177 = .ok (.aload_n 0, 1) := by decide +kernel
theorem dX11_same_178 : decode cX11_same 178 = .ok (.getfield 72, 3) := by decide +kernel
theorem dX11_same_181 : decode cX11_same 181 = .ok (.iload 7, 2) := by decide +kernel
theorem dX11_same_183 : decode cX11_same 183 = .ok (.iaload, 1) := by decide +kernel
theorem dX11_same_184 : decode cX11_same 184 = .ok (.aload_n 0, 1) := by decide +kernel
theorem dX11_same_185 : decode cX11_same 185 = .ok (.getfield 120, 3) := by decide +kernel
theorem dX11_same_188 : decode cX11_same 188 = .ok (.iload 7, 2) := by decide +kernel
theorem dX11_same_190 : decode cX11_same 190 = .ok (.iaload, 1) := by decide +kernel
theorem dX11_same_191 : decode cX11_same 191 = .ok (.if_icmp .eq 7, 3) := by decide +kernel
theorem dX11_same_194 : decode cX11_same 194 = .ok (.iconst 1, 1) := by decide +kernel
theorem dX11_same_195 : decode cX11_same 195 = .ok (.goto 4, 3) := by decide +kernel
theorem dX11_same_198 : decode cX11_same 198 = .ok (.iconst 0, 1) := by decide +kernel
theorem dX11_same_199 : decode cX11_same 199 = .ok (.istore 6, 2) := by decide +kernel
theorem dX11_same_201 : decode cX11_same 201 = .ok (.iinc 7 1, 3) := by decide +kernel
theorem dX11_same_204 : decode cX11_same 204 = .ok (.goto (-41), 3) := by decide +kernel
theorem dX11_same_207 : decode cX11_same 207 = .ok (.iload 6, 2) := by decide +kernel
theorem dX11_same_209 : decode cX11_same 209 = .ok (.ifCond .eq 7, 3) := by decide +kernel
theorem dX11_same_212 : decode cX11_same 212 = .ok (.iload_n 3, 1) := by decide +kernel
theorem dX11_same_213 : decode cX11_same 213 = .ok (.goto 4, 3) := by decide +kernel
theorem dX11_same_216 : decode cX11_same 216 = .ok (.iconst 0, 1) := by decide +kernel
theorem dX11_same_217 : decode cX11_same 217 = .ok (.istore_n 2, 1) := by decide +kernel
theorem dX11_same_218 : decode cX11_same 218 = .ok (.iinc 3 1, 3) := by decide +kernel
theorem dX11_same_221 : decode cX11_same 221 = .ok (.goto (-170), 3) := by decide +kernel
theorem dX11_same_224 : decode cX11_same 224 = .ok (.aload_n 0, 1) := by decide +kernel
theorem dX11_same_225 : decode cX11_same 225 = .ok (.iconst 4, 1) := by decide +kernel
theorem dX11_same_226 : decode cX11_same 226 = .ok (.invokevirtual 361, 3) := by decide +kernel
theorem dX11_same_229 : decode cX11_same 229 = .ok (.iload_n 2, 1) := by decide +kernel
theorem dX11_same_230 : decode cX11_same 230 = .ok (.ireturn, 1) := by decide +kernel
theorem dX11_layLike_0 : decode cX11_layLike 0 = .ok (.aload_n 0, 1) := by decide +kernel
theorem dX11_layLike_1 : decode cX11_layLike 1 = .ok (.iconst 4, 1) := by decide +kernel
theorem dX11_layLike_2 : decode cX11_layLike 2 = .ok (.invokevirtual 361, 3) := by decide +kernel
theorem dX11_layLike_5 : decode cX11_layLike 5 = .ok (.aload_n 0, 1) := by decide +kernel
theorem dX11_layLike_6 : decode cX11_layLike 6 = .ok (.aload_n 0, 1) := by decide +kernel
theorem dX11_layLike_7 : decode cX11_layLike 7 = .ok (.getfield 274, 3) := by decide +kernel
theorem dX11_layLike_10 : decode cX11_layLike 10 = .ok (.aload_n 0, 1) := by decide +kernel
theorem dX11_layLike_11 : decode cX11_layLike 11 = .ok (.getfield 277, 3) := by decide +kernel
theorem dX11_layLike_14 : decode cX11_layLike 14 = .ok (.iand, 1) := by decide +kernel
theorem dX11_layLike_15 : decode cX11_layLike 15 = .ok (.putfield 271, 3) := by decide +kernel
theorem dX11_layLike_18 : decode cX11_layLike 18 = .ok (.iconst 0, 1) := by decide +kernel
theorem dX11_layLike_19 : decode cX11_layLike 19 = .ok (.istore_n 2, 1) := by decide +kernel
theorem dX11_layLike_20 : decode cX11_layLike 20 = .ok (.iload_n 2, 1) := by decide +kernel
theorem dX11_layLike_21 : decode cX11_layLike 21 = .ok (.iload_n 1, 1) := by decide +kernel
theorem dX11_layLike_22 : decode cX11_layLike 22 = .ok (.if_icmp .ge 30, 3) := by decide +kernel
theorem dX11_layLike_25 : decode cX11_layLike 25 = .ok (.aload_n 0, 1) := by decide +kernel
theorem dX11_layLike_26 : decode cX11_layLike 26 = .ok (.invokevirtual 409, 3) := by decide +kernel
theorem dX11_layLike_29 : decode cX11_layLike 29 = .ok (.aload_n 0, 1) := by decide +kernel
theorem dX11_layLike_30 : decode cX11_layLike 30 = .ok (.getfield 123, 3) := by decide +kernel
theorem dX11_layLike_33 : decode cX11_layLike 33 = .ok (.iload_n 2, 1) := by decide +kernel
theorem dX11_layLike_34 : decode cX11_layLike 34 = .ok (.iconst 4, 1) := by decide +kernel
theorem dX11_layLike_35 : decode cX11_layLike 35 = .ok (.aload_n 0, 1) := by decide +kernel
theorem dX11_layLike_36 : decode cX11_layLike 36 = .ok (.getfield 295, 3) := by decide +kernel
theorem dX11_layLike_39 : decode cX11_layLike 39 = .ok (.imul, 1) := by decide +kernel
theorem dX11_layLike_40 : decode cX11_layLike 40 = .ok (.aload_n 0, 1) := by decide +kernel
theorem dX11_layLike_41 : decode cX11_layLike 41 = .ok (.getfield 298, 3) := by decide +kernel
theorem dX11_layLike_44 : decode cX11_layLike 44 = .ok (.iadd, 1) := by decide +kernel
theorem dX11_layLike_45 : decode cX11_layLike 45 = .ok (.iastore, 1) := by decide +kernel
theorem dX11_layLike_46 : decode cX11_layLike 46 = .ok (.iinc 2 1, 3) := by decide +kernel
theorem dX11_layLike_49 : decode cX11_layLike 49 = .ok (.goto (-29), 3) := by decide +kernel
theorem dX11_layLike_52 : decode cX11_layLike 52 = .ok (.return_, 1) := by decide +kernel
theorem dX11_isLike_0 : decode cX11_isLike 0 = .ok (.aload_n 0, 1) := by decide +kernel
theorem dX11_isLike_1 : decode cX11_isLike 1 = .ok (.iconst 4, 1) := by decide +kernel
theorem dX11_isLike_2 : decode cX11_isLike 2 = .ok (.invokevirtual 361, 3) := by decide +kernel
theorem dX11_isLike_5 : decode cX11_isLike 5 = .ok (.aload_n 0, 1) := by decide +kernel
theorem dX11_isLike_6 : decode cX11_isLike 6 = .ok (.aload_n 0, 1) := by decide +kernel
theorem dX11_isLike_7 : decode cX11_isLike 7 = .ok (.getfield 274, 3) := by decide +kernel
theorem dX11_isLike_10 : decode cX11_isLike 10 = .ok (.aload_n 0, 1) := by decide +kernel
theorem dX11_isLike_11 : decode cX11_isLike 11 = .ok (.getfield 277, 3) := by decide +kernel
theorem dX11_isLike_14 : decode cX11_isLike 14 = .ok (.iand, 1) := by decide +kernel
theorem dX11_isLike_15 : decode cX11_isLike 15 = .ok (.putfield 271, 3) := by decide +kernel
theorem dX11_isLike_18 : decode cX11_isLike 18 = .ok (.iconst 1, 1) := by decide +kernel
theorem dX11_isLike_19 : decode cX11_isLike 19 = .ok (.istore_n 2, 1) := by decide +kernel
theorem dX11_isLike_20 : decode cX11_isLike 20 = .ok (.iconst 0, 1) := by decide +kernel
theorem dX11_isLike_21 : decode cX11_isLike 21 = .ok (.istore_n 3, 1) := by decide +kernel
theorem dX11_isLike_22 : decode cX11_isLike 22 = .ok (.iload_n 3, 1) := by decide +kernel
theorem dX11_isLike_23 : decode cX11_isLike 23 = .ok (.iload_n 1, 1) := by decide +kernel
theorem dX11_isLike_24 : decode cX11_isLike 24 = .ok (.if_icmp .ge 43, 3) := by decide +kernel
theorem dX11_isLike_27 : decode cX11_isLike 27 = .ok (.iload_n 2, 1) := by decide +kernel
theorem dX11_isLike_28 : decode cX11_isLike 28 = .ok (.ifCond .eq 39, 3) := by decide +kernel
theorem dX11_isLike_31 : decode cX11_isLike 31 = .ok (.aload_n 0, 1) := by decide +kernel
theorem dX11_isLike_32 : decode cX11_isLike 32 = .ok (.invokevirtual 409, 3) := by decide +kernel
theorem dX11_isLike_35 : decode cX11_isLike 35 = .ok (.aload_n 0, 1) := by decide +kernel
theorem dX11_isLike_36 : decode cX11_isLike 36 = .ok (.getfield 123, 3) := by decide +kernel
theorem dX11_isLike_39 : decode cX11_isLike 39 = .ok (.iload_n 3, 1) := by decide +kernel
theorem dX11_isLike_40 : decode cX11_isLike 40 = .ok (.iaload, 1) := by decide +kernel
theorem dX11_isLike_41 : decode cX11_isLike 41 = .ok (.iconst 4, 1) := by decide +kernel
theorem dX11_isLike_42 : decode cX11_isLike 42 = .ok (.aload_n 0, 1) := by decide +kernel
theorem dX11_isLike_43 : decode cX11_isLike 43 = .ok (.getfield 295, 3) := by decide +kernel
theorem dX11_isLike_46 : decode cX11_isLike 46 = .ok (.imul, 1) := by decide +kernel
theorem dX11_isLike_47 : decode cX11_isLike 47 = .ok (.aload_n 0, 1) := by decide +kernel
theorem dX11_isLike_48 : decode cX11_isLike 48 = .ok (.getfield 298, 3) := by decide +kernel
theorem dX11_isLike_51 : decode cX11_isLike 51 = .ok (.iadd, 1) := by decide +kernel
theorem dX11_isLike_52 : decode cX11_isLike 52 = .ok (.if_icmp .ne 7, 3) := by decide +kernel
theorem dX11_isLike_55 : decode cX11_isLike 55 = .ok (.iconst 1, 1) := by decide +kernel
theorem dX11_isLike_56 : decode cX11_isLike 56 = .ok (.goto 4, 3) := by decide +kernel
theorem dX11_isLike_59 : decode cX11_isLike 59 = .ok (.iconst 0, 1) := by decide +kernel
theorem dX11_isLike_60 : decode cX11_isLike 60 = .ok (.istore_n 2, 1) := by decide +kernel
theorem dX11_isLike_61 : decode cX11_isLike 61 = .ok (.iinc 3 1, 3) := by decide +kernel
theorem dX11_isLike_64 : decode cX11_isLike 64 = .ok (.goto (-42), 3) := by decide +kernel
theorem dX11_isLike_67 : decode cX11_isLike 67 = .ok (.iload_n 2, 1) := by decide +kernel
theorem dX11_isLike_68 : decode cX11_isLike 68 = .ok (.ireturn, 1) := by decide +kernel
theorem dX11_laySuspects_0 : decode cX11_laySuspects 0 = .ok (.aload_n 0, 1) := by decide +kernel
theorem dX11_laySuspects_1 : decode cX11_laySuspects 1 = .ok (.getfield 274, 3) := by decide +kernel
theorem dX11_laySuspects_4 : decode cX11_laySuspects 4 = .ok (.istore 4, 2) := by decide +kernel
theorem dX11_laySuspects_6 : decode cX11_laySuspects 6 = .ok (.aload_n 0, 1) := by decide +kernel
theorem dX11_laySuspects_7 : decode cX11_laySuspects 7 = .ok (.getfield 277, 3) := by decide +kernel
theorem dX11_laySuspects_10 : decode cX11_laySuspects 10 = .ok (.istore 5, 2) := by decide +kernel
theorem dX11_laySuspects_12 : decode cX11_laySuspects 12 = .ok (.aload_n 0, 1) := by decide +kernel
theorem dX11_laySuspects_13 : decode cX11_laySuspects 13 = .ok (.iload_n 1, 1) := by decide +kernel
theorem dX11_laySuspects_14 : decode cX11_laySuspects 14 = .ok (.invokevirtual 424, 3) := by decide +kernel
theorem dX11_laySuspects_17 : decode cX11_laySuspects 17 = .ok (.aload_n 0, 1) := by decide +kernel
theorem dX11_laySuspects_18 : decode cX11_laySuspects 18 = .ok (.iconst 0, 1) := by decide +kernel
theorem dX11_laySuspects_19 : decode cX11_laySuspects 19 = .ok (.putfield 427, 3) := by decide +kernel
theorem dX11_laySuspects_22 : decode cX11_laySuspects 22 = .ok (.aload_n 0, 1) := by decide +kernel
theorem dX11_laySuspects_23 : decode cX11_laySuspects 23 = .ok (.iconst 0, 1) := by decide +kernel
theorem dX11_laySuspects_24 : decode cX11_laySuspects 24 = .ok (.putfield 430, 3) := by decide +kernel
theorem dX11_laySuspects_27 : decode cX11_laySuspects 27 = .ok (.iconst 0, 1) := by decide +kernel
theorem dX11_laySuspects_28 : decode cX11_laySuspects 28 = .ok (.istore 6, 2) := by decide +kernel
theorem dX11_laySuspects_30 : decode cX11_laySuspects 30 = .ok (.iload 6, 2) := by decide +kernel
theorem dX11_laySuspects_32 : decode cX11_laySuspects 32 = .ok (.aload_n 0, 1) := by decide +kernel
theorem dX11_laySuspects_33 : decode cX11_laySuspects 33 = .ok (.getfield 265, 3) := by decide +kernel
theorem dX11_laySuspects_36 : decode cX11_laySuspects 36 = .ok (.if_icmp .ge 107, 3) := by decide +kernel
theorem dX11_laySuspects_39 : decode cX11_laySuspects 39 = .ok (.iconst 0, 1) := by decide +kernel
theorem dX11_laySuspects_40 : decode cX11_laySuspects 40 = .ok (.istore 7, 2) := by decide +kernel
theorem dX11_laySuspects_42 : decode cX11_laySuspects 42 = .ok (.iload 7, 2) := by decide +kernel
theorem dX11_laySuspects_44 : decode cX11_laySuspects 44 = .ok (.iconst 2, 1) := by decide +kernel
theorem dX11_laySuspects_45 : decode cX11_laySuspects 45 = .ok (.if_icmp .ge 92, 3) := by decide +kernel
theorem dX11_laySuspects_48 : decode cX11_laySuspects 48 = .ok (.iload 7, 2) := by decide +kernel
theorem dX11_laySuspects_50 : decode cX11_laySuspects 50 = .ok (.ifCond .ne 7, 3) := by decide +kernel
theorem dX11_laySuspects_53 : decode cX11_laySuspects 53 = .ok (.iload_n 2, 1) := by decide +kernel
theorem dX11_laySuspects_54 : decode cX11_laySuspects 54 = .ok (.goto 4, 3) := by decide +kernel
theorem dX11_laySuspects_57 : decode cX11_laySuspects 57 = .ok (.iload_n 3, 1) := by decide +kernel
theorem dX11_laySuspects_58 : decode cX11_laySuspects 58 = .ok (.iload 6, 2) := by decide +kernel
theorem dX11_laySuspects_60 : decode cX11_laySuspects 60 = .ok (.invokestatic 310, 3) := by decide +kernel
theorem dX11_laySuspects_63 : decode cX11_laySuspects 63 = .ok (.ifCond .ne 6, 3) := by decide +kernel
theorem dX11_laySuspects_66 : decode cX11_laySuspects 66 = .ok (.goto 65, 3) := by decide +kernel
theorem dX11_laySuspects_69 : decode cX11_laySuspects 69 = .ok (.aload_n 0, 1) := by decide +kernel
theorem dX11_laySuspects_70 : decode cX11_laySuspects 70 = .ok (.iconst 1, 1) := by decide +kernel
theorem dX11_laySuspects_71 : decode cX11_laySuspects 71 = .ok (.iload 6, 2) := by decide +kernel
theorem dX11_laySuspects_73 : decode cX11_laySuspects 73 = .ok (.ishl, 1) := by decide +kernel
theorem dX11_laySuspects_74 : decode cX11_laySuspects 74 = .ok (.putfield 274, 3) := by decide +kernel
theorem dX11_laySuspects_77 : decode cX11_laySuspects 77 = .ok (.aload_n 0, 1) := by decide +kernel
theorem dX11_laySuspects_78 : decode cX11_laySuspects 78 = .ok (.iload 7, 2) := by decide +kernel
theorem dX11_laySuspects_80 : decode cX11_laySuspects 80 = .ok (.iload 6, 2) := by decide +kernel
theorem dX11_laySuspects_82 : decode cX11_laySuspects 82 = .ok (.ishl, 1) := by decide +kernel
theorem dX11_laySuspects_83 : decode cX11_laySuspects 83 = .ok (.putfield 277, 3) := by decide +kernel
theorem dX11_laySuspects_86 : decode cX11_laySuspects 86 = .ok (.aload_n 0, 1) := by decide +kernel
theorem dX11_laySuspects_87 : decode cX11_laySuspects 87 = .ok (.iload_n 1, 1) := by decide +kernel
theorem dX11_laySuspects_88 : decode cX11_laySuspects 88 = .ok (.invokevirtual 433, 3) := by decide +kernel
theorem dX11_laySuspects_91 : decode cX11_laySuspects 91 = .ok (.ifCond .ne 6, 3) := by decide +kernel
theorem dX11_laySuspects_94 : decode cX11_laySuspects 94 = .ok (.goto 37, 3) := by decide +kernel
theorem dX11_laySuspects_97 : decode cX11_laySuspects 97 = .ok (.iload 7, 2) := by decide +kernel
theorem dX11_laySuspects_99 : decode cX11_laySuspects 99 = .ok (.ifCond .ne 19, 3) := by decide +kernel
theorem dX11_laySuspects_102 : decode cX11_laySuspects 102 = .ok (.aload_n 0, 1) := by decide +kernel
theorem dX11_laySuspects_103 : decode cX11_laySuspects 103 = .ok (.dup, 1) := by decide +kernel
theorem dX11_laySuspects_104 : decode cX11_laySuspects 104 = .ok (.getfield 427, 3) := by decide +kernel
theorem dX11_laySuspects_107 : decode cX11_laySuspects 107 = .ok (.iconst 1, 1) := by decide +kernel
theorem dX11_laySuspects_108 : decode cX11_laySuspects 108 = .ok (.iload 6, 2) := by decide +kernel
theorem dX11_laySuspects_110 : decode cX11_laySuspects 110 = .ok (.ishl, 1) := by decide +kernel
theorem dX11_laySuspects_111 : decode cX11_laySuspects 111 = .ok (.ior, 1) := by decide +kernel
theorem dX11_laySuspects_112 : decode cX11_laySuspects 112 = .ok (.putfield 427, 3) := by decide +kernel
theorem dX11_laySuspects_115 : decode cX11_laySuspects 115 = .ok (.goto 16, 3) := by decide +kernel
theorem dX11_laySuspects_118 : decode cX11_laySuspects 118 = .ok (.aload_n 0, 1) := by decide +kernel
theorem dX11_laySuspects_119 : decode cX11_laySuspects 119 = .ok (.dup, 1) := by decide +kernel
theorem dX11_laySuspects_120 : decode cX11_laySuspects 120 = .ok (.getfield 430, 3) := by decide +kernel
theorem dX11_laySuspects_123 : decode cX11_laySuspects 123 = .ok (.iconst 1, 1) := by decide +kernel
theorem dX11_laySuspects_124 : decode cX11_laySuspects 124 = .ok (.iload 6, 2) := by decide +kernel
theorem dX11_laySuspects_126 : decode cX11_laySuspects 126 = .ok (.ishl, 1) := by decide +kernel
theorem dX11_laySuspects_127 : decode cX11_laySuspects 127 = .ok (.ior, 1) := by decide +kernel
theorem dX11_laySuspects_128 : decode cX11_laySuspects 128 = .ok (.putfield 430, 3) := by decide +kernel
theorem dX11_laySuspects_131 : decode cX11_laySuspects 131 = .ok (.iinc 7 1, 3) := by decide +kernel
theorem dX11_laySuspects_134 : decode cX11_laySuspects 134 = .ok (.goto (-92), 3) := by decide +kernel
theorem dX11_laySuspects_137 : decode cX11_laySuspects 137 = .ok (.iinc 6 1, 3) := by decide +kernel
theorem dX11_laySuspects_140 : decode cX11_laySuspects 140 = .ok (.goto (-110), 3) := by decide +kernel
theorem dX11_laySuspects_143 : decode cX11_laySuspects 143 = .ok (.aload_n 0, 1) := by decide +kernel
theorem dX11_laySuspects_144 : decode cX11_laySuspects 144 = .ok (.iload 4, 2) := by decide +kernel
theorem dX11_laySuspects_146 : decode cX11_laySuspects 146 = .ok (.putfield 274, 3) := by decide +kernel
theorem dX11_laySuspects_149 : decode cX11_laySuspects 149 = .ok (.aload_n 0, 1) := by decide +kernel
theorem dX11_laySuspects_150 : decode cX11_laySuspects 150 = .ok (.iload 5, 2) := by decide +kernel
theorem dX11_laySuspects_152 : decode cX11_laySuspects 152 = .ok (.putfield 277, 3) := by decide +kernel
theorem dX11_laySuspects_155 : decode cX11_laySuspects 155 = .ok (.aload_n 0, 1) := by decide +kernel
theorem dX11_laySuspects_156 : decode cX11_laySuspects 156 = .ok (.iconst 4, 1) := by decide +kernel
theorem dX11_laySuspects_157 : decode cX11_laySuspects 157 = .ok (.invokevirtual 361, 3) := by decide +kernel
theorem dX11_laySuspects_160 : decode cX11_laySuspects 160 = .ok (.return_, 1) := by decide +kernel
theorem dX11_isSound_0 : decode cX11_isSound 0 = .ok (.aload_n 0, 1) := by decide +kernel
theorem dX11_isSound_1 : decode cX11_isSound 1 = .ok (.getfield 274, 3) := by decide +kernel
theorem dX11_isSound_4 : decode cX11_isSound 4 = .ok (.istore_n 2, 1) := by decide +kernel
theorem dX11_isSound_5 : decode cX11_isSound 5 = .ok (.aload_n 0, 1) := by decide +kernel
theorem dX11_isSound_6 : decode cX11_isSound 6 = .ok (.getfield 277, 3) := by decide +kernel
theorem dX11_isSound_9 : decode cX11_isSound 9 = .ok (.istore_n 3, 1) := by decide +kernel
theorem dX11_isSound_10 : decode cX11_isSound 10 = .ok (.aload_n 0, 1) := by decide +kernel
theorem dX11_isSound_11 : decode cX11_isSound 11 = .ok (.iload_n 1, 1) := by decide +kernel
theorem dX11_isSound_12 : decode cX11_isSound 12 = .ok (.invokevirtual 424, 3) := by decide +kernel
theorem dX11_isSound_15 : decode cX11_isSound 15 = .ok (.aload_n 0, 1) := by decide +kernel
theorem dX11_isSound_16 : decode cX11_isSound 16 = .ok (.iconst 0, 1) := by decide +kernel
theorem dX11_isSound_17 : decode cX11_isSound 17 = .ok (.putfield 274, 3) := by decide +kernel
theorem dX11_isSound_20 : decode cX11_isSound 20 = .ok (.aload_n 0, 1) := by decide +kernel
theorem dX11_isSound_21 : decode cX11_isSound 21 = .ok (.iconst 0, 1) := by decide +kernel
theorem dX11_isSound_22 : decode cX11_isSound 22 = .ok (.putfield 277, 3) := by decide +kernel
theorem dX11_isSound_25 : decode cX11_isSound 25 = .ok (.aload_n 0, 1) := by decide +kernel
theorem dX11_isSound_26 : decode cX11_isSound 26 = .ok (.iload_n 1, 1) := by decide +kernel
theorem dX11_isSound_27 : decode cX11_isSound 27 = .ok (.invokevirtual 433, 3) := by decide +kernel
theorem dX11_isSound_30 : decode cX11_isSound 30 = .ok (.istore 4, 2) := by decide +kernel
theorem dX11_isSound_32 : decode cX11_isSound 32 = .ok (.aload_n 0, 1) := by decide +kernel
theorem dX11_isSound_33 : decode cX11_isSound 33 = .ok (.iload_n 2, 1) := by decide +kernel
theorem dX11_isSound_34 : decode cX11_isSound 34 = .ok (.putfield 274, 3) := by decide +kernel
theorem dX11_isSound_37 : decode cX11_isSound 37 = .ok (.aload_n 0, 1) := by decide +kernel
theorem dX11_isSound_38 : decode cX11_isSound 38 = .ok (.iload_n 3, 1) := by decide +kernel
theorem dX11_isSound_39 : decode cX11_isSound 39 = .ok (.putfield 277, 3) := by decide +kernel
theorem dX11_isSound_42 : decode cX11_isSound 42 = .ok (.aload_n 0, 1) := by decide +kernel
theorem dX11_isSound_43 : decode cX11_isSound 43 = .ok (.iconst 4, 1) := by decide +kernel
theorem dX11_isSound_44 : decode cX11_isSound 44 = .ok (.invokevirtual 361, 3) := by decide +kernel
theorem dX11_isSound_47 : decode cX11_isSound 47 = .ok (.iload 4, 2) := by decide +kernel
theorem dX11_isSound_49 : decode cX11_isSound 49 = .ok (.ireturn, 1) := by decide +kernel
theorem dX11_suspect_0 : decode cX11_suspect 0 = .ok (.aload_n 0, 1) := by decide +kernel
theorem dX11_suspect_1 : decode cX11_suspect 1 = .ok (.iconst 4, 1) := by decide +kernel
theorem dX11_suspect_2 : decode cX11_suspect 2 = .ok (.invokevirtual 358, 3) := by decide +kernel
theorem dX11_suspect_5 : decode cX11_suspect 5 = .ok (.aload_n 0, 1) := by decide +kernel
theorem dX11_suspect_6 : decode cX11_suspect 6 = .ok (.iload_n 1, 1) := by decide +kernel
theorem dX11_suspect_7 : decode cX11_suspect 7 = .ok (.invokevirtual 436, 3) := by decide +kernel
theorem dX11_suspect_10 : decode cX11_suspect 10 = .ok (.ifCond .eq 16, 3) := by decide +kernel
theorem dX11_suspect_13 : decode cX11_suspect 13 = .ok (.aload_n 0, 1) := by decide +kernel
theorem dX11_suspect_14 : decode cX11_suspect 14 = .ok (.iconst 0, 1) := by decide +kernel
theorem dX11_suspect_15 : decode cX11_suspect 15 = .ok (.putfield 427, 3) := by decide +kernel
theorem dX11_suspect_18 : decode cX11_suspect 18 = .ok (.aload_n 0, 1) := by decide +kernel
theorem dX11_suspect_19 : decode cX11_suspect 19 = .ok (.iconst 0, 1) := by decide +kernel
theorem dX11_suspect_20 : decode cX11_suspect 20 = .ok (.putfield 430, 3) := by decide +kernel
theorem dX11_suspect_23 : decode cX11_suspect 23 = .ok (.goto 24, 3) := by decide +kernel
theorem dX11_suspect_26 : decode cX11_suspect 26 = .ok (.aload_n 0, 1) := by decide +kernel
theorem dX11_suspect_27 : decode cX11_suspect 27 = .ok (.iload_n 1, 1) := by decide +kernel
theorem dX11_suspect_28 : decode cX11_suspect 28 = .ok (.iconst 1, 1) := by decide +kernel
theorem dX11_suspect_29 : decode cX11_suspect 29 = .ok (.aload_n 0, 1) := by decide +kernel
theorem dX11_suspect_30 : decode cX11_suspect 30 = .ok (.getfield 265, 3) := by decide +kernel
theorem dX11_suspect_33 : decode cX11_suspect 33 = .ok (.ishl, 1) := by decide +kernel
theorem dX11_suspect_34 : decode cX11_suspect 34 = .ok (.iconst 1, 1) := by decide +kernel
theorem dX11_suspect_35 : decode cX11_suspect 35 = .ok (.isub, 1) := by decide +kernel
theorem dX11_suspect_36 : decode cX11_suspect 36 = .ok (.iconst 1, 1) := by decide +kernel
theorem dX11_suspect_37 : decode cX11_suspect 37 = .ok (.aload_n 0, 1) := by decide +kernel
theorem dX11_suspect_38 : decode cX11_suspect 38 = .ok (.getfield 265, 3) := by decide +kernel
theorem dX11_suspect_41 : decode cX11_suspect 41 = .ok (.ishl, 1) := by decide +kernel
theorem dX11_suspect_42 : decode cX11_suspect 42 = .ok (.iconst 1, 1) := by decide +kernel
theorem dX11_suspect_43 : decode cX11_suspect 43 = .ok (.isub, 1) := by decide +kernel
theorem dX11_suspect_44 : decode cX11_suspect 44 = .ok (.invokevirtual 439, 3) := by decide +kernel
theorem dX11_suspect_47 : decode cX11_suspect 47 = .ok (.return_, 1) := by decide +kernel
theorem dX11_suspects_0 : decode cX11_suspects 0 = .ok (.aload_n 0, 1) := by decide +kernel
theorem dX11_suspects_1 : decode cX11_suspects 1 = .ok (.iconst 0, 1) := by decide +kernel
theorem dX11_suspects_2 : decode cX11_suspects 2 = .ok (.putfield 130, 3) := by decide +kernel
theorem dX11_suspects_5 : decode cX11_suspects 5 = .ok (.iload_n 1, 1) := by decide +kernel
theorem dX11_suspects_6 : decode cX11_suspects 6 = .ok (.iconst 1, 1) := by decide +kernel
theorem dX11_suspects_7 : decode cX11_suspects 7 = .ok (.sipush 500, 3) := by decide +kernel
theorem dX11_suspects_10 : decode cX11_suspects 10 = .ok (.invokestatic 317, 3) := by decide +kernel
theorem dX11_suspects_13 : decode cX11_suspects 13 = .ok (.ifCond .eq 12, 3) := by decide +kernel
theorem dX11_suspects_16 : decode cX11_suspects 16 = .ok (.iload_n 2, 1) := by decide +kernel
theorem dX11_suspects_17 : decode cX11_suspects 17 = .ok (.iconst 0, 1) := by decide +kernel
theorem dX11_suspects_18 : decode cX11_suspects 18 = .ok (.iconst 1, 1) := by decide +kernel
theorem dX11_suspects_19 : decode cX11_suspects 19 = .ok (.invokestatic 317, 3) := by decide +kernel
theorem dX11_suspects_22 : decode cX11_suspects 22 = .ok (.ifCond .ne 5, 3) := by decide +kernel
theorem dX11_suspects_25 : decode cX11_suspects 25 = .ok (.iconst (-1), 1) := by decide +kernel
theorem dX11_suspects_26 : decode cX11_suspects 26 = .ok (.ireturn, 1) := by decide +kernel
theorem dX11_suspects_27 : decode cX11_suspects 27 = .ok (.aload_n 0, 1) := by decide +kernel
theorem dX11_suspects_28 : decode cX11_suspects 28 = .ok (.iload_n 1, 1) := by decide +kernel
theorem dX11_suspects_29 : decode cX11_suspects 29 = .ok (.invokevirtual 442, 3) := by decide +kernel
theorem dX11_suspects_32 : decode cX11_suspects 32 = .ok (.iload_n 2, 1) := by decide +kernel
theorem dX11_suspects_33 : decode cX11_suspects 33 = .ok (.ifCond .ne 10, 3) := by decide +kernel
theorem dX11_suspects_36 : decode cX11_suspects 36 = .ok (.aload_n 0, 1) := by decide +kernel
theorem dX11_suspects_37 : decode cX11_suspects 37 = .ok (.getfield 427, 3) := by decide +kernel
theorem dX11_suspects_40 : decode cX11_suspects 40 = .ok (.goto 7, 3) := by decide +kernel
theorem dX11_suspects_43 : decode cX11_suspects 43 = .ok (.aload_n 0, 1) := by decide +kernel
theorem dX11_suspects_44 : decode cX11_suspects 44 = .ok (.getfield 430, 3) := by decide +kernel
theorem dX11_suspects_47 : decode cX11_suspects 47 = .ok (.ireturn, 1) := by decide +kernel
theorem dX11_manyOf_0 : decode cX11_manyOf 0 = .ok (.iconst 0, 1) := by decide +kernel
theorem dX11_manyOf_1 : decode cX11_manyOf 1 = .ok (.istore_n 1, 1) := by decide +kernel
theorem dX11_manyOf_2 : decode cX11_manyOf 2 = .ok (.iconst 0, 1) := by decide +kernel
theorem dX11_manyOf_3 : decode cX11_manyOf 3 = .ok (.istore_n 2, 1) := by decide +kernel
theorem dX11_manyOf_4 : decode cX11_manyOf 4 = .ok (.iload_n 2, 1) := by decide +kernel
theorem dX11_manyOf_5 : decode cX11_manyOf 5 = .ok (.bipush 20, 2) := by decide +kernel
theorem dX11_manyOf_7 : decode cX11_manyOf 7 = .ok (.if_icmp .ge 17, 3) := by decide +kernel
theorem dX11_manyOf_10 : decode cX11_manyOf 10 = .ok (.iload_n 1, 1) := by decide +kernel
theorem dX11_manyOf_11 : decode cX11_manyOf 11 = .ok (.iload_n 0, 1) := by decide +kernel
theorem dX11_manyOf_12 : decode cX11_manyOf 12 = .ok (.iload_n 2, 1) := by decide +kernel
theorem dX11_manyOf_13 : decode cX11_manyOf 13 = .ok (.ishr, 1) := by decide +kernel
theorem dX11_manyOf_14 : decode cX11_manyOf 14 = .ok (.iconst 1, 1) := by decide +kernel
theorem dX11_manyOf_15 : decode cX11_manyOf 15 = .ok (.iand, 1) := by decide +kernel
theorem dX11_manyOf_16 : decode cX11_manyOf 16 = .ok (.iadd, 1) := by decide +kernel
theorem dX11_manyOf_17 : decode cX11_manyOf 17 = .ok (.istore_n 1, 1) := by decide +kernel
theorem dX11_manyOf_18 : decode cX11_manyOf 18 = .ok (.iinc 2 1, 3) := by decide +kernel
theorem dX11_manyOf_21 : decode cX11_manyOf 21 = .ok (.goto (-17), 3) := by decide +kernel
theorem dX11_manyOf_24 : decode cX11_manyOf 24 = .ok (.iload_n 1, 1) := by decide +kernel
theorem dX11_manyOf_25 : decode cX11_manyOf 25 = .ok (.ireturn, 1) := by decide +kernel
theorem dX11_trial_0 : decode cX11_trial 0 = .ok (.aload_n 0, 1) := by decide +kernel
theorem dX11_trial_1 : decode cX11_trial 1 = .ok (.iconst 0, 1) := by decide +kernel
theorem dX11_trial_2 : decode cX11_trial 2 = .ok (.putfield 130, 3) := by decide +kernel
theorem dX11_trial_5 : decode cX11_trial 5 = .ok (.iload_n 1, 1) := by decide +kernel
theorem dX11_trial_6 : decode cX11_trial 6 = .ok (.iconst 1, 1) := by decide +kernel
theorem dX11_trial_7 : decode cX11_trial 7 = .ok (.sipush 500, 3) := by decide +kernel
theorem dX11_trial_10 : decode cX11_trial 10 = .ok (.invokestatic 317, 3) := by decide +kernel
theorem dX11_trial_13 : decode cX11_trial 13 = .ok (.ifCond .eq 12, 3) := by decide +kernel
theorem dX11_trial_16 : decode cX11_trial 16 = .ok (.iload_n 2, 1) := by decide +kernel
theorem dX11_trial_17 : decode cX11_trial 17 = .ok (.iconst 0, 1) := by decide +kernel
theorem dX11_trial_18 : decode cX11_trial 18 = .ok (.iconst 1, 1) := by decide +kernel
theorem dX11_trial_19 : decode cX11_trial 19 = .ok (.invokestatic 317, 3) := by decide +kernel
theorem dX11_trial_22 : decode cX11_trial 22 = .ok (.ifCond .ne 5, 3) := by decide +kernel
theorem dX11_trial_25 : decode cX11_trial 25 = .ok (.iconst (-1), 1) := by decide +kernel
theorem dX11_trial_26 : decode cX11_trial 26 = .ok (.ireturn, 1) := by decide +kernel
theorem dX11_trial_27 : decode cX11_trial 27 = .ok (.aload_n 0, 1) := by decide +kernel
theorem dX11_trial_28 : decode cX11_trial 28 = .ok (.iload_n 1, 1) := by decide +kernel
theorem dX11_trial_29 : decode cX11_trial 29 = .ok (.invokevirtual 442, 3) := by decide +kernel
theorem dX11_trial_32 : decode cX11_trial 32 = .ok (.aload_n 0, 1) := by decide +kernel
theorem dX11_trial_33 : decode cX11_trial 33 = .ok (.getfield 427, 3) := by decide +kernel
theorem dX11_trial_36 : decode cX11_trial 36 = .ok (.istore_n 3, 1) := by decide +kernel
theorem dX11_trial_37 : decode cX11_trial 37 = .ok (.aload_n 0, 1) := by decide +kernel
theorem dX11_trial_38 : decode cX11_trial 38 = .ok (.getfield 430, 3) := by decide +kernel
theorem dX11_trial_41 : decode cX11_trial 41 = .ok (.istore 4, 2) := by decide +kernel
theorem dX11_trial_43 : decode cX11_trial 43 = .ok (.iload_n 3, 1) := by decide +kernel
theorem dX11_trial_44 : decode cX11_trial 44 = .ok (.invokestatic 445, 3) := by decide +kernel
theorem dX11_trial_47 : decode cX11_trial 47 = .ok (.iload 4, 2) := by decide +kernel
theorem dX11_trial_49 : decode cX11_trial 49 = .ok (.invokestatic 445, 3) := by decide +kernel
theorem dX11_trial_52 : decode cX11_trial 52 = .ok (.iadd, 1) := by decide +kernel
theorem dX11_trial_53 : decode cX11_trial 53 = .ok (.iconst 2, 1) := by decide +kernel
theorem dX11_trial_54 : decode cX11_trial 54 = .ok (.if_icmp .ge 5, 3) := by decide +kernel
theorem dX11_trial_57 : decode cX11_trial 57 = .ok (.iconst (-1), 1) := by decide +kernel
theorem dX11_trial_58 : decode cX11_trial 58 = .ok (.ireturn, 1) := by decide +kernel
theorem dX11_trial_59 : decode cX11_trial 59 = .ok (.iconst (-1), 1) := by decide +kernel
theorem dX11_trial_60 : decode cX11_trial 60 = .ok (.istore 5, 2) := by decide +kernel
theorem dX11_trial_62 : decode cX11_trial 62 = .ok (.iconst 0, 1) := by decide +kernel
theorem dX11_trial_63 : decode cX11_trial 63 = .ok (.istore 6, 2) := by decide +kernel
theorem dX11_trial_65 : decode cX11_trial 65 = .ok (.iconst 0, 1) := by decide +kernel
theorem dX11_trial_66 : decode cX11_trial 66 = .ok (.istore 7, 2) := by decide +kernel
theorem dX11_trial_68 : decode cX11_trial 68 = .ok (.iload 7, 2) := by decide +kernel
theorem dX11_trial_70 : decode cX11_trial 70 = .ok (.aload_n 0, 1) := by decide +kernel
theorem dX11_trial_71 : decode cX11_trial 71 = .ok (.invokevirtual 370, 3) := by decide +kernel
theorem dX11_trial_74 : decode cX11_trial 74 = .ok (.if_icmp .ge 136, 3) := by decide +kernel
theorem dX11_trial_77 : decode cX11_trial 77 = .ok (.aload_n 0, 1) := by decide +kernel
theorem dX11_trial_78 : decode cX11_trial 78 = .ok (.iload 7, 2) := by decide +kernel
theorem dX11_trial_80 : decode cX11_trial 80 = .ok (.invokevirtual 373, 3) := by decide +kernel
theorem dX11_trial_83 : decode cX11_trial 83 = .ok (.iconst 4, 1) := by decide +kernel
theorem dX11_trial_84 : decode cX11_trial 84 = .ok (.idiv, 1) := by decide +kernel
theorem dX11_trial_85 : decode cX11_trial 85 = .ok (.istore 8, 2) := by decide +kernel
theorem dX11_trial_87 : decode cX11_trial 87 = .ok (.aload_n 0, 1) := by decide +kernel
theorem dX11_trial_88 : decode cX11_trial 88 = .ok (.iload 7, 2) := by decide +kernel
theorem dX11_trial_90 : decode cX11_trial 90 = .ok (.invokevirtual 373, 3) := by decide +kernel
theorem dX11_trial_93 : decode cX11_trial 93 = .ok (.iconst 4, 1) := by decide +kernel
theorem dX11_trial_94 : decode cX11_trial 94 = .ok (.irem, 1) := by decide +kernel
theorem dX11_trial_95 : decode cX11_trial 95 = .ok (.istore 9, 2) := by decide +kernel
theorem dX11_trial_97 : decode cX11_trial 97 = .ok (.aload_n 0, 1) := by decide +kernel
theorem dX11_trial_98 : decode cX11_trial 98 = .ok (.iload 8, 2) := by decide +kernel
theorem dX11_trial_100 : decode cX11_trial 100 = .ok (.iload 9, 2) := by decide +kernel
theorem dX11_trial_102 : decode cX11_trial 102 = .ok (.aload_n 0, 1) := by decide +kernel
theorem dX11_trial_103 : decode cX11_trial 103 = .ok (.iload 8, 2) := by decide +kernel
theorem dX11_trial_105 : decode cX11_trial 105 = .ok (.iload 9, 2) := by decide +kernel
theorem dX11_trial_107 : decode cX11_trial 107 = .ok (.invokevirtual 327, 3) := by decide +kernel
theorem dX11_trial_110 : decode cX11_trial 110 = .ok (.ifCond .ne 7, 3) := by decide +kernel
theorem dX11_trial_113 : decode cX11_trial 113 = .ok (.iconst 1, 1) := by decide +kernel
theorem dX11_trial_114 : decode cX11_trial 114 = .ok (.goto 4, 3) := by decide +kernel
theorem dX11_trial_117 : decode cX11_trial 117 = .ok (.iconst 0, 1) := by decide +kernel
theorem dX11_trial_118 : decode cX11_trial 118 = .ok (.invokevirtual 330, 3) := by decide +kernel
theorem dX11_trial_121 : decode cX11_trial 121 = .ok (.aload_n 0, 1) := by decide +kernel
theorem dX11_trial_122 : decode cX11_trial 122 = .ok (.iconst 4, 1) := by decide +kernel
theorem dX11_trial_123 : decode cX11_trial 123 = .ok (.invokevirtual 358, 3) := by decide +kernel
theorem dX11_trial_126 : decode cX11_trial 126 = .ok (.aload_n 0, 1) := by decide +kernel
theorem dX11_trial_127 : decode cX11_trial 127 = .ok (.iload_n 1, 1) := by decide +kernel
theorem dX11_trial_128 : decode cX11_trial 128 = .ok (.iload_n 3, 1) := by decide +kernel
theorem dX11_trial_129 : decode cX11_trial 129 = .ok (.iload 4, 2) := by decide +kernel
theorem dX11_trial_131 : decode cX11_trial 131 = .ok (.invokevirtual 439, 3) := by decide +kernel
theorem dX11_trial_134 : decode cX11_trial 134 = .ok (.aload_n 0, 1) := by decide +kernel
theorem dX11_trial_135 : decode cX11_trial 135 = .ok (.getfield 427, 3) := by decide +kernel
theorem dX11_trial_138 : decode cX11_trial 138 = .ok (.invokestatic 445, 3) := by decide +kernel
theorem dX11_trial_141 : decode cX11_trial 141 = .ok (.aload_n 0, 1) := by decide +kernel
theorem dX11_trial_142 : decode cX11_trial 142 = .ok (.getfield 430, 3) := by decide +kernel
theorem dX11_trial_145 : decode cX11_trial 145 = .ok (.invokestatic 445, 3) := by decide +kernel
theorem dX11_trial_148 : decode cX11_trial 148 = .ok (.iadd, 1) := by decide +kernel
theorem dX11_trial_149 : decode cX11_trial 149 = .ok (.istore 10, 2) := by decide +kernel
theorem dX11_trial_151 : decode cX11_trial 151 = .ok (.aload_n 0, 1) := by decide +kernel
theorem dX11_trial_152 : decode cX11_trial 152 = .ok (.iload 8, 2) := by decide +kernel
theorem dX11_trial_154 : decode cX11_trial 154 = .ok (.iload 9, 2) := by decide +kernel
theorem dX11_trial_156 : decode cX11_trial 156 = .ok (.aload_n 0, 1) := by decide +kernel
theorem dX11_trial_157 : decode cX11_trial 157 = .ok (.iload 8, 2) := by decide +kernel
theorem dX11_trial_159 : decode cX11_trial 159 = .ok (.iload 9, 2) := by decide +kernel
theorem dX11_trial_161 : decode cX11_trial 161 = .ok (.invokevirtual 327, 3) := by decide +kernel
theorem dX11_trial_164 : decode cX11_trial 164 = .ok (.ifCond .ne 7, 3) := by decide +kernel
theorem dX11_trial_167 : decode cX11_trial 167 = .ok (.iconst 1, 1) := by decide +kernel
theorem dX11_trial_168 : decode cX11_trial 168 = .ok (.goto 4, 3) := by decide +kernel
theorem dX11_trial_171 : decode cX11_trial 171 = .ok (.iconst 0, 1) := by decide +kernel
theorem dX11_trial_172 : decode cX11_trial 172 = .ok (.invokevirtual 330, 3) := by decide +kernel
theorem dX11_trial_175 : decode cX11_trial 175 = .ok (.aload_n 0, 1) := by decide +kernel
theorem dX11_trial_176 : decode cX11_trial 176 = .ok (.iconst 4, 1) := by decide +kernel
theorem dX11_trial_177 : decode cX11_trial 177 = .ok (.invokevirtual 358, 3) := by decide +kernel
theorem dX11_trial_180 : decode cX11_trial 180 = .ok (.iload 5, 2) := by decide +kernel
theorem dX11_trial_182 : decode cX11_trial 182 = .ok (.iconst (-1), 1) := by decide +kernel
theorem dX11_trial_183 : decode cX11_trial 183 = .ok (.if_icmp .eq 13, 3) := by decide +kernel
theorem dX11_trial_186 : decode cX11_trial 186 = .ok (.iload 10, 2) := by decide +kernel
theorem dX11_trial_188 : decode cX11_trial 188 = .ok (.iload 6, 2) := by decide +kernel
theorem dX11_trial_190 : decode cX11_trial 190 = .ok (.if_icmp .lt 6, 3) := by decide +kernel
theorem dX11_trial_193 : decode cX11_trial 193 = .ok (.goto 11, 3) := by decide +kernel
theorem dX11_trial_196 : decode cX11_trial 196 = .ok (.iload 7, 2) := by decide +kernel
theorem dX11_trial_198 : decode cX11_trial 198 = .ok (.istore 5, 2) := by decide +kernel
theorem dX11_trial_200 : decode cX11_trial 200 = .ok (.iload 10, 2) := by decide +kernel
theorem dX11_trial_202 : decode cX11_trial 202 = .ok (.istore 6, 2) := by decide +kernel
theorem dX11_trial_204 : decode cX11_trial 204 = .ok (.iinc 7 1, 3) := by decide +kernel
theorem dX11_trial_207 : decode cX11_trial 207 = .ok (.goto (-139), 3) := by decide +kernel
theorem dX11_trial_210 : decode cX11_trial 210 = .ok (.iload_n 2, 1) := by decide +kernel
theorem dX11_trial_211 : decode cX11_trial 211 = .ok (.ifCond .ne 8, 3) := by decide +kernel
theorem dX11_trial_214 : decode cX11_trial 214 = .ok (.iload 5, 2) := by decide +kernel
theorem dX11_trial_216 : decode cX11_trial 216 = .ok (.goto 5, 3) := by decide +kernel
theorem dX11_trial_219 : decode cX11_trial 219 = .ok (.iload 6, 2) := by decide +kernel
theorem dX11_trial_221 : decode cX11_trial 221 = .ok (.ireturn, 1) := by decide +kernel
theorem dX11_count_0 : decode cX11_count 0 = .ok (.aload_n 0, 1) := by decide +kernel
theorem dX11_count_1 : decode cX11_count 1 = .ok (.iconst 0, 1) := by decide +kernel
theorem dX11_count_2 : decode cX11_count 2 = .ok (.putfield 130, 3) := by decide +kernel
theorem dX11_count_5 : decode cX11_count 5 = .ok (.iconst 0, 1) := by decide +kernel
theorem dX11_count_6 : decode cX11_count 6 = .ok (.istore_n 2, 1) := by decide +kernel
theorem dX11_count_7 : decode cX11_count 7 = .ok (.iload_n 1, 1) := by decide +kernel
theorem dX11_count_8 : decode cX11_count 8 = .ok (.tableswitch 148 0 6 #[44, 49, 54, 59, 64, 111, 116], 44) := by decide +kernel
theorem dX11_count_52 : decode cX11_count 52 = .ok (.aload_n 0, 1) := by decide +kernel
theorem dX11_count_53 : decode cX11_count 53 = .ok (.invokevirtual 289, 3) := by decide +kernel
theorem dX11_count_56 : decode cX11_count 56 = .ok (.ireturn, 1) := by decide +kernel
theorem dX11_count_57 : decode cX11_count 57 = .ok (.aload_n 0, 1) := by decide +kernel
theorem dX11_count_58 : decode cX11_count 58 = .ok (.getfield 203, 3) := by decide +kernel
theorem dX11_count_61 : decode cX11_count 61 = .ok (.ireturn, 1) := by decide +kernel
theorem dX11_count_62 : decode cX11_count 62 = .ok (.aload_n 0, 1) := by decide +kernel
theorem dX11_count_63 : decode cX11_count 63 = .ok (.getfield 265, 3) := by decide +kernel
theorem dX11_count_66 : decode cX11_count 66 = .ok (.ireturn, 1) := by decide +kernel
theorem dX11_count_67 : decode cX11_count 67 = .ok (.aload_n 0, 1) := by decide +kernel
theorem dX11_count_68 : decode cX11_count 68 = .ok (.getfield 268, 3) := by decide +kernel
theorem dX11_count_71 : decode cX11_count 71 = .ok (.ireturn, 1) := by decide +kernel
theorem dX11_count_72 : decode cX11_count 72 = .ok (.iconst 0, 1) := by decide +kernel
theorem dX11_count_73 : decode cX11_count 73 = .ok (.istore_n 3, 1) := by decide +kernel
theorem dX11_count_74 : decode cX11_count 74 = .ok (.iload_n 3, 1) := by decide +kernel
theorem dX11_count_75 : decode cX11_count 75 = .ok (.aload_n 0, 1) := by decide +kernel
theorem dX11_count_76 : decode cX11_count 76 = .ok (.invokevirtual 370, 3) := by decide +kernel
theorem dX11_count_79 : decode cX11_count 79 = .ok (.if_icmp .ge 38, 3) := by decide +kernel
theorem dX11_count_82 : decode cX11_count 82 = .ok (.iload_n 2, 1) := by decide +kernel
theorem dX11_count_83 : decode cX11_count 83 = .ok (.aload_n 0, 1) := by decide +kernel
theorem dX11_count_84 : decode cX11_count 84 = .ok (.aload_n 0, 1) := by decide +kernel
theorem dX11_count_85 : decode cX11_count 85 = .ok (.iload_n 3, 1) := by decide +kernel
theorem dX11_count_86 : decode cX11_count 86 = .ok (.invokevirtual 373, 3) := by decide +kernel
theorem dX11_count_89 : decode cX11_count 89 = .ok (.iconst 4, 1) := by decide +kernel
theorem dX11_count_90 : decode cX11_count 90 = .ok (.idiv, 1) := by decide +kernel
theorem dX11_count_91 : decode cX11_count 91 = .ok (.aload_n 0, 1) := by decide +kernel
theorem dX11_count_92 : decode cX11_count 92 = .ok (.iload_n 3, 1) := by decide +kernel
theorem dX11_count_93 : decode cX11_count 93 = .ok (.invokevirtual 373, 3) := by decide +kernel
theorem dX11_count_96 : decode cX11_count 96 = .ok (.iconst 4, 1) := by decide +kernel
theorem dX11_count_97 : decode cX11_count 97 = .ok (.irem, 1) := by decide +kernel
theorem dX11_count_98 : decode cX11_count 98 = .ok (.invokevirtual 327, 3) := by decide +kernel
theorem dX11_count_101 : decode cX11_count 101 = .ok (.ifCond .eq 7, 3) := by decide +kernel
theorem dX11_count_104 : decode cX11_count 104 = .ok (.iconst 1, 1) := by decide +kernel
theorem dX11_count_105 : decode cX11_count 105 = .ok (.goto 4, 3) := by decide +kernel
theorem dX11_count_108 : decode cX11_count 108 = .ok (.iconst 0, 1) := by decide +kernel
theorem dX11_count_109 : decode cX11_count 109 = .ok (.iadd, 1) := by decide +kernel
theorem dX11_count_110 : decode cX11_count 110 = .ok (.istore_n 2, 1) := by decide +kernel
theorem dX11_count_111 : decode cX11_count 111 = .ok (.iinc 3 1, 3) := by decide +kernel
theorem dX11_count_114 : decode cX11_count 114 = .ok (.goto (-40), 3) := by decide +kernel
theorem dX11_count_117 : decode cX11_count 117 = .ok (.iload_n 2, 1) := by decide +kernel
theorem dX11_count_118 : decode cX11_count 118 = .ok (.ireturn, 1) := by decide +kernel
theorem dX11_count_119 : decode cX11_count 119 = .ok (.aload_n 0, 1) := by decide +kernel
theorem dX11_count_120 : decode cX11_count 120 = .ok (.getfield 292, 3) := by decide +kernel
theorem dX11_count_123 : decode cX11_count 123 = .ok (.ireturn, 1) := by decide +kernel
theorem dX11_count_124 : decode cX11_count 124 = .ok (.iconst 0, 1) := by decide +kernel
theorem dX11_count_125 : decode cX11_count 125 = .ok (.istore_n 3, 1) := by decide +kernel
theorem dX11_count_126 : decode cX11_count 126 = .ok (.iload_n 3, 1) := by decide +kernel
theorem dX11_count_127 : decode cX11_count 127 = .ok (.iconst 4, 1) := by decide +kernel
theorem dX11_count_128 : decode cX11_count 128 = .ok (.if_icmp .ge 26, 3) := by decide +kernel
theorem dX11_count_131 : decode cX11_count 131 = .ok (.iload_n 2, 1) := by decide +kernel
theorem dX11_count_132 : decode cX11_count 132 = .ok (.aload_n 0, 1) := by decide +kernel
theorem dX11_count_133 : decode cX11_count 133 = .ok (.getfield 90, 3) := by decide +kernel
theorem dX11_count_136 : decode cX11_count 136 = .ok (.iload_n 3, 1) := by decide +kernel
theorem dX11_count_137 : decode cX11_count 137 = .ok (.baload, 1) := by decide +kernel
theorem dX11_count_138 : decode cX11_count 138 = .ok (.ifCond .eq 7, 3) := by decide +kernel
theorem dX11_count_141 : decode cX11_count 141 = .ok (.iconst 1, 1) := by decide +kernel
theorem dX11_count_142 : decode cX11_count 142 = .ok (.goto 4, 3) := by decide +kernel
theorem dX11_count_145 : decode cX11_count 145 = .ok (.iconst 0, 1) := by decide +kernel
theorem dX11_count_146 : decode cX11_count 146 = .ok (.iadd, 1) := by decide +kernel
theorem dX11_count_147 : decode cX11_count 147 = .ok (.istore_n 2, 1) := by decide +kernel
theorem dX11_count_148 : decode cX11_count 148 = .ok (.iinc 3 1, 3) := by decide +kernel
theorem dX11_count_151 : decode cX11_count 151 = .ok (.goto (-25), 3) := by decide +kernel
theorem dX11_count_154 : decode cX11_count 154 = .ok (.iload_n 2, 1) := by decide +kernel
theorem dX11_count_155 : decode cX11_count 155 = .ok (.ireturn, 1) := by decide +kernel
theorem dX11_count_156 : decode cX11_count 156 = .ok (.iconst (-1), 1) := by decide +kernel
theorem dX11_count_157 : decode cX11_count 157 = .ok (.ireturn, 1) := by decide +kernel
theorem dJ6_bitCount_0f7a4_0 : decode cJ6_bitCount_0f7a4 0 = .ok (.iload_n 0, 1) := by decide +kernel
theorem dJ6_bitCount_0f7a4_1 : decode cJ6_bitCount_0f7a4 1 = .ok (.iload_n 0, 1) := by decide +kernel
theorem dJ6_bitCount_0f7a4_2 : decode cJ6_bitCount_0f7a4 2 = .ok (.iconst 1, 1) := by decide +kernel
theorem dJ6_bitCount_0f7a4_3 : decode cJ6_bitCount_0f7a4 3 = .ok (.iushr, 1) := by decide +kernel
theorem dJ6_bitCount_0f7a4_4 : decode cJ6_bitCount_0f7a4 4 = .ok (.ldc_w 265, 3) := by decide +kernel
theorem dJ6_bitCount_0f7a4_7 : decode cJ6_bitCount_0f7a4 7 = .ok (.iand, 1) := by decide +kernel
theorem dJ6_bitCount_0f7a4_8 : decode cJ6_bitCount_0f7a4 8 = .ok (.isub, 1) := by decide +kernel
theorem dJ6_bitCount_0f7a4_9 : decode cJ6_bitCount_0f7a4 9 = .ok (.istore_n 0, 1) := by decide +kernel
theorem dJ6_bitCount_0f7a4_10 : decode cJ6_bitCount_0f7a4 10 = .ok (.iload_n 0, 1) := by decide +kernel
theorem dJ6_bitCount_0f7a4_11 : decode cJ6_bitCount_0f7a4 11 = .ok (.ldc_w 266, 3) := by decide +kernel
theorem dJ6_bitCount_0f7a4_14 : decode cJ6_bitCount_0f7a4 14 = .ok (.iand, 1) := by decide +kernel
theorem dJ6_bitCount_0f7a4_15 : decode cJ6_bitCount_0f7a4 15 = .ok (.iload_n 0, 1) := by decide +kernel
theorem dJ6_bitCount_0f7a4_16 : decode cJ6_bitCount_0f7a4 16 = .ok (.iconst 2, 1) := by decide +kernel
theorem dJ6_bitCount_0f7a4_17 : decode cJ6_bitCount_0f7a4 17 = .ok (.iushr, 1) := by decide +kernel
theorem dJ6_bitCount_0f7a4_18 : decode cJ6_bitCount_0f7a4 18 = .ok (.ldc_w 266, 3) := by decide +kernel
theorem dJ6_bitCount_0f7a4_21 : decode cJ6_bitCount_0f7a4 21 = .ok (.iand, 1) := by decide +kernel
theorem dJ6_bitCount_0f7a4_22 : decode cJ6_bitCount_0f7a4 22 = .ok (.iadd, 1) := by decide +kernel
theorem dJ6_bitCount_0f7a4_23 : decode cJ6_bitCount_0f7a4 23 = .ok (.istore_n 0, 1) := by decide +kernel
theorem dJ6_bitCount_0f7a4_24 : decode cJ6_bitCount_0f7a4 24 = .ok (.iload_n 0, 1) := by decide +kernel
theorem dJ6_bitCount_0f7a4_25 : decode cJ6_bitCount_0f7a4 25 = .ok (.iload_n 0, 1) := by decide +kernel
theorem dJ6_bitCount_0f7a4_26 : decode cJ6_bitCount_0f7a4 26 = .ok (.iconst 4, 1) := by decide +kernel
theorem dJ6_bitCount_0f7a4_27 : decode cJ6_bitCount_0f7a4 27 = .ok (.iushr, 1) := by decide +kernel
theorem dJ6_bitCount_0f7a4_28 : decode cJ6_bitCount_0f7a4 28 = .ok (.iadd, 1) := by decide +kernel
theorem dJ6_bitCount_0f7a4_29 : decode cJ6_bitCount_0f7a4 29 = .ok (.ldc_w 267, 3) := by decide +kernel
theorem dJ6_bitCount_0f7a4_32 : decode cJ6_bitCount_0f7a4 32 = .ok (.iand, 1) := by decide +kernel
theorem dJ6_bitCount_0f7a4_33 : decode cJ6_bitCount_0f7a4 33 = .ok (.istore_n 0, 1) := by decide +kernel
theorem dJ6_bitCount_0f7a4_34 : decode cJ6_bitCount_0f7a4 34 = .ok (.iload_n 0, 1) := by decide +kernel
theorem dJ6_bitCount_0f7a4_35 : decode cJ6_bitCount_0f7a4 35 = .ok (.iload_n 0, 1) := by decide +kernel
theorem dJ6_bitCount_0f7a4_36 : decode cJ6_bitCount_0f7a4 36 = .ok (.bipush 8, 2) := by decide +kernel
theorem dJ6_bitCount_0f7a4_38 : decode cJ6_bitCount_0f7a4 38 = .ok (.iushr, 1) := by decide +kernel
theorem dJ6_bitCount_0f7a4_39 : decode cJ6_bitCount_0f7a4 39 = .ok (.iadd, 1) := by decide +kernel
theorem dJ6_bitCount_0f7a4_40 : decode cJ6_bitCount_0f7a4 40 = .ok (.istore_n 0, 1) := by decide +kernel
theorem dJ6_bitCount_0f7a4_41 : decode cJ6_bitCount_0f7a4 41 = .ok (.iload_n 0, 1) := by decide +kernel
theorem dJ6_bitCount_0f7a4_42 : decode cJ6_bitCount_0f7a4 42 = .ok (.iload_n 0, 1) := by decide +kernel
theorem dJ6_bitCount_0f7a4_43 : decode cJ6_bitCount_0f7a4 43 = .ok (.bipush 16, 2) := by decide +kernel
theorem dJ6_bitCount_0f7a4_45 : decode cJ6_bitCount_0f7a4 45 = .ok (.iushr, 1) := by decide +kernel
theorem dJ6_bitCount_0f7a4_46 : decode cJ6_bitCount_0f7a4 46 = .ok (.iadd, 1) := by decide +kernel
theorem dJ6_bitCount_0f7a4_47 : decode cJ6_bitCount_0f7a4 47 = .ok (.istore_n 0, 1) := by decide +kernel
theorem dJ6_bitCount_0f7a4_48 : decode cJ6_bitCount_0f7a4 48 = .ok (.iload_n 0, 1) := by decide +kernel
theorem dJ6_bitCount_0f7a4_49 : decode cJ6_bitCount_0f7a4 49 = .ok (.bipush 63, 2) := by decide +kernel
theorem dJ6_bitCount_0f7a4_51 : decode cJ6_bitCount_0f7a4 51 = .ok (.iand, 1) := by decide +kernel
theorem dJ6_bitCount_0f7a4_52 : decode cJ6_bitCount_0f7a4 52 = .ok (.ireturn, 1) := by decide +kernel
theorem dJ13_bitCount_95d88_0 : decode cJ13_bitCount_95d88 0 = .ok (.lload_n 0, 1) := by decide +kernel
theorem dJ13_bitCount_95d88_1 : decode cJ13_bitCount_95d88 1 = .ok (.lload_n 0, 1) := by decide +kernel
theorem dJ13_bitCount_95d88_2 : decode cJ13_bitCount_95d88 2 = .ok (.iconst 1, 1) := by decide +kernel
theorem dJ13_bitCount_95d88_3 : decode cJ13_bitCount_95d88 3 = .ok (.lushr, 1) := by decide +kernel
theorem dJ13_bitCount_95d88_4 : decode cJ13_bitCount_95d88 4 = .ok (.ldc2_w 314, 3) := by decide +kernel
theorem dJ13_bitCount_95d88_7 : decode cJ13_bitCount_95d88 7 = .ok (.land, 1) := by decide +kernel
theorem dJ13_bitCount_95d88_8 : decode cJ13_bitCount_95d88 8 = .ok (.lsub, 1) := by decide +kernel
theorem dJ13_bitCount_95d88_9 : decode cJ13_bitCount_95d88 9 = .ok (.lstore_n 0, 1) := by decide +kernel
theorem dJ13_bitCount_95d88_10 : decode cJ13_bitCount_95d88 10 = .ok (.lload_n 0, 1) := by decide +kernel
theorem dJ13_bitCount_95d88_11 : decode cJ13_bitCount_95d88 11 = .ok (.ldc2_w 316, 3) := by decide +kernel
theorem dJ13_bitCount_95d88_14 : decode cJ13_bitCount_95d88 14 = .ok (.land, 1) := by decide +kernel
theorem dJ13_bitCount_95d88_15 : decode cJ13_bitCount_95d88 15 = .ok (.lload_n 0, 1) := by decide +kernel
theorem dJ13_bitCount_95d88_16 : decode cJ13_bitCount_95d88 16 = .ok (.iconst 2, 1) := by decide +kernel
theorem dJ13_bitCount_95d88_17 : decode cJ13_bitCount_95d88 17 = .ok (.lushr, 1) := by decide +kernel
theorem dJ13_bitCount_95d88_18 : decode cJ13_bitCount_95d88 18 = .ok (.ldc2_w 316, 3) := by decide +kernel
theorem dJ13_bitCount_95d88_21 : decode cJ13_bitCount_95d88 21 = .ok (.land, 1) := by decide +kernel
theorem dJ13_bitCount_95d88_22 : decode cJ13_bitCount_95d88 22 = .ok (.ladd, 1) := by decide +kernel
theorem dJ13_bitCount_95d88_23 : decode cJ13_bitCount_95d88 23 = .ok (.lstore_n 0, 1) := by decide +kernel
theorem dJ13_bitCount_95d88_24 : decode cJ13_bitCount_95d88 24 = .ok (.lload_n 0, 1) := by decide +kernel
theorem dJ13_bitCount_95d88_25 : decode cJ13_bitCount_95d88 25 = .ok (.lload_n 0, 1) := by decide +kernel
theorem dJ13_bitCount_95d88_26 : decode cJ13_bitCount_95d88 26 = .ok (.iconst 4, 1) := by decide +kernel
theorem dJ13_bitCount_95d88_27 : decode cJ13_bitCount_95d88 27 = .ok (.lushr, 1) := by decide +kernel
theorem dJ13_bitCount_95d88_28 : decode cJ13_bitCount_95d88 28 = .ok (.ladd, 1) := by decide +kernel
theorem dJ13_bitCount_95d88_29 : decode cJ13_bitCount_95d88 29 = .ok (.ldc2_w 318, 3) := by decide +kernel
theorem dJ13_bitCount_95d88_32 : decode cJ13_bitCount_95d88 32 = .ok (.land, 1) := by decide +kernel
theorem dJ13_bitCount_95d88_33 : decode cJ13_bitCount_95d88 33 = .ok (.lstore_n 0, 1) := by decide +kernel
theorem dJ13_bitCount_95d88_34 : decode cJ13_bitCount_95d88 34 = .ok (.lload_n 0, 1) := by decide +kernel
theorem dJ13_bitCount_95d88_35 : decode cJ13_bitCount_95d88 35 = .ok (.lload_n 0, 1) := by decide +kernel
theorem dJ13_bitCount_95d88_36 : decode cJ13_bitCount_95d88 36 = .ok (.bipush 8, 2) := by decide +kernel
theorem dJ13_bitCount_95d88_38 : decode cJ13_bitCount_95d88 38 = .ok (.lushr, 1) := by decide +kernel
theorem dJ13_bitCount_95d88_39 : decode cJ13_bitCount_95d88 39 = .ok (.ladd, 1) := by decide +kernel
theorem dJ13_bitCount_95d88_40 : decode cJ13_bitCount_95d88 40 = .ok (.lstore_n 0, 1) := by decide +kernel
theorem dJ13_bitCount_95d88_41 : decode cJ13_bitCount_95d88 41 = .ok (.lload_n 0, 1) := by decide +kernel
theorem dJ13_bitCount_95d88_42 : decode cJ13_bitCount_95d88 42 = .ok (.lload_n 0, 1) := by decide +kernel
theorem dJ13_bitCount_95d88_43 : decode cJ13_bitCount_95d88 43 = .ok (.bipush 16, 2) := by decide +kernel
theorem dJ13_bitCount_95d88_45 : decode cJ13_bitCount_95d88 45 = .ok (.lushr, 1) := by decide +kernel
theorem dJ13_bitCount_95d88_46 : decode cJ13_bitCount_95d88 46 = .ok (.ladd, 1) := by decide +kernel
theorem dJ13_bitCount_95d88_47 : decode cJ13_bitCount_95d88 47 = .ok (.lstore_n 0, 1) := by decide +kernel
theorem dJ13_bitCount_95d88_48 : decode cJ13_bitCount_95d88 48 = .ok (.lload_n 0, 1) := by decide +kernel
theorem dJ13_bitCount_95d88_49 : decode cJ13_bitCount_95d88 49 = .ok (.lload_n 0, 1) := by decide +kernel
theorem dJ13_bitCount_95d88_50 : decode cJ13_bitCount_95d88 50 = .ok (.bipush 32, 2) := by decide +kernel
theorem dJ13_bitCount_95d88_52 : decode cJ13_bitCount_95d88 52 = .ok (.lushr, 1) := by decide +kernel
theorem dJ13_bitCount_95d88_53 : decode cJ13_bitCount_95d88 53 = .ok (.ladd, 1) := by decide +kernel
theorem dJ13_bitCount_95d88_54 : decode cJ13_bitCount_95d88 54 = .ok (.lstore_n 0, 1) := by decide +kernel
theorem dJ13_bitCount_95d88_55 : decode cJ13_bitCount_95d88 55 = .ok (.lload_n 0, 1) := by decide +kernel
theorem dJ13_bitCount_95d88_56 : decode cJ13_bitCount_95d88 56 = .ok (.l2i, 1) := by decide +kernel
theorem dJ13_bitCount_95d88_57 : decode cJ13_bitCount_95d88 57 = .ok (.bipush 127, 2) := by decide +kernel
theorem dJ13_bitCount_95d88_59 : decode cJ13_bitCount_95d88 59 = .ok (.iand, 1) := by decide +kernel
theorem dJ13_bitCount_95d88_60 : decode cJ13_bitCount_95d88 60 = .ok (.ireturn, 1) := by decide +kernel
theorem dJ9_min_7cf53_0 : decode cJ9_min_7cf53 0 = .ok (.iload_n 0, 1) := by decide +kernel
theorem dJ9_min_7cf53_1 : decode cJ9_min_7cf53 1 = .ok (.iload_n 1, 1) := by decide +kernel
theorem dJ9_min_7cf53_2 : decode cJ9_min_7cf53 2 = .ok (.if_icmp .gt 7, 3) := by decide +kernel
theorem dJ9_min_7cf53_5 : decode cJ9_min_7cf53 5 = .ok (.iload_n 0, 1) := by decide +kernel
theorem dJ9_min_7cf53_6 : decode cJ9_min_7cf53 6 = .ok (.goto 4, 3) := by decide +kernel
theorem dJ9_min_7cf53_9 : decode cJ9_min_7cf53 9 = .ok (.iload_n 1, 1) := by decide +kernel
theorem dJ9_min_7cf53_10 : decode cJ9_min_7cf53 10 = .ok (.ireturn, 1) := by decide +kernel
theorem dJ0_length_8abf5_0 : decode cJ0_length_8abf5 0 = .ok (.aload_n 0, 1) := by decide +kernel
theorem dJ0_length_8abf5_1 : decode cJ0_length_8abf5 1 = .ok (.getfield 9, 3) := by decide +kernel
theorem dJ0_length_8abf5_4 : decode cJ0_length_8abf5 4 = .ok (.arraylength, 1) := by decide +kernel
theorem dJ0_length_8abf5_5 : decode cJ0_length_8abf5 5 = .ok (.aload_n 0, 1) := by decide +kernel
theorem dJ0_length_8abf5_6 : decode cJ0_length_8abf5 6 = .ok (.invokevirtual 335, 3) := by decide +kernel
theorem dJ0_length_8abf5_9 : decode cJ0_length_8abf5 9 = .ok (.ishr, 1) := by decide +kernel
theorem dJ0_length_8abf5_10 : decode cJ0_length_8abf5 10 = .ok (.ireturn, 1) := by decide +kernel
theorem dJ0_charAt_5068e_0 : decode cJ0_charAt_5068e 0 = .ok (.aload_n 0, 1) := by decide +kernel
theorem dJ0_charAt_5068e_1 : decode cJ0_charAt_5068e 1 = .ok (.invokevirtual 492, 3) := by decide +kernel
theorem dJ0_charAt_5068e_4 : decode cJ0_charAt_5068e 4 = .ok (.ifCond .eq 12, 3) := by decide +kernel
theorem dJ0_charAt_5068e_7 : decode cJ0_charAt_5068e 7 = .ok (.aload_n 0, 1) := by decide +kernel
theorem dJ0_charAt_5068e_8 : decode cJ0_charAt_5068e 8 = .ok (.getfield 9, 3) := by decide +kernel
theorem dJ0_charAt_5068e_11 : decode cJ0_charAt_5068e 11 = .ok (.iload_n 1, 1) := by decide +kernel
theorem dJ0_charAt_5068e_12 : decode cJ0_charAt_5068e 12 = .ok (.invokestatic 495, 3) := by decide +kernel
theorem dJ0_charAt_5068e_15 : decode cJ0_charAt_5068e 15 = .ok (.ireturn, 1) := by decide +kernel
theorem dJ0_charAt_5068e_16 : decode cJ0_charAt_5068e 16 = .ok (.aload_n 0, 1) := by decide +kernel
theorem dJ0_charAt_5068e_17 : decode cJ0_charAt_5068e 17 = .ok (.getfield 9, 3) := by decide +kernel
theorem dJ0_charAt_5068e_20 : decode cJ0_charAt_5068e 20 = .ok (.iload_n 1, 1) := by decide +kernel
theorem dJ0_charAt_5068e_21 : decode cJ0_charAt_5068e 21 = .ok (.invokestatic 498, 3) := by decide +kernel
theorem dJ0_charAt_5068e_24 : decode cJ0_charAt_5068e 24 = .ok (.ireturn, 1) := by decide +kernel
theorem dJ0_coder_7d493_0 : decode cJ0_coder_7d493 0 = .ok (.getstatic 38, 3) := by decide +kernel
theorem dJ0_coder_7d493_3 : decode cJ0_coder_7d493 3 = .ok (.ifCond .eq 10, 3) := by decide +kernel
theorem dJ0_coder_7d493_6 : decode cJ0_coder_7d493 6 = .ok (.aload_n 0, 1) := by decide +kernel
theorem dJ0_coder_7d493_7 : decode cJ0_coder_7d493 7 = .ok (.getfield 15, 3) := by decide +kernel
theorem dJ0_coder_7d493_10 : decode cJ0_coder_7d493 10 = .ok (.goto 4, 3) := by decide +kernel
theorem dJ0_coder_7d493_13 : decode cJ0_coder_7d493 13 = .ok (.iconst 1, 1) := by decide +kernel
theorem dJ0_coder_7d493_14 : decode cJ0_coder_7d493 14 = .ok (.ireturn, 1) := by decide +kernel
theorem dJ0_isLatin1_aae02_0 : decode cJ0_isLatin1_aae02 0 = .ok (.getstatic 38, 3) := by decide +kernel
theorem dJ0_isLatin1_aae02_3 : decode cJ0_isLatin1_aae02 3 = .ok (.ifCond .eq 14, 3) := by decide +kernel
theorem dJ0_isLatin1_aae02_6 : decode cJ0_isLatin1_aae02 6 = .ok (.aload_n 0, 1) := by decide +kernel
theorem dJ0_isLatin1_aae02_7 : decode cJ0_isLatin1_aae02 7 = .ok (.getfield 15, 3) := by decide +kernel
theorem dJ0_isLatin1_aae02_10 : decode cJ0_isLatin1_aae02 10 = .ok (.ifCond .ne 7, 3) := by decide +kernel
theorem dJ0_isLatin1_aae02_13 : decode cJ0_isLatin1_aae02 13 = .ok (.iconst 1, 1) := by decide +kernel
theorem dJ0_isLatin1_aae02_14 : decode cJ0_isLatin1_aae02 14 = .ok (.goto 4, 3) := by decide +kernel
theorem dJ0_isLatin1_aae02_17 : decode cJ0_isLatin1_aae02 17 = .ok (.iconst 0, 1) := by decide +kernel
theorem dJ0_isLatin1_aae02_18 : decode cJ0_isLatin1_aae02 18 = .ok (.ireturn, 1) := by decide +kernel
theorem dJ0_checkIndex_df160_0 : decode cJ0_checkIndex_df160 0 = .ok (.iload_n 0, 1) := by decide +kernel
theorem dJ0_checkIndex_df160_1 : decode cJ0_checkIndex_df160 1 = .ok (.iload_n 1, 1) := by decide +kernel
theorem dJ0_checkIndex_df160_2 : decode cJ0_checkIndex_df160 2 = .ok (.getstatic 1053, 3) := by decide +kernel
theorem dJ0_checkIndex_df160_5 : decode cJ0_checkIndex_df160 5 = .ok (.invokestatic 1059, 3) := by decide +kernel
theorem dJ0_checkIndex_df160_8 : decode cJ0_checkIndex_df160 8 = .ok (.pop, 1) := by decide +kernel
theorem dJ0_checkIndex_df160_9 : decode cJ0_checkIndex_df160 9 = .ok (.return_, 1) := by decide +kernel
theorem dJ1_charAt_3b067_0 : decode cJ1_charAt_3b067 0 = .ok (.iload_n 1, 1) := by decide +kernel
theorem dJ1_charAt_3b067_1 : decode cJ1_charAt_3b067 1 = .ok (.aload_n 0, 1) := by decide +kernel
theorem dJ1_charAt_3b067_2 : decode cJ1_charAt_3b067 2 = .ok (.arraylength, 1) := by decide +kernel
theorem dJ1_charAt_3b067_3 : decode cJ1_charAt_3b067 3 = .ok (.invokestatic 9, 3) := by decide +kernel
theorem dJ1_charAt_3b067_6 : decode cJ1_charAt_3b067 6 = .ok (.aload_n 0, 1) := by decide +kernel
theorem dJ1_charAt_3b067_7 : decode cJ1_charAt_3b067 7 = .ok (.iload_n 1, 1) := by decide +kernel
theorem dJ1_charAt_3b067_8 : decode cJ1_charAt_3b067 8 = .ok (.baload, 1) := by decide +kernel
theorem dJ1_charAt_3b067_9 : decode cJ1_charAt_3b067 9 = .ok (.sipush 255, 3) := by decide +kernel
theorem dJ1_charAt_3b067_12 : decode cJ1_charAt_3b067 12 = .ok (.iand, 1) := by decide +kernel
theorem dJ1_charAt_3b067_13 : decode cJ1_charAt_3b067 13 = .ok (.i2c, 1) := by decide +kernel
theorem dJ1_charAt_3b067_14 : decode cJ1_charAt_3b067 14 = .ok (.ireturn, 1) := by decide +kernel
theorem dJ2_getChar_3b067_0 : decode cJ2_getChar_3b067 0 = .ok (.getstatic 44, 3) := by decide +kernel
theorem dJ2_getChar_3b067_3 : decode cJ2_getChar_3b067 3 = .ok (.ifCond .ne 25, 3) := by decide +kernel
theorem dJ2_getChar_3b067_6 : decode cJ2_getChar_3b067 6 = .ok (.iload_n 1, 1) := by decide +kernel
theorem dJ2_getChar_3b067_7 : decode cJ2_getChar_3b067 7 = .ok (.ifCond .lt 11, 3) := by decide +kernel
theorem dJ2_getChar_3b067_10 : decode cJ2_getChar_3b067 10 = .ok (.iload_n 1, 1) := by decide +kernel
theorem dJ2_getChar_3b067_11 : decode cJ2_getChar_3b067 11 = .ok (.aload_n 0, 1) := by decide +kernel
theorem dJ2_getChar_3b067_12 : decode cJ2_getChar_3b067 12 = .ok (.invokestatic 48, 3) := by decide +kernel
theorem dJ2_getChar_3b067_15 : decode cJ2_getChar_3b067 15 = .ok (.if_icmp .lt 13, 3) := by decide +kernel
theorem dJ2_getChar_3b067_18 : decode cJ2_getChar_3b067 18 = .ok (.new 52, 3) := by decide +kernel
theorem dJ2_getChar_3b067_21 : decode cJ2_getChar_3b067 21 = .ok (.dup, 1) := by decide +kernel
theorem dJ2_getChar_3b067_22 : decode cJ2_getChar_3b067 22 = .ok (.ldc 54, 2) := by decide +kernel
theorem dJ2_getChar_3b067_24 : decode cJ2_getChar_3b067 24 = .ok (.invokespecial 56, 3) := by decide +kernel
theorem dJ2_getChar_3b067_27 : decode cJ2_getChar_3b067 27 = .ok (.athrow, 1) := by decide +kernel
theorem dJ2_getChar_3b067_28 : decode cJ2_getChar_3b067 28 = .ok (.iload_n 1, 1) := by decide +kernel
theorem dJ2_getChar_3b067_29 : decode cJ2_getChar_3b067 29 = .ok (.iconst 1, 1) := by decide +kernel
theorem dJ2_getChar_3b067_30 : decode cJ2_getChar_3b067 30 = .ok (.ishl, 1) := by decide +kernel
theorem dJ2_getChar_3b067_31 : decode cJ2_getChar_3b067 31 = .ok (.istore_n 1, 1) := by decide +kernel
theorem dJ2_getChar_3b067_32 : decode cJ2_getChar_3b067 32 = .ok (.aload_n 0, 1) := by decide +kernel
theorem dJ2_getChar_3b067_33 : decode cJ2_getChar_3b067 33 = .ok (.iload_n 1, 1) := by decide +kernel
theorem dJ2_getChar_3b067_34 : decode cJ2_getChar_3b067 34 = .ok (.iinc 1 1, 3) := by decide +kernel
theorem dJ2_getChar_3b067_37 : decode cJ2_getChar_3b067 37 = .ok (.baload, 1) := by decide +kernel
theorem dJ2_getChar_3b067_38 : decode cJ2_getChar_3b067 38 = .ok (.sipush 255, 3) := by decide +kernel
theorem dJ2_getChar_3b067_41 : decode cJ2_getChar_3b067 41 = .ok (.iand, 1) := by decide +kernel
theorem dJ2_getChar_3b067_42 : decode cJ2_getChar_3b067 42 = .ok (.getstatic 59, 3) := by decide +kernel
theorem dJ2_getChar_3b067_45 : decode cJ2_getChar_3b067 45 = .ok (.ishl, 1) := by decide +kernel
theorem dJ2_getChar_3b067_46 : decode cJ2_getChar_3b067 46 = .ok (.aload_n 0, 1) := by decide +kernel
theorem dJ2_getChar_3b067_47 : decode cJ2_getChar_3b067 47 = .ok (.iload_n 1, 1) := by decide +kernel
theorem dJ2_getChar_3b067_48 : decode cJ2_getChar_3b067 48 = .ok (.baload, 1) := by decide +kernel
theorem dJ2_getChar_3b067_49 : decode cJ2_getChar_3b067 49 = .ok (.sipush 255, 3) := by decide +kernel
theorem dJ2_getChar_3b067_52 : decode cJ2_getChar_3b067 52 = .ok (.iand, 1) := by decide +kernel
theorem dJ2_getChar_3b067_53 : decode cJ2_getChar_3b067 53 = .ok (.getstatic 63, 3) := by decide +kernel
theorem dJ2_getChar_3b067_56 : decode cJ2_getChar_3b067 56 = .ok (.ishl, 1) := by decide +kernel
theorem dJ2_getChar_3b067_57 : decode cJ2_getChar_3b067 57 = .ok (.ior, 1) := by decide +kernel
theorem dJ2_getChar_3b067_58 : decode cJ2_getChar_3b067 58 = .ok (.i2c, 1) := by decide +kernel
theorem dJ2_getChar_3b067_59 : decode cJ2_getChar_3b067 59 = .ok (.ireturn, 1) := by decide +kernel
theorem dJ2_length_9d52b_0 : decode cJ2_length_9d52b 0 = .ok (.aload_n 0, 1) := by decide +kernel
theorem dJ2_length_9d52b_1 : decode cJ2_length_9d52b 1 = .ok (.arraylength, 1) := by decide +kernel
theorem dJ2_length_9d52b_2 : decode cJ2_length_9d52b 2 = .ok (.iconst 1, 1) := by decide +kernel
theorem dJ2_length_9d52b_3 : decode cJ2_length_9d52b 3 = .ok (.ishr, 1) := by decide +kernel
theorem dJ2_length_9d52b_4 : decode cJ2_length_9d52b 4 = .ok (.ireturn, 1) := by decide +kernel
theorem dJ2_charAt_3b067_0 : decode cJ2_charAt_3b067 0 = .ok (.iload_n 1, 1) := by decide +kernel
theorem dJ2_charAt_3b067_1 : decode cJ2_charAt_3b067 1 = .ok (.aload_n 0, 1) := by decide +kernel
theorem dJ2_charAt_3b067_2 : decode cJ2_charAt_3b067 2 = .ok (.invokestatic 67, 3) := by decide +kernel
theorem dJ2_charAt_3b067_5 : decode cJ2_charAt_3b067 5 = .ok (.aload_n 0, 1) := by decide +kernel
theorem dJ2_charAt_3b067_6 : decode cJ2_charAt_3b067 6 = .ok (.iload_n 1, 1) := by decide +kernel
theorem dJ2_charAt_3b067_7 : decode cJ2_charAt_3b067 7 = .ok (.invokestatic 71, 3) := by decide +kernel
theorem dJ2_charAt_3b067_10 : decode cJ2_charAt_3b067 10 = .ok (.ireturn, 1) := by decide +kernel
theorem dJ2_checkIndex_2214a_0 : decode cJ2_checkIndex_2214a 0 = .ok (.iload_n 0, 1) := by decide +kernel
theorem dJ2_checkIndex_2214a_1 : decode cJ2_checkIndex_2214a 1 = .ok (.aload_n 1, 1) := by decide +kernel
theorem dJ2_checkIndex_2214a_2 : decode cJ2_checkIndex_2214a 2 = .ok (.invokestatic 48, 3) := by decide +kernel
theorem dJ2_checkIndex_2214a_5 : decode cJ2_checkIndex_2214a 5 = .ok (.invokestatic 414, 3) := by decide +kernel
theorem dJ2_checkIndex_2214a_8 : decode cJ2_checkIndex_2214a 8 = .ok (.return_, 1) := by decide +kernel
theorem dJ3_checkIndex_8e157_0 : decode cJ3_checkIndex_8e157 0 = .ok (.iload_n 0, 1) := by decide +kernel
theorem dJ3_checkIndex_8e157_1 : decode cJ3_checkIndex_8e157 1 = .ok (.ifCond .lt 8, 3) := by decide +kernel
theorem dJ3_checkIndex_8e157_4 : decode cJ3_checkIndex_8e157 4 = .ok (.iload_n 0, 1) := by decide +kernel
theorem dJ3_checkIndex_8e157_5 : decode cJ3_checkIndex_8e157 5 = .ok (.iload_n 1, 1) := by decide +kernel
theorem dJ3_checkIndex_8e157_6 : decode cJ3_checkIndex_8e157 6 = .ok (.if_icmp .lt 10, 3) := by decide +kernel
theorem dJ3_checkIndex_8e157_9 : decode cJ3_checkIndex_8e157 9 = .ok (.aload_n 2, 1) := by decide +kernel
theorem dJ3_checkIndex_8e157_10 : decode cJ3_checkIndex_8e157 10 = .ok (.iload_n 0, 1) := by decide +kernel
theorem dJ3_checkIndex_8e157_11 : decode cJ3_checkIndex_8e157 11 = .ok (.iload_n 1, 1) := by decide +kernel
theorem dJ3_checkIndex_8e157_12 : decode cJ3_checkIndex_8e157 12 = .ok (.invokestatic 95, 3) := by decide +kernel
theorem dJ3_checkIndex_8e157_15 : decode cJ3_checkIndex_8e157 15 = .ok (.athrow, 1) := by decide +kernel
theorem dJ3_checkIndex_8e157_16 : decode cJ3_checkIndex_8e157 16 = .ok (.iload_n 0, 1) := by decide +kernel
theorem dJ3_checkIndex_8e157_17 : decode cJ3_checkIndex_8e157 17 = .ok (.ireturn, 1) := by decide +kernel
theorem dL_look_0 : decode cL_look 0 = .ok (.aload_n 3, 1) := by decide +kernel
theorem dL_look_1 : decode cL_look 1 = .ok (.iconst 0, 1) := by decide +kernel
theorem dL_look_2 : decode cL_look 2 = .ok (.aload_n 0, 1) := by decide +kernel
theorem dL_look_3 : decode cL_look 3 = .ok (.iload_n 1, 1) := by decide +kernel
theorem dL_look_4 : decode cL_look 4 = .ok (.iload_n 2, 1) := by decide +kernel
theorem dL_look_5 : decode cL_look 5 = .ok (.invokevirtual 7, 3) := by decide +kernel
theorem dL_look_8 : decode cL_look 8 = .ok (.i2l, 1) := by decide +kernel
theorem dL_look_9 : decode cL_look 9 = .ok (.lastore, 1) := by decide +kernel
theorem dL_look_10 : decode cL_look 10 = .ok (.goto 11, 3) := by decide +kernel
theorem dL_look_13 : decode cL_look 13 = .ok (.astore 4, 2) := by decide +kernel
theorem dL_look_15 : decode cL_look 15 = .ok (.iconst 1, 1) := by decide +kernel
theorem dL_look_16 : decode cL_look 16 = .ok (.ireturn, 1) := by decide +kernel
theorem dL_look_17 : decode cL_look 17 = .ok (.astore 4, 2) := by decide +kernel
theorem dL_look_19 : decode cL_look 19 = .ok (.iconst 2, 1) := by decide +kernel
theorem dL_look_20 : decode cL_look 20 = .ok (.ireturn, 1) := by decide +kernel
theorem dL_look_21 : decode cL_look 21 = .ok (.iconst 0, 1) := by decide +kernel
theorem dL_look_22 : decode cL_look 22 = .ok (.ireturn, 1) := by decide +kernel
theorem dL_law_0 : decode cL_law 0 = .ok (.new 8, 3) := by decide +kernel
theorem dL_law_3 : decode cL_law 3 = .ok (.dup, 1) := by decide +kernel
theorem dL_law_4 : decode cL_law 4 = .ok (.invokespecial 17, 3) := by decide +kernel
theorem dL_law_7 : decode cL_law 7 = .ok (.astore_n 1, 1) := by decide +kernel
theorem dL_law_8 : decode cL_law 8 = .ok (.new 18, 3) := by decide +kernel
theorem dL_law_11 : decode cL_law 11 = .ok (.dup, 1) := by decide +kernel
theorem dL_law_12 : decode cL_law 12 = .ok (.invokespecial 20, 3) := by decide +kernel
theorem dL_law_15 : decode cL_law 15 = .ok (.astore_n 2, 1) := by decide +kernel
theorem dL_law_16 : decode cL_law 16 = .ok (.iconst 1, 1) := by decide +kernel
theorem dL_law_17 : decode cL_law 17 = .ok (.newarray .long, 2) := by decide +kernel
theorem dL_law_19 : decode cL_law 19 = .ok (.astore_n 3, 1) := by decide +kernel
theorem dL_law_20 : decode cL_law 20 = .ok (.iconst 0, 1) := by decide +kernel
theorem dL_law_21 : decode cL_law 21 = .ok (.istore 4, 2) := by decide +kernel
theorem dL_law_23 : decode cL_law 23 = .ok (.iload 4, 2) := by decide +kernel
theorem dL_law_25 : decode cL_law 25 = .ok (.aload_n 0, 1) := by decide +kernel
theorem dL_law_26 : decode cL_law 26 = .ok (.arraylength, 1) := by decide +kernel
theorem dL_law_27 : decode cL_law 27 = .ok (.bipush 6, 2) := by decide +kernel
theorem dL_law_29 : decode cL_law 29 = .ok (.isub, 1) := by decide +kernel
theorem dL_law_30 : decode cL_law 30 = .ok (.if_icmp .gt 1158, 3) := by decide +kernel
theorem dL_law_33 : decode cL_law 33 = .ok (.aload_n 0, 1) := by decide +kernel
theorem dL_law_34 : decode cL_law 34 = .ok (.iload 4, 2) := by decide +kernel
theorem dL_law_36 : decode cL_law 36 = .ok (.iaload, 1) := by decide +kernel
theorem dL_law_37 : decode cL_law 37 = .ok (.bipush 31, 2) := by decide +kernel
theorem dL_law_39 : decode cL_law 39 = .ok (.iand, 1) := by decide +kernel
theorem dL_law_40 : decode cL_law 40 = .ok (.tableswitch 1142 0 30 #[140, 213, 238, 263, 288, 325, 390, 415, 452, 465, 490, 515, 540, 608, 633, 670, 719, 768, 817, 842, 867, 892, 905, 918, 955, 968, 993, 1030, 1067, 1092, 1117], 140) := by decide +kernel
theorem dL_law_180 : decode cL_law 180 = .ok (.aload_n 1, 1) := by decide +kernel
theorem dL_law_181 : decode cL_law 181 = .ok (.aload_n 0, 1) := by decide +kernel
theorem dL_law_182 : decode cL_law 182 = .ok (.iload 4, 2) := by decide +kernel
theorem dL_law_184 : decode cL_law 184 = .ok (.iconst 1, 1) := by decide +kernel
theorem dL_law_185 : decode cL_law 185 = .ok (.iadd, 1) := by decide +kernel
theorem dL_law_186 : decode cL_law 186 = .ok (.iaload, 1) := by decide +kernel
theorem dL_law_187 : decode cL_law 187 = .ok (.aload_n 0, 1) := by decide +kernel
theorem dL_law_188 : decode cL_law 188 = .ok (.iload 4, 2) := by decide +kernel
theorem dL_law_190 : decode cL_law 190 = .ok (.iconst 2, 1) := by decide +kernel
theorem dL_law_191 : decode cL_law 191 = .ok (.iadd, 1) := by decide +kernel
theorem dL_law_192 : decode cL_law 192 = .ok (.iaload, 1) := by decide +kernel
theorem dL_law_193 : decode cL_law 193 = .ok (.aload_n 0, 1) := by decide +kernel
theorem dL_law_194 : decode cL_law 194 = .ok (.iload 4, 2) := by decide +kernel
theorem dL_law_196 : decode cL_law 196 = .ok (.iconst 3, 1) := by decide +kernel
theorem dL_law_197 : decode cL_law 197 = .ok (.iadd, 1) := by decide +kernel
theorem dL_law_198 : decode cL_law 198 = .ok (.iaload, 1) := by decide +kernel
theorem dL_law_199 : decode cL_law 199 = .ok (.aload_n 0, 1) := by decide +kernel
theorem dL_law_200 : decode cL_law 200 = .ok (.iload 4, 2) := by decide +kernel
theorem dL_law_202 : decode cL_law 202 = .ok (.iconst 4, 1) := by decide +kernel
theorem dL_law_203 : decode cL_law 203 = .ok (.iadd, 1) := by decide +kernel
theorem dL_law_204 : decode cL_law 204 = .ok (.iaload, 1) := by decide +kernel
theorem dL_law_205 : decode cL_law 205 = .ok (.aload_n 0, 1) := by decide +kernel
theorem dL_law_206 : decode cL_law 206 = .ok (.iload 4, 2) := by decide +kernel
theorem dL_law_208 : decode cL_law 208 = .ok (.iconst 5, 1) := by decide +kernel
theorem dL_law_209 : decode cL_law 209 = .ok (.iadd, 1) := by decide +kernel
theorem dL_law_210 : decode cL_law 210 = .ok (.iaload, 1) := by decide +kernel
theorem dL_law_211 : decode cL_law 211 = .ok (.invokevirtual 21, 3) := by decide +kernel
theorem dL_law_214 : decode cL_law 214 = .ok (.aload_n 2, 1) := by decide +kernel
theorem dL_law_215 : decode cL_law 215 = .ok (.aload_n 0, 1) := by decide +kernel
theorem dL_law_216 : decode cL_law 216 = .ok (.iload 4, 2) := by decide +kernel
theorem dL_law_218 : decode cL_law 218 = .ok (.iconst 1, 1) := by decide +kernel
theorem dL_law_219 : decode cL_law 219 = .ok (.iadd, 1) := by decide +kernel
theorem dL_law_220 : decode cL_law 220 = .ok (.iaload, 1) := by decide +kernel
theorem dL_law_221 : decode cL_law 221 = .ok (.aload_n 0, 1) := by decide +kernel
theorem dL_law_222 : decode cL_law 222 = .ok (.iload 4, 2) := by decide +kernel
theorem dL_law_224 : decode cL_law 224 = .ok (.iconst 2, 1) := by decide +kernel
theorem dL_law_225 : decode cL_law 225 = .ok (.iadd, 1) := by decide +kernel
theorem dL_law_226 : decode cL_law 226 = .ok (.iaload, 1) := by decide +kernel
theorem dL_law_227 : decode cL_law 227 = .ok (.aload_n 0, 1) := by decide +kernel
theorem dL_law_228 : decode cL_law 228 = .ok (.iload 4, 2) := by decide +kernel
theorem dL_law_230 : decode cL_law 230 = .ok (.iconst 3, 1) := by decide +kernel
theorem dL_law_231 : decode cL_law 231 = .ok (.iadd, 1) := by decide +kernel
theorem dL_law_232 : decode cL_law 232 = .ok (.iaload, 1) := by decide +kernel
theorem dL_law_233 : decode cL_law 233 = .ok (.aload_n 0, 1) := by decide +kernel
theorem dL_law_234 : decode cL_law 234 = .ok (.iload 4, 2) := by decide +kernel
theorem dL_law_236 : decode cL_law 236 = .ok (.iconst 4, 1) := by decide +kernel
theorem dL_law_237 : decode cL_law 237 = .ok (.iadd, 1) := by decide +kernel
theorem dL_law_238 : decode cL_law 238 = .ok (.iaload, 1) := by decide +kernel
theorem dL_law_239 : decode cL_law 239 = .ok (.aload_n 0, 1) := by decide +kernel
theorem dL_law_240 : decode cL_law 240 = .ok (.iload 4, 2) := by decide +kernel
theorem dL_law_242 : decode cL_law 242 = .ok (.iconst 5, 1) := by decide +kernel
theorem dL_law_243 : decode cL_law 243 = .ok (.iadd, 1) := by decide +kernel
theorem dL_law_244 : decode cL_law 244 = .ok (.iaload, 1) := by decide +kernel
theorem dL_law_245 : decode cL_law 245 = .ok (.invokevirtual 25, 3) := by decide +kernel
theorem dL_law_248 : decode cL_law 248 = .ok (.if_icmp .eq 934, 3) := by decide +kernel
theorem dL_law_251 : decode cL_law 251 = .ok (.iconst 0, 1) := by decide +kernel
theorem dL_law_252 : decode cL_law 252 = .ok (.ireturn, 1) := by decide +kernel
theorem dL_law_253 : decode cL_law 253 = .ok (.aload_n 1, 1) := by decide +kernel
theorem dL_law_254 : decode cL_law 254 = .ok (.aload_n 0, 1) := by decide +kernel
theorem dL_law_255 : decode cL_law 255 = .ok (.iload 4, 2) := by decide +kernel
theorem dL_law_257 : decode cL_law 257 = .ok (.iconst 1, 1) := by decide +kernel
theorem dL_law_258 : decode cL_law 258 = .ok (.iadd, 1) := by decide +kernel
theorem dL_law_259 : decode cL_law 259 = .ok (.iaload, 1) := by decide +kernel
theorem dL_law_260 : decode cL_law 260 = .ok (.invokevirtual 26, 3) := by decide +kernel
theorem dL_law_263 : decode cL_law 263 = .ok (.aload_n 2, 1) := by decide +kernel
theorem dL_law_264 : decode cL_law 264 = .ok (.aload_n 0, 1) := by decide +kernel
theorem dL_law_265 : decode cL_law 265 = .ok (.iload 4, 2) := by decide +kernel
theorem dL_law_267 : decode cL_law 267 = .ok (.iconst 1, 1) := by decide +kernel
theorem dL_law_268 : decode cL_law 268 = .ok (.iadd, 1) := by decide +kernel
theorem dL_law_269 : decode cL_law 269 = .ok (.iaload, 1) := by decide +kernel
theorem dL_law_270 : decode cL_law 270 = .ok (.invokevirtual 30, 3) := by decide +kernel
theorem dL_law_273 : decode cL_law 273 = .ok (.if_icmp .eq 909, 3) := by decide +kernel
theorem dL_law_276 : decode cL_law 276 = .ok (.iconst 0, 1) := by decide +kernel
theorem dL_law_277 : decode cL_law 277 = .ok (.ireturn, 1) := by decide +kernel
theorem dL_law_278 : decode cL_law 278 = .ok (.aload_n 1, 1) := by decide +kernel
theorem dL_law_279 : decode cL_law 279 = .ok (.aload_n 0, 1) := by decide +kernel
theorem dL_law_280 : decode cL_law 280 = .ok (.iload 4, 2) := by decide +kernel
theorem dL_law_282 : decode cL_law 282 = .ok (.iconst 1, 1) := by decide +kernel
theorem dL_law_283 : decode cL_law 283 = .ok (.iadd, 1) := by decide +kernel
theorem dL_law_284 : decode cL_law 284 = .ok (.iaload, 1) := by decide +kernel
theorem dL_law_285 : decode cL_law 285 = .ok (.invokevirtual 31, 3) := by decide +kernel
theorem dL_law_288 : decode cL_law 288 = .ok (.aload_n 2, 1) := by decide +kernel
theorem dL_law_289 : decode cL_law 289 = .ok (.aload_n 0, 1) := by decide +kernel
theorem dL_law_290 : decode cL_law 290 = .ok (.iload 4, 2) := by decide +kernel
theorem dL_law_292 : decode cL_law 292 = .ok (.iconst 1, 1) := by decide +kernel
theorem dL_law_293 : decode cL_law 293 = .ok (.iadd, 1) := by decide +kernel
theorem dL_law_294 : decode cL_law 294 = .ok (.iaload, 1) := by decide +kernel
theorem dL_law_295 : decode cL_law 295 = .ok (.invokevirtual 34, 3) := by decide +kernel
theorem dL_law_298 : decode cL_law 298 = .ok (.if_icmp .eq 884, 3) := by decide +kernel
theorem dL_law_301 : decode cL_law 301 = .ok (.iconst 0, 1) := by decide +kernel
theorem dL_law_302 : decode cL_law 302 = .ok (.ireturn, 1) := by decide +kernel
theorem dL_law_303 : decode cL_law 303 = .ok (.aload_n 1, 1) := by decide +kernel
theorem dL_law_304 : decode cL_law 304 = .ok (.aload_n 0, 1) := by decide +kernel
theorem dL_law_305 : decode cL_law 305 = .ok (.iload 4, 2) := by decide +kernel
theorem dL_law_307 : decode cL_law 307 = .ok (.iconst 1, 1) := by decide +kernel
theorem dL_law_308 : decode cL_law 308 = .ok (.iadd, 1) := by decide +kernel
theorem dL_law_309 : decode cL_law 309 = .ok (.iaload, 1) := by decide +kernel
theorem dL_law_310 : decode cL_law 310 = .ok (.invokevirtual 35, 3) := by decide +kernel
theorem dL_law_313 : decode cL_law 313 = .ok (.aload_n 2, 1) := by decide +kernel
theorem dL_law_314 : decode cL_law 314 = .ok (.aload_n 0, 1) := by decide +kernel
theorem dL_law_315 : decode cL_law 315 = .ok (.iload 4, 2) := by decide +kernel
theorem dL_law_317 : decode cL_law 317 = .ok (.iconst 1, 1) := by decide +kernel
theorem dL_law_318 : decode cL_law 318 = .ok (.iadd, 1) := by decide +kernel
theorem dL_law_319 : decode cL_law 319 = .ok (.iaload, 1) := by decide +kernel
theorem dL_law_320 : decode cL_law 320 = .ok (.invokevirtual 38, 3) := by decide +kernel
theorem dL_law_323 : decode cL_law 323 = .ok (.if_icmp .eq 859, 3) := by decide +kernel
theorem dL_law_326 : decode cL_law 326 = .ok (.iconst 0, 1) := by decide +kernel
theorem dL_law_327 : decode cL_law 327 = .ok (.ireturn, 1) := by decide +kernel
theorem dL_law_328 : decode cL_law 328 = .ok (.aload_n 1, 1) := by decide +kernel
theorem dL_law_329 : decode cL_law 329 = .ok (.aload_n 0, 1) := by decide +kernel
theorem dL_law_330 : decode cL_law 330 = .ok (.iload 4, 2) := by decide +kernel
theorem dL_law_332 : decode cL_law 332 = .ok (.iconst 1, 1) := by decide +kernel
theorem dL_law_333 : decode cL_law 333 = .ok (.iadd, 1) := by decide +kernel
theorem dL_law_334 : decode cL_law 334 = .ok (.iaload, 1) := by decide +kernel
theorem dL_law_335 : decode cL_law 335 = .ok (.aload_n 0, 1) := by decide +kernel
theorem dL_law_336 : decode cL_law 336 = .ok (.iload 4, 2) := by decide +kernel
theorem dL_law_338 : decode cL_law 338 = .ok (.iconst 2, 1) := by decide +kernel
theorem dL_law_339 : decode cL_law 339 = .ok (.iadd, 1) := by decide +kernel
theorem dL_law_340 : decode cL_law 340 = .ok (.iaload, 1) := by decide +kernel
theorem dL_law_341 : decode cL_law 341 = .ok (.invokevirtual 39, 3) := by decide +kernel
theorem dL_law_344 : decode cL_law 344 = .ok (.aload_n 2, 1) := by decide +kernel
theorem dL_law_345 : decode cL_law 345 = .ok (.aload_n 0, 1) := by decide +kernel
theorem dL_law_346 : decode cL_law 346 = .ok (.iload 4, 2) := by decide +kernel
theorem dL_law_348 : decode cL_law 348 = .ok (.iconst 1, 1) := by decide +kernel
theorem dL_law_349 : decode cL_law 349 = .ok (.iadd, 1) := by decide +kernel
theorem dL_law_350 : decode cL_law 350 = .ok (.iaload, 1) := by decide +kernel
theorem dL_law_351 : decode cL_law 351 = .ok (.aload_n 0, 1) := by decide +kernel
theorem dL_law_352 : decode cL_law 352 = .ok (.iload 4, 2) := by decide +kernel
theorem dL_law_354 : decode cL_law 354 = .ok (.iconst 2, 1) := by decide +kernel
theorem dL_law_355 : decode cL_law 355 = .ok (.iadd, 1) := by decide +kernel
theorem dL_law_356 : decode cL_law 356 = .ok (.iaload, 1) := by decide +kernel
theorem dL_law_357 : decode cL_law 357 = .ok (.invokevirtual 43, 3) := by decide +kernel
theorem dL_law_360 : decode cL_law 360 = .ok (.if_icmp .eq 822, 3) := by decide +kernel
theorem dL_law_363 : decode cL_law 363 = .ok (.iconst 0, 1) := by decide +kernel
theorem dL_law_364 : decode cL_law 364 = .ok (.ireturn, 1) := by decide +kernel
theorem dL_law_365 : decode cL_law 365 = .ok (.aload_n 1, 1) := by decide +kernel
theorem dL_law_366 : decode cL_law 366 = .ok (.aload_n 0, 1) := by decide +kernel
theorem dL_law_367 : decode cL_law 367 = .ok (.iload 4, 2) := by decide +kernel
theorem dL_law_369 : decode cL_law 369 = .ok (.iconst 1, 1) := by decide +kernel
theorem dL_law_370 : decode cL_law 370 = .ok (.iadd, 1) := by decide +kernel
theorem dL_law_371 : decode cL_law 371 = .ok (.iaload, 1) := by decide +kernel
theorem dL_law_372 : decode cL_law 372 = .ok (.aload_n 0, 1) := by decide +kernel
theorem dL_law_373 : decode cL_law 373 = .ok (.iload 4, 2) := by decide +kernel
theorem dL_law_375 : decode cL_law 375 = .ok (.iconst 2, 1) := by decide +kernel
theorem dL_law_376 : decode cL_law 376 = .ok (.iadd, 1) := by decide +kernel
theorem dL_law_377 : decode cL_law 377 = .ok (.iaload, 1) := by decide +kernel
theorem dL_law_378 : decode cL_law 378 = .ok (.aload_n 0, 1) := by decide +kernel
theorem dL_law_379 : decode cL_law 379 = .ok (.iload 4, 2) := by decide +kernel
theorem dL_law_381 : decode cL_law 381 = .ok (.iconst 3, 1) := by decide +kernel
theorem dL_law_382 : decode cL_law 382 = .ok (.iadd, 1) := by decide +kernel
theorem dL_law_383 : decode cL_law 383 = .ok (.iaload, 1) := by decide +kernel
theorem dL_law_384 : decode cL_law 384 = .ok (.ifCond .eq 7, 3) := by decide +kernel
theorem dL_law_387 : decode cL_law 387 = .ok (.iconst 1, 1) := by decide +kernel
theorem dL_law_388 : decode cL_law 388 = .ok (.goto 4, 3) := by decide +kernel
theorem dL_law_391 : decode cL_law 391 = .ok (.iconst 0, 1) := by decide +kernel
theorem dL_law_392 : decode cL_law 392 = .ok (.invokevirtual 44, 3) := by decide +kernel
theorem dL_law_395 : decode cL_law 395 = .ok (.aload_n 2, 1) := by decide +kernel
theorem dL_law_396 : decode cL_law 396 = .ok (.aload_n 0, 1) := by decide +kernel
theorem dL_law_397 : decode cL_law 397 = .ok (.iload 4, 2) := by decide +kernel
theorem dL_law_399 : decode cL_law 399 = .ok (.iconst 1, 1) := by decide +kernel
theorem dL_law_400 : decode cL_law 400 = .ok (.iadd, 1) := by decide +kernel
theorem dL_law_401 : decode cL_law 401 = .ok (.iaload, 1) := by decide +kernel
theorem dL_law_402 : decode cL_law 402 = .ok (.aload_n 0, 1) := by decide +kernel
theorem dL_law_403 : decode cL_law 403 = .ok (.iload 4, 2) := by decide +kernel
theorem dL_law_405 : decode cL_law 405 = .ok (.iconst 2, 1) := by decide +kernel
theorem dL_law_406 : decode cL_law 406 = .ok (.iadd, 1) := by decide +kernel
theorem dL_law_407 : decode cL_law 407 = .ok (.iaload, 1) := by decide +kernel
theorem dL_law_408 : decode cL_law 408 = .ok (.aload_n 0, 1) := by decide +kernel
theorem dL_law_409 : decode cL_law 409 = .ok (.iload 4, 2) := by decide +kernel
theorem dL_law_411 : decode cL_law 411 = .ok (.iconst 3, 1) := by decide +kernel
theorem dL_law_412 : decode cL_law 412 = .ok (.iadd, 1) := by decide +kernel
theorem dL_law_413 : decode cL_law 413 = .ok (.iaload, 1) := by decide +kernel
theorem dL_law_414 : decode cL_law 414 = .ok (.ifCond .eq 7, 3) := by decide +kernel
theorem dL_law_417 : decode cL_law 417 = .ok (.iconst 1, 1) := by decide +kernel
theorem dL_law_418 : decode cL_law 418 = .ok (.goto 4, 3) := by decide +kernel
theorem dL_law_421 : decode cL_law 421 = .ok (.iconst 0, 1) := by decide +kernel
theorem dL_law_422 : decode cL_law 422 = .ok (.invokevirtual 48, 3) := by decide +kernel
theorem dL_law_425 : decode cL_law 425 = .ok (.if_icmp .eq 757, 3) := by decide +kernel
theorem dL_law_428 : decode cL_law 428 = .ok (.iconst 0, 1) := by decide +kernel
theorem dL_law_429 : decode cL_law 429 = .ok (.ireturn, 1) := by decide +kernel
theorem dL_law_430 : decode cL_law 430 = .ok (.aload_n 1, 1) := by decide +kernel
theorem dL_law_431 : decode cL_law 431 = .ok (.aload_n 0, 1) := by decide +kernel
theorem dL_law_432 : decode cL_law 432 = .ok (.iload 4, 2) := by decide +kernel
theorem dL_law_434 : decode cL_law 434 = .ok (.iconst 1, 1) := by decide +kernel
theorem dL_law_435 : decode cL_law 435 = .ok (.iadd, 1) := by decide +kernel
theorem dL_law_436 : decode cL_law 436 = .ok (.iaload, 1) := by decide +kernel
theorem dL_law_437 : decode cL_law 437 = .ok (.invokevirtual 49, 3) := by decide +kernel
theorem dL_law_440 : decode cL_law 440 = .ok (.aload_n 2, 1) := by decide +kernel
theorem dL_law_441 : decode cL_law 441 = .ok (.aload_n 0, 1) := by decide +kernel
theorem dL_law_442 : decode cL_law 442 = .ok (.iload 4, 2) := by decide +kernel
theorem dL_law_444 : decode cL_law 444 = .ok (.iconst 1, 1) := by decide +kernel
theorem dL_law_445 : decode cL_law 445 = .ok (.iadd, 1) := by decide +kernel
theorem dL_law_446 : decode cL_law 446 = .ok (.iaload, 1) := by decide +kernel
theorem dL_law_447 : decode cL_law 447 = .ok (.invokevirtual 53, 3) := by decide +kernel
theorem dL_law_450 : decode cL_law 450 = .ok (.if_icmp .eq 732, 3) := by decide +kernel
theorem dL_law_453 : decode cL_law 453 = .ok (.iconst 0, 1) := by decide +kernel
theorem dL_law_454 : decode cL_law 454 = .ok (.ireturn, 1) := by decide +kernel
theorem dL_law_455 : decode cL_law 455 = .ok (.aload_n 1, 1) := by decide +kernel
theorem dL_law_456 : decode cL_law 456 = .ok (.aload_n 0, 1) := by decide +kernel
theorem dL_law_457 : decode cL_law 457 = .ok (.iload 4, 2) := by decide +kernel
theorem dL_law_459 : decode cL_law 459 = .ok (.iconst 1, 1) := by decide +kernel
theorem dL_law_460 : decode cL_law 460 = .ok (.iadd, 1) := by decide +kernel
theorem dL_law_461 : decode cL_law 461 = .ok (.iaload, 1) := by decide +kernel
theorem dL_law_462 : decode cL_law 462 = .ok (.aload_n 0, 1) := by decide +kernel
theorem dL_law_463 : decode cL_law 463 = .ok (.iload 4, 2) := by decide +kernel
theorem dL_law_465 : decode cL_law 465 = .ok (.iconst 2, 1) := by decide +kernel
theorem dL_law_466 : decode cL_law 466 = .ok (.iadd, 1) := by decide +kernel
theorem dL_law_467 : decode cL_law 467 = .ok (.iaload, 1) := by decide +kernel
theorem dL_law_468 : decode cL_law 468 = .ok (.invokevirtual 54, 3) := by decide +kernel
theorem dL_law_471 : decode cL_law 471 = .ok (.aload_n 2, 1) := by decide +kernel
theorem dL_law_472 : decode cL_law 472 = .ok (.aload_n 0, 1) := by decide +kernel
theorem dL_law_473 : decode cL_law 473 = .ok (.iload 4, 2) := by decide +kernel
theorem dL_law_475 : decode cL_law 475 = .ok (.iconst 1, 1) := by decide +kernel
theorem dL_law_476 : decode cL_law 476 = .ok (.iadd, 1) := by decide +kernel
theorem dL_law_477 : decode cL_law 477 = .ok (.iaload, 1) := by decide +kernel
theorem dL_law_478 : decode cL_law 478 = .ok (.aload_n 0, 1) := by decide +kernel
theorem dL_law_479 : decode cL_law 479 = .ok (.iload 4, 2) := by decide +kernel
theorem dL_law_481 : decode cL_law 481 = .ok (.iconst 2, 1) := by decide +kernel
theorem dL_law_482 : decode cL_law 482 = .ok (.iadd, 1) := by decide +kernel
theorem dL_law_483 : decode cL_law 483 = .ok (.iaload, 1) := by decide +kernel
theorem dL_law_484 : decode cL_law 484 = .ok (.invokevirtual 57, 3) := by decide +kernel
theorem dL_law_487 : decode cL_law 487 = .ok (.if_icmp .eq 695, 3) := by decide +kernel
theorem dL_law_490 : decode cL_law 490 = .ok (.iconst 0, 1) := by decide +kernel
theorem dL_law_491 : decode cL_law 491 = .ok (.ireturn, 1) := by decide +kernel
theorem dL_law_492 : decode cL_law 492 = .ok (.aload_n 1, 1) := by decide +kernel
theorem dL_law_493 : decode cL_law 493 = .ok (.invokevirtual 58, 3) := by decide +kernel
theorem dL_law_496 : decode cL_law 496 = .ok (.aload_n 2, 1) := by decide +kernel
theorem dL_law_497 : decode cL_law 497 = .ok (.invokevirtual 62, 3) := by decide +kernel
theorem dL_law_500 : decode cL_law 500 = .ok (.if_icmp .eq 682, 3) := by decide +kernel
theorem dL_law_503 : decode cL_law 503 = .ok (.iconst 0, 1) := by decide +kernel
theorem dL_law_504 : decode cL_law 504 = .ok (.ireturn, 1) := by decide +kernel
theorem dL_law_505 : decode cL_law 505 = .ok (.aload_n 1, 1) := by decide +kernel
theorem dL_law_506 : decode cL_law 506 = .ok (.aload_n 0, 1) := by decide +kernel
theorem dL_law_507 : decode cL_law 507 = .ok (.iload 4, 2) := by decide +kernel
theorem dL_law_509 : decode cL_law 509 = .ok (.iconst 1, 1) := by decide +kernel
theorem dL_law_510 : decode cL_law 510 = .ok (.iadd, 1) := by decide +kernel
theorem dL_law_511 : decode cL_law 511 = .ok (.iaload, 1) := by decide +kernel
theorem dL_law_512 : decode cL_law 512 = .ok (.invokevirtual 63, 3) := by decide +kernel
theorem dL_law_515 : decode cL_law 515 = .ok (.aload_n 2, 1) := by decide +kernel
theorem dL_law_516 : decode cL_law 516 = .ok (.aload_n 0, 1) := by decide +kernel
theorem dL_law_517 : decode cL_law 517 = .ok (.iload 4, 2) := by decide +kernel
theorem dL_law_519 : decode cL_law 519 = .ok (.iconst 1, 1) := by decide +kernel
theorem dL_law_520 : decode cL_law 520 = .ok (.iadd, 1) := by decide +kernel
theorem dL_law_521 : decode cL_law 521 = .ok (.iaload, 1) := by decide +kernel
theorem dL_law_522 : decode cL_law 522 = .ok (.invokevirtual 66, 3) := by decide +kernel
theorem dL_law_525 : decode cL_law 525 = .ok (.if_icmp .eq 657, 3) := by decide +kernel
theorem dL_law_528 : decode cL_law 528 = .ok (.iconst 0, 1) := by decide +kernel
theorem dL_law_529 : decode cL_law 529 = .ok (.ireturn, 1) := by decide +kernel
theorem dL_law_530 : decode cL_law 530 = .ok (.aload_n 1, 1) := by decide +kernel
theorem dL_law_531 : decode cL_law 531 = .ok (.aload_n 0, 1) := by decide +kernel
theorem dL_law_532 : decode cL_law 532 = .ok (.iload 4, 2) := by decide +kernel
theorem dL_law_534 : decode cL_law 534 = .ok (.iconst 1, 1) := by decide +kernel
theorem dL_law_535 : decode cL_law 535 = .ok (.iadd, 1) := by decide +kernel
theorem dL_law_536 : decode cL_law 536 = .ok (.iaload, 1) := by decide +kernel
theorem dL_law_537 : decode cL_law 537 = .ok (.invokevirtual 67, 3) := by decide +kernel
theorem dL_law_540 : decode cL_law 540 = .ok (.aload_n 2, 1) := by decide +kernel
theorem dL_law_541 : decode cL_law 541 = .ok (.aload_n 0, 1) := by decide +kernel
theorem dL_law_542 : decode cL_law 542 = .ok (.iload 4, 2) := by decide +kernel
theorem dL_law_544 : decode cL_law 544 = .ok (.iconst 1, 1) := by decide +kernel
theorem dL_law_545 : decode cL_law 545 = .ok (.iadd, 1) := by decide +kernel
theorem dL_law_546 : decode cL_law 546 = .ok (.iaload, 1) := by decide +kernel
theorem dL_law_547 : decode cL_law 547 = .ok (.invokevirtual 70, 3) := by decide +kernel
theorem dL_law_550 : decode cL_law 550 = .ok (.if_icmp .eq 632, 3) := by decide +kernel
theorem dL_law_553 : decode cL_law 553 = .ok (.iconst 0, 1) := by decide +kernel
theorem dL_law_554 : decode cL_law 554 = .ok (.ireturn, 1) := by decide +kernel
theorem dL_law_555 : decode cL_law 555 = .ok (.aload_n 1, 1) := by decide +kernel
theorem dL_law_556 : decode cL_law 556 = .ok (.aload_n 0, 1) := by decide +kernel
theorem dL_law_557 : decode cL_law 557 = .ok (.iload 4, 2) := by decide +kernel
theorem dL_law_559 : decode cL_law 559 = .ok (.iconst 1, 1) := by decide +kernel
theorem dL_law_560 : decode cL_law 560 = .ok (.iadd, 1) := by decide +kernel
theorem dL_law_561 : decode cL_law 561 = .ok (.iaload, 1) := by decide +kernel
theorem dL_law_562 : decode cL_law 562 = .ok (.invokevirtual 71, 3) := by decide +kernel
theorem dL_law_565 : decode cL_law 565 = .ok (.aload_n 2, 1) := by decide +kernel
theorem dL_law_566 : decode cL_law 566 = .ok (.aload_n 0, 1) := by decide +kernel
theorem dL_law_567 : decode cL_law 567 = .ok (.iload 4, 2) := by decide +kernel
theorem dL_law_569 : decode cL_law 569 = .ok (.iconst 1, 1) := by decide +kernel
theorem dL_law_570 : decode cL_law 570 = .ok (.iadd, 1) := by decide +kernel
theorem dL_law_571 : decode cL_law 571 = .ok (.iaload, 1) := by decide +kernel
theorem dL_law_572 : decode cL_law 572 = .ok (.invokevirtual 74, 3) := by decide +kernel
theorem dL_law_575 : decode cL_law 575 = .ok (.if_icmp .eq 607, 3) := by decide +kernel
theorem dL_law_578 : decode cL_law 578 = .ok (.iconst 0, 1) := by decide +kernel
theorem dL_law_579 : decode cL_law 579 = .ok (.ireturn, 1) := by decide +kernel
theorem dL_law_580 : decode cL_law 580 = .ok (.aload_n 1, 1) := by decide +kernel
theorem dL_law_581 : decode cL_law 581 = .ok (.aload_n 0, 1) := by decide +kernel
theorem dL_law_582 : decode cL_law 582 = .ok (.iload 4, 2) := by decide +kernel
theorem dL_law_584 : decode cL_law 584 = .ok (.iconst 1, 1) := by decide +kernel
theorem dL_law_585 : decode cL_law 585 = .ok (.iadd, 1) := by decide +kernel
theorem dL_law_586 : decode cL_law 586 = .ok (.iaload, 1) := by decide +kernel
theorem dL_law_587 : decode cL_law 587 = .ok (.aload_n 0, 1) := by decide +kernel
theorem dL_law_588 : decode cL_law 588 = .ok (.iload 4, 2) := by decide +kernel
theorem dL_law_590 : decode cL_law 590 = .ok (.iconst 2, 1) := by decide +kernel
theorem dL_law_591 : decode cL_law 591 = .ok (.iadd, 1) := by decide +kernel
theorem dL_law_592 : decode cL_law 592 = .ok (.iaload, 1) := by decide +kernel
theorem dL_law_593 : decode cL_law 593 = .ok (.aload_n 3, 1) := by decide +kernel
theorem dL_law_594 : decode cL_law 594 = .ok (.invokestatic 75, 3) := by decide +kernel
theorem dL_law_597 : decode cL_law 597 = .ok (.istore 5, 2) := by decide +kernel
theorem dL_law_599 : decode cL_law 599 = .ok (.aload_n 2, 1) := by decide +kernel
theorem dL_law_600 : decode cL_law 600 = .ok (.aload_n 0, 1) := by decide +kernel
theorem dL_law_601 : decode cL_law 601 = .ok (.iload 4, 2) := by decide +kernel
theorem dL_law_603 : decode cL_law 603 = .ok (.iconst 1, 1) := by decide +kernel
theorem dL_law_604 : decode cL_law 604 = .ok (.iadd, 1) := by decide +kernel
theorem dL_law_605 : decode cL_law 605 = .ok (.iaload, 1) := by decide +kernel
theorem dL_law_606 : decode cL_law 606 = .ok (.aload_n 0, 1) := by decide +kernel
theorem dL_law_607 : decode cL_law 607 = .ok (.iload 4, 2) := by decide +kernel
theorem dL_law_609 : decode cL_law 609 = .ok (.iconst 2, 1) := by decide +kernel
theorem dL_law_610 : decode cL_law 610 = .ok (.iadd, 1) := by decide +kernel
theorem dL_law_611 : decode cL_law 611 = .ok (.iaload, 1) := by decide +kernel
theorem dL_law_612 : decode cL_law 612 = .ok (.invokevirtual 80, 3) := by decide +kernel
theorem dL_law_615 : decode cL_law 615 = .ok (.istore 6, 2) := by decide +kernel
theorem dL_law_617 : decode cL_law 617 = .ok (.aload_n 2, 1) := by decide +kernel
theorem dL_law_618 : decode cL_law 618 = .ok (.invokevirtual 81, 3) := by decide +kernel
theorem dL_law_621 : decode cL_law 621 = .ok (.iload 5, 2) := by decide +kernel
theorem dL_law_623 : decode cL_law 623 = .ok (.if_icmp .eq 5, 3) := by decide +kernel
theorem dL_law_626 : decode cL_law 626 = .ok (.iconst 0, 1) := by decide +kernel
theorem dL_law_627 : decode cL_law 627 = .ok (.ireturn, 1) := by decide +kernel
theorem dL_law_628 : decode cL_law 628 = .ok (.iload 5, 2) := by decide +kernel
theorem dL_law_630 : decode cL_law 630 = .ok (.ifCond .ne 15, 3) := by decide +kernel
theorem dL_law_633 : decode cL_law 633 = .ok (.aload_n 3, 1) := by decide +kernel
theorem dL_law_634 : decode cL_law 634 = .ok (.iconst 0, 1) := by decide +kernel
theorem dL_law_635 : decode cL_law 635 = .ok (.laload, 1) := by decide +kernel
theorem dL_law_636 : decode cL_law 636 = .ok (.iload 6, 2) := by decide +kernel
theorem dL_law_638 : decode cL_law 638 = .ok (.i2l, 1) := by decide +kernel
theorem dL_law_639 : decode cL_law 639 = .ok (.lcmp, 1) := by decide +kernel
theorem dL_law_640 : decode cL_law 640 = .ok (.ifCond .eq 5, 3) := by decide +kernel
theorem dL_law_643 : decode cL_law 643 = .ok (.iconst 0, 1) := by decide +kernel
theorem dL_law_644 : decode cL_law 644 = .ok (.ireturn, 1) := by decide +kernel
theorem dL_law_645 : decode cL_law 645 = .ok (.goto 537, 3) := by decide +kernel
theorem dL_law_648 : decode cL_law 648 = .ok (.aload_n 1, 1) := by decide +kernel
theorem dL_law_649 : decode cL_law 649 = .ok (.aload_n 0, 1) := by decide +kernel
theorem dL_law_650 : decode cL_law 650 = .ok (.iload 4, 2) := by decide +kernel
theorem dL_law_652 : decode cL_law 652 = .ok (.iconst 1, 1) := by decide +kernel
theorem dL_law_653 : decode cL_law 653 = .ok (.iadd, 1) := by decide +kernel
theorem dL_law_654 : decode cL_law 654 = .ok (.iaload, 1) := by decide +kernel
theorem dL_law_655 : decode cL_law 655 = .ok (.invokevirtual 84, 3) := by decide +kernel
theorem dL_law_658 : decode cL_law 658 = .ok (.aload_n 2, 1) := by decide +kernel
theorem dL_law_659 : decode cL_law 659 = .ok (.aload_n 0, 1) := by decide +kernel
theorem dL_law_660 : decode cL_law 660 = .ok (.iload 4, 2) := by decide +kernel
theorem dL_law_662 : decode cL_law 662 = .ok (.iconst 1, 1) := by decide +kernel
theorem dL_law_663 : decode cL_law 663 = .ok (.iadd, 1) := by decide +kernel
theorem dL_law_664 : decode cL_law 664 = .ok (.iaload, 1) := by decide +kernel
theorem dL_law_665 : decode cL_law 665 = .ok (.invokevirtual 87, 3) := by decide +kernel
theorem dL_law_668 : decode cL_law 668 = .ok (.if_icmp .eq 514, 3) := by decide +kernel
theorem dL_law_671 : decode cL_law 671 = .ok (.iconst 0, 1) := by decide +kernel
theorem dL_law_672 : decode cL_law 672 = .ok (.ireturn, 1) := by decide +kernel
theorem dL_law_673 : decode cL_law 673 = .ok (.aload_n 1, 1) := by decide +kernel
theorem dL_law_674 : decode cL_law 674 = .ok (.aload_n 0, 1) := by decide +kernel
theorem dL_law_675 : decode cL_law 675 = .ok (.iload 4, 2) := by decide +kernel
theorem dL_law_677 : decode cL_law 677 = .ok (.iconst 1, 1) := by decide +kernel
theorem dL_law_678 : decode cL_law 678 = .ok (.iadd, 1) := by decide +kernel
theorem dL_law_679 : decode cL_law 679 = .ok (.iaload, 1) := by decide +kernel
theorem dL_law_680 : decode cL_law 680 = .ok (.aload_n 0, 1) := by decide +kernel
theorem dL_law_681 : decode cL_law 681 = .ok (.iload 4, 2) := by decide +kernel
theorem dL_law_683 : decode cL_law 683 = .ok (.iconst 2, 1) := by decide +kernel
theorem dL_law_684 : decode cL_law 684 = .ok (.iadd, 1) := by decide +kernel
theorem dL_law_685 : decode cL_law 685 = .ok (.iaload, 1) := by decide +kernel
theorem dL_law_686 : decode cL_law 686 = .ok (.invokevirtual 88, 3) := by decide +kernel
theorem dL_law_689 : decode cL_law 689 = .ok (.aload_n 2, 1) := by decide +kernel
theorem dL_law_690 : decode cL_law 690 = .ok (.aload_n 0, 1) := by decide +kernel
theorem dL_law_691 : decode cL_law 691 = .ok (.iload 4, 2) := by decide +kernel
theorem dL_law_693 : decode cL_law 693 = .ok (.iconst 1, 1) := by decide +kernel
theorem dL_law_694 : decode cL_law 694 = .ok (.iadd, 1) := by decide +kernel
theorem dL_law_695 : decode cL_law 695 = .ok (.iaload, 1) := by decide +kernel
theorem dL_law_696 : decode cL_law 696 = .ok (.aload_n 0, 1) := by decide +kernel
theorem dL_law_697 : decode cL_law 697 = .ok (.iload 4, 2) := by decide +kernel
theorem dL_law_699 : decode cL_law 699 = .ok (.iconst 2, 1) := by decide +kernel
theorem dL_law_700 : decode cL_law 700 = .ok (.iadd, 1) := by decide +kernel
theorem dL_law_701 : decode cL_law 701 = .ok (.iaload, 1) := by decide +kernel
theorem dL_law_702 : decode cL_law 702 = .ok (.invokevirtual 91, 3) := by decide +kernel
theorem dL_law_705 : decode cL_law 705 = .ok (.if_icmp .eq 477, 3) := by decide +kernel
theorem dL_law_708 : decode cL_law 708 = .ok (.iconst 0, 1) := by decide +kernel
theorem dL_law_709 : decode cL_law 709 = .ok (.ireturn, 1) := by decide +kernel
theorem dL_law_710 : decode cL_law 710 = .ok (.aload_n 1, 1) := by decide +kernel
theorem dL_law_711 : decode cL_law 711 = .ok (.aload_n 0, 1) := by decide +kernel
theorem dL_law_712 : decode cL_law 712 = .ok (.iload 4, 2) := by decide +kernel
theorem dL_law_714 : decode cL_law 714 = .ok (.iconst 1, 1) := by decide +kernel
theorem dL_law_715 : decode cL_law 715 = .ok (.iadd, 1) := by decide +kernel
theorem dL_law_716 : decode cL_law 716 = .ok (.iaload, 1) := by decide +kernel
theorem dL_law_717 : decode cL_law 717 = .ok (.aload_n 0, 1) := by decide +kernel
theorem dL_law_718 : decode cL_law 718 = .ok (.iload 4, 2) := by decide +kernel
theorem dL_law_720 : decode cL_law 720 = .ok (.iconst 2, 1) := by decide +kernel
theorem dL_law_721 : decode cL_law 721 = .ok (.iadd, 1) := by decide +kernel
theorem dL_law_722 : decode cL_law 722 = .ok (.iaload, 1) := by decide +kernel
theorem dL_law_723 : decode cL_law 723 = .ok (.aload_n 0, 1) := by decide +kernel
theorem dL_law_724 : decode cL_law 724 = .ok (.iload 4, 2) := by decide +kernel
theorem dL_law_726 : decode cL_law 726 = .ok (.iconst 3, 1) := by decide +kernel
theorem dL_law_727 : decode cL_law 727 = .ok (.iadd, 1) := by decide +kernel
theorem dL_law_728 : decode cL_law 728 = .ok (.iaload, 1) := by decide +kernel
theorem dL_law_729 : decode cL_law 729 = .ok (.invokevirtual 92, 3) := by decide +kernel
theorem dL_law_732 : decode cL_law 732 = .ok (.aload_n 2, 1) := by decide +kernel
theorem dL_law_733 : decode cL_law 733 = .ok (.aload_n 0, 1) := by decide +kernel
theorem dL_law_734 : decode cL_law 734 = .ok (.iload 4, 2) := by decide +kernel
theorem dL_law_736 : decode cL_law 736 = .ok (.iconst 1, 1) := by decide +kernel
theorem dL_law_737 : decode cL_law 737 = .ok (.iadd, 1) := by decide +kernel
theorem dL_law_738 : decode cL_law 738 = .ok (.iaload, 1) := by decide +kernel
theorem dL_law_739 : decode cL_law 739 = .ok (.aload_n 0, 1) := by decide +kernel
theorem dL_law_740 : decode cL_law 740 = .ok (.iload 4, 2) := by decide +kernel
theorem dL_law_742 : decode cL_law 742 = .ok (.iconst 2, 1) := by decide +kernel
theorem dL_law_743 : decode cL_law 743 = .ok (.iadd, 1) := by decide +kernel
theorem dL_law_744 : decode cL_law 744 = .ok (.iaload, 1) := by decide +kernel
theorem dL_law_745 : decode cL_law 745 = .ok (.aload_n 0, 1) := by decide +kernel
theorem dL_law_746 : decode cL_law 746 = .ok (.iload 4, 2) := by decide +kernel
theorem dL_law_748 : decode cL_law 748 = .ok (.iconst 3, 1) := by decide +kernel
theorem dL_law_749 : decode cL_law 749 = .ok (.iadd, 1) := by decide +kernel
theorem dL_law_750 : decode cL_law 750 = .ok (.iaload, 1) := by decide +kernel
theorem dL_law_751 : decode cL_law 751 = .ok (.invokevirtual 96, 3) := by decide +kernel
theorem dL_law_754 : decode cL_law 754 = .ok (.if_icmp .eq 428, 3) := by decide +kernel
theorem dL_law_757 : decode cL_law 757 = .ok (.iconst 0, 1) := by decide +kernel
theorem dL_law_758 : decode cL_law 758 = .ok (.ireturn, 1) := by decide +kernel
theorem dL_law_759 : decode cL_law 759 = .ok (.aload_n 1, 1) := by decide +kernel
theorem dL_law_760 : decode cL_law 760 = .ok (.aload_n 0, 1) := by decide +kernel
theorem dL_law_761 : decode cL_law 761 = .ok (.iload 4, 2) := by decide +kernel
theorem dL_law_763 : decode cL_law 763 = .ok (.iconst 1, 1) := by decide +kernel
theorem dL_law_764 : decode cL_law 764 = .ok (.iadd, 1) := by decide +kernel
theorem dL_law_765 : decode cL_law 765 = .ok (.iaload, 1) := by decide +kernel
theorem dL_law_766 : decode cL_law 766 = .ok (.aload_n 0, 1) := by decide +kernel
theorem dL_law_767 : decode cL_law 767 = .ok (.iload 4, 2) := by decide +kernel
theorem dL_law_769 : decode cL_law 769 = .ok (.iconst 2, 1) := by decide +kernel
theorem dL_law_770 : decode cL_law 770 = .ok (.iadd, 1) := by decide +kernel
theorem dL_law_771 : decode cL_law 771 = .ok (.iaload, 1) := by decide +kernel
theorem dL_law_772 : decode cL_law 772 = .ok (.aload_n 0, 1) := by decide +kernel
theorem dL_law_773 : decode cL_law 773 = .ok (.iload 4, 2) := by decide +kernel
theorem dL_law_775 : decode cL_law 775 = .ok (.iconst 3, 1) := by decide +kernel
theorem dL_law_776 : decode cL_law 776 = .ok (.iadd, 1) := by decide +kernel
theorem dL_law_777 : decode cL_law 777 = .ok (.iaload, 1) := by decide +kernel
theorem dL_law_778 : decode cL_law 778 = .ok (.invokevirtual 97, 3) := by decide +kernel
theorem dL_law_781 : decode cL_law 781 = .ok (.aload_n 2, 1) := by decide +kernel
theorem dL_law_782 : decode cL_law 782 = .ok (.aload_n 0, 1) := by decide +kernel
theorem dL_law_783 : decode cL_law 783 = .ok (.iload 4, 2) := by decide +kernel
theorem dL_law_785 : decode cL_law 785 = .ok (.iconst 1, 1) := by decide +kernel
theorem dL_law_786 : decode cL_law 786 = .ok (.iadd, 1) := by decide +kernel
theorem dL_law_787 : decode cL_law 787 = .ok (.iaload, 1) := by decide +kernel
theorem dL_law_788 : decode cL_law 788 = .ok (.aload_n 0, 1) := by decide +kernel
theorem dL_law_789 : decode cL_law 789 = .ok (.iload 4, 2) := by decide +kernel
theorem dL_law_791 : decode cL_law 791 = .ok (.iconst 2, 1) := by decide +kernel
theorem dL_law_792 : decode cL_law 792 = .ok (.iadd, 1) := by decide +kernel
theorem dL_law_793 : decode cL_law 793 = .ok (.iaload, 1) := by decide +kernel
theorem dL_law_794 : decode cL_law 794 = .ok (.aload_n 0, 1) := by decide +kernel
theorem dL_law_795 : decode cL_law 795 = .ok (.iload 4, 2) := by decide +kernel
theorem dL_law_797 : decode cL_law 797 = .ok (.iconst 3, 1) := by decide +kernel
theorem dL_law_798 : decode cL_law 798 = .ok (.iadd, 1) := by decide +kernel
theorem dL_law_799 : decode cL_law 799 = .ok (.iaload, 1) := by decide +kernel
theorem dL_law_800 : decode cL_law 800 = .ok (.invokevirtual 100, 3) := by decide +kernel
theorem dL_law_803 : decode cL_law 803 = .ok (.if_icmp .eq 379, 3) := by decide +kernel
theorem dL_law_806 : decode cL_law 806 = .ok (.iconst 0, 1) := by decide +kernel
theorem dL_law_807 : decode cL_law 807 = .ok (.ireturn, 1) := by decide +kernel
theorem dL_law_808 : decode cL_law 808 = .ok (.aload_n 1, 1) := by decide +kernel
theorem dL_law_809 : decode cL_law 809 = .ok (.aload_n 0, 1) := by decide +kernel
theorem dL_law_810 : decode cL_law 810 = .ok (.iload 4, 2) := by decide +kernel
theorem dL_law_812 : decode cL_law 812 = .ok (.iconst 1, 1) := by decide +kernel
theorem dL_law_813 : decode cL_law 813 = .ok (.iadd, 1) := by decide +kernel
theorem dL_law_814 : decode cL_law 814 = .ok (.iaload, 1) := by decide +kernel
theorem dL_law_815 : decode cL_law 815 = .ok (.aload_n 0, 1) := by decide +kernel
theorem dL_law_816 : decode cL_law 816 = .ok (.iload 4, 2) := by decide +kernel
theorem dL_law_818 : decode cL_law 818 = .ok (.iconst 2, 1) := by decide +kernel
theorem dL_law_819 : decode cL_law 819 = .ok (.iadd, 1) := by decide +kernel
theorem dL_law_820 : decode cL_law 820 = .ok (.iaload, 1) := by decide +kernel
theorem dL_law_821 : decode cL_law 821 = .ok (.aload_n 0, 1) := by decide +kernel
theorem dL_law_822 : decode cL_law 822 = .ok (.iload 4, 2) := by decide +kernel
theorem dL_law_824 : decode cL_law 824 = .ok (.iconst 3, 1) := by decide +kernel
theorem dL_law_825 : decode cL_law 825 = .ok (.iadd, 1) := by decide +kernel
theorem dL_law_826 : decode cL_law 826 = .ok (.iaload, 1) := by decide +kernel
theorem dL_law_827 : decode cL_law 827 = .ok (.invokevirtual 101, 3) := by decide +kernel
theorem dL_law_830 : decode cL_law 830 = .ok (.aload_n 2, 1) := by decide +kernel
theorem dL_law_831 : decode cL_law 831 = .ok (.aload_n 0, 1) := by decide +kernel
theorem dL_law_832 : decode cL_law 832 = .ok (.iload 4, 2) := by decide +kernel
theorem dL_law_834 : decode cL_law 834 = .ok (.iconst 1, 1) := by decide +kernel
theorem dL_law_835 : decode cL_law 835 = .ok (.iadd, 1) := by decide +kernel
theorem dL_law_836 : decode cL_law 836 = .ok (.iaload, 1) := by decide +kernel
theorem dL_law_837 : decode cL_law 837 = .ok (.aload_n 0, 1) := by decide +kernel
theorem dL_law_838 : decode cL_law 838 = .ok (.iload 4, 2) := by decide +kernel
theorem dL_law_840 : decode cL_law 840 = .ok (.iconst 2, 1) := by decide +kernel
theorem dL_law_841 : decode cL_law 841 = .ok (.iadd, 1) := by decide +kernel
theorem dL_law_842 : decode cL_law 842 = .ok (.iaload, 1) := by decide +kernel
theorem dL_law_843 : decode cL_law 843 = .ok (.aload_n 0, 1) := by decide +kernel
theorem dL_law_844 : decode cL_law 844 = .ok (.iload 4, 2) := by decide +kernel
theorem dL_law_846 : decode cL_law 846 = .ok (.iconst 3, 1) := by decide +kernel
theorem dL_law_847 : decode cL_law 847 = .ok (.iadd, 1) := by decide +kernel
theorem dL_law_848 : decode cL_law 848 = .ok (.iaload, 1) := by decide +kernel
theorem dL_law_849 : decode cL_law 849 = .ok (.invokevirtual 104, 3) := by decide +kernel
theorem dL_law_852 : decode cL_law 852 = .ok (.if_icmp .eq 330, 3) := by decide +kernel
theorem dL_law_855 : decode cL_law 855 = .ok (.iconst 0, 1) := by decide +kernel
theorem dL_law_856 : decode cL_law 856 = .ok (.ireturn, 1) := by decide +kernel
theorem dL_law_857 : decode cL_law 857 = .ok (.aload_n 1, 1) := by decide +kernel
theorem dL_law_858 : decode cL_law 858 = .ok (.aload_n 0, 1) := by decide +kernel
theorem dL_law_859 : decode cL_law 859 = .ok (.iload 4, 2) := by decide +kernel
theorem dL_law_861 : decode cL_law 861 = .ok (.iconst 1, 1) := by decide +kernel
theorem dL_law_862 : decode cL_law 862 = .ok (.iadd, 1) := by decide +kernel
theorem dL_law_863 : decode cL_law 863 = .ok (.iaload, 1) := by decide +kernel
theorem dL_law_864 : decode cL_law 864 = .ok (.invokevirtual 105, 3) := by decide +kernel
theorem dL_law_867 : decode cL_law 867 = .ok (.aload_n 2, 1) := by decide +kernel
theorem dL_law_868 : decode cL_law 868 = .ok (.aload_n 0, 1) := by decide +kernel
theorem dL_law_869 : decode cL_law 869 = .ok (.iload 4, 2) := by decide +kernel
theorem dL_law_871 : decode cL_law 871 = .ok (.iconst 1, 1) := by decide +kernel
theorem dL_law_872 : decode cL_law 872 = .ok (.iadd, 1) := by decide +kernel
theorem dL_law_873 : decode cL_law 873 = .ok (.iaload, 1) := by decide +kernel
theorem dL_law_874 : decode cL_law 874 = .ok (.invokevirtual 108, 3) := by decide +kernel
theorem dL_law_877 : decode cL_law 877 = .ok (.if_icmp .eq 305, 3) := by decide +kernel
theorem dL_law_880 : decode cL_law 880 = .ok (.iconst 0, 1) := by decide +kernel
theorem dL_law_881 : decode cL_law 881 = .ok (.ireturn, 1) := by decide +kernel
theorem dL_law_882 : decode cL_law 882 = .ok (.aload_n 1, 1) := by decide +kernel
theorem dL_law_883 : decode cL_law 883 = .ok (.aload_n 0, 1) := by decide +kernel
theorem dL_law_884 : decode cL_law 884 = .ok (.iload 4, 2) := by decide +kernel
theorem dL_law_886 : decode cL_law 886 = .ok (.iconst 1, 1) := by decide +kernel
theorem dL_law_887 : decode cL_law 887 = .ok (.iadd, 1) := by decide +kernel
theorem dL_law_888 : decode cL_law 888 = .ok (.iaload, 1) := by decide +kernel
theorem dL_law_889 : decode cL_law 889 = .ok (.invokevirtual 109, 3) := by decide +kernel
theorem dL_law_892 : decode cL_law 892 = .ok (.aload_n 2, 1) := by decide +kernel
theorem dL_law_893 : decode cL_law 893 = .ok (.aload_n 0, 1) := by decide +kernel
theorem dL_law_894 : decode cL_law 894 = .ok (.iload 4, 2) := by decide +kernel
theorem dL_law_896 : decode cL_law 896 = .ok (.iconst 1, 1) := by decide +kernel
theorem dL_law_897 : decode cL_law 897 = .ok (.iadd, 1) := by decide +kernel
theorem dL_law_898 : decode cL_law 898 = .ok (.iaload, 1) := by decide +kernel
theorem dL_law_899 : decode cL_law 899 = .ok (.invokevirtual 112, 3) := by decide +kernel
theorem dL_law_902 : decode cL_law 902 = .ok (.if_icmp .eq 280, 3) := by decide +kernel
theorem dL_law_905 : decode cL_law 905 = .ok (.iconst 0, 1) := by decide +kernel
theorem dL_law_906 : decode cL_law 906 = .ok (.ireturn, 1) := by decide +kernel
theorem dL_law_907 : decode cL_law 907 = .ok (.aload_n 1, 1) := by decide +kernel
theorem dL_law_908 : decode cL_law 908 = .ok (.aload_n 0, 1) := by decide +kernel
theorem dL_law_909 : decode cL_law 909 = .ok (.iload 4, 2) := by decide +kernel
theorem dL_law_911 : decode cL_law 911 = .ok (.iconst 1, 1) := by decide +kernel
theorem dL_law_912 : decode cL_law 912 = .ok (.iadd, 1) := by decide +kernel
theorem dL_law_913 : decode cL_law 913 = .ok (.iaload, 1) := by decide +kernel
theorem dL_law_914 : decode cL_law 914 = .ok (.invokevirtual 113, 3) := by decide +kernel
theorem dL_law_917 : decode cL_law 917 = .ok (.aload_n 2, 1) := by decide +kernel
theorem dL_law_918 : decode cL_law 918 = .ok (.aload_n 0, 1) := by decide +kernel
theorem dL_law_919 : decode cL_law 919 = .ok (.iload 4, 2) := by decide +kernel
theorem dL_law_921 : decode cL_law 921 = .ok (.iconst 1, 1) := by decide +kernel
theorem dL_law_922 : decode cL_law 922 = .ok (.iadd, 1) := by decide +kernel
theorem dL_law_923 : decode cL_law 923 = .ok (.iaload, 1) := by decide +kernel
theorem dL_law_924 : decode cL_law 924 = .ok (.invokevirtual 116, 3) := by decide +kernel
theorem dL_law_927 : decode cL_law 927 = .ok (.if_icmp .eq 255, 3) := by decide +kernel
theorem dL_law_930 : decode cL_law 930 = .ok (.iconst 0, 1) := by decide +kernel
theorem dL_law_931 : decode cL_law 931 = .ok (.ireturn, 1) := by decide +kernel
theorem dL_law_932 : decode cL_law 932 = .ok (.aload_n 1, 1) := by decide +kernel
theorem dL_law_933 : decode cL_law 933 = .ok (.invokevirtual 117, 3) := by decide +kernel
theorem dL_law_936 : decode cL_law 936 = .ok (.aload_n 2, 1) := by decide +kernel
theorem dL_law_937 : decode cL_law 937 = .ok (.invokevirtual 120, 3) := by decide +kernel
theorem dL_law_940 : decode cL_law 940 = .ok (.if_icmp .eq 242, 3) := by decide +kernel
theorem dL_law_943 : decode cL_law 943 = .ok (.iconst 0, 1) := by decide +kernel
theorem dL_law_944 : decode cL_law 944 = .ok (.ireturn, 1) := by decide +kernel
theorem dL_law_945 : decode cL_law 945 = .ok (.aload_n 1, 1) := by decide +kernel
theorem dL_law_946 : decode cL_law 946 = .ok (.invokevirtual 121, 3) := by decide +kernel
theorem dL_law_949 : decode cL_law 949 = .ok (.aload_n 2, 1) := by decide +kernel
theorem dL_law_950 : decode cL_law 950 = .ok (.invokevirtual 124, 3) := by decide +kernel
theorem dL_law_953 : decode cL_law 953 = .ok (.if_icmp .eq 229, 3) := by decide +kernel
theorem dL_law_956 : decode cL_law 956 = .ok (.iconst 0, 1) := by decide +kernel
theorem dL_law_957 : decode cL_law 957 = .ok (.ireturn, 1) := by decide +kernel
theorem dL_law_958 : decode cL_law 958 = .ok (.aload_n 1, 1) := by decide +kernel
theorem dL_law_959 : decode cL_law 959 = .ok (.aload_n 0, 1) := by decide +kernel
theorem dL_law_960 : decode cL_law 960 = .ok (.iload 4, 2) := by decide +kernel
theorem dL_law_962 : decode cL_law 962 = .ok (.iconst 1, 1) := by decide +kernel
theorem dL_law_963 : decode cL_law 963 = .ok (.iadd, 1) := by decide +kernel
theorem dL_law_964 : decode cL_law 964 = .ok (.iaload, 1) := by decide +kernel
theorem dL_law_965 : decode cL_law 965 = .ok (.aload_n 0, 1) := by decide +kernel
theorem dL_law_966 : decode cL_law 966 = .ok (.iload 4, 2) := by decide +kernel
theorem dL_law_968 : decode cL_law 968 = .ok (.iconst 2, 1) := by decide +kernel
theorem dL_law_969 : decode cL_law 969 = .ok (.iadd, 1) := by decide +kernel
theorem dL_law_970 : decode cL_law 970 = .ok (.iaload, 1) := by decide +kernel
theorem dL_law_971 : decode cL_law 971 = .ok (.invokevirtual 125, 3) := by decide +kernel
theorem dL_law_974 : decode cL_law 974 = .ok (.aload_n 2, 1) := by decide +kernel
theorem dL_law_975 : decode cL_law 975 = .ok (.aload_n 0, 1) := by decide +kernel
theorem dL_law_976 : decode cL_law 976 = .ok (.iload 4, 2) := by decide +kernel
theorem dL_law_978 : decode cL_law 978 = .ok (.iconst 1, 1) := by decide +kernel
theorem dL_law_979 : decode cL_law 979 = .ok (.iadd, 1) := by decide +kernel
theorem dL_law_980 : decode cL_law 980 = .ok (.iaload, 1) := by decide +kernel
theorem dL_law_981 : decode cL_law 981 = .ok (.aload_n 0, 1) := by decide +kernel
theorem dL_law_982 : decode cL_law 982 = .ok (.iload 4, 2) := by decide +kernel
theorem dL_law_984 : decode cL_law 984 = .ok (.iconst 2, 1) := by decide +kernel
theorem dL_law_985 : decode cL_law 985 = .ok (.iadd, 1) := by decide +kernel
theorem dL_law_986 : decode cL_law 986 = .ok (.iaload, 1) := by decide +kernel
theorem dL_law_987 : decode cL_law 987 = .ok (.invokevirtual 128, 3) := by decide +kernel
theorem dL_law_990 : decode cL_law 990 = .ok (.if_icmp .eq 192, 3) := by decide +kernel
theorem dL_law_993 : decode cL_law 993 = .ok (.iconst 0, 1) := by decide +kernel
theorem dL_law_994 : decode cL_law 994 = .ok (.ireturn, 1) := by decide +kernel
theorem dL_law_995 : decode cL_law 995 = .ok (.aload_n 1, 1) := by decide +kernel
theorem dL_law_996 : decode cL_law 996 = .ok (.invokevirtual 129, 3) := by decide +kernel
theorem dL_law_999 : decode cL_law 999 = .ok (.aload_n 2, 1) := by decide +kernel
theorem dL_law_1000 : decode cL_law 1000 = .ok (.invokevirtual 132, 3) := by decide +kernel
theorem dL_law_1003 : decode cL_law 1003 = .ok (.if_icmp .eq 179, 3) := by decide +kernel
theorem dL_law_1006 : decode cL_law 1006 = .ok (.iconst 0, 1) := by decide +kernel
theorem dL_law_1007 : decode cL_law 1007 = .ok (.ireturn, 1) := by decide +kernel
theorem dL_law_1008 : decode cL_law 1008 = .ok (.aload_n 1, 1) := by decide +kernel
theorem dL_law_1009 : decode cL_law 1009 = .ok (.aload_n 0, 1) := by decide +kernel
theorem dL_law_1010 : decode cL_law 1010 = .ok (.iload 4, 2) := by decide +kernel
theorem dL_law_1012 : decode cL_law 1012 = .ok (.iconst 1, 1) := by decide +kernel
theorem dL_law_1013 : decode cL_law 1013 = .ok (.iadd, 1) := by decide +kernel
theorem dL_law_1014 : decode cL_law 1014 = .ok (.iaload, 1) := by decide +kernel
theorem dL_law_1015 : decode cL_law 1015 = .ok (.invokevirtual 133, 3) := by decide +kernel
theorem dL_law_1018 : decode cL_law 1018 = .ok (.aload_n 2, 1) := by decide +kernel
theorem dL_law_1019 : decode cL_law 1019 = .ok (.aload_n 0, 1) := by decide +kernel
theorem dL_law_1020 : decode cL_law 1020 = .ok (.iload 4, 2) := by decide +kernel
theorem dL_law_1022 : decode cL_law 1022 = .ok (.iconst 1, 1) := by decide +kernel
theorem dL_law_1023 : decode cL_law 1023 = .ok (.iadd, 1) := by decide +kernel
theorem dL_law_1024 : decode cL_law 1024 = .ok (.iaload, 1) := by decide +kernel
theorem dL_law_1025 : decode cL_law 1025 = .ok (.invokevirtual 136, 3) := by decide +kernel
theorem dL_law_1028 : decode cL_law 1028 = .ok (.if_icmp .eq 154, 3) := by decide +kernel
theorem dL_law_1031 : decode cL_law 1031 = .ok (.iconst 0, 1) := by decide +kernel
theorem dL_law_1032 : decode cL_law 1032 = .ok (.ireturn, 1) := by decide +kernel
theorem dL_law_1033 : decode cL_law 1033 = .ok (.aload_n 1, 1) := by decide +kernel
theorem dL_law_1034 : decode cL_law 1034 = .ok (.aload_n 0, 1) := by decide +kernel
theorem dL_law_1035 : decode cL_law 1035 = .ok (.iload 4, 2) := by decide +kernel
theorem dL_law_1037 : decode cL_law 1037 = .ok (.iconst 1, 1) := by decide +kernel
theorem dL_law_1038 : decode cL_law 1038 = .ok (.iadd, 1) := by decide +kernel
theorem dL_law_1039 : decode cL_law 1039 = .ok (.iaload, 1) := by decide +kernel
theorem dL_law_1040 : decode cL_law 1040 = .ok (.aload_n 0, 1) := by decide +kernel
theorem dL_law_1041 : decode cL_law 1041 = .ok (.iload 4, 2) := by decide +kernel
theorem dL_law_1043 : decode cL_law 1043 = .ok (.iconst 2, 1) := by decide +kernel
theorem dL_law_1044 : decode cL_law 1044 = .ok (.iadd, 1) := by decide +kernel
theorem dL_law_1045 : decode cL_law 1045 = .ok (.iaload, 1) := by decide +kernel
theorem dL_law_1046 : decode cL_law 1046 = .ok (.invokevirtual 137, 3) := by decide +kernel
theorem dL_law_1049 : decode cL_law 1049 = .ok (.aload_n 2, 1) := by decide +kernel
theorem dL_law_1050 : decode cL_law 1050 = .ok (.aload_n 0, 1) := by decide +kernel
theorem dL_law_1051 : decode cL_law 1051 = .ok (.iload 4, 2) := by decide +kernel
theorem dL_law_1053 : decode cL_law 1053 = .ok (.iconst 1, 1) := by decide +kernel
theorem dL_law_1054 : decode cL_law 1054 = .ok (.iadd, 1) := by decide +kernel
theorem dL_law_1055 : decode cL_law 1055 = .ok (.iaload, 1) := by decide +kernel
theorem dL_law_1056 : decode cL_law 1056 = .ok (.aload_n 0, 1) := by decide +kernel
theorem dL_law_1057 : decode cL_law 1057 = .ok (.iload 4, 2) := by decide +kernel
theorem dL_law_1059 : decode cL_law 1059 = .ok (.iconst 2, 1) := by decide +kernel
theorem dL_law_1060 : decode cL_law 1060 = .ok (.iadd, 1) := by decide +kernel
theorem dL_law_1061 : decode cL_law 1061 = .ok (.iaload, 1) := by decide +kernel
theorem dL_law_1062 : decode cL_law 1062 = .ok (.invokevirtual 140, 3) := by decide +kernel
theorem dL_law_1065 : decode cL_law 1065 = .ok (.if_icmp .eq 117, 3) := by decide +kernel
theorem dL_law_1068 : decode cL_law 1068 = .ok (.iconst 0, 1) := by decide +kernel
theorem dL_law_1069 : decode cL_law 1069 = .ok (.ireturn, 1) := by decide +kernel
theorem dL_law_1070 : decode cL_law 1070 = .ok (.aload_n 1, 1) := by decide +kernel
theorem dL_law_1071 : decode cL_law 1071 = .ok (.aload_n 0, 1) := by decide +kernel
theorem dL_law_1072 : decode cL_law 1072 = .ok (.iload 4, 2) := by decide +kernel
theorem dL_law_1074 : decode cL_law 1074 = .ok (.iconst 1, 1) := by decide +kernel
theorem dL_law_1075 : decode cL_law 1075 = .ok (.iadd, 1) := by decide +kernel
theorem dL_law_1076 : decode cL_law 1076 = .ok (.iaload, 1) := by decide +kernel
theorem dL_law_1077 : decode cL_law 1077 = .ok (.aload_n 0, 1) := by decide +kernel
theorem dL_law_1078 : decode cL_law 1078 = .ok (.iload 4, 2) := by decide +kernel
theorem dL_law_1080 : decode cL_law 1080 = .ok (.iconst 2, 1) := by decide +kernel
theorem dL_law_1081 : decode cL_law 1081 = .ok (.iadd, 1) := by decide +kernel
theorem dL_law_1082 : decode cL_law 1082 = .ok (.iaload, 1) := by decide +kernel
theorem dL_law_1083 : decode cL_law 1083 = .ok (.invokevirtual 141, 3) := by decide +kernel
theorem dL_law_1086 : decode cL_law 1086 = .ok (.aload_n 2, 1) := by decide +kernel
theorem dL_law_1087 : decode cL_law 1087 = .ok (.aload_n 0, 1) := by decide +kernel
theorem dL_law_1088 : decode cL_law 1088 = .ok (.iload 4, 2) := by decide +kernel
theorem dL_law_1090 : decode cL_law 1090 = .ok (.iconst 1, 1) := by decide +kernel
theorem dL_law_1091 : decode cL_law 1091 = .ok (.iadd, 1) := by decide +kernel
theorem dL_law_1092 : decode cL_law 1092 = .ok (.iaload, 1) := by decide +kernel
theorem dL_law_1093 : decode cL_law 1093 = .ok (.aload_n 0, 1) := by decide +kernel
theorem dL_law_1094 : decode cL_law 1094 = .ok (.iload 4, 2) := by decide +kernel
theorem dL_law_1096 : decode cL_law 1096 = .ok (.iconst 2, 1) := by decide +kernel
theorem dL_law_1097 : decode cL_law 1097 = .ok (.iadd, 1) := by decide +kernel
theorem dL_law_1098 : decode cL_law 1098 = .ok (.iaload, 1) := by decide +kernel
theorem dL_law_1099 : decode cL_law 1099 = .ok (.invokevirtual 144, 3) := by decide +kernel
theorem dL_law_1102 : decode cL_law 1102 = .ok (.if_icmp .eq 80, 3) := by decide +kernel
theorem dL_law_1105 : decode cL_law 1105 = .ok (.iconst 0, 1) := by decide +kernel
theorem dL_law_1106 : decode cL_law 1106 = .ok (.ireturn, 1) := by decide +kernel
theorem dL_law_1107 : decode cL_law 1107 = .ok (.aload_n 1, 1) := by decide +kernel
theorem dL_law_1108 : decode cL_law 1108 = .ok (.aload_n 0, 1) := by decide +kernel
theorem dL_law_1109 : decode cL_law 1109 = .ok (.iload 4, 2) := by decide +kernel
theorem dL_law_1111 : decode cL_law 1111 = .ok (.iconst 1, 1) := by decide +kernel
theorem dL_law_1112 : decode cL_law 1112 = .ok (.iadd, 1) := by decide +kernel
theorem dL_law_1113 : decode cL_law 1113 = .ok (.iaload, 1) := by decide +kernel
theorem dL_law_1114 : decode cL_law 1114 = .ok (.invokevirtual 145, 3) := by decide +kernel
theorem dL_law_1117 : decode cL_law 1117 = .ok (.aload_n 2, 1) := by decide +kernel
theorem dL_law_1118 : decode cL_law 1118 = .ok (.aload_n 0, 1) := by decide +kernel
theorem dL_law_1119 : decode cL_law 1119 = .ok (.iload 4, 2) := by decide +kernel
theorem dL_law_1121 : decode cL_law 1121 = .ok (.iconst 1, 1) := by decide +kernel
theorem dL_law_1122 : decode cL_law 1122 = .ok (.iadd, 1) := by decide +kernel
theorem dL_law_1123 : decode cL_law 1123 = .ok (.iaload, 1) := by decide +kernel
theorem dL_law_1124 : decode cL_law 1124 = .ok (.invokevirtual 148, 3) := by decide +kernel
theorem dL_law_1127 : decode cL_law 1127 = .ok (.if_icmp .eq 55, 3) := by decide +kernel
theorem dL_law_1130 : decode cL_law 1130 = .ok (.iconst 0, 1) := by decide +kernel
theorem dL_law_1131 : decode cL_law 1131 = .ok (.ireturn, 1) := by decide +kernel
theorem dL_law_1132 : decode cL_law 1132 = .ok (.aload_n 1, 1) := by decide +kernel
theorem dL_law_1133 : decode cL_law 1133 = .ok (.aload_n 0, 1) := by decide +kernel
theorem dL_law_1134 : decode cL_law 1134 = .ok (.iload 4, 2) := by decide +kernel
theorem dL_law_1136 : decode cL_law 1136 = .ok (.iconst 1, 1) := by decide +kernel
theorem dL_law_1137 : decode cL_law 1137 = .ok (.iadd, 1) := by decide +kernel
theorem dL_law_1138 : decode cL_law 1138 = .ok (.iaload, 1) := by decide +kernel
theorem dL_law_1139 : decode cL_law 1139 = .ok (.invokevirtual 149, 3) := by decide +kernel
theorem dL_law_1142 : decode cL_law 1142 = .ok (.aload_n 2, 1) := by decide +kernel
theorem dL_law_1143 : decode cL_law 1143 = .ok (.aload_n 0, 1) := by decide +kernel
theorem dL_law_1144 : decode cL_law 1144 = .ok (.iload 4, 2) := by decide +kernel
theorem dL_law_1146 : decode cL_law 1146 = .ok (.iconst 1, 1) := by decide +kernel
theorem dL_law_1147 : decode cL_law 1147 = .ok (.iadd, 1) := by decide +kernel
theorem dL_law_1148 : decode cL_law 1148 = .ok (.iaload, 1) := by decide +kernel
theorem dL_law_1149 : decode cL_law 1149 = .ok (.invokevirtual 152, 3) := by decide +kernel
theorem dL_law_1152 : decode cL_law 1152 = .ok (.if_icmp .eq 30, 3) := by decide +kernel
theorem dL_law_1155 : decode cL_law 1155 = .ok (.iconst 0, 1) := by decide +kernel
theorem dL_law_1156 : decode cL_law 1156 = .ok (.ireturn, 1) := by decide +kernel
theorem dL_law_1157 : decode cL_law 1157 = .ok (.aload_n 1, 1) := by decide +kernel
theorem dL_law_1158 : decode cL_law 1158 = .ok (.aload_n 0, 1) := by decide +kernel
theorem dL_law_1159 : decode cL_law 1159 = .ok (.iload 4, 2) := by decide +kernel
theorem dL_law_1161 : decode cL_law 1161 = .ok (.iconst 1, 1) := by decide +kernel
theorem dL_law_1162 : decode cL_law 1162 = .ok (.iadd, 1) := by decide +kernel
theorem dL_law_1163 : decode cL_law 1163 = .ok (.iaload, 1) := by decide +kernel
theorem dL_law_1164 : decode cL_law 1164 = .ok (.invokevirtual 153, 3) := by decide +kernel
theorem dL_law_1167 : decode cL_law 1167 = .ok (.aload_n 2, 1) := by decide +kernel
theorem dL_law_1168 : decode cL_law 1168 = .ok (.aload_n 0, 1) := by decide +kernel
theorem dL_law_1169 : decode cL_law 1169 = .ok (.iload 4, 2) := by decide +kernel
theorem dL_law_1171 : decode cL_law 1171 = .ok (.iconst 1, 1) := by decide +kernel
theorem dL_law_1172 : decode cL_law 1172 = .ok (.iadd, 1) := by decide +kernel
theorem dL_law_1173 : decode cL_law 1173 = .ok (.iaload, 1) := by decide +kernel
theorem dL_law_1174 : decode cL_law 1174 = .ok (.invokevirtual 156, 3) := by decide +kernel
theorem dL_law_1177 : decode cL_law 1177 = .ok (.if_icmp .eq 5, 3) := by decide +kernel
theorem dL_law_1180 : decode cL_law 1180 = .ok (.iconst 0, 1) := by decide +kernel
theorem dL_law_1181 : decode cL_law 1181 = .ok (.ireturn, 1) := by decide +kernel
theorem dL_law_1182 : decode cL_law 1182 = .ok (.iinc 4 6, 3) := by decide +kernel
theorem dL_law_1185 : decode cL_law 1185 = .ok (.goto (-1162), 3) := by decide +kernel
theorem dL_law_1188 : decode cL_law 1188 = .ok (.iconst 1, 1) := by decide +kernel
theorem dL_law_1189 : decode cL_law 1189 = .ok (.ireturn, 1) := by decide +kernel
