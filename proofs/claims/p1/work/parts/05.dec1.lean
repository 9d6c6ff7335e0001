theorem dX11_isLike_46 : decode cX11_isLike 46 = .ok (.imul, 1) := by decide +kernel
theorem dX11_isLike_47 : decode cX11_isLike 47 = .ok (.aload_n 0, 1) := by decide +kernel
theorem dX11_isLike_48 : decode cX11_isLike 48 = .ok (.getfield 298, 3) := by decide +kernel
theorem dX11_isLike_51 : decode cX11_isLike 51 = .ok (.iadd, 1) := by decide +kernel
theorem dX11_isLike_52 : decode cX11_isLike 52 = .ok (.if_icmp .ne 7, 3) := by decide +kernel
theorem dX11_isLike_55 : decode cX11_isLike 55 = .ok (.iconst 1, 1) := by decide +kernel
theorem dX11_isLike_56 : decode cX11_isLike 56 = .ok (.goto 4, 3) := by decide +kernel
theorem dX11_isLike_59 : decode cX11_isLike 59 = .ok (.iconst 0, 1) := by decide +kernel
theorem dX11_isLike_60 : decode cX11_isLike 60 = .ok (.istore_n 2, 1) := by decide +kernel
theorem dX11_isLike_61 : decode cX11_isLike 61 = .ok (.iinc 3 1, 3) := by decide +kernel
theorem dX11_isLike_64 : decode cX11_isLike 64 = .ok (.goto (-42), 3) := by decide +kernel
theorem dX11_isLike_67 : decode cX11_isLike 67 = .ok (.iload_n 2, 1) := by decide +kernel
theorem dX11_isLike_68 : decode cX11_isLike 68 = .ok (.ireturn, 1) := by decide +kernel
theorem dX11_isSound_0 : decode cX11_isSound 0 = .ok (.aload_n 0, 1) := by decide +kernel
theorem dX11_isSound_1 : decode cX11_isSound 1 = .ok (.getfield 274, 3) := by decide +kernel
theorem dX11_isSound_4 : decode cX11_isSound 4 = .ok (.istore_n 2, 1) := by decide +kernel
theorem dX11_isSound_5 : decode cX11_isSound 5 = .ok (.aload_n 0, 1) := by decide +kernel
theorem dX11_isSound_6 : decode cX11_isSound 6 = .ok (.getfield 277, 3) := by decide +kernel
theorem dX11_isSound_9 : decode cX11_isSound 9 = .ok (.istore_n 3, 1) := by decide +kernel
theorem dX11_isSound_10 : decode cX11_isSound 10 = .ok (.aload_n 0, 1) := by decide +kernel
theorem dX11_isSound_11 : decode cX11_isSound 11 = .ok (.iload_n 1, 1) := by decide +kernel
theorem dX11_isSound_12 : decode cX11_isSound 12 = .ok (.invokevirtual 424, 3) := by decide +kernel
theorem dX11_isSound_15 : decode cX11_isSound 15 = .ok (.aload_n 0, 1) := by decide +kernel
theorem dX11_isSound_16 : decode cX11_isSound 16 = .ok (.iconst 0, 1) := by decide +kernel
theorem dX11_isSound_17 : decode cX11_isSound 17 = .ok (.putfield 274, 3) := by decide +kernel
theorem dX11_isSound_20 : decode cX11_isSound 20 = .ok (.aload_n 0, 1) := by decide +kernel
theorem dX11_isSound_21 : decode cX11_isSound 21 = .ok (.iconst 0, 1) := by decide +kernel
theorem dX11_isSound_22 : decode cX11_isSound 22 = .ok (.putfield 277, 3) := by decide +kernel
theorem dX11_isSound_25 : decode cX11_isSound 25 = .ok (.aload_n 0, 1) := by decide +kernel
theorem dX11_isSound_26 : decode cX11_isSound 26 = .ok (.iload_n 1, 1) := by decide +kernel
theorem dX11_isSound_27 : decode cX11_isSound 27 = .ok (.invokevirtual 433, 3) := by decide +kernel
theorem dX11_isSound_30 : decode cX11_isSound 30 = .ok (.istore 4, 2) := by decide +kernel
theorem dX11_isSound_32 : decode cX11_isSound 32 = .ok (.aload_n 0, 1) := by decide +kernel
theorem dX11_isSound_33 : decode cX11_isSound 33 = .ok (.iload_n 2, 1) := by decide +kernel
theorem dX11_isSound_34 : decode cX11_isSound 34 = .ok (.putfield 274, 3) := by decide +kernel
theorem dX11_isSound_37 : decode cX11_isSound 37 = .ok (.aload_n 0, 1) := by decide +kernel
theorem dX11_isSound_38 : decode cX11_isSound 38 = .ok (.iload_n 3, 1) := by decide +kernel
theorem dX11_isSound_39 : decode cX11_isSound 39 = .ok (.putfield 277, 3) := by decide +kernel
theorem dX11_isSound_42 : decode cX11_isSound 42 = .ok (.aload_n 0, 1) := by decide +kernel
theorem dX11_isSound_43 : decode cX11_isSound 43 = .ok (.iconst 4, 1) := by decide +kernel
theorem dX11_isSound_44 : decode cX11_isSound 44 = .ok (.invokevirtual 361, 3) := by decide +kernel
theorem dX11_isSound_47 : decode cX11_isSound 47 = .ok (.iload 4, 2) := by decide +kernel
theorem dX11_isSound_49 : decode cX11_isSound 49 = .ok (.ireturn, 1) := by decide +kernel
theorem dX11_suspect_0 : decode cX11_suspect 0 = .ok (.aload_n 0, 1) := by decide +kernel
theorem dX11_suspect_1 : decode cX11_suspect 1 = .ok (.iconst 4, 1) := by decide +kernel
theorem dX11_suspect_2 : decode cX11_suspect 2 = .ok (.invokevirtual 358, 3) := by decide +kernel
theorem dX11_suspect_5 : decode cX11_suspect 5 = .ok (.aload_n 0, 1) := by decide +kernel
theorem dX11_suspect_6 : decode cX11_suspect 6 = .ok (.iload_n 1, 1) := by decide +kernel
theorem dX11_suspect_7 : decode cX11_suspect 7 = .ok (.invokevirtual 436, 3) := by decide +kernel
theorem dX11_suspect_10 : decode cX11_suspect 10 = .ok (.ifCond .eq 16, 3) := by decide +kernel
theorem dX11_suspect_13 : decode cX11_suspect 13 = .ok (.aload_n 0, 1) := by decide +kernel
theorem dX11_suspect_14 : decode cX11_suspect 14 = .ok (.iconst 0, 1) := by decide +kernel
theorem dX11_suspect_15 : decode cX11_suspect 15 = .ok (.putfield 427, 3) := by decide +kernel
theorem dX11_suspect_18 : decode cX11_suspect 18 = .ok (.aload_n 0, 1) := by decide +kernel
theorem dX11_suspect_19 : decode cX11_suspect 19 = .ok (.iconst 0, 1) := by decide +kernel
theorem dX11_suspect_20 : decode cX11_suspect 20 = .ok (.putfield 430, 3) := by decide +kernel
theorem dX11_suspect_23 : decode cX11_suspect 23 = .ok (.goto 24, 3) := by decide +kernel
theorem dX11_suspect_26 : decode cX11_suspect 26 = .ok (.aload_n 0, 1) := by decide +kernel
theorem dX11_suspect_27 : decode cX11_suspect 27 = .ok (.iload_n 1, 1) := by decide +kernel
theorem dX11_suspect_28 : decode cX11_suspect 28 = .ok (.iconst 1, 1) := by decide +kernel
theorem dX11_suspect_29 : decode cX11_suspect 29 = .ok (.aload_n 0, 1) := by decide +kernel
theorem dX11_suspect_30 : decode cX11_suspect 30 = .ok (.getfield 265, 3) := by decide +kernel
theorem dX11_suspect_33 : decode cX11_suspect 33 = .ok (.ishl, 1) := by decide +kernel
theorem dX11_suspect_34 : decode cX11_suspect 34 = .ok (.iconst 1, 1) := by decide +kernel
theorem dX11_suspect_35 : decode cX11_suspect 35 = .ok (.isub, 1) := by decide +kernel
theorem dX11_suspect_36 : decode cX11_suspect 36 = .ok (.iconst 1, 1) := by decide +kernel
theorem dX11_suspect_37 : decode cX11_suspect 37 = .ok (.aload_n 0, 1) := by decide +kernel
theorem dX11_suspect_38 : decode cX11_suspect 38 = .ok (.getfield 265, 3) := by decide +kernel
theorem dX11_suspect_41 : decode cX11_suspect 41 = .ok (.ishl, 1) := by decide +kernel
theorem dX11_suspect_42 : decode cX11_suspect 42 = .ok (.iconst 1, 1) := by decide +kernel
theorem dX11_suspect_43 : decode cX11_suspect 43 = .ok (.isub, 1) := by decide +kernel
theorem dX11_suspect_44 : decode cX11_suspect 44 = .ok (.invokevirtual 439, 3) := by decide +kernel
theorem dX11_suspect_47 : decode cX11_suspect 47 = .ok (.return_, 1) := by decide +kernel
theorem dX11_suspects_0 : decode cX11_suspects 0 = .ok (.aload_n 0, 1) := by decide +kernel
theorem dX11_suspects_1 : decode cX11_suspects 1 = .ok (.iconst 0, 1) := by decide +kernel
theorem dX11_suspects_2 : decode cX11_suspects 2 = .ok (.putfield 130, 3) := by decide +kernel
theorem dX11_suspects_5 : decode cX11_suspects 5 = .ok (.iload_n 1, 1) := by decide +kernel
theorem dX11_suspects_6 : decode cX11_suspects 6 = .ok (.iconst 1, 1) := by decide +kernel
theorem dX11_suspects_7 : decode cX11_suspects 7 = .ok (.sipush 500, 3) := by decide +kernel
theorem dX11_suspects_10 : decode cX11_suspects 10 = .ok (.invokestatic 317, 3) := by decide +kernel
theorem dX11_suspects_13 : decode cX11_suspects 13 = .ok (.ifCond .eq 12, 3) := by decide +kernel
theorem dX11_suspects_16 : decode cX11_suspects 16 = .ok (.iload_n 2, 1) := by decide +kernel
theorem dX11_suspects_17 : decode cX11_suspects 17 = .ok (.iconst 0, 1) := by decide +kernel
theorem dX11_suspects_18 : decode cX11_suspects 18 = .ok (.iconst 1, 1) := by decide +kernel
theorem dX11_suspects_19 : decode cX11_suspects 19 = .ok (.invokestatic 317, 3) := by decide +kernel
theorem dX11_suspects_22 : decode cX11_suspects 22 = .ok (.ifCond .ne 5, 3) := by decide +kernel
theorem dX11_suspects_25 : decode cX11_suspects 25 = .ok (.iconst (-1), 1) := by decide +kernel
theorem dX11_suspects_26 : decode cX11_suspects 26 = .ok (.ireturn, 1) := by decide +kernel
theorem dX11_suspects_27 : decode cX11_suspects 27 = .ok (.aload_n 0, 1) := by decide +kernel
theorem dX11_suspects_28 : decode cX11_suspects 28 = .ok (.iload_n 1, 1) := by decide +kernel
theorem dX11_suspects_29 : decode cX11_suspects 29 = .ok (.invokevirtual 442, 3) := by decide +kernel
theorem dX11_suspects_32 : decode cX11_suspects 32 = .ok (.iload_n 2, 1) := by decide +kernel
theorem dX11_suspects_33 : decode cX11_suspects 33 = .ok (.ifCond .ne 10, 3) := by decide +kernel
theorem dX11_suspects_36 : decode cX11_suspects 36 = .ok (.aload_n 0, 1) := by decide +kernel
theorem dX11_suspects_37 : decode cX11_suspects 37 = .ok (.getfield 427, 3) := by decide +kernel
theorem dX11_suspects_40 : decode cX11_suspects 40 = .ok (.goto 7, 3) := by decide +kernel
theorem dX11_suspects_43 : decode cX11_suspects 43 = .ok (.aload_n 0, 1) := by decide +kernel
theorem dX11_suspects_44 : decode cX11_suspects 44 = .ok (.getfield 430, 3) := by decide +kernel
theorem dX11_suspects_47 : decode cX11_suspects 47 = .ok (.ireturn, 1) := by decide +kernel
theorem dX11_manyOf_0 : decode cX11_manyOf 0 = .ok (.iconst 0, 1) := by decide +kernel
theorem dX11_manyOf_1 : decode cX11_manyOf 1 = .ok (.istore_n 1, 1) := by decide +kernel
theorem dX11_manyOf_2 : decode cX11_manyOf 2 = .ok (.iconst 0, 1) := by decide +kernel
theorem dX11_manyOf_3 : decode cX11_manyOf 3 = .ok (.istore_n 2, 1) := by decide +kernel
theorem dX11_manyOf_4 : decode cX11_manyOf 4 = .ok (.iload_n 2, 1) := by decide +kernel
theorem dX11_manyOf_5 : decode cX11_manyOf 5 = .ok (.bipush 20, 2) := by decide +kernel
theorem dX11_manyOf_7 : decode cX11_manyOf 7 = .ok (.if_icmp .ge 17, 3) := by decide +kernel
theorem dX11_manyOf_10 : decode cX11_manyOf 10 = .ok (.iload_n 1, 1) := by decide +kernel
theorem dX11_manyOf_11 : decode cX11_manyOf 11 = .ok (.iload_n 0, 1) := by decide +kernel
theorem dX11_manyOf_12 : decode cX11_manyOf 12 = .ok (.iload_n 2, 1) := by decide +kernel
theorem dX11_manyOf_13 : decode cX11_manyOf 13 = .ok (.ishr, 1) := by decide +kernel
theorem dX11_manyOf_14 : decode cX11_manyOf 14 = .ok (.iconst 1, 1) := by decide +kernel
theorem dX11_manyOf_15 : decode cX11_manyOf 15 = .ok (.iand, 1) := by decide +kernel
theorem dX11_manyOf_16 : decode cX11_manyOf 16 = .ok (.iadd, 1) := by decide +kernel
theorem dX11_manyOf_17 : decode cX11_manyOf 17 = .ok (.istore_n 1, 1) := by decide +kernel
theorem dX11_manyOf_18 : decode cX11_manyOf 18 = .ok (.iinc 2 1, 3) := by decide +kernel
theorem dX11_manyOf_21 : decode cX11_manyOf 21 = .ok (.goto (-17), 3) := by decide +kernel
theorem dX11_manyOf_24 : decode cX11_manyOf 24 = .ok (.iload_n 1, 1) := by decide +kernel
theorem dX11_manyOf_25 : decode cX11_manyOf 25 = .ok (.ireturn, 1) := by decide +kernel
theorem dX11_trial_0 : decode cX11_trial 0 = .ok (.aload_n 0, 1) := by decide +kernel
theorem dX11_trial_1 : decode cX11_trial 1 = .ok (.iconst 0, 1) := by decide +kernel
theorem dX11_trial_2 : decode cX11_trial 2 = .ok (.putfield 130, 3) := by decide +kernel
theorem dX11_trial_5 : decode cX11_trial 5 = .ok (.iload_n 1, 1) := by decide +kernel
theorem dX11_trial_6 : decode cX11_trial 6 = .ok (.iconst 1, 1) := by decide +kernel
theorem dX11_trial_7 : decode cX11_trial 7 = .ok (.sipush 500, 3) := by decide +kernel
theorem dX11_trial_10 : decode cX11_trial 10 = .ok (.invokestatic 317, 3) := by decide +kernel
theorem dX11_trial_13 : decode cX11_trial 13 = .ok (.ifCond .eq 12, 3) := by decide +kernel
theorem dX11_trial_16 : decode cX11_trial 16 = .ok (.iload_n 2, 1) := by decide +kernel
theorem dX11_trial_17 : decode cX11_trial 17 = .ok (.iconst 0, 1) := by decide +kernel
theorem dX11_trial_18 : decode cX11_trial 18 = .ok (.iconst 1, 1) := by decide +kernel
theorem dX11_trial_19 : decode cX11_trial 19 = .ok (.invokestatic 317, 3) := by decide +kernel
theorem dX11_trial_22 : decode cX11_trial 22 = .ok (.ifCond .ne 5, 3) := by decide +kernel
theorem dX11_trial_25 : decode cX11_trial 25 = .ok (.iconst (-1), 1) := by decide +kernel
theorem dX11_trial_26 : decode cX11_trial 26 = .ok (.ireturn, 1) := by decide +kernel
theorem dX11_trial_27 : decode cX11_trial 27 = .ok (.aload_n 0, 1) := by decide +kernel
theorem dX11_trial_28 : decode cX11_trial 28 = .ok (.iload_n 1, 1) := by decide +kernel
theorem dX11_trial_29 : decode cX11_trial 29 = .ok (.invokevirtual 442, 3) := by decide +kernel
theorem dX11_trial_32 : decode cX11_trial 32 = .ok (.aload_n 0, 1) := by decide +kernel
theorem dX11_trial_33 : decode cX11_trial 33 = .ok (.getfield 427, 3) := by decide +kernel
theorem dX11_trial_36 : decode cX11_trial 36 = .ok (.istore_n 3, 1) := by decide +kernel
theorem dX11_trial_37 : decode cX11_trial 37 = .ok (.aload_n 0, 1) := by decide +kernel
theorem dX11_trial_38 : decode cX11_trial 38 = .ok (.getfield 430, 3) := by decide +kernel
theorem dX11_trial_41 : decode cX11_trial 41 = .ok (.istore 4, 2) := by decide +kernel
theorem dX11_trial_43 : decode cX11_trial 43 = .ok (.iload_n 3, 1) := by decide +kernel
theorem dX11_trial_44 : decode cX11_trial 44 = .ok (.invokestatic 445, 3) := by decide +kernel
theorem dX11_trial_47 : decode cX11_trial 47 = .ok (.iload 4, 2) := by decide +kernel
theorem dX11_trial_49 : decode cX11_trial 49 = .ok (.invokestatic 445, 3) := by decide +kernel
theorem dX11_trial_52 : decode cX11_trial 52 = .ok (.iadd, 1) := by decide +kernel
theorem dX11_trial_53 : decode cX11_trial 53 = .ok (.iconst 2, 1) := by decide +kernel
theorem dX11_trial_54 : decode cX11_trial 54 = .ok (.if_icmp .ge 5, 3) := by decide +kernel
theorem dX11_trial_57 : decode cX11_trial 57 = .ok (.iconst (-1), 1) := by decide +kernel
theorem dX11_trial_58 : decode cX11_trial 58 = .ok (.ireturn, 1) := by decide +kernel
theorem dX11_trial_59 : decode cX11_trial 59 = .ok (.iconst (-1), 1) := by decide +kernel
theorem dX11_trial_60 : decode cX11_trial 60 = .ok (.istore 5, 2) := by decide +kernel
theorem dX11_trial_62 : decode cX11_trial 62 = .ok (.iconst 0, 1) := by decide +kernel
theorem dX11_trial_63 : decode cX11_trial 63 = .ok (.istore 6, 2) := by decide +kernel
theorem dX11_trial_65 : decode cX11_trial 65 = .ok (.iconst 0, 1) := by decide +kernel
theorem dX11_trial_66 : decode cX11_trial 66 = .ok (.istore 7, 2) := by decide +kernel
theorem dX11_trial_68 : decode cX11_trial 68 = .ok (.iload 7, 2) := by decide +kernel
theorem dX11_trial_70 : decode cX11_trial 70 = .ok (.aload_n 0, 1) := by decide +kernel
theorem dX11_trial_71 : decode cX11_trial 71 = .ok (.invokevirtual 370, 3) := by decide +kernel
theorem dX11_trial_74 : decode cX11_trial 74 = .ok (.if_icmp .ge 136, 3) := by decide +kernel
theorem dX11_trial_77 : decode cX11_trial 77 = .ok (.aload_n 0, 1) := by decide +kernel
theorem dX11_trial_78 : decode cX11_trial 78 = .ok (.iload 7, 2) := by decide +kernel
theorem dX11_trial_80 : decode cX11_trial 80 = .ok (.invokevirtual 373, 3) := by decide +kernel
theorem dX11_trial_83 : decode cX11_trial 83 = .ok (.iconst 4, 1) := by decide +kernel
theorem dX11_trial_84 : decode cX11_trial 84 = .ok (.idiv, 1) := by decide +kernel
theorem dX11_trial_85 : decode cX11_trial 85 = .ok (.istore 8, 2) := by decide +kernel
theorem dX11_trial_87 : decode cX11_trial 87 = .ok (.aload_n 0, 1) := by decide +kernel
theorem dX11_trial_88 : decode cX11_trial 88 = .ok (.iload 7, 2) := by decide +kernel
theorem dX11_trial_90 : decode cX11_trial 90 = .ok (.invokevirtual 373, 3) := by decide +kernel
theorem dX11_trial_93 : decode cX11_trial 93 = .ok (.iconst 4, 1) := by decide +kernel
theorem dX11_trial_94 : decode cX11_trial 94 = .ok (.irem, 1) := by decide +kernel
theorem dX11_trial_95 : decode cX11_trial 95 = .ok (.istore 9, 2) := by decide +kernel
theorem dX11_trial_97 : decode cX11_trial 97 = .ok (.aload_n 0, 1) := by decide +kernel
theorem dX11_trial_98 : decode cX11_trial 98 = .ok (.iload 8, 2) := by decide +kernel
theorem dX11_trial_100 : decode cX11_trial 100 = .ok (.iload 9, 2) := by decide +kernel
theorem dX11_trial_102 : decode cX11_trial 102 = .ok (.aload_n 0, 1) := by decide +kernel
theorem dX11_trial_103 : decode cX11_trial 103 = .ok (.iload 8, 2) := by decide +kernel
theorem dX11_trial_105 : decode cX11_trial 105 = .ok (.iload 9, 2) := by decide +kernel
theorem dX11_trial_107 : decode cX11_trial 107 = .ok (.invokevirtual 327, 3) := by decide +kernel
theorem dX11_trial_110 : decode cX11_trial 110 = .ok (.ifCond .ne 7, 3) := by decide +kernel
theorem dX11_trial_113 : decode cX11_trial 113 = .ok (.iconst 1, 1) := by decide +kernel
theorem dX11_trial_114 : decode cX11_trial 114 = .ok (.goto 4, 3) := by decide +kernel
theorem dX11_trial_117 : decode cX11_trial 117 = .ok (.iconst 0, 1) := by decide +kernel
theorem dX11_trial_118 : decode cX11_trial 118 = .ok (.invokevirtual 330, 3) := by decide +kernel
theorem dX11_trial_121 : decode cX11_trial 121 = .ok (.aload_n 0, 1) := by decide +kernel
theorem dX11_trial_122 : decode cX11_trial 122 = .ok (.iconst 4, 1) := by decide +kernel
theorem dX11_trial_123 : decode cX11_trial 123 = .ok (.invokevirtual 358, 3) := by decide +kernel
theorem dX11_trial_126 : decode cX11_trial 126 = .ok (.aload_n 0, 1) := by decide +kernel
theorem dX11_trial_127 : decode cX11_trial 127 = .ok (.iload_n 1, 1) := by decide +kernel
theorem dX11_trial_128 : decode cX11_trial 128 = .ok (.iload_n 3, 1) := by decide +kernel
theorem dX11_trial_129 : decode cX11_trial 129 = .ok (.iload 4, 2) := by decide +kernel
theorem dX11_trial_131 : decode cX11_trial 131 = .ok (.invokevirtual 439, 3) := by decide +kernel
theorem dX11_trial_134 : decode cX11_trial 134 = .ok (.aload_n 0, 1) := by decide +kernel
theorem dX11_trial_135 : decode cX11_trial 135 = .ok (.getfield 427, 3) := by decide +kernel
theorem dX11_trial_138 : decode cX11_trial 138 = .ok (.invokestatic 445, 3) := by decide +kernel
theorem dX11_trial_141 : decode cX11_trial 141 = .ok (.aload_n 0, 1) := by decide +kernel
theorem dX11_trial_142 : decode cX11_trial 142 = .ok (.getfield 430, 3) := by decide +kernel
theorem dX11_trial_145 : decode cX11_trial 145 = .ok (.invokestatic 445, 3) := by decide +kernel
theorem dX11_trial_148 : decode cX11_trial 148 = .ok (.iadd, 1) := by decide +kernel
theorem dX11_trial_149 : decode cX11_trial 149 = .ok (.istore 10, 2) := by decide +kernel
theorem dX11_trial_151 : decode cX11_trial 151 = .ok (.aload_n 0, 1) := by decide +kernel
theorem dX11_trial_152 : decode cX11_trial 152 = .ok (.iload 8, 2) := by decide +kernel
theorem dX11_trial_154 : decode cX11_trial 154 = .ok (.iload 9, 2) := by decide +kernel
theorem dX11_trial_156 : decode cX11_trial 156 = .ok (.aload_n 0, 1) := by decide +kernel
theorem dX11_trial_157 : decode cX11_trial 157 = .ok (.iload 8, 2) := by decide +kernel
theorem dX11_trial_159 : decode cX11_trial 159 = .ok (.iload 9, 2) := by decide +kernel
theorem dX11_trial_161 : decode cX11_trial 161 = .ok (.invokevirtual 327, 3) := by decide +kernel
theorem dX11_trial_164 : decode cX11_trial 164 = .ok (.ifCond .ne 7, 3) := by decide +kernel
theorem dX11_trial_167 : decode cX11_trial 167 = .ok (.iconst 1, 1) := by decide +kernel
theorem dX11_trial_168 : decode cX11_trial 168 = .ok (.goto 4, 3) := by decide +kernel
theorem dX11_trial_171 : decode cX11_trial 171 = .ok (.iconst 0, 1) := by decide +kernel
theorem dX11_trial_172 : decode cX11_trial 172 = .ok (.invokevirtual 330, 3) := by decide +kernel
theorem dX11_trial_175 : decode cX11_trial 175 = .ok (.aload_n 0, 1) := by decide +kernel
theorem dX11_trial_176 : decode cX11_trial 176 = .ok (.iconst 4, 1) := by decide +kernel
theorem dX11_trial_177 : decode cX11_trial 177 = .ok (.invokevirtual 358, 3) := by decide +kernel
theorem dX11_trial_180 : decode cX11_trial 180 = .ok (.iload 5, 2) := by decide +kernel
theorem dX11_trial_182 : decode cX11_trial 182 = .ok (.iconst (-1), 1) := by decide +kernel
theorem dX11_trial_183 : decode cX11_trial 183 = .ok (.if_icmp .eq 13, 3) := by decide +kernel
theorem dX11_trial_186 : decode cX11_trial 186 = .ok (.iload 10, 2) := by decide +kernel
theorem dX11_trial_188 : decode cX11_trial 188 = .ok (.iload 6, 2) := by decide +kernel
theorem dX11_trial_190 : decode cX11_trial 190 = .ok (.if_icmp .lt 6, 3) := by decide +kernel
theorem dX11_trial_193 : decode cX11_trial 193 = .ok (.goto 11, 3) := by decide +kernel
theorem dX11_trial_196 : decode cX11_trial 196 = .ok (.iload 7, 2) := by decide +kernel
theorem dX11_trial_198 : decode cX11_trial 198 = .ok (.istore 5, 2) := by decide +kernel
theorem dX11_trial_200 : decode cX11_trial 200 = .ok (.iload 10, 2) := by decide +kernel
theorem dX11_trial_202 : decode cX11_trial 202 = .ok (.istore 6, 2) := by decide +kernel
theorem dX11_trial_204 : decode cX11_trial 204 = .ok (.iinc 7 1, 3) := by decide +kernel
theorem dX11_trial_207 : decode cX11_trial 207 = .ok (.goto (-139), 3) := by decide +kernel
theorem dX11_trial_210 : decode cX11_trial 210 = .ok (.iload_n 2, 1) := by decide +kernel
theorem dX11_trial_211 : decode cX11_trial 211 = .ok (.ifCond .ne 8, 3) := by decide +kernel
theorem dX11_trial_214 : decode cX11_trial 214 = .ok (.iload 5, 2) := by decide +kernel
theorem dX11_trial_216 : decode cX11_trial 216 = .ok (.goto 5, 3) := by decide +kernel
theorem dX11_trial_219 : decode cX11_trial 219 = .ok (.iload 6, 2) := by decide +kernel
theorem dX11_trial_221 : decode cX11_trial 221 = .ok (.ireturn, 1) := by decide +kernel
theorem dX11_count_0 : decode cX11_count 0 = .ok (.aload_n 0, 1) := by decide +kernel
theorem dX11_count_1 : decode cX11_count 1 = .ok (.iconst 0, 1) := by decide +kernel
theorem dX11_count_2 : decode cX11_count 2 = .ok (.putfield 130, 3) := by decide +kernel
theorem dX11_count_5 : decode cX11_count 5 = .ok (.iconst 0, 1) := by decide +kernel
theorem dX11_count_6 : decode cX11_count 6 = .ok (.istore_n 2, 1) := by decide +kernel
theorem dX11_count_7 : decode cX11_count 7 = .ok (.iload_n 1, 1) := by decide +kernel
theorem dX11_count_8 : decode cX11_count 8 = .ok (.tableswitch 148 0 6 #[44, 49, 54, 59, 64, 111, 116], 44) := by decide +kernel
theorem dX11_count_52 : decode cX11_count 52 = .ok (.aload_n 0, 1) := by decide +kernel
theorem dX11_count_53 : decode cX11_count 53 = .ok (.invokevirtual 289, 3) := by decide +kernel
theorem dX11_count_56 : decode cX11_count 56 = .ok (.ireturn, 1) := by decide +kernel
theorem dX11_count_57 : decode cX11_count 57 = .ok (.aload_n 0, 1) := by decide +kernel
theorem dX11_count_58 : decode cX11_count 58 = .ok (.getfield 203, 3) := by decide +kernel
theorem dX11_count_61 : decode cX11_count 61 = .ok (.ireturn, 1) := by decide +kernel
theorem dX11_count_62 : decode cX11_count 62 = .ok (.aload_n 0, 1) := by decide +kernel
theorem dX11_count_63 : decode cX11_count 63 = .ok (.getfield 265, 3) := by decide +kernel
theorem dX11_count_66 : decode cX11_count 66 = .ok (.ireturn, 1) := by decide +kernel
theorem dX11_count_67 : decode cX11_count 67 = .ok (.aload_n 0, 1) := by decide +kernel
theorem dX11_count_68 : decode cX11_count 68 = .ok (.getfield 268, 3) := by decide +kernel
theorem dX11_count_71 : decode cX11_count 71 = .ok (.ireturn, 1) := by decide +kernel
theorem dX11_count_72 : decode cX11_count 72 = .ok (.iconst 0, 1) := by decide +kernel
theorem dX11_count_73 : decode cX11_count 73 = .ok (.istore_n 3, 1) := by decide +kernel
theorem dX11_count_74 : decode cX11_count 74 = .ok (.iload_n 3, 1) := by decide +kernel
theorem dX11_count_75 : decode cX11_count 75 = .ok (.aload_n 0, 1) := by decide +kernel
theorem dX11_count_76 : decode cX11_count 76 = .ok (.invokevirtual 370, 3) := by decide +kernel
theorem dX11_count_79 : decode cX11_count 79 = .ok (.if_icmp .ge 38, 3) := by decide +kernel
theorem dX11_count_82 : decode cX11_count 82 = .ok (.iload_n 2, 1) := by decide +kernel
theorem dX11_count_83 : decode cX11_count 83 = .ok (.aload_n 0, 1) := by decide +kernel
theorem dX11_count_84 : decode cX11_count 84 = .ok (.aload_n 0, 1) := by decide +kernel
theorem dX11_count_85 : decode cX11_count 85 = .ok (.iload_n 3, 1) := by decide +kernel
theorem dX11_count_86 : decode cX11_count 86 = .ok (.invokevirtual 373, 3) := by decide +kernel
theorem dX11_count_89 : decode cX11_count 89 = .ok (.iconst 4, 1) := by decide +kernel
theorem dX11_count_90 : decode cX11_count 90 = .ok (.idiv, 1) := by decide +kernel
theorem dX11_count_91 : decode cX11_count 91 = .ok (.aload_n 0, 1) := by decide +kernel
theorem dX11_count_92 : decode cX11_count 92 = .ok (.iload_n 3, 1) := by decide +kernel
theorem dX11_count_93 : decode cX11_count 93 = .ok (.invokevirtual 373, 3) := by decide +kernel
theorem dX11_count_96 : decode cX11_count 96 = .ok (.iconst 4, 1) := by decide +kernel
theorem dX11_count_97 : decode cX11_count 97 = .ok (.irem, 1) := by decide +kernel
theorem dX11_count_98 : decode cX11_count 98 = .ok (.invokevirtual 327, 3) := by decide +kernel
theorem dX11_count_101 : decode cX11_count 101 = .ok (.ifCond .eq 7, 3) := by decide +kernel
theorem dX11_count_104 : decode cX11_count 104 = .ok (.iconst 1, 1) := by decide +kernel
theorem dX11_count_105 : decode cX11_count 105 = .ok (.goto 4, 3) := by decide +kernel
theorem dX11_count_108 : decode cX11_count 108 = .ok (.iconst 0, 1) := by decide +kernel
theorem dX11_count_109 : decode cX11_count 109 = .ok (.iadd, 1) := by decide +kernel
theorem dX11_count_110 : decode cX11_count 110 = .ok (.istore_n 2, 1) := by decide +kernel
theorem dX11_count_111 : decode cX11_count 111 = .ok (.iinc 3 1, 3) := by decide +kernel
theorem dX11_count_114 : decode cX11_count 114 = .ok (.goto (-40), 3) := by decide +kernel
theorem dX11_count_117 : decode cX11_count 117 = .ok (.iload_n 2, 1) := by decide +kernel
theorem dX11_count_118 : decode cX11_count 118 = .ok (.ireturn, 1) := by decide +kernel
theorem dX11_count_119 : decode cX11_count 119 = .ok (.aload_n 0, 1) := by decide +kernel
theorem dX11_count_120 : decode cX11_count 120 = .ok (.getfield 292, 3) := by decide +kernel
theorem dX11_count_123 : decode cX11_count 123 = .ok (.ireturn, 1) := by decide +kernel
theorem dX11_count_124 : decode cX11_count 124 = .ok (.iconst 0, 1) := by decide +kernel
theorem dX11_count_125 : decode cX11_count 125 = .ok (.istore_n 3, 1) := by decide +kernel
theorem dX11_count_126 : decode cX11_count 126 = .ok (.iload_n 3, 1) := by decide +kernel
theorem dX11_count_127 : decode cX11_count 127 = .ok (.iconst 4, 1) := by decide +kernel
theorem dX11_count_128 : decode cX11_count 128 = .ok (.if_icmp .ge 26, 3) := by decide +kernel
theorem dX11_count_131 : decode cX11_count 131 = .ok (.iload_n 2, 1) := by decide +kernel
theorem dX11_count_132 : decode cX11_count 132 = .ok (.aload_n 0, 1) := by decide +kernel
theorem dX11_count_133 : decode cX11_count 133 = .ok (.getfield 90, 3) := by decide +kernel
theorem dX11_count_136 : decode cX11_count 136 = .ok (.iload_n 3, 1) := by decide +kernel
theorem dX11_count_137 : decode cX11_count 137 = .ok (.baload, 1) := by decide +kernel
theorem dX11_count_138 : decode cX11_count 138 = .ok (.ifCond .eq 7, 3) := by decide +kernel
theorem dX11_count_141 : decode cX11_count 141 = .ok (.iconst 1, 1) := by decide +kernel
theorem dX11_count_142 : decode cX11_count 142 = .ok (.goto 4, 3) := by decide +kernel
theorem dX11_count_145 : decode cX11_count 145 = .ok (.iconst 0, 1) := by decide +kernel
theorem dX11_count_146 : decode cX11_count 146 = .ok (.iadd, 1) := by decide +kernel
theorem dX11_count_147 : decode cX11_count 147 = .ok (.istore_n 2, 1) := by decide +kernel
theorem dX11_count_148 : decode cX11_count 148 = .ok (.iinc 3 1, 3) := by decide +kernel
theorem dX11_count_151 : decode cX11_count 151 = .ok (.goto (-25), 3) := by decide +kernel
theorem dX11_count_154 : decode cX11_count 154 = .ok (.iload_n 2, 1) := by decide +kernel
theorem dX11_count_155 : decode cX11_count 155 = .ok (.ireturn, 1) := by decide +kernel
theorem dX11_count_156 : decode cX11_count 156 = .ok (.iconst (-1), 1) := by decide +kernel
theorem dX11_count_157 : decode cX11_count 157 = .ok (.ireturn, 1) := by decide +kernel
theorem dX1_clearWalls_0 : decode cX1_clearWalls 0 = .ok (.iconst 0, 1) := by decide +kernel
theorem dX1_clearWalls_1 : decode cX1_clearWalls 1 = .ok (.istore_n 1, 1) := by decide +kernel
theorem dX1_clearWalls_2 : decode cX1_clearWalls 2 = .ok (.iload_n 1, 1) := by decide +kernel
theorem dX1_clearWalls_3 : decode cX1_clearWalls 3 = .ok (.iconst 4, 1) := by decide +kernel
theorem dX1_clearWalls_4 : decode cX1_clearWalls 4 = .ok (.if_icmp .ge 21, 3) := by decide +kernel
theorem dX1_clearWalls_7 : decode cX1_clearWalls 7 = .ok (.aload_n 0, 1) := by decide +kernel
theorem dX1_clearWalls_8 : decode cX1_clearWalls 8 = .ok (.getfield 11, 3) := by decide +kernel
theorem dX1_clearWalls_11 : decode cX1_clearWalls 11 = .ok (.iload_n 1, 1) := by decide +kernel
theorem dX1_clearWalls_12 : decode cX1_clearWalls 12 = .ok (.aload_n 0, 1) := by decide +kernel
theorem dX1_clearWalls_13 : decode cX1_clearWalls 13 = .ok (.getfield 19, 3) := by decide +kernel
theorem dX1_clearWalls_16 : decode cX1_clearWalls 16 = .ok (.iload_n 1, 1) := by decide +kernel
theorem dX1_clearWalls_17 : decode cX1_clearWalls 17 = .ok (.laload, 1) := by decide +kernel
theorem dX1_clearWalls_18 : decode cX1_clearWalls 18 = .ok (.lastore, 1) := by decide +kernel
theorem dX1_clearWalls_19 : decode cX1_clearWalls 19 = .ok (.iinc 1 1, 3) := by decide +kernel
theorem dX1_clearWalls_22 : decode cX1_clearWalls 22 = .ok (.goto (-20), 3) := by decide +kernel
theorem dX1_clearWalls_25 : decode cX1_clearWalls 25 = .ok (.return_, 1) := by decide +kernel
theorem dX1_lay_0 : decode cX1_lay 0 = .ok (.aload_n 0, 1) := by decide +kernel
theorem dX1_lay_1 : decode cX1_lay 1 = .ok (.iload_n 1, 1) := by decide +kernel
theorem dX1_lay_2 : decode cX1_lay 2 = .ok (.putfield 26, 3) := by decide +kernel
theorem dX1_lay_5 : decode cX1_lay 5 = .ok (.aload_n 0, 1) := by decide +kernel
theorem dX1_lay_6 : decode cX1_lay 6 = .ok (.iload_n 2, 1) := by decide +kernel
theorem dX1_lay_7 : decode cX1_lay 7 = .ok (.putfield 30, 3) := by decide +kernel
theorem dX1_lay_10 : decode cX1_lay 10 = .ok (.aload_n 0, 1) := by decide +kernel
theorem dX1_lay_11 : decode cX1_lay 11 = .ok (.iload_n 1, 1) := by decide +kernel
theorem dX1_lay_12 : decode cX1_lay 12 = .ok (.iload_n 2, 1) := by decide +kernel
theorem dX1_lay_13 : decode cX1_lay 13 = .ok (.imul, 1) := by decide +kernel
theorem dX1_lay_14 : decode cX1_lay 14 = .ok (.putfield 33, 3) := by decide +kernel
theorem dX1_lay_17 : decode cX1_lay 17 = .ok (.aload_n 0, 1) := by decide +kernel
theorem dX1_lay_18 : decode cX1_lay 18 = .ok (.aload_n 0, 1) := by decide +kernel
theorem dX1_lay_19 : decode cX1_lay 19 = .ok (.getfield 33, 3) := by decide +kernel
theorem dX1_lay_22 : decode cX1_lay 22 = .ok (.iconst 1, 1) := by decide +kernel
theorem dX1_lay_23 : decode cX1_lay 23 = .ok (.isub, 1) := by decide +kernel
theorem dX1_lay_24 : decode cX1_lay 24 = .ok (.putfield 36, 3) := by decide +kernel
theorem dX1_lay_27 : decode cX1_lay 27 = .ok (.lconst 0, 1) := by decide +kernel
theorem dX1_lay_28 : decode cX1_lay 28 = .ok (.lstore_n 3, 1) := by decide +kernel
theorem dX1_lay_29 : decode cX1_lay 29 = .ok (.iconst 0, 1) := by decide +kernel
theorem dX1_lay_30 : decode cX1_lay 30 = .ok (.istore 5, 2) := by decide +kernel
theorem dX1_lay_32 : decode cX1_lay 32 = .ok (.iload 5, 2) := by decide +kernel
theorem dX1_lay_34 : decode cX1_lay 34 = .ok (.iload_n 2, 1) := by decide +kernel
theorem dX1_lay_35 : decode cX1_lay 35 = .ok (.if_icmp .ge 18, 3) := by decide +kernel
theorem dX1_lay_38 : decode cX1_lay 38 = .ok (.lload_n 3, 1) := by decide +kernel
theorem dX1_lay_39 : decode cX1_lay 39 = .ok (.lconst 1, 1) := by decide +kernel
theorem dX1_lay_40 : decode cX1_lay 40 = .ok (.iload 5, 2) := by decide +kernel
theorem dX1_lay_42 : decode cX1_lay 42 = .ok (.iload_n 1, 1) := by decide +kernel
theorem dX1_lay_43 : decode cX1_lay 43 = .ok (.imul, 1) := by decide +kernel
theorem dX1_lay_44 : decode cX1_lay 44 = .ok (.lshl, 1) := by decide +kernel
theorem dX1_lay_45 : decode cX1_lay 45 = .ok (.lor, 1) := by decide +kernel
theorem dX1_lay_46 : decode cX1_lay 46 = .ok (.lstore_n 3, 1) := by decide +kernel
theorem dX1_lay_47 : decode cX1_lay 47 = .ok (.iinc 5 1, 3) := by decide +kernel
theorem dX1_lay_50 : decode cX1_lay 50 = .ok (.goto (-18), 3) := by decide +kernel
theorem dX1_lay_53 : decode cX1_lay 53 = .ok (.aload_n 0, 1) := by decide +kernel
theorem dX1_lay_54 : decode cX1_lay 54 = .ok (.getfield 19, 3) := by decide +kernel
theorem dX1_lay_57 : decode cX1_lay 57 = .ok (.iconst 0, 1) := by decide +kernel
theorem dX1_lay_58 : decode cX1_lay 58 = .ok (.lconst 1, 1) := by decide +kernel
theorem dX1_lay_59 : decode cX1_lay 59 = .ok (.iload_n 1, 1) := by decide +kernel
theorem dX1_lay_60 : decode cX1_lay 60 = .ok (.lshl, 1) := by decide +kernel
theorem dX1_lay_61 : decode cX1_lay 61 = .ok (.lconst 1, 1) := by decide +kernel
theorem dX1_lay_62 : decode cX1_lay 62 = .ok (.lsub, 1) := by decide +kernel
theorem dX1_lay_63 : decode cX1_lay 63 = .ok (.lastore, 1) := by decide +kernel
theorem dX1_lay_64 : decode cX1_lay 64 = .ok (.aload_n 0, 1) := by decide +kernel
theorem dX1_lay_65 : decode cX1_lay 65 = .ok (.getfield 19, 3) := by decide +kernel
theorem dX1_lay_68 : decode cX1_lay 68 = .ok (.iconst 1, 1) := by decide +kernel
theorem dX1_lay_69 : decode cX1_lay 69 = .ok (.lload_n 3, 1) := by decide +kernel
theorem dX1_lay_70 : decode cX1_lay 70 = .ok (.iload_n 1, 1) := by decide +kernel
theorem dX1_lay_71 : decode cX1_lay 71 = .ok (.iconst 1, 1) := by decide +kernel
theorem dX1_lay_72 : decode cX1_lay 72 = .ok (.isub, 1) := by decide +kernel
theorem dX1_lay_73 : decode cX1_lay 73 = .ok (.lshl, 1) := by decide +kernel
theorem dX1_lay_74 : decode cX1_lay 74 = .ok (.lastore, 1) := by decide +kernel
theorem dX1_lay_75 : decode cX1_lay 75 = .ok (.aload_n 0, 1) := by decide +kernel
theorem dX1_lay_76 : decode cX1_lay 76 = .ok (.getfield 19, 3) := by decide +kernel
theorem dX1_lay_79 : decode cX1_lay 79 = .ok (.iconst 2, 1) := by decide +kernel
theorem dX1_lay_80 : decode cX1_lay 80 = .ok (.aload_n 0, 1) := by decide +kernel
theorem dX1_lay_81 : decode cX1_lay 81 = .ok (.getfield 19, 3) := by decide +kernel
theorem dX1_lay_84 : decode cX1_lay 84 = .ok (.iconst 0, 1) := by decide +kernel
theorem dX1_lay_85 : decode cX1_lay 85 = .ok (.laload, 1) := by decide +kernel
theorem dX1_lay_86 : decode cX1_lay 86 = .ok (.aload_n 0, 1) := by decide +kernel
theorem dX1_lay_87 : decode cX1_lay 87 = .ok (.getfield 33, 3) := by decide +kernel
theorem dX1_lay_90 : decode cX1_lay 90 = .ok (.iload_n 1, 1) := by decide +kernel
theorem dX1_lay_91 : decode cX1_lay 91 = .ok (.isub, 1) := by decide +kernel
theorem dX1_lay_92 : decode cX1_lay 92 = .ok (.lshl, 1) := by decide +kernel
theorem dX1_lay_93 : decode cX1_lay 93 = .ok (.lastore, 1) := by decide +kernel
theorem dX1_lay_94 : decode cX1_lay 94 = .ok (.aload_n 0, 1) := by decide +kernel
theorem dX1_lay_95 : decode cX1_lay 95 = .ok (.getfield 19, 3) := by decide +kernel
theorem dX1_lay_98 : decode cX1_lay 98 = .ok (.iconst 3, 1) := by decide +kernel
theorem dX1_lay_99 : decode cX1_lay 99 = .ok (.lload_n 3, 1) := by decide +kernel
theorem dX1_lay_100 : decode cX1_lay 100 = .ok (.lastore, 1) := by decide +kernel
theorem dX1_lay_101 : decode cX1_lay 101 = .ok (.aload_n 0, 1) := by decide +kernel
theorem dX1_lay_102 : decode cX1_lay 102 = .ok (.getfield 15, 3) := by decide +kernel
theorem dX1_lay_105 : decode cX1_lay 105 = .ok (.iconst 0, 1) := by decide +kernel
theorem dX1_lay_106 : decode cX1_lay 106 = .ok (.iload_n 1, 1) := by decide +kernel
theorem dX1_lay_107 : decode cX1_lay 107 = .ok (.ineg, 1) := by decide +kernel
theorem dX1_lay_108 : decode cX1_lay 108 = .ok (.iastore, 1) := by decide +kernel
theorem dX1_lay_109 : decode cX1_lay 109 = .ok (.aload_n 0, 1) := by decide +kernel
theorem dX1_lay_110 : decode cX1_lay 110 = .ok (.getfield 15, 3) := by decide +kernel
theorem dX1_lay_113 : decode cX1_lay 113 = .ok (.iconst 1, 1) := by decide +kernel
theorem dX1_lay_114 : decode cX1_lay 114 = .ok (.iconst 1, 1) := by decide +kernel
theorem dX1_lay_115 : decode cX1_lay 115 = .ok (.iastore, 1) := by decide +kernel
theorem dX1_lay_116 : decode cX1_lay 116 = .ok (.aload_n 0, 1) := by decide +kernel
theorem dX1_lay_117 : decode cX1_lay 117 = .ok (.getfield 15, 3) := by decide +kernel
theorem dX1_lay_120 : decode cX1_lay 120 = .ok (.iconst 2, 1) := by decide +kernel
theorem dX1_lay_121 : decode cX1_lay 121 = .ok (.iload_n 1, 1) := by decide +kernel
theorem dX1_lay_122 : decode cX1_lay 122 = .ok (.iastore, 1) := by decide +kernel
theorem dX1_lay_123 : decode cX1_lay 123 = .ok (.aload_n 0, 1) := by decide +kernel
theorem dX1_lay_124 : decode cX1_lay 124 = .ok (.getfield 15, 3) := by decide +kernel
theorem dX1_lay_127 : decode cX1_lay 127 = .ok (.iconst 3, 1) := by decide +kernel
theorem dX1_lay_128 : decode cX1_lay 128 = .ok (.iconst (-1), 1) := by decide +kernel
theorem dX1_lay_129 : decode cX1_lay 129 = .ok (.iastore, 1) := by decide +kernel
theorem dX1_lay_130 : decode cX1_lay 130 = .ok (.aload_n 0, 1) := by decide +kernel
theorem dX1_lay_131 : decode cX1_lay 131 = .ok (.invokevirtual 39, 3) := by decide +kernel
theorem dX1_lay_134 : decode cX1_lay 134 = .ok (.return_, 1) := by decide +kernel
theorem dX9_hasRoomFor_0 : decode cX9_hasRoomFor 0 = .ok (.aload_n 0, 1) := by decide +kernel
theorem dX9_hasRoomFor_1 : decode cX9_hasRoomFor 1 = .ok (.getfield 34, 3) := by decide +kernel
theorem dX9_hasRoomFor_4 : decode cX9_hasRoomFor 4 = .ok (.iload_n 1, 1) := by decide +kernel
theorem dX9_hasRoomFor_5 : decode cX9_hasRoomFor 5 = .ok (.iadd, 1) := by decide +kernel
theorem dX9_hasRoomFor_6 : decode cX9_hasRoomFor 6 = .ok (.sipush 500, 3) := by decide +kernel
theorem dX9_hasRoomFor_9 : decode cX9_hasRoomFor 9 = .ok (.if_icmp .gt 7, 3) := by decide +kernel
theorem dX9_hasRoomFor_12 : decode cX9_hasRoomFor 12 = .ok (.iconst 1, 1) := by decide +kernel
theorem dX9_hasRoomFor_13 : decode cX9_hasRoomFor 13 = .ok (.goto 4, 3) := by decide +kernel
theorem dX9_hasRoomFor_16 : decode cX9_hasRoomFor 16 = .ok (.iconst 0, 1) := by decide +kernel
theorem dX9_hasRoomFor_17 : decode cX9_hasRoomFor 17 = .ok (.ireturn, 1) := by decide +kernel
theorem dX9_append_0 : decode cX9_append 0 = .ok (.bipush 24, 2) := by decide +kernel
theorem dX9_append_2 : decode cX9_append 2 = .ok (.istore_n 2, 1) := by decide +kernel
theorem dX9_append_3 : decode cX9_append 3 = .ok (.iload_n 2, 1) := by decide +kernel
theorem dX9_append_4 : decode cX9_append 4 = .ok (.ifCond .lt 45, 3) := by decide +kernel
theorem dX9_append_7 : decode cX9_append 7 = .ok (.aload_n 0, 1) := by decide +kernel
theorem dX9_append_8 : decode cX9_append 8 = .ok (.getfield 34, 3) := by decide +kernel
theorem dX9_append_11 : decode cX9_append 11 = .ok (.sipush 500, 3) := by decide +kernel
theorem dX9_append_14 : decode cX9_append 14 = .ok (.if_icmp .ge 35, 3) := by decide +kernel
theorem dX9_append_17 : decode cX9_append 17 = .ok (.aload_n 0, 1) := by decide +kernel
theorem dX9_append_18 : decode cX9_append 18 = .ok (.getfield 18, 3) := by decide +kernel
theorem dX9_append_21 : decode cX9_append 21 = .ok (.aload_n 0, 1) := by decide +kernel
theorem dX9_append_22 : decode cX9_append 22 = .ok (.getfield 34, 3) := by decide +kernel
theorem dX9_append_25 : decode cX9_append 25 = .ok (.iload_n 1, 1) := by decide +kernel
theorem dX9_append_26 : decode cX9_append 26 = .ok (.iload_n 2, 1) := by decide +kernel
theorem dX9_append_27 : decode cX9_append 27 = .ok (.iushr, 1) := by decide +kernel
theorem dX9_append_28 : decode cX9_append 28 = .ok (.sipush 255, 3) := by decide +kernel
theorem dX9_append_31 : decode cX9_append 31 = .ok (.iand, 1) := by decide +kernel
theorem dX9_append_32 : decode cX9_append 32 = .ok (.iastore, 1) := by decide +kernel
theorem dX9_append_33 : decode cX9_append 33 = .ok (.aload_n 0, 1) := by decide +kernel
theorem dX9_append_34 : decode cX9_append 34 = .ok (.dup, 1) := by decide +kernel
theorem dX9_append_35 : decode cX9_append 35 = .ok (.getfield 34, 3) := by decide +kernel
theorem dX9_append_38 : decode cX9_append 38 = .ok (.iconst 1, 1) := by decide +kernel
theorem dX9_append_39 : decode cX9_append 39 = .ok (.iadd, 1) := by decide +kernel
theorem dX9_append_40 : decode cX9_append 40 = .ok (.putfield 34, 3) := by decide +kernel
theorem dX9_append_43 : decode cX9_append 43 = .ok (.iinc 2 (-8), 3) := by decide +kernel
theorem dX9_append_46 : decode cX9_append 46 = .ok (.goto (-43), 3) := by decide +kernel
theorem dX9_append_49 : decode cX9_append 49 = .ok (.return_, 1) := by decide +kernel
theorem dX10_feed_0 : decode cX10_feed 0 = .ok (.aload_n 0, 1) := by decide +kernel
theorem dX10_feed_1 : decode cX10_feed 1 = .ok (.getfield 10, 3) := by decide +kernel
theorem dX10_feed_4 : decode cX10_feed 4 = .ok (.bipush 20, 2) := by decide +kernel
theorem dX10_feed_6 : decode cX10_feed 6 = .ok (.invokevirtual 96, 3) := by decide +kernel
theorem dX10_feed_9 : decode cX10_feed 9 = .ok (.ifCond .ne 5, 3) := by decide +kernel
theorem dX10_feed_12 : decode cX10_feed 12 = .ok (.iconst (-1), 1) := by decide +kernel
theorem dX10_feed_13 : decode cX10_feed 13 = .ok (.ireturn, 1) := by decide +kernel
theorem dX10_feed_14 : decode cX10_feed 14 = .ok (.aload_n 0, 1) := by decide +kernel
theorem dX10_feed_15 : decode cX10_feed 15 = .ok (.getfield 10, 3) := by decide +kernel
theorem dX10_feed_18 : decode cX10_feed 18 = .ok (.iload_n 1, 1) := by decide +kernel
theorem dX10_feed_19 : decode cX10_feed 19 = .ok (.invokevirtual 100, 3) := by decide +kernel
theorem dX10_feed_22 : decode cX10_feed 22 = .ok (.aload_n 0, 1) := by decide +kernel
theorem dX10_feed_23 : decode cX10_feed 23 = .ok (.getfield 10, 3) := by decide +kernel
theorem dX10_feed_26 : decode cX10_feed 26 = .ok (.iload_n 2, 1) := by decide +kernel
theorem dX10_feed_27 : decode cX10_feed 27 = .ok (.invokevirtual 100, 3) := by decide +kernel
theorem dX10_feed_30 : decode cX10_feed 30 = .ok (.aload_n 0, 1) := by decide +kernel
theorem dX10_feed_31 : decode cX10_feed 31 = .ok (.getfield 10, 3) := by decide +kernel
theorem dX10_feed_34 : decode cX10_feed 34 = .ok (.iload_n 3, 1) := by decide +kernel
theorem dX10_feed_35 : decode cX10_feed 35 = .ok (.invokevirtual 100, 3) := by decide +kernel
theorem dX10_feed_38 : decode cX10_feed 38 = .ok (.aload_n 0, 1) := by decide +kernel
theorem dX10_feed_39 : decode cX10_feed 39 = .ok (.getfield 10, 3) := by decide +kernel
theorem dX10_feed_42 : decode cX10_feed 42 = .ok (.iload 4, 2) := by decide +kernel
theorem dX10_feed_44 : decode cX10_feed 44 = .ok (.invokevirtual 100, 3) := by decide +kernel
theorem dX10_feed_47 : decode cX10_feed 47 = .ok (.aload_n 0, 1) := by decide +kernel
theorem dX10_feed_48 : decode cX10_feed 48 = .ok (.getfield 10, 3) := by decide +kernel
theorem dX10_feed_51 : decode cX10_feed 51 = .ok (.iload 5, 2) := by decide +kernel
theorem dX10_feed_53 : decode cX10_feed 53 = .ok (.invokevirtual 100, 3) := by decide +kernel
theorem dX10_feed_56 : decode cX10_feed 56 = .ok (.aload_n 0, 1) := by decide +kernel
theorem dX10_feed_57 : decode cX10_feed 57 = .ok (.getfield 10, 3) := by decide +kernel
theorem dX10_feed_60 : decode cX10_feed 60 = .ok (.getfield 104, 3) := by decide +kernel
theorem dX10_feed_63 : decode cX10_feed 63 = .ok (.ireturn, 1) := by decide +kernel
theorem dX9_advance_0 : decode cX9_advance 0 = .ok (.aload_n 0, 1) := by decide +kernel
theorem dX9_advance_1 : decode cX9_advance 1 = .ok (.getfield 46, 3) := by decide +kernel
theorem dX9_advance_4 : decode cX9_advance 4 = .ok (.ifCond .lt 79, 3) := by decide +kernel
theorem dX9_advance_7 : decode cX9_advance 7 = .ok (.aload_n 0, 1) := by decide +kernel
theorem dX9_advance_8 : decode cX9_advance 8 = .ok (.getfield 46, 3) := by decide +kernel
theorem dX9_advance_11 : decode cX9_advance 11 = .ok (.aload_n 0, 1) := by decide +kernel
theorem dX9_advance_12 : decode cX9_advance 12 = .ok (.getfield 43, 3) := by decide +kernel
theorem dX9_advance_15 : decode cX9_advance 15 = .ok (.if_icmp .ge 68, 3) := by decide +kernel
theorem dX9_advance_18 : decode cX9_advance 18 = .ok (.aload_n 0, 1) := by decide +kernel
theorem dX9_advance_19 : decode cX9_advance 19 = .ok (.aload_n 0, 1) := by decide +kernel
theorem dX9_advance_20 : decode cX9_advance 20 = .ok (.getfield 22, 3) := by decide +kernel
theorem dX9_advance_23 : decode cX9_advance 23 = .ok (.aload_n 0, 1) := by decide +kernel
theorem dX9_advance_24 : decode cX9_advance 24 = .ok (.getfield 46, 3) := by decide +kernel
theorem dX9_advance_27 : decode cX9_advance 27 = .ok (.iaload, 1) := by decide +kernel
theorem dX9_advance_28 : decode cX9_advance 28 = .ok (.putfield 59, 3) := by decide +kernel
theorem dX9_advance_31 : decode cX9_advance 31 = .ok (.aload_n 0, 1) := by decide +kernel
theorem dX9_advance_32 : decode cX9_advance 32 = .ok (.aload_n 0, 1) := by decide +kernel
theorem dX9_advance_33 : decode cX9_advance 33 = .ok (.getfield 25, 3) := by decide +kernel
theorem dX9_advance_36 : decode cX9_advance 36 = .ok (.aload_n 0, 1) := by decide +kernel
theorem dX9_advance_37 : decode cX9_advance 37 = .ok (.getfield 46, 3) := by decide +kernel
theorem dX9_advance_40 : decode cX9_advance 40 = .ok (.iaload, 1) := by decide +kernel
theorem dX9_advance_41 : decode cX9_advance 41 = .ok (.putfield 65, 3) := by decide +kernel
theorem dX9_advance_44 : decode cX9_advance 44 = .ok (.aload_n 0, 1) := by decide +kernel
theorem dX9_advance_45 : decode cX9_advance 45 = .ok (.aload_n 0, 1) := by decide +kernel
theorem dX9_advance_46 : decode cX9_advance 46 = .ok (.getfield 28, 3) := by decide +kernel
theorem dX9_advance_49 : decode cX9_advance 49 = .ok (.aload_n 0, 1) := by decide +kernel
theorem dX9_advance_50 : decode cX9_advance 50 = .ok (.getfield 46, 3) := by decide +kernel
theorem dX9_advance_53 : decode cX9_advance 53 = .ok (.iaload, 1) := by decide +kernel
theorem dX9_advance_54 : decode cX9_advance 54 = .ok (.putfield 62, 3) := by decide +kernel
theorem dX9_advance_57 : decode cX9_advance 57 = .ok (.aload_n 0, 1) := by decide +kernel
theorem dX9_advance_58 : decode cX9_advance 58 = .ok (.aload_n 0, 1) := by decide +kernel
theorem dX9_advance_59 : decode cX9_advance 59 = .ok (.getfield 31, 3) := by decide +kernel
theorem dX9_advance_62 : decode cX9_advance 62 = .ok (.aload_n 0, 1) := by decide +kernel
theorem dX9_advance_63 : decode cX9_advance 63 = .ok (.getfield 46, 3) := by decide +kernel
theorem dX9_advance_66 : decode cX9_advance 66 = .ok (.iaload, 1) := by decide +kernel
theorem dX9_advance_67 : decode cX9_advance 67 = .ok (.putfield 15, 3) := by decide +kernel
theorem dX9_advance_70 : decode cX9_advance 70 = .ok (.aload_n 0, 1) := by decide +kernel
theorem dX9_advance_71 : decode cX9_advance 71 = .ok (.dup, 1) := by decide +kernel
theorem dX9_advance_72 : decode cX9_advance 72 = .ok (.getfield 46, 3) := by decide +kernel
theorem dX9_advance_75 : decode cX9_advance 75 = .ok (.iconst 1, 1) := by decide +kernel
theorem dX9_advance_76 : decode cX9_advance 76 = .ok (.iadd, 1) := by decide +kernel
theorem dX9_advance_77 : decode cX9_advance 77 = .ok (.putfield 46, 3) := by decide +kernel
theorem dX9_advance_80 : decode cX9_advance 80 = .ok (.goto 26, 3) := by decide +kernel
theorem dX9_advance_83 : decode cX9_advance 83 = .ok (.aload_n 0, 1) := by decide +kernel
theorem dX9_advance_84 : decode cX9_advance 84 = .ok (.iconst 0, 1) := by decide +kernel
theorem dX9_advance_85 : decode cX9_advance 85 = .ok (.putfield 59, 3) := by decide +kernel
theorem dX9_advance_88 : decode cX9_advance 88 = .ok (.aload_n 0, 1) := by decide +kernel
theorem dX9_advance_89 : decode cX9_advance 89 = .ok (.aload_n 0, 1) := by decide +kernel
theorem dX9_advance_90 : decode cX9_advance 90 = .ok (.getfield 37, 3) := by decide +kernel
theorem dX9_advance_93 : decode cX9_advance 93 = .ok (.putfield 65, 3) := by decide +kernel
theorem dX9_advance_96 : decode cX9_advance 96 = .ok (.aload_n 0, 1) := by decide +kernel
theorem dX9_advance_97 : decode cX9_advance 97 = .ok (.iconst 0, 1) := by decide +kernel
theorem dX9_advance_98 : decode cX9_advance 98 = .ok (.putfield 62, 3) := by decide +kernel
theorem dX9_advance_101 : decode cX9_advance 101 = .ok (.aload_n 0, 1) := by decide +kernel
theorem dX9_advance_102 : decode cX9_advance 102 = .ok (.iconst (-1), 1) := by decide +kernel
theorem dX9_advance_103 : decode cX9_advance 103 = .ok (.putfield 15, 3) := by decide +kernel
theorem dX9_advance_106 : decode cX9_advance 106 = .ok (.return_, 1) := by decide +kernel
theorem dX9_open_0 : decode cX9_open 0 = .ok (.aload_n 0, 1) := by decide +kernel
theorem dX9_open_1 : decode cX9_open 1 = .ok (.iload_n 1, 1) := by decide +kernel
theorem dX9_open_2 : decode cX9_open 2 = .ok (.putfield 37, 3) := by decide +kernel
theorem dX9_open_5 : decode cX9_open 5 = .ok (.aload_n 0, 1) := by decide +kernel
theorem dX9_open_6 : decode cX9_open 6 = .ok (.iconst 0, 1) := by decide +kernel
theorem dX9_open_7 : decode cX9_open 7 = .ok (.putfield 40, 3) := by decide +kernel
theorem dX9_open_10 : decode cX9_open 10 = .ok (.aload_n 0, 1) := by decide +kernel
theorem dX9_open_11 : decode cX9_open 11 = .ok (.iconst 0, 1) := by decide +kernel
theorem dX9_open_12 : decode cX9_open 12 = .ok (.putfield 43, 3) := by decide +kernel
theorem dX9_open_15 : decode cX9_open 15 = .ok (.aload_n 0, 1) := by decide +kernel
theorem dX9_open_16 : decode cX9_open 16 = .ok (.iconst 0, 1) := by decide +kernel
theorem dX9_open_17 : decode cX9_open 17 = .ok (.putfield 46, 3) := by decide +kernel
theorem dX9_open_20 : decode cX9_open 20 = .ok (.aload_n 0, 1) := by decide +kernel
theorem dX9_open_21 : decode cX9_open 21 = .ok (.iconst 0, 1) := by decide +kernel
theorem dX9_open_22 : decode cX9_open 22 = .ok (.putfield 34, 3) := by decide +kernel
theorem dX9_open_25 : decode cX9_open 25 = .ok (.aload_n 0, 1) := by decide +kernel
theorem dX9_open_26 : decode cX9_open 26 = .ok (.iconst 0, 1) := by decide +kernel
theorem dX9_open_27 : decode cX9_open 27 = .ok (.putfield 49, 3) := by decide +kernel
theorem dX9_open_30 : decode cX9_open 30 = .ok (.aload_n 0, 1) := by decide +kernel
theorem dX9_open_31 : decode cX9_open 31 = .ok (.iconst (-1), 1) := by decide +kernel
theorem dX9_open_32 : decode cX9_open 32 = .ok (.putfield 9, 3) := by decide +kernel
theorem dX9_open_35 : decode cX9_open 35 = .ok (.iconst 0, 1) := by decide +kernel
theorem dX9_open_36 : decode cX9_open 36 = .ok (.istore_n 3, 1) := by decide +kernel
theorem dX9_open_37 : decode cX9_open 37 = .ok (.iload_n 3, 1) := by decide +kernel
theorem dX9_open_38 : decode cX9_open 38 = .ok (.sipush 500, 3) := by decide +kernel
theorem dX9_open_41 : decode cX9_open 41 = .ok (.if_icmp .ge 25, 3) := by decide +kernel
theorem dX9_open_44 : decode cX9_open 44 = .ok (.aload_n 0, 1) := by decide +kernel
theorem dX9_open_45 : decode cX9_open 45 = .ok (.getfield 40, 3) := by decide +kernel
theorem dX9_open_48 : decode cX9_open 48 = .ok (.aload_n 0, 1) := by decide +kernel
theorem dX9_open_49 : decode cX9_open 49 = .ok (.getfield 37, 3) := by decide +kernel
theorem dX9_open_52 : decode cX9_open 52 = .ok (.if_icmp .ge 14, 3) := by decide +kernel
theorem dX9_open_55 : decode cX9_open 55 = .ok (.aload_n 0, 1) := by decide +kernel
theorem dX9_open_56 : decode cX9_open 56 = .ok (.aload_n 2, 1) := by decide +kernel
theorem dX9_open_57 : decode cX9_open 57 = .ok (.invokevirtual 52, 3) := by decide +kernel
theorem dX9_open_60 : decode cX9_open 60 = .ok (.iinc 3 1, 3) := by decide +kernel
theorem dX9_open_63 : decode cX9_open 63 = .ok (.goto (-26), 3) := by decide +kernel
theorem dX9_open_66 : decode cX9_open 66 = .ok (.aload_n 0, 1) := by decide +kernel
theorem dX9_open_67 : decode cX9_open 67 = .ok (.invokevirtual 56, 3) := by decide +kernel
theorem dX9_open_70 : decode cX9_open 70 = .ok (.return_, 1) := by decide +kernel
theorem dX7_read_0 : decode cX7_read 0 = .ok (.aload_n 0, 1) := by decide +kernel
theorem dX7_read_1 : decode cX7_read 1 = .ok (.getfield 18, 3) := by decide +kernel
theorem dX7_read_4 : decode cX7_read 4 = .ok (.iconst 0, 1) := by decide +kernel
theorem dX7_read_5 : decode cX7_read 5 = .ok (.putfield 26, 3) := by decide +kernel
theorem dX7_read_8 : decode cX7_read 8 = .ok (.aload_n 0, 1) := by decide +kernel
theorem dX7_read_9 : decode cX7_read 9 = .ok (.getfield 22, 3) := by decide +kernel
theorem dX7_read_12 : decode cX7_read 12 = .ok (.iload_n 1, 1) := by decide +kernel
theorem dX7_read_13 : decode cX7_read 13 = .ok (.ldc 30, 2) := by decide +kernel
theorem dX7_read_15 : decode cX7_read 15 = .ok (.invokevirtual 32, 3) := by decide +kernel
theorem dX7_read_18 : decode cX7_read 18 = .ok (.iconst 0, 1) := by decide +kernel
theorem dX7_read_19 : decode cX7_read 19 = .ok (.istore_n 2, 1) := by decide +kernel
theorem dX7_read_20 : decode cX7_read 20 = .ok (.iload_n 2, 1) := by decide +kernel
theorem dX7_read_21 : decode cX7_read 21 = .ok (.bipush 30, 2) := by decide +kernel
theorem dX7_read_23 : decode cX7_read 23 = .ok (.if_icmp .gt 33, 3) := by decide +kernel
theorem dX7_read_26 : decode cX7_read 26 = .ok (.aload_n 0, 1) := by decide +kernel
theorem dX7_read_27 : decode cX7_read 27 = .ok (.getfield 22, 3) := by decide +kernel
theorem dX7_read_30 : decode cX7_read 30 = .ok (.getfield 38, 3) := by decide +kernel
theorem dX7_read_33 : decode cX7_read 33 = .ok (.ifCond .ne 23, 3) := by decide +kernel
theorem dX7_read_36 : decode cX7_read 36 = .ok (.aload_n 0, 1) := by decide +kernel
theorem dX7_read_37 : decode cX7_read 37 = .ok (.getfield 22, 3) := by decide +kernel
theorem dX7_read_40 : decode cX7_read 40 = .ok (.getfield 41, 3) := by decide +kernel
theorem dX7_read_43 : decode cX7_read 43 = .ok (.ifCond .eq 13, 3) := by decide +kernel
theorem dX7_read_46 : decode cX7_read 46 = .ok (.aload_n 0, 1) := by decide +kernel
theorem dX7_read_47 : decode cX7_read 47 = .ok (.invokevirtual 44, 3) := by decide +kernel
theorem dX7_read_50 : decode cX7_read 50 = .ok (.iinc 2 1, 3) := by decide +kernel
theorem dX7_read_53 : decode cX7_read 53 = .ok (.goto (-33), 3) := by decide +kernel
theorem dX7_read_56 : decode cX7_read 56 = .ok (.aload_n 0, 1) := by decide +kernel
theorem dX7_read_57 : decode cX7_read 57 = .ok (.getfield 22, 3) := by decide +kernel
theorem dX7_read_60 : decode cX7_read 60 = .ok (.getfield 38, 3) := by decide +kernel
theorem dX7_read_63 : decode cX7_read 63 = .ok (.ifCond .ne 7, 3) := by decide +kernel
theorem dX7_read_66 : decode cX7_read 66 = .ok (.iconst 1, 1) := by decide +kernel
theorem dX7_read_67 : decode cX7_read 67 = .ok (.goto 4, 3) := by decide +kernel
theorem dX7_read_70 : decode cX7_read 70 = .ok (.iconst 0, 1) := by decide +kernel
theorem dX7_read_71 : decode cX7_read 71 = .ok (.ireturn, 1) := by decide +kernel
theorem dX7_exchange_0 : decode cX7_exchange 0 = .ok (.aload_n 0, 1) := by decide +kernel
theorem dX7_exchange_1 : decode cX7_exchange 1 = .ok (.getfield 18, 3) := by decide +kernel
theorem dX7_exchange_4 : decode cX7_exchange 4 = .ok (.astore_n 2, 1) := by decide +kernel
theorem dX7_exchange_5 : decode cX7_exchange 5 = .ok (.aload_n 0, 1) := by decide +kernel
theorem dX7_exchange_6 : decode cX7_exchange 6 = .ok (.aload_n 1, 1) := by decide +kernel
theorem dX7_exchange_7 : decode cX7_exchange 7 = .ok (.putfield 18, 3) := by decide +kernel
theorem dX7_exchange_10 : decode cX7_exchange 10 = .ok (.aload_n 2, 1) := by decide +kernel
theorem dX7_exchange_11 : decode cX7_exchange 11 = .ok (.areturn, 1) := by decide +kernel
theorem dX8_forget_0 : decode cX8_forget 0 = .ok (.aload_n 0, 1) := by decide +kernel
theorem dX8_forget_1 : decode cX8_forget 1 = .ok (.iconst 0, 1) := by decide +kernel
theorem dX8_forget_2 : decode cX8_forget 2 = .ok (.putfield 48, 3) := by decide +kernel
theorem dX8_forget_5 : decode cX8_forget 5 = .ok (.aload_n 0, 1) := by decide +kernel
theorem dX8_forget_6 : decode cX8_forget 6 = .ok (.iconst 0, 1) := by decide +kernel
theorem dX8_forget_7 : decode cX8_forget 7 = .ok (.putfield 52, 3) := by decide +kernel
theorem dX8_forget_10 : decode cX8_forget 10 = .ok (.return_, 1) := by decide +kernel
theorem dX10_rules_0 : decode cX10_rules 0 = .ok (.iload_n 1, 1) := by decide +kernel
theorem dX10_rules_1 : decode cX10_rules 1 = .ok (.ifCond .lt 14, 3) := by decide +kernel
theorem dX10_rules_4 : decode cX10_rules 4 = .ok (.iload_n 1, 1) := by decide +kernel
theorem dX10_rules_5 : decode cX10_rules 5 = .ok (.aload_n 0, 1) := by decide +kernel
theorem dX10_rules_6 : decode cX10_rules 6 = .ok (.getfield 10, 3) := by decide +kernel
theorem dX10_rules_9 : decode cX10_rules 9 = .ok (.getfield 104, 3) := by decide +kernel
theorem dX10_rules_12 : decode cX10_rules 12 = .ok (.if_icmp .le 6, 3) := by decide +kernel
theorem dX10_rules_15 : decode cX10_rules 15 = .ok (.bipush (-2), 2) := by decide +kernel
theorem dX10_rules_17 : decode cX10_rules 17 = .ok (.ireturn, 1) := by decide +kernel
theorem dX10_rules_18 : decode cX10_rules 18 = .ok (.aload_n 0, 1) := by decide +kernel
theorem dX10_rules_19 : decode cX10_rules 19 = .ok (.getfield 21, 3) := by decide +kernel
theorem dX10_rules_22 : decode cX10_rules 22 = .ok (.iload_n 1, 1) := by decide +kernel
theorem dX10_rules_23 : decode cX10_rules 23 = .ok (.invokevirtual 108, 3) := by decide +kernel
theorem dX10_rules_26 : decode cX10_rules 26 = .ok (.ifCond .ne 5, 3) := by decide +kernel
theorem dX10_rules_29 : decode cX10_rules 29 = .ok (.iconst (-1), 1) := by decide +kernel
theorem dX10_rules_30 : decode cX10_rules 30 = .ok (.ireturn, 1) := by decide +kernel
theorem dX10_rules_31 : decode cX10_rules 31 = .ok (.aload_n 0, 1) := by decide +kernel
theorem dX10_rules_32 : decode cX10_rules 32 = .ok (.aload_n 0, 1) := by decide +kernel
theorem dX10_rules_33 : decode cX10_rules 33 = .ok (.getfield 21, 3) := by decide +kernel
theorem dX10_rules_36 : decode cX10_rules 36 = .ok (.aload_n 0, 1) := by decide +kernel
theorem dX10_rules_37 : decode cX10_rules 37 = .ok (.getfield 35, 3) := by decide +kernel
theorem dX10_rules_40 : decode cX10_rules 40 = .ok (.invokevirtual 111, 3) := by decide +kernel
theorem dX10_rules_43 : decode cX10_rules 43 = .ok (.putfield 35, 3) := by decide +kernel
theorem dX10_rules_46 : decode cX10_rules 46 = .ok (.aload_n 0, 1) := by decide +kernel
theorem dX10_rules_47 : decode cX10_rules 47 = .ok (.getfield 56, 3) := by decide +kernel
theorem dX10_rules_50 : decode cX10_rules 50 = .ok (.iconst (-1), 1) := by decide +kernel
theorem dX10_rules_51 : decode cX10_rules 51 = .ok (.putfield 115, 3) := by decide +kernel
theorem dX10_rules_54 : decode cX10_rules 54 = .ok (.aload_n 0, 1) := by decide +kernel
theorem dX10_rules_55 : decode cX10_rules 55 = .ok (.getfield 85, 3) := by decide +kernel
theorem dX10_rules_58 : decode cX10_rules 58 = .ok (.invokevirtual 118, 3) := by decide +kernel
theorem dX10_rules_61 : decode cX10_rules 61 = .ok (.aload_n 0, 1) := by decide +kernel
theorem dX10_rules_62 : decode cX10_rules 62 = .ok (.getfield 35, 3) := by decide +kernel
theorem dX10_rules_65 : decode cX10_rules 65 = .ok (.getfield 121, 3) := by decide +kernel
theorem dX10_rules_68 : decode cX10_rules 68 = .ok (.ireturn, 1) := by decide +kernel
theorem dX4_clear_0 : decode cX4_clear 0 = .ok (.aload_n 0, 1) := by decide +kernel
theorem dX4_clear_1 : decode cX4_clear 1 = .ok (.iconst 0, 1) := by decide +kernel
theorem dX4_clear_2 : decode cX4_clear 2 = .ok (.putfield 19, 3) := by decide +kernel
theorem dX4_clear_5 : decode cX4_clear 5 = .ok (.aload_n 0, 1) := by decide +kernel
theorem dX4_clear_6 : decode cX4_clear 6 = .ok (.iconst 0, 1) := by decide +kernel
theorem dX4_clear_7 : decode cX4_clear 7 = .ok (.putfield 23, 3) := by decide +kernel
theorem dX4_clear_10 : decode cX4_clear 10 = .ok (.aload_n 0, 1) := by decide +kernel
theorem dX4_clear_11 : decode cX4_clear 11 = .ok (.iconst 0, 1) := by decide +kernel
theorem dX4_clear_12 : decode cX4_clear 12 = .ok (.putfield 26, 3) := by decide +kernel
theorem dX4_clear_15 : decode cX4_clear 15 = .ok (.iconst 0, 1) := by decide +kernel
theorem dX4_clear_16 : decode cX4_clear 16 = .ok (.istore_n 1, 1) := by decide +kernel
theorem dX4_clear_17 : decode cX4_clear 17 = .ok (.iload_n 1, 1) := by decide +kernel
theorem dX4_clear_18 : decode cX4_clear 18 = .ok (.aload_n 0, 1) := by decide +kernel
theorem dX4_clear_19 : decode cX4_clear 19 = .ok (.getfield 13, 3) := by decide +kernel
theorem dX4_clear_22 : decode cX4_clear 22 = .ok (.arraylength, 1) := by decide +kernel
theorem dX4_clear_23 : decode cX4_clear 23 = .ok (.if_icmp .ge 32, 3) := by decide +kernel
theorem dX4_clear_26 : decode cX4_clear 26 = .ok (.iload_n 1, 1) := by decide +kernel
theorem dX4_clear_27 : decode cX4_clear 27 = .ok (.aload_n 0, 1) := by decide +kernel
theorem dX4_clear_28 : decode cX4_clear 28 = .ok (.getfield 16, 3) := by decide +kernel
theorem dX4_clear_31 : decode cX4_clear 31 = .ok (.arraylength, 1) := by decide +kernel
theorem dX4_clear_32 : decode cX4_clear 32 = .ok (.if_icmp .ge 23, 3) := by decide +kernel
theorem dX4_clear_35 : decode cX4_clear 35 = .ok (.aload_n 0, 1) := by decide +kernel
theorem dX4_clear_36 : decode cX4_clear 36 = .ok (.getfield 13, 3) := by decide +kernel
theorem dX4_clear_39 : decode cX4_clear 39 = .ok (.iload_n 1, 1) := by decide +kernel
theorem dX4_clear_40 : decode cX4_clear 40 = .ok (.iconst 0, 1) := by decide +kernel
theorem dX4_clear_41 : decode cX4_clear 41 = .ok (.iastore, 1) := by decide +kernel
theorem dX4_clear_42 : decode cX4_clear 42 = .ok (.aload_n 0, 1) := by decide +kernel
theorem dX4_clear_43 : decode cX4_clear 43 = .ok (.getfield 16, 3) := by decide +kernel
theorem dX4_clear_46 : decode cX4_clear 46 = .ok (.iload_n 1, 1) := by decide +kernel
theorem dX4_clear_47 : decode cX4_clear 47 = .ok (.iconst 0, 1) := by decide +kernel
theorem dX4_clear_48 : decode cX4_clear 48 = .ok (.iastore, 1) := by decide +kernel
theorem dX4_clear_49 : decode cX4_clear 49 = .ok (.iinc 1 1, 3) := by decide +kernel
theorem dX4_clear_52 : decode cX4_clear 52 = .ok (.goto (-35), 3) := by decide +kernel
theorem dX4_clear_55 : decode cX4_clear 55 = .ok (.return_, 1) := by decide +kernel
theorem dX4_placeOfOutput_0 : decode cX4_placeOfOutput 0 = .ok (.bipush 20, 2) := by decide +kernel
theorem dX4_placeOfOutput_2 : decode cX4_placeOfOutput 2 = .ok (.iload_n 0, 1) := by decide +kernel
theorem dX4_placeOfOutput_3 : decode cX4_placeOfOutput 3 = .ok (.iadd, 1) := by decide +kernel
theorem dX4_placeOfOutput_4 : decode cX4_placeOfOutput 4 = .ok (.iconst 1, 1) := by decide +kernel
theorem dX4_placeOfOutput_5 : decode cX4_placeOfOutput 5 = .ok (.isub, 1) := by decide +kernel
theorem dX4_placeOfOutput_6 : decode cX4_placeOfOutput 6 = .ok (.ireturn, 1) := by decide +kernel
theorem dX5_findNames_0 : decode cX5_findNames 0 = .ok (.iconst 0, 1) := by decide +kernel
theorem dX5_findNames_1 : decode cX5_findNames 1 = .ok (.istore_n 1, 1) := by decide +kernel
theorem dX5_findNames_2 : decode cX5_findNames 2 = .ok (.iload_n 1, 1) := by decide +kernel
theorem dX5_findNames_3 : decode cX5_findNames 3 = .ok (.aload_n 0, 1) := by decide +kernel
theorem dX5_findNames_4 : decode cX5_findNames 4 = .ok (.getfield 27, 3) := by decide +kernel
theorem dX5_findNames_7 : decode cX5_findNames 7 = .ok (.getfield 86, 3) := by decide +kernel
theorem dX5_findNames_10 : decode cX5_findNames 10 = .ok (.if_icmp .ge 76, 3) := by decide +kernel
theorem dX5_findNames_13 : decode cX5_findNames 13 = .ok (.aload_n 0, 1) := by decide +kernel
theorem dX5_findNames_14 : decode cX5_findNames 14 = .ok (.getfield 31, 3) := by decide +kernel
theorem dX5_findNames_17 : decode cX5_findNames 17 = .ok (.getfield 53, 3) := by decide +kernel
theorem dX5_findNames_20 : decode cX5_findNames 20 = .ok (.ifCond .ne 66, 3) := by decide +kernel
theorem dX5_findNames_23 : decode cX5_findNames 23 = .ok (.aload_n 0, 1) := by decide +kernel
theorem dX5_findNames_24 : decode cX5_findNames 24 = .ok (.getfield 27, 3) := by decide +kernel
theorem dX5_findNames_27 : decode cX5_findNames 27 = .ok (.getfield 154, 3) := by decide +kernel
theorem dX5_findNames_30 : decode cX5_findNames 30 = .ok (.iload_n 1, 1) := by decide +kernel
theorem dX5_findNames_31 : decode cX5_findNames 31 = .ok (.iaload, 1) := by decide +kernel
theorem dX5_findNames_32 : decode cX5_findNames 32 = .ok (.bipush 28, 2) := by decide +kernel
theorem dX5_findNames_34 : decode cX5_findNames 34 = .ok (.if_icmp .ne 46, 3) := by decide +kernel
theorem dX5_findNames_37 : decode cX5_findNames 37 = .ok (.aload_n 0, 1) := by decide +kernel
theorem dX5_findNames_38 : decode cX5_findNames 38 = .ok (.aload_n 0, 1) := by decide +kernel
theorem dX5_findNames_39 : decode cX5_findNames 39 = .ok (.getfield 17, 3) := by decide +kernel
theorem dX5_findNames_42 : decode cX5_findNames 42 = .ok (.iload_n 1, 1) := by decide +kernel
theorem dX5_findNames_43 : decode cX5_findNames 43 = .ok (.iaload, 1) := by decide +kernel
theorem dX5_findNames_44 : decode cX5_findNames 44 = .ok (.invokevirtual 115, 3) := by decide +kernel
theorem dX5_findNames_47 : decode cX5_findNames 47 = .ok (.istore_n 2, 1) := by decide +kernel
theorem dX5_findNames_48 : decode cX5_findNames 48 = .ok (.iload_n 2, 1) := by decide +kernel
theorem dX5_findNames_49 : decode cX5_findNames 49 = .ok (.iconst (-1), 1) := by decide +kernel
theorem dX5_findNames_50 : decode cX5_findNames 50 = .ok (.if_icmp .ne 20, 3) := by decide +kernel
theorem dX5_findNames_53 : decode cX5_findNames 53 = .ok (.aload_n 0, 1) := by decide +kernel
theorem dX5_findNames_54 : decode cX5_findNames 54 = .ok (.getfield 31, 3) := by decide +kernel
theorem dX5_findNames_57 : decode cX5_findNames 57 = .ok (.iconst 4, 1) := by decide +kernel
theorem dX5_findNames_58 : decode cX5_findNames 58 = .ok (.aload_n 0, 1) := by decide +kernel
theorem dX5_findNames_59 : decode cX5_findNames 59 = .ok (.getfield 20, 3) := by decide +kernel
theorem dX5_findNames_62 : decode cX5_findNames 62 = .ok (.iload_n 1, 1) := by decide +kernel
theorem dX5_findNames_63 : decode cX5_findNames 63 = .ok (.iaload, 1) := by decide +kernel
theorem dX5_findNames_64 : decode cX5_findNames 64 = .ok (.invokevirtual 82, 3) := by decide +kernel
theorem dX5_findNames_67 : decode cX5_findNames 67 = .ok (.goto 13, 3) := by decide +kernel
theorem dX5_findNames_70 : decode cX5_findNames 70 = .ok (.aload_n 0, 1) := by decide +kernel
theorem dX5_findNames_71 : decode cX5_findNames 71 = .ok (.getfield 27, 3) := by decide +kernel
theorem dX5_findNames_74 : decode cX5_findNames 74 = .ok (.getfield 154, 3) := by decide +kernel
theorem dX5_findNames_77 : decode cX5_findNames 77 = .ok (.iload_n 1, 1) := by decide +kernel
theorem dX5_findNames_78 : decode cX5_findNames 78 = .ok (.iload_n 2, 1) := by decide +kernel
theorem dX5_findNames_79 : decode cX5_findNames 79 = .ok (.iastore, 1) := by decide +kernel
theorem dX5_findNames_80 : decode cX5_findNames 80 = .ok (.iinc 1 1, 3) := by decide +kernel
theorem dX5_findNames_83 : decode cX5_findNames 83 = .ok (.goto (-81), 3) := by decide +kernel
theorem dX5_findNames_86 : decode cX5_findNames 86 = .ok (.return_, 1) := by decide +kernel
theorem dX5_read_0 : decode cX5_read 0 = .ok (.aload_n 0, 1) := by decide +kernel
theorem dX5_read_1 : decode cX5_read 1 = .ok (.getfield 27, 3) := by decide +kernel
theorem dX5_read_4 : decode cX5_read 4 = .ok (.invokevirtual 35, 3) := by decide +kernel
theorem dX5_read_7 : decode cX5_read 7 = .ok (.aload_n 0, 1) := by decide +kernel
theorem dX5_read_8 : decode cX5_read 8 = .ok (.iconst 0, 1) := by decide +kernel
theorem dX5_read_9 : decode cX5_read 9 = .ok (.putfield 38, 3) := by decide +kernel
theorem dX5_read_12 : decode cX5_read 12 = .ok (.aload_n 0, 1) := by decide +kernel
theorem dX5_read_13 : decode cX5_read 13 = .ok (.iconst 0, 1) := by decide +kernel
theorem dX5_read_14 : decode cX5_read 14 = .ok (.putfield 42, 3) := by decide +kernel
theorem dX5_read_17 : decode cX5_read 17 = .ok (.aload_n 0, 1) := by decide +kernel
theorem dX5_read_18 : decode cX5_read 18 = .ok (.getfield 31, 3) := by decide +kernel
theorem dX5_read_21 : decode cX5_read 21 = .ok (.iload_n 1, 1) := by decide +kernel
theorem dX5_read_22 : decode cX5_read 22 = .ok (.ldc 45, 2) := by decide +kernel
theorem dX5_read_24 : decode cX5_read 24 = .ok (.invokevirtual 47, 3) := by decide +kernel
theorem dX5_read_27 : decode cX5_read 27 = .ok (.iconst 0, 1) := by decide +kernel
theorem dX5_read_28 : decode cX5_read 28 = .ok (.istore_n 2, 1) := by decide +kernel
theorem dX5_read_29 : decode cX5_read 29 = .ok (.iload_n 2, 1) := by decide +kernel
theorem dX5_read_30 : decode cX5_read 30 = .ok (.sipush 500, 3) := by decide +kernel
theorem dX5_read_33 : decode cX5_read 33 = .ok (.if_icmp .gt 33, 3) := by decide +kernel
theorem dX5_read_36 : decode cX5_read 36 = .ok (.aload_n 0, 1) := by decide +kernel
theorem dX5_read_37 : decode cX5_read 37 = .ok (.getfield 31, 3) := by decide +kernel
theorem dX5_read_40 : decode cX5_read 40 = .ok (.getfield 53, 3) := by decide +kernel
theorem dX5_read_43 : decode cX5_read 43 = .ok (.ifCond .ne 23, 3) := by decide +kernel
theorem dX5_read_46 : decode cX5_read 46 = .ok (.aload_n 0, 1) := by decide +kernel
theorem dX5_read_47 : decode cX5_read 47 = .ok (.getfield 31, 3) := by decide +kernel
theorem dX5_read_50 : decode cX5_read 50 = .ok (.getfield 56, 3) := by decide +kernel
theorem dX5_read_53 : decode cX5_read 53 = .ok (.ifCond .eq 13, 3) := by decide +kernel
theorem dX5_read_56 : decode cX5_read 56 = .ok (.aload_n 0, 1) := by decide +kernel
theorem dX5_read_57 : decode cX5_read 57 = .ok (.invokevirtual 59, 3) := by decide +kernel
theorem dX5_read_60 : decode cX5_read 60 = .ok (.iinc 2 1, 3) := by decide +kernel
theorem dX5_read_63 : decode cX5_read 63 = .ok (.goto (-34), 3) := by decide +kernel
theorem dX5_read_66 : decode cX5_read 66 = .ok (.aload_n 0, 1) := by decide +kernel
theorem dX5_read_67 : decode cX5_read 67 = .ok (.getfield 31, 3) := by decide +kernel
theorem dX5_read_70 : decode cX5_read 70 = .ok (.getfield 53, 3) := by decide +kernel
theorem dX5_read_73 : decode cX5_read 73 = .ok (.ifCond .ne 7, 3) := by decide +kernel
theorem dX5_read_76 : decode cX5_read 76 = .ok (.aload_n 0, 1) := by decide +kernel
theorem dX5_read_77 : decode cX5_read 77 = .ok (.invokevirtual 62, 3) := by decide +kernel
theorem dX5_read_80 : decode cX5_read 80 = .ok (.aload_n 0, 1) := by decide +kernel
theorem dX5_read_81 : decode cX5_read 81 = .ok (.getfield 31, 3) := by decide +kernel
theorem dX5_read_84 : decode cX5_read 84 = .ok (.getfield 53, 3) := by decide +kernel
theorem dX5_read_87 : decode cX5_read 87 = .ok (.ifCond .ne 7, 3) := by decide +kernel
theorem dX5_read_90 : decode cX5_read 90 = .ok (.iconst 1, 1) := by decide +kernel
theorem dX5_read_91 : decode cX5_read 91 = .ok (.goto 4, 3) := by decide +kernel
theorem dX5_read_94 : decode cX5_read 94 = .ok (.iconst 0, 1) := by decide +kernel
theorem dX5_read_95 : decode cX5_read 95 = .ok (.ireturn, 1) := by decide +kernel
theorem dX5_exchange_0 : decode cX5_exchange 0 = .ok (.aload_n 0, 1) := by decide +kernel
theorem dX5_exchange_1 : decode cX5_exchange 1 = .ok (.getfield 27, 3) := by decide +kernel
theorem dX5_exchange_4 : decode cX5_exchange 4 = .ok (.astore_n 2, 1) := by decide +kernel
theorem dX5_exchange_5 : decode cX5_exchange 5 = .ok (.aload_n 0, 1) := by decide +kernel
theorem dX5_exchange_6 : decode cX5_exchange 6 = .ok (.aload_n 1, 1) := by decide +kernel
theorem dX5_exchange_7 : decode cX5_exchange 7 = .ok (.putfield 27, 3) := by decide +kernel
theorem dX5_exchange_10 : decode cX5_exchange 10 = .ok (.aload_n 2, 1) := by decide +kernel
theorem dX5_exchange_11 : decode cX5_exchange 11 = .ok (.areturn, 1) := by decide +kernel
theorem dX0_renew_0 : decode cX0_renew 0 = .ok (.aload_n 0, 1) := by decide +kernel
theorem dX0_renew_1 : decode cX0_renew 1 = .ok (.iconst 0, 1) := by decide +kernel
theorem dX0_renew_2 : decode cX0_renew 2 = .ok (.putfield 9, 3) := by decide +kernel
theorem dX0_renew_5 : decode cX0_renew 5 = .ok (.aload_n 0, 1) := by decide +kernel
theorem dX0_renew_6 : decode cX0_renew 6 = .ok (.iconst 0, 1) := by decide +kernel
theorem dX0_renew_7 : decode cX0_renew 7 = .ok (.putfield 15, 3) := by decide +kernel
theorem dX0_renew_10 : decode cX0_renew 10 = .ok (.aload_n 0, 1) := by decide +kernel
theorem dX0_renew_11 : decode cX0_renew 11 = .ok (.iconst 0, 1) := by decide +kernel
theorem dX0_renew_12 : decode cX0_renew 12 = .ok (.putfield 18, 3) := by decide +kernel
theorem dX0_renew_15 : decode cX0_renew 15 = .ok (.aload_n 0, 1) := by decide +kernel
theorem dX0_renew_16 : decode cX0_renew 16 = .ok (.iconst 0, 1) := by decide +kernel
theorem dX0_renew_17 : decode cX0_renew 17 = .ok (.putfield 21, 3) := by decide +kernel
theorem dX0_renew_20 : decode cX0_renew 20 = .ok (.return_, 1) := by decide +kernel
theorem dX10_net_0 : decode cX10_net 0 = .ok (.iload_n 1, 1) := by decide +kernel
theorem dX10_net_1 : decode cX10_net 1 = .ok (.ifCond .lt 14, 3) := by decide +kernel
theorem dX10_net_4 : decode cX10_net 4 = .ok (.iload_n 1, 1) := by decide +kernel
theorem dX10_net_5 : decode cX10_net 5 = .ok (.aload_n 0, 1) := by decide +kernel
theorem dX10_net_6 : decode cX10_net 6 = .ok (.getfield 10, 3) := by decide +kernel
theorem dX10_net_9 : decode cX10_net 9 = .ok (.getfield 104, 3) := by decide +kernel
theorem dX10_net_12 : decode cX10_net 12 = .ok (.if_icmp .le 6, 3) := by decide +kernel
theorem dX10_net_15 : decode cX10_net 15 = .ok (.bipush (-2), 2) := by decide +kernel
theorem dX10_net_17 : decode cX10_net 17 = .ok (.ireturn, 1) := by decide +kernel
theorem dX10_net_18 : decode cX10_net 18 = .ok (.aload_n 0, 1) := by decide +kernel
theorem dX10_net_19 : decode cX10_net 19 = .ok (.getfield 28, 3) := by decide +kernel
theorem dX10_net_22 : decode cX10_net 22 = .ok (.iload_n 1, 1) := by decide +kernel
theorem dX10_net_23 : decode cX10_net 23 = .ok (.invokevirtual 124, 3) := by decide +kernel
theorem dX10_net_26 : decode cX10_net 26 = .ok (.ifCond .ne 5, 3) := by decide +kernel
theorem dX10_net_29 : decode cX10_net 29 = .ok (.iconst (-1), 1) := by decide +kernel
theorem dX10_net_30 : decode cX10_net 30 = .ok (.ireturn, 1) := by decide +kernel
theorem dX10_net_31 : decode cX10_net 31 = .ok (.aload_n 0, 1) := by decide +kernel
theorem dX10_net_32 : decode cX10_net 32 = .ok (.aload_n 0, 1) := by decide +kernel
theorem dX10_net_33 : decode cX10_net 33 = .ok (.getfield 28, 3) := by decide +kernel
theorem dX10_net_36 : decode cX10_net 36 = .ok (.aload_n 0, 1) := by decide +kernel
theorem dX10_net_37 : decode cX10_net 37 = .ok (.getfield 42, 3) := by decide +kernel
theorem dX10_net_40 : decode cX10_net 40 = .ok (.invokevirtual 125, 3) := by decide +kernel
theorem dX10_net_43 : decode cX10_net 43 = .ok (.putfield 42, 3) := by decide +kernel
theorem dX10_net_46 : decode cX10_net 46 = .ok (.aload_n 0, 1) := by decide +kernel
theorem dX10_net_47 : decode cX10_net 47 = .ok (.getfield 63, 3) := by decide +kernel
theorem dX10_net_50 : decode cX10_net 50 = .ok (.invokevirtual 128, 3) := by decide +kernel
theorem dX10_net_53 : decode cX10_net 53 = .ok (.aload_n 0, 1) := by decide +kernel
theorem dX10_net_54 : decode cX10_net 54 = .ok (.iconst 0, 1) := by decide +kernel
theorem dX10_net_55 : decode cX10_net 55 = .ok (.putfield 131, 3) := by decide +kernel
theorem dX10_net_58 : decode cX10_net 58 = .ok (.aload_n 0, 1) := by decide +kernel
theorem dX10_net_59 : decode cX10_net 59 = .ok (.getfield 42, 3) := by decide +kernel
theorem dX10_net_62 : decode cX10_net 62 = .ok (.getfield 134, 3) := by decide +kernel
theorem dX10_net_65 : decode cX10_net 65 = .ok (.ireturn, 1) := by decide +kernel
theorem dX10_fault_0 : decode cX10_fault 0 = .ok (.iload_n 1, 1) := by decide +kernel
theorem dX10_fault_1 : decode cX10_fault 1 = .ok (.lookupswitch 43 #[(0, 27), (1, 35)], 27) := by decide +kernel
theorem dX10_fault_28 : decode cX10_fault 28 = .ok (.aload_n 0, 1) := by decide +kernel
theorem dX10_fault_29 : decode cX10_fault 29 = .ok (.getfield 10, 3) := by decide +kernel
theorem dX10_fault_32 : decode cX10_fault 32 = .ok (.getfield 137, 3) := by decide +kernel
theorem dX10_fault_35 : decode cX10_fault 35 = .ok (.ireturn, 1) := by decide +kernel
theorem dX10_fault_36 : decode cX10_fault 36 = .ok (.aload_n 0, 1) := by decide +kernel
theorem dX10_fault_37 : decode cX10_fault 37 = .ok (.getfield 10, 3) := by decide +kernel
theorem dX10_fault_40 : decode cX10_fault 40 = .ok (.getfield 140, 3) := by decide +kernel
theorem dX10_fault_43 : decode cX10_fault 43 = .ok (.ireturn, 1) := by decide +kernel
theorem dX10_fault_44 : decode cX10_fault 44 = .ok (.iconst (-1), 1) := by decide +kernel
theorem dX10_fault_45 : decode cX10_fault 45 = .ok (.ireturn, 1) := by decide +kernel
theorem dX3_setDown_0 : decode cX3_setDown 0 = .ok (.aload_n 0, 1) := by decide +kernel
theorem dX3_setDown_1 : decode cX3_setDown 1 = .ok (.iload_n 1, 1) := by decide +kernel
theorem dX3_setDown_2 : decode cX3_setDown 2 = .ok (.putfield 19, 3) := by decide +kernel
theorem dX3_setDown_5 : decode cX3_setDown 5 = .ok (.aload_n 0, 1) := by decide +kernel
theorem dX3_setDown_6 : decode cX3_setDown 6 = .ok (.iconst 0, 1) := by decide +kernel
theorem dX3_setDown_7 : decode cX3_setDown 7 = .ok (.putfield 22, 3) := by decide +kernel
theorem dX3_setDown_10 : decode cX3_setDown 10 = .ok (.aload_n 0, 1) := by decide +kernel
theorem dX3_setDown_11 : decode cX3_setDown 11 = .ok (.iconst 0, 1) := by decide +kernel
theorem dX3_setDown_12 : decode cX3_setDown 12 = .ok (.putfield 25, 3) := by decide +kernel
theorem dX3_setDown_15 : decode cX3_setDown 15 = .ok (.aload_n 0, 1) := by decide +kernel
theorem dX3_setDown_16 : decode cX3_setDown 16 = .ok (.iconst 0, 1) := by decide +kernel
theorem dX3_setDown_17 : decode cX3_setDown 17 = .ok (.putfield 28, 3) := by decide +kernel
theorem dX3_setDown_20 : decode cX3_setDown 20 = .ok (.return_, 1) := by decide +kernel
theorem dX3_clearSquares_0 : decode cX3_clearSquares 0 = .ok (.aload_n 0, 1) := by decide +kernel
theorem dX3_clearSquares_1 : decode cX3_clearSquares 1 = .ok (.lconst 0, 1) := by decide +kernel
theorem dX3_clearSquares_2 : decode cX3_clearSquares 2 = .ok (.putfield 38, 3) := by decide +kernel
theorem dX3_clearSquares_5 : decode cX3_clearSquares 5 = .ok (.aload_n 0, 1) := by decide +kernel
theorem dX3_clearSquares_6 : decode cX3_clearSquares 6 = .ok (.lconst 0, 1) := by decide +kernel
theorem dX3_clearSquares_7 : decode cX3_clearSquares 7 = .ok (.putfield 42, 3) := by decide +kernel
theorem dX3_clearSquares_10 : decode cX3_clearSquares 10 = .ok (.iconst 0, 1) := by decide +kernel
theorem dX3_clearSquares_11 : decode cX3_clearSquares 11 = .ok (.istore_n 1, 1) := by decide +kernel
theorem dX3_clearSquares_12 : decode cX3_clearSquares 12 = .ok (.iload_n 1, 1) := by decide +kernel
theorem dX3_clearSquares_13 : decode cX3_clearSquares 13 = .ok (.iconst 3, 1) := by decide +kernel
theorem dX3_clearSquares_14 : decode cX3_clearSquares 14 = .ok (.if_icmp .ge 16, 3) := by decide +kernel
theorem dX3_clearSquares_17 : decode cX3_clearSquares 17 = .ok (.aload_n 0, 1) := by decide +kernel
theorem dX3_clearSquares_18 : decode cX3_clearSquares 18 = .ok (.getfield 15, 3) := by decide +kernel
theorem dX3_clearSquares_21 : decode cX3_clearSquares 21 = .ok (.iload_n 1, 1) := by decide +kernel
theorem dX3_clearSquares_22 : decode cX3_clearSquares 22 = .ok (.lconst 0, 1) := by decide +kernel
theorem dX3_clearSquares_23 : decode cX3_clearSquares 23 = .ok (.lastore, 1) := by decide +kernel
theorem dX3_clearSquares_24 : decode cX3_clearSquares 24 = .ok (.iinc 1 1, 3) := by decide +kernel
theorem dX3_clearSquares_27 : decode cX3_clearSquares 27 = .ok (.goto (-15), 3) := by decide +kernel
theorem dX3_clearSquares_30 : decode cX3_clearSquares 30 = .ok (.return_, 1) := by decide +kernel
theorem dX3_setDownWiped_0 : decode cX3_setDownWiped 0 = .ok (.aload_n 0, 1) := by decide +kernel
theorem dX3_setDownWiped_1 : decode cX3_setDownWiped 1 = .ok (.iload_n 1, 1) := by decide +kernel
theorem dX3_setDownWiped_2 : decode cX3_setDownWiped 2 = .ok (.invokevirtual 31, 3) := by decide +kernel
theorem dX3_setDownWiped_5 : decode cX3_setDownWiped 5 = .ok (.aload_n 0, 1) := by decide +kernel
theorem dX3_setDownWiped_6 : decode cX3_setDownWiped 6 = .ok (.invokevirtual 35, 3) := by decide +kernel
theorem dX3_setDownWiped_9 : decode cX3_setDownWiped 9 = .ok (.return_, 1) := by decide +kernel
theorem dX0_settle_0 : decode cX0_settle 0 = .ok (.aload_n 0, 1) := by decide +kernel
theorem dX0_settle_1 : decode cX0_settle 1 = .ok (.iload_n 1, 1) := by decide +kernel
theorem dX0_settle_2 : decode cX0_settle 2 = .ok (.aload_n 0, 1) := by decide +kernel
theorem dX0_settle_3 : decode cX0_settle 3 = .ok (.getfield 9, 3) := by decide +kernel
theorem dX0_settle_6 : decode cX0_settle 6 = .ok (.iconst (-1), 1) := by decide +kernel
theorem dX0_settle_7 : decode cX0_settle 7 = .ok (.ixor, 1) := by decide +kernel
theorem dX0_settle_8 : decode cX0_settle 8 = .ok (.iand, 1) := by decide +kernel
theorem dX0_settle_9 : decode cX0_settle 9 = .ok (.aload_n 0, 1) := by decide +kernel
theorem dX0_settle_10 : decode cX0_settle 10 = .ok (.getfield 15, 3) := by decide +kernel
theorem dX0_settle_13 : decode cX0_settle 13 = .ok (.ior, 1) := by decide +kernel
theorem dX0_settle_14 : decode cX0_settle 14 = .ok (.putfield 18, 3) := by decide +kernel
theorem dX0_settle_17 : decode cX0_settle 17 = .ok (.return_, 1) := by decide +kernel
theorem dX0_release_0 : decode cX0_release 0 = .ok (.aload_n 0, 1) := by decide +kernel
theorem dX0_release_1 : decode cX0_release 1 = .ok (.iconst 0, 1) := by decide +kernel
theorem dX0_release_2 : decode cX0_release 2 = .ok (.invokevirtual 25, 3) := by decide +kernel
theorem dX0_release_5 : decode cX0_release 5 = .ok (.return_, 1) := by decide +kernel
theorem dX10_floor_0 : decode cX10_floor 0 = .ok (.iload_n 1, 1) := by decide +kernel
theorem dX10_floor_1 : decode cX10_floor 1 = .ok (.iconst 2, 1) := by decide +kernel
theorem dX10_floor_2 : decode cX10_floor 2 = .ok (.if_icmp .lt 20, 3) := by decide +kernel
theorem dX10_floor_5 : decode cX10_floor 5 = .ok (.iload_n 1, 1) := by decide +kernel
theorem dX10_floor_6 : decode cX10_floor 6 = .ok (.bipush 6, 2) := by decide +kernel
theorem dX10_floor_8 : decode cX10_floor 8 = .ok (.if_icmp .gt 14, 3) := by decide +kernel
theorem dX10_floor_11 : decode cX10_floor 11 = .ok (.iload_n 2, 1) := by decide +kernel
theorem dX10_floor_12 : decode cX10_floor 12 = .ok (.iconst 2, 1) := by decide +kernel
theorem dX10_floor_13 : decode cX10_floor 13 = .ok (.if_icmp .lt 9, 3) := by decide +kernel
theorem dX10_floor_16 : decode cX10_floor 16 = .ok (.iload_n 2, 1) := by decide +kernel
theorem dX10_floor_17 : decode cX10_floor 17 = .ok (.bipush 6, 2) := by decide +kernel
theorem dX10_floor_19 : decode cX10_floor 19 = .ok (.if_icmp .le 5, 3) := by decide +kernel
theorem dX10_floor_22 : decode cX10_floor 22 = .ok (.iconst 0, 1) := by decide +kernel
theorem dX10_floor_23 : decode cX10_floor 23 = .ok (.ireturn, 1) := by decide +kernel
theorem dX10_floor_24 : decode cX10_floor 24 = .ok (.aload_n 0, 1) := by decide +kernel
theorem dX10_floor_25 : decode cX10_floor 25 = .ok (.getfield 49, 3) := by decide +kernel
theorem dX10_floor_28 : decode cX10_floor 28 = .ok (.iload_n 1, 1) := by decide +kernel
theorem dX10_floor_29 : decode cX10_floor 29 = .ok (.iload_n 2, 1) := by decide +kernel
theorem dX10_floor_30 : decode cX10_floor 30 = .ok (.invokevirtual 143, 3) := by decide +kernel
theorem dX10_floor_33 : decode cX10_floor 33 = .ok (.aload_n 0, 1) := by decide +kernel
theorem dX10_floor_34 : decode cX10_floor 34 = .ok (.getfield 56, 3) := by decide +kernel
theorem dX10_floor_37 : decode cX10_floor 37 = .ok (.iconst 0, 1) := by decide +kernel
theorem dX10_floor_38 : decode cX10_floor 38 = .ok (.invokevirtual 147, 3) := by decide +kernel
theorem dX10_floor_41 : decode cX10_floor 41 = .ok (.aload_n 0, 1) := by decide +kernel
theorem dX10_floor_42 : decode cX10_floor 42 = .ok (.getfield 56, 3) := by decide +kernel
theorem dX10_floor_45 : decode cX10_floor 45 = .ok (.iconst (-1), 1) := by decide +kernel
theorem dX10_floor_46 : decode cX10_floor 46 = .ok (.putfield 115, 3) := by decide +kernel
theorem dX10_floor_49 : decode cX10_floor 49 = .ok (.aload_n 0, 1) := by decide +kernel
theorem dX10_floor_50 : decode cX10_floor 50 = .ok (.getfield 63, 3) := by decide +kernel
theorem dX10_floor_53 : decode cX10_floor 53 = .ok (.invokevirtual 150, 3) := by decide +kernel
theorem dX10_floor_56 : decode cX10_floor 56 = .ok (.aload_n 0, 1) := by decide +kernel
theorem dX10_floor_57 : decode cX10_floor 57 = .ok (.getfield 10, 3) := by decide +kernel
theorem dX10_floor_60 : decode cX10_floor 60 = .ok (.iconst 0, 1) := by decide +kernel
theorem dX10_floor_61 : decode cX10_floor 61 = .ok (.putfield 104, 3) := by decide +kernel
theorem dX10_floor_64 : decode cX10_floor 64 = .ok (.aload_n 0, 1) := by decide +kernel
theorem dX10_floor_65 : decode cX10_floor 65 = .ok (.iconst 0, 1) := by decide +kernel
theorem dX10_floor_66 : decode cX10_floor 66 = .ok (.putfield 131, 3) := by decide +kernel
theorem dX10_floor_69 : decode cX10_floor 69 = .ok (.iconst 1, 1) := by decide +kernel
theorem dX10_floor_70 : decode cX10_floor 70 = .ok (.ireturn, 1) := by decide +kernel
theorem dX1_has_0 : decode cX1_has 0 = .ok (.iload_n 1, 1) := by decide +kernel
theorem dX1_has_1 : decode cX1_has 1 = .ok (.ifCond .lt 15, 3) := by decide +kernel
theorem dX1_has_4 : decode cX1_has 4 = .ok (.iload_n 1, 1) := by decide +kernel
theorem dX1_has_5 : decode cX1_has 5 = .ok (.aload_n 0, 1) := by decide +kernel
theorem dX1_has_6 : decode cX1_has 6 = .ok (.getfield 33, 3) := by decide +kernel
theorem dX1_has_9 : decode cX1_has 9 = .ok (.if_icmp .ge 7, 3) := by decide +kernel
theorem dX1_has_12 : decode cX1_has 12 = .ok (.iconst 1, 1) := by decide +kernel
theorem dX1_has_13 : decode cX1_has 13 = .ok (.goto 4, 3) := by decide +kernel
theorem dX1_has_16 : decode cX1_has 16 = .ok (.iconst 0, 1) := by decide +kernel
theorem dX1_has_17 : decode cX1_has 17 = .ok (.ireturn, 1) := by decide +kernel
theorem dX10_isSide_0 : decode cX10_isSide 0 = .ok (.iload_n 0, 1) := by decide +kernel
theorem dX10_isSide_1 : decode cX10_isSide 1 = .ok (.ifCond .lt 12, 3) := by decide +kernel
theorem dX10_isSide_4 : decode cX10_isSide 4 = .ok (.iload_n 0, 1) := by decide +kernel
theorem dX10_isSide_5 : decode cX10_isSide 5 = .ok (.iconst 4, 1) := by decide +kernel
theorem dX10_isSide_6 : decode cX10_isSide 6 = .ok (.if_icmp .ge 7, 3) := by decide +kernel
theorem dX10_isSide_9 : decode cX10_isSide 9 = .ok (.iconst 1, 1) := by decide +kernel
theorem dX10_isSide_10 : decode cX10_isSide 10 = .ok (.goto 4, 3) := by decide +kernel
theorem dX10_isSide_13 : decode cX10_isSide 13 = .ok (.iconst 0, 1) := by decide +kernel
theorem dX10_isSide_14 : decode cX10_isSide 14 = .ok (.ireturn, 1) := by decide +kernel
theorem dX1_isRim_0 : decode cX1_isRim 0 = .ok (.aload_n 0, 1) := by decide +kernel
theorem dX1_isRim_1 : decode cX1_isRim 1 = .ok (.getfield 19, 3) := by decide +kernel
theorem dX1_isRim_4 : decode cX1_isRim 4 = .ok (.iload_n 2, 1) := by decide +kernel
theorem dX1_isRim_5 : decode cX1_isRim 5 = .ok (.iconst 3, 1) := by decide +kernel
theorem dX1_isRim_6 : decode cX1_isRim 6 = .ok (.iand, 1) := by decide +kernel
theorem dX1_isRim_7 : decode cX1_isRim 7 = .ok (.laload, 1) := by decide +kernel
theorem dX1_isRim_8 : decode cX1_isRim 8 = .ok (.iload_n 1, 1) := by decide +kernel
theorem dX1_isRim_9 : decode cX1_isRim 9 = .ok (.lushr, 1) := by decide +kernel
theorem dX1_isRim_10 : decode cX1_isRim 10 = .ok (.lconst 1, 1) := by decide +kernel
theorem dX1_isRim_11 : decode cX1_isRim 11 = .ok (.land, 1) := by decide +kernel
theorem dX1_isRim_12 : decode cX1_isRim 12 = .ok (.lconst 0, 1) := by decide +kernel
theorem dX1_isRim_13 : decode cX1_isRim 13 = .ok (.lcmp, 1) := by decide +kernel
theorem dX1_isRim_14 : decode cX1_isRim 14 = .ok (.ifCond .eq 7, 3) := by decide +kernel
theorem dX1_isRim_17 : decode cX1_isRim 17 = .ok (.iconst 1, 1) := by decide +kernel
theorem dX1_isRim_18 : decode cX1_isRim 18 = .ok (.goto 4, 3) := by decide +kernel
theorem dX1_isRim_21 : decode cX1_isRim 21 = .ok (.iconst 0, 1) := by decide +kernel
theorem dX1_isRim_22 : decode cX1_isRim 22 = .ok (.ireturn, 1) := by decide +kernel
theorem dX1_isWalled_0 : decode cX1_isWalled 0 = .ok (.aload_n 0, 1) := by decide +kernel
theorem dX1_isWalled_1 : decode cX1_isWalled 1 = .ok (.getfield 11, 3) := by decide +kernel
theorem dX1_isWalled_4 : decode cX1_isWalled 4 = .ok (.iload_n 2, 1) := by decide +kernel
theorem dX1_isWalled_5 : decode cX1_isWalled 5 = .ok (.iconst 3, 1) := by decide +kernel
theorem dX1_isWalled_6 : decode cX1_isWalled 6 = .ok (.iand, 1) := by decide +kernel
theorem dX1_isWalled_7 : decode cX1_isWalled 7 = .ok (.laload, 1) := by decide +kernel
theorem dX1_isWalled_8 : decode cX1_isWalled 8 = .ok (.iload_n 1, 1) := by decide +kernel
theorem dX1_isWalled_9 : decode cX1_isWalled 9 = .ok (.lushr, 1) := by decide +kernel
theorem dX1_isWalled_10 : decode cX1_isWalled 10 = .ok (.lconst 1, 1) := by decide +kernel
theorem dX1_isWalled_11 : decode cX1_isWalled 11 = .ok (.land, 1) := by decide +kernel
theorem dX1_isWalled_12 : decode cX1_isWalled 12 = .ok (.lconst 0, 1) := by decide +kernel
theorem dX1_isWalled_13 : decode cX1_isWalled 13 = .ok (.lcmp, 1) := by decide +kernel
theorem dX1_isWalled_14 : decode cX1_isWalled 14 = .ok (.ifCond .eq 7, 3) := by decide +kernel
theorem dX1_isWalled_17 : decode cX1_isWalled 17 = .ok (.iconst 1, 1) := by decide +kernel
theorem dX1_isWalled_18 : decode cX1_isWalled 18 = .ok (.goto 4, 3) := by decide +kernel
theorem dX1_isWalled_21 : decode cX1_isWalled 21 = .ok (.iconst 0, 1) := by decide +kernel
theorem dX1_isWalled_22 : decode cX1_isWalled 22 = .ok (.ireturn, 1) := by decide +kernel
theorem dX1_markWall_0 : decode cX1_markWall 0 = .ok (.iload_n 3, 1) := by decide +kernel
theorem dX1_markWall_1 : decode cX1_markWall 1 = .ok (.ifCond .eq 20, 3) := by decide +kernel
theorem dX1_markWall_4 : decode cX1_markWall 4 = .ok (.aload_n 0, 1) := by decide +kernel
theorem dX1_markWall_5 : decode cX1_markWall 5 = .ok (.getfield 11, 3) := by decide +kernel
theorem dX1_markWall_8 : decode cX1_markWall 8 = .ok (.iload_n 2, 1) := by decide +kernel
theorem dX1_markWall_9 : decode cX1_markWall 9 = .ok (.iconst 3, 1) := by decide +kernel
theorem dX1_markWall_10 : decode cX1_markWall 10 = .ok (.iand, 1) := by decide +kernel
theorem dX1_markWall_11 : decode cX1_markWall 11 = .ok (.dup2, 1) := by decide +kernel
theorem dX1_markWall_12 : decode cX1_markWall 12 = .ok (.laload, 1) := by decide +kernel
theorem dX1_markWall_13 : decode cX1_markWall 13 = .ok (.lconst 1, 1) := by decide +kernel
theorem dX1_markWall_14 : decode cX1_markWall 14 = .ok (.iload_n 1, 1) := by decide +kernel
theorem dX1_markWall_15 : decode cX1_markWall 15 = .ok (.lshl, 1) := by decide +kernel
theorem dX1_markWall_16 : decode cX1_markWall 16 = .ok (.lor, 1) := by decide +kernel
theorem dX1_markWall_17 : decode cX1_markWall 17 = .ok (.lastore, 1) := by decide +kernel
theorem dX1_markWall_18 : decode cX1_markWall 18 = .ok (.goto 21, 3) := by decide +kernel
theorem dX1_markWall_21 : decode cX1_markWall 21 = .ok (.aload_n 0, 1) := by decide +kernel
theorem dX1_markWall_22 : decode cX1_markWall 22 = .ok (.getfield 11, 3) := by decide +kernel
theorem dX1_markWall_25 : decode cX1_markWall 25 = .ok (.iload_n 2, 1) := by decide +kernel
theorem dX1_markWall_26 : decode cX1_markWall 26 = .ok (.iconst 3, 1) := by decide +kernel
theorem dX1_markWall_27 : decode cX1_markWall 27 = .ok (.iand, 1) := by decide +kernel
theorem dX1_markWall_28 : decode cX1_markWall 28 = .ok (.dup2, 1) := by decide +kernel
theorem dX1_markWall_29 : decode cX1_markWall 29 = .ok (.laload, 1) := by decide +kernel
theorem dX1_markWall_30 : decode cX1_markWall 30 = .ok (.lconst 1, 1) := by decide +kernel
theorem dX1_markWall_31 : decode cX1_markWall 31 = .ok (.iload_n 1, 1) := by decide +kernel
theorem dX1_markWall_32 : decode cX1_markWall 32 = .ok (.lshl, 1) := by decide +kernel
theorem dX1_markWall_33 : decode cX1_markWall 33 = .ok (.ldc2_w 54, 3) := by decide +kernel
theorem dX1_markWall_36 : decode cX1_markWall 36 = .ok (.lxor, 1) := by decide +kernel
theorem dX1_markWall_37 : decode cX1_markWall 37 = .ok (.land, 1) := by decide +kernel
theorem dX1_markWall_38 : decode cX1_markWall 38 = .ok (.lastore, 1) := by decide +kernel
theorem dX1_markWall_39 : decode cX1_markWall 39 = .ok (.return_, 1) := by decide +kernel
theorem dX1_ahead_0 : decode cX1_ahead 0 = .ok (.iload_n 1, 1) := by decide +kernel
theorem dX1_ahead_1 : decode cX1_ahead 1 = .ok (.aload_n 0, 1) := by decide +kernel
theorem dX1_ahead_2 : decode cX1_ahead 2 = .ok (.getfield 15, 3) := by decide +kernel
theorem dX1_ahead_5 : decode cX1_ahead 5 = .ok (.iload_n 2, 1) := by decide +kernel
theorem dX1_ahead_6 : decode cX1_ahead 6 = .ok (.iconst 3, 1) := by decide +kernel
theorem dX1_ahead_7 : decode cX1_ahead 7 = .ok (.iand, 1) := by decide +kernel
theorem dX1_ahead_8 : decode cX1_ahead 8 = .ok (.iaload, 1) := by decide +kernel
theorem dX1_ahead_9 : decode cX1_ahead 9 = .ok (.iadd, 1) := by decide +kernel
theorem dX1_ahead_10 : decode cX1_ahead 10 = .ok (.ireturn, 1) := by decide +kernel
theorem dX1_putWall_0 : decode cX1_putWall 0 = .ok (.aload_n 0, 1) := by decide +kernel
theorem dX1_putWall_1 : decode cX1_putWall 1 = .ok (.iload_n 1, 1) := by decide +kernel
theorem dX1_putWall_2 : decode cX1_putWall 2 = .ok (.iload_n 2, 1) := by decide +kernel
theorem dX1_putWall_3 : decode cX1_putWall 3 = .ok (.iload_n 3, 1) := by decide +kernel
theorem dX1_putWall_4 : decode cX1_putWall 4 = .ok (.invokevirtual 46, 3) := by decide +kernel
theorem dX1_putWall_7 : decode cX1_putWall 7 = .ok (.aload_n 0, 1) := by decide +kernel
theorem dX1_putWall_8 : decode cX1_putWall 8 = .ok (.aload_n 0, 1) := by decide +kernel
theorem dX1_putWall_9 : decode cX1_putWall 9 = .ok (.iload_n 1, 1) := by decide +kernel
theorem dX1_putWall_10 : decode cX1_putWall 10 = .ok (.iload_n 2, 1) := by decide +kernel
theorem dX1_putWall_11 : decode cX1_putWall 11 = .ok (.invokevirtual 50, 3) := by decide +kernel
theorem dX1_putWall_14 : decode cX1_putWall 14 = .ok (.iload_n 2, 1) := by decide +kernel
theorem dX1_putWall_15 : decode cX1_putWall 15 = .ok (.iconst 2, 1) := by decide +kernel
theorem dX1_putWall_16 : decode cX1_putWall 16 = .ok (.iadd, 1) := by decide +kernel
theorem dX1_putWall_17 : decode cX1_putWall 17 = .ok (.iload_n 3, 1) := by decide +kernel
theorem dX1_putWall_18 : decode cX1_putWall 18 = .ok (.invokevirtual 46, 3) := by decide +kernel
theorem dX1_putWall_21 : decode cX1_putWall 21 = .ok (.return_, 1) := by decide +kernel
theorem dX10_wall_0 : decode cX10_wall 0 = .ok (.aload_n 0, 1) := by decide +kernel
theorem dX10_wall_1 : decode cX10_wall 1 = .ok (.getfield 49, 3) := by decide +kernel
theorem dX10_wall_4 : decode cX10_wall 4 = .ok (.iload_n 1, 1) := by decide +kernel
theorem dX10_wall_5 : decode cX10_wall 5 = .ok (.invokevirtual 153, 3) := by decide +kernel
theorem dX10_wall_8 : decode cX10_wall 8 = .ok (.ifCond .eq 22, 3) := by decide +kernel
theorem dX10_wall_11 : decode cX10_wall 11 = .ok (.iload_n 2, 1) := by decide +kernel
theorem dX10_wall_12 : decode cX10_wall 12 = .ok (.invokestatic 156, 3) := by decide +kernel
theorem dX10_wall_15 : decode cX10_wall 15 = .ok (.ifCond .eq 15, 3) := by decide +kernel
theorem dX10_wall_18 : decode cX10_wall 18 = .ok (.aload_n 0, 1) := by decide +kernel
theorem dX10_wall_19 : decode cX10_wall 19 = .ok (.getfield 49, 3) := by decide +kernel
theorem dX10_wall_22 : decode cX10_wall 22 = .ok (.iload_n 1, 1) := by decide +kernel
theorem dX10_wall_23 : decode cX10_wall 23 = .ok (.iload_n 2, 1) := by decide +kernel
theorem dX10_wall_24 : decode cX10_wall 24 = .ok (.invokevirtual 159, 3) := by decide +kernel
theorem dX10_wall_27 : decode cX10_wall 27 = .ok (.ifCond .eq 5, 3) := by decide +kernel
theorem dX10_wall_30 : decode cX10_wall 30 = .ok (.iconst 0, 1) := by decide +kernel
theorem dX10_wall_31 : decode cX10_wall 31 = .ok (.ireturn, 1) := by decide +kernel
theorem dX10_wall_32 : decode cX10_wall 32 = .ok (.aload_n 0, 1) := by decide +kernel
theorem dX10_wall_33 : decode cX10_wall 33 = .ok (.getfield 49, 3) := by decide +kernel
theorem dX10_wall_36 : decode cX10_wall 36 = .ok (.iload_n 1, 1) := by decide +kernel
theorem dX10_wall_37 : decode cX10_wall 37 = .ok (.iload_n 2, 1) := by decide +kernel
theorem dX10_wall_38 : decode cX10_wall 38 = .ok (.invokevirtual 163, 3) := by decide +kernel
theorem dX10_wall_41 : decode cX10_wall 41 = .ok (.iload_n 3, 1) := by decide +kernel
theorem dX10_wall_42 : decode cX10_wall 42 = .ok (.if_icmp .ne 5, 3) := by decide +kernel
theorem dX10_wall_45 : decode cX10_wall 45 = .ok (.iconst 0, 1) := by decide +kernel
theorem dX10_wall_46 : decode cX10_wall 46 = .ok (.ireturn, 1) := by decide +kernel
theorem dX10_wall_47 : decode cX10_wall 47 = .ok (.aload_n 0, 1) := by decide +kernel
theorem dX10_wall_48 : decode cX10_wall 48 = .ok (.getfield 49, 3) := by decide +kernel
theorem dX10_wall_51 : decode cX10_wall 51 = .ok (.iload_n 1, 1) := by decide +kernel
theorem dX10_wall_52 : decode cX10_wall 52 = .ok (.iload_n 2, 1) := by decide +kernel
theorem dX10_wall_53 : decode cX10_wall 53 = .ok (.iload_n 3, 1) := by decide +kernel
theorem dX10_wall_54 : decode cX10_wall 54 = .ok (.invokevirtual 166, 3) := by decide +kernel
theorem dX10_wall_57 : decode cX10_wall 57 = .ok (.iconst 1, 1) := by decide +kernel
theorem dX10_wall_58 : decode cX10_wall 58 = .ok (.ireturn, 1) := by decide +kernel
theorem dX10_bell_0 : decode cX10_bell 0 = .ok (.aload_n 0, 1) := by decide +kernel
theorem dX10_bell_1 : decode cX10_bell 1 = .ok (.getfield 49, 3) := by decide +kernel
theorem dX10_bell_4 : decode cX10_bell 4 = .ok (.iload_n 1, 1) := by decide +kernel
theorem dX10_bell_5 : decode cX10_bell 5 = .ok (.invokevirtual 153, 3) := by decide +kernel
theorem dX10_bell_8 : decode cX10_bell 8 = .ok (.ifCond .ne 5, 3) := by decide +kernel
theorem dX10_bell_11 : decode cX10_bell 11 = .ok (.iconst 0, 1) := by decide +kernel
theorem dX10_bell_12 : decode cX10_bell 12 = .ok (.ireturn, 1) := by decide +kernel
theorem dX10_bell_13 : decode cX10_bell 13 = .ok (.aload_n 0, 1) := by decide +kernel
theorem dX10_bell_14 : decode cX10_bell 14 = .ok (.getfield 49, 3) := by decide +kernel
theorem dX10_bell_17 : decode cX10_bell 17 = .ok (.iload_n 1, 1) := by decide +kernel
theorem dX10_bell_18 : decode cX10_bell 18 = .ok (.putfield 170, 3) := by decide +kernel
theorem dX10_bell_21 : decode cX10_bell 21 = .ok (.iconst 1, 1) := by decide +kernel
theorem dX10_bell_22 : decode cX10_bell 22 = .ok (.ireturn, 1) := by decide +kernel
theorem dX10_lift_0 : decode cX10_lift 0 = .ok (.aload_n 0, 1) := by decide +kernel
theorem dX10_lift_1 : decode cX10_lift 1 = .ok (.getfield 49, 3) := by decide +kernel
theorem dX10_lift_4 : decode cX10_lift 4 = .ok (.iload_n 1, 1) := by decide +kernel
theorem dX10_lift_5 : decode cX10_lift 5 = .ok (.invokevirtual 153, 3) := by decide +kernel
theorem dX10_lift_8 : decode cX10_lift 8 = .ok (.ifCond .eq 10, 3) := by decide +kernel
theorem dX10_lift_11 : decode cX10_lift 11 = .ok (.iload_n 2, 1) := by decide +kernel
theorem dX10_lift_12 : decode cX10_lift 12 = .ok (.invokestatic 156, 3) := by decide +kernel
theorem dX10_lift_15 : decode cX10_lift 15 = .ok (.ifCond .ne 5, 3) := by decide +kernel
theorem dX10_lift_18 : decode cX10_lift 18 = .ok (.iconst 0, 1) := by decide +kernel
theorem dX10_lift_19 : decode cX10_lift 19 = .ok (.ireturn, 1) := by decide +kernel
theorem dX10_lift_20 : decode cX10_lift 20 = .ok (.aload_n 0, 1) := by decide +kernel
theorem dX10_lift_21 : decode cX10_lift 21 = .ok (.getfield 56, 3) := by decide +kernel
theorem dX10_lift_24 : decode cX10_lift 24 = .ok (.iload_n 1, 1) := by decide +kernel
theorem dX10_lift_25 : decode cX10_lift 25 = .ok (.putfield 173, 3) := by decide +kernel
theorem dX10_lift_28 : decode cX10_lift 28 = .ok (.aload_n 0, 1) := by decide +kernel
theorem dX10_lift_29 : decode cX10_lift 29 = .ok (.getfield 56, 3) := by decide +kernel
theorem dX10_lift_32 : decode cX10_lift 32 = .ok (.iload_n 2, 1) := by decide +kernel
theorem dX10_lift_33 : decode cX10_lift 33 = .ok (.putfield 176, 3) := by decide +kernel
theorem dX10_lift_36 : decode cX10_lift 36 = .ok (.iconst 1, 1) := by decide +kernel
theorem dX10_lift_37 : decode cX10_lift 37 = .ok (.ireturn, 1) := by decide +kernel
theorem dJ13_bitCount_95d88_0 : decode cJ13_bitCount_95d88 0 = .ok (.lload_n 0, 1) := by decide +kernel
theorem dJ13_bitCount_95d88_1 : decode cJ13_bitCount_95d88 1 = .ok (.lload_n 0, 1) := by decide +kernel
theorem dJ13_bitCount_95d88_2 : decode cJ13_bitCount_95d88 2 = .ok (.iconst 1, 1) := by decide +kernel
theorem dJ13_bitCount_95d88_3 : decode cJ13_bitCount_95d88 3 = .ok (.lushr, 1) := by decide +kernel
theorem dJ13_bitCount_95d88_4 : decode cJ13_bitCount_95d88 4 = .ok (.ldc2_w 314, 3) := by decide +kernel
theorem dJ13_bitCount_95d88_7 : decode cJ13_bitCount_95d88 7 = .ok (.land, 1) := by decide +kernel
theorem dJ13_bitCount_95d88_8 : decode cJ13_bitCount_95d88 8 = .ok (.lsub, 1) := by decide +kernel
theorem dJ13_bitCount_95d88_9 : decode cJ13_bitCount_95d88 9 = .ok (.lstore_n 0, 1) := by decide +kernel
theorem dJ13_bitCount_95d88_10 : decode cJ13_bitCount_95d88 10 = .ok (.lload_n 0, 1) := by decide +kernel
theorem dJ13_bitCount_95d88_11 : decode cJ13_bitCount_95d88 11 = .ok (.ldc2_w 316, 3) := by decide +kernel
theorem dJ13_bitCount_95d88_14 : decode cJ13_bitCount_95d88 14 = .ok (.land, 1) := by decide +kernel
theorem dJ13_bitCount_95d88_15 : decode cJ13_bitCount_95d88 15 = .ok (.lload_n 0, 1) := by decide +kernel
theorem dJ13_bitCount_95d88_16 : decode cJ13_bitCount_95d88 16 = .ok (.iconst 2, 1) := by decide +kernel
theorem dJ13_bitCount_95d88_17 : decode cJ13_bitCount_95d88 17 = .ok (.lushr, 1) := by decide +kernel
theorem dJ13_bitCount_95d88_18 : decode cJ13_bitCount_95d88 18 = .ok (.ldc2_w 316, 3) := by decide +kernel
theorem dJ13_bitCount_95d88_21 : decode cJ13_bitCount_95d88 21 = .ok (.land, 1) := by decide +kernel
theorem dJ13_bitCount_95d88_22 : decode cJ13_bitCount_95d88 22 = .ok (.ladd, 1) := by decide +kernel
theorem dJ13_bitCount_95d88_23 : decode cJ13_bitCount_95d88 23 = .ok (.lstore_n 0, 1) := by decide +kernel
theorem dJ13_bitCount_95d88_24 : decode cJ13_bitCount_95d88 24 = .ok (.lload_n 0, 1) := by decide +kernel
theorem dJ13_bitCount_95d88_25 : decode cJ13_bitCount_95d88 25 = .ok (.lload_n 0, 1) := by decide +kernel
theorem dJ13_bitCount_95d88_26 : decode cJ13_bitCount_95d88 26 = .ok (.iconst 4, 1) := by decide +kernel
theorem dJ13_bitCount_95d88_27 : decode cJ13_bitCount_95d88 27 = .ok (.lushr, 1) := by decide +kernel
theorem dJ13_bitCount_95d88_28 : decode cJ13_bitCount_95d88 28 = .ok (.ladd, 1) := by decide +kernel
theorem dJ13_bitCount_95d88_29 : decode cJ13_bitCount_95d88 29 = .ok (.ldc2_w 318, 3) := by decide +kernel
theorem dJ13_bitCount_95d88_32 : decode cJ13_bitCount_95d88 32 = .ok (.land, 1) := by decide +kernel
theorem dJ13_bitCount_95d88_33 : decode cJ13_bitCount_95d88 33 = .ok (.lstore_n 0, 1) := by decide +kernel
theorem dJ13_bitCount_95d88_34 : decode cJ13_bitCount_95d88 34 = .ok (.lload_n 0, 1) := by decide +kernel
theorem dJ13_bitCount_95d88_35 : decode cJ13_bitCount_95d88 35 = .ok (.lload_n 0, 1) := by decide +kernel
theorem dJ13_bitCount_95d88_36 : decode cJ13_bitCount_95d88 36 = .ok (.bipush 8, 2) := by decide +kernel
theorem dJ13_bitCount_95d88_38 : decode cJ13_bitCount_95d88 38 = .ok (.lushr, 1) := by decide +kernel
theorem dJ13_bitCount_95d88_39 : decode cJ13_bitCount_95d88 39 = .ok (.ladd, 1) := by decide +kernel
theorem dJ13_bitCount_95d88_40 : decode cJ13_bitCount_95d88 40 = .ok (.lstore_n 0, 1) := by decide +kernel
theorem dJ13_bitCount_95d88_41 : decode cJ13_bitCount_95d88 41 = .ok (.lload_n 0, 1) := by decide +kernel
theorem dJ13_bitCount_95d88_42 : decode cJ13_bitCount_95d88 42 = .ok (.lload_n 0, 1) := by decide +kernel
theorem dJ13_bitCount_95d88_43 : decode cJ13_bitCount_95d88 43 = .ok (.bipush 16, 2) := by decide +kernel
theorem dJ13_bitCount_95d88_45 : decode cJ13_bitCount_95d88 45 = .ok (.lushr, 1) := by decide +kernel
theorem dJ13_bitCount_95d88_46 : decode cJ13_bitCount_95d88 46 = .ok (.ladd, 1) := by decide +kernel
theorem dJ13_bitCount_95d88_47 : decode cJ13_bitCount_95d88 47 = .ok (.lstore_n 0, 1) := by decide +kernel
theorem dJ13_bitCount_95d88_48 : decode cJ13_bitCount_95d88 48 = .ok (.lload_n 0, 1) := by decide +kernel
theorem dJ13_bitCount_95d88_49 : decode cJ13_bitCount_95d88 49 = .ok (.lload_n 0, 1) := by decide +kernel
theorem dJ13_bitCount_95d88_50 : decode cJ13_bitCount_95d88 50 = .ok (.bipush 32, 2) := by decide +kernel
theorem dJ13_bitCount_95d88_52 : decode cJ13_bitCount_95d88 52 = .ok (.lushr, 1) := by decide +kernel
theorem dJ13_bitCount_95d88_53 : decode cJ13_bitCount_95d88 53 = .ok (.ladd, 1) := by decide +kernel
theorem dJ13_bitCount_95d88_54 : decode cJ13_bitCount_95d88 54 = .ok (.lstore_n 0, 1) := by decide +kernel
theorem dJ13_bitCount_95d88_55 : decode cJ13_bitCount_95d88 55 = .ok (.lload_n 0, 1) := by decide +kernel
theorem dJ13_bitCount_95d88_56 : decode cJ13_bitCount_95d88 56 = .ok (.l2i, 1) := by decide +kernel
theorem dJ13_bitCount_95d88_57 : decode cJ13_bitCount_95d88 57 = .ok (.bipush 127, 2) := by decide +kernel
theorem dJ13_bitCount_95d88_59 : decode cJ13_bitCount_95d88 59 = .ok (.iand, 1) := by decide +kernel
theorem dJ13_bitCount_95d88_60 : decode cJ13_bitCount_95d88 60 = .ok (.ireturn, 1) := by decide +kernel
theorem dX3_markedSquares_0 : decode cX3_markedSquares 0 = .ok (.aload_n 0, 1) := by decide +kernel
theorem dX3_markedSquares_1 : decode cX3_markedSquares 1 = .ok (.getfield 38, 3) := by decide +kernel
theorem dX3_markedSquares_4 : decode cX3_markedSquares 4 = .ok (.aload_n 0, 1) := by decide +kernel
theorem dX3_markedSquares_5 : decode cX3_markedSquares 5 = .ok (.getfield 42, 3) := by decide +kernel
theorem dX3_markedSquares_8 : decode cX3_markedSquares 8 = .ok (.lor, 1) := by decide +kernel
theorem dX3_markedSquares_9 : decode cX3_markedSquares 9 = .ok (.lstore_n 1, 1) := by decide +kernel
theorem dX3_markedSquares_10 : decode cX3_markedSquares 10 = .ok (.iconst 0, 1) := by decide +kernel
theorem dX3_markedSquares_11 : decode cX3_markedSquares 11 = .ok (.istore_n 3, 1) := by decide +kernel
theorem dX3_markedSquares_12 : decode cX3_markedSquares 12 = .ok (.iload_n 3, 1) := by decide +kernel
theorem dX3_markedSquares_13 : decode cX3_markedSquares 13 = .ok (.iconst 3, 1) := by decide +kernel
theorem dX3_markedSquares_14 : decode cX3_markedSquares 14 = .ok (.if_icmp .ge 18, 3) := by decide +kernel
theorem dX3_markedSquares_17 : decode cX3_markedSquares 17 = .ok (.lload_n 1, 1) := by decide +kernel
theorem dX3_markedSquares_18 : decode cX3_markedSquares 18 = .ok (.aload_n 0, 1) := by decide +kernel
theorem dX3_markedSquares_19 : decode cX3_markedSquares 19 = .ok (.getfield 15, 3) := by decide +kernel
theorem dX3_markedSquares_22 : decode cX3_markedSquares 22 = .ok (.iload_n 3, 1) := by decide +kernel
theorem dX3_markedSquares_23 : decode cX3_markedSquares 23 = .ok (.laload, 1) := by decide +kernel
theorem dX3_markedSquares_24 : decode cX3_markedSquares 24 = .ok (.lor, 1) := by decide +kernel
theorem dX3_markedSquares_25 : decode cX3_markedSquares 25 = .ok (.lstore_n 1, 1) := by decide +kernel
theorem dX3_markedSquares_26 : decode cX3_markedSquares 26 = .ok (.iinc 3 1, 3) := by decide +kernel
theorem dX3_markedSquares_29 : decode cX3_markedSquares 29 = .ok (.goto (-17), 3) := by decide +kernel
theorem dX3_markedSquares_32 : decode cX3_markedSquares 32 = .ok (.lload_n 1, 1) := by decide +kernel
theorem dX3_markedSquares_33 : decode cX3_markedSquares 33 = .ok (.invokestatic 45, 3) := by decide +kernel
theorem dX3_markedSquares_36 : decode cX3_markedSquares 36 = .ok (.ireturn, 1) := by decide +kernel
theorem dX10_wipe_0 : decode cX10_wipe 0 = .ok (.aload_n 0, 1) := by decide +kernel
theorem dX10_wipe_1 : decode cX10_wipe 1 = .ok (.getfield 56, 3) := by decide +kernel
theorem dX10_wipe_4 : decode cX10_wipe 4 = .ok (.invokevirtual 179, 3) := by decide +kernel
theorem dX10_wipe_7 : decode cX10_wipe 7 = .ok (.istore_n 1, 1) := by decide +kernel
theorem dX10_wipe_8 : decode cX10_wipe 8 = .ok (.aload_n 0, 1) := by decide +kernel
theorem dX10_wipe_9 : decode cX10_wipe 9 = .ok (.getfield 56, 3) := by decide +kernel
theorem dX10_wipe_12 : decode cX10_wipe 12 = .ok (.invokevirtual 183, 3) := by decide +kernel
theorem dX10_wipe_15 : decode cX10_wipe 15 = .ok (.aload_n 0, 1) := by decide +kernel
theorem dX10_wipe_16 : decode cX10_wipe 16 = .ok (.getfield 56, 3) := by decide +kernel
theorem dX10_wipe_19 : decode cX10_wipe 19 = .ok (.iconst 0, 1) := by decide +kernel
theorem dX10_wipe_20 : decode cX10_wipe 20 = .ok (.putfield 186, 3) := by decide +kernel
theorem dX10_wipe_23 : decode cX10_wipe 23 = .ok (.aload_n 0, 1) := by decide +kernel
theorem dX10_wipe_24 : decode cX10_wipe 24 = .ok (.getfield 56, 3) := by decide +kernel
theorem dX10_wipe_27 : decode cX10_wipe 27 = .ok (.iconst 0, 1) := by decide +kernel
theorem dX10_wipe_28 : decode cX10_wipe 28 = .ok (.putfield 189, 3) := by decide +kernel
theorem dX10_wipe_31 : decode cX10_wipe 31 = .ok (.aload_n 0, 1) := by decide +kernel
theorem dX10_wipe_32 : decode cX10_wipe 32 = .ok (.getfield 63, 3) := by decide +kernel
theorem dX10_wipe_35 : decode cX10_wipe 35 = .ok (.invokevirtual 150, 3) := by decide +kernel
theorem dX10_wipe_38 : decode cX10_wipe 38 = .ok (.iload_n 1, 1) := by decide +kernel
theorem dX10_wipe_39 : decode cX10_wipe 39 = .ok (.ireturn, 1) := by decide +kernel
theorem dX3_yesesOf_0 : decode cX3_yesesOf 0 = .ok (.iconst 0, 1) := by decide +kernel
theorem dX3_yesesOf_1 : decode cX3_yesesOf 1 = .ok (.istore_n 2, 1) := by decide +kernel
theorem dX3_yesesOf_2 : decode cX3_yesesOf 2 = .ok (.iconst 0, 1) := by decide +kernel
theorem dX3_yesesOf_3 : decode cX3_yesesOf 3 = .ok (.istore_n 3, 1) := by decide +kernel
theorem dX3_yesesOf_4 : decode cX3_yesesOf 4 = .ok (.iload_n 3, 1) := by decide +kernel
theorem dX3_yesesOf_5 : decode cX3_yesesOf 5 = .ok (.iconst 3, 1) := by decide +kernel
theorem dX3_yesesOf_6 : decode cX3_yesesOf 6 = .ok (.if_icmp .ge 25, 3) := by decide +kernel
theorem dX3_yesesOf_9 : decode cX3_yesesOf 9 = .ok (.iload_n 2, 1) := by decide +kernel
theorem dX3_yesesOf_10 : decode cX3_yesesOf 10 = .ok (.aload_n 0, 1) := by decide +kernel
theorem dX3_yesesOf_11 : decode cX3_yesesOf 11 = .ok (.getfield 15, 3) := by decide +kernel
theorem dX3_yesesOf_14 : decode cX3_yesesOf 14 = .ok (.iload_n 3, 1) := by decide +kernel
theorem dX3_yesesOf_15 : decode cX3_yesesOf 15 = .ok (.laload, 1) := by decide +kernel
theorem dX3_yesesOf_16 : decode cX3_yesesOf 16 = .ok (.iload_n 1, 1) := by decide +kernel
theorem dX3_yesesOf_17 : decode cX3_yesesOf 17 = .ok (.lushr, 1) := by decide +kernel
theorem dX3_yesesOf_18 : decode cX3_yesesOf 18 = .ok (.lconst 1, 1) := by decide +kernel
theorem dX3_yesesOf_19 : decode cX3_yesesOf 19 = .ok (.land, 1) := by decide +kernel
theorem dX3_yesesOf_20 : decode cX3_yesesOf 20 = .ok (.l2i, 1) := by decide +kernel
theorem dX3_yesesOf_21 : decode cX3_yesesOf 21 = .ok (.iload_n 3, 1) := by decide +kernel
theorem dX3_yesesOf_22 : decode cX3_yesesOf 22 = .ok (.ishl, 1) := by decide +kernel
theorem dX3_yesesOf_23 : decode cX3_yesesOf 23 = .ok (.ior, 1) := by decide +kernel
theorem dX3_yesesOf_24 : decode cX3_yesesOf 24 = .ok (.istore_n 2, 1) := by decide +kernel
theorem dX3_yesesOf_25 : decode cX3_yesesOf 25 = .ok (.iinc 3 1, 3) := by decide +kernel
theorem dX3_yesesOf_28 : decode cX3_yesesOf 28 = .ok (.goto (-24), 3) := by decide +kernel
theorem dX3_yesesOf_31 : decode cX3_yesesOf 31 = .ok (.iload_n 2, 1) := by decide +kernel
theorem dX3_yesesOf_32 : decode cX3_yesesOf 32 = .ok (.ireturn, 1) := by decide +kernel
theorem dX3_wayOf_0 : decode cX3_wayOf 0 = .ok (.aload_n 0, 1) := by decide +kernel
theorem dX3_wayOf_1 : decode cX3_wayOf 1 = .ok (.getfield 38, 3) := by decide +kernel
theorem dX3_wayOf_4 : decode cX3_wayOf 4 = .ok (.iload_n 1, 1) := by decide +kernel
theorem dX3_wayOf_5 : decode cX3_wayOf 5 = .ok (.lushr, 1) := by decide +kernel
theorem dX3_wayOf_6 : decode cX3_wayOf 6 = .ok (.lconst 1, 1) := by decide +kernel
theorem dX3_wayOf_7 : decode cX3_wayOf 7 = .ok (.land, 1) := by decide +kernel
theorem dX3_wayOf_8 : decode cX3_wayOf 8 = .ok (.l2i, 1) := by decide +kernel
theorem dX3_wayOf_9 : decode cX3_wayOf 9 = .ok (.iconst 2, 1) := by decide +kernel
theorem dX3_wayOf_10 : decode cX3_wayOf 10 = .ok (.aload_n 0, 1) := by decide +kernel
theorem dX3_wayOf_11 : decode cX3_wayOf 11 = .ok (.getfield 42, 3) := by decide +kernel
theorem dX3_wayOf_14 : decode cX3_wayOf 14 = .ok (.iload_n 1, 1) := by decide +kernel
theorem dX3_wayOf_15 : decode cX3_wayOf 15 = .ok (.lushr, 1) := by decide +kernel
theorem dX3_wayOf_16 : decode cX3_wayOf 16 = .ok (.lconst 1, 1) := by decide +kernel
theorem dX3_wayOf_17 : decode cX3_wayOf 17 = .ok (.land, 1) := by decide +kernel
theorem dX3_wayOf_18 : decode cX3_wayOf 18 = .ok (.l2i, 1) := by decide +kernel
theorem dX3_wayOf_19 : decode cX3_wayOf 19 = .ok (.imul, 1) := by decide +kernel
theorem dX3_wayOf_20 : decode cX3_wayOf 20 = .ok (.iadd, 1) := by decide +kernel
theorem dX3_wayOf_21 : decode cX3_wayOf 21 = .ok (.ireturn, 1) := by decide +kernel
theorem dX3_signs_0 : decode cX3_signs 0 = .ok (.iconst 1, 1) := by decide +kernel
theorem dX3_signs_1 : decode cX3_signs 1 = .ok (.aload_n 0, 1) := by decide +kernel
theorem dX3_signs_2 : decode cX3_signs 2 = .ok (.getfield 25, 3) := by decide +kernel
theorem dX3_signs_5 : decode cX3_signs 5 = .ok (.ishl, 1) := by decide +kernel
theorem dX3_signs_6 : decode cX3_signs 6 = .ok (.aload_n 0, 1) := by decide +kernel
theorem dX3_signs_7 : decode cX3_signs 7 = .ok (.aload_n 0, 1) := by decide +kernel
theorem dX3_signs_8 : decode cX3_signs 8 = .ok (.getfield 19, 3) := by decide +kernel
theorem dX3_signs_11 : decode cX3_signs 11 = .ok (.invokevirtual 68, 3) := by decide +kernel
theorem dX3_signs_14 : decode cX3_signs 14 = .ok (.bipush 13, 2) := by decide +kernel
theorem dX3_signs_16 : decode cX3_signs 16 = .ok (.ishl, 1) := by decide +kernel
theorem dX3_signs_17 : decode cX3_signs 17 = .ok (.ior, 1) := by decide +kernel
theorem dX3_signs_18 : decode cX3_signs 18 = .ok (.istore_n 2, 1) := by decide +kernel
theorem dX3_signs_19 : decode cX3_signs 19 = .ok (.aload_n 1, 1) := by decide +kernel
theorem dX3_signs_20 : decode cX3_signs 20 = .ok (.aload_n 0, 1) := by decide +kernel
theorem dX3_signs_21 : decode cX3_signs 21 = .ok (.getfield 19, 3) := by decide +kernel
theorem dX3_signs_24 : decode cX3_signs 24 = .ok (.aload_n 0, 1) := by decide +kernel
theorem dX3_signs_25 : decode cX3_signs 25 = .ok (.getfield 22, 3) := by decide +kernel
theorem dX3_signs_28 : decode cX3_signs 28 = .ok (.invokevirtual 74, 3) := by decide +kernel
theorem dX3_signs_31 : decode cX3_signs 31 = .ok (.ifCond .eq 9, 3) := by decide +kernel
theorem dX3_signs_34 : decode cX3_signs 34 = .ok (.iload_n 2, 1) := by decide +kernel
theorem dX3_signs_35 : decode cX3_signs 35 = .ok (.sipush 1024, 3) := by decide +kernel
theorem dX3_signs_38 : decode cX3_signs 38 = .ok (.ior, 1) := by decide +kernel
theorem dX3_signs_39 : decode cX3_signs 39 = .ok (.istore_n 2, 1) := by decide +kernel
theorem dX3_signs_40 : decode cX3_signs 40 = .ok (.aload_n 0, 1) := by decide +kernel
theorem dX3_signs_41 : decode cX3_signs 41 = .ok (.getfield 19, 3) := by decide +kernel
theorem dX3_signs_44 : decode cX3_signs 44 = .ok (.aload_n 1, 1) := by decide +kernel
theorem dX3_signs_45 : decode cX3_signs 45 = .ok (.getfield 78, 3) := by decide +kernel
theorem dX3_signs_48 : decode cX3_signs 48 = .ok (.if_icmp .ne 9, 3) := by decide +kernel
theorem dX3_signs_51 : decode cX3_signs 51 = .ok (.iload_n 2, 1) := by decide +kernel
theorem dX3_signs_52 : decode cX3_signs 52 = .ok (.sipush 2048, 3) := by decide +kernel
theorem dX3_signs_55 : decode cX3_signs 55 = .ok (.ior, 1) := by decide +kernel
theorem dX3_signs_56 : decode cX3_signs 56 = .ok (.istore_n 2, 1) := by decide +kernel
theorem dX3_signs_57 : decode cX3_signs 57 = .ok (.aload_n 0, 1) := by decide +kernel
theorem dX3_signs_58 : decode cX3_signs 58 = .ok (.getfield 22, 3) := by decide +kernel
theorem dX3_signs_61 : decode cX3_signs 61 = .ok (.aload_n 0, 1) := by decide +kernel
theorem dX3_signs_62 : decode cX3_signs 62 = .ok (.aload_n 0, 1) := by decide +kernel
theorem dX3_signs_63 : decode cX3_signs 63 = .ok (.getfield 19, 3) := by decide +kernel
theorem dX3_signs_66 : decode cX3_signs 66 = .ok (.invokevirtual 81, 3) := by decide +kernel
theorem dX3_signs_69 : decode cX3_signs 69 = .ok (.if_icmp .ne 9, 3) := by decide +kernel
theorem dX3_signs_72 : decode cX3_signs 72 = .ok (.iload_n 2, 1) := by decide +kernel
theorem dX3_signs_73 : decode cX3_signs 73 = .ok (.sipush 4096, 3) := by decide +kernel
theorem dX3_signs_76 : decode cX3_signs 76 = .ok (.ior, 1) := by decide +kernel
theorem dX3_signs_77 : decode cX3_signs 77 = .ok (.istore_n 2, 1) := by decide +kernel
theorem dX3_signs_78 : decode cX3_signs 78 = .ok (.iload_n 2, 1) := by decide +kernel
theorem dX3_signs_79 : decode cX3_signs 79 = .ok (.ireturn, 1) := by decide +kernel
theorem dX6_lineFor_0 : decode cX6_lineFor 0 = .ok (.iconst 0, 1) := by decide +kernel
theorem dX6_lineFor_1 : decode cX6_lineFor 1 = .ok (.istore_n 3, 1) := by decide +kernel
theorem dX6_lineFor_2 : decode cX6_lineFor 2 = .ok (.iload_n 3, 1) := by decide +kernel
theorem dX6_lineFor_3 : decode cX6_lineFor 3 = .ok (.aload_n 0, 1) := by decide +kernel
theorem dX6_lineFor_4 : decode cX6_lineFor 4 = .ok (.getfield 30, 3) := by decide +kernel
theorem dX6_lineFor_7 : decode cX6_lineFor 7 = .ok (.if_icmp .ge 49, 3) := by decide +kernel
theorem dX6_lineFor_10 : decode cX6_lineFor 10 = .ok (.iload_n 1, 1) := by decide +kernel
theorem dX6_lineFor_11 : decode cX6_lineFor 11 = .ok (.aload_n 0, 1) := by decide +kernel
theorem dX6_lineFor_12 : decode cX6_lineFor 12 = .ok (.getfield 21, 3) := by decide +kernel
theorem dX6_lineFor_15 : decode cX6_lineFor 15 = .ok (.iload_n 3, 1) := by decide +kernel
theorem dX6_lineFor_16 : decode cX6_lineFor 16 = .ok (.iaload, 1) := by decide +kernel
theorem dX6_lineFor_17 : decode cX6_lineFor 17 = .ok (.ixor, 1) := by decide +kernel
theorem dX6_lineFor_18 : decode cX6_lineFor 18 = .ok (.aload_n 0, 1) := by decide +kernel
theorem dX6_lineFor_19 : decode cX6_lineFor 19 = .ok (.getfield 18, 3) := by decide +kernel
theorem dX6_lineFor_22 : decode cX6_lineFor 22 = .ok (.iload_n 3, 1) := by decide +kernel
theorem dX6_lineFor_23 : decode cX6_lineFor 23 = .ok (.iaload, 1) := by decide +kernel
theorem dX6_lineFor_24 : decode cX6_lineFor 24 = .ok (.iand, 1) := by decide +kernel
theorem dX6_lineFor_25 : decode cX6_lineFor 25 = .ok (.ifCond .ne 25, 3) := by decide +kernel
theorem dX6_lineFor_28 : decode cX6_lineFor 28 = .ok (.iload_n 2, 1) := by decide +kernel
theorem dX6_lineFor_29 : decode cX6_lineFor 29 = .ok (.aload_n 0, 1) := by decide +kernel
theorem dX6_lineFor_30 : decode cX6_lineFor 30 = .ok (.getfield 24, 3) := by decide +kernel
theorem dX6_lineFor_33 : decode cX6_lineFor 33 = .ok (.iload_n 3, 1) := by decide +kernel
theorem dX6_lineFor_34 : decode cX6_lineFor 34 = .ok (.iaload, 1) := by decide +kernel
theorem dX6_lineFor_35 : decode cX6_lineFor 35 = .ok (.if_icmp .lt 15, 3) := by decide +kernel
theorem dX6_lineFor_38 : decode cX6_lineFor 38 = .ok (.iload_n 2, 1) := by decide +kernel
theorem dX6_lineFor_39 : decode cX6_lineFor 39 = .ok (.aload_n 0, 1) := by decide +kernel
theorem dX6_lineFor_40 : decode cX6_lineFor 40 = .ok (.getfield 27, 3) := by decide +kernel
theorem dX6_lineFor_43 : decode cX6_lineFor 43 = .ok (.iload_n 3, 1) := by decide +kernel
theorem dX6_lineFor_44 : decode cX6_lineFor 44 = .ok (.iaload, 1) := by decide +kernel
theorem dX6_lineFor_45 : decode cX6_lineFor 45 = .ok (.if_icmp .ge 5, 3) := by decide +kernel
theorem dX6_lineFor_48 : decode cX6_lineFor 48 = .ok (.iload_n 3, 1) := by decide +kernel
theorem dX6_lineFor_49 : decode cX6_lineFor 49 = .ok (.ireturn, 1) := by decide +kernel
theorem dX6_lineFor_50 : decode cX6_lineFor 50 = .ok (.iinc 3 1, 3) := by decide +kernel
theorem dX6_lineFor_53 : decode cX6_lineFor 53 = .ok (.goto (-51), 3) := by decide +kernel
theorem dX6_lineFor_56 : decode cX6_lineFor 56 = .ok (.iconst (-1), 1) := by decide +kernel
theorem dX6_lineFor_57 : decode cX6_lineFor 57 = .ok (.ireturn, 1) := by decide +kernel
theorem dX3_obey_0 : decode cX3_obey 0 = .ok (.aload_n 0, 1) := by decide +kernel
theorem dX3_obey_1 : decode cX3_obey 1 = .ok (.aload_n 1, 1) := by decide +kernel
theorem dX3_obey_2 : decode cX3_obey 2 = .ok (.aload_n 0, 1) := by decide +kernel
theorem dX3_obey_3 : decode cX3_obey 3 = .ok (.aload_n 2, 1) := by decide +kernel
theorem dX3_obey_4 : decode cX3_obey 4 = .ok (.invokevirtual 84, 3) := by decide +kernel
theorem dX3_obey_7 : decode cX3_obey 7 = .ok (.aload_n 0, 1) := by decide +kernel
theorem dX3_obey_8 : decode cX3_obey 8 = .ok (.getfield 28, 3) := by decide +kernel
theorem dX3_obey_11 : decode cX3_obey 11 = .ok (.invokevirtual 88, 3) := by decide +kernel
theorem dX3_obey_14 : decode cX3_obey 14 = .ok (.putfield 9, 3) := by decide +kernel
theorem dX3_obey_17 : decode cX3_obey 17 = .ok (.aload_n 0, 1) := by decide +kernel
theorem dX3_obey_18 : decode cX3_obey 18 = .ok (.getfield 9, 3) := by decide +kernel
theorem dX3_obey_21 : decode cX3_obey 21 = .ok (.ifCond .ge 4, 3) := by decide +kernel
theorem dX3_obey_24 : decode cX3_obey 24 = .ok (.return_, 1) := by decide +kernel
theorem dX3_obey_25 : decode cX3_obey 25 = .ok (.aload_n 1, 1) := by decide +kernel
theorem dX3_obey_26 : decode cX3_obey 26 = .ok (.getfield 92, 3) := by decide +kernel
theorem dX3_obey_29 : decode cX3_obey 29 = .ok (.aload_n 0, 1) := by decide +kernel
theorem dX3_obey_30 : decode cX3_obey 30 = .ok (.getfield 9, 3) := by decide +kernel
theorem dX3_obey_33 : decode cX3_obey 33 = .ok (.iaload, 1) := by decide +kernel
theorem dX3_obey_34 : decode cX3_obey 34 = .ok (.istore_n 3, 1) := by decide +kernel
theorem dX3_obey_35 : decode cX3_obey 35 = .ok (.aload_n 0, 1) := by decide +kernel
theorem dX3_obey_36 : decode cX3_obey 36 = .ok (.getfield 9, 3) := by decide +kernel
theorem dX3_obey_39 : decode cX3_obey 39 = .ok (.bipush 12, 2) := by decide +kernel
theorem dX3_obey_41 : decode cX3_obey 41 = .ok (.imul, 1) := by decide +kernel
theorem dX3_obey_42 : decode cX3_obey 42 = .ok (.istore 4, 2) := by decide +kernel
theorem dX3_obey_44 : decode cX3_obey 44 = .ok (.iload 4, 2) := by decide +kernel
theorem dX3_obey_46 : decode cX3_obey 46 = .ok (.iload_n 3, 1) := by decide +kernel
theorem dX3_obey_47 : decode cX3_obey 47 = .ok (.if_icmp .ge 21, 3) := by decide +kernel
theorem dX3_obey_50 : decode cX3_obey 50 = .ok (.aload_n 0, 1) := by decide +kernel
theorem dX3_obey_51 : decode cX3_obey 51 = .ok (.aload_n 1, 1) := by decide +kernel
theorem dX3_obey_52 : decode cX3_obey 52 = .ok (.getfield 95, 3) := by decide +kernel
theorem dX3_obey_55 : decode cX3_obey 55 = .ok (.iload 4, 2) := by decide +kernel
theorem dX3_obey_57 : decode cX3_obey 57 = .ok (.iaload, 1) := by decide +kernel
theorem dX3_obey_58 : decode cX3_obey 58 = .ok (.aload_n 2, 1) := by decide +kernel
theorem dX3_obey_59 : decode cX3_obey 59 = .ok (.invokevirtual 98, 3) := by decide +kernel
theorem dX3_obey_62 : decode cX3_obey 62 = .ok (.iinc 4 1, 3) := by decide +kernel
theorem dX3_obey_65 : decode cX3_obey 65 = .ok (.goto (-21), 3) := by decide +kernel
theorem dX3_obey_68 : decode cX3_obey 68 = .ok (.return_, 1) := by decide +kernel
theorem dX10_tick_0 : decode cX10_tick 0 = .ok (.iload_n 1, 1) := by decide +kernel
theorem dX10_tick_1 : decode cX10_tick 1 = .ok (.ifCond .lt 10, 3) := by decide +kernel
theorem dX10_tick_4 : decode cX10_tick 4 = .ok (.iload_n 1, 1) := by decide +kernel
theorem dX10_tick_5 : decode cX10_tick 5 = .ok (.sipush 5000, 3) := by decide +kernel
theorem dX10_tick_8 : decode cX10_tick 8 = .ok (.if_icmp .le 5, 3) := by decide +kernel
theorem dX10_tick_11 : decode cX10_tick 11 = .ok (.iconst (-1), 1) := by decide +kernel
theorem dX10_tick_12 : decode cX10_tick 12 = .ok (.ireturn, 1) := by decide +kernel
theorem dX10_tick_13 : decode cX10_tick 13 = .ok (.iconst 0, 1) := by decide +kernel
theorem dX10_tick_14 : decode cX10_tick 14 = .ok (.istore_n 2, 1) := by decide +kernel
theorem dX10_tick_15 : decode cX10_tick 15 = .ok (.iconst 0, 1) := by decide +kernel
theorem dX10_tick_16 : decode cX10_tick 16 = .ok (.istore_n 3, 1) := by decide +kernel
theorem dX10_tick_17 : decode cX10_tick 17 = .ok (.iload_n 3, 1) := by decide +kernel
theorem dX10_tick_18 : decode cX10_tick 18 = .ok (.iload_n 1, 1) := by decide +kernel
theorem dX10_tick_19 : decode cX10_tick 19 = .ok (.if_icmp .ge 38, 3) := by decide +kernel
theorem dX10_tick_22 : decode cX10_tick 22 = .ok (.aload_n 0, 1) := by decide +kernel
theorem dX10_tick_23 : decode cX10_tick 23 = .ok (.getfield 56, 3) := by decide +kernel
theorem dX10_tick_26 : decode cX10_tick 26 = .ok (.aload_n 0, 1) := by decide +kernel
theorem dX10_tick_27 : decode cX10_tick 27 = .ok (.getfield 35, 3) := by decide +kernel
theorem dX10_tick_30 : decode cX10_tick 30 = .ok (.aload_n 0, 1) := by decide +kernel
theorem dX10_tick_31 : decode cX10_tick 31 = .ok (.getfield 49, 3) := by decide +kernel
theorem dX10_tick_34 : decode cX10_tick 34 = .ok (.invokevirtual 192, 3) := by decide +kernel
theorem dX10_tick_37 : decode cX10_tick 37 = .ok (.aload_n 0, 1) := by decide +kernel
theorem dX10_tick_38 : decode cX10_tick 38 = .ok (.getfield 56, 3) := by decide +kernel
theorem dX10_tick_41 : decode cX10_tick 41 = .ok (.getfield 115, 3) := by decide +kernel
theorem dX10_tick_44 : decode cX10_tick 44 = .ok (.iconst (-1), 1) := by decide +kernel
theorem dX10_tick_45 : decode cX10_tick 45 = .ok (.if_icmp .eq 6, 3) := by decide +kernel
theorem dX10_tick_48 : decode cX10_tick 48 = .ok (.iinc 2 1, 3) := by decide +kernel
theorem dX10_tick_51 : decode cX10_tick 51 = .ok (.iinc 3 1, 3) := by decide +kernel
theorem dX10_tick_54 : decode cX10_tick 54 = .ok (.goto (-37), 3) := by decide +kernel
theorem dX10_tick_57 : decode cX10_tick 57 = .ok (.iload_n 2, 1) := by decide +kernel
theorem dX10_tick_58 : decode cX10_tick 58 = .ok (.ireturn, 1) := by decide +kernel
theorem dX3_arrive_0 : decode cX3_arrive 0 = .ok (.iconst 0, 1) := by decide +kernel
theorem dX3_arrive_1 : decode cX3_arrive 1 = .ok (.istore 4, 2) := by decide +kernel
theorem dX3_arrive_3 : decode cX3_arrive 3 = .ok (.iload 4, 2) := by decide +kernel
theorem dX3_arrive_5 : decode cX3_arrive 5 = .ok (.iload_n 3, 1) := by decide +kernel
theorem dX3_arrive_6 : decode cX3_arrive 6 = .ok (.if_icmp .ge 40, 3) := by decide +kernel
theorem dX3_arrive_9 : decode cX3_arrive 9 = .ok (.aload_n 0, 1) := by decide +kernel
theorem dX3_arrive_10 : decode cX3_arrive 10 = .ok (.getfield 19, 3) := by decide +kernel
theorem dX3_arrive_13 : decode cX3_arrive 13 = .ok (.aload_n 2, 1) := by decide +kernel
theorem dX3_arrive_14 : decode cX3_arrive 14 = .ok (.getfield 78, 3) := by decide +kernel
theorem dX3_arrive_17 : decode cX3_arrive 17 = .ok (.if_icmp .ne 6, 3) := by decide +kernel
theorem dX3_arrive_20 : decode cX3_arrive 20 = .ok (.iload 4, 2) := by decide +kernel
theorem dX3_arrive_22 : decode cX3_arrive 22 = .ok (.ireturn, 1) := by decide +kernel
theorem dX3_arrive_23 : decode cX3_arrive 23 = .ok (.aload_n 0, 1) := by decide +kernel
theorem dX3_arrive_24 : decode cX3_arrive 24 = .ok (.aload_n 1, 1) := by decide +kernel
theorem dX3_arrive_25 : decode cX3_arrive 25 = .ok (.aload_n 2, 1) := by decide +kernel
theorem dX3_arrive_26 : decode cX3_arrive 26 = .ok (.invokevirtual 121, 3) := by decide +kernel
theorem dX3_arrive_29 : decode cX3_arrive 29 = .ok (.aload_n 0, 1) := by decide +kernel
theorem dX3_arrive_30 : decode cX3_arrive 30 = .ok (.getfield 9, 3) := by decide +kernel
theorem dX3_arrive_33 : decode cX3_arrive 33 = .ok (.iconst (-1), 1) := by decide +kernel
theorem dX3_arrive_34 : decode cX3_arrive 34 = .ok (.if_icmp .ne 6, 3) := by decide +kernel
theorem dX3_arrive_37 : decode cX3_arrive 37 = .ok (.bipush (-2), 2) := by decide +kernel
theorem dX3_arrive_39 : decode cX3_arrive 39 = .ok (.ireturn, 1) := by decide +kernel
theorem dX3_arrive_40 : decode cX3_arrive 40 = .ok (.iinc 4 1, 3) := by decide +kernel
theorem dX3_arrive_43 : decode cX3_arrive 43 = .ok (.goto (-40), 3) := by decide +kernel
theorem dX3_arrive_46 : decode cX3_arrive 46 = .ok (.aload_n 0, 1) := by decide +kernel
theorem dX3_arrive_47 : decode cX3_arrive 47 = .ok (.getfield 19, 3) := by decide +kernel
theorem dX3_arrive_50 : decode cX3_arrive 50 = .ok (.aload_n 2, 1) := by decide +kernel
theorem dX3_arrive_51 : decode cX3_arrive 51 = .ok (.getfield 78, 3) := by decide +kernel
theorem dX3_arrive_54 : decode cX3_arrive 54 = .ok (.if_icmp .ne 7, 3) := by decide +kernel
theorem dX3_arrive_57 : decode cX3_arrive 57 = .ok (.iload_n 3, 1) := by decide +kernel
theorem dX3_arrive_58 : decode cX3_arrive 58 = .ok (.goto 5, 3) := by decide +kernel
theorem dX3_arrive_61 : decode cX3_arrive 61 = .ok (.bipush (-2), 2) := by decide +kernel
theorem dX3_arrive_63 : decode cX3_arrive 63 = .ok (.ireturn, 1) := by decide +kernel
theorem dX10_run_0 : decode cX10_run 0 = .ok (.iload_n 1, 1) := by decide +kernel
theorem dX10_run_1 : decode cX10_run 1 = .ok (.ifCond .lt 10, 3) := by decide +kernel
theorem dX10_run_4 : decode cX10_run 4 = .ok (.iload_n 1, 1) := by decide +kernel
theorem dX10_run_5 : decode cX10_run 5 = .ok (.sipush 5000, 3) := by decide +kernel
theorem dX10_run_8 : decode cX10_run 8 = .ok (.if_icmp .le 5, 3) := by decide +kernel
theorem dX10_run_11 : decode cX10_run 11 = .ok (.iconst (-1), 1) := by decide +kernel
theorem dX10_run_12 : decode cX10_run 12 = .ok (.ireturn, 1) := by decide +kernel
theorem dX10_run_13 : decode cX10_run 13 = .ok (.aload_n 0, 1) := by decide +kernel
theorem dX10_run_14 : decode cX10_run 14 = .ok (.getfield 56, 3) := by decide +kernel
theorem dX10_run_17 : decode cX10_run 17 = .ok (.aload_n 0, 1) := by decide +kernel
theorem dX10_run_18 : decode cX10_run 18 = .ok (.getfield 35, 3) := by decide +kernel
theorem dX10_run_21 : decode cX10_run 21 = .ok (.aload_n 0, 1) := by decide +kernel
theorem dX10_run_22 : decode cX10_run 22 = .ok (.getfield 49, 3) := by decide +kernel
theorem dX10_run_25 : decode cX10_run 25 = .ok (.iload_n 1, 1) := by decide +kernel
theorem dX10_run_26 : decode cX10_run 26 = .ok (.invokevirtual 196, 3) := by decide +kernel
theorem dX10_run_29 : decode cX10_run 29 = .ok (.ireturn, 1) := by decide +kernel
theorem dX10_mouse_0 : decode cX10_mouse 0 = .ok (.iload_n 1, 1) := by decide +kernel
theorem dX10_mouse_1 : decode cX10_mouse 1 = .ok (.tableswitch 75 0 4 #[35, 43, 51, 59, 67], 35) := by decide +kernel
theorem dX10_mouse_36 : decode cX10_mouse 36 = .ok (.aload_n 0, 1) := by decide +kernel
theorem dX10_mouse_37 : decode cX10_mouse 37 = .ok (.getfield 56, 3) := by decide +kernel
theorem dX10_mouse_40 : decode cX10_mouse 40 = .ok (.getfield 173, 3) := by decide +kernel
theorem dX10_mouse_43 : decode cX10_mouse 43 = .ok (.ireturn, 1) := by decide +kernel
theorem dX10_mouse_44 : decode cX10_mouse 44 = .ok (.aload_n 0, 1) := by decide +kernel
theorem dX10_mouse_45 : decode cX10_mouse 45 = .ok (.getfield 56, 3) := by decide +kernel
theorem dX10_mouse_48 : decode cX10_mouse 48 = .ok (.getfield 176, 3) := by decide +kernel
theorem dX10_mouse_51 : decode cX10_mouse 51 = .ok (.ireturn, 1) := by decide +kernel
theorem dX10_mouse_52 : decode cX10_mouse 52 = .ok (.aload_n 0, 1) := by decide +kernel
theorem dX10_mouse_53 : decode cX10_mouse 53 = .ok (.getfield 56, 3) := by decide +kernel
theorem dX10_mouse_56 : decode cX10_mouse 56 = .ok (.getfield 186, 3) := by decide +kernel
theorem dX10_mouse_59 : decode cX10_mouse 59 = .ok (.ireturn, 1) := by decide +kernel
theorem dX10_mouse_60 : decode cX10_mouse 60 = .ok (.aload_n 0, 1) := by decide +kernel
theorem dX10_mouse_61 : decode cX10_mouse 61 = .ok (.getfield 56, 3) := by decide +kernel
theorem dX10_mouse_64 : decode cX10_mouse 64 = .ok (.getfield 189, 3) := by decide +kernel
theorem dX10_mouse_67 : decode cX10_mouse 67 = .ok (.ireturn, 1) := by decide +kernel
theorem dX10_mouse_68 : decode cX10_mouse 68 = .ok (.aload_n 0, 1) := by decide +kernel
theorem dX10_mouse_69 : decode cX10_mouse 69 = .ok (.getfield 56, 3) := by decide +kernel
theorem dX10_mouse_72 : decode cX10_mouse 72 = .ok (.getfield 115, 3) := by decide +kernel
theorem dX10_mouse_75 : decode cX10_mouse 75 = .ok (.ireturn, 1) := by decide +kernel
theorem dX10_mouse_76 : decode cX10_mouse 76 = .ok (.iconst (-1), 1) := by decide +kernel
theorem dX10_mouse_77 : decode cX10_mouse 77 = .ok (.ireturn, 1) := by decide +kernel
theorem dX1_wallsOf_0 : decode cX1_wallsOf 0 = .ok (.iconst 0, 1) := by decide +kernel
theorem dX1_wallsOf_1 : decode cX1_wallsOf 1 = .ok (.istore_n 2, 1) := by decide +kernel
theorem dX1_wallsOf_2 : decode cX1_wallsOf 2 = .ok (.iconst 0, 1) := by decide +kernel
theorem dX1_wallsOf_3 : decode cX1_wallsOf 3 = .ok (.istore_n 3, 1) := by decide +kernel
theorem dX1_wallsOf_4 : decode cX1_wallsOf 4 = .ok (.iload_n 3, 1) := by decide +kernel
theorem dX1_wallsOf_5 : decode cX1_wallsOf 5 = .ok (.iconst 4, 1) := by decide +kernel
theorem dX1_wallsOf_6 : decode cX1_wallsOf 6 = .ok (.if_icmp .ge 24, 3) := by decide +kernel
theorem dX1_wallsOf_9 : decode cX1_wallsOf 9 = .ok (.aload_n 0, 1) := by decide +kernel
theorem dX1_wallsOf_10 : decode cX1_wallsOf 10 = .ok (.iload_n 1, 1) := by decide +kernel
theorem dX1_wallsOf_11 : decode cX1_wallsOf 11 = .ok (.iload_n 3, 1) := by decide +kernel
theorem dX1_wallsOf_12 : decode cX1_wallsOf 12 = .ok (.invokevirtual 42, 3) := by decide +kernel
theorem dX1_wallsOf_15 : decode cX1_wallsOf 15 = .ok (.ifCond .eq 9, 3) := by decide +kernel
theorem dX1_wallsOf_18 : decode cX1_wallsOf 18 = .ok (.iload_n 2, 1) := by decide +kernel
theorem dX1_wallsOf_19 : decode cX1_wallsOf 19 = .ok (.iconst 1, 1) := by decide +kernel
theorem dX1_wallsOf_20 : decode cX1_wallsOf 20 = .ok (.iload_n 3, 1) := by decide +kernel
theorem dX1_wallsOf_21 : decode cX1_wallsOf 21 = .ok (.ishl, 1) := by decide +kernel
theorem dX1_wallsOf_22 : decode cX1_wallsOf 22 = .ok (.ior, 1) := by decide +kernel
theorem dX1_wallsOf_23 : decode cX1_wallsOf 23 = .ok (.istore_n 2, 1) := by decide +kernel
theorem dX1_wallsOf_24 : decode cX1_wallsOf 24 = .ok (.iinc 3 1, 3) := by decide +kernel
theorem dX1_wallsOf_27 : decode cX1_wallsOf 27 = .ok (.goto (-23), 3) := by decide +kernel
theorem dX1_wallsOf_30 : decode cX1_wallsOf 30 = .ok (.iload_n 2, 1) := by decide +kernel
theorem dX1_wallsOf_31 : decode cX1_wallsOf 31 = .ok (.ireturn, 1) := by decide +kernel
theorem dX1_spread_0 : decode cX1_spread 0 = .ok (.lload_n 1, 1) := by decide +kernel
theorem dX1_spread_1 : decode cX1_spread 1 = .ok (.lload_n 1, 1) := by decide +kernel
theorem dX1_spread_2 : decode cX1_spread 2 = .ok (.aload_n 0, 1) := by decide +kernel
theorem dX1_spread_3 : decode cX1_spread 3 = .ok (.getfield 11, 3) := by decide +kernel
theorem dX1_spread_6 : decode cX1_spread 6 = .ok (.iconst 0, 1) := by decide +kernel
theorem dX1_spread_7 : decode cX1_spread 7 = .ok (.laload, 1) := by decide +kernel
theorem dX1_spread_8 : decode cX1_spread 8 = .ok (.ldc2_w 54, 3) := by decide +kernel
theorem dX1_spread_11 : decode cX1_spread 11 = .ok (.lxor, 1) := by decide +kernel
theorem dX1_spread_12 : decode cX1_spread 12 = .ok (.land, 1) := by decide +kernel
theorem dX1_spread_13 : decode cX1_spread 13 = .ok (.aload_n 0, 1) := by decide +kernel
theorem dX1_spread_14 : decode cX1_spread 14 = .ok (.getfield 26, 3) := by decide +kernel
theorem dX1_spread_17 : decode cX1_spread 17 = .ok (.lushr, 1) := by decide +kernel
theorem dX1_spread_18 : decode cX1_spread 18 = .ok (.lor, 1) := by decide +kernel
theorem dX1_spread_19 : decode cX1_spread 19 = .ok (.lload_n 1, 1) := by decide +kernel
theorem dX1_spread_20 : decode cX1_spread 20 = .ok (.aload_n 0, 1) := by decide +kernel
theorem dX1_spread_21 : decode cX1_spread 21 = .ok (.getfield 11, 3) := by decide +kernel
theorem dX1_spread_24 : decode cX1_spread 24 = .ok (.iconst 1, 1) := by decide +kernel
theorem dX1_spread_25 : decode cX1_spread 25 = .ok (.laload, 1) := by decide +kernel
theorem dX1_spread_26 : decode cX1_spread 26 = .ok (.ldc2_w 54, 3) := by decide +kernel
theorem dX1_spread_29 : decode cX1_spread 29 = .ok (.lxor, 1) := by decide +kernel
theorem dX1_spread_30 : decode cX1_spread 30 = .ok (.land, 1) := by decide +kernel
theorem dX1_spread_31 : decode cX1_spread 31 = .ok (.iconst 1, 1) := by decide +kernel
theorem dX1_spread_32 : decode cX1_spread 32 = .ok (.lshl, 1) := by decide +kernel
theorem dX1_spread_33 : decode cX1_spread 33 = .ok (.lor, 1) := by decide +kernel
theorem dX1_spread_34 : decode cX1_spread 34 = .ok (.lload_n 1, 1) := by decide +kernel
theorem dX1_spread_35 : decode cX1_spread 35 = .ok (.aload_n 0, 1) := by decide +kernel
theorem dX1_spread_36 : decode cX1_spread 36 = .ok (.getfield 11, 3) := by decide +kernel
theorem dX1_spread_39 : decode cX1_spread 39 = .ok (.iconst 2, 1) := by decide +kernel
theorem dX1_spread_40 : decode cX1_spread 40 = .ok (.laload, 1) := by decide +kernel
theorem dX1_spread_41 : decode cX1_spread 41 = .ok (.ldc2_w 54, 3) := by decide +kernel
theorem dX1_spread_44 : decode cX1_spread 44 = .ok (.lxor, 1) := by decide +kernel
theorem dX1_spread_45 : decode cX1_spread 45 = .ok (.land, 1) := by decide +kernel
theorem dX1_spread_46 : decode cX1_spread 46 = .ok (.aload_n 0, 1) := by decide +kernel
theorem dX1_spread_47 : decode cX1_spread 47 = .ok (.getfield 26, 3) := by decide +kernel
theorem dX1_spread_50 : decode cX1_spread 50 = .ok (.lshl, 1) := by decide +kernel
theorem dX1_spread_51 : decode cX1_spread 51 = .ok (.lor, 1) := by decide +kernel
theorem dX1_spread_52 : decode cX1_spread 52 = .ok (.lload_n 1, 1) := by decide +kernel
theorem dX1_spread_53 : decode cX1_spread 53 = .ok (.aload_n 0, 1) := by decide +kernel
theorem dX1_spread_54 : decode cX1_spread 54 = .ok (.getfield 11, 3) := by decide +kernel
theorem dX1_spread_57 : decode cX1_spread 57 = .ok (.iconst 3, 1) := by decide +kernel
theorem dX1_spread_58 : decode cX1_spread 58 = .ok (.laload, 1) := by decide +kernel
theorem dX1_spread_59 : decode cX1_spread 59 = .ok (.ldc2_w 54, 3) := by decide +kernel
theorem dX1_spread_62 : decode cX1_spread 62 = .ok (.lxor, 1) := by decide +kernel
theorem dX1_spread_63 : decode cX1_spread 63 = .ok (.land, 1) := by decide +kernel
theorem dX1_spread_64 : decode cX1_spread 64 = .ok (.iconst 1, 1) := by decide +kernel
theorem dX1_spread_65 : decode cX1_spread 65 = .ok (.lushr, 1) := by decide +kernel
theorem dX1_spread_66 : decode cX1_spread 66 = .ok (.lor, 1) := by decide +kernel
theorem dX1_spread_67 : decode cX1_spread 67 = .ok (.lreturn, 1) := by decide +kernel
theorem dX1_far_0 : decode cX1_far 0 = .ok (.lconst 1, 1) := by decide +kernel
theorem dX1_far_1 : decode cX1_far 1 = .ok (.iload_n 1, 1) := by decide +kernel
theorem dX1_far_2 : decode cX1_far 2 = .ok (.lshl, 1) := by decide +kernel
theorem dX1_far_3 : decode cX1_far 3 = .ok (.lstore_n 2, 1) := by decide +kernel
theorem dX1_far_4 : decode cX1_far 4 = .ok (.iconst 0, 1) := by decide +kernel
theorem dX1_far_5 : decode cX1_far 5 = .ok (.istore 4, 2) := by decide +kernel
theorem dX1_far_7 : decode cX1_far 7 = .ok (.iload 4, 2) := by decide +kernel
theorem dX1_far_9 : decode cX1_far 9 = .ok (.aload_n 0, 1) := by decide +kernel
theorem dX1_far_10 : decode cX1_far 10 = .ok (.getfield 33, 3) := by decide +kernel
theorem dX1_far_13 : decode cX1_far 13 = .ok (.if_icmp .ge 31, 3) := by decide +kernel
theorem dX1_far_16 : decode cX1_far 16 = .ok (.lload_n 2, 1) := by decide +kernel
theorem dX1_far_17 : decode cX1_far 17 = .ok (.aload_n 0, 1) := by decide +kernel
theorem dX1_far_18 : decode cX1_far 18 = .ok (.getfield 36, 3) := by decide +kernel
theorem dX1_far_21 : decode cX1_far 21 = .ok (.lushr, 1) := by decide +kernel
theorem dX1_far_22 : decode cX1_far 22 = .ok (.lconst 1, 1) := by decide +kernel
theorem dX1_far_23 : decode cX1_far 23 = .ok (.land, 1) := by decide +kernel
theorem dX1_far_24 : decode cX1_far 24 = .ok (.lconst 0, 1) := by decide +kernel
theorem dX1_far_25 : decode cX1_far 25 = .ok (.lcmp, 1) := by decide +kernel
theorem dX1_far_26 : decode cX1_far 26 = .ok (.ifCond .eq 6, 3) := by decide +kernel
theorem dX1_far_29 : decode cX1_far 29 = .ok (.iload 4, 2) := by decide +kernel
theorem dX1_far_31 : decode cX1_far 31 = .ok (.ireturn, 1) := by decide +kernel
theorem dX1_far_32 : decode cX1_far 32 = .ok (.aload_n 0, 1) := by decide +kernel
theorem dX1_far_33 : decode cX1_far 33 = .ok (.lload_n 2, 1) := by decide +kernel
theorem dX1_far_34 : decode cX1_far 34 = .ok (.invokevirtual 76, 3) := by decide +kernel
theorem dX1_far_37 : decode cX1_far 37 = .ok (.lstore_n 2, 1) := by decide +kernel
theorem dX1_far_38 : decode cX1_far 38 = .ok (.iinc 4 1, 3) := by decide +kernel
theorem dX1_far_41 : decode cX1_far 41 = .ok (.goto (-34), 3) := by decide +kernel
theorem dX1_far_44 : decode cX1_far 44 = .ok (.iconst (-1), 1) := by decide +kernel
theorem dX1_far_45 : decode cX1_far 45 = .ok (.ireturn, 1) := by decide +kernel
theorem dX10_look_0 : decode cX10_look 0 = .ok (.aload_n 0, 1) := by decide +kernel
theorem dX10_look_1 : decode cX10_look 1 = .ok (.getfield 49, 3) := by decide +kernel
theorem dX10_look_4 : decode cX10_look 4 = .ok (.iload_n 1, 1) := by decide +kernel
theorem dX10_look_5 : decode cX10_look 5 = .ok (.invokevirtual 153, 3) := by decide +kernel
theorem dX10_look_8 : decode cX10_look 8 = .ok (.ifCond .ne 13, 3) := by decide +kernel
theorem dX10_look_11 : decode cX10_look 11 = .ok (.new 200, 3) := by decide +kernel
theorem dX10_look_14 : decode cX10_look 14 = .ok (.dup, 1) := by decide +kernel
theorem dX10_look_15 : decode cX10_look 15 = .ok (.ldc 202, 2) := by decide +kernel
theorem dX10_look_17 : decode cX10_look 17 = .ok (.invokespecial 204, 3) := by decide +kernel
theorem dX10_look_20 : decode cX10_look 20 = .ok (.athrow, 1) := by decide +kernel
theorem dX10_look_21 : decode cX10_look 21 = .ok (.iload_n 2, 1) := by decide +kernel
theorem dX10_look_22 : decode cX10_look 22 = .ok (.tableswitch 66 0 3 #[30, 39, 48, 57], 30) := by decide +kernel
theorem dX10_look_52 : decode cX10_look 52 = .ok (.aload_n 0, 1) := by decide +kernel
theorem dX10_look_53 : decode cX10_look 53 = .ok (.getfield 56, 3) := by decide +kernel
theorem dX10_look_56 : decode cX10_look 56 = .ok (.iload_n 1, 1) := by decide +kernel
theorem dX10_look_57 : decode cX10_look 57 = .ok (.invokevirtual 207, 3) := by decide +kernel
theorem dX10_look_60 : decode cX10_look 60 = .ok (.ireturn, 1) := by decide +kernel
theorem dX10_look_61 : decode cX10_look 61 = .ok (.aload_n 0, 1) := by decide +kernel
theorem dX10_look_62 : decode cX10_look 62 = .ok (.getfield 56, 3) := by decide +kernel
theorem dX10_look_65 : decode cX10_look 65 = .ok (.iload_n 1, 1) := by decide +kernel
theorem dX10_look_66 : decode cX10_look 66 = .ok (.invokevirtual 211, 3) := by decide +kernel
theorem dX10_look_69 : decode cX10_look 69 = .ok (.ireturn, 1) := by decide +kernel
theorem dX10_look_70 : decode cX10_look 70 = .ok (.aload_n 0, 1) := by decide +kernel
theorem dX10_look_71 : decode cX10_look 71 = .ok (.getfield 49, 3) := by decide +kernel
theorem dX10_look_74 : decode cX10_look 74 = .ok (.iload_n 1, 1) := by decide +kernel
theorem dX10_look_75 : decode cX10_look 75 = .ok (.invokevirtual 214, 3) := by decide +kernel
theorem dX10_look_78 : decode cX10_look 78 = .ok (.ireturn, 1) := by decide +kernel
theorem dX10_look_79 : decode cX10_look 79 = .ok (.aload_n 0, 1) := by decide +kernel
theorem dX10_look_80 : decode cX10_look 80 = .ok (.getfield 49, 3) := by decide +kernel
theorem dX10_look_83 : decode cX10_look 83 = .ok (.iload_n 1, 1) := by decide +kernel
theorem dX10_look_84 : decode cX10_look 84 = .ok (.invokevirtual 217, 3) := by decide +kernel
theorem dX10_look_87 : decode cX10_look 87 = .ok (.ireturn, 1) := by decide +kernel
theorem dX10_look_88 : decode cX10_look 88 = .ok (.new 220, 3) := by decide +kernel
theorem dX10_look_91 : decode cX10_look 91 = .ok (.dup, 1) := by decide +kernel
theorem dX10_look_92 : decode cX10_look 92 = .ok (.ldc 222, 2) := by decide +kernel
theorem dX10_look_94 : decode cX10_look 94 = .ok (.invokespecial 224, 3) := by decide +kernel
theorem dX10_look_97 : decode cX10_look 97 = .ok (.athrow, 1) := by decide +kernel
theorem dX1_reach_0 : decode cX1_reach 0 = .ok (.lconst 1, 1) := by decide +kernel
theorem dX1_reach_1 : decode cX1_reach 1 = .ok (.aload_n 0, 1) := by decide +kernel
theorem dX1_reach_2 : decode cX1_reach 2 = .ok (.getfield 36, 3) := by decide +kernel
theorem dX1_reach_5 : decode cX1_reach 5 = .ok (.lshl, 1) := by decide +kernel
theorem dX1_reach_6 : decode cX1_reach 6 = .ok (.lstore_n 1, 1) := by decide +kernel
theorem dX1_reach_7 : decode cX1_reach 7 = .ok (.iconst 1, 1) := by decide +kernel
theorem dX1_reach_8 : decode cX1_reach 8 = .ok (.istore_n 3, 1) := by decide +kernel
theorem dX1_reach_9 : decode cX1_reach 9 = .ok (.iload_n 3, 1) := by decide +kernel
theorem dX1_reach_10 : decode cX1_reach 10 = .ok (.aload_n 0, 1) := by decide +kernel
theorem dX1_reach_11 : decode cX1_reach 11 = .ok (.getfield 33, 3) := by decide +kernel
theorem dX1_reach_14 : decode cX1_reach 14 = .ok (.if_icmp .ge 15, 3) := by decide +kernel
theorem dX1_reach_17 : decode cX1_reach 17 = .ok (.aload_n 0, 1) := by decide +kernel
theorem dX1_reach_18 : decode cX1_reach 18 = .ok (.lload_n 1, 1) := by decide +kernel
theorem dX1_reach_19 : decode cX1_reach 19 = .ok (.invokevirtual 76, 3) := by decide +kernel
theorem dX1_reach_22 : decode cX1_reach 22 = .ok (.lstore_n 1, 1) := by decide +kernel
theorem dX1_reach_23 : decode cX1_reach 23 = .ok (.iinc 3 1, 3) := by decide +kernel
theorem dX1_reach_26 : decode cX1_reach 26 = .ok (.goto (-17), 3) := by decide +kernel
theorem dX1_reach_29 : decode cX1_reach 29 = .ok (.lload_n 1, 1) := by decide +kernel
theorem dX1_reach_30 : decode cX1_reach 30 = .ok (.lreturn, 1) := by decide +kernel
theorem dX10_scoutRun_0 : decode cX10_scoutRun 0 = .ok (.iload_n 2, 1) := by decide +kernel
theorem dX10_scoutRun_1 : decode cX10_scoutRun 1 = .ok (.ifCond .eq 14, 3) := by decide +kernel
theorem dX10_scoutRun_4 : decode cX10_scoutRun 4 = .ok (.aload_n 0, 1) := by decide +kernel
theorem dX10_scoutRun_5 : decode cX10_scoutRun 5 = .ok (.getfield 79, 3) := by decide +kernel
theorem dX10_scoutRun_8 : decode cX10_scoutRun 8 = .ok (.iload_n 1, 1) := by decide +kernel
theorem dX10_scoutRun_9 : decode cX10_scoutRun 9 = .ok (.invokevirtual 147, 3) := by decide +kernel
theorem dX10_scoutRun_12 : decode cX10_scoutRun 12 = .ok (.goto 11, 3) := by decide +kernel
theorem dX10_scoutRun_15 : decode cX10_scoutRun 15 = .ok (.aload_n 0, 1) := by decide +kernel
theorem dX10_scoutRun_16 : decode cX10_scoutRun 16 = .ok (.getfield 79, 3) := by decide +kernel
theorem dX10_scoutRun_19 : decode cX10_scoutRun 19 = .ok (.iload_n 1, 1) := by decide +kernel
theorem dX10_scoutRun_20 : decode cX10_scoutRun 20 = .ok (.invokevirtual 331, 3) := by decide +kernel
theorem dX10_scoutRun_23 : decode cX10_scoutRun 23 = .ok (.aload_n 0, 1) := by decide +kernel
theorem dX10_scoutRun_24 : decode cX10_scoutRun 24 = .ok (.getfield 79, 3) := by decide +kernel
theorem dX10_scoutRun_27 : decode cX10_scoutRun 27 = .ok (.iconst 0, 1) := by decide +kernel
theorem dX10_scoutRun_28 : decode cX10_scoutRun 28 = .ok (.putfield 236, 3) := by decide +kernel
theorem dX10_scoutRun_31 : decode cX10_scoutRun 31 = .ok (.aload_n 0, 1) := by decide +kernel
theorem dX10_scoutRun_32 : decode cX10_scoutRun 32 = .ok (.getfield 79, 3) := by decide +kernel
theorem dX10_scoutRun_35 : decode cX10_scoutRun 35 = .ok (.aload_n 0, 1) := by decide +kernel
theorem dX10_scoutRun_36 : decode cX10_scoutRun 36 = .ok (.getfield 35, 3) := by decide +kernel
theorem dX10_scoutRun_39 : decode cX10_scoutRun 39 = .ok (.aload_n 0, 1) := by decide +kernel
theorem dX10_scoutRun_40 : decode cX10_scoutRun 40 = .ok (.getfield 49, 3) := by decide +kernel
theorem dX10_scoutRun_43 : decode cX10_scoutRun 43 = .ok (.sipush 2000, 3) := by decide +kernel
theorem dX10_scoutRun_46 : decode cX10_scoutRun 46 = .ok (.invokevirtual 196, 3) := by decide +kernel
theorem dX10_scoutRun_49 : decode cX10_scoutRun 49 = .ok (.ireturn, 1) := by decide +kernel
theorem dX10_comes_0 : decode cX10_comes 0 = .ok (.iload_n 1, 1) := by decide +kernel
theorem dX10_comes_1 : decode cX10_comes 1 = .ok (.ifCond .lt 8, 3) := by decide +kernel
theorem dX10_comes_4 : decode cX10_comes 4 = .ok (.iload_n 1, 1) := by decide +kernel
theorem dX10_comes_5 : decode cX10_comes 5 = .ok (.iconst 1, 1) := by decide +kernel
theorem dX10_comes_6 : decode cX10_comes 6 = .ok (.if_icmp .le 5, 3) := by decide +kernel
theorem dX10_comes_9 : decode cX10_comes 9 = .ok (.iconst (-1), 1) := by decide +kernel
theorem dX10_comes_10 : decode cX10_comes 10 = .ok (.ireturn, 1) := by decide +kernel
theorem dX10_comes_11 : decode cX10_comes 11 = .ok (.aload_n 0, 1) := by decide +kernel
theorem dX10_comes_12 : decode cX10_comes 12 = .ok (.getfield 49, 3) := by decide +kernel
theorem dX10_comes_15 : decode cX10_comes 15 = .ok (.invokevirtual 225, 3) := by decide +kernel
theorem dX10_comes_18 : decode cX10_comes 18 = .ok (.lstore_n 2, 1) := by decide +kernel
theorem dX10_comes_19 : decode cX10_comes 19 = .ok (.iconst 0, 1) := by decide +kernel
theorem dX10_comes_20 : decode cX10_comes 20 = .ok (.istore 4, 2) := by decide +kernel
theorem dX10_comes_22 : decode cX10_comes 22 = .ok (.iconst (-1), 1) := by decide +kernel
theorem dX10_comes_23 : decode cX10_comes 23 = .ok (.istore 5, 2) := by decide +kernel
theorem dX10_comes_25 : decode cX10_comes 25 = .ok (.iconst 0, 1) := by decide +kernel
theorem dX10_comes_26 : decode cX10_comes 26 = .ok (.istore 6, 2) := by decide +kernel
theorem dX10_comes_28 : decode cX10_comes 28 = .ok (.iload 6, 2) := by decide +kernel
theorem dX10_comes_30 : decode cX10_comes 30 = .ok (.aload_n 0, 1) := by decide +kernel
theorem dX10_comes_31 : decode cX10_comes 31 = .ok (.getfield 49, 3) := by decide +kernel
theorem dX10_comes_34 : decode cX10_comes 34 = .ok (.getfield 229, 3) := by decide +kernel
theorem dX10_comes_37 : decode cX10_comes 37 = .ok (.if_icmp .ge 45, 3) := by decide +kernel
theorem dX10_comes_40 : decode cX10_comes 40 = .ok (.lload_n 2, 1) := by decide +kernel
theorem dX10_comes_41 : decode cX10_comes 41 = .ok (.iload 6, 2) := by decide +kernel
theorem dX10_comes_43 : decode cX10_comes 43 = .ok (.lushr, 1) := by decide +kernel
theorem dX10_comes_44 : decode cX10_comes 44 = .ok (.lconst 1, 1) := by decide +kernel
theorem dX10_comes_45 : decode cX10_comes 45 = .ok (.land, 1) := by decide +kernel
theorem dX10_comes_46 : decode cX10_comes 46 = .ok (.lconst 0, 1) := by decide +kernel
theorem dX10_comes_47 : decode cX10_comes 47 = .ok (.lcmp, 1) := by decide +kernel
theorem dX10_comes_48 : decode cX10_comes 48 = .ok (.ifCond .eq 28, 3) := by decide +kernel
theorem dX10_comes_51 : decode cX10_comes 51 = .ok (.aload_n 0, 1) := by decide +kernel
theorem dX10_comes_52 : decode cX10_comes 52 = .ok (.iload 6, 2) := by decide +kernel
theorem dX10_comes_54 : decode cX10_comes 54 = .ok (.iconst 1, 1) := by decide +kernel
theorem dX10_comes_55 : decode cX10_comes 55 = .ok (.invokevirtual 232, 3) := by decide +kernel
theorem dX10_comes_58 : decode cX10_comes 58 = .ok (.bipush (-2), 2) := by decide +kernel
theorem dX10_comes_60 : decode cX10_comes 60 = .ok (.if_icmp .ne 16, 3) := by decide +kernel
theorem dX10_comes_63 : decode cX10_comes 63 = .ok (.iinc 4 1, 3) := by decide +kernel
theorem dX10_comes_66 : decode cX10_comes 66 = .ok (.iload 5, 2) := by decide +kernel
theorem dX10_comes_68 : decode cX10_comes 68 = .ok (.iconst (-1), 1) := by decide +kernel
theorem dX10_comes_69 : decode cX10_comes 69 = .ok (.if_icmp .ne 7, 3) := by decide +kernel
theorem dX10_comes_72 : decode cX10_comes 72 = .ok (.iload 6, 2) := by decide +kernel
theorem dX10_comes_74 : decode cX10_comes 74 = .ok (.istore 5, 2) := by decide +kernel
theorem dX10_comes_76 : decode cX10_comes 76 = .ok (.iinc 6 1, 3) := by decide +kernel
theorem dX10_comes_79 : decode cX10_comes 79 = .ok (.goto (-51), 3) := by decide +kernel
theorem dX10_comes_82 : decode cX10_comes 82 = .ok (.iload_n 1, 1) := by decide +kernel
theorem dX10_comes_83 : decode cX10_comes 83 = .ok (.ifCond .ne 8, 3) := by decide +kernel
theorem dX10_comes_86 : decode cX10_comes 86 = .ok (.iload 4, 2) := by decide +kernel
theorem dX10_comes_88 : decode cX10_comes 88 = .ok (.goto 5, 3) := by decide +kernel
theorem dX10_comes_91 : decode cX10_comes 91 = .ok (.iload 5, 2) := by decide +kernel
theorem dX10_comes_93 : decode cX10_comes 93 = .ok (.ireturn, 1) := by decide +kernel
theorem dX10_second_0 : decode cX10_second 0 = .ok (.aload_n 0, 1) := by decide +kernel
theorem dX10_second_1 : decode cX10_second 1 = .ok (.getfield 49, 3) := by decide +kernel
theorem dX10_second_4 : decode cX10_second 4 = .ok (.iload_n 1, 1) := by decide +kernel
theorem dX10_second_5 : decode cX10_second 5 = .ok (.invokevirtual 153, 3) := by decide +kernel
theorem dX10_second_8 : decode cX10_second 8 = .ok (.ifCond .eq 12, 3) := by decide +kernel
theorem dX10_second_11 : decode cX10_second 11 = .ok (.iload_n 2, 1) := by decide +kernel
theorem dX10_second_12 : decode cX10_second 12 = .ok (.ifCond .lt 8, 3) := by decide +kernel
theorem dX10_second_15 : decode cX10_second 15 = .ok (.iload_n 2, 1) := by decide +kernel
theorem dX10_second_16 : decode cX10_second 16 = .ok (.iconst 3, 1) := by decide +kernel
theorem dX10_second_17 : decode cX10_second 17 = .ok (.if_icmp .le 5, 3) := by decide +kernel
theorem dX10_second_20 : decode cX10_second 20 = .ok (.iconst (-1), 1) := by decide +kernel
theorem dX10_second_21 : decode cX10_second 21 = .ok (.ireturn, 1) := by decide +kernel
theorem dX10_second_22 : decode cX10_second 22 = .ok (.aload_n 0, 1) := by decide +kernel
theorem dX10_second_23 : decode cX10_second 23 = .ok (.iload_n 1, 1) := by decide +kernel
theorem dX10_second_24 : decode cX10_second 24 = .ok (.iconst 1, 1) := by decide +kernel
theorem dX10_second_25 : decode cX10_second 25 = .ok (.invokevirtual 232, 3) := by decide +kernel
theorem dX10_second_28 : decode cX10_second 28 = .ok (.istore_n 3, 1) := by decide +kernel
theorem dX10_second_29 : decode cX10_second 29 = .ok (.iload_n 2, 1) := by decide +kernel
theorem dX10_second_30 : decode cX10_second 30 = .ok (.iconst 1, 1) := by decide +kernel
theorem dX10_second_31 : decode cX10_second 31 = .ok (.if_icmp .eq 8, 3) := by decide +kernel
theorem dX10_second_34 : decode cX10_second 34 = .ok (.iload_n 2, 1) := by decide +kernel
theorem dX10_second_35 : decode cX10_second 35 = .ok (.iconst 3, 1) := by decide +kernel
theorem dX10_second_36 : decode cX10_second 36 = .ok (.if_icmp .ne 7, 3) := by decide +kernel
theorem dX10_second_39 : decode cX10_second 39 = .ok (.iconst 1, 1) := by decide +kernel
theorem dX10_second_40 : decode cX10_second 40 = .ok (.goto 4, 3) := by decide +kernel
theorem dX10_second_43 : decode cX10_second 43 = .ok (.iconst 0, 1) := by decide +kernel
theorem dX10_second_44 : decode cX10_second 44 = .ok (.istore 4, 2) := by decide +kernel
theorem dX10_second_46 : decode cX10_second 46 = .ok (.iload 4, 2) := by decide +kernel
theorem dX10_second_48 : decode cX10_second 48 = .ok (.ifCond .eq 16, 3) := by decide +kernel
theorem dX10_second_51 : decode cX10_second 51 = .ok (.iload_n 3, 1) := by decide +kernel
theorem dX10_second_52 : decode cX10_second 52 = .ok (.bipush (-2), 2) := by decide +kernel
theorem dX10_second_54 : decode cX10_second 54 = .ok (.if_icmp .eq 10, 3) := by decide +kernel
theorem dX10_second_57 : decode cX10_second 57 = .ok (.aload_n 0, 1) := by decide +kernel
theorem dX10_second_58 : decode cX10_second 58 = .ok (.iload_n 1, 1) := by decide +kernel
theorem dX10_second_59 : decode cX10_second 59 = .ok (.iconst 0, 1) := by decide +kernel
theorem dX10_second_60 : decode cX10_second 60 = .ok (.invokevirtual 232, 3) := by decide +kernel
theorem dX10_second_63 : decode cX10_second 63 = .ok (.istore_n 3, 1) := by decide +kernel
theorem dX10_second_64 : decode cX10_second 64 = .ok (.iload_n 3, 1) := by decide +kernel
theorem dX10_second_65 : decode cX10_second 65 = .ok (.bipush (-2), 2) := by decide +kernel
theorem dX10_second_67 : decode cX10_second 67 = .ok (.if_icmp .ne 6, 3) := by decide +kernel
theorem dX10_second_70 : decode cX10_second 70 = .ok (.bipush (-2), 2) := by decide +kernel
theorem dX10_second_72 : decode cX10_second 72 = .ok (.ireturn, 1) := by decide +kernel
theorem dX10_second_73 : decode cX10_second 73 = .ok (.iload_n 2, 1) := by decide +kernel
theorem dX10_second_74 : decode cX10_second 74 = .ok (.iconst 2, 1) := by decide +kernel
theorem dX10_second_75 : decode cX10_second 75 = .ok (.if_icmp .ge 7, 3) := by decide +kernel
theorem dX10_second_78 : decode cX10_second 78 = .ok (.iload_n 3, 1) := by decide +kernel
theorem dX10_second_79 : decode cX10_second 79 = .ok (.goto 10, 3) := by decide +kernel
theorem dX10_second_82 : decode cX10_second 82 = .ok (.aload_n 0, 1) := by decide +kernel
theorem dX10_second_83 : decode cX10_second 83 = .ok (.getfield 79, 3) := by decide +kernel
theorem dX10_second_86 : decode cX10_second 86 = .ok (.getfield 236, 3) := by decide +kernel
theorem dX10_second_89 : decode cX10_second 89 = .ok (.ireturn, 1) := by decide +kernel
theorem dX8_isSmall_0 : decode cX8_isSmall 0 = .ok (.iload_n 0, 1) := by decide +kernel
theorem dX8_isSmall_1 : decode cX8_isSmall 1 = .ok (.iconst 2, 1) := by decide +kernel
theorem dX8_isSmall_2 : decode cX8_isSmall 2 = .ok (.if_icmp .lt 22, 3) := by decide +kernel
theorem dX8_isSmall_5 : decode cX8_isSmall 5 = .ok (.iload_n 0, 1) := by decide +kernel
theorem dX8_isSmall_6 : decode cX8_isSmall 6 = .ok (.iconst 3, 1) := by decide +kernel
theorem dX8_isSmall_7 : decode cX8_isSmall 7 = .ok (.if_icmp .gt 17, 3) := by decide +kernel
theorem dX8_isSmall_10 : decode cX8_isSmall 10 = .ok (.iload_n 1, 1) := by decide +kernel
theorem dX8_isSmall_11 : decode cX8_isSmall 11 = .ok (.iconst 2, 1) := by decide +kernel
theorem dX8_isSmall_12 : decode cX8_isSmall 12 = .ok (.if_icmp .lt 12, 3) := by decide +kernel
theorem dX8_isSmall_15 : decode cX8_isSmall 15 = .ok (.iload_n 1, 1) := by decide +kernel
theorem dX8_isSmall_16 : decode cX8_isSmall 16 = .ok (.iconst 3, 1) := by decide +kernel
theorem dX8_isSmall_17 : decode cX8_isSmall 17 = .ok (.if_icmp .gt 7, 3) := by decide +kernel
theorem dX8_isSmall_20 : decode cX8_isSmall 20 = .ok (.iconst 1, 1) := by decide +kernel
theorem dX8_isSmall_21 : decode cX8_isSmall 21 = .ok (.goto 4, 3) := by decide +kernel
theorem dX8_isSmall_24 : decode cX8_isSmall 24 = .ok (.iconst 0, 1) := by decide +kernel
theorem dX8_isSmall_25 : decode cX8_isSmall 25 = .ok (.ireturn, 1) := by decide +kernel
theorem dX8_sizeOf_0 : decode cX8_sizeOf 0 = .ok (.iload_n 0, 1) := by decide +kernel
theorem dX8_sizeOf_1 : decode cX8_sizeOf 1 = .ok (.iload_n 1, 1) := by decide +kernel
theorem dX8_sizeOf_2 : decode cX8_sizeOf 2 = .ok (.invokestatic 44, 3) := by decide +kernel
theorem dX8_sizeOf_5 : decode cX8_sizeOf 5 = .ok (.ifCond .eq 15, 3) := by decide +kernel
theorem dX8_sizeOf_8 : decode cX8_sizeOf 8 = .ok (.iload_n 0, 1) := by decide +kernel
theorem dX8_sizeOf_9 : decode cX8_sizeOf 9 = .ok (.iconst 2, 1) := by decide +kernel
theorem dX8_sizeOf_10 : decode cX8_sizeOf 10 = .ok (.isub, 1) := by decide +kernel
theorem dX8_sizeOf_11 : decode cX8_sizeOf 11 = .ok (.iconst 2, 1) := by decide +kernel
theorem dX8_sizeOf_12 : decode cX8_sizeOf 12 = .ok (.imul, 1) := by decide +kernel
theorem dX8_sizeOf_13 : decode cX8_sizeOf 13 = .ok (.iload_n 1, 1) := by decide +kernel
theorem dX8_sizeOf_14 : decode cX8_sizeOf 14 = .ok (.iadd, 1) := by decide +kernel
theorem dX8_sizeOf_15 : decode cX8_sizeOf 15 = .ok (.iconst 2, 1) := by decide +kernel
theorem dX8_sizeOf_16 : decode cX8_sizeOf 16 = .ok (.isub, 1) := by decide +kernel
theorem dX8_sizeOf_17 : decode cX8_sizeOf 17 = .ok (.goto 4, 3) := by decide +kernel
theorem dX8_sizeOf_20 : decode cX8_sizeOf 20 = .ok (.iconst 0, 1) := by decide +kernel
theorem dX8_sizeOf_21 : decode cX8_sizeOf 21 = .ok (.ireturn, 1) := by decide +kernel
theorem dX8_layFirst_0 : decode cX8_layFirst 0 = .ok (.aload_n 0, 1) := by decide +kernel
theorem dX8_layFirst_1 : decode cX8_layFirst 1 = .ok (.getfield 12, 3) := by decide +kernel
theorem dX8_layFirst_4 : decode cX8_layFirst 4 = .ok (.iload_n 1, 1) := by decide +kernel
theorem dX8_layFirst_5 : decode cX8_layFirst 5 = .ok (.iload_n 2, 1) := by decide +kernel
theorem dX8_layFirst_6 : decode cX8_layFirst 6 = .ok (.invokevirtual 55, 3) := by decide +kernel
theorem dX8_layFirst_9 : decode cX8_layFirst 9 = .ok (.aload_n 0, 1) := by decide +kernel
theorem dX8_layFirst_10 : decode cX8_layFirst 10 = .ok (.iconst 0, 1) := by decide +kernel
theorem dX8_layFirst_11 : decode cX8_layFirst 11 = .ok (.putfield 59, 3) := by decide +kernel
theorem dX8_layFirst_14 : decode cX8_layFirst 14 = .ok (.aload_n 0, 1) := by decide +kernel
theorem dX8_layFirst_15 : decode cX8_layFirst 15 = .ok (.iconst (-1), 1) := by decide +kernel
theorem dX8_layFirst_16 : decode cX8_layFirst 16 = .ok (.putfield 62, 3) := by decide +kernel
theorem dX8_layFirst_19 : decode cX8_layFirst 19 = .ok (.aload_n 0, 1) := by decide +kernel
theorem dX8_layFirst_20 : decode cX8_layFirst 20 = .ok (.aload_n 0, 1) := by decide +kernel
theorem dX8_layFirst_21 : decode cX8_layFirst 21 = .ok (.getfield 12, 3) := by decide +kernel
theorem dX8_layFirst_24 : decode cX8_layFirst 24 = .ok (.invokevirtual 65, 3) := by decide +kernel
theorem dX8_layFirst_27 : decode cX8_layFirst 27 = .ok (.putfield 69, 3) := by decide +kernel
theorem dX8_layFirst_30 : decode cX8_layFirst 30 = .ok (.return_, 1) := by decide +kernel
theorem dX1_wallNumbers_0 : decode cX1_wallNumbers 0 = .ok (.aload_n 0, 1) := by decide +kernel
theorem dX1_wallNumbers_1 : decode cX1_wallNumbers 1 = .ok (.getfield 30, 3) := by decide +kernel
theorem dX1_wallNumbers_4 : decode cX1_wallNumbers 4 = .ok (.aload_n 0, 1) := by decide +kernel
theorem dX1_wallNumbers_5 : decode cX1_wallNumbers 5 = .ok (.getfield 26, 3) := by decide +kernel
theorem dX1_wallNumbers_8 : decode cX1_wallNumbers 8 = .ok (.iconst 1, 1) := by decide +kernel
theorem dX1_wallNumbers_9 : decode cX1_wallNumbers 9 = .ok (.isub, 1) := by decide +kernel
theorem dX1_wallNumbers_10 : decode cX1_wallNumbers 10 = .ok (.imul, 1) := by decide +kernel
theorem dX1_wallNumbers_11 : decode cX1_wallNumbers 11 = .ok (.aload_n 0, 1) := by decide +kernel
theorem dX1_wallNumbers_12 : decode cX1_wallNumbers 12 = .ok (.getfield 30, 3) := by decide +kernel
theorem dX1_wallNumbers_15 : decode cX1_wallNumbers 15 = .ok (.iconst 1, 1) := by decide +kernel
theorem dX1_wallNumbers_16 : decode cX1_wallNumbers 16 = .ok (.isub, 1) := by decide +kernel
theorem dX1_wallNumbers_17 : decode cX1_wallNumbers 17 = .ok (.aload_n 0, 1) := by decide +kernel
theorem dX1_wallNumbers_18 : decode cX1_wallNumbers 18 = .ok (.getfield 26, 3) := by decide +kernel
theorem dX1_wallNumbers_21 : decode cX1_wallNumbers 21 = .ok (.imul, 1) := by decide +kernel
theorem dX1_wallNumbers_22 : decode cX1_wallNumbers 22 = .ok (.iadd, 1) := by decide +kernel
theorem dX1_wallNumbers_23 : decode cX1_wallNumbers 23 = .ok (.ireturn, 1) := by decide +kernel
theorem dX1_squareOfWall_0 : decode cX1_squareOfWall 0 = .ok (.aload_n 0, 1) := by decide +kernel
theorem dX1_squareOfWall_1 : decode cX1_squareOfWall 1 = .ok (.getfield 26, 3) := by decide +kernel
theorem dX1_squareOfWall_4 : decode cX1_squareOfWall 4 = .ok (.iconst 1, 1) := by decide +kernel
theorem dX1_squareOfWall_5 : decode cX1_squareOfWall 5 = .ok (.isub, 1) := by decide +kernel
theorem dX1_squareOfWall_6 : decode cX1_squareOfWall 6 = .ok (.istore_n 2, 1) := by decide +kernel
theorem dX1_squareOfWall_7 : decode cX1_squareOfWall 7 = .ok (.aload_n 0, 1) := by decide +kernel
theorem dX1_squareOfWall_8 : decode cX1_squareOfWall 8 = .ok (.getfield 30, 3) := by decide +kernel
theorem dX1_squareOfWall_11 : decode cX1_squareOfWall 11 = .ok (.iload_n 2, 1) := by decide +kernel
theorem dX1_squareOfWall_12 : decode cX1_squareOfWall 12 = .ok (.imul, 1) := by decide +kernel
theorem dX1_squareOfWall_13 : decode cX1_squareOfWall 13 = .ok (.istore_n 3, 1) := by decide +kernel
theorem dX1_squareOfWall_14 : decode cX1_squareOfWall 14 = .ok (.iload_n 1, 1) := by decide +kernel
theorem dX1_squareOfWall_15 : decode cX1_squareOfWall 15 = .ok (.iload_n 3, 1) := by decide +kernel
theorem dX1_squareOfWall_16 : decode cX1_squareOfWall 16 = .ok (.if_icmp .ge 8, 3) := by decide +kernel
theorem dX1_squareOfWall_19 : decode cX1_squareOfWall 19 = .ok (.iload_n 2, 1) := by decide +kernel
theorem dX1_squareOfWall_20 : decode cX1_squareOfWall 20 = .ok (.iconst 1, 1) := by decide +kernel
theorem dX1_squareOfWall_21 : decode cX1_squareOfWall 21 = .ok (.if_icmp .ge 7, 3) := by decide +kernel
theorem dX1_squareOfWall_24 : decode cX1_squareOfWall 24 = .ok (.iload_n 1, 1) := by decide +kernel
theorem dX1_squareOfWall_25 : decode cX1_squareOfWall 25 = .ok (.iload_n 3, 1) := by decide +kernel
theorem dX1_squareOfWall_26 : decode cX1_squareOfWall 26 = .ok (.isub, 1) := by decide +kernel
theorem dX1_squareOfWall_27 : decode cX1_squareOfWall 27 = .ok (.ireturn, 1) := by decide +kernel
theorem dX1_squareOfWall_28 : decode cX1_squareOfWall 28 = .ok (.iload_n 1, 1) := by decide +kernel
theorem dX1_squareOfWall_29 : decode cX1_squareOfWall 29 = .ok (.iload_n 2, 1) := by decide +kernel
theorem dX1_squareOfWall_30 : decode cX1_squareOfWall 30 = .ok (.idiv, 1) := by decide +kernel
theorem dX1_squareOfWall_31 : decode cX1_squareOfWall 31 = .ok (.aload_n 0, 1) := by decide +kernel
theorem dX1_squareOfWall_32 : decode cX1_squareOfWall 32 = .ok (.getfield 26, 3) := by decide +kernel
theorem dX1_squareOfWall_35 : decode cX1_squareOfWall 35 = .ok (.imul, 1) := by decide +kernel
theorem dX1_squareOfWall_36 : decode cX1_squareOfWall 36 = .ok (.iload_n 1, 1) := by decide +kernel
theorem dX1_squareOfWall_37 : decode cX1_squareOfWall 37 = .ok (.iload_n 2, 1) := by decide +kernel
theorem dX1_squareOfWall_38 : decode cX1_squareOfWall 38 = .ok (.irem, 1) := by decide +kernel
theorem dX1_squareOfWall_39 : decode cX1_squareOfWall 39 = .ok (.iadd, 1) := by decide +kernel
theorem dX1_squareOfWall_40 : decode cX1_squareOfWall 40 = .ok (.ireturn, 1) := by decide +kernel
theorem dX1_sideOfWall_0 : decode cX1_sideOfWall 0 = .ok (.iload_n 1, 1) := by decide +kernel
theorem dX1_sideOfWall_1 : decode cX1_sideOfWall 1 = .ok (.aload_n 0, 1) := by decide +kernel
theorem dX1_sideOfWall_2 : decode cX1_sideOfWall 2 = .ok (.getfield 30, 3) := by decide +kernel
theorem dX1_sideOfWall_5 : decode cX1_sideOfWall 5 = .ok (.aload_n 0, 1) := by decide +kernel
theorem dX1_sideOfWall_6 : decode cX1_sideOfWall 6 = .ok (.getfield 26, 3) := by decide +kernel
theorem dX1_sideOfWall_9 : decode cX1_sideOfWall 9 = .ok (.iconst 1, 1) := by decide +kernel
theorem dX1_sideOfWall_10 : decode cX1_sideOfWall 10 = .ok (.isub, 1) := by decide +kernel
theorem dX1_sideOfWall_11 : decode cX1_sideOfWall 11 = .ok (.imul, 1) := by decide +kernel
theorem dX1_sideOfWall_12 : decode cX1_sideOfWall 12 = .ok (.if_icmp .ge 7, 3) := by decide +kernel
theorem dX1_sideOfWall_15 : decode cX1_sideOfWall 15 = .ok (.iconst 1, 1) := by decide +kernel
theorem dX1_sideOfWall_16 : decode cX1_sideOfWall 16 = .ok (.goto 4, 3) := by decide +kernel
theorem dX1_sideOfWall_19 : decode cX1_sideOfWall 19 = .ok (.iconst 2, 1) := by decide +kernel
theorem dX1_sideOfWall_20 : decode cX1_sideOfWall 20 = .ok (.ireturn, 1) := by decide +kernel
theorem dX1_raiseWalls_0 : decode cX1_raiseWalls 0 = .ok (.aload_n 0, 1) := by decide +kernel
theorem dX1_raiseWalls_1 : decode cX1_raiseWalls 1 = .ok (.invokevirtual 39, 3) := by decide +kernel
theorem dX1_raiseWalls_4 : decode cX1_raiseWalls 4 = .ok (.iconst 0, 1) := by decide +kernel
theorem dX1_raiseWalls_5 : decode cX1_raiseWalls 5 = .ok (.istore_n 2, 1) := by decide +kernel
theorem dX1_raiseWalls_6 : decode cX1_raiseWalls 6 = .ok (.iload_n 2, 1) := by decide +kernel
theorem dX1_raiseWalls_7 : decode cX1_raiseWalls 7 = .ok (.aload_n 0, 1) := by decide +kernel
theorem dX1_raiseWalls_8 : decode cX1_raiseWalls 8 = .ok (.invokevirtual 72, 3) := by decide +kernel
theorem dX1_raiseWalls_11 : decode cX1_raiseWalls 11 = .ok (.if_icmp .ge 32, 3) := by decide +kernel
theorem dX1_raiseWalls_14 : decode cX1_raiseWalls 14 = .ok (.iload_n 1, 1) := by decide +kernel
theorem dX1_raiseWalls_15 : decode cX1_raiseWalls 15 = .ok (.iload_n 2, 1) := by decide +kernel
theorem dX1_raiseWalls_16 : decode cX1_raiseWalls 16 = .ok (.ishr, 1) := by decide +kernel
theorem dX1_raiseWalls_17 : decode cX1_raiseWalls 17 = .ok (.iconst 1, 1) := by decide +kernel
theorem dX1_raiseWalls_18 : decode cX1_raiseWalls 18 = .ok (.iand, 1) := by decide +kernel
theorem dX1_raiseWalls_19 : decode cX1_raiseWalls 19 = .ok (.ifCond .eq 18, 3) := by decide +kernel
theorem dX1_raiseWalls_22 : decode cX1_raiseWalls 22 = .ok (.aload_n 0, 1) := by decide +kernel
theorem dX1_raiseWalls_23 : decode cX1_raiseWalls 23 = .ok (.aload_n 0, 1) := by decide +kernel
theorem dX1_raiseWalls_24 : decode cX1_raiseWalls 24 = .ok (.iload_n 2, 1) := by decide +kernel
theorem dX1_raiseWalls_25 : decode cX1_raiseWalls 25 = .ok (.invokevirtual 62, 3) := by decide +kernel
theorem dX1_raiseWalls_28 : decode cX1_raiseWalls 28 = .ok (.aload_n 0, 1) := by decide +kernel
theorem dX1_raiseWalls_29 : decode cX1_raiseWalls 29 = .ok (.iload_n 2, 1) := by decide +kernel
theorem dX1_raiseWalls_30 : decode cX1_raiseWalls 30 = .ok (.invokevirtual 66, 3) := by decide +kernel
theorem dX1_raiseWalls_33 : decode cX1_raiseWalls 33 = .ok (.iconst 1, 1) := by decide +kernel
theorem dX1_raiseWalls_34 : decode cX1_raiseWalls 34 = .ok (.invokevirtual 69, 3) := by decide +kernel
theorem dX1_raiseWalls_37 : decode cX1_raiseWalls 37 = .ok (.iinc 2 1, 3) := by decide +kernel
theorem dX1_raiseWalls_40 : decode cX1_raiseWalls 40 = .ok (.goto (-34), 3) := by decide +kernel
theorem dX1_raiseWalls_43 : decode cX1_raiseWalls 43 = .ok (.return_, 1) := by decide +kernel
theorem dX8_nextStart_0 : decode cX8_nextStart 0 = .ok (.iconst 1, 1) := by decide +kernel
theorem dX8_nextStart_1 : decode cX8_nextStart 1 = .ok (.aload_n 0, 1) := by decide +kernel
theorem dX8_nextStart_2 : decode cX8_nextStart 2 = .ok (.getfield 12, 3) := by decide +kernel
theorem dX8_nextStart_5 : decode cX8_nextStart 5 = .ok (.invokevirtual 73, 3) := by decide +kernel
theorem dX8_nextStart_8 : decode cX8_nextStart 8 = .ok (.ishl, 1) := by decide +kernel
theorem dX8_nextStart_9 : decode cX8_nextStart 9 = .ok (.istore_n 1, 1) := by decide +kernel
theorem dX8_nextStart_10 : decode cX8_nextStart 10 = .ok (.iconst 0, 1) := by decide +kernel
theorem dX8_nextStart_11 : decode cX8_nextStart 11 = .ok (.istore_n 2, 1) := by decide +kernel
theorem dX8_nextStart_12 : decode cX8_nextStart 12 = .ok (.iload_n 2, 1) := by decide +kernel
theorem dX8_nextStart_13 : decode cX8_nextStart 13 = .ok (.ldc 77, 2) := by decide +kernel
theorem dX8_nextStart_15 : decode cX8_nextStart 15 = .ok (.if_icmp .ge 98, 3) := by decide +kernel
theorem dX8_nextStart_18 : decode cX8_nextStart 18 = .ok (.aload_n 0, 1) := by decide +kernel
theorem dX8_nextStart_19 : decode cX8_nextStart 19 = .ok (.dup, 1) := by decide +kernel
theorem dX8_nextStart_20 : decode cX8_nextStart 20 = .ok (.getfield 62, 3) := by decide +kernel
theorem dX8_nextStart_23 : decode cX8_nextStart 23 = .ok (.iconst 1, 1) := by decide +kernel
theorem dX8_nextStart_24 : decode cX8_nextStart 24 = .ok (.iadd, 1) := by decide +kernel
theorem dX8_nextStart_25 : decode cX8_nextStart 25 = .ok (.putfield 62, 3) := by decide +kernel
theorem dX8_nextStart_28 : decode cX8_nextStart 28 = .ok (.aload_n 0, 1) := by decide +kernel
theorem dX8_nextStart_29 : decode cX8_nextStart 29 = .ok (.getfield 62, 3) := by decide +kernel
theorem dX8_nextStart_32 : decode cX8_nextStart 32 = .ok (.aload_n 0, 1) := by decide +kernel
theorem dX8_nextStart_33 : decode cX8_nextStart 33 = .ok (.getfield 12, 3) := by decide +kernel
theorem dX8_nextStart_36 : decode cX8_nextStart 36 = .ok (.getfield 78, 3) := by decide +kernel
theorem dX8_nextStart_39 : decode cX8_nextStart 39 = .ok (.if_icmp .lt 40, 3) := by decide +kernel
theorem dX8_nextStart_42 : decode cX8_nextStart 42 = .ok (.aload_n 0, 1) := by decide +kernel
theorem dX8_nextStart_43 : decode cX8_nextStart 43 = .ok (.iconst 0, 1) := by decide +kernel
theorem dX8_nextStart_44 : decode cX8_nextStart 44 = .ok (.putfield 62, 3) := by decide +kernel
theorem dX8_nextStart_47 : decode cX8_nextStart 47 = .ok (.aload_n 0, 1) := by decide +kernel
theorem dX8_nextStart_48 : decode cX8_nextStart 48 = .ok (.dup, 1) := by decide +kernel
theorem dX8_nextStart_49 : decode cX8_nextStart 49 = .ok (.getfield 59, 3) := by decide +kernel
theorem dX8_nextStart_52 : decode cX8_nextStart 52 = .ok (.iconst 1, 1) := by decide +kernel
theorem dX8_nextStart_53 : decode cX8_nextStart 53 = .ok (.iadd, 1) := by decide +kernel
theorem dX8_nextStart_54 : decode cX8_nextStart 54 = .ok (.putfield 59, 3) := by decide +kernel
theorem dX8_nextStart_57 : decode cX8_nextStart 57 = .ok (.aload_n 0, 1) := by decide +kernel
theorem dX8_nextStart_58 : decode cX8_nextStart 58 = .ok (.getfield 12, 3) := by decide +kernel
theorem dX8_nextStart_61 : decode cX8_nextStart 61 = .ok (.aload_n 0, 1) := by decide +kernel
theorem dX8_nextStart_62 : decode cX8_nextStart 62 = .ok (.getfield 59, 3) := by decide +kernel
theorem dX8_nextStart_65 : decode cX8_nextStart 65 = .ok (.invokevirtual 81, 3) := by decide +kernel
theorem dX8_nextStart_68 : decode cX8_nextStart 68 = .ok (.aload_n 0, 1) := by decide +kernel
theorem dX8_nextStart_69 : decode cX8_nextStart 69 = .ok (.aload_n 0, 1) := by decide +kernel
theorem dX8_nextStart_70 : decode cX8_nextStart 70 = .ok (.getfield 12, 3) := by decide +kernel
theorem dX8_nextStart_73 : decode cX8_nextStart 73 = .ok (.invokevirtual 65, 3) := by decide +kernel
theorem dX8_nextStart_76 : decode cX8_nextStart 76 = .ok (.putfield 69, 3) := by decide +kernel
theorem dX8_nextStart_79 : decode cX8_nextStart 79 = .ok (.aload_n 0, 1) := by decide +kernel
theorem dX8_nextStart_80 : decode cX8_nextStart 80 = .ok (.getfield 59, 3) := by decide +kernel
theorem dX8_nextStart_83 : decode cX8_nextStart 83 = .ok (.iload_n 1, 1) := by decide +kernel
theorem dX8_nextStart_84 : decode cX8_nextStart 84 = .ok (.if_icmp .lt 5, 3) := by decide +kernel
theorem dX8_nextStart_87 : decode cX8_nextStart 87 = .ok (.iconst 0, 1) := by decide +kernel
theorem dX8_nextStart_88 : decode cX8_nextStart 88 = .ok (.ireturn, 1) := by decide +kernel
theorem dX8_nextStart_89 : decode cX8_nextStart 89 = .ok (.aload_n 0, 1) := by decide +kernel
theorem dX8_nextStart_90 : decode cX8_nextStart 90 = .ok (.getfield 69, 3) := by decide +kernel
theorem dX8_nextStart_93 : decode cX8_nextStart 93 = .ok (.aload_n 0, 1) := by decide +kernel
theorem dX8_nextStart_94 : decode cX8_nextStart 94 = .ok (.getfield 62, 3) := by decide +kernel
theorem dX8_nextStart_97 : decode cX8_nextStart 97 = .ok (.lushr, 1) := by decide +kernel
theorem dX8_nextStart_98 : decode cX8_nextStart 98 = .ok (.lconst 1, 1) := by decide +kernel
theorem dX8_nextStart_99 : decode cX8_nextStart 99 = .ok (.land, 1) := by decide +kernel
theorem dX8_nextStart_100 : decode cX8_nextStart 100 = .ok (.lconst 0, 1) := by decide +kernel
theorem dX8_nextStart_101 : decode cX8_nextStart 101 = .ok (.lcmp, 1) := by decide +kernel
theorem dX8_nextStart_102 : decode cX8_nextStart 102 = .ok (.ifCond .eq 5, 3) := by decide +kernel
theorem dX8_nextStart_105 : decode cX8_nextStart 105 = .ok (.iconst 1, 1) := by decide +kernel
theorem dX8_nextStart_106 : decode cX8_nextStart 106 = .ok (.ireturn, 1) := by decide +kernel
theorem dX8_nextStart_107 : decode cX8_nextStart 107 = .ok (.iinc 2 1, 3) := by decide +kernel
theorem dX8_nextStart_110 : decode cX8_nextStart 110 = .ok (.goto (-98), 3) := by decide +kernel
theorem dX8_nextStart_113 : decode cX8_nextStart 113 = .ok (.iconst 0, 1) := by decide +kernel
theorem dX8_nextStart_114 : decode cX8_nextStart 114 = .ok (.ireturn, 1) := by decide +kernel
theorem dX8_findHeld_0 : decode cX8_findHeld 0 = .ok (.aload_n 0, 1) := by decide +kernel
theorem dX8_findHeld_1 : decode cX8_findHeld 1 = .ok (.getfield 28, 3) := by decide +kernel
theorem dX8_findHeld_4 : decode cX8_findHeld 4 = .ok (.iload_n 2, 1) := by decide +kernel
theorem dX8_findHeld_5 : decode cX8_findHeld 5 = .ok (.bipush (-2), 2) := by decide +kernel
theorem dX8_findHeld_7 : decode cX8_findHeld 7 = .ok (.iastore, 1) := by decide +kernel
theorem dX8_findHeld_8 : decode cX8_findHeld 8 = .ok (.aload_n 0, 1) := by decide +kernel
theorem dX8_findHeld_9 : decode cX8_findHeld 9 = .ok (.getfield 32, 3) := by decide +kernel
theorem dX8_findHeld_12 : decode cX8_findHeld 12 = .ok (.iload_n 2, 1) := by decide +kernel
theorem dX8_findHeld_13 : decode cX8_findHeld 13 = .ok (.bipush (-2), 2) := by decide +kernel
theorem dX8_findHeld_15 : decode cX8_findHeld 15 = .ok (.iastore, 1) := by decide +kernel
theorem dX8_findHeld_16 : decode cX8_findHeld 16 = .ok (.iconst 0, 1) := by decide +kernel
theorem dX8_findHeld_17 : decode cX8_findHeld 17 = .ok (.istore_n 3, 1) := by decide +kernel
theorem dX8_findHeld_18 : decode cX8_findHeld 18 = .ok (.iload_n 3, 1) := by decide +kernel
theorem dX8_findHeld_19 : decode cX8_findHeld 19 = .ok (.ldc 77, 2) := by decide +kernel
theorem dX8_findHeld_21 : decode cX8_findHeld 21 = .ok (.if_icmp .ge 67, 3) := by decide +kernel
theorem dX8_findHeld_24 : decode cX8_findHeld 24 = .ok (.aload_n 0, 1) := by decide +kernel
theorem dX8_findHeld_25 : decode cX8_findHeld 25 = .ok (.invokevirtual 96, 3) := by decide +kernel
theorem dX8_findHeld_28 : decode cX8_findHeld 28 = .ok (.ifCond .eq 60, 3) := by decide +kernel
theorem dX8_findHeld_31 : decode cX8_findHeld 31 = .ok (.aload_n 0, 1) := by decide +kernel
theorem dX8_findHeld_32 : decode cX8_findHeld 32 = .ok (.getfield 21, 3) := by decide +kernel
theorem dX8_findHeld_35 : decode cX8_findHeld 35 = .ok (.aload_n 0, 1) := by decide +kernel
theorem dX8_findHeld_36 : decode cX8_findHeld 36 = .ok (.getfield 62, 3) := by decide +kernel
theorem dX8_findHeld_39 : decode cX8_findHeld 39 = .ok (.invokevirtual 100, 3) := by decide +kernel
theorem dX8_findHeld_42 : decode cX8_findHeld 42 = .ok (.aload_n 0, 1) := by decide +kernel
theorem dX8_findHeld_43 : decode cX8_findHeld 43 = .ok (.getfield 21, 3) := by decide +kernel
theorem dX8_findHeld_46 : decode cX8_findHeld 46 = .ok (.aload_n 1, 1) := by decide +kernel
theorem dX8_findHeld_47 : decode cX8_findHeld 47 = .ok (.aload_n 0, 1) := by decide +kernel
theorem dX8_findHeld_48 : decode cX8_findHeld 48 = .ok (.getfield 12, 3) := by decide +kernel
theorem dX8_findHeld_51 : decode cX8_findHeld 51 = .ok (.bipush 100, 2) := by decide +kernel
theorem dX8_findHeld_53 : decode cX8_findHeld 53 = .ok (.invokevirtual 103, 3) := by decide +kernel
theorem dX8_findHeld_56 : decode cX8_findHeld 56 = .ok (.bipush (-2), 2) := by decide +kernel
theorem dX8_findHeld_58 : decode cX8_findHeld 58 = .ok (.if_icmp .ne 24, 3) := by decide +kernel
theorem dX8_findHeld_61 : decode cX8_findHeld 61 = .ok (.aload_n 0, 1) := by decide +kernel
theorem dX8_findHeld_62 : decode cX8_findHeld 62 = .ok (.getfield 28, 3) := by decide +kernel
theorem dX8_findHeld_65 : decode cX8_findHeld 65 = .ok (.iload_n 2, 1) := by decide +kernel
theorem dX8_findHeld_66 : decode cX8_findHeld 66 = .ok (.aload_n 0, 1) := by decide +kernel
theorem dX8_findHeld_67 : decode cX8_findHeld 67 = .ok (.getfield 59, 3) := by decide +kernel
theorem dX8_findHeld_70 : decode cX8_findHeld 70 = .ok (.iastore, 1) := by decide +kernel
theorem dX8_findHeld_71 : decode cX8_findHeld 71 = .ok (.aload_n 0, 1) := by decide +kernel
theorem dX8_findHeld_72 : decode cX8_findHeld 72 = .ok (.getfield 32, 3) := by decide +kernel
theorem dX8_findHeld_75 : decode cX8_findHeld 75 = .ok (.iload_n 2, 1) := by decide +kernel
theorem dX8_findHeld_76 : decode cX8_findHeld 76 = .ok (.aload_n 0, 1) := by decide +kernel
theorem dX8_findHeld_77 : decode cX8_findHeld 77 = .ok (.getfield 62, 3) := by decide +kernel
theorem dX8_findHeld_80 : decode cX8_findHeld 80 = .ok (.iastore, 1) := by decide +kernel
theorem dX8_findHeld_81 : decode cX8_findHeld 81 = .ok (.return_, 1) := by decide +kernel
theorem dX8_findHeld_82 : decode cX8_findHeld 82 = .ok (.iinc 3 1, 3) := by decide +kernel
theorem dX8_findHeld_85 : decode cX8_findHeld 85 = .ok (.goto (-67), 3) := by decide +kernel
theorem dX8_findHeld_88 : decode cX8_findHeld 88 = .ok (.return_, 1) := by decide +kernel
theorem dX8_heldBy_0 : decode cX8_heldBy 0 = .ok (.iload_n 2, 1) := by decide +kernel
theorem dX8_heldBy_1 : decode cX8_heldBy 1 = .ok (.iload_n 3, 1) := by decide +kernel
theorem dX8_heldBy_2 : decode cX8_heldBy 2 = .ok (.invokestatic 85, 3) := by decide +kernel
theorem dX8_heldBy_5 : decode cX8_heldBy 5 = .ok (.istore 5, 2) := by decide +kernel
theorem dX8_heldBy_7 : decode cX8_heldBy 7 = .ok (.aload_n 0, 1) := by decide +kernel
theorem dX8_heldBy_8 : decode cX8_heldBy 8 = .ok (.getfield 48, 3) := by decide +kernel
theorem dX8_heldBy_11 : decode cX8_heldBy 11 = .ok (.iload 5, 2) := by decide +kernel
theorem dX8_heldBy_13 : decode cX8_heldBy 13 = .ok (.ishr, 1) := by decide +kernel
theorem dX8_heldBy_14 : decode cX8_heldBy 14 = .ok (.iconst 1, 1) := by decide +kernel
theorem dX8_heldBy_15 : decode cX8_heldBy 15 = .ok (.iand, 1) := by decide +kernel
theorem dX8_heldBy_16 : decode cX8_heldBy 16 = .ok (.ifCond .ne 29, 3) := by decide +kernel
theorem dX8_heldBy_19 : decode cX8_heldBy 19 = .ok (.aload_n 0, 1) := by decide +kernel
theorem dX8_heldBy_20 : decode cX8_heldBy 20 = .ok (.iload_n 2, 1) := by decide +kernel
theorem dX8_heldBy_21 : decode cX8_heldBy 21 = .ok (.iload_n 3, 1) := by decide +kernel
theorem dX8_heldBy_22 : decode cX8_heldBy 22 = .ok (.invokevirtual 89, 3) := by decide +kernel
theorem dX8_heldBy_25 : decode cX8_heldBy 25 = .ok (.aload_n 0, 1) := by decide +kernel
theorem dX8_heldBy_26 : decode cX8_heldBy 26 = .ok (.aload_n 1, 1) := by decide +kernel
theorem dX8_heldBy_27 : decode cX8_heldBy 27 = .ok (.iload 5, 2) := by decide +kernel
theorem dX8_heldBy_29 : decode cX8_heldBy 29 = .ok (.invokevirtual 92, 3) := by decide +kernel
theorem dX8_heldBy_32 : decode cX8_heldBy 32 = .ok (.aload_n 0, 1) := by decide +kernel
theorem dX8_heldBy_33 : decode cX8_heldBy 33 = .ok (.dup, 1) := by decide +kernel
theorem dX8_heldBy_34 : decode cX8_heldBy 34 = .ok (.getfield 48, 3) := by decide +kernel
theorem dX8_heldBy_37 : decode cX8_heldBy 37 = .ok (.iconst 1, 1) := by decide +kernel
theorem dX8_heldBy_38 : decode cX8_heldBy 38 = .ok (.iload 5, 2) := by decide +kernel
theorem dX8_heldBy_40 : decode cX8_heldBy 40 = .ok (.ishl, 1) := by decide +kernel
theorem dX8_heldBy_41 : decode cX8_heldBy 41 = .ok (.ior, 1) := by decide +kernel
theorem dX8_heldBy_42 : decode cX8_heldBy 42 = .ok (.putfield 48, 3) := by decide +kernel
theorem dX8_heldBy_45 : decode cX8_heldBy 45 = .ok (.iload 4, 2) := by decide +kernel
theorem dX8_heldBy_47 : decode cX8_heldBy 47 = .ok (.ifCond .ne 13, 3) := by decide +kernel
theorem dX8_heldBy_50 : decode cX8_heldBy 50 = .ok (.aload_n 0, 1) := by decide +kernel
theorem dX8_heldBy_51 : decode cX8_heldBy 51 = .ok (.getfield 28, 3) := by decide +kernel
theorem dX8_heldBy_54 : decode cX8_heldBy 54 = .ok (.iload 5, 2) := by decide +kernel
theorem dX8_heldBy_56 : decode cX8_heldBy 56 = .ok (.iaload, 1) := by decide +kernel
theorem dX8_heldBy_57 : decode cX8_heldBy 57 = .ok (.goto 10, 3) := by decide +kernel
theorem dX8_heldBy_60 : decode cX8_heldBy 60 = .ok (.aload_n 0, 1) := by decide +kernel
theorem dX8_heldBy_61 : decode cX8_heldBy 61 = .ok (.getfield 32, 3) := by decide +kernel
theorem dX8_heldBy_64 : decode cX8_heldBy 64 = .ok (.iload 5, 2) := by decide +kernel
theorem dX8_heldBy_66 : decode cX8_heldBy 66 = .ok (.iaload, 1) := by decide +kernel
theorem dX8_heldBy_67 : decode cX8_heldBy 67 = .ok (.ireturn, 1) := by decide +kernel
theorem dX10_held_0 : decode cX10_held 0 = .ok (.iload_n 1, 1) := by decide +kernel
theorem dX10_held_1 : decode cX10_held 1 = .ok (.iload_n 2, 1) := by decide +kernel
theorem dX10_held_2 : decode cX10_held 2 = .ok (.invokestatic 239, 3) := by decide +kernel
theorem dX10_held_5 : decode cX10_held 5 = .ok (.ifCond .eq 12, 3) := by decide +kernel
theorem dX10_held_8 : decode cX10_held 8 = .ok (.iload_n 3, 1) := by decide +kernel
theorem dX10_held_9 : decode cX10_held 9 = .ok (.ifCond .lt 8, 3) := by decide +kernel
theorem dX10_held_12 : decode cX10_held 12 = .ok (.iload_n 3, 1) := by decide +kernel
theorem dX10_held_13 : decode cX10_held 13 = .ok (.iconst 1, 1) := by decide +kernel
theorem dX10_held_14 : decode cX10_held 14 = .ok (.if_icmp .le 5, 3) := by decide +kernel
theorem dX10_held_17 : decode cX10_held 17 = .ok (.iconst (-1), 1) := by decide +kernel
theorem dX10_held_18 : decode cX10_held 18 = .ok (.ireturn, 1) := by decide +kernel
theorem dX10_held_19 : decode cX10_held 19 = .ok (.aload_n 0, 1) := by decide +kernel
theorem dX10_held_20 : decode cX10_held 20 = .ok (.getfield 85, 3) := by decide +kernel
theorem dX10_held_23 : decode cX10_held 23 = .ok (.aload_n 0, 1) := by decide +kernel
theorem dX10_held_24 : decode cX10_held 24 = .ok (.getfield 35, 3) := by decide +kernel
theorem dX10_held_27 : decode cX10_held 27 = .ok (.iload_n 1, 1) := by decide +kernel
theorem dX10_held_28 : decode cX10_held 28 = .ok (.iload_n 2, 1) := by decide +kernel
theorem dX10_held_29 : decode cX10_held 29 = .ok (.iload_n 3, 1) := by decide +kernel
theorem dX10_held_30 : decode cX10_held 30 = .ok (.invokevirtual 242, 3) := by decide +kernel
theorem dX10_held_33 : decode cX10_held 33 = .ok (.ireturn, 1) := by decide +kernel
theorem dX8_findLongest_0 : decode cX8_findLongest 0 = .ok (.aload_n 0, 1) := by decide +kernel
theorem dX8_findLongest_1 : decode cX8_findLongest 1 = .ok (.getfield 35, 3) := by decide +kernel
theorem dX8_findLongest_4 : decode cX8_findLongest 4 = .ok (.iload_n 2, 1) := by decide +kernel
theorem dX8_findLongest_5 : decode cX8_findLongest 5 = .ok (.iconst (-1), 1) := by decide +kernel
theorem dX8_findLongest_6 : decode cX8_findLongest 6 = .ok (.iastore, 1) := by decide +kernel
theorem dX8_findLongest_7 : decode cX8_findLongest 7 = .ok (.iconst 0, 1) := by decide +kernel
theorem dX8_findLongest_8 : decode cX8_findLongest 8 = .ok (.istore_n 3, 1) := by decide +kernel
theorem dX8_findLongest_9 : decode cX8_findLongest 9 = .ok (.iload_n 3, 1) := by decide +kernel
theorem dX8_findLongest_10 : decode cX8_findLongest 10 = .ok (.ldc 77, 2) := by decide +kernel
theorem dX8_findLongest_12 : decode cX8_findLongest 12 = .ok (.if_icmp .ge 82, 3) := by decide +kernel
theorem dX8_findLongest_15 : decode cX8_findLongest 15 = .ok (.aload_n 0, 1) := by decide +kernel
theorem dX8_findLongest_16 : decode cX8_findLongest 16 = .ok (.invokevirtual 96, 3) := by decide +kernel
theorem dX8_findLongest_19 : decode cX8_findLongest 19 = .ok (.ifCond .eq 75, 3) := by decide +kernel
theorem dX8_findLongest_22 : decode cX8_findLongest 22 = .ok (.aload_n 0, 1) := by decide +kernel
theorem dX8_findLongest_23 : decode cX8_findLongest 23 = .ok (.getfield 21, 3) := by decide +kernel
theorem dX8_findLongest_26 : decode cX8_findLongest 26 = .ok (.aload_n 0, 1) := by decide +kernel
theorem dX8_findLongest_27 : decode cX8_findLongest 27 = .ok (.getfield 62, 3) := by decide +kernel
theorem dX8_findLongest_30 : decode cX8_findLongest 30 = .ok (.invokevirtual 100, 3) := by decide +kernel
theorem dX8_findLongest_33 : decode cX8_findLongest 33 = .ok (.aload_n 0, 1) := by decide +kernel
theorem dX8_findLongest_34 : decode cX8_findLongest 34 = .ok (.getfield 21, 3) := by decide +kernel
theorem dX8_findLongest_37 : decode cX8_findLongest 37 = .ok (.aload_n 1, 1) := by decide +kernel
theorem dX8_findLongest_38 : decode cX8_findLongest 38 = .ok (.aload_n 0, 1) := by decide +kernel
theorem dX8_findLongest_39 : decode cX8_findLongest 39 = .ok (.getfield 12, 3) := by decide +kernel
theorem dX8_findLongest_42 : decode cX8_findLongest 42 = .ok (.bipush 100, 2) := by decide +kernel
theorem dX8_findLongest_44 : decode cX8_findLongest 44 = .ok (.invokevirtual 103, 3) := by decide +kernel
theorem dX8_findLongest_47 : decode cX8_findLongest 47 = .ok (.istore 4, 2) := by decide +kernel
theorem dX8_findLongest_49 : decode cX8_findLongest 49 = .ok (.iload 4, 2) := by decide +kernel
theorem dX8_findLongest_51 : decode cX8_findLongest 51 = .ok (.aload_n 0, 1) := by decide +kernel
theorem dX8_findLongest_52 : decode cX8_findLongest 52 = .ok (.getfield 35, 3) := by decide +kernel
theorem dX8_findLongest_55 : decode cX8_findLongest 55 = .ok (.iload_n 2, 1) := by decide +kernel
theorem dX8_findLongest_56 : decode cX8_findLongest 56 = .ok (.iaload, 1) := by decide +kernel
theorem dX8_findLongest_57 : decode cX8_findLongest 57 = .ok (.if_icmp .le 31, 3) := by decide +kernel
theorem dX8_findLongest_60 : decode cX8_findLongest 60 = .ok (.aload_n 0, 1) := by decide +kernel
theorem dX8_findLongest_61 : decode cX8_findLongest 61 = .ok (.getfield 35, 3) := by decide +kernel
theorem dX8_findLongest_64 : decode cX8_findLongest 64 = .ok (.iload_n 2, 1) := by decide +kernel
theorem dX8_findLongest_65 : decode cX8_findLongest 65 = .ok (.iload 4, 2) := by decide +kernel
theorem dX8_findLongest_67 : decode cX8_findLongest 67 = .ok (.iastore, 1) := by decide +kernel
theorem dX8_findLongest_68 : decode cX8_findLongest 68 = .ok (.aload_n 0, 1) := by decide +kernel
theorem dX8_findLongest_69 : decode cX8_findLongest 69 = .ok (.getfield 38, 3) := by decide +kernel
theorem dX8_findLongest_72 : decode cX8_findLongest 72 = .ok (.iload_n 2, 1) := by decide +kernel
theorem dX8_findLongest_73 : decode cX8_findLongest 73 = .ok (.aload_n 0, 1) := by decide +kernel
theorem dX8_findLongest_74 : decode cX8_findLongest 74 = .ok (.getfield 59, 3) := by decide +kernel
theorem dX8_findLongest_77 : decode cX8_findLongest 77 = .ok (.iastore, 1) := by decide +kernel
theorem dX8_findLongest_78 : decode cX8_findLongest 78 = .ok (.aload_n 0, 1) := by decide +kernel
theorem dX8_findLongest_79 : decode cX8_findLongest 79 = .ok (.getfield 41, 3) := by decide +kernel
theorem dX8_findLongest_82 : decode cX8_findLongest 82 = .ok (.iload_n 2, 1) := by decide +kernel
theorem dX8_findLongest_83 : decode cX8_findLongest 83 = .ok (.aload_n 0, 1) := by decide +kernel
theorem dX8_findLongest_84 : decode cX8_findLongest 84 = .ok (.getfield 62, 3) := by decide +kernel
theorem dX8_findLongest_87 : decode cX8_findLongest 87 = .ok (.iastore, 1) := by decide +kernel
theorem dX8_findLongest_88 : decode cX8_findLongest 88 = .ok (.iinc 3 1, 3) := by decide +kernel
theorem dX8_findLongest_91 : decode cX8_findLongest 91 = .ok (.goto (-82), 3) := by decide +kernel
theorem dX8_findLongest_94 : decode cX8_findLongest 94 = .ok (.return_, 1) := by decide +kernel
theorem dX8_longestBy_0 : decode cX8_longestBy 0 = .ok (.iload_n 2, 1) := by decide +kernel
theorem dX8_longestBy_1 : decode cX8_longestBy 1 = .ok (.iload_n 3, 1) := by decide +kernel
theorem dX8_longestBy_2 : decode cX8_longestBy 2 = .ok (.invokestatic 85, 3) := by decide +kernel
theorem dX8_longestBy_5 : decode cX8_longestBy 5 = .ok (.istore 5, 2) := by decide +kernel
theorem dX8_longestBy_7 : decode cX8_longestBy 7 = .ok (.aload_n 0, 1) := by decide +kernel
theorem dX8_longestBy_8 : decode cX8_longestBy 8 = .ok (.getfield 52, 3) := by decide +kernel
theorem dX8_longestBy_11 : decode cX8_longestBy 11 = .ok (.iload 5, 2) := by decide +kernel
theorem dX8_longestBy_13 : decode cX8_longestBy 13 = .ok (.ishr, 1) := by decide +kernel
theorem dX8_longestBy_14 : decode cX8_longestBy 14 = .ok (.iconst 1, 1) := by decide +kernel
theorem dX8_longestBy_15 : decode cX8_longestBy 15 = .ok (.iand, 1) := by decide +kernel
theorem dX8_longestBy_16 : decode cX8_longestBy 16 = .ok (.ifCond .ne 29, 3) := by decide +kernel
theorem dX8_longestBy_19 : decode cX8_longestBy 19 = .ok (.aload_n 0, 1) := by decide +kernel
theorem dX8_longestBy_20 : decode cX8_longestBy 20 = .ok (.iload_n 2, 1) := by decide +kernel
theorem dX8_longestBy_21 : decode cX8_longestBy 21 = .ok (.iload_n 3, 1) := by decide +kernel
theorem dX8_longestBy_22 : decode cX8_longestBy 22 = .ok (.invokevirtual 89, 3) := by decide +kernel
theorem dX8_longestBy_25 : decode cX8_longestBy 25 = .ok (.aload_n 0, 1) := by decide +kernel
theorem dX8_longestBy_26 : decode cX8_longestBy 26 = .ok (.aload_n 1, 1) := by decide +kernel
theorem dX8_longestBy_27 : decode cX8_longestBy 27 = .ok (.iload 5, 2) := by decide +kernel
theorem dX8_longestBy_29 : decode cX8_longestBy 29 = .ok (.invokevirtual 107, 3) := by decide +kernel
theorem dX8_longestBy_32 : decode cX8_longestBy 32 = .ok (.aload_n 0, 1) := by decide +kernel
theorem dX8_longestBy_33 : decode cX8_longestBy 33 = .ok (.dup, 1) := by decide +kernel
theorem dX8_longestBy_34 : decode cX8_longestBy 34 = .ok (.getfield 52, 3) := by decide +kernel
theorem dX8_longestBy_37 : decode cX8_longestBy 37 = .ok (.iconst 1, 1) := by decide +kernel
theorem dX8_longestBy_38 : decode cX8_longestBy 38 = .ok (.iload 5, 2) := by decide +kernel
theorem dX8_longestBy_40 : decode cX8_longestBy 40 = .ok (.ishl, 1) := by decide +kernel
theorem dX8_longestBy_41 : decode cX8_longestBy 41 = .ok (.ior, 1) := by decide +kernel
theorem dX8_longestBy_42 : decode cX8_longestBy 42 = .ok (.putfield 52, 3) := by decide +kernel
theorem dX8_longestBy_45 : decode cX8_longestBy 45 = .ok (.iload 4, 2) := by decide +kernel
theorem dX8_longestBy_47 : decode cX8_longestBy 47 = .ok (.ifCond .ne 11, 3) := by decide +kernel
theorem dX8_longestBy_50 : decode cX8_longestBy 50 = .ok (.aload_n 0, 1) := by decide +kernel
theorem dX8_longestBy_51 : decode cX8_longestBy 51 = .ok (.getfield 35, 3) := by decide +kernel
theorem dX8_longestBy_54 : decode cX8_longestBy 54 = .ok (.iload 5, 2) := by decide +kernel
theorem dX8_longestBy_56 : decode cX8_longestBy 56 = .ok (.iaload, 1) := by decide +kernel
theorem dX8_longestBy_57 : decode cX8_longestBy 57 = .ok (.ireturn, 1) := by decide +kernel
theorem dX8_longestBy_58 : decode cX8_longestBy 58 = .ok (.iload 4, 2) := by decide +kernel
theorem dX8_longestBy_60 : decode cX8_longestBy 60 = .ok (.iconst 1, 1) := by decide +kernel
theorem dX8_longestBy_61 : decode cX8_longestBy 61 = .ok (.if_icmp .ne 13, 3) := by decide +kernel
theorem dX8_longestBy_64 : decode cX8_longestBy 64 = .ok (.aload_n 0, 1) := by decide +kernel
theorem dX8_longestBy_65 : decode cX8_longestBy 65 = .ok (.getfield 38, 3) := by decide +kernel
theorem dX8_longestBy_68 : decode cX8_longestBy 68 = .ok (.iload 5, 2) := by decide +kernel
theorem dX8_longestBy_70 : decode cX8_longestBy 70 = .ok (.iaload, 1) := by decide +kernel
theorem dX8_longestBy_71 : decode cX8_longestBy 71 = .ok (.goto 10, 3) := by decide +kernel
theorem dX8_longestBy_74 : decode cX8_longestBy 74 = .ok (.aload_n 0, 1) := by decide +kernel
theorem dX8_longestBy_75 : decode cX8_longestBy 75 = .ok (.getfield 41, 3) := by decide +kernel
theorem dX8_longestBy_78 : decode cX8_longestBy 78 = .ok (.iload 5, 2) := by decide +kernel
theorem dX8_longestBy_80 : decode cX8_longestBy 80 = .ok (.iaload, 1) := by decide +kernel
theorem dX8_longestBy_81 : decode cX8_longestBy 81 = .ok (.ireturn, 1) := by decide +kernel
theorem dX10_longest_0 : decode cX10_longest 0 = .ok (.iload_n 1, 1) := by decide +kernel
theorem dX10_longest_1 : decode cX10_longest 1 = .ok (.iload_n 2, 1) := by decide +kernel
theorem dX10_longest_2 : decode cX10_longest 2 = .ok (.invokestatic 239, 3) := by decide +kernel
theorem dX10_longest_5 : decode cX10_longest 5 = .ok (.ifCond .eq 12, 3) := by decide +kernel
theorem dX10_longest_8 : decode cX10_longest 8 = .ok (.iload_n 3, 1) := by decide +kernel
theorem dX10_longest_9 : decode cX10_longest 9 = .ok (.ifCond .lt 8, 3) := by decide +kernel
theorem dX10_longest_12 : decode cX10_longest 12 = .ok (.iload_n 3, 1) := by decide +kernel
theorem dX10_longest_13 : decode cX10_longest 13 = .ok (.iconst 2, 1) := by decide +kernel
theorem dX10_longest_14 : decode cX10_longest 14 = .ok (.if_icmp .le 5, 3) := by decide +kernel
theorem dX10_longest_17 : decode cX10_longest 17 = .ok (.iconst (-1), 1) := by decide +kernel
theorem dX10_longest_18 : decode cX10_longest 18 = .ok (.ireturn, 1) := by decide +kernel
theorem dX10_longest_19 : decode cX10_longest 19 = .ok (.aload_n 0, 1) := by decide +kernel
theorem dX10_longest_20 : decode cX10_longest 20 = .ok (.getfield 85, 3) := by decide +kernel
theorem dX10_longest_23 : decode cX10_longest 23 = .ok (.aload_n 0, 1) := by decide +kernel
theorem dX10_longest_24 : decode cX10_longest 24 = .ok (.getfield 35, 3) := by decide +kernel
theorem dX10_longest_27 : decode cX10_longest 27 = .ok (.iload_n 1, 1) := by decide +kernel
theorem dX10_longest_28 : decode cX10_longest 28 = .ok (.iload_n 2, 1) := by decide +kernel
theorem dX10_longest_29 : decode cX10_longest 29 = .ok (.iload_n 3, 1) := by decide +kernel
theorem dX10_longest_30 : decode cX10_longest 30 = .ok (.invokevirtual 246, 3) := by decide +kernel
theorem dX10_longest_33 : decode cX10_longest 33 = .ok (.ireturn, 1) := by decide +kernel
theorem dX6_usesYes_0 : decode cX6_usesYes 0 = .ok (.iconst 1, 1) := by decide +kernel
theorem dX6_usesYes_1 : decode cX6_usesYes 1 = .ok (.bipush 13, 2) := by decide +kernel
theorem dX6_usesYes_3 : decode cX6_usesYes 3 = .ok (.iload_n 1, 1) := by decide +kernel
theorem dX6_usesYes_4 : decode cX6_usesYes 4 = .ok (.iadd, 1) := by decide +kernel
theorem dX6_usesYes_5 : decode cX6_usesYes 5 = .ok (.ishl, 1) := by decide +kernel
theorem dX6_usesYes_6 : decode cX6_usesYes 6 = .ok (.istore_n 2, 1) := by decide +kernel
theorem dX6_usesYes_7 : decode cX6_usesYes 7 = .ok (.iconst 0, 1) := by decide +kernel
theorem dX6_usesYes_8 : decode cX6_usesYes 8 = .ok (.istore_n 3, 1) := by decide +kernel
theorem dX6_usesYes_9 : decode cX6_usesYes 9 = .ok (.iconst 0, 1) := by decide +kernel
theorem dX6_usesYes_10 : decode cX6_usesYes 10 = .ok (.istore 4, 2) := by decide +kernel
theorem dX6_usesYes_12 : decode cX6_usesYes 12 = .ok (.iconst 0, 1) := by decide +kernel
theorem dX6_usesYes_13 : decode cX6_usesYes 13 = .ok (.istore 5, 2) := by decide +kernel
theorem dX6_usesYes_15 : decode cX6_usesYes 15 = .ok (.iload 5, 2) := by decide +kernel
theorem dX6_usesYes_17 : decode cX6_usesYes 17 = .ok (.aload_n 0, 1) := by decide +kernel
theorem dX6_usesYes_18 : decode cX6_usesYes 18 = .ok (.getfield 30, 3) := by decide +kernel
theorem dX6_usesYes_21 : decode cX6_usesYes 21 = .ok (.if_icmp .ge 80, 3) := by decide +kernel
theorem dX6_usesYes_24 : decode cX6_usesYes 24 = .ok (.iload_n 3, 1) := by decide +kernel
theorem dX6_usesYes_25 : decode cX6_usesYes 25 = .ok (.aload_n 0, 1) := by decide +kernel
theorem dX6_usesYes_26 : decode cX6_usesYes 26 = .ok (.getfield 18, 3) := by decide +kernel
theorem dX6_usesYes_29 : decode cX6_usesYes 29 = .ok (.iload 5, 2) := by decide +kernel
theorem dX6_usesYes_31 : decode cX6_usesYes 31 = .ok (.iaload, 1) := by decide +kernel
theorem dX6_usesYes_32 : decode cX6_usesYes 32 = .ok (.iload_n 2, 1) := by decide +kernel
theorem dX6_usesYes_33 : decode cX6_usesYes 33 = .ok (.iand, 1) := by decide +kernel
theorem dX6_usesYes_34 : decode cX6_usesYes 34 = .ok (.ifCond .eq 7, 3) := by decide +kernel
theorem dX6_usesYes_37 : decode cX6_usesYes 37 = .ok (.iconst 1, 1) := by decide +kernel
theorem dX6_usesYes_38 : decode cX6_usesYes 38 = .ok (.goto 4, 3) := by decide +kernel
theorem dX6_usesYes_41 : decode cX6_usesYes 41 = .ok (.iconst 0, 1) := by decide +kernel
theorem dX6_usesYes_42 : decode cX6_usesYes 42 = .ok (.ior, 1) := by decide +kernel
theorem dX6_usesYes_43 : decode cX6_usesYes 43 = .ok (.istore_n 3, 1) := by decide +kernel
theorem dX6_usesYes_44 : decode cX6_usesYes 44 = .ok (.iload 5, 2) := by decide +kernel
theorem dX6_usesYes_46 : decode cX6_usesYes 46 = .ok (.bipush 12, 2) := by decide +kernel
theorem dX6_usesYes_48 : decode cX6_usesYes 48 = .ok (.imul, 1) := by decide +kernel
theorem dX6_usesYes_49 : decode cX6_usesYes 49 = .ok (.istore 6, 2) := by decide +kernel
theorem dX6_usesYes_51 : decode cX6_usesYes 51 = .ok (.iload 6, 2) := by decide +kernel
theorem dX6_usesYes_53 : decode cX6_usesYes 53 = .ok (.aload_n 0, 1) := by decide +kernel
theorem dX6_usesYes_54 : decode cX6_usesYes 54 = .ok (.getfield 15, 3) := by decide +kernel
theorem dX6_usesYes_57 : decode cX6_usesYes 57 = .ok (.iload 5, 2) := by decide +kernel
theorem dX6_usesYes_59 : decode cX6_usesYes 59 = .ok (.iaload, 1) := by decide +kernel
theorem dX6_usesYes_60 : decode cX6_usesYes 60 = .ok (.if_icmp .ge 35, 3) := by decide +kernel
theorem dX6_usesYes_63 : decode cX6_usesYes 63 = .ok (.iload 4, 2) := by decide +kernel
theorem dX6_usesYes_65 : decode cX6_usesYes 65 = .ok (.aload_n 0, 1) := by decide +kernel
theorem dX6_usesYes_66 : decode cX6_usesYes 66 = .ok (.getfield 11, 3) := by decide +kernel
theorem dX6_usesYes_69 : decode cX6_usesYes 69 = .ok (.iload 6, 2) := by decide +kernel
theorem dX6_usesYes_71 : decode cX6_usesYes 71 = .ok (.iaload, 1) := by decide +kernel
theorem dX6_usesYes_72 : decode cX6_usesYes 72 = .ok (.bipush 9, 2) := by decide +kernel
theorem dX6_usesYes_74 : decode cX6_usesYes 74 = .ok (.iload_n 1, 1) := by decide +kernel
theorem dX6_usesYes_75 : decode cX6_usesYes 75 = .ok (.invokestatic 34, 3) := by decide +kernel
theorem dX6_usesYes_78 : decode cX6_usesYes 78 = .ok (.if_icmp .ne 7, 3) := by decide +kernel
theorem dX6_usesYes_81 : decode cX6_usesYes 81 = .ok (.iconst 1, 1) := by decide +kernel
theorem dX6_usesYes_82 : decode cX6_usesYes 82 = .ok (.goto 4, 3) := by decide +kernel
theorem dX6_usesYes_85 : decode cX6_usesYes 85 = .ok (.iconst 0, 1) := by decide +kernel
theorem dX6_usesYes_86 : decode cX6_usesYes 86 = .ok (.ior, 1) := by decide +kernel
theorem dX6_usesYes_87 : decode cX6_usesYes 87 = .ok (.istore 4, 2) := by decide +kernel
theorem dX6_usesYes_89 : decode cX6_usesYes 89 = .ok (.iinc 6 1, 3) := by decide +kernel
theorem dX6_usesYes_92 : decode cX6_usesYes 92 = .ok (.goto (-41), 3) := by decide +kernel
theorem dX6_usesYes_95 : decode cX6_usesYes 95 = .ok (.iinc 5 1, 3) := by decide +kernel
theorem dX6_usesYes_98 : decode cX6_usesYes 98 = .ok (.goto (-83), 3) := by decide +kernel
theorem dX6_usesYes_101 : decode cX6_usesYes 101 = .ok (.iload_n 3, 1) := by decide +kernel
theorem dX6_usesYes_102 : decode cX6_usesYes 102 = .ok (.ifCond .eq 12, 3) := by decide +kernel
theorem dX6_usesYes_105 : decode cX6_usesYes 105 = .ok (.iload 4, 2) := by decide +kernel
theorem dX6_usesYes_107 : decode cX6_usesYes 107 = .ok (.ifCond .eq 7, 3) := by decide +kernel
theorem dX6_usesYes_110 : decode cX6_usesYes 110 = .ok (.iconst 1, 1) := by decide +kernel
theorem dX6_usesYes_111 : decode cX6_usesYes 111 = .ok (.goto 4, 3) := by decide +kernel
theorem dX6_usesYes_114 : decode cX6_usesYes 114 = .ok (.iconst 0, 1) := by decide +kernel
theorem dX6_usesYes_115 : decode cX6_usesYes 115 = .ok (.ireturn, 1) := by decide +kernel
theorem dX3_standsAs_0 : decode cX3_standsAs 0 = .ok (.aload_n 0, 1) := by decide +kernel
theorem dX3_standsAs_1 : decode cX3_standsAs 1 = .ok (.getfield 19, 3) := by decide +kernel
theorem dX3_standsAs_4 : decode cX3_standsAs 4 = .ok (.aload_n 1, 1) := by decide +kernel
theorem dX3_standsAs_5 : decode cX3_standsAs 5 = .ok (.getfield 19, 3) := by decide +kernel
theorem dX3_standsAs_8 : decode cX3_standsAs 8 = .ok (.if_icmp .ne 18, 3) := by decide +kernel
theorem dX3_standsAs_11 : decode cX3_standsAs 11 = .ok (.aload_n 0, 1) := by decide +kernel
theorem dX3_standsAs_12 : decode cX3_standsAs 12 = .ok (.getfield 22, 3) := by decide +kernel
theorem dX3_standsAs_15 : decode cX3_standsAs 15 = .ok (.aload_n 1, 1) := by decide +kernel
theorem dX3_standsAs_16 : decode cX3_standsAs 16 = .ok (.getfield 22, 3) := by decide +kernel
theorem dX3_standsAs_19 : decode cX3_standsAs 19 = .ok (.if_icmp .ne 7, 3) := by decide +kernel
theorem dX3_standsAs_22 : decode cX3_standsAs 22 = .ok (.iconst 1, 1) := by decide +kernel
theorem dX3_standsAs_23 : decode cX3_standsAs 23 = .ok (.goto 4, 3) := by decide +kernel
theorem dX3_standsAs_26 : decode cX3_standsAs 26 = .ok (.iconst 0, 1) := by decide +kernel
theorem dX3_standsAs_27 : decode cX3_standsAs 27 = .ok (.ireturn, 1) := by decide +kernel
theorem dX8_isNeeded_0 : decode cX8_isNeeded 0 = .ok (.aload_n 1, 1) := by decide +kernel
theorem dX8_isNeeded_1 : decode cX8_isNeeded 1 = .ok (.iload_n 2, 1) := by decide +kernel
theorem dX8_isNeeded_2 : decode cX8_isNeeded 2 = .ok (.invokevirtual 110, 3) := by decide +kernel
theorem dX8_isNeeded_5 : decode cX8_isNeeded 5 = .ok (.ifCond .ne 5, 3) := by decide +kernel
theorem dX8_isNeeded_8 : decode cX8_isNeeded 8 = .ok (.iconst 0, 1) := by decide +kernel
theorem dX8_isNeeded_9 : decode cX8_isNeeded 9 = .ok (.ireturn, 1) := by decide +kernel
theorem dX8_isNeeded_10 : decode cX8_isNeeded 10 = .ok (.aload_n 0, 1) := by decide +kernel
theorem dX8_isNeeded_11 : decode cX8_isNeeded 11 = .ok (.iload_n 3, 1) := by decide +kernel
theorem dX8_isNeeded_12 : decode cX8_isNeeded 12 = .ok (.iload 4, 2) := by decide +kernel
theorem dX8_isNeeded_14 : decode cX8_isNeeded 14 = .ok (.invokevirtual 89, 3) := by decide +kernel
theorem dX8_isNeeded_17 : decode cX8_isNeeded 17 = .ok (.aload_n 0, 1) := by decide +kernel
theorem dX8_isNeeded_18 : decode cX8_isNeeded 18 = .ok (.getfield 25, 3) := by decide +kernel
theorem dX8_isNeeded_21 : decode cX8_isNeeded 21 = .ok (.iconst 1, 1) := by decide +kernel
theorem dX8_isNeeded_22 : decode cX8_isNeeded 22 = .ok (.iload_n 2, 1) := by decide +kernel
theorem dX8_isNeeded_23 : decode cX8_isNeeded 23 = .ok (.ishl, 1) := by decide +kernel
theorem dX8_isNeeded_24 : decode cX8_isNeeded 24 = .ok (.putfield 116, 3) := by decide +kernel
theorem dX8_isNeeded_27 : decode cX8_isNeeded 27 = .ok (.iconst 0, 1) := by decide +kernel
theorem dX8_isNeeded_28 : decode cX8_isNeeded 28 = .ok (.istore 5, 2) := by decide +kernel
theorem dX8_isNeeded_30 : decode cX8_isNeeded 30 = .ok (.iload 5, 2) := by decide +kernel
theorem dX8_isNeeded_32 : decode cX8_isNeeded 32 = .ok (.ldc 77, 2) := by decide +kernel
theorem dX8_isNeeded_34 : decode cX8_isNeeded 34 = .ok (.if_icmp .ge 26, 3) := by decide +kernel
theorem dX8_isNeeded_37 : decode cX8_isNeeded 37 = .ok (.aload_n 0, 1) := by decide +kernel
theorem dX8_isNeeded_38 : decode cX8_isNeeded 38 = .ok (.invokevirtual 96, 3) := by decide +kernel
theorem dX8_isNeeded_41 : decode cX8_isNeeded 41 = .ok (.ifCond .eq 19, 3) := by decide +kernel
theorem dX8_isNeeded_44 : decode cX8_isNeeded 44 = .ok (.aload_n 0, 1) := by decide +kernel
theorem dX8_isNeeded_45 : decode cX8_isNeeded 45 = .ok (.aload_n 1, 1) := by decide +kernel
theorem dX8_isNeeded_46 : decode cX8_isNeeded 46 = .ok (.invokevirtual 119, 3) := by decide +kernel
theorem dX8_isNeeded_49 : decode cX8_isNeeded 49 = .ok (.ifCond .eq 5, 3) := by decide +kernel
theorem dX8_isNeeded_52 : decode cX8_isNeeded 52 = .ok (.iconst 1, 1) := by decide +kernel
theorem dX8_isNeeded_53 : decode cX8_isNeeded 53 = .ok (.ireturn, 1) := by decide +kernel
theorem dX8_isNeeded_54 : decode cX8_isNeeded 54 = .ok (.iinc 5 1, 3) := by decide +kernel
theorem dX8_isNeeded_57 : decode cX8_isNeeded 57 = .ok (.goto (-27), 3) := by decide +kernel
theorem dX8_isNeeded_60 : decode cX8_isNeeded 60 = .ok (.iconst 0, 1) := by decide +kernel
theorem dX8_isNeeded_61 : decode cX8_isNeeded 61 = .ok (.ireturn, 1) := by decide +kernel
theorem dX10_needs_0 : decode cX10_needs 0 = .ok (.iload_n 2, 1) := by decide +kernel
theorem dX10_needs_1 : decode cX10_needs 1 = .ok (.iload_n 3, 1) := by decide +kernel
theorem dX10_needs_2 : decode cX10_needs 2 = .ok (.invokestatic 239, 3) := by decide +kernel
theorem dX10_needs_5 : decode cX10_needs 5 = .ok (.ifCond .eq 12, 3) := by decide +kernel
theorem dX10_needs_8 : decode cX10_needs 8 = .ok (.iload_n 1, 1) := by decide +kernel
theorem dX10_needs_9 : decode cX10_needs 9 = .ok (.ifCond .lt 8, 3) := by decide +kernel
theorem dX10_needs_12 : decode cX10_needs 12 = .ok (.iload_n 1, 1) := by decide +kernel
theorem dX10_needs_13 : decode cX10_needs 13 = .ok (.iconst 3, 1) := by decide +kernel
theorem dX10_needs_14 : decode cX10_needs 14 = .ok (.if_icmp .lt 5, 3) := by decide +kernel
theorem dX10_needs_17 : decode cX10_needs 17 = .ok (.iconst (-1), 1) := by decide +kernel
theorem dX10_needs_18 : decode cX10_needs 18 = .ok (.ireturn, 1) := by decide +kernel
theorem dX10_needs_19 : decode cX10_needs 19 = .ok (.aload_n 0, 1) := by decide +kernel
theorem dX10_needs_20 : decode cX10_needs 20 = .ok (.getfield 85, 3) := by decide +kernel
theorem dX10_needs_23 : decode cX10_needs 23 = .ok (.aload_n 0, 1) := by decide +kernel
theorem dX10_needs_24 : decode cX10_needs 24 = .ok (.getfield 35, 3) := by decide +kernel
theorem dX10_needs_27 : decode cX10_needs 27 = .ok (.iload_n 1, 1) := by decide +kernel
theorem dX10_needs_28 : decode cX10_needs 28 = .ok (.iload_n 2, 1) := by decide +kernel
theorem dX10_needs_29 : decode cX10_needs 29 = .ok (.iload_n 3, 1) := by decide +kernel
theorem dX10_needs_30 : decode cX10_needs 30 = .ok (.invokevirtual 249, 3) := by decide +kernel
theorem dX10_needs_33 : decode cX10_needs 33 = .ok (.ifCond .eq 7, 3) := by decide +kernel
theorem dX10_needs_36 : decode cX10_needs 36 = .ok (.iconst 1, 1) := by decide +kernel
theorem dX10_needs_37 : decode cX10_needs 37 = .ok (.goto 4, 3) := by decide +kernel
theorem dX10_needs_40 : decode cX10_needs 40 = .ok (.iconst 0, 1) := by decide +kernel
theorem dX10_needs_41 : decode cX10_needs 41 = .ok (.ireturn, 1) := by decide +kernel
theorem dX10_knows_0 : decode cX10_knows 0 = .ok (.aload_n 0, 1) := by decide +kernel
theorem dX10_knows_1 : decode cX10_knows 1 = .ok (.getfield 49, 3) := by decide +kernel
theorem dX10_knows_4 : decode cX10_knows 4 = .ok (.iload_n 1, 1) := by decide +kernel
theorem dX10_knows_5 : decode cX10_knows 5 = .ok (.invokevirtual 153, 3) := by decide +kernel
theorem dX10_knows_8 : decode cX10_knows 8 = .ok (.ifCond .ne 5, 3) := by decide +kernel
theorem dX10_knows_11 : decode cX10_knows 11 = .ok (.iconst (-1), 1) := by decide +kernel
theorem dX10_knows_12 : decode cX10_knows 12 = .ok (.ireturn, 1) := by decide +kernel
theorem dX10_knows_13 : decode cX10_knows 13 = .ok (.iload_n 1, 1) := by decide +kernel
theorem dX10_knows_14 : decode cX10_knows 14 = .ok (.istore_n 2, 1) := by decide +kernel
theorem dX10_knows_15 : decode cX10_knows 15 = .ok (.iconst 0, 1) := by decide +kernel
theorem dX10_knows_16 : decode cX10_knows 16 = .ok (.istore_n 3, 1) := by decide +kernel
theorem dX10_knows_17 : decode cX10_knows 17 = .ok (.iload_n 3, 1) := by decide +kernel
theorem dX10_knows_18 : decode cX10_knows 18 = .ok (.aload_n 0, 1) := by decide +kernel
theorem dX10_knows_19 : decode cX10_knows 19 = .ok (.getfield 49, 3) := by decide +kernel
theorem dX10_knows_22 : decode cX10_knows 22 = .ok (.getfield 229, 3) := by decide +kernel
theorem dX10_knows_25 : decode cX10_knows 25 = .ok (.if_icmp .ge 58, 3) := by decide +kernel
theorem dX10_knows_28 : decode cX10_knows 28 = .ok (.iload_n 2, 1) := by decide +kernel
theorem dX10_knows_29 : decode cX10_knows 29 = .ok (.aload_n 0, 1) := by decide +kernel
theorem dX10_knows_30 : decode cX10_knows 30 = .ok (.getfield 49, 3) := by decide +kernel
theorem dX10_knows_33 : decode cX10_knows 33 = .ok (.getfield 170, 3) := by decide +kernel
theorem dX10_knows_36 : decode cX10_knows 36 = .ok (.if_icmp .ne 5, 3) := by decide +kernel
theorem dX10_knows_39 : decode cX10_knows 39 = .ok (.iload_n 3, 1) := by decide +kernel
theorem dX10_knows_40 : decode cX10_knows 40 = .ok (.ireturn, 1) := by decide +kernel
theorem dX10_knows_41 : decode cX10_knows 41 = .ok (.aload_n 0, 1) := by decide +kernel
theorem dX10_knows_42 : decode cX10_knows 42 = .ok (.getfield 56, 3) := by decide +kernel
theorem dX10_knows_45 : decode cX10_knows 45 = .ok (.iload_n 2, 1) := by decide +kernel
theorem dX10_knows_46 : decode cX10_knows 46 = .ok (.invokevirtual 207, 3) := by decide +kernel
theorem dX10_knows_49 : decode cX10_knows 49 = .ok (.istore 4, 2) := by decide +kernel
theorem dX10_knows_51 : decode cX10_knows 51 = .ok (.aload_n 0, 1) := by decide +kernel
theorem dX10_knows_52 : decode cX10_knows 52 = .ok (.getfield 49, 3) := by decide +kernel
theorem dX10_knows_55 : decode cX10_knows 55 = .ok (.iload_n 2, 1) := by decide +kernel
theorem dX10_knows_56 : decode cX10_knows 56 = .ok (.iload 4, 2) := by decide +kernel
theorem dX10_knows_58 : decode cX10_knows 58 = .ok (.invokevirtual 163, 3) := by decide +kernel
theorem dX10_knows_61 : decode cX10_knows 61 = .ok (.ifCond .eq 5, 3) := by decide +kernel
theorem dX10_knows_64 : decode cX10_knows 64 = .ok (.iconst (-1), 1) := by decide +kernel
theorem dX10_knows_65 : decode cX10_knows 65 = .ok (.ireturn, 1) := by decide +kernel
theorem dX10_knows_66 : decode cX10_knows 66 = .ok (.aload_n 0, 1) := by decide +kernel
theorem dX10_knows_67 : decode cX10_knows 67 = .ok (.getfield 49, 3) := by decide +kernel
theorem dX10_knows_70 : decode cX10_knows 70 = .ok (.iload_n 2, 1) := by decide +kernel
theorem dX10_knows_71 : decode cX10_knows 71 = .ok (.iload 4, 2) := by decide +kernel
theorem dX10_knows_73 : decode cX10_knows 73 = .ok (.invokevirtual 253, 3) := by decide +kernel
theorem dX10_knows_76 : decode cX10_knows 76 = .ok (.istore_n 2, 1) := by decide +kernel
theorem dX10_knows_77 : decode cX10_knows 77 = .ok (.iinc 3 1, 3) := by decide +kernel
theorem dX10_knows_80 : decode cX10_knows 80 = .ok (.goto (-63), 3) := by decide +kernel
theorem dX10_knows_83 : decode cX10_knows 83 = .ok (.iconst (-1), 1) := by decide +kernel
theorem dX10_knows_84 : decode cX10_knows 84 = .ok (.ireturn, 1) := by decide +kernel
theorem dX3_inputs_0 : decode cX3_inputs 0 = .ok (.aload_n 0, 1) := by decide +kernel
theorem dX3_inputs_1 : decode cX3_inputs 1 = .ok (.aload_n 0, 1) := by decide +kernel
theorem dX3_inputs_2 : decode cX3_inputs 2 = .ok (.getfield 19, 3) := by decide +kernel
theorem dX3_inputs_5 : decode cX3_inputs 5 = .ok (.invokevirtual 81, 3) := by decide +kernel
theorem dX3_inputs_8 : decode cX3_inputs 8 = .ok (.bipush 22, 2) := by decide +kernel
theorem dX3_inputs_10 : decode cX3_inputs 10 = .ok (.ishl, 1) := by decide +kernel
theorem dX3_inputs_11 : decode cX3_inputs 11 = .ok (.istore_n 2, 1) := by decide +kernel
theorem dX3_inputs_12 : decode cX3_inputs 12 = .ok (.aload_n 1, 1) := by decide +kernel
theorem dX3_inputs_13 : decode cX3_inputs 13 = .ok (.aload_n 0, 1) := by decide +kernel
theorem dX3_inputs_14 : decode cX3_inputs 14 = .ok (.getfield 19, 3) := by decide +kernel
theorem dX3_inputs_17 : decode cX3_inputs 17 = .ok (.aload_n 0, 1) := by decide +kernel
theorem dX3_inputs_18 : decode cX3_inputs 18 = .ok (.getfield 22, 3) := by decide +kernel
theorem dX3_inputs_21 : decode cX3_inputs 21 = .ok (.invokevirtual 74, 3) := by decide +kernel
theorem dX3_inputs_24 : decode cX3_inputs 24 = .ok (.ifCond .eq 8, 3) := by decide +kernel
theorem dX3_inputs_27 : decode cX3_inputs 27 = .ok (.iload_n 2, 1) := by decide +kernel
theorem dX3_inputs_28 : decode cX3_inputs 28 = .ok (.ldc 127, 2) := by decide +kernel
theorem dX3_inputs_30 : decode cX3_inputs 30 = .ok (.ior, 1) := by decide +kernel
theorem dX3_inputs_31 : decode cX3_inputs 31 = .ok (.istore_n 2, 1) := by decide +kernel
theorem dX3_inputs_32 : decode cX3_inputs 32 = .ok (.aload_n 0, 1) := by decide +kernel
theorem dX3_inputs_33 : decode cX3_inputs 33 = .ok (.getfield 19, 3) := by decide +kernel
theorem dX3_inputs_36 : decode cX3_inputs 36 = .ok (.aload_n 1, 1) := by decide +kernel
theorem dX3_inputs_37 : decode cX3_inputs 37 = .ok (.getfield 78, 3) := by decide +kernel
theorem dX3_inputs_40 : decode cX3_inputs 40 = .ok (.if_icmp .ne 8, 3) := by decide +kernel
theorem dX3_inputs_43 : decode cX3_inputs 43 = .ok (.iload_n 2, 1) := by decide +kernel
theorem dX3_inputs_44 : decode cX3_inputs 44 = .ok (.ldc 128, 2) := by decide +kernel
theorem dX3_inputs_46 : decode cX3_inputs 46 = .ok (.ior, 1) := by decide +kernel
theorem dX3_inputs_47 : decode cX3_inputs 47 = .ok (.istore_n 2, 1) := by decide +kernel
theorem dX3_inputs_48 : decode cX3_inputs 48 = .ok (.iload_n 2, 1) := by decide +kernel
theorem dX3_inputs_49 : decode cX3_inputs 49 = .ok (.ireturn, 1) := by decide +kernel
theorem dX4_valueOf_0 : decode cX4_valueOf 0 = .ok (.iload_n 1, 1) := by decide +kernel
theorem dX4_valueOf_1 : decode cX4_valueOf 1 = .ok (.ifCond .lt 9, 3) := by decide +kernel
theorem dX4_valueOf_4 : decode cX4_valueOf 4 = .ok (.iload_n 1, 1) := by decide +kernel
theorem dX4_valueOf_5 : decode cX4_valueOf 5 = .ok (.bipush 24, 2) := by decide +kernel
theorem dX4_valueOf_7 : decode cX4_valueOf 7 = .ok (.if_icmp .lt 5, 3) := by decide +kernel
theorem dX4_valueOf_10 : decode cX4_valueOf 10 = .ok (.iconst 0, 1) := by decide +kernel
theorem dX4_valueOf_11 : decode cX4_valueOf 11 = .ok (.ireturn, 1) := by decide +kernel
theorem dX4_valueOf_12 : decode cX4_valueOf 12 = .ok (.iconst 0, 1) := by decide +kernel
theorem dX4_valueOf_13 : decode cX4_valueOf 13 = .ok (.istore_n 3, 1) := by decide +kernel
theorem dX4_valueOf_14 : decode cX4_valueOf 14 = .ok (.aload_n 0, 1) := by decide +kernel
theorem dX4_valueOf_15 : decode cX4_valueOf 15 = .ok (.getfield 13, 3) := by decide +kernel
theorem dX4_valueOf_18 : decode cX4_valueOf 18 = .ok (.iload_n 1, 1) := by decide +kernel
theorem dX4_valueOf_19 : decode cX4_valueOf 19 = .ok (.iaload, 1) := by decide +kernel
theorem dX4_valueOf_20 : decode cX4_valueOf 20 = .ok (.istore 4, 2) := by decide +kernel
theorem dX4_valueOf_22 : decode cX4_valueOf 22 = .ok (.iload 4, 2) := by decide +kernel
theorem dX4_valueOf_24 : decode cX4_valueOf 24 = .ok (.aload_n 0, 1) := by decide +kernel
theorem dX4_valueOf_25 : decode cX4_valueOf 25 = .ok (.getfield 16, 3) := by decide +kernel
theorem dX4_valueOf_28 : decode cX4_valueOf 28 = .ok (.iload_n 1, 1) := by decide +kernel
theorem dX4_valueOf_29 : decode cX4_valueOf 29 = .ok (.iaload, 1) := by decide +kernel
theorem dX4_valueOf_30 : decode cX4_valueOf 30 = .ok (.if_icmp .ge 84, 3) := by decide +kernel
theorem dX4_valueOf_33 : decode cX4_valueOf 33 = .ok (.aload_n 0, 1) := by decide +kernel
theorem dX4_valueOf_34 : decode cX4_valueOf 34 = .ok (.getfield 9, 3) := by decide +kernel
theorem dX4_valueOf_37 : decode cX4_valueOf 37 = .ok (.iload 4, 2) := by decide +kernel
theorem dX4_valueOf_39 : decode cX4_valueOf 39 = .ok (.iaload, 1) := by decide +kernel
theorem dX4_valueOf_40 : decode cX4_valueOf 40 = .ok (.istore 5, 2) := by decide +kernel
theorem dX4_valueOf_42 : decode cX4_valueOf 42 = .ok (.iload 5, 2) := by decide +kernel
theorem dX4_valueOf_44 : decode cX4_valueOf 44 = .ok (.bipush 24, 2) := by decide +kernel
theorem dX4_valueOf_46 : decode cX4_valueOf 46 = .ok (.if_icmp .ge 17, 3) := by decide +kernel
theorem dX4_valueOf_49 : decode cX4_valueOf 49 = .ok (.iload_n 3, 1) := by decide +kernel
theorem dX4_valueOf_50 : decode cX4_valueOf 50 = .ok (.iconst 1, 1) := by decide +kernel
theorem dX4_valueOf_51 : decode cX4_valueOf 51 = .ok (.ishl, 1) := by decide +kernel
theorem dX4_valueOf_52 : decode cX4_valueOf 52 = .ok (.iload_n 2, 1) := by decide +kernel
theorem dX4_valueOf_53 : decode cX4_valueOf 53 = .ok (.iload 5, 2) := by decide +kernel
theorem dX4_valueOf_55 : decode cX4_valueOf 55 = .ok (.iushr, 1) := by decide +kernel
theorem dX4_valueOf_56 : decode cX4_valueOf 56 = .ok (.iconst 1, 1) := by decide +kernel
theorem dX4_valueOf_57 : decode cX4_valueOf 57 = .ok (.iand, 1) := by decide +kernel
theorem dX4_valueOf_58 : decode cX4_valueOf 58 = .ok (.ior, 1) := by decide +kernel
theorem dX4_valueOf_59 : decode cX4_valueOf 59 = .ok (.istore_n 3, 1) := by decide +kernel
theorem dX4_valueOf_60 : decode cX4_valueOf 60 = .ok (.goto 48, 3) := by decide +kernel
theorem dX4_valueOf_63 : decode cX4_valueOf 63 = .ok (.iload 5, 2) := by decide +kernel
theorem dX4_valueOf_65 : decode cX4_valueOf 65 = .ok (.bipush 26, 2) := by decide +kernel
theorem dX4_valueOf_67 : decode cX4_valueOf 67 = .ok (.if_icmp .ne 10, 3) := by decide +kernel
theorem dX4_valueOf_70 : decode cX4_valueOf 70 = .ok (.iload_n 3, 1) := by decide +kernel
theorem dX4_valueOf_71 : decode cX4_valueOf 71 = .ok (.iconst 1, 1) := by decide +kernel
theorem dX4_valueOf_72 : decode cX4_valueOf 72 = .ok (.ixor, 1) := by decide +kernel
theorem dX4_valueOf_73 : decode cX4_valueOf 73 = .ok (.istore_n 3, 1) := by decide +kernel
theorem dX4_valueOf_74 : decode cX4_valueOf 74 = .ok (.goto 34, 3) := by decide +kernel
theorem dX4_valueOf_77 : decode cX4_valueOf 77 = .ok (.iload_n 3, 1) := by decide +kernel
theorem dX4_valueOf_78 : decode cX4_valueOf 78 = .ok (.iconst 1, 1) := by decide +kernel
theorem dX4_valueOf_79 : decode cX4_valueOf 79 = .ok (.iand, 1) := by decide +kernel
theorem dX4_valueOf_80 : decode cX4_valueOf 80 = .ok (.istore 6, 2) := by decide +kernel
theorem dX4_valueOf_82 : decode cX4_valueOf 82 = .ok (.iload_n 3, 1) := by decide +kernel
theorem dX4_valueOf_83 : decode cX4_valueOf 83 = .ok (.iconst 1, 1) := by decide +kernel
theorem dX4_valueOf_84 : decode cX4_valueOf 84 = .ok (.iushr, 1) := by decide +kernel
theorem dX4_valueOf_85 : decode cX4_valueOf 85 = .ok (.istore_n 3, 1) := by decide +kernel
theorem dX4_valueOf_86 : decode cX4_valueOf 86 = .ok (.iload 5, 2) := by decide +kernel
theorem dX4_valueOf_88 : decode cX4_valueOf 88 = .ok (.bipush 24, 2) := by decide +kernel
theorem dX4_valueOf_90 : decode cX4_valueOf 90 = .ok (.if_icmp .ne 10, 3) := by decide +kernel
theorem dX4_valueOf_93 : decode cX4_valueOf 93 = .ok (.iload_n 3, 1) := by decide +kernel
theorem dX4_valueOf_94 : decode cX4_valueOf 94 = .ok (.iload 6, 2) := by decide +kernel
theorem dX4_valueOf_96 : decode cX4_valueOf 96 = .ok (.ior, 1) := by decide +kernel
theorem dX4_valueOf_97 : decode cX4_valueOf 97 = .ok (.goto 10, 3) := by decide +kernel
theorem dX4_valueOf_100 : decode cX4_valueOf 100 = .ok (.iload_n 3, 1) := by decide +kernel
theorem dX4_valueOf_101 : decode cX4_valueOf 101 = .ok (.iload 6, 2) := by decide +kernel
theorem dX4_valueOf_103 : decode cX4_valueOf 103 = .ok (.bipush (-2), 2) := by decide +kernel
theorem dX4_valueOf_105 : decode cX4_valueOf 105 = .ok (.ior, 1) := by decide +kernel
theorem dX4_valueOf_106 : decode cX4_valueOf 106 = .ok (.iand, 1) := by decide +kernel
theorem dX4_valueOf_107 : decode cX4_valueOf 107 = .ok (.istore_n 3, 1) := by decide +kernel
theorem dX4_valueOf_108 : decode cX4_valueOf 108 = .ok (.iinc 4 1, 3) := by decide +kernel
theorem dX4_valueOf_111 : decode cX4_valueOf 111 = .ok (.goto (-89), 3) := by decide +kernel
theorem dX4_valueOf_114 : decode cX4_valueOf 114 = .ok (.iload_n 3, 1) := by decide +kernel
theorem dX4_valueOf_115 : decode cX4_valueOf 115 = .ok (.iconst 1, 1) := by decide +kernel
theorem dX4_valueOf_116 : decode cX4_valueOf 116 = .ok (.iand, 1) := by decide +kernel
theorem dX4_valueOf_117 : decode cX4_valueOf 117 = .ok (.ireturn, 1) := by decide +kernel
theorem dX4_relaysBy_0 : decode cX4_relaysBy 0 = .ok (.iconst 0, 1) := by decide +kernel
theorem dX4_relaysBy_1 : decode cX4_relaysBy 1 = .ok (.istore_n 2, 1) := by decide +kernel
theorem dX4_relaysBy_2 : decode cX4_relaysBy 2 = .ok (.iconst 0, 1) := by decide +kernel
theorem dX4_relaysBy_3 : decode cX4_relaysBy 3 = .ok (.istore_n 3, 1) := by decide +kernel
theorem dX4_relaysBy_4 : decode cX4_relaysBy 4 = .ok (.iload_n 3, 1) := by decide +kernel
theorem dX4_relaysBy_5 : decode cX4_relaysBy 5 = .ok (.aload_n 0, 1) := by decide +kernel
theorem dX4_relaysBy_6 : decode cX4_relaysBy 6 = .ok (.getfield 19, 3) := by decide +kernel
theorem dX4_relaysBy_9 : decode cX4_relaysBy 9 = .ok (.if_icmp .ge 20, 3) := by decide +kernel
theorem dX4_relaysBy_12 : decode cX4_relaysBy 12 = .ok (.iload_n 2, 1) := by decide +kernel
theorem dX4_relaysBy_13 : decode cX4_relaysBy 13 = .ok (.aload_n 0, 1) := by decide +kernel
theorem dX4_relaysBy_14 : decode cX4_relaysBy 14 = .ok (.iload_n 3, 1) := by decide +kernel
theorem dX4_relaysBy_15 : decode cX4_relaysBy 15 = .ok (.iload_n 1, 1) := by decide +kernel
theorem dX4_relaysBy_16 : decode cX4_relaysBy 16 = .ok (.invokevirtual 29, 3) := by decide +kernel
theorem dX4_relaysBy_19 : decode cX4_relaysBy 19 = .ok (.iload_n 3, 1) := by decide +kernel
theorem dX4_relaysBy_20 : decode cX4_relaysBy 20 = .ok (.ishl, 1) := by decide +kernel
theorem dX4_relaysBy_21 : decode cX4_relaysBy 21 = .ok (.ior, 1) := by decide +kernel
theorem dX4_relaysBy_22 : decode cX4_relaysBy 22 = .ok (.istore_n 2, 1) := by decide +kernel
theorem dX4_relaysBy_23 : decode cX4_relaysBy 23 = .ok (.iinc 3 1, 3) := by decide +kernel
theorem dX4_relaysBy_26 : decode cX4_relaysBy 26 = .ok (.goto (-22), 3) := by decide +kernel
theorem dX4_relaysBy_29 : decode cX4_relaysBy 29 = .ok (.iload_n 2, 1) := by decide +kernel
theorem dX4_relaysBy_30 : decode cX4_relaysBy 30 = .ok (.ireturn, 1) := by decide +kernel
theorem dX4_outputsBy_0 : decode cX4_outputsBy 0 = .ok (.iconst 0, 1) := by decide +kernel
theorem dX4_outputsBy_1 : decode cX4_outputsBy 1 = .ok (.istore_n 2, 1) := by decide +kernel
theorem dX4_outputsBy_2 : decode cX4_outputsBy 2 = .ok (.iconst 1, 1) := by decide +kernel
theorem dX4_outputsBy_3 : decode cX4_outputsBy 3 = .ok (.istore_n 3, 1) := by decide +kernel
theorem dX4_outputsBy_4 : decode cX4_outputsBy 4 = .ok (.iload_n 3, 1) := by decide +kernel
theorem dX4_outputsBy_5 : decode cX4_outputsBy 5 = .ok (.iconst 4, 1) := by decide +kernel
theorem dX4_outputsBy_6 : decode cX4_outputsBy 6 = .ok (.if_icmp .gt 23, 3) := by decide +kernel
theorem dX4_outputsBy_9 : decode cX4_outputsBy 9 = .ok (.iload_n 2, 1) := by decide +kernel
theorem dX4_outputsBy_10 : decode cX4_outputsBy 10 = .ok (.aload_n 0, 1) := by decide +kernel
theorem dX4_outputsBy_11 : decode cX4_outputsBy 11 = .ok (.iload_n 3, 1) := by decide +kernel
theorem dX4_outputsBy_12 : decode cX4_outputsBy 12 = .ok (.invokestatic 33, 3) := by decide +kernel
theorem dX4_outputsBy_15 : decode cX4_outputsBy 15 = .ok (.iload_n 1, 1) := by decide +kernel
theorem dX4_outputsBy_16 : decode cX4_outputsBy 16 = .ok (.invokevirtual 29, 3) := by decide +kernel
theorem dX4_outputsBy_19 : decode cX4_outputsBy 19 = .ok (.iload_n 3, 1) := by decide +kernel
theorem dX4_outputsBy_20 : decode cX4_outputsBy 20 = .ok (.ishl, 1) := by decide +kernel
theorem dX4_outputsBy_21 : decode cX4_outputsBy 21 = .ok (.ior, 1) := by decide +kernel
theorem dX4_outputsBy_22 : decode cX4_outputsBy 22 = .ok (.istore_n 2, 1) := by decide +kernel
theorem dX4_outputsBy_23 : decode cX4_outputsBy 23 = .ok (.iinc 3 1, 3) := by decide +kernel
theorem dX4_outputsBy_26 : decode cX4_outputsBy 26 = .ok (.goto (-22), 3) := by decide +kernel
theorem dX4_outputsBy_29 : decode cX4_outputsBy 29 = .ok (.iload_n 2, 1) := by decide +kernel
theorem dX4_outputsBy_30 : decode cX4_outputsBy 30 = .ok (.ireturn, 1) := by decide +kernel
theorem dX3_doOutputs_0 : decode cX3_doOutputs 0 = .ok (.iload_n 1, 1) := by decide +kernel
theorem dX3_doOutputs_1 : decode cX3_doOutputs 1 = .ok (.iconst 4, 1) := by decide +kernel
theorem dX3_doOutputs_2 : decode cX3_doOutputs 2 = .ok (.ishr, 1) := by decide +kernel
theorem dX3_doOutputs_3 : decode cX3_doOutputs 3 = .ok (.iconst 1, 1) := by decide +kernel
theorem dX3_doOutputs_4 : decode cX3_doOutputs 4 = .ok (.iand, 1) := by decide +kernel
theorem dX3_doOutputs_5 : decode cX3_doOutputs 5 = .ok (.ifCond .eq 7, 3) := by decide +kernel
theorem dX3_doOutputs_8 : decode cX3_doOutputs 8 = .ok (.aload_n 0, 1) := by decide +kernel
theorem dX3_doOutputs_9 : decode cX3_doOutputs 9 = .ok (.invokevirtual 105, 3) := by decide +kernel
theorem dX3_doOutputs_12 : decode cX3_doOutputs 12 = .ok (.iload_n 1, 1) := by decide +kernel
theorem dX3_doOutputs_13 : decode cX3_doOutputs 13 = .ok (.iconst 2, 1) := by decide +kernel
theorem dX3_doOutputs_14 : decode cX3_doOutputs 14 = .ok (.ishr, 1) := by decide +kernel
theorem dX3_doOutputs_15 : decode cX3_doOutputs 15 = .ok (.iconst 1, 1) := by decide +kernel
theorem dX3_doOutputs_16 : decode cX3_doOutputs 16 = .ok (.iand, 1) := by decide +kernel
theorem dX3_doOutputs_17 : decode cX3_doOutputs 17 = .ok (.ifCond .eq 8, 3) := by decide +kernel
theorem dX3_doOutputs_20 : decode cX3_doOutputs 20 = .ok (.aload_n 0, 1) := by decide +kernel
theorem dX3_doOutputs_21 : decode cX3_doOutputs 21 = .ok (.iconst 3, 1) := by decide +kernel
theorem dX3_doOutputs_22 : decode cX3_doOutputs 22 = .ok (.invokevirtual 102, 3) := by decide +kernel
theorem dX3_doOutputs_25 : decode cX3_doOutputs 25 = .ok (.iload_n 1, 1) := by decide +kernel
theorem dX3_doOutputs_26 : decode cX3_doOutputs 26 = .ok (.iconst 3, 1) := by decide +kernel
theorem dX3_doOutputs_27 : decode cX3_doOutputs 27 = .ok (.ishr, 1) := by decide +kernel
theorem dX3_doOutputs_28 : decode cX3_doOutputs 28 = .ok (.iconst 1, 1) := by decide +kernel
theorem dX3_doOutputs_29 : decode cX3_doOutputs 29 = .ok (.iand, 1) := by decide +kernel
theorem dX3_doOutputs_30 : decode cX3_doOutputs 30 = .ok (.ifCond .eq 8, 3) := by decide +kernel
theorem dX3_doOutputs_33 : decode cX3_doOutputs 33 = .ok (.aload_n 0, 1) := by decide +kernel
theorem dX3_doOutputs_34 : decode cX3_doOutputs 34 = .ok (.iconst 1, 1) := by decide +kernel
theorem dX3_doOutputs_35 : decode cX3_doOutputs 35 = .ok (.invokevirtual 102, 3) := by decide +kernel
theorem dX3_doOutputs_38 : decode cX3_doOutputs 38 = .ok (.iload_n 1, 1) := by decide +kernel
theorem dX3_doOutputs_39 : decode cX3_doOutputs 39 = .ok (.iconst 1, 1) := by decide +kernel
theorem dX3_doOutputs_40 : decode cX3_doOutputs 40 = .ok (.ishr, 1) := by decide +kernel
theorem dX3_doOutputs_41 : decode cX3_doOutputs 41 = .ok (.iconst 1, 1) := by decide +kernel
theorem dX3_doOutputs_42 : decode cX3_doOutputs 42 = .ok (.iand, 1) := by decide +kernel
theorem dX3_doOutputs_43 : decode cX3_doOutputs 43 = .ok (.ifCond .eq 8, 3) := by decide +kernel
theorem dX3_doOutputs_46 : decode cX3_doOutputs 46 = .ok (.aload_n 0, 1) := by decide +kernel
theorem dX3_doOutputs_47 : decode cX3_doOutputs 47 = .ok (.aload_n 2, 1) := by decide +kernel
theorem dX3_doOutputs_48 : decode cX3_doOutputs 48 = .ok (.invokevirtual 108, 3) := by decide +kernel
theorem dX3_doOutputs_51 : decode cX3_doOutputs 51 = .ok (.return_, 1) := by decide +kernel
theorem dX0_step_0 : decode cX0_step 0 = .ok (.aload_n 0, 1) := by decide +kernel
theorem dX0_step_1 : decode cX0_step 1 = .ok (.aload_n 2, 1) := by decide +kernel
theorem dX0_step_2 : decode cX0_step 2 = .ok (.aload_n 3, 1) := by decide +kernel
theorem dX0_step_3 : decode cX0_step 3 = .ok (.invokevirtual 33, 3) := by decide +kernel
theorem dX0_step_6 : decode cX0_step 6 = .ok (.putfield 39, 3) := by decide +kernel
theorem dX0_step_9 : decode cX0_step 9 = .ok (.aload_n 0, 1) := by decide +kernel
theorem dX0_step_10 : decode cX0_step 10 = .ok (.aload_n 0, 1) := by decide +kernel
theorem dX0_step_11 : decode cX0_step 11 = .ok (.getfield 18, 3) := by decide +kernel
theorem dX0_step_14 : decode cX0_step 14 = .ok (.putfield 41, 3) := by decide +kernel
theorem dX0_step_17 : decode cX0_step 17 = .ok (.aload_n 0, 1) := by decide +kernel
theorem dX0_step_18 : decode cX0_step 18 = .ok (.aload_n 1, 1) := by decide +kernel
theorem dX0_step_19 : decode cX0_step 19 = .ok (.aload_n 0, 1) := by decide +kernel
theorem dX0_step_20 : decode cX0_step 20 = .ok (.getfield 41, 3) := by decide +kernel
theorem dX0_step_23 : decode cX0_step 23 = .ok (.aload_n 0, 1) := by decide +kernel
theorem dX0_step_24 : decode cX0_step 24 = .ok (.getfield 39, 3) := by decide +kernel
theorem dX0_step_27 : decode cX0_step 27 = .ok (.ior, 1) := by decide +kernel
theorem dX0_step_28 : decode cX0_step 28 = .ok (.invokevirtual 44, 3) := by decide +kernel
theorem dX0_step_31 : decode cX0_step 31 = .ok (.invokevirtual 25, 3) := by decide +kernel
theorem dX0_step_34 : decode cX0_step 34 = .ok (.aload_n 0, 1) := by decide +kernel
theorem dX0_step_35 : decode cX0_step 35 = .ok (.aload_n 0, 1) := by decide +kernel
theorem dX0_step_36 : decode cX0_step 36 = .ok (.getfield 18, 3) := by decide +kernel
theorem dX0_step_39 : decode cX0_step 39 = .ok (.putfield 50, 3) := by decide +kernel
theorem dX0_step_42 : decode cX0_step 42 = .ok (.aload_n 0, 1) := by decide +kernel
theorem dX0_step_43 : decode cX0_step 43 = .ok (.iconst 1, 1) := by decide +kernel
theorem dX0_step_44 : decode cX0_step 44 = .ok (.putfield 21, 3) := by decide +kernel
theorem dX0_step_47 : decode cX0_step 47 = .ok (.aload_n 2, 1) := by decide +kernel
theorem dX0_step_48 : decode cX0_step 48 = .ok (.aload_n 1, 1) := by decide +kernel
theorem dX0_step_49 : decode cX0_step 49 = .ok (.aload_n 0, 1) := by decide +kernel
theorem dX0_step_50 : decode cX0_step 50 = .ok (.getfield 50, 3) := by decide +kernel
theorem dX0_step_53 : decode cX0_step 53 = .ok (.aload_n 0, 1) := by decide +kernel
theorem dX0_step_54 : decode cX0_step 54 = .ok (.getfield 39, 3) := by decide +kernel
theorem dX0_step_57 : decode cX0_step 57 = .ok (.ior, 1) := by decide +kernel
theorem dX0_step_58 : decode cX0_step 58 = .ok (.invokevirtual 53, 3) := by decide +kernel
theorem dX0_step_61 : decode cX0_step 61 = .ok (.aload_n 3, 1) := by decide +kernel
theorem dX0_step_62 : decode cX0_step 62 = .ok (.invokevirtual 56, 3) := by decide +kernel
theorem dX0_step_65 : decode cX0_step 65 = .ok (.return_, 1) := by decide +kernel
theorem dX10_pull_0 : decode cX10_pull 0 = .ok (.iload_n 1, 1) := by decide +kernel
theorem dX10_pull_1 : decode cX10_pull 1 = .ok (.ifCond .lt 10, 3) := by decide +kernel
theorem dX10_pull_4 : decode cX10_pull 4 = .ok (.iload_n 1, 1) := by decide +kernel
theorem dX10_pull_5 : decode cX10_pull 5 = .ok (.sipush 5000, 3) := by decide +kernel
theorem dX10_pull_8 : decode cX10_pull 8 = .ok (.if_icmp .le 5, 3) := by decide +kernel
theorem dX10_pull_11 : decode cX10_pull 11 = .ok (.iconst (-1), 1) := by decide +kernel
theorem dX10_pull_12 : decode cX10_pull 12 = .ok (.ireturn, 1) := by decide +kernel
theorem dX10_pull_13 : decode cX10_pull 13 = .ok (.aload_n 0, 1) := by decide +kernel
theorem dX10_pull_14 : decode cX10_pull 14 = .ok (.getfield 56, 3) := by decide +kernel
theorem dX10_pull_17 : decode cX10_pull 17 = .ok (.iconst 0, 1) := by decide +kernel
theorem dX10_pull_18 : decode cX10_pull 18 = .ok (.putfield 236, 3) := by decide +kernel
theorem dX10_pull_21 : decode cX10_pull 21 = .ok (.iconst 0, 1) := by decide +kernel
theorem dX10_pull_22 : decode cX10_pull 22 = .ok (.istore_n 2, 1) := by decide +kernel
theorem dX10_pull_23 : decode cX10_pull 23 = .ok (.iload_n 2, 1) := by decide +kernel
theorem dX10_pull_24 : decode cX10_pull 24 = .ok (.iload_n 1, 1) := by decide +kernel
theorem dX10_pull_25 : decode cX10_pull 25 = .ok (.if_icmp .ge 28, 3) := by decide +kernel
theorem dX10_pull_28 : decode cX10_pull 28 = .ok (.aload_n 0, 1) := by decide +kernel
theorem dX10_pull_29 : decode cX10_pull 29 = .ok (.getfield 63, 3) := by decide +kernel
theorem dX10_pull_32 : decode cX10_pull 32 = .ok (.aload_n 0, 1) := by decide +kernel
theorem dX10_pull_33 : decode cX10_pull 33 = .ok (.getfield 42, 3) := by decide +kernel
theorem dX10_pull_36 : decode cX10_pull 36 = .ok (.aload_n 0, 1) := by decide +kernel
theorem dX10_pull_37 : decode cX10_pull 37 = .ok (.getfield 56, 3) := by decide +kernel
theorem dX10_pull_40 : decode cX10_pull 40 = .ok (.aload_n 0, 1) := by decide +kernel
theorem dX10_pull_41 : decode cX10_pull 41 = .ok (.getfield 49, 3) := by decide +kernel
theorem dX10_pull_44 : decode cX10_pull 44 = .ok (.invokevirtual 257, 3) := by decide +kernel
theorem dX10_pull_47 : decode cX10_pull 47 = .ok (.iinc 2 1, 3) := by decide +kernel
theorem dX10_pull_50 : decode cX10_pull 50 = .ok (.goto (-27), 3) := by decide +kernel
theorem dX10_pull_53 : decode cX10_pull 53 = .ok (.aload_n 0, 1) := by decide +kernel
theorem dX10_pull_54 : decode cX10_pull 54 = .ok (.getfield 56, 3) := by decide +kernel
theorem dX10_pull_57 : decode cX10_pull 57 = .ok (.getfield 236, 3) := by decide +kernel
theorem dX10_pull_60 : decode cX10_pull 60 = .ok (.ireturn, 1) := by decide +kernel
theorem dX10_pullRun_0 : decode cX10_pullRun 0 = .ok (.iload_n 1, 1) := by decide +kernel
theorem dX10_pullRun_1 : decode cX10_pullRun 1 = .ok (.ifCond .lt 10, 3) := by decide +kernel
theorem dX10_pullRun_4 : decode cX10_pullRun 4 = .ok (.iload_n 1, 1) := by decide +kernel
theorem dX10_pullRun_5 : decode cX10_pullRun 5 = .ok (.sipush 5000, 3) := by decide +kernel
theorem dX10_pullRun_8 : decode cX10_pullRun 8 = .ok (.if_icmp .le 5, 3) := by decide +kernel
theorem dX10_pullRun_11 : decode cX10_pullRun 11 = .ok (.iconst (-1), 1) := by decide +kernel
theorem dX10_pullRun_12 : decode cX10_pullRun 12 = .ok (.ireturn, 1) := by decide +kernel
theorem dX10_pullRun_13 : decode cX10_pullRun 13 = .ok (.iconst 0, 1) := by decide +kernel
theorem dX10_pullRun_14 : decode cX10_pullRun 14 = .ok (.istore_n 2, 1) := by decide +kernel
theorem dX10_pullRun_15 : decode cX10_pullRun 15 = .ok (.iload_n 2, 1) := by decide +kernel
theorem dX10_pullRun_16 : decode cX10_pullRun 16 = .ok (.iload_n 1, 1) := by decide +kernel
theorem dX10_pullRun_17 : decode cX10_pullRun 17 = .ok (.if_icmp .ge 47, 3) := by decide +kernel
theorem dX10_pullRun_20 : decode cX10_pullRun 20 = .ok (.aload_n 0, 1) := by decide +kernel
theorem dX10_pullRun_21 : decode cX10_pullRun 21 = .ok (.getfield 56, 3) := by decide +kernel
theorem dX10_pullRun_24 : decode cX10_pullRun 24 = .ok (.getfield 173, 3) := by decide +kernel
theorem dX10_pullRun_27 : decode cX10_pullRun 27 = .ok (.aload_n 0, 1) := by decide +kernel
theorem dX10_pullRun_28 : decode cX10_pullRun 28 = .ok (.getfield 49, 3) := by decide +kernel
theorem dX10_pullRun_31 : decode cX10_pullRun 31 = .ok (.getfield 170, 3) := by decide +kernel
theorem dX10_pullRun_34 : decode cX10_pullRun 34 = .ok (.if_icmp .ne 5, 3) := by decide +kernel
theorem dX10_pullRun_37 : decode cX10_pullRun 37 = .ok (.iload_n 2, 1) := by decide +kernel
theorem dX10_pullRun_38 : decode cX10_pullRun 38 = .ok (.ireturn, 1) := by decide +kernel
theorem dX10_pullRun_39 : decode cX10_pullRun 39 = .ok (.aload_n 0, 1) := by decide +kernel
theorem dX10_pullRun_40 : decode cX10_pullRun 40 = .ok (.getfield 63, 3) := by decide +kernel
theorem dX10_pullRun_43 : decode cX10_pullRun 43 = .ok (.aload_n 0, 1) := by decide +kernel
theorem dX10_pullRun_44 : decode cX10_pullRun 44 = .ok (.getfield 42, 3) := by decide +kernel
theorem dX10_pullRun_47 : decode cX10_pullRun 47 = .ok (.aload_n 0, 1) := by decide +kernel
theorem dX10_pullRun_48 : decode cX10_pullRun 48 = .ok (.getfield 56, 3) := by decide +kernel
theorem dX10_pullRun_51 : decode cX10_pullRun 51 = .ok (.aload_n 0, 1) := by decide +kernel
theorem dX10_pullRun_52 : decode cX10_pullRun 52 = .ok (.getfield 49, 3) := by decide +kernel
theorem dX10_pullRun_55 : decode cX10_pullRun 55 = .ok (.invokevirtual 257, 3) := by decide +kernel
theorem dX10_pullRun_58 : decode cX10_pullRun 58 = .ok (.iinc 2 1, 3) := by decide +kernel
theorem dX10_pullRun_61 : decode cX10_pullRun 61 = .ok (.goto (-46), 3) := by decide +kernel
theorem dX10_pullRun_64 : decode cX10_pullRun 64 = .ok (.aload_n 0, 1) := by decide +kernel
theorem dX10_pullRun_65 : decode cX10_pullRun 65 = .ok (.getfield 56, 3) := by decide +kernel
theorem dX10_pullRun_68 : decode cX10_pullRun 68 = .ok (.getfield 173, 3) := by decide +kernel
theorem dX10_pullRun_71 : decode cX10_pullRun 71 = .ok (.aload_n 0, 1) := by decide +kernel
theorem dX10_pullRun_72 : decode cX10_pullRun 72 = .ok (.getfield 49, 3) := by decide +kernel
theorem dX10_pullRun_75 : decode cX10_pullRun 75 = .ok (.getfield 170, 3) := by decide +kernel
theorem dX10_pullRun_78 : decode cX10_pullRun 78 = .ok (.if_icmp .ne 7, 3) := by decide +kernel
theorem dX10_pullRun_81 : decode cX10_pullRun 81 = .ok (.iload_n 1, 1) := by decide +kernel
theorem dX10_pullRun_82 : decode cX10_pullRun 82 = .ok (.goto 5, 3) := by decide +kernel
theorem dX10_pullRun_85 : decode cX10_pullRun 85 = .ok (.bipush (-2), 2) := by decide +kernel
theorem dX10_pullRun_87 : decode cX10_pullRun 87 = .ok (.ireturn, 1) := by decide +kernel
theorem dX10_relays_0 : decode cX10_relays 0 = .ok (.aload_n 0, 1) := by decide +kernel
theorem dX10_relays_1 : decode cX10_relays 1 = .ok (.getfield 63, 3) := by decide +kernel
theorem dX10_relays_4 : decode cX10_relays 4 = .ok (.getfield 261, 3) := by decide +kernel
theorem dX10_relays_7 : decode cX10_relays 7 = .ok (.ireturn, 1) := by decide +kernel
theorem dX0_firstRace_0 : decode cX0_firstRace 0 = .ok (.aload_n 0, 1) := by decide +kernel
theorem dX0_firstRace_1 : decode cX0_firstRace 1 = .ok (.getfield 21, 3) := by decide +kernel
theorem dX0_firstRace_4 : decode cX0_firstRace 4 = .ok (.ifCond .ne 5, 3) := by decide +kernel
theorem dX0_firstRace_7 : decode cX0_firstRace 7 = .ok (.iconst (-1), 1) := by decide +kernel
theorem dX0_firstRace_8 : decode cX0_firstRace 8 = .ok (.ireturn, 1) := by decide +kernel
theorem dX0_firstRace_9 : decode cX0_firstRace 9 = .ok (.aload_n 0, 1) := by decide +kernel
theorem dX0_firstRace_10 : decode cX0_firstRace 10 = .ok (.getfield 41, 3) := by decide +kernel
theorem dX0_firstRace_13 : decode cX0_firstRace 13 = .ok (.aload_n 0, 1) := by decide +kernel
theorem dX0_firstRace_14 : decode cX0_firstRace 14 = .ok (.getfield 50, 3) := by decide +kernel
theorem dX0_firstRace_17 : decode cX0_firstRace 17 = .ok (.ixor, 1) := by decide +kernel
theorem dX0_firstRace_18 : decode cX0_firstRace 18 = .ok (.istore_n 2, 1) := by decide +kernel
theorem dX0_firstRace_19 : decode cX0_firstRace 19 = .ok (.iconst 0, 1) := by decide +kernel
theorem dX0_firstRace_20 : decode cX0_firstRace 20 = .ok (.istore_n 3, 1) := by decide +kernel
theorem dX0_firstRace_21 : decode cX0_firstRace 21 = .ok (.iload_n 3, 1) := by decide +kernel
theorem dX0_firstRace_22 : decode cX0_firstRace 22 = .ok (.aload_n 1, 1) := by decide +kernel
theorem dX0_firstRace_23 : decode cX0_firstRace 23 = .ok (.getfield 60, 3) := by decide +kernel
theorem dX0_firstRace_26 : decode cX0_firstRace 26 = .ok (.if_icmp .ge 67, 3) := by decide +kernel
theorem dX0_firstRace_29 : decode cX0_firstRace 29 = .ok (.iload_n 3, 1) := by decide +kernel
theorem dX0_firstRace_30 : decode cX0_firstRace 30 = .ok (.iconst 1, 1) := by decide +kernel
theorem dX0_firstRace_31 : decode cX0_firstRace 31 = .ok (.iadd, 1) := by decide +kernel
theorem dX0_firstRace_32 : decode cX0_firstRace 32 = .ok (.istore 4, 2) := by decide +kernel
theorem dX0_firstRace_34 : decode cX0_firstRace 34 = .ok (.iload 4, 2) := by decide +kernel
theorem dX0_firstRace_36 : decode cX0_firstRace 36 = .ok (.aload_n 1, 1) := by decide +kernel
theorem dX0_firstRace_37 : decode cX0_firstRace 37 = .ok (.getfield 60, 3) := by decide +kernel
theorem dX0_firstRace_40 : decode cX0_firstRace 40 = .ok (.if_icmp .ge 47, 3) := by decide +kernel
theorem dX0_firstRace_43 : decode cX0_firstRace 43 = .ok (.iconst 1, 1) := by decide +kernel
theorem dX0_firstRace_44 : decode cX0_firstRace 44 = .ok (.iload_n 3, 1) := by decide +kernel
theorem dX0_firstRace_45 : decode cX0_firstRace 45 = .ok (.ishl, 1) := by decide +kernel
theorem dX0_firstRace_46 : decode cX0_firstRace 46 = .ok (.iconst 1, 1) := by decide +kernel
theorem dX0_firstRace_47 : decode cX0_firstRace 47 = .ok (.iload 4, 2) := by decide +kernel
theorem dX0_firstRace_49 : decode cX0_firstRace 49 = .ok (.ishl, 1) := by decide +kernel
theorem dX0_firstRace_50 : decode cX0_firstRace 50 = .ok (.ior, 1) := by decide +kernel
theorem dX0_firstRace_51 : decode cX0_firstRace 51 = .ok (.istore 5, 2) := by decide +kernel
theorem dX0_firstRace_53 : decode cX0_firstRace 53 = .ok (.iload_n 2, 1) := by decide +kernel
theorem dX0_firstRace_54 : decode cX0_firstRace 54 = .ok (.iload 5, 2) := by decide +kernel
theorem dX0_firstRace_56 : decode cX0_firstRace 56 = .ok (.iand, 1) := by decide +kernel
theorem dX0_firstRace_57 : decode cX0_firstRace 57 = .ok (.iload 5, 2) := by decide +kernel
theorem dX0_firstRace_59 : decode cX0_firstRace 59 = .ok (.if_icmp .ne 22, 3) := by decide +kernel
theorem dX0_firstRace_62 : decode cX0_firstRace 62 = .ok (.aload_n 0, 1) := by decide +kernel
theorem dX0_firstRace_63 : decode cX0_firstRace 63 = .ok (.aload_n 1, 1) := by decide +kernel
theorem dX0_firstRace_64 : decode cX0_firstRace 64 = .ok (.iload_n 3, 1) := by decide +kernel
theorem dX0_firstRace_65 : decode cX0_firstRace 65 = .ok (.iload 4, 2) := by decide +kernel
theorem dX0_firstRace_67 : decode cX0_firstRace 67 = .ok (.invokevirtual 63, 3) := by decide +kernel
theorem dX0_firstRace_70 : decode cX0_firstRace 70 = .ok (.istore 6, 2) := by decide +kernel
theorem dX0_firstRace_72 : decode cX0_firstRace 72 = .ok (.iload 6, 2) := by decide +kernel
theorem dX0_firstRace_74 : decode cX0_firstRace 74 = .ok (.iconst (-1), 1) := by decide +kernel
theorem dX0_firstRace_75 : decode cX0_firstRace 75 = .ok (.if_icmp .eq 6, 3) := by decide +kernel
theorem dX0_firstRace_78 : decode cX0_firstRace 78 = .ok (.iload 6, 2) := by decide +kernel
theorem dX0_firstRace_80 : decode cX0_firstRace 80 = .ok (.ireturn, 1) := by decide +kernel
theorem dX0_firstRace_81 : decode cX0_firstRace 81 = .ok (.iinc 4 1, 3) := by decide +kernel
theorem dX0_firstRace_84 : decode cX0_firstRace 84 = .ok (.goto (-50), 3) := by decide +kernel
theorem dX0_firstRace_87 : decode cX0_firstRace 87 = .ok (.iinc 3 1, 3) := by decide +kernel
theorem dX0_firstRace_90 : decode cX0_firstRace 90 = .ok (.goto (-69), 3) := by decide +kernel
theorem dX0_firstRace_93 : decode cX0_firstRace 93 = .ok (.iconst (-1), 1) := by decide +kernel
theorem dX0_firstRace_94 : decode cX0_firstRace 94 = .ok (.ireturn, 1) := by decide +kernel
theorem dX10_race_0 : decode cX10_race 0 = .ok (.aload_n 0, 1) := by decide +kernel
theorem dX10_race_1 : decode cX10_race 1 = .ok (.getfield 63, 3) := by decide +kernel
theorem dX10_race_4 : decode cX10_race 4 = .ok (.aload_n 0, 1) := by decide +kernel
theorem dX10_race_5 : decode cX10_race 5 = .ok (.getfield 42, 3) := by decide +kernel
theorem dX10_race_8 : decode cX10_race 8 = .ok (.invokevirtual 264, 3) := by decide +kernel
theorem dX10_race_11 : decode cX10_race 11 = .ok (.ireturn, 1) := by decide +kernel
theorem dX10_stick_0 : decode cX10_stick 0 = .ok (.iload_n 1, 1) := by decide +kernel
theorem dX10_stick_1 : decode cX10_stick 1 = .ok (.ifCond .lt 23, 3) := by decide +kernel
theorem dX10_stick_4 : decode cX10_stick 4 = .ok (.iload_n 1, 1) := by decide +kernel
theorem dX10_stick_5 : decode cX10_stick 5 = .ok (.aload_n 0, 1) := by decide +kernel
theorem dX10_stick_6 : decode cX10_stick 6 = .ok (.getfield 42, 3) := by decide +kernel
theorem dX10_stick_9 : decode cX10_stick 9 = .ok (.getfield 134, 3) := by decide +kernel
theorem dX10_stick_12 : decode cX10_stick 12 = .ok (.if_icmp .ge 12, 3) := by decide +kernel
theorem dX10_stick_15 : decode cX10_stick 15 = .ok (.iload_n 2, 1) := by decide +kernel
theorem dX10_stick_16 : decode cX10_stick 16 = .ok (.ifCond .lt 8, 3) := by decide +kernel
theorem dX10_stick_19 : decode cX10_stick 19 = .ok (.iload_n 2, 1) := by decide +kernel
theorem dX10_stick_20 : decode cX10_stick 20 = .ok (.iconst 2, 1) := by decide +kernel
theorem dX10_stick_21 : decode cX10_stick 21 = .ok (.if_icmp .le 5, 3) := by decide +kernel
theorem dX10_stick_24 : decode cX10_stick 24 = .ok (.iconst 0, 1) := by decide +kernel
theorem dX10_stick_25 : decode cX10_stick 25 = .ok (.ireturn, 1) := by decide +kernel
theorem dX10_stick_26 : decode cX10_stick 26 = .ok (.iload_n 2, 1) := by decide +kernel
theorem dX10_stick_27 : decode cX10_stick 27 = .ok (.iconst 2, 1) := by decide +kernel
theorem dX10_stick_28 : decode cX10_stick 28 = .ok (.if_icmp .ne 14, 3) := by decide +kernel
theorem dX10_stick_31 : decode cX10_stick 31 = .ok (.aload_n 0, 1) := by decide +kernel
theorem dX10_stick_32 : decode cX10_stick 32 = .ok (.getfield 63, 3) := by decide +kernel
theorem dX10_stick_35 : decode cX10_stick 35 = .ok (.iload_n 1, 1) := by decide +kernel
theorem dX10_stick_36 : decode cX10_stick 36 = .ok (.invokevirtual 268, 3) := by decide +kernel
theorem dX10_stick_39 : decode cX10_stick 39 = .ok (.goto 21, 3) := by decide +kernel
theorem dX10_stick_42 : decode cX10_stick 42 = .ok (.aload_n 0, 1) := by decide +kernel
theorem dX10_stick_43 : decode cX10_stick 43 = .ok (.getfield 63, 3) := by decide +kernel
theorem dX10_stick_46 : decode cX10_stick 46 = .ok (.iload_n 1, 1) := by decide +kernel
theorem dX10_stick_47 : decode cX10_stick 47 = .ok (.iload_n 2, 1) := by decide +kernel
theorem dX10_stick_48 : decode cX10_stick 48 = .ok (.iconst 1, 1) := by decide +kernel
theorem dX10_stick_49 : decode cX10_stick 49 = .ok (.if_icmp .ne 7, 3) := by decide +kernel
theorem dX10_stick_52 : decode cX10_stick 52 = .ok (.iconst 1, 1) := by decide +kernel
theorem dX10_stick_53 : decode cX10_stick 53 = .ok (.goto 4, 3) := by decide +kernel
theorem dX10_stick_56 : decode cX10_stick 56 = .ok (.iconst 0, 1) := by decide +kernel
theorem dX10_stick_57 : decode cX10_stick 57 = .ok (.invokevirtual 271, 3) := by decide +kernel
theorem dX10_stick_60 : decode cX10_stick 60 = .ok (.iconst 1, 1) := by decide +kernel
theorem dX10_stick_61 : decode cX10_stick 61 = .ok (.ireturn, 1) := by decide +kernel
theorem dX10_stuck_0 : decode cX10_stuck 0 = .ok (.aload_n 0, 1) := by decide +kernel
theorem dX10_stuck_1 : decode cX10_stuck 1 = .ok (.getfield 63, 3) := by decide +kernel
theorem dX10_stuck_4 : decode cX10_stuck 4 = .ok (.getfield 275, 3) := by decide +kernel
theorem dX10_stuck_7 : decode cX10_stuck 7 = .ok (.ireturn, 1) := by decide +kernel
theorem dX2_isLength_0 : decode cX2_isLength 0 = .ok (.iload_n 0, 1) := by decide +kernel
theorem dX2_isLength_1 : decode cX2_isLength 1 = .ok (.iconst 1, 1) := by decide +kernel
theorem dX2_isLength_2 : decode cX2_isLength 2 = .ok (.if_icmp .lt 14, 3) := by decide +kernel
theorem dX2_isLength_5 : decode cX2_isLength 5 = .ok (.iload_n 0, 1) := by decide +kernel
theorem dX2_isLength_6 : decode cX2_isLength 6 = .ok (.sipush 500, 3) := by decide +kernel
theorem dX2_isLength_9 : decode cX2_isLength 9 = .ok (.if_icmp .gt 7, 3) := by decide +kernel
theorem dX2_isLength_12 : decode cX2_isLength 12 = .ok (.iconst 1, 1) := by decide +kernel
theorem dX2_isLength_13 : decode cX2_isLength 13 = .ok (.goto 4, 3) := by decide +kernel
theorem dX2_isLength_16 : decode cX2_isLength 16 = .ok (.iconst 0, 1) := by decide +kernel
theorem dX2_isLength_17 : decode cX2_isLength 17 = .ok (.ireturn, 1) := by decide +kernel
theorem dX3_copyFrom_0 : decode cX3_copyFrom 0 = .ok (.aload_n 0, 1) := by decide +kernel
theorem dX3_copyFrom_1 : decode cX3_copyFrom 1 = .ok (.aload_n 1, 1) := by decide +kernel
theorem dX3_copyFrom_2 : decode cX3_copyFrom 2 = .ok (.getfield 19, 3) := by decide +kernel
theorem dX3_copyFrom_5 : decode cX3_copyFrom 5 = .ok (.putfield 19, 3) := by decide +kernel
theorem dX3_copyFrom_8 : decode cX3_copyFrom 8 = .ok (.aload_n 0, 1) := by decide +kernel
theorem dX3_copyFrom_9 : decode cX3_copyFrom 9 = .ok (.aload_n 1, 1) := by decide +kernel
theorem dX3_copyFrom_10 : decode cX3_copyFrom 10 = .ok (.getfield 22, 3) := by decide +kernel
theorem dX3_copyFrom_13 : decode cX3_copyFrom 13 = .ok (.putfield 22, 3) := by decide +kernel
theorem dX3_copyFrom_16 : decode cX3_copyFrom 16 = .ok (.aload_n 0, 1) := by decide +kernel
theorem dX3_copyFrom_17 : decode cX3_copyFrom 17 = .ok (.aload_n 1, 1) := by decide +kernel
theorem dX3_copyFrom_18 : decode cX3_copyFrom 18 = .ok (.getfield 25, 3) := by decide +kernel
theorem dX3_copyFrom_21 : decode cX3_copyFrom 21 = .ok (.putfield 25, 3) := by decide +kernel
theorem dX3_copyFrom_24 : decode cX3_copyFrom 24 = .ok (.aload_n 0, 1) := by decide +kernel
theorem dX3_copyFrom_25 : decode cX3_copyFrom 25 = .ok (.aload_n 1, 1) := by decide +kernel
theorem dX3_copyFrom_26 : decode cX3_copyFrom 26 = .ok (.getfield 28, 3) := by decide +kernel
theorem dX3_copyFrom_29 : decode cX3_copyFrom 29 = .ok (.putfield 28, 3) := by decide +kernel
theorem dX3_copyFrom_32 : decode cX3_copyFrom 32 = .ok (.aload_n 0, 1) := by decide +kernel
theorem dX3_copyFrom_33 : decode cX3_copyFrom 33 = .ok (.aload_n 1, 1) := by decide +kernel
theorem dX3_copyFrom_34 : decode cX3_copyFrom 34 = .ok (.getfield 38, 3) := by decide +kernel
theorem dX3_copyFrom_37 : decode cX3_copyFrom 37 = .ok (.putfield 38, 3) := by decide +kernel
theorem dX3_copyFrom_40 : decode cX3_copyFrom 40 = .ok (.aload_n 0, 1) := by decide +kernel
theorem dX3_copyFrom_41 : decode cX3_copyFrom 41 = .ok (.aload_n 1, 1) := by decide +kernel
theorem dX3_copyFrom_42 : decode cX3_copyFrom 42 = .ok (.getfield 42, 3) := by decide +kernel
theorem dX3_copyFrom_45 : decode cX3_copyFrom 45 = .ok (.putfield 42, 3) := by decide +kernel
theorem dX3_copyFrom_48 : decode cX3_copyFrom 48 = .ok (.iconst 0, 1) := by decide +kernel
theorem dX3_copyFrom_49 : decode cX3_copyFrom 49 = .ok (.istore_n 2, 1) := by decide +kernel
theorem dX3_copyFrom_50 : decode cX3_copyFrom 50 = .ok (.iload_n 2, 1) := by decide +kernel
theorem dX3_copyFrom_51 : decode cX3_copyFrom 51 = .ok (.iconst 3, 1) := by decide +kernel
theorem dX3_copyFrom_52 : decode cX3_copyFrom 52 = .ok (.if_icmp .ge 21, 3) := by decide +kernel
theorem dX3_copyFrom_55 : decode cX3_copyFrom 55 = .ok (.aload_n 0, 1) := by decide +kernel
theorem dX3_copyFrom_56 : decode cX3_copyFrom 56 = .ok (.getfield 15, 3) := by decide +kernel
theorem dX3_copyFrom_59 : decode cX3_copyFrom 59 = .ok (.iload_n 2, 1) := by decide +kernel
theorem dX3_copyFrom_60 : decode cX3_copyFrom 60 = .ok (.aload_n 1, 1) := by decide +kernel
theorem dX3_copyFrom_61 : decode cX3_copyFrom 61 = .ok (.getfield 15, 3) := by decide +kernel
theorem dX3_copyFrom_64 : decode cX3_copyFrom 64 = .ok (.iload_n 2, 1) := by decide +kernel
theorem dX3_copyFrom_65 : decode cX3_copyFrom 65 = .ok (.laload, 1) := by decide +kernel
theorem dX3_copyFrom_66 : decode cX3_copyFrom 66 = .ok (.lastore, 1) := by decide +kernel
theorem dX3_copyFrom_67 : decode cX3_copyFrom 67 = .ok (.iinc 2 1, 3) := by decide +kernel
theorem dX3_copyFrom_70 : decode cX3_copyFrom 70 = .ok (.goto (-20), 3) := by decide +kernel
theorem dX3_copyFrom_73 : decode cX3_copyFrom 73 = .ok (.return_, 1) := by decide +kernel
theorem dX1_copyFrom_0 : decode cX1_copyFrom 0 = .ok (.aload_n 0, 1) := by decide +kernel
theorem dX1_copyFrom_1 : decode cX1_copyFrom 1 = .ok (.aload_n 1, 1) := by decide +kernel
theorem dX1_copyFrom_2 : decode cX1_copyFrom 2 = .ok (.getfield 26, 3) := by decide +kernel
theorem dX1_copyFrom_5 : decode cX1_copyFrom 5 = .ok (.putfield 26, 3) := by decide +kernel
theorem dX1_copyFrom_8 : decode cX1_copyFrom 8 = .ok (.aload_n 0, 1) := by decide +kernel
theorem dX1_copyFrom_9 : decode cX1_copyFrom 9 = .ok (.aload_n 1, 1) := by decide +kernel
theorem dX1_copyFrom_10 : decode cX1_copyFrom 10 = .ok (.getfield 30, 3) := by decide +kernel
theorem dX1_copyFrom_13 : decode cX1_copyFrom 13 = .ok (.putfield 30, 3) := by decide +kernel
theorem dX1_copyFrom_16 : decode cX1_copyFrom 16 = .ok (.aload_n 0, 1) := by decide +kernel
theorem dX1_copyFrom_17 : decode cX1_copyFrom 17 = .ok (.aload_n 1, 1) := by decide +kernel
theorem dX1_copyFrom_18 : decode cX1_copyFrom 18 = .ok (.getfield 33, 3) := by decide +kernel
theorem dX1_copyFrom_21 : decode cX1_copyFrom 21 = .ok (.putfield 33, 3) := by decide +kernel
theorem dX1_copyFrom_24 : decode cX1_copyFrom 24 = .ok (.aload_n 0, 1) := by decide +kernel
theorem dX1_copyFrom_25 : decode cX1_copyFrom 25 = .ok (.aload_n 1, 1) := by decide +kernel
theorem dX1_copyFrom_26 : decode cX1_copyFrom 26 = .ok (.getfield 36, 3) := by decide +kernel
theorem dX1_copyFrom_29 : decode cX1_copyFrom 29 = .ok (.putfield 36, 3) := by decide +kernel
theorem dX1_copyFrom_32 : decode cX1_copyFrom 32 = .ok (.iconst 0, 1) := by decide +kernel
theorem dX1_copyFrom_33 : decode cX1_copyFrom 33 = .ok (.istore_n 2, 1) := by decide +kernel
theorem dX1_copyFrom_34 : decode cX1_copyFrom 34 = .ok (.iload_n 2, 1) := by decide +kernel
theorem dX1_copyFrom_35 : decode cX1_copyFrom 35 = .ok (.iconst 4, 1) := by decide +kernel
theorem dX1_copyFrom_36 : decode cX1_copyFrom 36 = .ok (.if_icmp .ge 45, 3) := by decide +kernel
theorem dX1_copyFrom_39 : decode cX1_copyFrom 39 = .ok (.aload_n 0, 1) := by decide +kernel
theorem dX1_copyFrom_40 : decode cX1_copyFrom 40 = .ok (.getfield 11, 3) := by decide +kernel
theorem dX1_copyFrom_43 : decode cX1_copyFrom 43 = .ok (.iload_n 2, 1) := by decide +kernel
theorem dX1_copyFrom_44 : decode cX1_copyFrom 44 = .ok (.aload_n 1, 1) := by decide +kernel
theorem dX1_copyFrom_45 : decode cX1_copyFrom 45 = .ok (.getfield 11, 3) := by decide +kernel
theorem dX1_copyFrom_48 : decode cX1_copyFrom 48 = .ok (.iload_n 2, 1) := by decide +kernel
theorem dX1_copyFrom_49 : decode cX1_copyFrom 49 = .ok (.laload, 1) := by decide +kernel
theorem dX1_copyFrom_50 : decode cX1_copyFrom 50 = .ok (.lastore, 1) := by decide +kernel
theorem dX1_copyFrom_51 : decode cX1_copyFrom 51 = .ok (.aload_n 0, 1) := by decide +kernel
theorem dX1_copyFrom_52 : decode cX1_copyFrom 52 = .ok (.getfield 19, 3) := by decide +kernel
theorem dX1_copyFrom_55 : decode cX1_copyFrom 55 = .ok (.iload_n 2, 1) := by decide +kernel
theorem dX1_copyFrom_56 : decode cX1_copyFrom 56 = .ok (.aload_n 1, 1) := by decide +kernel
theorem dX1_copyFrom_57 : decode cX1_copyFrom 57 = .ok (.getfield 19, 3) := by decide +kernel
theorem dX1_copyFrom_60 : decode cX1_copyFrom 60 = .ok (.iload_n 2, 1) := by decide +kernel
theorem dX1_copyFrom_61 : decode cX1_copyFrom 61 = .ok (.laload, 1) := by decide +kernel
theorem dX1_copyFrom_62 : decode cX1_copyFrom 62 = .ok (.lastore, 1) := by decide +kernel
theorem dX1_copyFrom_63 : decode cX1_copyFrom 63 = .ok (.aload_n 0, 1) := by decide +kernel
theorem dX1_copyFrom_64 : decode cX1_copyFrom 64 = .ok (.getfield 15, 3) := by decide +kernel
theorem dX1_copyFrom_67 : decode cX1_copyFrom 67 = .ok (.iload_n 2, 1) := by decide +kernel
theorem dX1_copyFrom_68 : decode cX1_copyFrom 68 = .ok (.aload_n 1, 1) := by decide +kernel
theorem dX1_copyFrom_69 : decode cX1_copyFrom 69 = .ok (.getfield 15, 3) := by decide +kernel
theorem dX1_copyFrom_72 : decode cX1_copyFrom 72 = .ok (.iload_n 2, 1) := by decide +kernel
theorem dX1_copyFrom_73 : decode cX1_copyFrom 73 = .ok (.iaload, 1) := by decide +kernel
theorem dX1_copyFrom_74 : decode cX1_copyFrom 74 = .ok (.iastore, 1) := by decide +kernel
theorem dX1_copyFrom_75 : decode cX1_copyFrom 75 = .ok (.iinc 2 1, 3) := by decide +kernel
theorem dX1_copyFrom_78 : decode cX1_copyFrom 78 = .ok (.goto (-44), 3) := by decide +kernel
theorem dX1_copyFrom_81 : decode cX1_copyFrom 81 = .ok (.return_, 1) := by decide +kernel
theorem dX0_jamAll_0 : decode cX0_jamAll 0 = .ok (.aload_n 0, 1) := by decide +kernel
theorem dX0_jamAll_1 : decode cX0_jamAll 1 = .ok (.iload_n 1, 1) := by decide +kernel
theorem dX0_jamAll_2 : decode cX0_jamAll 2 = .ok (.putfield 9, 3) := by decide +kernel
theorem dX0_jamAll_5 : decode cX0_jamAll 5 = .ok (.aload_n 0, 1) := by decide +kernel
theorem dX0_jamAll_6 : decode cX0_jamAll 6 = .ok (.iload_n 2, 1) := by decide +kernel
theorem dX0_jamAll_7 : decode cX0_jamAll 7 = .ok (.iload_n 1, 1) := by decide +kernel
theorem dX0_jamAll_8 : decode cX0_jamAll 8 = .ok (.iand, 1) := by decide +kernel
theorem dX0_jamAll_9 : decode cX0_jamAll 9 = .ok (.putfield 15, 3) := by decide +kernel
theorem dX0_jamAll_12 : decode cX0_jamAll 12 = .ok (.aload_n 0, 1) := by decide +kernel
theorem dX0_jamAll_13 : decode cX0_jamAll 13 = .ok (.aload_n 0, 1) := by decide +kernel
theorem dX0_jamAll_14 : decode cX0_jamAll 14 = .ok (.getfield 15, 3) := by decide +kernel
theorem dX0_jamAll_17 : decode cX0_jamAll 17 = .ok (.putfield 18, 3) := by decide +kernel
theorem dX0_jamAll_20 : decode cX0_jamAll 20 = .ok (.return_, 1) := by decide +kernel
theorem dX0_jamLike_0 : decode cX0_jamLike 0 = .ok (.aload_n 0, 1) := by decide +kernel
theorem dX0_jamLike_1 : decode cX0_jamLike 1 = .ok (.aload_n 1, 1) := by decide +kernel
theorem dX0_jamLike_2 : decode cX0_jamLike 2 = .ok (.getfield 9, 3) := by decide +kernel
theorem dX0_jamLike_5 : decode cX0_jamLike 5 = .ok (.aload_n 1, 1) := by decide +kernel
theorem dX0_jamLike_6 : decode cX0_jamLike 6 = .ok (.getfield 15, 3) := by decide +kernel
theorem dX0_jamLike_9 : decode cX0_jamLike 9 = .ok (.invokevirtual 29, 3) := by decide +kernel
theorem dX0_jamLike_12 : decode cX0_jamLike 12 = .ok (.return_, 1) := by decide +kernel
theorem dX2_begin_0 : decode cX2_begin 0 = .ok (.aload_n 0, 1) := by decide +kernel
theorem dX2_begin_1 : decode cX2_begin 1 = .ok (.aload_n 1, 1) := by decide +kernel
theorem dX2_begin_2 : decode cX2_begin 2 = .ok (.putfield 18, 3) := by decide +kernel
theorem dX2_begin_5 : decode cX2_begin 5 = .ok (.aload_n 0, 1) := by decide +kernel
theorem dX2_begin_6 : decode cX2_begin 6 = .ok (.getfield 25, 3) := by decide +kernel
theorem dX2_begin_9 : decode cX2_begin 9 = .ok (.aload_n 2, 1) := by decide +kernel
theorem dX2_begin_10 : decode cX2_begin 10 = .ok (.invokevirtual 56, 3) := by decide +kernel
theorem dX2_begin_13 : decode cX2_begin 13 = .ok (.aload_n 0, 1) := by decide +kernel
theorem dX2_begin_14 : decode cX2_begin 14 = .ok (.getfield 39, 3) := by decide +kernel
theorem dX2_begin_17 : decode cX2_begin 17 = .ok (.aload_n 3, 1) := by decide +kernel
theorem dX2_begin_18 : decode cX2_begin 18 = .ok (.invokevirtual 60, 3) := by decide +kernel
theorem dX2_begin_21 : decode cX2_begin 21 = .ok (.aload_n 0, 1) := by decide +kernel
theorem dX2_begin_22 : decode cX2_begin 22 = .ok (.getfield 32, 3) := by decide +kernel
theorem dX2_begin_25 : decode cX2_begin 25 = .ok (.aload 4, 2) := by decide +kernel
theorem dX2_begin_27 : decode cX2_begin 27 = .ok (.invokevirtual 63, 3) := by decide +kernel
theorem dX2_begin_30 : decode cX2_begin 30 = .ok (.return_, 1) := by decide +kernel
theorem dX3_hasWaysOf_0 : decode cX3_hasWaysOf 0 = .ok (.aload_n 0, 1) := by decide +kernel
theorem dX3_hasWaysOf_1 : decode cX3_hasWaysOf 1 = .ok (.getfield 38, 3) := by decide +kernel
theorem dX3_hasWaysOf_4 : decode cX3_hasWaysOf 4 = .ok (.aload_n 1, 1) := by decide +kernel
theorem dX3_hasWaysOf_5 : decode cX3_hasWaysOf 5 = .ok (.getfield 38, 3) := by decide +kernel
theorem dX3_hasWaysOf_8 : decode cX3_hasWaysOf 8 = .ok (.lcmp, 1) := by decide +kernel
theorem dX3_hasWaysOf_9 : decode cX3_hasWaysOf 9 = .ok (.ifCond .ne 19, 3) := by decide +kernel
theorem dX3_hasWaysOf_12 : decode cX3_hasWaysOf 12 = .ok (.aload_n 0, 1) := by decide +kernel
theorem dX3_hasWaysOf_13 : decode cX3_hasWaysOf 13 = .ok (.getfield 42, 3) := by decide +kernel
theorem dX3_hasWaysOf_16 : decode cX3_hasWaysOf 16 = .ok (.aload_n 1, 1) := by decide +kernel
theorem dX3_hasWaysOf_17 : decode cX3_hasWaysOf 17 = .ok (.getfield 42, 3) := by decide +kernel
theorem dX3_hasWaysOf_20 : decode cX3_hasWaysOf 20 = .ok (.lcmp, 1) := by decide +kernel
theorem dX3_hasWaysOf_21 : decode cX3_hasWaysOf 21 = .ok (.ifCond .ne 7, 3) := by decide +kernel
theorem dX3_hasWaysOf_24 : decode cX3_hasWaysOf 24 = .ok (.iconst 1, 1) := by decide +kernel
theorem dX3_hasWaysOf_25 : decode cX3_hasWaysOf 25 = .ok (.goto 4, 3) := by decide +kernel
theorem dX3_hasWaysOf_28 : decode cX3_hasWaysOf 28 = .ok (.iconst 0, 1) := by decide +kernel
theorem dX3_hasWaysOf_29 : decode cX3_hasWaysOf 29 = .ok (.ireturn, 1) := by decide +kernel
theorem dX2_firstDifference_0 : decode cX2_firstDifference 0 = .ok (.aload_n 0, 1) := by decide +kernel
theorem dX2_firstDifference_1 : decode cX2_firstDifference 1 = .ok (.getfield 46, 3) := by decide +kernel
theorem dX2_firstDifference_4 : decode cX2_firstDifference 4 = .ok (.aload_n 0, 1) := by decide +kernel
theorem dX2_firstDifference_5 : decode cX2_firstDifference 5 = .ok (.getfield 25, 3) := by decide +kernel
theorem dX2_firstDifference_8 : decode cX2_firstDifference 8 = .ok (.invokevirtual 56, 3) := by decide +kernel
theorem dX2_firstDifference_11 : decode cX2_firstDifference 11 = .ok (.aload_n 0, 1) := by decide +kernel
theorem dX2_firstDifference_12 : decode cX2_firstDifference 12 = .ok (.getfield 43, 3) := by decide +kernel
theorem dX2_firstDifference_15 : decode cX2_firstDifference 15 = .ok (.aload_n 0, 1) := by decide +kernel
theorem dX2_firstDifference_16 : decode cX2_firstDifference 16 = .ok (.getfield 25, 3) := by decide +kernel
theorem dX2_firstDifference_19 : decode cX2_firstDifference 19 = .ok (.invokevirtual 56, 3) := by decide +kernel
theorem dX2_firstDifference_22 : decode cX2_firstDifference 22 = .ok (.aload_n 0, 1) := by decide +kernel
theorem dX2_firstDifference_23 : decode cX2_firstDifference 23 = .ok (.getfield 49, 3) := by decide +kernel
theorem dX2_firstDifference_26 : decode cX2_firstDifference 26 = .ok (.aload_n 0, 1) := by decide +kernel
theorem dX2_firstDifference_27 : decode cX2_firstDifference 27 = .ok (.getfield 32, 3) := by decide +kernel
theorem dX2_firstDifference_30 : decode cX2_firstDifference 30 = .ok (.invokevirtual 63, 3) := by decide +kernel
theorem dX2_firstDifference_33 : decode cX2_firstDifference 33 = .ok (.iconst 1, 1) := by decide +kernel
theorem dX2_firstDifference_34 : decode cX2_firstDifference 34 = .ok (.istore_n 3, 1) := by decide +kernel
theorem dX2_firstDifference_35 : decode cX2_firstDifference 35 = .ok (.iload_n 3, 1) := by decide +kernel
theorem dX2_firstDifference_36 : decode cX2_firstDifference 36 = .ok (.iload_n 2, 1) := by decide +kernel
theorem dX2_firstDifference_37 : decode cX2_firstDifference 37 = .ok (.if_icmp .gt 70, 3) := by decide +kernel
theorem dX2_firstDifference_40 : decode cX2_firstDifference 40 = .ok (.aload_n 0, 1) := by decide +kernel
theorem dX2_firstDifference_41 : decode cX2_firstDifference 41 = .ok (.getfield 46, 3) := by decide +kernel
theorem dX2_firstDifference_44 : decode cX2_firstDifference 44 = .ok (.aload_n 1, 1) := by decide +kernel
theorem dX2_firstDifference_45 : decode cX2_firstDifference 45 = .ok (.aload_n 0, 1) := by decide +kernel
theorem dX2_firstDifference_46 : decode cX2_firstDifference 46 = .ok (.getfield 39, 3) := by decide +kernel
theorem dX2_firstDifference_49 : decode cX2_firstDifference 49 = .ok (.invokevirtual 67, 3) := by decide +kernel
theorem dX2_firstDifference_52 : decode cX2_firstDifference 52 = .ok (.aload_n 0, 1) := by decide +kernel
theorem dX2_firstDifference_53 : decode cX2_firstDifference 53 = .ok (.getfield 49, 3) := by decide +kernel
theorem dX2_firstDifference_56 : decode cX2_firstDifference 56 = .ok (.aload_n 0, 1) := by decide +kernel
theorem dX2_firstDifference_57 : decode cX2_firstDifference 57 = .ok (.getfield 18, 3) := by decide +kernel
theorem dX2_firstDifference_60 : decode cX2_firstDifference 60 = .ok (.aload_n 0, 1) := by decide +kernel
theorem dX2_firstDifference_61 : decode cX2_firstDifference 61 = .ok (.getfield 43, 3) := by decide +kernel
theorem dX2_firstDifference_64 : decode cX2_firstDifference 64 = .ok (.aload_n 0, 1) := by decide +kernel
theorem dX2_firstDifference_65 : decode cX2_firstDifference 65 = .ok (.getfield 39, 3) := by decide +kernel
theorem dX2_firstDifference_68 : decode cX2_firstDifference 68 = .ok (.invokevirtual 71, 3) := by decide +kernel
theorem dX2_firstDifference_71 : decode cX2_firstDifference 71 = .ok (.aload_n 0, 1) := by decide +kernel
theorem dX2_firstDifference_72 : decode cX2_firstDifference 72 = .ok (.getfield 43, 3) := by decide +kernel
theorem dX2_firstDifference_75 : decode cX2_firstDifference 75 = .ok (.aload_n 0, 1) := by decide +kernel
theorem dX2_firstDifference_76 : decode cX2_firstDifference 76 = .ok (.getfield 46, 3) := by decide +kernel
theorem dX2_firstDifference_79 : decode cX2_firstDifference 79 = .ok (.invokevirtual 75, 3) := by decide +kernel
theorem dX2_firstDifference_82 : decode cX2_firstDifference 82 = .ok (.ifCond .eq 17, 3) := by decide +kernel
theorem dX2_firstDifference_85 : decode cX2_firstDifference 85 = .ok (.aload_n 0, 1) := by decide +kernel
theorem dX2_firstDifference_86 : decode cX2_firstDifference 86 = .ok (.getfield 43, 3) := by decide +kernel
theorem dX2_firstDifference_89 : decode cX2_firstDifference 89 = .ok (.aload_n 0, 1) := by decide +kernel
theorem dX2_firstDifference_90 : decode cX2_firstDifference 90 = .ok (.getfield 46, 3) := by decide +kernel
theorem dX2_firstDifference_93 : decode cX2_firstDifference 93 = .ok (.invokevirtual 79, 3) := by decide +kernel
theorem dX2_firstDifference_96 : decode cX2_firstDifference 96 = .ok (.ifCond .ne 5, 3) := by decide +kernel
theorem dX2_firstDifference_99 : decode cX2_firstDifference 99 = .ok (.iload_n 3, 1) := by decide +kernel
theorem dX2_firstDifference_100 : decode cX2_firstDifference 100 = .ok (.ireturn, 1) := by decide +kernel
theorem dX2_firstDifference_101 : decode cX2_firstDifference 101 = .ok (.iinc 3 1, 3) := by decide +kernel
theorem dX2_firstDifference_104 : decode cX2_firstDifference 104 = .ok (.goto (-69), 3) := by decide +kernel
theorem dX2_firstDifference_107 : decode cX2_firstDifference 107 = .ok (.iconst 0, 1) := by decide +kernel
theorem dX2_firstDifference_108 : decode cX2_firstDifference 108 = .ok (.ireturn, 1) := by decide +kernel
theorem dX10_same_0 : decode cX10_same 0 = .ok (.iload_n 1, 1) := by decide +kernel
theorem dX10_same_1 : decode cX10_same 1 = .ok (.invokestatic 278, 3) := by decide +kernel
theorem dX10_same_4 : decode cX10_same 4 = .ok (.ifCond .ne 5, 3) := by decide +kernel
theorem dX10_same_7 : decode cX10_same 7 = .ok (.iconst (-1), 1) := by decide +kernel
theorem dX10_same_8 : decode cX10_same 8 = .ok (.ireturn, 1) := by decide +kernel
theorem dX10_same_9 : decode cX10_same 9 = .ok (.aload_n 0, 1) := by decide +kernel
theorem dX10_same_10 : decode cX10_same 10 = .ok (.getfield 92, 3) := by decide +kernel
theorem dX10_same_13 : decode cX10_same 13 = .ok (.aload_n 0, 1) := by decide +kernel
theorem dX10_same_14 : decode cX10_same 14 = .ok (.getfield 42, 3) := by decide +kernel
theorem dX10_same_17 : decode cX10_same 17 = .ok (.aload_n 0, 1) := by decide +kernel
theorem dX10_same_18 : decode cX10_same 18 = .ok (.getfield 56, 3) := by decide +kernel
theorem dX10_same_21 : decode cX10_same 21 = .ok (.aload_n 0, 1) := by decide +kernel
theorem dX10_same_22 : decode cX10_same 22 = .ok (.getfield 49, 3) := by decide +kernel
theorem dX10_same_25 : decode cX10_same 25 = .ok (.aload_n 0, 1) := by decide +kernel
theorem dX10_same_26 : decode cX10_same 26 = .ok (.getfield 63, 3) := by decide +kernel
theorem dX10_same_29 : decode cX10_same 29 = .ok (.invokevirtual 281, 3) := by decide +kernel
theorem dX10_same_32 : decode cX10_same 32 = .ok (.aload_n 0, 1) := by decide +kernel
theorem dX10_same_33 : decode cX10_same 33 = .ok (.getfield 92, 3) := by decide +kernel
theorem dX10_same_36 : decode cX10_same 36 = .ok (.aload_n 0, 1) := by decide +kernel
theorem dX10_same_37 : decode cX10_same 37 = .ok (.getfield 35, 3) := by decide +kernel
theorem dX10_same_40 : decode cX10_same 40 = .ok (.iload_n 1, 1) := by decide +kernel
theorem dX10_same_41 : decode cX10_same 41 = .ok (.invokevirtual 285, 3) := by decide +kernel
theorem dX10_same_44 : decode cX10_same 44 = .ok (.ireturn, 1) := by decide +kernel
theorem dX2_stand_0 : decode cX2_stand 0 = .ok (.aload_n 0, 1) := by decide +kernel
theorem dX2_stand_1 : decode cX2_stand 1 = .ok (.getfield 43, 3) := by decide +kernel
theorem dX2_stand_4 : decode cX2_stand 4 = .ok (.getfield 128, 3) := by decide +kernel
theorem dX2_stand_7 : decode cX2_stand 7 = .ok (.iconst 4, 1) := by decide +kernel
theorem dX2_stand_8 : decode cX2_stand 8 = .ok (.imul, 1) := by decide +kernel
theorem dX2_stand_9 : decode cX2_stand 9 = .ok (.aload_n 0, 1) := by decide +kernel
