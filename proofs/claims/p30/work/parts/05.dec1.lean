theorem dX11_comes_11 : decode cX11_comes 11 = .ok (.ifCond .ne 5, 3) := by decide +kernel
theorem dX11_comes_14 : decode cX11_comes 14 = .ok (.iconst (-1), 1) := by decide +kernel
theorem dX11_comes_15 : decode cX11_comes 15 = .ok (.ireturn, 1) := by decide +kernel
theorem dX11_comes_16 : decode cX11_comes 16 = .ok (.aload_n 0, 1) := by decide +kernel
theorem dX11_comes_17 : decode cX11_comes 17 = .ok (.iconst 4, 1) := by decide +kernel
theorem dX11_comes_18 : decode cX11_comes 18 = .ok (.invokevirtual 358, 3) := by decide +kernel
theorem dX11_comes_21 : decode cX11_comes 21 = .ok (.aload_n 0, 1) := by decide +kernel
theorem dX11_comes_22 : decode cX11_comes 22 = .ok (.invokevirtual 355, 3) := by decide +kernel
theorem dX11_comes_25 : decode cX11_comes 25 = .ok (.iconst 0, 1) := by decide +kernel
theorem dX11_comes_26 : decode cX11_comes 26 = .ok (.istore_n 2, 1) := by decide +kernel
theorem dX11_comes_27 : decode cX11_comes 27 = .ok (.iconst (-1), 1) := by decide +kernel
theorem dX11_comes_28 : decode cX11_comes 28 = .ok (.istore_n 3, 1) := by decide +kernel
theorem dX11_comes_29 : decode cX11_comes 29 = .ok (.iconst 0, 1) := by decide +kernel
theorem dX11_comes_30 : decode cX11_comes 30 = .ok (.istore 4, 2) := by decide +kernel
theorem dX11_comes_32 : decode cX11_comes 32 = .ok (.iload 4, 2) := by decide +kernel
theorem dX11_comes_34 : decode cX11_comes 34 = .ok (.aload_n 0, 1) := by decide +kernel
theorem dX11_comes_35 : decode cX11_comes 35 = .ok (.invokevirtual 289, 3) := by decide +kernel
theorem dX11_comes_38 : decode cX11_comes 38 = .ok (.if_icmp .ge 58, 3) := by decide +kernel
theorem dX11_comes_41 : decode cX11_comes 41 = .ok (.aload_n 0, 1) := by decide +kernel
theorem dX11_comes_42 : decode cX11_comes 42 = .ok (.getfield 84, 3) := by decide +kernel
theorem dX11_comes_45 : decode cX11_comes 45 = .ok (.iload 4, 2) := by decide +kernel
theorem dX11_comes_47 : decode cX11_comes 47 = .ok (.iaload, 1) := by decide +kernel
theorem dX11_comes_48 : decode cX11_comes 48 = .ok (.iconst (-1), 1) := by decide +kernel
theorem dX11_comes_49 : decode cX11_comes 49 = .ok (.if_icmp .ne 6, 3) := by decide +kernel
theorem dX11_comes_52 : decode cX11_comes 52 = .ok (.goto 38, 3) := by decide +kernel
theorem dX11_comes_55 : decode cX11_comes 55 = .ok (.aload_n 0, 1) := by decide +kernel
theorem dX11_comes_56 : decode cX11_comes 56 = .ok (.iload 4, 2) := by decide +kernel
theorem dX11_comes_58 : decode cX11_comes 58 = .ok (.invokevirtual 364, 3) := by decide +kernel
theorem dX11_comes_61 : decode cX11_comes 61 = .ok (.aload_n 0, 1) := by decide +kernel
theorem dX11_comes_62 : decode cX11_comes 62 = .ok (.sipush 2000, 3) := by decide +kernel
theorem dX11_comes_65 : decode cX11_comes 65 = .ok (.invokevirtual 367, 3) := by decide +kernel
theorem dX11_comes_68 : decode cX11_comes 68 = .ok (.bipush (-2), 2) := by decide +kernel
theorem dX11_comes_70 : decode cX11_comes 70 = .ok (.if_icmp .eq 6, 3) := by decide +kernel
theorem dX11_comes_73 : decode cX11_comes 73 = .ok (.goto 17, 3) := by decide +kernel
theorem dX11_comes_76 : decode cX11_comes 76 = .ok (.iload_n 2, 1) := by decide +kernel
theorem dX11_comes_77 : decode cX11_comes 77 = .ok (.ifCond .ne 8, 3) := by decide +kernel
theorem dX11_comes_80 : decode cX11_comes 80 = .ok (.iload 4, 2) := by decide +kernel
theorem dX11_comes_82 : decode cX11_comes 82 = .ok (.goto 4, 3) := by decide +kernel
theorem dX11_comes_85 : decode cX11_comes 85 = .ok (.iload_n 3, 1) := by decide +kernel
theorem dX11_comes_86 : decode cX11_comes 86 = .ok (.istore_n 3, 1) := by decide +kernel
theorem dX11_comes_87 : decode cX11_comes 87 = .ok (.iinc 2 1, 3) := by decide +kernel
theorem dX11_comes_90 : decode cX11_comes 90 = .ok (.iinc 4 1, 3) := by decide +kernel
theorem dX11_comes_93 : decode cX11_comes 93 = .ok (.goto (-61), 3) := by decide +kernel
theorem dX11_comes_96 : decode cX11_comes 96 = .ok (.aload_n 0, 1) := by decide +kernel
theorem dX11_comes_97 : decode cX11_comes 97 = .ok (.iconst 4, 1) := by decide +kernel
theorem dX11_comes_98 : decode cX11_comes 98 = .ok (.invokevirtual 361, 3) := by decide +kernel
theorem dX11_comes_101 : decode cX11_comes 101 = .ok (.iload_n 1, 1) := by decide +kernel
theorem dX11_comes_102 : decode cX11_comes 102 = .ok (.ifCond .ne 7, 3) := by decide +kernel
theorem dX11_comes_105 : decode cX11_comes 105 = .ok (.iload_n 2, 1) := by decide +kernel
theorem dX11_comes_106 : decode cX11_comes 106 = .ok (.goto 4, 3) := by decide +kernel
theorem dX11_comes_109 : decode cX11_comes 109 = .ok (.iload_n 3, 1) := by decide +kernel
theorem dX11_comes_110 : decode cX11_comes 110 = .ok (.ireturn, 1) := by decide +kernel
theorem dX11_second_0 : decode cX11_second 0 = .ok (.aload_n 0, 1) := by decide +kernel
theorem dX11_second_1 : decode cX11_second 1 = .ok (.iconst 0, 1) := by decide +kernel
theorem dX11_second_2 : decode cX11_second 2 = .ok (.putfield 130, 3) := by decide +kernel
theorem dX11_second_5 : decode cX11_second 5 = .ok (.aload_n 0, 1) := by decide +kernel
theorem dX11_second_6 : decode cX11_second 6 = .ok (.iload_n 1, 1) := by decide +kernel
theorem dX11_second_7 : decode cX11_second 7 = .ok (.invokevirtual 321, 3) := by decide +kernel
theorem dX11_second_10 : decode cX11_second 10 = .ok (.ifCond .eq 12, 3) := by decide +kernel
theorem dX11_second_13 : decode cX11_second 13 = .ok (.iload_n 2, 1) := by decide +kernel
theorem dX11_second_14 : decode cX11_second 14 = .ok (.iconst 0, 1) := by decide +kernel
theorem dX11_second_15 : decode cX11_second 15 = .ok (.iconst 3, 1) := by decide +kernel
theorem dX11_second_16 : decode cX11_second 16 = .ok (.invokestatic 317, 3) := by decide +kernel
theorem dX11_second_19 : decode cX11_second 19 = .ok (.ifCond .ne 5, 3) := by decide +kernel
theorem dX11_second_22 : decode cX11_second 22 = .ok (.iconst (-1), 1) := by decide +kernel
theorem dX11_second_23 : decode cX11_second 23 = .ok (.ireturn, 1) := by decide +kernel
theorem dX11_second_24 : decode cX11_second 24 = .ok (.aload_n 0, 1) := by decide +kernel
theorem dX11_second_25 : decode cX11_second 25 = .ok (.iconst 4, 1) := by decide +kernel
theorem dX11_second_26 : decode cX11_second 26 = .ok (.invokevirtual 358, 3) := by decide +kernel
theorem dX11_second_29 : decode cX11_second 29 = .ok (.aload_n 0, 1) := by decide +kernel
theorem dX11_second_30 : decode cX11_second 30 = .ok (.iload_n 1, 1) := by decide +kernel
theorem dX11_second_31 : decode cX11_second 31 = .ok (.invokevirtual 364, 3) := by decide +kernel
theorem dX11_second_34 : decode cX11_second 34 = .ok (.aload_n 0, 1) := by decide +kernel
theorem dX11_second_35 : decode cX11_second 35 = .ok (.iconst 0, 1) := by decide +kernel
theorem dX11_second_36 : decode cX11_second 36 = .ok (.putfield 337, 3) := by decide +kernel
theorem dX11_second_39 : decode cX11_second 39 = .ok (.aload_n 0, 1) := by decide +kernel
theorem dX11_second_40 : decode cX11_second 40 = .ok (.sipush 2000, 3) := by decide +kernel
theorem dX11_second_43 : decode cX11_second 43 = .ok (.invokevirtual 367, 3) := by decide +kernel
theorem dX11_second_46 : decode cX11_second 46 = .ok (.istore_n 3, 1) := by decide +kernel
theorem dX11_second_47 : decode cX11_second 47 = .ok (.aload_n 0, 1) := by decide +kernel
theorem dX11_second_48 : decode cX11_second 48 = .ok (.getfield 337, 3) := by decide +kernel
theorem dX11_second_51 : decode cX11_second 51 = .ok (.istore 4, 2) := by decide +kernel
theorem dX11_second_53 : decode cX11_second 53 = .ok (.bipush (-2), 2) := by decide +kernel
theorem dX11_second_55 : decode cX11_second 55 = .ok (.istore 5, 2) := by decide +kernel
theorem dX11_second_57 : decode cX11_second 57 = .ok (.iload_n 3, 1) := by decide +kernel
theorem dX11_second_58 : decode cX11_second 58 = .ok (.bipush (-2), 2) := by decide +kernel
theorem dX11_second_60 : decode cX11_second 60 = .ok (.if_icmp .eq 37, 3) := by decide +kernel
theorem dX11_second_63 : decode cX11_second 63 = .ok (.aload_n 0, 1) := by decide +kernel
theorem dX11_second_64 : decode cX11_second 64 = .ok (.iload_n 1, 1) := by decide +kernel
theorem dX11_second_65 : decode cX11_second 65 = .ok (.putfield 295, 3) := by decide +kernel
theorem dX11_second_68 : decode cX11_second 68 = .ok (.aload_n 0, 1) := by decide +kernel
theorem dX11_second_69 : decode cX11_second 69 = .ok (.iconst 0, 1) := by decide +kernel
theorem dX11_second_70 : decode cX11_second 70 = .ok (.putfield 298, 3) := by decide +kernel
theorem dX11_second_73 : decode cX11_second 73 = .ok (.aload_n 0, 1) := by decide +kernel
theorem dX11_second_74 : decode cX11_second 74 = .ok (.iconst 0, 1) := by decide +kernel
theorem dX11_second_75 : decode cX11_second 75 = .ok (.putfield 301, 3) := by decide +kernel
theorem dX11_second_78 : decode cX11_second 78 = .ok (.aload_n 0, 1) := by decide +kernel
theorem dX11_second_79 : decode cX11_second 79 = .ok (.iconst 0, 1) := by decide +kernel
theorem dX11_second_80 : decode cX11_second 80 = .ok (.putfield 304, 3) := by decide +kernel
theorem dX11_second_83 : decode cX11_second 83 = .ok (.aload_n 0, 1) := by decide +kernel
theorem dX11_second_84 : decode cX11_second 84 = .ok (.iconst 0, 1) := by decide +kernel
theorem dX11_second_85 : decode cX11_second 85 = .ok (.putfield 337, 3) := by decide +kernel
theorem dX11_second_88 : decode cX11_second 88 = .ok (.aload_n 0, 1) := by decide +kernel
theorem dX11_second_89 : decode cX11_second 89 = .ok (.sipush 2000, 3) := by decide +kernel
theorem dX11_second_92 : decode cX11_second 92 = .ok (.invokevirtual 367, 3) := by decide +kernel
theorem dX11_second_95 : decode cX11_second 95 = .ok (.istore 5, 2) := by decide +kernel
theorem dX11_second_97 : decode cX11_second 97 = .ok (.aload_n 0, 1) := by decide +kernel
theorem dX11_second_98 : decode cX11_second 98 = .ok (.getfield 337, 3) := by decide +kernel
theorem dX11_second_101 : decode cX11_second 101 = .ok (.istore 6, 2) := by decide +kernel
theorem dX11_second_103 : decode cX11_second 103 = .ok (.aload_n 0, 1) := by decide +kernel
theorem dX11_second_104 : decode cX11_second 104 = .ok (.iconst 4, 1) := by decide +kernel
theorem dX11_second_105 : decode cX11_second 105 = .ok (.invokevirtual 361, 3) := by decide +kernel
theorem dX11_second_108 : decode cX11_second 108 = .ok (.iload_n 2, 1) := by decide +kernel
theorem dX11_second_109 : decode cX11_second 109 = .ok (.iconst 2, 1) := by decide +kernel
theorem dX11_second_110 : decode cX11_second 110 = .ok (.irem, 1) := by decide +kernel
theorem dX11_second_111 : decode cX11_second 111 = .ok (.ifCond .ne 12, 3) := by decide +kernel
theorem dX11_second_114 : decode cX11_second 114 = .ok (.iload_n 3, 1) := by decide +kernel
theorem dX11_second_115 : decode cX11_second 115 = .ok (.bipush (-2), 2) := by decide +kernel
theorem dX11_second_117 : decode cX11_second 117 = .ok (.if_icmp .ne 16, 3) := by decide +kernel
theorem dX11_second_120 : decode cX11_second 120 = .ok (.goto 10, 3) := by decide +kernel
theorem dX11_second_123 : decode cX11_second 123 = .ok (.iload 5, 2) := by decide +kernel
theorem dX11_second_125 : decode cX11_second 125 = .ok (.bipush (-2), 2) := by decide +kernel
theorem dX11_second_127 : decode cX11_second 127 = .ok (.if_icmp .ne 6, 3) := by decide +kernel
theorem dX11_second_130 : decode cX11_second 130 = .ok (.bipush (-2), 2) := by decide +kernel
theorem dX11_second_132 : decode cX11_second 132 = .ok (.ireturn, 1) := by decide +kernel
theorem dX11_second_133 : decode cX11_second 133 = .ok (.iload_n 2, 1) := by decide +kernel
theorem dX11_second_134 : decode cX11_second 134 = .ok (.ifCond .ne 7, 3) := by decide +kernel
theorem dX11_second_137 : decode cX11_second 137 = .ok (.iload_n 3, 1) := by decide +kernel
theorem dX11_second_138 : decode cX11_second 138 = .ok (.goto 25, 3) := by decide +kernel
theorem dX11_second_141 : decode cX11_second 141 = .ok (.iload_n 2, 1) := by decide +kernel
theorem dX11_second_142 : decode cX11_second 142 = .ok (.iconst 1, 1) := by decide +kernel
theorem dX11_second_143 : decode cX11_second 143 = .ok (.if_icmp .ne 8, 3) := by decide +kernel
theorem dX11_second_146 : decode cX11_second 146 = .ok (.iload 5, 2) := by decide +kernel
theorem dX11_second_148 : decode cX11_second 148 = .ok (.goto 15, 3) := by decide +kernel
theorem dX11_second_151 : decode cX11_second 151 = .ok (.iload_n 2, 1) := by decide +kernel
theorem dX11_second_152 : decode cX11_second 152 = .ok (.iconst 2, 1) := by decide +kernel
theorem dX11_second_153 : decode cX11_second 153 = .ok (.if_icmp .ne 8, 3) := by decide +kernel
theorem dX11_second_156 : decode cX11_second 156 = .ok (.iload 4, 2) := by decide +kernel
theorem dX11_second_158 : decode cX11_second 158 = .ok (.goto 5, 3) := by decide +kernel
theorem dX11_second_161 : decode cX11_second 161 = .ok (.iload 6, 2) := by decide +kernel
theorem dX11_second_163 : decode cX11_second 163 = .ok (.ireturn, 1) := by decide +kernel
theorem dX11_isSmallFloor_0 : decode cX11_isSmallFloor 0 = .ok (.iload_n 0, 1) := by decide +kernel
theorem dX11_isSmallFloor_1 : decode cX11_isSmallFloor 1 = .ok (.iconst 2, 1) := by decide +kernel
theorem dX11_isSmallFloor_2 : decode cX11_isSmallFloor 2 = .ok (.iconst 3, 1) := by decide +kernel
theorem dX11_isSmallFloor_3 : decode cX11_isSmallFloor 3 = .ok (.invokestatic 317, 3) := by decide +kernel
theorem dX11_isSmallFloor_6 : decode cX11_isSmallFloor 6 = .ok (.ifCond .eq 16, 3) := by decide +kernel
theorem dX11_isSmallFloor_9 : decode cX11_isSmallFloor 9 = .ok (.iload_n 1, 1) := by decide +kernel
theorem dX11_isSmallFloor_10 : decode cX11_isSmallFloor 10 = .ok (.iconst 2, 1) := by decide +kernel
theorem dX11_isSmallFloor_11 : decode cX11_isSmallFloor 11 = .ok (.iconst 3, 1) := by decide +kernel
theorem dX11_isSmallFloor_12 : decode cX11_isSmallFloor 12 = .ok (.invokestatic 317, 3) := by decide +kernel
theorem dX11_isSmallFloor_15 : decode cX11_isSmallFloor 15 = .ok (.ifCond .eq 7, 3) := by decide +kernel
theorem dX11_isSmallFloor_18 : decode cX11_isSmallFloor 18 = .ok (.iconst 1, 1) := by decide +kernel
theorem dX11_isSmallFloor_19 : decode cX11_isSmallFloor 19 = .ok (.goto 4, 3) := by decide +kernel
theorem dX11_isSmallFloor_22 : decode cX11_isSmallFloor 22 = .ok (.iconst 0, 1) := by decide +kernel
theorem dX11_isSmallFloor_23 : decode cX11_isSmallFloor 23 = .ok (.ireturn, 1) := by decide +kernel
theorem dX11_wallMany_0 : decode cX11_wallMany 0 = .ok (.aload_n 0, 1) := by decide +kernel
theorem dX11_wallMany_1 : decode cX11_wallMany 1 = .ok (.getfield 286, 3) := by decide +kernel
theorem dX11_wallMany_4 : decode cX11_wallMany 4 = .ok (.aload_n 0, 1) := by decide +kernel
theorem dX11_wallMany_5 : decode cX11_wallMany 5 = .ok (.getfield 283, 3) := by decide +kernel
theorem dX11_wallMany_8 : decode cX11_wallMany 8 = .ok (.iconst 1, 1) := by decide +kernel
theorem dX11_wallMany_9 : decode cX11_wallMany 9 = .ok (.isub, 1) := by decide +kernel
theorem dX11_wallMany_10 : decode cX11_wallMany 10 = .ok (.imul, 1) := by decide +kernel
theorem dX11_wallMany_11 : decode cX11_wallMany 11 = .ok (.aload_n 0, 1) := by decide +kernel
theorem dX11_wallMany_12 : decode cX11_wallMany 12 = .ok (.getfield 283, 3) := by decide +kernel
theorem dX11_wallMany_15 : decode cX11_wallMany 15 = .ok (.aload_n 0, 1) := by decide +kernel
theorem dX11_wallMany_16 : decode cX11_wallMany 16 = .ok (.getfield 286, 3) := by decide +kernel
theorem dX11_wallMany_19 : decode cX11_wallMany 19 = .ok (.iconst 1, 1) := by decide +kernel
theorem dX11_wallMany_20 : decode cX11_wallMany 20 = .ok (.isub, 1) := by decide +kernel
theorem dX11_wallMany_21 : decode cX11_wallMany 21 = .ok (.imul, 1) := by decide +kernel
theorem dX11_wallMany_22 : decode cX11_wallMany 22 = .ok (.iadd, 1) := by decide +kernel
theorem dX11_wallMany_23 : decode cX11_wallMany 23 = .ok (.ireturn, 1) := by decide +kernel
theorem dX11_wallAt_0 : decode cX11_wallAt 0 = .ok (.aload_n 0, 1) := by decide +kernel
theorem dX11_wallAt_1 : decode cX11_wallAt 1 = .ok (.getfield 286, 3) := by decide +kernel
theorem dX11_wallAt_4 : decode cX11_wallAt 4 = .ok (.aload_n 0, 1) := by decide +kernel
theorem dX11_wallAt_5 : decode cX11_wallAt 5 = .ok (.getfield 283, 3) := by decide +kernel
theorem dX11_wallAt_8 : decode cX11_wallAt 8 = .ok (.iconst 1, 1) := by decide +kernel
theorem dX11_wallAt_9 : decode cX11_wallAt 9 = .ok (.isub, 1) := by decide +kernel
theorem dX11_wallAt_10 : decode cX11_wallAt 10 = .ok (.imul, 1) := by decide +kernel
theorem dX11_wallAt_11 : decode cX11_wallAt 11 = .ok (.istore_n 2, 1) := by decide +kernel
theorem dX11_wallAt_12 : decode cX11_wallAt 12 = .ok (.iload_n 1, 1) := by decide +kernel
theorem dX11_wallAt_13 : decode cX11_wallAt 13 = .ok (.iload_n 2, 1) := by decide +kernel
theorem dX11_wallAt_14 : decode cX11_wallAt 14 = .ok (.if_icmp .ge 30, 3) := by decide +kernel
theorem dX11_wallAt_17 : decode cX11_wallAt 17 = .ok (.iconst 4, 1) := by decide +kernel
theorem dX11_wallAt_18 : decode cX11_wallAt 18 = .ok (.iload_n 1, 1) := by decide +kernel
theorem dX11_wallAt_19 : decode cX11_wallAt 19 = .ok (.aload_n 0, 1) := by decide +kernel
theorem dX11_wallAt_20 : decode cX11_wallAt 20 = .ok (.getfield 283, 3) := by decide +kernel
theorem dX11_wallAt_23 : decode cX11_wallAt 23 = .ok (.iconst 1, 1) := by decide +kernel
theorem dX11_wallAt_24 : decode cX11_wallAt 24 = .ok (.isub, 1) := by decide +kernel
theorem dX11_wallAt_25 : decode cX11_wallAt 25 = .ok (.idiv, 1) := by decide +kernel
theorem dX11_wallAt_26 : decode cX11_wallAt 26 = .ok (.aload_n 0, 1) := by decide +kernel
theorem dX11_wallAt_27 : decode cX11_wallAt 27 = .ok (.getfield 283, 3) := by decide +kernel
theorem dX11_wallAt_30 : decode cX11_wallAt 30 = .ok (.imul, 1) := by decide +kernel
theorem dX11_wallAt_31 : decode cX11_wallAt 31 = .ok (.iload_n 1, 1) := by decide +kernel
theorem dX11_wallAt_32 : decode cX11_wallAt 32 = .ok (.aload_n 0, 1) := by decide +kernel
theorem dX11_wallAt_33 : decode cX11_wallAt 33 = .ok (.getfield 283, 3) := by decide +kernel
theorem dX11_wallAt_36 : decode cX11_wallAt 36 = .ok (.iconst 1, 1) := by decide +kernel
theorem dX11_wallAt_37 : decode cX11_wallAt 37 = .ok (.isub, 1) := by decide +kernel
theorem dX11_wallAt_38 : decode cX11_wallAt 38 = .ok (.irem, 1) := by decide +kernel
theorem dX11_wallAt_39 : decode cX11_wallAt 39 = .ok (.iadd, 1) := by decide +kernel
theorem dX11_wallAt_40 : decode cX11_wallAt 40 = .ok (.imul, 1) := by decide +kernel
theorem dX11_wallAt_41 : decode cX11_wallAt 41 = .ok (.iconst 1, 1) := by decide +kernel
theorem dX11_wallAt_42 : decode cX11_wallAt 42 = .ok (.iadd, 1) := by decide +kernel
theorem dX11_wallAt_43 : decode cX11_wallAt 43 = .ok (.ireturn, 1) := by decide +kernel
theorem dX11_wallAt_44 : decode cX11_wallAt 44 = .ok (.iconst 4, 1) := by decide +kernel
theorem dX11_wallAt_45 : decode cX11_wallAt 45 = .ok (.iload_n 1, 1) := by decide +kernel
theorem dX11_wallAt_46 : decode cX11_wallAt 46 = .ok (.iload_n 2, 1) := by decide +kernel
theorem dX11_wallAt_47 : decode cX11_wallAt 47 = .ok (.isub, 1) := by decide +kernel
theorem dX11_wallAt_48 : decode cX11_wallAt 48 = .ok (.imul, 1) := by decide +kernel
theorem dX11_wallAt_49 : decode cX11_wallAt 49 = .ok (.iconst 2, 1) := by decide +kernel
theorem dX11_wallAt_50 : decode cX11_wallAt 50 = .ok (.iadd, 1) := by decide +kernel
theorem dX11_wallAt_51 : decode cX11_wallAt 51 = .ok (.ireturn, 1) := by decide +kernel
theorem dX11_small_0 : decode cX11_small 0 = .ok (.aload_n 0, 1) := by decide +kernel
theorem dX11_small_1 : decode cX11_small 1 = .ok (.iload_n 1, 1) := by decide +kernel
theorem dX11_small_2 : decode cX11_small 2 = .ok (.putfield 283, 3) := by decide +kernel
theorem dX11_small_5 : decode cX11_small 5 = .ok (.aload_n 0, 1) := by decide +kernel
theorem dX11_small_6 : decode cX11_small 6 = .ok (.iload_n 2, 1) := by decide +kernel
theorem dX11_small_7 : decode cX11_small 7 = .ok (.putfield 286, 3) := by decide +kernel
theorem dX11_small_10 : decode cX11_small 10 = .ok (.aload_n 0, 1) := by decide +kernel
theorem dX11_small_11 : decode cX11_small 11 = .ok (.iload_n 1, 1) := by decide +kernel
theorem dX11_small_12 : decode cX11_small 12 = .ok (.iload_n 2, 1) := by decide +kernel
theorem dX11_small_13 : decode cX11_small 13 = .ok (.imul, 1) := by decide +kernel
theorem dX11_small_14 : decode cX11_small 14 = .ok (.iconst 1, 1) := by decide +kernel
theorem dX11_small_15 : decode cX11_small 15 = .ok (.isub, 1) := by decide +kernel
theorem dX11_small_16 : decode cX11_small 16 = .ok (.putfield 292, 3) := by decide +kernel
theorem dX11_small_19 : decode cX11_small 19 = .ok (.return_, 1) := by decide +kernel
theorem dX11_wallsBy_0 : decode cX11_wallsBy 0 = .ok (.aload_n 0, 1) := by decide +kernel
theorem dX11_wallsBy_1 : decode cX11_wallsBy 1 = .ok (.invokevirtual 307, 3) := by decide +kernel
theorem dX11_wallsBy_4 : decode cX11_wallsBy 4 = .ok (.iconst 0, 1) := by decide +kernel
theorem dX11_wallsBy_5 : decode cX11_wallsBy 5 = .ok (.istore_n 2, 1) := by decide +kernel
theorem dX11_wallsBy_6 : decode cX11_wallsBy 6 = .ok (.iload_n 2, 1) := by decide +kernel
theorem dX11_wallsBy_7 : decode cX11_wallsBy 7 = .ok (.aload_n 0, 1) := by decide +kernel
theorem dX11_wallsBy_8 : decode cX11_wallsBy 8 = .ok (.invokevirtual 370, 3) := by decide +kernel
theorem dX11_wallsBy_11 : decode cX11_wallsBy 11 = .ok (.if_icmp .ge 36, 3) := by decide +kernel
theorem dX11_wallsBy_14 : decode cX11_wallsBy 14 = .ok (.iload_n 1, 1) := by decide +kernel
theorem dX11_wallsBy_15 : decode cX11_wallsBy 15 = .ok (.iload_n 2, 1) := by decide +kernel
theorem dX11_wallsBy_16 : decode cX11_wallsBy 16 = .ok (.invokestatic 310, 3) := by decide +kernel
theorem dX11_wallsBy_19 : decode cX11_wallsBy 19 = .ok (.ifCond .eq 22, 3) := by decide +kernel
theorem dX11_wallsBy_22 : decode cX11_wallsBy 22 = .ok (.aload_n 0, 1) := by decide +kernel
theorem dX11_wallsBy_23 : decode cX11_wallsBy 23 = .ok (.aload_n 0, 1) := by decide +kernel
theorem dX11_wallsBy_24 : decode cX11_wallsBy 24 = .ok (.iload_n 2, 1) := by decide +kernel
theorem dX11_wallsBy_25 : decode cX11_wallsBy 25 = .ok (.invokevirtual 373, 3) := by decide +kernel
theorem dX11_wallsBy_28 : decode cX11_wallsBy 28 = .ok (.iconst 4, 1) := by decide +kernel
theorem dX11_wallsBy_29 : decode cX11_wallsBy 29 = .ok (.idiv, 1) := by decide +kernel
theorem dX11_wallsBy_30 : decode cX11_wallsBy 30 = .ok (.aload_n 0, 1) := by decide +kernel
theorem dX11_wallsBy_31 : decode cX11_wallsBy 31 = .ok (.iload_n 2, 1) := by decide +kernel
theorem dX11_wallsBy_32 : decode cX11_wallsBy 32 = .ok (.invokevirtual 373, 3) := by decide +kernel
theorem dX11_wallsBy_35 : decode cX11_wallsBy 35 = .ok (.iconst 4, 1) := by decide +kernel
theorem dX11_wallsBy_36 : decode cX11_wallsBy 36 = .ok (.irem, 1) := by decide +kernel
theorem dX11_wallsBy_37 : decode cX11_wallsBy 37 = .ok (.iconst 1, 1) := by decide +kernel
theorem dX11_wallsBy_38 : decode cX11_wallsBy 38 = .ok (.invokevirtual 330, 3) := by decide +kernel
theorem dX11_wallsBy_41 : decode cX11_wallsBy 41 = .ok (.iinc 2 1, 3) := by decide +kernel
theorem dX11_wallsBy_44 : decode cX11_wallsBy 44 = .ok (.goto (-38), 3) := by decide +kernel
theorem dX11_wallsBy_47 : decode cX11_wallsBy 47 = .ok (.aload_n 0, 1) := by decide +kernel
theorem dX11_wallsBy_48 : decode cX11_wallsBy 48 = .ok (.invokevirtual 355, 3) := by decide +kernel
theorem dX11_wallsBy_51 : decode cX11_wallsBy 51 = .ok (.return_, 1) := by decide +kernel
theorem dX11_laySmallRun_0 : decode cX11_laySmallRun 0 = .ok (.aload_n 0, 1) := by decide +kernel
theorem dX11_laySmallRun_1 : decode cX11_laySmallRun 1 = .ok (.iload_n 3, 1) := by decide +kernel
theorem dX11_laySmallRun_2 : decode cX11_laySmallRun 2 = .ok (.invokevirtual 364, 3) := by decide +kernel
theorem dX11_laySmallRun_5 : decode cX11_laySmallRun 5 = .ok (.aload_n 0, 1) := by decide +kernel
theorem dX11_laySmallRun_6 : decode cX11_laySmallRun 6 = .ok (.bipush 100, 2) := by decide +kernel
theorem dX11_laySmallRun_8 : decode cX11_laySmallRun 8 = .ok (.invokevirtual 367, 3) := by decide +kernel
theorem dX11_laySmallRun_11 : decode cX11_laySmallRun 11 = .ok (.istore 4, 2) := by decide +kernel
theorem dX11_laySmallRun_13 : decode cX11_laySmallRun 13 = .ok (.iload 4, 2) := by decide +kernel
theorem dX11_laySmallRun_15 : decode cX11_laySmallRun 15 = .ok (.bipush (-2), 2) := by decide +kernel
theorem dX11_laySmallRun_17 : decode cX11_laySmallRun 17 = .ok (.if_icmp .ne 28, 3) := by decide +kernel
theorem dX11_laySmallRun_20 : decode cX11_laySmallRun 20 = .ok (.aload_n 0, 1) := by decide +kernel
theorem dX11_laySmallRun_21 : decode cX11_laySmallRun 21 = .ok (.getfield 99, 3) := by decide +kernel
theorem dX11_laySmallRun_24 : decode cX11_laySmallRun 24 = .ok (.iload_n 1, 1) := by decide +kernel
theorem dX11_laySmallRun_25 : decode cX11_laySmallRun 25 = .ok (.iaload, 1) := by decide +kernel
theorem dX11_laySmallRun_26 : decode cX11_laySmallRun 26 = .ok (.bipush (-2), 2) := by decide +kernel
theorem dX11_laySmallRun_28 : decode cX11_laySmallRun 28 = .ok (.if_icmp .ne 17, 3) := by decide +kernel
theorem dX11_laySmallRun_31 : decode cX11_laySmallRun 31 = .ok (.aload_n 0, 1) := by decide +kernel
theorem dX11_laySmallRun_32 : decode cX11_laySmallRun 32 = .ok (.getfield 99, 3) := by decide +kernel
theorem dX11_laySmallRun_35 : decode cX11_laySmallRun 35 = .ok (.iload_n 1, 1) := by decide +kernel
theorem dX11_laySmallRun_36 : decode cX11_laySmallRun 36 = .ok (.iload_n 2, 1) := by decide +kernel
theorem dX11_laySmallRun_37 : decode cX11_laySmallRun 37 = .ok (.iastore, 1) := by decide +kernel
theorem dX11_laySmallRun_38 : decode cX11_laySmallRun 38 = .ok (.aload_n 0, 1) := by decide +kernel
theorem dX11_laySmallRun_39 : decode cX11_laySmallRun 39 = .ok (.getfield 102, 3) := by decide +kernel
theorem dX11_laySmallRun_42 : decode cX11_laySmallRun 42 = .ok (.iload_n 1, 1) := by decide +kernel
theorem dX11_laySmallRun_43 : decode cX11_laySmallRun 43 = .ok (.iload_n 3, 1) := by decide +kernel
theorem dX11_laySmallRun_44 : decode cX11_laySmallRun 44 = .ok (.iastore, 1) := by decide +kernel
theorem dX11_laySmallRun_45 : decode cX11_laySmallRun 45 = .ok (.iload 4, 2) := by decide +kernel
theorem dX11_laySmallRun_47 : decode cX11_laySmallRun 47 = .ok (.aload_n 0, 1) := by decide +kernel
theorem dX11_laySmallRun_48 : decode cX11_laySmallRun 48 = .ok (.getfield 105, 3) := by decide +kernel
theorem dX11_laySmallRun_51 : decode cX11_laySmallRun 51 = .ok (.iload_n 1, 1) := by decide +kernel
theorem dX11_laySmallRun_52 : decode cX11_laySmallRun 52 = .ok (.iaload, 1) := by decide +kernel
theorem dX11_laySmallRun_53 : decode cX11_laySmallRun 53 = .ok (.if_icmp .le 25, 3) := by decide +kernel
theorem dX11_laySmallRun_56 : decode cX11_laySmallRun 56 = .ok (.aload_n 0, 1) := by decide +kernel
theorem dX11_laySmallRun_57 : decode cX11_laySmallRun 57 = .ok (.getfield 105, 3) := by decide +kernel
theorem dX11_laySmallRun_60 : decode cX11_laySmallRun 60 = .ok (.iload_n 1, 1) := by decide +kernel
theorem dX11_laySmallRun_61 : decode cX11_laySmallRun 61 = .ok (.iload 4, 2) := by decide +kernel
theorem dX11_laySmallRun_63 : decode cX11_laySmallRun 63 = .ok (.iastore, 1) := by decide +kernel
theorem dX11_laySmallRun_64 : decode cX11_laySmallRun 64 = .ok (.aload_n 0, 1) := by decide +kernel
theorem dX11_laySmallRun_65 : decode cX11_laySmallRun 65 = .ok (.getfield 108, 3) := by decide +kernel
theorem dX11_laySmallRun_68 : decode cX11_laySmallRun 68 = .ok (.iload_n 1, 1) := by decide +kernel
theorem dX11_laySmallRun_69 : decode cX11_laySmallRun 69 = .ok (.iload_n 2, 1) := by decide +kernel
theorem dX11_laySmallRun_70 : decode cX11_laySmallRun 70 = .ok (.iastore, 1) := by decide +kernel
theorem dX11_laySmallRun_71 : decode cX11_laySmallRun 71 = .ok (.aload_n 0, 1) := by decide +kernel
theorem dX11_laySmallRun_72 : decode cX11_laySmallRun 72 = .ok (.getfield 111, 3) := by decide +kernel
theorem dX11_laySmallRun_75 : decode cX11_laySmallRun 75 = .ok (.iload_n 1, 1) := by decide +kernel
theorem dX11_laySmallRun_76 : decode cX11_laySmallRun 76 = .ok (.iload_n 3, 1) := by decide +kernel
theorem dX11_laySmallRun_77 : decode cX11_laySmallRun 77 = .ok (.iastore, 1) := by decide +kernel
theorem dX11_laySmallRun_78 : decode cX11_laySmallRun 78 = .ok (.return_, 1) := by decide +kernel
theorem dX11_laySmall_0 : decode cX11_laySmall 0 = .ok (.iconst 4, 1) := by decide +kernel
theorem dX11_laySmall_1 : decode cX11_laySmall 1 = .ok (.iload_n 1, 1) := by decide +kernel
theorem dX11_laySmall_2 : decode cX11_laySmall 2 = .ok (.iconst 2, 1) := by decide +kernel
theorem dX11_laySmall_3 : decode cX11_laySmall 3 = .ok (.isub, 1) := by decide +kernel
theorem dX11_laySmall_4 : decode cX11_laySmall 4 = .ok (.imul, 1) := by decide +kernel
theorem dX11_laySmall_5 : decode cX11_laySmall 5 = .ok (.iload_n 2, 1) := by decide +kernel
theorem dX11_laySmall_6 : decode cX11_laySmall 6 = .ok (.iadd, 1) := by decide +kernel
theorem dX11_laySmall_7 : decode cX11_laySmall 7 = .ok (.iconst 2, 1) := by decide +kernel
theorem dX11_laySmall_8 : decode cX11_laySmall 8 = .ok (.isub, 1) := by decide +kernel
theorem dX11_laySmall_9 : decode cX11_laySmall 9 = .ok (.istore_n 3, 1) := by decide +kernel
theorem dX11_laySmall_10 : decode cX11_laySmall 10 = .ok (.aload_n 0, 1) := by decide +kernel
theorem dX11_laySmall_11 : decode cX11_laySmall 11 = .ok (.getfield 96, 3) := by decide +kernel
theorem dX11_laySmall_14 : decode cX11_laySmall 14 = .ok (.iload_n 3, 1) := by decide +kernel
theorem dX11_laySmall_15 : decode cX11_laySmall 15 = .ok (.baload, 1) := by decide +kernel
theorem dX11_laySmall_16 : decode cX11_laySmall 16 = .ok (.ifCond .eq 4, 3) := by decide +kernel
theorem dX11_laySmall_19 : decode cX11_laySmall 19 = .ok (.return_, 1) := by decide +kernel
theorem dX11_laySmall_20 : decode cX11_laySmall 20 = .ok (.aload_n 0, 1) := by decide +kernel
theorem dX11_laySmall_21 : decode cX11_laySmall 21 = .ok (.getfield 96, 3) := by decide +kernel
theorem dX11_laySmall_24 : decode cX11_laySmall 24 = .ok (.iload_n 3, 1) := by decide +kernel
theorem dX11_laySmall_25 : decode cX11_laySmall 25 = .ok (.iconst 1, 1) := by decide +kernel
theorem dX11_laySmall_26 : decode cX11_laySmall 26 = .ok (.bastore, 1) := by decide +kernel
theorem dX11_laySmall_27 : decode cX11_laySmall 27 = .ok (.aload_n 0, 1) := by decide +kernel
theorem dX11_laySmall_28 : decode cX11_laySmall 28 = .ok (.iconst 4, 1) := by decide +kernel
theorem dX11_laySmall_29 : decode cX11_laySmall 29 = .ok (.invokevirtual 358, 3) := by decide +kernel
theorem dX11_laySmall_32 : decode cX11_laySmall 32 = .ok (.aload_n 0, 1) := by decide +kernel
theorem dX11_laySmall_33 : decode cX11_laySmall 33 = .ok (.iload_n 1, 1) := by decide +kernel
theorem dX11_laySmall_34 : decode cX11_laySmall 34 = .ok (.iload_n 2, 1) := by decide +kernel
theorem dX11_laySmall_35 : decode cX11_laySmall 35 = .ok (.invokevirtual 376, 3) := by decide +kernel
theorem dX11_laySmall_38 : decode cX11_laySmall 38 = .ok (.aload_n 0, 1) := by decide +kernel
theorem dX11_laySmall_39 : decode cX11_laySmall 39 = .ok (.getfield 99, 3) := by decide +kernel
theorem dX11_laySmall_42 : decode cX11_laySmall 42 = .ok (.iload_n 3, 1) := by decide +kernel
theorem dX11_laySmall_43 : decode cX11_laySmall 43 = .ok (.bipush (-2), 2) := by decide +kernel
theorem dX11_laySmall_45 : decode cX11_laySmall 45 = .ok (.iastore, 1) := by decide +kernel
theorem dX11_laySmall_46 : decode cX11_laySmall 46 = .ok (.aload_n 0, 1) := by decide +kernel
theorem dX11_laySmall_47 : decode cX11_laySmall 47 = .ok (.getfield 102, 3) := by decide +kernel
theorem dX11_laySmall_50 : decode cX11_laySmall 50 = .ok (.iload_n 3, 1) := by decide +kernel
theorem dX11_laySmall_51 : decode cX11_laySmall 51 = .ok (.bipush (-2), 2) := by decide +kernel
theorem dX11_laySmall_53 : decode cX11_laySmall 53 = .ok (.iastore, 1) := by decide +kernel
theorem dX11_laySmall_54 : decode cX11_laySmall 54 = .ok (.aload_n 0, 1) := by decide +kernel
theorem dX11_laySmall_55 : decode cX11_laySmall 55 = .ok (.getfield 105, 3) := by decide +kernel
theorem dX11_laySmall_58 : decode cX11_laySmall 58 = .ok (.iload_n 3, 1) := by decide +kernel
theorem dX11_laySmall_59 : decode cX11_laySmall 59 = .ok (.iconst (-1), 1) := by decide +kernel
theorem dX11_laySmall_60 : decode cX11_laySmall 60 = .ok (.iastore, 1) := by decide +kernel
theorem dX11_laySmall_61 : decode cX11_laySmall 61 = .ok (.iconst 0, 1) := by decide +kernel
theorem dX11_laySmall_62 : decode cX11_laySmall 62 = .ok (.istore 4, 2) := by decide +kernel
theorem dX11_laySmall_64 : decode cX11_laySmall 64 = .ok (.iload 4, 2) := by decide +kernel
theorem dX11_laySmall_66 : decode cX11_laySmall 66 = .ok (.iconst 1, 1) := by decide +kernel
theorem dX11_laySmall_67 : decode cX11_laySmall 67 = .ok (.aload_n 0, 1) := by decide +kernel
theorem dX11_laySmall_68 : decode cX11_laySmall 68 = .ok (.invokevirtual 370, 3) := by decide +kernel
theorem dX11_laySmall_71 : decode cX11_laySmall 71 = .ok (.ishl, 1) := by decide +kernel
theorem dX11_laySmall_72 : decode cX11_laySmall 72 = .ok (.if_icmp .ge 53, 3) := by decide +kernel
theorem dX11_laySmall_75 : decode cX11_laySmall 75 = .ok (.aload_n 0, 1) := by decide +kernel
theorem dX11_laySmall_76 : decode cX11_laySmall 76 = .ok (.iload 4, 2) := by decide +kernel
theorem dX11_laySmall_78 : decode cX11_laySmall 78 = .ok (.invokevirtual 379, 3) := by decide +kernel
theorem dX11_laySmall_81 : decode cX11_laySmall 81 = .ok (.iconst 0, 1) := by decide +kernel
theorem dX11_laySmall_82 : decode cX11_laySmall 82 = .ok (.istore 5, 2) := by decide +kernel
theorem dX11_laySmall_84 : decode cX11_laySmall 84 = .ok (.iload 5, 2) := by decide +kernel
theorem dX11_laySmall_86 : decode cX11_laySmall 86 = .ok (.aload_n 0, 1) := by decide +kernel
theorem dX11_laySmall_87 : decode cX11_laySmall 87 = .ok (.invokevirtual 289, 3) := by decide +kernel
theorem dX11_laySmall_90 : decode cX11_laySmall 90 = .ok (.if_icmp .ge 29, 3) := by decide +kernel
theorem dX11_laySmall_93 : decode cX11_laySmall 93 = .ok (.aload_n 0, 1) := by decide +kernel
theorem dX11_laySmall_94 : decode cX11_laySmall 94 = .ok (.getfield 84, 3) := by decide +kernel
theorem dX11_laySmall_97 : decode cX11_laySmall 97 = .ok (.iload 5, 2) := by decide +kernel
theorem dX11_laySmall_99 : decode cX11_laySmall 99 = .ok (.iaload, 1) := by decide +kernel
theorem dX11_laySmall_100 : decode cX11_laySmall 100 = .ok (.iconst (-1), 1) := by decide +kernel
theorem dX11_laySmall_101 : decode cX11_laySmall 101 = .ok (.if_icmp .eq 12, 3) := by decide +kernel
theorem dX11_laySmall_104 : decode cX11_laySmall 104 = .ok (.aload_n 0, 1) := by decide +kernel
theorem dX11_laySmall_105 : decode cX11_laySmall 105 = .ok (.iload_n 3, 1) := by decide +kernel
theorem dX11_laySmall_106 : decode cX11_laySmall 106 = .ok (.iload 4, 2) := by decide +kernel
theorem dX11_laySmall_108 : decode cX11_laySmall 108 = .ok (.iload 5, 2) := by decide +kernel
theorem dX11_laySmall_110 : decode cX11_laySmall 110 = .ok (.invokevirtual 382, 3) := by decide +kernel
theorem dX11_laySmall_113 : decode cX11_laySmall 113 = .ok (.iinc 5 1, 3) := by decide +kernel
theorem dX11_laySmall_116 : decode cX11_laySmall 116 = .ok (.goto (-32), 3) := by decide +kernel
theorem dX11_laySmall_119 : decode cX11_laySmall 119 = .ok (.iinc 4 1, 3) := by decide +kernel
theorem dX11_laySmall_122 : decode cX11_laySmall 122 = .ok (.goto (-58), 3) := by decide +kernel
theorem dX11_laySmall_125 : decode cX11_laySmall 125 = .ok (.aload_n 0, 1) := by decide +kernel
theorem dX11_laySmall_126 : decode cX11_laySmall 126 = .ok (.iconst 4, 1) := by decide +kernel
theorem dX11_laySmall_127 : decode cX11_laySmall 127 = .ok (.invokevirtual 361, 3) := by decide +kernel
theorem dX11_laySmall_130 : decode cX11_laySmall 130 = .ok (.return_, 1) := by decide +kernel
theorem dX11_held_0 : decode cX11_held 0 = .ok (.aload_n 0, 1) := by decide +kernel
theorem dX11_held_1 : decode cX11_held 1 = .ok (.iconst 0, 1) := by decide +kernel
theorem dX11_held_2 : decode cX11_held 2 = .ok (.putfield 130, 3) := by decide +kernel
theorem dX11_held_5 : decode cX11_held 5 = .ok (.iload_n 1, 1) := by decide +kernel
theorem dX11_held_6 : decode cX11_held 6 = .ok (.iload_n 2, 1) := by decide +kernel
theorem dX11_held_7 : decode cX11_held 7 = .ok (.invokestatic 385, 3) := by decide +kernel
theorem dX11_held_10 : decode cX11_held 10 = .ok (.ifCond .eq 12, 3) := by decide +kernel
theorem dX11_held_13 : decode cX11_held 13 = .ok (.iload_n 3, 1) := by decide +kernel
theorem dX11_held_14 : decode cX11_held 14 = .ok (.iconst 0, 1) := by decide +kernel
theorem dX11_held_15 : decode cX11_held 15 = .ok (.iconst 1, 1) := by decide +kernel
theorem dX11_held_16 : decode cX11_held 16 = .ok (.invokestatic 317, 3) := by decide +kernel
theorem dX11_held_19 : decode cX11_held 19 = .ok (.ifCond .ne 5, 3) := by decide +kernel
theorem dX11_held_22 : decode cX11_held 22 = .ok (.iconst (-1), 1) := by decide +kernel
theorem dX11_held_23 : decode cX11_held 23 = .ok (.ireturn, 1) := by decide +kernel
theorem dX11_held_24 : decode cX11_held 24 = .ok (.aload_n 0, 1) := by decide +kernel
theorem dX11_held_25 : decode cX11_held 25 = .ok (.iload_n 1, 1) := by decide +kernel
theorem dX11_held_26 : decode cX11_held 26 = .ok (.iload_n 2, 1) := by decide +kernel
theorem dX11_held_27 : decode cX11_held 27 = .ok (.invokevirtual 388, 3) := by decide +kernel
theorem dX11_held_30 : decode cX11_held 30 = .ok (.iconst 4, 1) := by decide +kernel
theorem dX11_held_31 : decode cX11_held 31 = .ok (.iload_n 1, 1) := by decide +kernel
theorem dX11_held_32 : decode cX11_held 32 = .ok (.iconst 2, 1) := by decide +kernel
theorem dX11_held_33 : decode cX11_held 33 = .ok (.isub, 1) := by decide +kernel
theorem dX11_held_34 : decode cX11_held 34 = .ok (.imul, 1) := by decide +kernel
theorem dX11_held_35 : decode cX11_held 35 = .ok (.iload_n 2, 1) := by decide +kernel
theorem dX11_held_36 : decode cX11_held 36 = .ok (.iadd, 1) := by decide +kernel
theorem dX11_held_37 : decode cX11_held 37 = .ok (.iconst 2, 1) := by decide +kernel
theorem dX11_held_38 : decode cX11_held 38 = .ok (.isub, 1) := by decide +kernel
theorem dX11_held_39 : decode cX11_held 39 = .ok (.istore 4, 2) := by decide +kernel
theorem dX11_held_41 : decode cX11_held 41 = .ok (.iload_n 3, 1) := by decide +kernel
theorem dX11_held_42 : decode cX11_held 42 = .ok (.ifCond .ne 13, 3) := by decide +kernel
theorem dX11_held_45 : decode cX11_held 45 = .ok (.aload_n 0, 1) := by decide +kernel
theorem dX11_held_46 : decode cX11_held 46 = .ok (.getfield 99, 3) := by decide +kernel
theorem dX11_held_49 : decode cX11_held 49 = .ok (.iload 4, 2) := by decide +kernel
theorem dX11_held_51 : decode cX11_held 51 = .ok (.iaload, 1) := by decide +kernel
theorem dX11_held_52 : decode cX11_held 52 = .ok (.goto 10, 3) := by decide +kernel
theorem dX11_held_55 : decode cX11_held 55 = .ok (.aload_n 0, 1) := by decide +kernel
theorem dX11_held_56 : decode cX11_held 56 = .ok (.getfield 102, 3) := by decide +kernel
theorem dX11_held_59 : decode cX11_held 59 = .ok (.iload 4, 2) := by decide +kernel
theorem dX11_held_61 : decode cX11_held 61 = .ok (.iaload, 1) := by decide +kernel
theorem dX11_held_62 : decode cX11_held 62 = .ok (.ireturn, 1) := by decide +kernel
theorem dX11_longest_0 : decode cX11_longest 0 = .ok (.aload_n 0, 1) := by decide +kernel
theorem dX11_longest_1 : decode cX11_longest 1 = .ok (.iconst 0, 1) := by decide +kernel
theorem dX11_longest_2 : decode cX11_longest 2 = .ok (.putfield 130, 3) := by decide +kernel
theorem dX11_longest_5 : decode cX11_longest 5 = .ok (.iload_n 1, 1) := by decide +kernel
theorem dX11_longest_6 : decode cX11_longest 6 = .ok (.iload_n 2, 1) := by decide +kernel
theorem dX11_longest_7 : decode cX11_longest 7 = .ok (.invokestatic 385, 3) := by decide +kernel
theorem dX11_longest_10 : decode cX11_longest 10 = .ok (.ifCond .eq 12, 3) := by decide +kernel
theorem dX11_longest_13 : decode cX11_longest 13 = .ok (.iload_n 3, 1) := by decide +kernel
theorem dX11_longest_14 : decode cX11_longest 14 = .ok (.iconst 0, 1) := by decide +kernel
theorem dX11_longest_15 : decode cX11_longest 15 = .ok (.iconst 2, 1) := by decide +kernel
theorem dX11_longest_16 : decode cX11_longest 16 = .ok (.invokestatic 317, 3) := by decide +kernel
theorem dX11_longest_19 : decode cX11_longest 19 = .ok (.ifCond .ne 5, 3) := by decide +kernel
theorem dX11_longest_22 : decode cX11_longest 22 = .ok (.iconst (-1), 1) := by decide +kernel
theorem dX11_longest_23 : decode cX11_longest 23 = .ok (.ireturn, 1) := by decide +kernel
theorem dX11_longest_24 : decode cX11_longest 24 = .ok (.aload_n 0, 1) := by decide +kernel
theorem dX11_longest_25 : decode cX11_longest 25 = .ok (.iload_n 1, 1) := by decide +kernel
theorem dX11_longest_26 : decode cX11_longest 26 = .ok (.iload_n 2, 1) := by decide +kernel
theorem dX11_longest_27 : decode cX11_longest 27 = .ok (.invokevirtual 388, 3) := by decide +kernel
theorem dX11_longest_30 : decode cX11_longest 30 = .ok (.iconst 4, 1) := by decide +kernel
theorem dX11_longest_31 : decode cX11_longest 31 = .ok (.iload_n 1, 1) := by decide +kernel
theorem dX11_longest_32 : decode cX11_longest 32 = .ok (.iconst 2, 1) := by decide +kernel
theorem dX11_longest_33 : decode cX11_longest 33 = .ok (.isub, 1) := by decide +kernel
theorem dX11_longest_34 : decode cX11_longest 34 = .ok (.imul, 1) := by decide +kernel
theorem dX11_longest_35 : decode cX11_longest 35 = .ok (.iload_n 2, 1) := by decide +kernel
theorem dX11_longest_36 : decode cX11_longest 36 = .ok (.iadd, 1) := by decide +kernel
theorem dX11_longest_37 : decode cX11_longest 37 = .ok (.iconst 2, 1) := by decide +kernel
theorem dX11_longest_38 : decode cX11_longest 38 = .ok (.isub, 1) := by decide +kernel
theorem dX11_longest_39 : decode cX11_longest 39 = .ok (.istore 4, 2) := by decide +kernel
theorem dX11_longest_41 : decode cX11_longest 41 = .ok (.iload_n 3, 1) := by decide +kernel
theorem dX11_longest_42 : decode cX11_longest 42 = .ok (.ifCond .ne 13, 3) := by decide +kernel
theorem dX11_longest_45 : decode cX11_longest 45 = .ok (.aload_n 0, 1) := by decide +kernel
theorem dX11_longest_46 : decode cX11_longest 46 = .ok (.getfield 105, 3) := by decide +kernel
theorem dX11_longest_49 : decode cX11_longest 49 = .ok (.iload 4, 2) := by decide +kernel
theorem dX11_longest_51 : decode cX11_longest 51 = .ok (.iaload, 1) := by decide +kernel
theorem dX11_longest_52 : decode cX11_longest 52 = .ok (.goto 25, 3) := by decide +kernel
theorem dX11_longest_55 : decode cX11_longest 55 = .ok (.iload_n 3, 1) := by decide +kernel
theorem dX11_longest_56 : decode cX11_longest 56 = .ok (.iconst 1, 1) := by decide +kernel
theorem dX11_longest_57 : decode cX11_longest 57 = .ok (.if_icmp .ne 13, 3) := by decide +kernel
theorem dX11_longest_60 : decode cX11_longest 60 = .ok (.aload_n 0, 1) := by decide +kernel
theorem dX11_longest_61 : decode cX11_longest 61 = .ok (.getfield 108, 3) := by decide +kernel
theorem dX11_longest_64 : decode cX11_longest 64 = .ok (.iload 4, 2) := by decide +kernel
theorem dX11_longest_66 : decode cX11_longest 66 = .ok (.iaload, 1) := by decide +kernel
theorem dX11_longest_67 : decode cX11_longest 67 = .ok (.goto 10, 3) := by decide +kernel
theorem dX11_longest_70 : decode cX11_longest 70 = .ok (.aload_n 0, 1) := by decide +kernel
theorem dX11_longest_71 : decode cX11_longest 71 = .ok (.getfield 111, 3) := by decide +kernel
theorem dX11_longest_74 : decode cX11_longest 74 = .ok (.iload 4, 2) := by decide +kernel
theorem dX11_longest_76 : decode cX11_longest 76 = .ok (.iaload, 1) := by decide +kernel
theorem dX11_longest_77 : decode cX11_longest 77 = .ok (.ireturn, 1) := by decide +kernel
theorem dX11_isUnlike_0 : decode cX11_isUnlike 0 = .ok (.aload_n 0, 1) := by decide +kernel
theorem dX11_isUnlike_1 : decode cX11_isUnlike 1 = .ok (.iload_n 1, 1) := by decide +kernel
theorem dX11_isUnlike_2 : decode cX11_isUnlike 2 = .ok (.invokevirtual 364, 3) := by decide +kernel
theorem dX11_isUnlike_5 : decode cX11_isUnlike 5 = .ok (.iconst 0, 1) := by decide +kernel
theorem dX11_isUnlike_6 : decode cX11_isUnlike 6 = .ok (.istore_n 3, 1) := by decide +kernel
theorem dX11_isUnlike_7 : decode cX11_isUnlike 7 = .ok (.iload_n 3, 1) := by decide +kernel
theorem dX11_isUnlike_8 : decode cX11_isUnlike 8 = .ok (.bipush 100, 2) := by decide +kernel
theorem dX11_isUnlike_10 : decode cX11_isUnlike 10 = .ok (.if_icmp .ge 43, 3) := by decide +kernel
theorem dX11_isUnlike_13 : decode cX11_isUnlike 13 = .ok (.aload_n 0, 1) := by decide +kernel
theorem dX11_isUnlike_14 : decode cX11_isUnlike 14 = .ok (.getfield 295, 3) := by decide +kernel
theorem dX11_isUnlike_17 : decode cX11_isUnlike 17 = .ok (.aload_n 0, 1) := by decide +kernel
theorem dX11_isUnlike_18 : decode cX11_isUnlike 18 = .ok (.getfield 292, 3) := by decide +kernel
theorem dX11_isUnlike_21 : decode cX11_isUnlike 21 = .ok (.if_icmp .eq 32, 3) := by decide +kernel
theorem dX11_isUnlike_24 : decode cX11_isUnlike 24 = .ok (.aload_n 0, 1) := by decide +kernel
theorem dX11_isUnlike_25 : decode cX11_isUnlike 25 = .ok (.invokevirtual 349, 3) := by decide +kernel
theorem dX11_isUnlike_28 : decode cX11_isUnlike 28 = .ok (.istore 4, 2) := by decide +kernel
theorem dX11_isUnlike_30 : decode cX11_isUnlike 30 = .ok (.aload_n 0, 1) := by decide +kernel
theorem dX11_isUnlike_31 : decode cX11_isUnlike 31 = .ok (.getfield 114, 3) := by decide +kernel
theorem dX11_isUnlike_34 : decode cX11_isUnlike 34 = .ok (.iload_n 3, 1) := by decide +kernel
theorem dX11_isUnlike_35 : decode cX11_isUnlike 35 = .ok (.iconst 4, 1) := by decide +kernel
theorem dX11_isUnlike_36 : decode cX11_isUnlike 36 = .ok (.aload_n 0, 1) := by decide +kernel
theorem dX11_isUnlike_37 : decode cX11_isUnlike 37 = .ok (.getfield 295, 3) := by decide +kernel
theorem dX11_isUnlike_40 : decode cX11_isUnlike 40 = .ok (.imul, 1) := by decide +kernel
theorem dX11_isUnlike_41 : decode cX11_isUnlike 41 = .ok (.aload_n 0, 1) := by decide +kernel
theorem dX11_isUnlike_42 : decode cX11_isUnlike 42 = .ok (.getfield 298, 3) := by decide +kernel
theorem dX11_isUnlike_45 : decode cX11_isUnlike 45 = .ok (.iadd, 1) := by decide +kernel
theorem dX11_isUnlike_46 : decode cX11_isUnlike 46 = .ok (.iastore, 1) := by decide +kernel
theorem dX11_isUnlike_47 : decode cX11_isUnlike 47 = .ok (.iinc 3 1, 3) := by decide +kernel
theorem dX11_isUnlike_50 : decode cX11_isUnlike 50 = .ok (.goto (-43), 3) := by decide +kernel
theorem dX11_isUnlike_53 : decode cX11_isUnlike 53 = .ok (.aload_n 0, 1) := by decide +kernel
theorem dX11_isUnlike_54 : decode cX11_isUnlike 54 = .ok (.getfield 295, 3) := by decide +kernel
theorem dX11_isUnlike_57 : decode cX11_isUnlike 57 = .ok (.aload_n 0, 1) := by decide +kernel
theorem dX11_isUnlike_58 : decode cX11_isUnlike 58 = .ok (.getfield 292, 3) := by decide +kernel
theorem dX11_isUnlike_61 : decode cX11_isUnlike 61 = .ok (.if_icmp .ne 7, 3) := by decide +kernel
theorem dX11_isUnlike_64 : decode cX11_isUnlike 64 = .ok (.iconst 1, 1) := by decide +kernel
theorem dX11_isUnlike_65 : decode cX11_isUnlike 65 = .ok (.goto 4, 3) := by decide +kernel
theorem dX11_isUnlike_68 : decode cX11_isUnlike 68 = .ok (.iconst 0, 1) := by decide +kernel
theorem dX11_isUnlike_69 : decode cX11_isUnlike 69 = .ok (.istore 4, 2) := by decide +kernel
theorem dX11_isUnlike_71 : decode cX11_isUnlike 71 = .ok (.aload_n 0, 1) := by decide +kernel
theorem dX11_isUnlike_72 : decode cX11_isUnlike 72 = .ok (.iload_n 1, 1) := by decide +kernel
theorem dX11_isUnlike_73 : decode cX11_isUnlike 73 = .ok (.invokevirtual 364, 3) := by decide +kernel
theorem dX11_isUnlike_76 : decode cX11_isUnlike 76 = .ok (.aload_n 0, 1) := by decide +kernel
theorem dX11_isUnlike_77 : decode cX11_isUnlike 77 = .ok (.iload_n 2, 1) := by decide +kernel
theorem dX11_isUnlike_78 : decode cX11_isUnlike 78 = .ok (.putfield 81, 3) := by decide +kernel
theorem dX11_isUnlike_81 : decode cX11_isUnlike 81 = .ok (.iconst 0, 1) := by decide +kernel
theorem dX11_isUnlike_82 : decode cX11_isUnlike 82 = .ok (.istore 5, 2) := by decide +kernel
theorem dX11_isUnlike_84 : decode cX11_isUnlike 84 = .ok (.iconst 0, 1) := by decide +kernel
theorem dX11_isUnlike_85 : decode cX11_isUnlike 85 = .ok (.istore 6, 2) := by decide +kernel
theorem dX11_isUnlike_87 : decode cX11_isUnlike 87 = .ok (.iload 5, 2) := by decide +kernel
theorem dX11_isUnlike_89 : decode cX11_isUnlike 89 = .ok (.bipush 100, 2) := by decide +kernel
theorem dX11_isUnlike_91 : decode cX11_isUnlike 91 = .ok (.if_icmp .ge 65, 3) := by decide +kernel
theorem dX11_isUnlike_94 : decode cX11_isUnlike 94 = .ok (.aload_n 0, 1) := by decide +kernel
theorem dX11_isUnlike_95 : decode cX11_isUnlike 95 = .ok (.getfield 295, 3) := by decide +kernel
theorem dX11_isUnlike_98 : decode cX11_isUnlike 98 = .ok (.aload_n 0, 1) := by decide +kernel
theorem dX11_isUnlike_99 : decode cX11_isUnlike 99 = .ok (.getfield 292, 3) := by decide +kernel
theorem dX11_isUnlike_102 : decode cX11_isUnlike 102 = .ok (.if_icmp .eq 54, 3) := by decide +kernel
theorem dX11_isUnlike_105 : decode cX11_isUnlike 105 = .ok (.iload 6, 2) := by decide +kernel
theorem dX11_isUnlike_107 : decode cX11_isUnlike 107 = .ok (.ifCond .ne 49, 3) := by decide +kernel
theorem dX11_isUnlike_110 : decode cX11_isUnlike 110 = .ok (.aload_n 0, 1) := by decide +kernel
theorem dX11_isUnlike_111 : decode cX11_isUnlike 111 = .ok (.invokevirtual 349, 3) := by decide +kernel
theorem dX11_isUnlike_114 : decode cX11_isUnlike 114 = .ok (.istore 7, 2) := by decide +kernel
theorem dX11_isUnlike_116 : decode cX11_isUnlike 116 = .ok (.iload 5, 2) := by decide +kernel
theorem dX11_isUnlike_118 : decode cX11_isUnlike 118 = .ok (.iload_n 3, 1) := by decide +kernel
theorem dX11_isUnlike_119 : decode cX11_isUnlike 119 = .ok (.if_icmp .ge 24, 3) := by decide +kernel
theorem dX11_isUnlike_122 : decode cX11_isUnlike 122 = .ok (.aload_n 0, 1) := by decide +kernel
theorem dX11_isUnlike_123 : decode cX11_isUnlike 123 = .ok (.getfield 114, 3) := by decide +kernel
theorem dX11_isUnlike_126 : decode cX11_isUnlike 126 = .ok (.iload 5, 2) := by decide +kernel
theorem dX11_isUnlike_128 : decode cX11_isUnlike 128 = .ok (.iaload, 1) := by decide +kernel
theorem dX11_isUnlike_129 : decode cX11_isUnlike 129 = .ok (.iconst 4, 1) := by decide +kernel
theorem dX11_isUnlike_130 : decode cX11_isUnlike 130 = .ok (.aload_n 0, 1) := by decide +kernel
theorem dX11_isUnlike_131 : decode cX11_isUnlike 131 = .ok (.getfield 295, 3) := by decide +kernel
theorem dX11_isUnlike_134 : decode cX11_isUnlike 134 = .ok (.imul, 1) := by decide +kernel
theorem dX11_isUnlike_135 : decode cX11_isUnlike 135 = .ok (.aload_n 0, 1) := by decide +kernel
theorem dX11_isUnlike_136 : decode cX11_isUnlike 136 = .ok (.getfield 298, 3) := by decide +kernel
theorem dX11_isUnlike_139 : decode cX11_isUnlike 139 = .ok (.iadd, 1) := by decide +kernel
theorem dX11_isUnlike_140 : decode cX11_isUnlike 140 = .ok (.if_icmp .eq 7, 3) := by decide +kernel
theorem dX11_isUnlike_143 : decode cX11_isUnlike 143 = .ok (.iconst 1, 1) := by decide +kernel
theorem dX11_isUnlike_144 : decode cX11_isUnlike 144 = .ok (.goto 4, 3) := by decide +kernel
theorem dX11_isUnlike_147 : decode cX11_isUnlike 147 = .ok (.iconst 0, 1) := by decide +kernel
theorem dX11_isUnlike_148 : decode cX11_isUnlike 148 = .ok (.istore 6, 2) := by decide +kernel
theorem dX11_isUnlike_150 : decode cX11_isUnlike 150 = .ok (.iinc 5 1, 3) := by decide +kernel
theorem dX11_isUnlike_153 : decode cX11_isUnlike 153 = .ok (.goto (-66), 3) := by decide +kernel
theorem dX11_isUnlike_156 : decode cX11_isUnlike 156 = .ok (.aload_n 0, 1) := by decide +kernel
theorem dX11_isUnlike_157 : decode cX11_isUnlike 157 = .ok (.iconst (-1), 1) := by decide +kernel
theorem dX11_isUnlike_158 : decode cX11_isUnlike 158 = .ok (.putfield 81, 3) := by decide +kernel
theorem dX11_isUnlike_161 : decode cX11_isUnlike 161 = .ok (.iload 6, 2) := by decide +kernel
theorem dX11_isUnlike_163 : decode cX11_isUnlike 163 = .ok (.ifCond .ne 30, 3) := by decide +kernel
theorem dX11_isUnlike_166 : decode cX11_isUnlike 166 = .ok (.iload 5, 2) := by decide +kernel
theorem dX11_isUnlike_168 : decode cX11_isUnlike 168 = .ok (.iload_n 3, 1) := by decide +kernel
theorem dX11_isUnlike_169 : decode cX11_isUnlike 169 = .ok (.if_icmp .ne 24, 3) := by decide +kernel
theorem dX11_isUnlike_172 : decode cX11_isUnlike 172 = .ok (.iload 4, 2) := by decide +kernel
theorem dX11_isUnlike_174 : decode cX11_isUnlike 174 = .ok (.aload_n 0, 1) := by decide +kernel
theorem dX11_isUnlike_175 : decode cX11_isUnlike 175 = .ok (.getfield 295, 3) := by decide +kernel
theorem dX11_isUnlike_178 : decode cX11_isUnlike 178 = .ok (.aload_n 0, 1) := by decide +kernel
theorem dX11_isUnlike_179 : decode cX11_isUnlike 179 = .ok (.getfield 292, 3) := by decide +kernel
theorem dX11_isUnlike_182 : decode cX11_isUnlike 182 = .ok (.if_icmp .ne 7, 3) := by decide +kernel
theorem dX11_isUnlike_185 : decode cX11_isUnlike 185 = .ok (.iconst 1, 1) := by decide +kernel
theorem dX11_isUnlike_186 : decode cX11_isUnlike 186 = .ok (.goto 4, 3) := by decide +kernel
theorem dX11_isUnlike_189 : decode cX11_isUnlike 189 = .ok (.iconst 0, 1) := by decide +kernel
theorem dX11_isUnlike_190 : decode cX11_isUnlike 190 = .ok (.if_icmp .eq 7, 3) := by decide +kernel
theorem dX11_isUnlike_193 : decode cX11_isUnlike 193 = .ok (.iconst 1, 1) := by decide +kernel
theorem dX11_isUnlike_194 : decode cX11_isUnlike 194 = .ok (.goto 4, 3) := by decide +kernel
theorem dX11_isUnlike_197 : decode cX11_isUnlike 197 = .ok (.iconst 0, 1) := by decide +kernel
theorem dX11_isUnlike_198 : decode cX11_isUnlike 198 = .ok (.ireturn, 1) := by decide +kernel
theorem dX11_needs_0 : decode cX11_needs 0 = .ok (.aload_n 0, 1) := by decide +kernel
theorem dX11_needs_1 : decode cX11_needs 1 = .ok (.iconst 0, 1) := by decide +kernel
theorem dX11_needs_2 : decode cX11_needs 2 = .ok (.putfield 130, 3) := by decide +kernel
theorem dX11_needs_5 : decode cX11_needs 5 = .ok (.iload_n 1, 1) := by decide +kernel
theorem dX11_needs_6 : decode cX11_needs 6 = .ok (.iconst 0, 1) := by decide +kernel
theorem dX11_needs_7 : decode cX11_needs 7 = .ok (.iconst 2, 1) := by decide +kernel
theorem dX11_needs_8 : decode cX11_needs 8 = .ok (.invokestatic 317, 3) := by decide +kernel
theorem dX11_needs_11 : decode cX11_needs 11 = .ok (.ifCond .eq 11, 3) := by decide +kernel
theorem dX11_needs_14 : decode cX11_needs 14 = .ok (.iload_n 2, 1) := by decide +kernel
theorem dX11_needs_15 : decode cX11_needs 15 = .ok (.iload_n 3, 1) := by decide +kernel
theorem dX11_needs_16 : decode cX11_needs 16 = .ok (.invokestatic 385, 3) := by decide +kernel
theorem dX11_needs_19 : decode cX11_needs 19 = .ok (.ifCond .ne 5, 3) := by decide +kernel
theorem dX11_needs_22 : decode cX11_needs 22 = .ok (.iconst (-1), 1) := by decide +kernel
theorem dX11_needs_23 : decode cX11_needs 23 = .ok (.ireturn, 1) := by decide +kernel
theorem dX11_needs_24 : decode cX11_needs 24 = .ok (.aload_n 0, 1) := by decide +kernel
theorem dX11_needs_25 : decode cX11_needs 25 = .ok (.iconst 4, 1) := by decide +kernel
theorem dX11_needs_26 : decode cX11_needs 26 = .ok (.invokevirtual 358, 3) := by decide +kernel
theorem dX11_needs_29 : decode cX11_needs 29 = .ok (.aload_n 0, 1) := by decide +kernel
theorem dX11_needs_30 : decode cX11_needs 30 = .ok (.iload_n 2, 1) := by decide +kernel
theorem dX11_needs_31 : decode cX11_needs 31 = .ok (.iload_n 3, 1) := by decide +kernel
theorem dX11_needs_32 : decode cX11_needs 32 = .ok (.invokevirtual 376, 3) := by decide +kernel
theorem dX11_needs_35 : decode cX11_needs 35 = .ok (.iconst 0, 1) := by decide +kernel
theorem dX11_needs_36 : decode cX11_needs 36 = .ok (.istore 4, 2) := by decide +kernel
theorem dX11_needs_38 : decode cX11_needs 38 = .ok (.iconst 0, 1) := by decide +kernel
theorem dX11_needs_39 : decode cX11_needs 39 = .ok (.istore 5, 2) := by decide +kernel
theorem dX11_needs_41 : decode cX11_needs 41 = .ok (.iload 5, 2) := by decide +kernel
theorem dX11_needs_43 : decode cX11_needs 43 = .ok (.iconst 1, 1) := by decide +kernel
theorem dX11_needs_44 : decode cX11_needs 44 = .ok (.aload_n 0, 1) := by decide +kernel
theorem dX11_needs_45 : decode cX11_needs 45 = .ok (.invokevirtual 370, 3) := by decide +kernel
theorem dX11_needs_48 : decode cX11_needs 48 = .ok (.ishl, 1) := by decide +kernel
theorem dX11_needs_49 : decode cX11_needs 49 = .ok (.if_icmp .ge 71, 3) := by decide +kernel
theorem dX11_needs_52 : decode cX11_needs 52 = .ok (.iload 4, 2) := by decide +kernel
theorem dX11_needs_54 : decode cX11_needs 54 = .ok (.ifCond .ne 66, 3) := by decide +kernel
theorem dX11_needs_57 : decode cX11_needs 57 = .ok (.aload_n 0, 1) := by decide +kernel
theorem dX11_needs_58 : decode cX11_needs 58 = .ok (.iload 5, 2) := by decide +kernel
theorem dX11_needs_60 : decode cX11_needs 60 = .ok (.invokevirtual 379, 3) := by decide +kernel
theorem dX11_needs_63 : decode cX11_needs 63 = .ok (.iconst 0, 1) := by decide +kernel
theorem dX11_needs_64 : decode cX11_needs 64 = .ok (.istore 6, 2) := by decide +kernel
theorem dX11_needs_66 : decode cX11_needs 66 = .ok (.iload 6, 2) := by decide +kernel
theorem dX11_needs_68 : decode cX11_needs 68 = .ok (.aload_n 0, 1) := by decide +kernel
theorem dX11_needs_69 : decode cX11_needs 69 = .ok (.invokevirtual 289, 3) := by decide +kernel
theorem dX11_needs_72 : decode cX11_needs 72 = .ok (.if_icmp .ge 42, 3) := by decide +kernel
theorem dX11_needs_75 : decode cX11_needs 75 = .ok (.iload 4, 2) := by decide +kernel
theorem dX11_needs_77 : decode cX11_needs 77 = .ok (.ifCond .ne 37, 3) := by decide +kernel
theorem dX11_needs_80 : decode cX11_needs 80 = .ok (.aload_n 0, 1) := by decide +kernel
theorem dX11_needs_81 : decode cX11_needs 81 = .ok (.getfield 84, 3) := by decide +kernel
theorem dX11_needs_84 : decode cX11_needs 84 = .ok (.iload 6, 2) := by decide +kernel
theorem dX11_needs_86 : decode cX11_needs 86 = .ok (.iaload, 1) := by decide +kernel
theorem dX11_needs_87 : decode cX11_needs 87 = .ok (.iconst (-1), 1) := by decide +kernel
theorem dX11_needs_88 : decode cX11_needs 88 = .ok (.if_icmp .eq 17, 3) := by decide +kernel
theorem dX11_needs_91 : decode cX11_needs 91 = .ok (.aload_n 0, 1) := by decide +kernel
theorem dX11_needs_92 : decode cX11_needs 92 = .ok (.iload 6, 2) := by decide +kernel
theorem dX11_needs_94 : decode cX11_needs 94 = .ok (.iload_n 1, 1) := by decide +kernel
theorem dX11_needs_95 : decode cX11_needs 95 = .ok (.invokevirtual 391, 3) := by decide +kernel
theorem dX11_needs_98 : decode cX11_needs 98 = .ok (.ifCond .eq 7, 3) := by decide +kernel
theorem dX11_needs_101 : decode cX11_needs 101 = .ok (.iconst 1, 1) := by decide +kernel
theorem dX11_needs_102 : decode cX11_needs 102 = .ok (.goto 4, 3) := by decide +kernel
theorem dX11_needs_105 : decode cX11_needs 105 = .ok (.iconst 0, 1) := by decide +kernel
theorem dX11_needs_106 : decode cX11_needs 106 = .ok (.istore 4, 2) := by decide +kernel
theorem dX11_needs_108 : decode cX11_needs 108 = .ok (.iinc 6 1, 3) := by decide +kernel
theorem dX11_needs_111 : decode cX11_needs 111 = .ok (.goto (-45), 3) := by decide +kernel
theorem dX11_needs_114 : decode cX11_needs 114 = .ok (.iinc 5 1, 3) := by decide +kernel
theorem dX11_needs_117 : decode cX11_needs 117 = .ok (.goto (-76), 3) := by decide +kernel
theorem dX11_needs_120 : decode cX11_needs 120 = .ok (.aload_n 0, 1) := by decide +kernel
theorem dX11_needs_121 : decode cX11_needs 121 = .ok (.iconst 4, 1) := by decide +kernel
theorem dX11_needs_122 : decode cX11_needs 122 = .ok (.invokevirtual 361, 3) := by decide +kernel
theorem dX11_needs_125 : decode cX11_needs 125 = .ok (.iload 4, 2) := by decide +kernel
theorem dX11_needs_127 : decode cX11_needs 127 = .ok (.ifCond .eq 7, 3) := by decide +kernel
theorem dX11_needs_130 : decode cX11_needs 130 = .ok (.iconst 1, 1) := by decide +kernel
theorem dX11_needs_131 : decode cX11_needs 131 = .ok (.goto 4, 3) := by decide +kernel
theorem dX11_needs_134 : decode cX11_needs 134 = .ok (.iconst 0, 1) := by decide +kernel
theorem dX11_needs_135 : decode cX11_needs 135 = .ok (.ireturn, 1) := by decide +kernel
theorem dX11_knows_0 : decode cX11_knows 0 = .ok (.aload_n 0, 1) := by decide +kernel
theorem dX11_knows_1 : decode cX11_knows 1 = .ok (.iconst 0, 1) := by decide +kernel
theorem dX11_knows_2 : decode cX11_knows 2 = .ok (.putfield 130, 3) := by decide +kernel
theorem dX11_knows_5 : decode cX11_knows 5 = .ok (.aload_n 0, 1) := by decide +kernel
theorem dX11_knows_6 : decode cX11_knows 6 = .ok (.iload_n 1, 1) := by decide +kernel
theorem dX11_knows_7 : decode cX11_knows 7 = .ok (.invokevirtual 321, 3) := by decide +kernel
theorem dX11_knows_10 : decode cX11_knows 10 = .ok (.ifCond .ne 5, 3) := by decide +kernel
theorem dX11_knows_13 : decode cX11_knows 13 = .ok (.iconst (-1), 1) := by decide +kernel
theorem dX11_knows_14 : decode cX11_knows 14 = .ok (.ireturn, 1) := by decide +kernel
theorem dX11_knows_15 : decode cX11_knows 15 = .ok (.iload_n 1, 1) := by decide +kernel
theorem dX11_knows_16 : decode cX11_knows 16 = .ok (.istore_n 2, 1) := by decide +kernel
theorem dX11_knows_17 : decode cX11_knows 17 = .ok (.iconst 0, 1) := by decide +kernel
theorem dX11_knows_18 : decode cX11_knows 18 = .ok (.istore_n 3, 1) := by decide +kernel
theorem dX11_knows_19 : decode cX11_knows 19 = .ok (.iload_n 2, 1) := by decide +kernel
theorem dX11_knows_20 : decode cX11_knows 20 = .ok (.aload_n 0, 1) := by decide +kernel
theorem dX11_knows_21 : decode cX11_knows 21 = .ok (.getfield 292, 3) := by decide +kernel
theorem dX11_knows_24 : decode cX11_knows 24 = .ok (.if_icmp .eq 43, 3) := by decide +kernel
theorem dX11_knows_27 : decode cX11_knows 27 = .ok (.aload_n 0, 1) := by decide +kernel
theorem dX11_knows_28 : decode cX11_knows 28 = .ok (.iload_n 2, 1) := by decide +kernel
theorem dX11_knows_29 : decode cX11_knows 29 = .ok (.aload_n 0, 1) := by decide +kernel
theorem dX11_knows_30 : decode cX11_knows 30 = .ok (.getfield 72, 3) := by decide +kernel
theorem dX11_knows_33 : decode cX11_knows 33 = .ok (.iload_n 2, 1) := by decide +kernel
theorem dX11_knows_34 : decode cX11_knows 34 = .ok (.iaload, 1) := by decide +kernel
theorem dX11_knows_35 : decode cX11_knows 35 = .ok (.invokevirtual 327, 3) := by decide +kernel
theorem dX11_knows_38 : decode cX11_knows 38 = .ok (.ifCond .ne 9, 3) := by decide +kernel
theorem dX11_knows_41 : decode cX11_knows 41 = .ok (.iload_n 3, 1) := by decide +kernel
theorem dX11_knows_42 : decode cX11_knows 42 = .ok (.bipush 36, 2) := by decide +kernel
theorem dX11_knows_44 : decode cX11_knows 44 = .ok (.if_icmp .le 5, 3) := by decide +kernel
theorem dX11_knows_47 : decode cX11_knows 47 = .ok (.iconst (-1), 1) := by decide +kernel
theorem dX11_knows_48 : decode cX11_knows 48 = .ok (.ireturn, 1) := by decide +kernel
theorem dX11_knows_49 : decode cX11_knows 49 = .ok (.aload_n 0, 1) := by decide +kernel
theorem dX11_knows_50 : decode cX11_knows 50 = .ok (.iload_n 2, 1) := by decide +kernel
theorem dX11_knows_51 : decode cX11_knows 51 = .ok (.aload_n 0, 1) := by decide +kernel
theorem dX11_knows_52 : decode cX11_knows 52 = .ok (.getfield 72, 3) := by decide +kernel
theorem dX11_knows_55 : decode cX11_knows 55 = .ok (.iload_n 2, 1) := by decide +kernel
theorem dX11_knows_56 : decode cX11_knows 56 = .ok (.iaload, 1) := by decide +kernel
theorem dX11_knows_57 : decode cX11_knows 57 = .ok (.invokevirtual 314, 3) := by decide +kernel
theorem dX11_knows_60 : decode cX11_knows 60 = .ok (.istore_n 2, 1) := by decide +kernel
theorem dX11_knows_61 : decode cX11_knows 61 = .ok (.iinc 3 1, 3) := by decide +kernel
theorem dX11_knows_64 : decode cX11_knows 64 = .ok (.goto (-45), 3) := by decide +kernel
theorem dX11_knows_67 : decode cX11_knows 67 = .ok (.iload_n 3, 1) := by decide +kernel
theorem dX11_knows_68 : decode cX11_knows 68 = .ok (.ireturn, 1) := by decide +kernel
theorem dX11_felt_0 : decode cX11_felt 0 = .ok (.aload_n 0, 1) := by decide +kernel
theorem dX11_felt_1 : decode cX11_felt 1 = .ok (.aload_n 0, 1) := by decide +kernel
theorem dX11_felt_2 : decode cX11_felt 2 = .ok (.getfield 295, 3) := by decide +kernel
theorem dX11_felt_5 : decode cX11_felt 5 = .ok (.aload_n 0, 1) := by decide +kernel
theorem dX11_felt_6 : decode cX11_felt 6 = .ok (.getfield 298, 3) := by decide +kernel
theorem dX11_felt_9 : decode cX11_felt 9 = .ok (.invokevirtual 327, 3) := by decide +kernel
theorem dX11_felt_12 : decode cX11_felt 12 = .ok (.ifCond .eq 7, 3) := by decide +kernel
theorem dX11_felt_15 : decode cX11_felt 15 = .ok (.iconst 1, 1) := by decide +kernel
theorem dX11_felt_16 : decode cX11_felt 16 = .ok (.goto 4, 3) := by decide +kernel
theorem dX11_felt_19 : decode cX11_felt 19 = .ok (.iconst 0, 1) := by decide +kernel
theorem dX11_felt_20 : decode cX11_felt 20 = .ok (.aload_n 0, 1) := by decide +kernel
theorem dX11_felt_21 : decode cX11_felt 21 = .ok (.getfield 295, 3) := by decide +kernel
theorem dX11_felt_24 : decode cX11_felt 24 = .ok (.aload_n 0, 1) := by decide +kernel
theorem dX11_felt_25 : decode cX11_felt 25 = .ok (.getfield 292, 3) := by decide +kernel
theorem dX11_felt_28 : decode cX11_felt 28 = .ok (.if_icmp .ne 7, 3) := by decide +kernel
theorem dX11_felt_31 : decode cX11_felt 31 = .ok (.iconst 2, 1) := by decide +kernel
theorem dX11_felt_32 : decode cX11_felt 32 = .ok (.goto 4, 3) := by decide +kernel
theorem dX11_felt_35 : decode cX11_felt 35 = .ok (.iconst 0, 1) := by decide +kernel
theorem dX11_felt_36 : decode cX11_felt 36 = .ok (.ior, 1) := by decide +kernel
theorem dX11_felt_37 : decode cX11_felt 37 = .ok (.aload_n 0, 1) := by decide +kernel
theorem dX11_felt_38 : decode cX11_felt 38 = .ok (.getfield 72, 3) := by decide +kernel
theorem dX11_felt_41 : decode cX11_felt 41 = .ok (.aload_n 0, 1) := by decide +kernel
theorem dX11_felt_42 : decode cX11_felt 42 = .ok (.getfield 295, 3) := by decide +kernel
theorem dX11_felt_45 : decode cX11_felt 45 = .ok (.iaload, 1) := by decide +kernel
theorem dX11_felt_46 : decode cX11_felt 46 = .ok (.iconst 2, 1) := by decide +kernel
theorem dX11_felt_47 : decode cX11_felt 47 = .ok (.irem, 1) := by decide +kernel
theorem dX11_felt_48 : decode cX11_felt 48 = .ok (.iconst 1, 1) := by decide +kernel
theorem dX11_felt_49 : decode cX11_felt 49 = .ok (.if_icmp .ne 7, 3) := by decide +kernel
theorem dX11_felt_52 : decode cX11_felt 52 = .ok (.iconst 4, 1) := by decide +kernel
theorem dX11_felt_53 : decode cX11_felt 53 = .ok (.goto 4, 3) := by decide +kernel
theorem dX11_felt_56 : decode cX11_felt 56 = .ok (.iconst 0, 1) := by decide +kernel
theorem dX11_felt_57 : decode cX11_felt 57 = .ok (.ior, 1) := by decide +kernel
theorem dX11_felt_58 : decode cX11_felt 58 = .ok (.aload_n 0, 1) := by decide +kernel
theorem dX11_felt_59 : decode cX11_felt 59 = .ok (.getfield 72, 3) := by decide +kernel
theorem dX11_felt_62 : decode cX11_felt 62 = .ok (.aload_n 0, 1) := by decide +kernel
theorem dX11_felt_63 : decode cX11_felt 63 = .ok (.getfield 295, 3) := by decide +kernel
theorem dX11_felt_66 : decode cX11_felt 66 = .ok (.iaload, 1) := by decide +kernel
theorem dX11_felt_67 : decode cX11_felt 67 = .ok (.iconst 1, 1) := by decide +kernel
theorem dX11_felt_68 : decode cX11_felt 68 = .ok (.if_icmp .le 8, 3) := by decide +kernel
theorem dX11_felt_71 : decode cX11_felt 71 = .ok (.bipush 8, 2) := by decide +kernel
theorem dX11_felt_73 : decode cX11_felt 73 = .ok (.goto 4, 3) := by decide +kernel
theorem dX11_felt_76 : decode cX11_felt 76 = .ok (.iconst 0, 1) := by decide +kernel
theorem dX11_felt_77 : decode cX11_felt 77 = .ok (.ior, 1) := by decide +kernel
theorem dX11_felt_78 : decode cX11_felt 78 = .ok (.ireturn, 1) := by decide +kernel
theorem dX11_works_0 : decode cX11_works 0 = .ok (.aload_n 0, 1) := by decide +kernel
theorem dX11_works_1 : decode cX11_works 1 = .ok (.getfield 45, 3) := by decide +kernel
theorem dX11_works_4 : decode cX11_works 4 = .ok (.iload_n 1, 1) := by decide +kernel
theorem dX11_works_5 : decode cX11_works 5 = .ok (.iaload, 1) := by decide +kernel
theorem dX11_works_6 : decode cX11_works 6 = .ok (.istore 4, 2) := by decide +kernel
theorem dX11_works_8 : decode cX11_works 8 = .ok (.iload 4, 2) := by decide +kernel
theorem dX11_works_10 : decode cX11_works 10 = .ok (.aload_n 0, 1) := by decide +kernel
theorem dX11_works_11 : decode cX11_works 11 = .ok (.getfield 48, 3) := by decide +kernel
theorem dX11_works_14 : decode cX11_works 14 = .ok (.iload_n 1, 1) := by decide +kernel
theorem dX11_works_15 : decode cX11_works 15 = .ok (.iaload, 1) := by decide +kernel
theorem dX11_works_16 : decode cX11_works 16 = .ok (.if_icmp .ge 205, 3) := by decide +kernel
theorem dX11_works_19 : decode cX11_works 19 = .ok (.aload_n 0, 1) := by decide +kernel
theorem dX11_works_20 : decode cX11_works 20 = .ok (.getfield 51, 3) := by decide +kernel
theorem dX11_works_23 : decode cX11_works 23 = .ok (.iload 4, 2) := by decide +kernel
theorem dX11_works_25 : decode cX11_works 25 = .ok (.iaload, 1) := by decide +kernel
theorem dX11_works_26 : decode cX11_works 26 = .ok (.tableswitch 171 4 7 #[30, 51, 81, 126], 30) := by decide +kernel
theorem dX11_works_56 : decode cX11_works 56 = .ok (.aload_n 0, 1) := by decide +kernel
theorem dX11_works_57 : decode cX11_works 57 = .ok (.getfield 117, 3) := by decide +kernel
theorem dX11_works_60 : decode cX11_works 60 = .ok (.iload 4, 2) := by decide +kernel
theorem dX11_works_62 : decode cX11_works 62 = .ok (.iload_n 2, 1) := by decide +kernel
theorem dX11_works_63 : decode cX11_works 63 = .ok (.aload_n 0, 1) := by decide +kernel
theorem dX11_works_64 : decode cX11_works 64 = .ok (.getfield 54, 3) := by decide +kernel
theorem dX11_works_67 : decode cX11_works 67 = .ok (.iload 4, 2) := by decide +kernel
theorem dX11_works_69 : decode cX11_works 69 = .ok (.iaload, 1) := by decide +kernel
theorem dX11_works_70 : decode cX11_works 70 = .ok (.invokestatic 310, 3) := by decide +kernel
theorem dX11_works_73 : decode cX11_works 73 = .ok (.bastore, 1) := by decide +kernel
theorem dX11_works_74 : decode cX11_works 74 = .ok (.goto 141, 3) := by decide +kernel
theorem dX11_works_77 : decode cX11_works 77 = .ok (.aload_n 0, 1) := by decide +kernel
theorem dX11_works_78 : decode cX11_works 78 = .ok (.getfield 117, 3) := by decide +kernel
theorem dX11_works_81 : decode cX11_works 81 = .ok (.iload 4, 2) := by decide +kernel
theorem dX11_works_83 : decode cX11_works 83 = .ok (.aload_n 0, 1) := by decide +kernel
theorem dX11_works_84 : decode cX11_works 84 = .ok (.getfield 117, 3) := by decide +kernel
theorem dX11_works_87 : decode cX11_works 87 = .ok (.aload_n 0, 1) := by decide +kernel
theorem dX11_works_88 : decode cX11_works 88 = .ok (.getfield 54, 3) := by decide +kernel
theorem dX11_works_91 : decode cX11_works 91 = .ok (.iload 4, 2) := by decide +kernel
theorem dX11_works_93 : decode cX11_works 93 = .ok (.iaload, 1) := by decide +kernel
theorem dX11_works_94 : decode cX11_works 94 = .ok (.baload, 1) := by decide +kernel
theorem dX11_works_95 : decode cX11_works 95 = .ok (.ifCond .ne 7, 3) := by decide +kernel
theorem dX11_works_98 : decode cX11_works 98 = .ok (.iconst 1, 1) := by decide +kernel
theorem dX11_works_99 : decode cX11_works 99 = .ok (.goto 4, 3) := by decide +kernel
theorem dX11_works_102 : decode cX11_works 102 = .ok (.iconst 0, 1) := by decide +kernel
theorem dX11_works_103 : decode cX11_works 103 = .ok (.bastore, 1) := by decide +kernel
theorem dX11_works_104 : decode cX11_works 104 = .ok (.goto 111, 3) := by decide +kernel
theorem dX11_works_107 : decode cX11_works 107 = .ok (.aload_n 0, 1) := by decide +kernel
theorem dX11_works_108 : decode cX11_works 108 = .ok (.getfield 117, 3) := by decide +kernel
theorem dX11_works_111 : decode cX11_works 111 = .ok (.iload 4, 2) := by decide +kernel
theorem dX11_works_113 : decode cX11_works 113 = .ok (.aload_n 0, 1) := by decide +kernel
theorem dX11_works_114 : decode cX11_works 114 = .ok (.getfield 117, 3) := by decide +kernel
theorem dX11_works_117 : decode cX11_works 117 = .ok (.aload_n 0, 1) := by decide +kernel
theorem dX11_works_118 : decode cX11_works 118 = .ok (.getfield 54, 3) := by decide +kernel
theorem dX11_works_121 : decode cX11_works 121 = .ok (.iload 4, 2) := by decide +kernel
theorem dX11_works_123 : decode cX11_works 123 = .ok (.iaload, 1) := by decide +kernel
theorem dX11_works_124 : decode cX11_works 124 = .ok (.baload, 1) := by decide +kernel
theorem dX11_works_125 : decode cX11_works 125 = .ok (.ifCond .eq 22, 3) := by decide +kernel
theorem dX11_works_128 : decode cX11_works 128 = .ok (.aload_n 0, 1) := by decide +kernel
theorem dX11_works_129 : decode cX11_works 129 = .ok (.getfield 117, 3) := by decide +kernel
theorem dX11_works_132 : decode cX11_works 132 = .ok (.aload_n 0, 1) := by decide +kernel
theorem dX11_works_133 : decode cX11_works 133 = .ok (.getfield 57, 3) := by decide +kernel
theorem dX11_works_136 : decode cX11_works 136 = .ok (.iload 4, 2) := by decide +kernel
theorem dX11_works_138 : decode cX11_works 138 = .ok (.iaload, 1) := by decide +kernel
theorem dX11_works_139 : decode cX11_works 139 = .ok (.baload, 1) := by decide +kernel
theorem dX11_works_140 : decode cX11_works 140 = .ok (.ifCond .eq 7, 3) := by decide +kernel
theorem dX11_works_143 : decode cX11_works 143 = .ok (.iconst 1, 1) := by decide +kernel
theorem dX11_works_144 : decode cX11_works 144 = .ok (.goto 4, 3) := by decide +kernel
theorem dX11_works_147 : decode cX11_works 147 = .ok (.iconst 0, 1) := by decide +kernel
theorem dX11_works_148 : decode cX11_works 148 = .ok (.bastore, 1) := by decide +kernel
theorem dX11_works_149 : decode cX11_works 149 = .ok (.goto 66, 3) := by decide +kernel
theorem dX11_works_152 : decode cX11_works 152 = .ok (.aload_n 0, 1) := by decide +kernel
theorem dX11_works_153 : decode cX11_works 153 = .ok (.getfield 117, 3) := by decide +kernel
theorem dX11_works_156 : decode cX11_works 156 = .ok (.iload 4, 2) := by decide +kernel
theorem dX11_works_158 : decode cX11_works 158 = .ok (.aload_n 0, 1) := by decide +kernel
theorem dX11_works_159 : decode cX11_works 159 = .ok (.getfield 117, 3) := by decide +kernel
theorem dX11_works_162 : decode cX11_works 162 = .ok (.aload_n 0, 1) := by decide +kernel
theorem dX11_works_163 : decode cX11_works 163 = .ok (.getfield 54, 3) := by decide +kernel
theorem dX11_works_166 : decode cX11_works 166 = .ok (.iload 4, 2) := by decide +kernel
theorem dX11_works_168 : decode cX11_works 168 = .ok (.iaload, 1) := by decide +kernel
theorem dX11_works_169 : decode cX11_works 169 = .ok (.baload, 1) := by decide +kernel
theorem dX11_works_170 : decode cX11_works 170 = .ok (.ifCond .ne 18, 3) := by decide +kernel
theorem dX11_works_173 : decode cX11_works 173 = .ok (.aload_n 0, 1) := by decide +kernel
theorem dX11_works_174 : decode cX11_works 174 = .ok (.getfield 117, 3) := by decide +kernel
theorem dX11_works_177 : decode cX11_works 177 = .ok (.aload_n 0, 1) := by decide +kernel
theorem dX11_works_178 : decode cX11_works 178 = .ok (.getfield 57, 3) := by decide +kernel
theorem dX11_works_181 : decode cX11_works 181 = .ok (.iload 4, 2) := by decide +kernel
theorem dX11_works_183 : decode cX11_works 183 = .ok (.iaload, 1) := by decide +kernel
theorem dX11_works_184 : decode cX11_works 184 = .ok (.baload, 1) := by decide +kernel
theorem dX11_works_185 : decode cX11_works 185 = .ok (.ifCond .eq 7, 3) := by decide +kernel
theorem dX11_works_188 : decode cX11_works 188 = .ok (.iconst 1, 1) := by decide +kernel
theorem dX11_works_189 : decode cX11_works 189 = .ok (.goto 4, 3) := by decide +kernel
theorem dX11_works_192 : decode cX11_works 192 = .ok (.iconst 0, 1) := by decide +kernel
theorem dX11_works_193 : decode cX11_works 193 = .ok (.bastore, 1) := by decide +kernel
theorem dX11_works_194 : decode cX11_works 194 = .ok (.goto 21, 3) := by decide +kernel
theorem dX11_works_197 : decode cX11_works 197 = .ok (.aload_n 0, 1) := by decide +kernel
theorem dX11_works_198 : decode cX11_works 198 = .ok (.getfield 117, 3) := by decide +kernel
theorem dX11_works_201 : decode cX11_works 201 = .ok (.iload 4, 2) := by decide +kernel
theorem dX11_works_203 : decode cX11_works 203 = .ok (.iload_n 3, 1) := by decide +kernel
theorem dX11_works_204 : decode cX11_works 204 = .ok (.aload_n 0, 1) := by decide +kernel
theorem dX11_works_205 : decode cX11_works 205 = .ok (.getfield 51, 3) := by decide +kernel
theorem dX11_works_208 : decode cX11_works 208 = .ok (.iload 4, 2) := by decide +kernel
theorem dX11_works_210 : decode cX11_works 210 = .ok (.iaload, 1) := by decide +kernel
theorem dX11_works_211 : decode cX11_works 211 = .ok (.invokestatic 310, 3) := by decide +kernel
theorem dX11_works_214 : decode cX11_works 214 = .ok (.bastore, 1) := by decide +kernel
theorem dX11_works_215 : decode cX11_works 215 = .ok (.iinc 4 1, 3) := by decide +kernel
theorem dX11_works_218 : decode cX11_works 218 = .ok (.goto (-210), 3) := by decide +kernel
theorem dX11_works_221 : decode cX11_works 221 = .ok (.aload_n 0, 1) := by decide +kernel
theorem dX11_works_222 : decode cX11_works 222 = .ok (.getfield 48, 3) := by decide +kernel
theorem dX11_works_225 : decode cX11_works 225 = .ok (.iload_n 1, 1) := by decide +kernel
theorem dX11_works_226 : decode cX11_works 226 = .ok (.iaload, 1) := by decide +kernel
theorem dX11_works_227 : decode cX11_works 227 = .ok (.aload_n 0, 1) := by decide +kernel
theorem dX11_works_228 : decode cX11_works 228 = .ok (.getfield 45, 3) := by decide +kernel
theorem dX11_works_231 : decode cX11_works 231 = .ok (.iload_n 1, 1) := by decide +kernel
theorem dX11_works_232 : decode cX11_works 232 = .ok (.iaload, 1) := by decide +kernel
theorem dX11_works_233 : decode cX11_works 233 = .ok (.if_icmp .le 23, 3) := by decide +kernel
theorem dX11_works_236 : decode cX11_works 236 = .ok (.aload_n 0, 1) := by decide +kernel
theorem dX11_works_237 : decode cX11_works 237 = .ok (.getfield 117, 3) := by decide +kernel
theorem dX11_works_240 : decode cX11_works 240 = .ok (.aload_n 0, 1) := by decide +kernel
theorem dX11_works_241 : decode cX11_works 241 = .ok (.getfield 48, 3) := by decide +kernel
theorem dX11_works_244 : decode cX11_works 244 = .ok (.iload_n 1, 1) := by decide +kernel
theorem dX11_works_245 : decode cX11_works 245 = .ok (.iaload, 1) := by decide +kernel
theorem dX11_works_246 : decode cX11_works 246 = .ok (.iconst 1, 1) := by decide +kernel
theorem dX11_works_247 : decode cX11_works 247 = .ok (.isub, 1) := by decide +kernel
theorem dX11_works_248 : decode cX11_works 248 = .ok (.baload, 1) := by decide +kernel
theorem dX11_works_249 : decode cX11_works 249 = .ok (.ifCond .eq 7, 3) := by decide +kernel
theorem dX11_works_252 : decode cX11_works 252 = .ok (.iconst 1, 1) := by decide +kernel
theorem dX11_works_253 : decode cX11_works 253 = .ok (.goto 4, 3) := by decide +kernel
theorem dX11_works_256 : decode cX11_works 256 = .ok (.iconst 0, 1) := by decide +kernel
theorem dX11_works_257 : decode cX11_works 257 = .ok (.ireturn, 1) := by decide +kernel
theorem dX11_pulls_0 : decode cX11_pulls 0 = .ok (.aload_n 0, 1) := by decide +kernel
theorem dX11_pulls_1 : decode cX11_pulls 1 = .ok (.invokevirtual 397, 3) := by decide +kernel
theorem dX11_pulls_4 : decode cX11_pulls 4 = .ok (.istore_n 1, 1) := by decide +kernel
theorem dX11_pulls_5 : decode cX11_pulls 5 = .ok (.iconst 0, 1) := by decide +kernel
theorem dX11_pulls_6 : decode cX11_pulls 6 = .ok (.istore_n 2, 1) := by decide +kernel
theorem dX11_pulls_7 : decode cX11_pulls 7 = .ok (.iconst 0, 1) := by decide +kernel
theorem dX11_pulls_8 : decode cX11_pulls 8 = .ok (.istore_n 3, 1) := by decide +kernel
theorem dX11_pulls_9 : decode cX11_pulls 9 = .ok (.iload_n 3, 1) := by decide +kernel
theorem dX11_pulls_10 : decode cX11_pulls 10 = .ok (.aload_n 0, 1) := by decide +kernel
theorem dX11_pulls_11 : decode cX11_pulls 11 = .ok (.getfield 265, 3) := by decide +kernel
theorem dX11_pulls_14 : decode cX11_pulls 14 = .ok (.if_icmp .ge 58, 3) := by decide +kernel
theorem dX11_pulls_17 : decode cX11_pulls 17 = .ok (.aload_n 0, 1) := by decide +kernel
theorem dX11_pulls_18 : decode cX11_pulls 18 = .ok (.getfield 274, 3) := by decide +kernel
theorem dX11_pulls_21 : decode cX11_pulls 21 = .ok (.iload_n 3, 1) := by decide +kernel
theorem dX11_pulls_22 : decode cX11_pulls 22 = .ok (.invokestatic 310, 3) := by decide +kernel
theorem dX11_pulls_25 : decode cX11_pulls 25 = .ok (.ifCond .eq 14, 3) := by decide +kernel
theorem dX11_pulls_28 : decode cX11_pulls 28 = .ok (.aload_n 0, 1) := by decide +kernel
theorem dX11_pulls_29 : decode cX11_pulls 29 = .ok (.getfield 277, 3) := by decide +kernel
theorem dX11_pulls_32 : decode cX11_pulls 32 = .ok (.iload_n 3, 1) := by decide +kernel
theorem dX11_pulls_33 : decode cX11_pulls 33 = .ok (.invokestatic 310, 3) := by decide +kernel
theorem dX11_pulls_36 : decode cX11_pulls 36 = .ok (.goto 13, 3) := by decide +kernel
theorem dX11_pulls_39 : decode cX11_pulls 39 = .ok (.aload_n 0, 1) := by decide +kernel
theorem dX11_pulls_40 : decode cX11_pulls 40 = .ok (.iload_n 3, 1) := by decide +kernel
theorem dX11_pulls_41 : decode cX11_pulls 41 = .ok (.aload_n 0, 1) := by decide +kernel
theorem dX11_pulls_42 : decode cX11_pulls 42 = .ok (.getfield 271, 3) := by decide +kernel
theorem dX11_pulls_45 : decode cX11_pulls 45 = .ok (.iload_n 1, 1) := by decide +kernel
theorem dX11_pulls_46 : decode cX11_pulls 46 = .ok (.invokevirtual 400, 3) := by decide +kernel
theorem dX11_pulls_49 : decode cX11_pulls 49 = .ok (.istore 4, 2) := by decide +kernel
theorem dX11_pulls_51 : decode cX11_pulls 51 = .ok (.iload_n 2, 1) := by decide +kernel
theorem dX11_pulls_52 : decode cX11_pulls 52 = .ok (.iload 4, 2) := by decide +kernel
theorem dX11_pulls_54 : decode cX11_pulls 54 = .ok (.ifCond .eq 9, 3) := by decide +kernel
theorem dX11_pulls_57 : decode cX11_pulls 57 = .ok (.iconst 1, 1) := by decide +kernel
theorem dX11_pulls_58 : decode cX11_pulls 58 = .ok (.iload_n 3, 1) := by decide +kernel
theorem dX11_pulls_59 : decode cX11_pulls 59 = .ok (.ishl, 1) := by decide +kernel
theorem dX11_pulls_60 : decode cX11_pulls 60 = .ok (.goto 4, 3) := by decide +kernel
theorem dX11_pulls_63 : decode cX11_pulls 63 = .ok (.iconst 0, 1) := by decide +kernel
theorem dX11_pulls_64 : decode cX11_pulls 64 = .ok (.ior, 1) := by decide +kernel
theorem dX11_pulls_65 : decode cX11_pulls 65 = .ok (.istore_n 2, 1) := by decide +kernel
theorem dX11_pulls_66 : decode cX11_pulls 66 = .ok (.iinc 3 1, 3) := by decide +kernel
theorem dX11_pulls_69 : decode cX11_pulls 69 = .ok (.goto (-60), 3) := by decide +kernel
theorem dX11_pulls_72 : decode cX11_pulls 72 = .ok (.aload_n 0, 1) := by decide +kernel
theorem dX11_pulls_73 : decode cX11_pulls 73 = .ok (.iload_n 2, 1) := by decide +kernel
theorem dX11_pulls_74 : decode cX11_pulls 74 = .ok (.putfield 271, 3) := by decide +kernel
theorem dX11_pulls_77 : decode cX11_pulls 77 = .ok (.aload_n 0, 1) := by decide +kernel
theorem dX11_pulls_78 : decode cX11_pulls 78 = .ok (.bipush 23, 2) := by decide +kernel
theorem dX11_pulls_80 : decode cX11_pulls 80 = .ok (.iload_n 2, 1) := by decide +kernel
theorem dX11_pulls_81 : decode cX11_pulls 81 = .ok (.iload_n 1, 1) := by decide +kernel
theorem dX11_pulls_82 : decode cX11_pulls 82 = .ok (.invokevirtual 400, 3) := by decide +kernel
theorem dX11_pulls_85 : decode cX11_pulls 85 = .ok (.ifCond .eq 16, 3) := by decide +kernel
theorem dX11_pulls_88 : decode cX11_pulls 88 = .ok (.aload_n 0, 1) := by decide +kernel
theorem dX11_pulls_89 : decode cX11_pulls 89 = .ok (.getfield 72, 3) := by decide +kernel
theorem dX11_pulls_92 : decode cX11_pulls 92 = .ok (.aload_n 0, 1) := by decide +kernel
theorem dX11_pulls_93 : decode cX11_pulls 93 = .ok (.getfield 295, 3) := by decide +kernel
theorem dX11_pulls_96 : decode cX11_pulls 96 = .ok (.aload_n 0, 1) := by decide +kernel
theorem dX11_pulls_97 : decode cX11_pulls 97 = .ok (.getfield 298, 3) := by decide +kernel
theorem dX11_pulls_100 : decode cX11_pulls 100 = .ok (.iastore, 1) := by decide +kernel
theorem dX11_pulls_101 : decode cX11_pulls 101 = .ok (.aload_n 0, 1) := by decide +kernel
theorem dX11_pulls_102 : decode cX11_pulls 102 = .ok (.bipush 21, 2) := by decide +kernel
theorem dX11_pulls_104 : decode cX11_pulls 104 = .ok (.iload_n 2, 1) := by decide +kernel
theorem dX11_pulls_105 : decode cX11_pulls 105 = .ok (.iload_n 1, 1) := by decide +kernel
theorem dX11_pulls_106 : decode cX11_pulls 106 = .ok (.invokevirtual 400, 3) := by decide +kernel
theorem dX11_pulls_109 : decode cX11_pulls 109 = .ok (.istore_n 3, 1) := by decide +kernel
theorem dX11_pulls_110 : decode cX11_pulls 110 = .ok (.aload_n 0, 1) := by decide +kernel
theorem dX11_pulls_111 : decode cX11_pulls 111 = .ok (.bipush 22, 2) := by decide +kernel
theorem dX11_pulls_113 : decode cX11_pulls 113 = .ok (.iload_n 2, 1) := by decide +kernel
theorem dX11_pulls_114 : decode cX11_pulls 114 = .ok (.iload_n 1, 1) := by decide +kernel
theorem dX11_pulls_115 : decode cX11_pulls 115 = .ok (.invokevirtual 400, 3) := by decide +kernel
theorem dX11_pulls_118 : decode cX11_pulls 118 = .ok (.istore 4, 2) := by decide +kernel
theorem dX11_pulls_120 : decode cX11_pulls 120 = .ok (.aload_n 0, 1) := by decide +kernel
theorem dX11_pulls_121 : decode cX11_pulls 121 = .ok (.bipush 20, 2) := by decide +kernel
theorem dX11_pulls_123 : decode cX11_pulls 123 = .ok (.iload_n 2, 1) := by decide +kernel
theorem dX11_pulls_124 : decode cX11_pulls 124 = .ok (.iload_n 1, 1) := by decide +kernel
theorem dX11_pulls_125 : decode cX11_pulls 125 = .ok (.invokevirtual 400, 3) := by decide +kernel
theorem dX11_pulls_128 : decode cX11_pulls 128 = .ok (.istore 5, 2) := by decide +kernel
theorem dX11_pulls_130 : decode cX11_pulls 130 = .ok (.iload_n 3, 1) := by decide +kernel
theorem dX11_pulls_131 : decode cX11_pulls 131 = .ok (.ifCond .eq 15, 3) := by decide +kernel
theorem dX11_pulls_134 : decode cX11_pulls 134 = .ok (.aload_n 0, 1) := by decide +kernel
theorem dX11_pulls_135 : decode cX11_pulls 135 = .ok (.aload_n 0, 1) := by decide +kernel
theorem dX11_pulls_136 : decode cX11_pulls 136 = .ok (.getfield 298, 3) := by decide +kernel
theorem dX11_pulls_139 : decode cX11_pulls 139 = .ok (.iconst 3, 1) := by decide +kernel
theorem dX11_pulls_140 : decode cX11_pulls 140 = .ok (.iadd, 1) := by decide +kernel
theorem dX11_pulls_141 : decode cX11_pulls 141 = .ok (.iconst 4, 1) := by decide +kernel
theorem dX11_pulls_142 : decode cX11_pulls 142 = .ok (.irem, 1) := by decide +kernel
theorem dX11_pulls_143 : decode cX11_pulls 143 = .ok (.putfield 298, 3) := by decide +kernel
theorem dX11_pulls_146 : decode cX11_pulls 146 = .ok (.iload 4, 2) := by decide +kernel
theorem dX11_pulls_148 : decode cX11_pulls 148 = .ok (.ifCond .eq 15, 3) := by decide +kernel
theorem dX11_pulls_151 : decode cX11_pulls 151 = .ok (.aload_n 0, 1) := by decide +kernel
theorem dX11_pulls_152 : decode cX11_pulls 152 = .ok (.aload_n 0, 1) := by decide +kernel
theorem dX11_pulls_153 : decode cX11_pulls 153 = .ok (.getfield 298, 3) := by decide +kernel
theorem dX11_pulls_156 : decode cX11_pulls 156 = .ok (.iconst 1, 1) := by decide +kernel
theorem dX11_pulls_157 : decode cX11_pulls 157 = .ok (.iadd, 1) := by decide +kernel
theorem dX11_pulls_158 : decode cX11_pulls 158 = .ok (.iconst 4, 1) := by decide +kernel
theorem dX11_pulls_159 : decode cX11_pulls 159 = .ok (.irem, 1) := by decide +kernel
theorem dX11_pulls_160 : decode cX11_pulls 160 = .ok (.putfield 298, 3) := by decide +kernel
theorem dX11_pulls_163 : decode cX11_pulls 163 = .ok (.iload 5, 2) := by decide +kernel
theorem dX11_pulls_165 : decode cX11_pulls 165 = .ok (.ifCond .eq 7, 3) := by decide +kernel
theorem dX11_pulls_168 : decode cX11_pulls 168 = .ok (.aload_n 0, 1) := by decide +kernel
theorem dX11_pulls_169 : decode cX11_pulls 169 = .ok (.invokevirtual 340, 3) := by decide +kernel
theorem dX11_pulls_172 : decode cX11_pulls 172 = .ok (.return_, 1) := by decide +kernel
theorem dX11_pullsTold_0 : decode cX11_pullsTold 0 = .ok (.aload_n 0, 1) := by decide +kernel
theorem dX11_pullsTold_1 : decode cX11_pullsTold 1 = .ok (.aload_n 0, 1) := by decide +kernel
theorem dX11_pullsTold_2 : decode cX11_pullsTold 2 = .ok (.invokevirtual 397, 3) := by decide +kernel
theorem dX11_pullsTold_5 : decode cX11_pullsTold 5 = .ok (.putfield 403, 3) := by decide +kernel
theorem dX11_pullsTold_8 : decode cX11_pullsTold 8 = .ok (.aload_n 0, 1) := by decide +kernel
theorem dX11_pullsTold_9 : decode cX11_pullsTold 9 = .ok (.aload_n 0, 1) := by decide +kernel
theorem dX11_pullsTold_10 : decode cX11_pullsTold 10 = .ok (.getfield 271, 3) := by decide +kernel
theorem dX11_pullsTold_13 : decode cX11_pullsTold 13 = .ok (.putfield 406, 3) := by decide +kernel
theorem dX11_pullsTold_16 : decode cX11_pullsTold 16 = .ok (.aload_n 0, 1) := by decide +kernel
theorem dX11_pullsTold_17 : decode cX11_pullsTold 17 = .ok (.invokevirtual 409, 3) := by decide +kernel
theorem dX11_pullsTold_20 : decode cX11_pullsTold 20 = .ok (.aload_n 0, 1) := by decide +kernel
theorem dX11_pullsTold_21 : decode cX11_pullsTold 21 = .ok (.aload_n 0, 1) := by decide +kernel
theorem dX11_pullsTold_22 : decode cX11_pullsTold 22 = .ok (.getfield 271, 3) := by decide +kernel
theorem dX11_pullsTold_25 : decode cX11_pullsTold 25 = .ok (.putfield 412, 3) := by decide +kernel
theorem dX11_pullsTold_28 : decode cX11_pullsTold 28 = .ok (.aload_n 0, 1) := by decide +kernel
theorem dX11_pullsTold_29 : decode cX11_pullsTold 29 = .ok (.iconst 1, 1) := by decide +kernel
theorem dX11_pullsTold_30 : decode cX11_pullsTold 30 = .ok (.putfield 394, 3) := by decide +kernel
theorem dX11_pullsTold_33 : decode cX11_pullsTold 33 = .ok (.return_, 1) := by decide +kernel
theorem dX11_pull_0 : decode cX11_pull 0 = .ok (.aload_n 0, 1) := by decide +kernel
theorem dX11_pull_1 : decode cX11_pull 1 = .ok (.iconst 0, 1) := by decide +kernel
theorem dX11_pull_2 : decode cX11_pull 2 = .ok (.putfield 130, 3) := by decide +kernel
theorem dX11_pull_5 : decode cX11_pull 5 = .ok (.iload_n 1, 1) := by decide +kernel
theorem dX11_pull_6 : decode cX11_pull 6 = .ok (.iconst 0, 1) := by decide +kernel
theorem dX11_pull_7 : decode cX11_pull 7 = .ok (.sipush 5000, 3) := by decide +kernel
theorem dX11_pull_10 : decode cX11_pull 10 = .ok (.invokestatic 317, 3) := by decide +kernel
theorem dX11_pull_13 : decode cX11_pull 13 = .ok (.ifCond .ne 5, 3) := by decide +kernel
theorem dX11_pull_16 : decode cX11_pull 16 = .ok (.iconst (-1), 1) := by decide +kernel
theorem dX11_pull_17 : decode cX11_pull 17 = .ok (.ireturn, 1) := by decide +kernel
theorem dX11_pull_18 : decode cX11_pull 18 = .ok (.aload_n 0, 1) := by decide +kernel
theorem dX11_pull_19 : decode cX11_pull 19 = .ok (.iconst 0, 1) := by decide +kernel
theorem dX11_pull_20 : decode cX11_pull 20 = .ok (.putfield 337, 3) := by decide +kernel
theorem dX11_pull_23 : decode cX11_pull 23 = .ok (.iconst 0, 1) := by decide +kernel
theorem dX11_pull_24 : decode cX11_pull 24 = .ok (.istore_n 2, 1) := by decide +kernel
theorem dX11_pull_25 : decode cX11_pull 25 = .ok (.iload_n 2, 1) := by decide +kernel
theorem dX11_pull_26 : decode cX11_pull 26 = .ok (.iload_n 1, 1) := by decide +kernel
theorem dX11_pull_27 : decode cX11_pull 27 = .ok (.if_icmp .ge 13, 3) := by decide +kernel
theorem dX11_pull_30 : decode cX11_pull 30 = .ok (.aload_n 0, 1) := by decide +kernel
theorem dX11_pull_31 : decode cX11_pull 31 = .ok (.invokevirtual 415, 3) := by decide +kernel
theorem dX11_pull_34 : decode cX11_pull 34 = .ok (.iinc 2 1, 3) := by decide +kernel
theorem dX11_pull_37 : decode cX11_pull 37 = .ok (.goto (-12), 3) := by decide +kernel
theorem dX11_pull_40 : decode cX11_pull 40 = .ok (.aload_n 0, 1) := by decide +kernel
theorem dX11_pull_41 : decode cX11_pull 41 = .ok (.getfield 337, 3) := by decide +kernel
theorem dX11_pull_44 : decode cX11_pull 44 = .ok (.ireturn, 1) := by decide +kernel
theorem dX11_pullRun_0 : decode cX11_pullRun 0 = .ok (.aload_n 0, 1) := by decide +kernel
theorem dX11_pullRun_1 : decode cX11_pullRun 1 = .ok (.iconst 0, 1) := by decide +kernel
theorem dX11_pullRun_2 : decode cX11_pullRun 2 = .ok (.putfield 130, 3) := by decide +kernel
theorem dX11_pullRun_5 : decode cX11_pullRun 5 = .ok (.iload_n 1, 1) := by decide +kernel
theorem dX11_pullRun_6 : decode cX11_pullRun 6 = .ok (.iconst 0, 1) := by decide +kernel
theorem dX11_pullRun_7 : decode cX11_pullRun 7 = .ok (.sipush 5000, 3) := by decide +kernel
theorem dX11_pullRun_10 : decode cX11_pullRun 10 = .ok (.invokestatic 317, 3) := by decide +kernel
theorem dX11_pullRun_13 : decode cX11_pullRun 13 = .ok (.ifCond .ne 5, 3) := by decide +kernel
theorem dX11_pullRun_16 : decode cX11_pullRun 16 = .ok (.iconst (-1), 1) := by decide +kernel
theorem dX11_pullRun_17 : decode cX11_pullRun 17 = .ok (.ireturn, 1) := by decide +kernel
theorem dX11_pullRun_18 : decode cX11_pullRun 18 = .ok (.iconst 0, 1) := by decide +kernel
theorem dX11_pullRun_19 : decode cX11_pullRun 19 = .ok (.istore_n 2, 1) := by decide +kernel
theorem dX11_pullRun_20 : decode cX11_pullRun 20 = .ok (.aload_n 0, 1) := by decide +kernel
theorem dX11_pullRun_21 : decode cX11_pullRun 21 = .ok (.getfield 295, 3) := by decide +kernel
theorem dX11_pullRun_24 : decode cX11_pullRun 24 = .ok (.aload_n 0, 1) := by decide +kernel
theorem dX11_pullRun_25 : decode cX11_pullRun 25 = .ok (.getfield 292, 3) := by decide +kernel
theorem dX11_pullRun_28 : decode cX11_pullRun 28 = .ok (.if_icmp .eq 21, 3) := by decide +kernel
theorem dX11_pullRun_31 : decode cX11_pullRun 31 = .ok (.iload_n 2, 1) := by decide +kernel
theorem dX11_pullRun_32 : decode cX11_pullRun 32 = .ok (.iload_n 1, 1) := by decide +kernel
theorem dX11_pullRun_33 : decode cX11_pullRun 33 = .ok (.if_icmp .ne 6, 3) := by decide +kernel
theorem dX11_pullRun_36 : decode cX11_pullRun 36 = .ok (.bipush (-2), 2) := by decide +kernel
theorem dX11_pullRun_38 : decode cX11_pullRun 38 = .ok (.ireturn, 1) := by decide +kernel
theorem dX11_pullRun_39 : decode cX11_pullRun 39 = .ok (.aload_n 0, 1) := by decide +kernel
theorem dX11_pullRun_40 : decode cX11_pullRun 40 = .ok (.invokevirtual 415, 3) := by decide +kernel
theorem dX11_pullRun_43 : decode cX11_pullRun 43 = .ok (.iinc 2 1, 3) := by decide +kernel
theorem dX11_pullRun_46 : decode cX11_pullRun 46 = .ok (.goto (-26), 3) := by decide +kernel
theorem dX11_pullRun_49 : decode cX11_pullRun 49 = .ok (.iload_n 2, 1) := by decide +kernel
theorem dX11_pullRun_50 : decode cX11_pullRun 50 = .ok (.ireturn, 1) := by decide +kernel
theorem dX11_relays_0 : decode cX11_relays 0 = .ok (.aload_n 0, 1) := by decide +kernel
theorem dX11_relays_1 : decode cX11_relays 1 = .ok (.iconst 0, 1) := by decide +kernel
theorem dX11_relays_2 : decode cX11_relays 2 = .ok (.putfield 130, 3) := by decide +kernel
theorem dX11_relays_5 : decode cX11_relays 5 = .ok (.aload_n 0, 1) := by decide +kernel
theorem dX11_relays_6 : decode cX11_relays 6 = .ok (.getfield 271, 3) := by decide +kernel
theorem dX11_relays_9 : decode cX11_relays 9 = .ok (.ireturn, 1) := by decide +kernel
theorem dX11_races_0 : decode cX11_races 0 = .ok (.aload_n 0, 1) := by decide +kernel
theorem dX11_races_1 : decode cX11_races 1 = .ok (.iload_n 1, 1) := by decide +kernel
theorem dX11_races_2 : decode cX11_races 2 = .ok (.aload_n 0, 1) := by decide +kernel
theorem dX11_races_3 : decode cX11_races 3 = .ok (.getfield 406, 3) := by decide +kernel
theorem dX11_races_6 : decode cX11_races 6 = .ok (.iconst 1, 1) := by decide +kernel
theorem dX11_races_7 : decode cX11_races 7 = .ok (.iload_n 2, 1) := by decide +kernel
theorem dX11_races_8 : decode cX11_races 8 = .ok (.ishl, 1) := by decide +kernel
theorem dX11_races_9 : decode cX11_races 9 = .ok (.ixor, 1) := by decide +kernel
theorem dX11_races_10 : decode cX11_races 10 = .ok (.aload_n 0, 1) := by decide +kernel
theorem dX11_races_11 : decode cX11_races 11 = .ok (.getfield 403, 3) := by decide +kernel
theorem dX11_races_14 : decode cX11_races 14 = .ok (.invokevirtual 400, 3) := by decide +kernel
theorem dX11_races_17 : decode cX11_races 17 = .ok (.aload_n 0, 1) := by decide +kernel
theorem dX11_races_18 : decode cX11_races 18 = .ok (.getfield 406, 3) := by decide +kernel
theorem dX11_races_21 : decode cX11_races 21 = .ok (.iload_n 1, 1) := by decide +kernel
theorem dX11_races_22 : decode cX11_races 22 = .ok (.invokestatic 310, 3) := by decide +kernel
theorem dX11_races_25 : decode cX11_races 25 = .ok (.if_icmp .ne 7, 3) := by decide +kernel
theorem dX11_races_28 : decode cX11_races 28 = .ok (.iconst 1, 1) := by decide +kernel
theorem dX11_races_29 : decode cX11_races 29 = .ok (.goto 4, 3) := by decide +kernel
theorem dX11_races_32 : decode cX11_races 32 = .ok (.iconst 0, 1) := by decide +kernel
theorem dX11_races_33 : decode cX11_races 33 = .ok (.ireturn, 1) := by decide +kernel
theorem dX11_race_0 : decode cX11_race 0 = .ok (.aload_n 0, 1) := by decide +kernel
theorem dX11_race_1 : decode cX11_race 1 = .ok (.iconst 0, 1) := by decide +kernel
theorem dX11_race_2 : decode cX11_race 2 = .ok (.putfield 130, 3) := by decide +kernel
theorem dX11_race_5 : decode cX11_race 5 = .ok (.aload_n 0, 1) := by decide +kernel
theorem dX11_race_6 : decode cX11_race 6 = .ok (.getfield 394, 3) := by decide +kernel
theorem dX11_race_9 : decode cX11_race 9 = .ok (.ifCond .ne 5, 3) := by decide +kernel
theorem dX11_race_12 : decode cX11_race 12 = .ok (.iconst (-1), 1) := by decide +kernel
theorem dX11_race_13 : decode cX11_race 13 = .ok (.ireturn, 1) := by decide +kernel
theorem dX11_race_14 : decode cX11_race 14 = .ok (.aload_n 0, 1) := by decide +kernel
theorem dX11_race_15 : decode cX11_race 15 = .ok (.getfield 406, 3) := by decide +kernel
theorem dX11_race_18 : decode cX11_race 18 = .ok (.aload_n 0, 1) := by decide +kernel
theorem dX11_race_19 : decode cX11_race 19 = .ok (.getfield 412, 3) := by decide +kernel
theorem dX11_race_22 : decode cX11_race 22 = .ok (.ixor, 1) := by decide +kernel
theorem dX11_race_23 : decode cX11_race 23 = .ok (.istore_n 1, 1) := by decide +kernel
theorem dX11_race_24 : decode cX11_race 24 = .ok (.iconst 0, 1) := by decide +kernel
theorem dX11_race_25 : decode cX11_race 25 = .ok (.istore_n 2, 1) := by decide +kernel
theorem dX11_race_26 : decode cX11_race 26 = .ok (.iload_n 2, 1) := by decide +kernel
theorem dX11_race_27 : decode cX11_race 27 = .ok (.aload_n 0, 1) := by decide +kernel
theorem dX11_race_28 : decode cX11_race 28 = .ok (.getfield 265, 3) := by decide +kernel
theorem dX11_race_31 : decode cX11_race 31 = .ok (.if_icmp .ge 78, 3) := by decide +kernel
theorem dX11_race_34 : decode cX11_race 34 = .ok (.iload_n 2, 1) := by decide +kernel
theorem dX11_race_35 : decode cX11_race 35 = .ok (.iconst 1, 1) := by decide +kernel
theorem dX11_race_36 : decode cX11_race 36 = .ok (.iadd, 1) := by decide +kernel
theorem dX11_race_37 : decode cX11_race 37 = .ok (.istore_n 3, 1) := by decide +kernel
theorem dX11_race_38 : decode cX11_race 38 = .ok (.iload_n 3, 1) := by decide +kernel
theorem dX11_race_39 : decode cX11_race 39 = .ok (.aload_n 0, 1) := by decide +kernel
theorem dX11_race_40 : decode cX11_race 40 = .ok (.getfield 265, 3) := by decide +kernel
theorem dX11_race_43 : decode cX11_race 43 = .ok (.if_icmp .ge 60, 3) := by decide +kernel
theorem dX11_race_46 : decode cX11_race 46 = .ok (.iload_n 1, 1) := by decide +kernel
theorem dX11_race_47 : decode cX11_race 47 = .ok (.iload_n 2, 1) := by decide +kernel
theorem dX11_race_48 : decode cX11_race 48 = .ok (.invokestatic 310, 3) := by decide +kernel
theorem dX11_race_51 : decode cX11_race 51 = .ok (.ifCond .eq 46, 3) := by decide +kernel
theorem dX11_race_54 : decode cX11_race 54 = .ok (.iload_n 1, 1) := by decide +kernel
theorem dX11_race_55 : decode cX11_race 55 = .ok (.iload_n 3, 1) := by decide +kernel
theorem dX11_race_56 : decode cX11_race 56 = .ok (.invokestatic 310, 3) := by decide +kernel
theorem dX11_race_59 : decode cX11_race 59 = .ok (.ifCond .ne 6, 3) := by decide +kernel
theorem dX11_race_62 : decode cX11_race 62 = .ok (.goto 35, 3) := by decide +kernel
theorem dX11_race_65 : decode cX11_race 65 = .ok (.aload_n 0, 1) := by decide +kernel
theorem dX11_race_66 : decode cX11_race 66 = .ok (.iload_n 2, 1) := by decide +kernel
theorem dX11_race_67 : decode cX11_race 67 = .ok (.iload_n 3, 1) := by decide +kernel
theorem dX11_race_68 : decode cX11_race 68 = .ok (.invokevirtual 418, 3) := by decide +kernel
theorem dX11_race_71 : decode cX11_race 71 = .ok (.ifCond .eq 10, 3) := by decide +kernel
theorem dX11_race_74 : decode cX11_race 74 = .ok (.bipush 32, 2) := by decide +kernel
theorem dX11_race_76 : decode cX11_race 76 = .ok (.iload_n 2, 1) := by decide +kernel
theorem dX11_race_77 : decode cX11_race 77 = .ok (.imul, 1) := by decide +kernel
theorem dX11_race_78 : decode cX11_race 78 = .ok (.iload_n 3, 1) := by decide +kernel
theorem dX11_race_79 : decode cX11_race 79 = .ok (.iadd, 1) := by decide +kernel
theorem dX11_race_80 : decode cX11_race 80 = .ok (.ireturn, 1) := by decide +kernel
theorem dX11_race_81 : decode cX11_race 81 = .ok (.aload_n 0, 1) := by decide +kernel
theorem dX11_race_82 : decode cX11_race 82 = .ok (.iload_n 3, 1) := by decide +kernel
theorem dX11_race_83 : decode cX11_race 83 = .ok (.iload_n 2, 1) := by decide +kernel
theorem dX11_race_84 : decode cX11_race 84 = .ok (.invokevirtual 418, 3) := by decide +kernel
theorem dX11_race_87 : decode cX11_race 87 = .ok (.ifCond .eq 10, 3) := by decide +kernel
theorem dX11_race_90 : decode cX11_race 90 = .ok (.bipush 32, 2) := by decide +kernel
theorem dX11_race_92 : decode cX11_race 92 = .ok (.iload_n 3, 1) := by decide +kernel
theorem dX11_race_93 : decode cX11_race 93 = .ok (.imul, 1) := by decide +kernel
theorem dX11_race_94 : decode cX11_race 94 = .ok (.iload_n 2, 1) := by decide +kernel
theorem dX11_race_95 : decode cX11_race 95 = .ok (.iadd, 1) := by decide +kernel
theorem dX11_race_96 : decode cX11_race 96 = .ok (.ireturn, 1) := by decide +kernel
theorem dX11_race_97 : decode cX11_race 97 = .ok (.iinc 3 1, 3) := by decide +kernel
theorem dX11_race_100 : decode cX11_race 100 = .ok (.goto (-62), 3) := by decide +kernel
theorem dX11_race_103 : decode cX11_race 103 = .ok (.iinc 2 1, 3) := by decide +kernel
theorem dX11_race_106 : decode cX11_race 106 = .ok (.goto (-80), 3) := by decide +kernel
theorem dX11_race_109 : decode cX11_race 109 = .ok (.iconst (-1), 1) := by decide +kernel
theorem dX11_race_110 : decode cX11_race 110 = .ok (.ireturn, 1) := by decide +kernel
theorem dX11_sticks_0 : decode cX11_sticks 0 = .ok (.aload_n 0, 1) := by decide +kernel
theorem dX11_sticks_1 : decode cX11_sticks 1 = .ok (.iload_n 2, 1) := by decide +kernel
theorem dX11_sticks_2 : decode cX11_sticks 2 = .ok (.iconst 2, 1) := by decide +kernel
theorem dX11_sticks_3 : decode cX11_sticks 3 = .ok (.if_icmp .ne 16, 3) := by decide +kernel
theorem dX11_sticks_6 : decode cX11_sticks 6 = .ok (.aload_n 0, 1) := by decide +kernel
theorem dX11_sticks_7 : decode cX11_sticks 7 = .ok (.getfield 274, 3) := by decide +kernel
theorem dX11_sticks_10 : decode cX11_sticks 10 = .ok (.iconst 1, 1) := by decide +kernel
theorem dX11_sticks_11 : decode cX11_sticks 11 = .ok (.iload_n 1, 1) := by decide +kernel
theorem dX11_sticks_12 : decode cX11_sticks 12 = .ok (.ishl, 1) := by decide +kernel
theorem dX11_sticks_13 : decode cX11_sticks 13 = .ok (.iconst (-1), 1) := by decide +kernel
theorem dX11_sticks_14 : decode cX11_sticks 14 = .ok (.ixor, 1) := by decide +kernel
theorem dX11_sticks_15 : decode cX11_sticks 15 = .ok (.iand, 1) := by decide +kernel
theorem dX11_sticks_16 : decode cX11_sticks 16 = .ok (.goto 11, 3) := by decide +kernel
theorem dX11_sticks_19 : decode cX11_sticks 19 = .ok (.aload_n 0, 1) := by decide +kernel
theorem dX11_sticks_20 : decode cX11_sticks 20 = .ok (.getfield 274, 3) := by decide +kernel
theorem dX11_sticks_23 : decode cX11_sticks 23 = .ok (.iconst 1, 1) := by decide +kernel
theorem dX11_sticks_24 : decode cX11_sticks 24 = .ok (.iload_n 1, 1) := by decide +kernel
theorem dX11_sticks_25 : decode cX11_sticks 25 = .ok (.ishl, 1) := by decide +kernel
theorem dX11_sticks_26 : decode cX11_sticks 26 = .ok (.ior, 1) := by decide +kernel
theorem dX11_sticks_27 : decode cX11_sticks 27 = .ok (.putfield 274, 3) := by decide +kernel
theorem dX11_sticks_30 : decode cX11_sticks 30 = .ok (.aload_n 0, 1) := by decide +kernel
theorem dX11_sticks_31 : decode cX11_sticks 31 = .ok (.iload_n 2, 1) := by decide +kernel
theorem dX11_sticks_32 : decode cX11_sticks 32 = .ok (.iconst 1, 1) := by decide +kernel
theorem dX11_sticks_33 : decode cX11_sticks 33 = .ok (.if_icmp .ne 14, 3) := by decide +kernel
theorem dX11_sticks_36 : decode cX11_sticks 36 = .ok (.aload_n 0, 1) := by decide +kernel
theorem dX11_sticks_37 : decode cX11_sticks 37 = .ok (.getfield 277, 3) := by decide +kernel
theorem dX11_sticks_40 : decode cX11_sticks 40 = .ok (.iconst 1, 1) := by decide +kernel
theorem dX11_sticks_41 : decode cX11_sticks 41 = .ok (.iload_n 1, 1) := by decide +kernel
theorem dX11_sticks_42 : decode cX11_sticks 42 = .ok (.ishl, 1) := by decide +kernel
theorem dX11_sticks_43 : decode cX11_sticks 43 = .ok (.ior, 1) := by decide +kernel
theorem dX11_sticks_44 : decode cX11_sticks 44 = .ok (.goto 13, 3) := by decide +kernel
theorem dX11_sticks_47 : decode cX11_sticks 47 = .ok (.aload_n 0, 1) := by decide +kernel
theorem dX11_sticks_48 : decode cX11_sticks 48 = .ok (.getfield 277, 3) := by decide +kernel
theorem dX11_sticks_51 : decode cX11_sticks 51 = .ok (.iconst 1, 1) := by decide +kernel
theorem dX11_sticks_52 : decode cX11_sticks 52 = .ok (.iload_n 1, 1) := by decide +kernel
theorem dX11_sticks_53 : decode cX11_sticks 53 = .ok (.ishl, 1) := by decide +kernel
theorem dX11_sticks_54 : decode cX11_sticks 54 = .ok (.iconst (-1), 1) := by decide +kernel
theorem dX11_sticks_55 : decode cX11_sticks 55 = .ok (.ixor, 1) := by decide +kernel
theorem dX11_sticks_56 : decode cX11_sticks 56 = .ok (.iand, 1) := by decide +kernel
theorem dX11_sticks_57 : decode cX11_sticks 57 = .ok (.putfield 277, 3) := by decide +kernel
theorem dX11_sticks_60 : decode cX11_sticks 60 = .ok (.iload_n 2, 1) := by decide +kernel
theorem dX11_sticks_61 : decode cX11_sticks 61 = .ok (.iconst 2, 1) := by decide +kernel
theorem dX11_sticks_62 : decode cX11_sticks 62 = .ok (.if_icmp .ge 33, 3) := by decide +kernel
theorem dX11_sticks_65 : decode cX11_sticks 65 = .ok (.aload_n 0, 1) := by decide +kernel
theorem dX11_sticks_66 : decode cX11_sticks 66 = .ok (.iload_n 2, 1) := by decide +kernel
theorem dX11_sticks_67 : decode cX11_sticks 67 = .ok (.iconst 1, 1) := by decide +kernel
theorem dX11_sticks_68 : decode cX11_sticks 68 = .ok (.if_icmp .ne 14, 3) := by decide +kernel
theorem dX11_sticks_71 : decode cX11_sticks 71 = .ok (.aload_n 0, 1) := by decide +kernel
theorem dX11_sticks_72 : decode cX11_sticks 72 = .ok (.getfield 271, 3) := by decide +kernel
theorem dX11_sticks_75 : decode cX11_sticks 75 = .ok (.iconst 1, 1) := by decide +kernel
theorem dX11_sticks_76 : decode cX11_sticks 76 = .ok (.iload_n 1, 1) := by decide +kernel
theorem dX11_sticks_77 : decode cX11_sticks 77 = .ok (.ishl, 1) := by decide +kernel
theorem dX11_sticks_78 : decode cX11_sticks 78 = .ok (.ior, 1) := by decide +kernel
theorem dX11_sticks_79 : decode cX11_sticks 79 = .ok (.goto 13, 3) := by decide +kernel
theorem dX11_sticks_82 : decode cX11_sticks 82 = .ok (.aload_n 0, 1) := by decide +kernel
theorem dX11_sticks_83 : decode cX11_sticks 83 = .ok (.getfield 271, 3) := by decide +kernel
theorem dX11_sticks_86 : decode cX11_sticks 86 = .ok (.iconst 1, 1) := by decide +kernel
theorem dX11_sticks_87 : decode cX11_sticks 87 = .ok (.iload_n 1, 1) := by decide +kernel
theorem dX11_sticks_88 : decode cX11_sticks 88 = .ok (.ishl, 1) := by decide +kernel
theorem dX11_sticks_89 : decode cX11_sticks 89 = .ok (.iconst (-1), 1) := by decide +kernel
theorem dX11_sticks_90 : decode cX11_sticks 90 = .ok (.ixor, 1) := by decide +kernel
theorem dX11_sticks_91 : decode cX11_sticks 91 = .ok (.iand, 1) := by decide +kernel
theorem dX11_sticks_92 : decode cX11_sticks 92 = .ok (.putfield 271, 3) := by decide +kernel
theorem dX11_sticks_95 : decode cX11_sticks 95 = .ok (.return_, 1) := by decide +kernel
theorem dX11_stick_0 : decode cX11_stick 0 = .ok (.aload_n 0, 1) := by decide +kernel
theorem dX11_stick_1 : decode cX11_stick 1 = .ok (.iconst 0, 1) := by decide +kernel
theorem dX11_stick_2 : decode cX11_stick 2 = .ok (.putfield 130, 3) := by decide +kernel
theorem dX11_stick_5 : decode cX11_stick 5 = .ok (.iload_n 1, 1) := by decide +kernel
theorem dX11_stick_6 : decode cX11_stick 6 = .ok (.ifCond .lt 20, 3) := by decide +kernel
theorem dX11_stick_9 : decode cX11_stick 9 = .ok (.iload_n 1, 1) := by decide +kernel
theorem dX11_stick_10 : decode cX11_stick 10 = .ok (.aload_n 0, 1) := by decide +kernel
theorem dX11_stick_11 : decode cX11_stick 11 = .ok (.getfield 265, 3) := by decide +kernel
theorem dX11_stick_14 : decode cX11_stick 14 = .ok (.if_icmp .ge 12, 3) := by decide +kernel
theorem dX11_stick_17 : decode cX11_stick 17 = .ok (.iload_n 2, 1) := by decide +kernel
theorem dX11_stick_18 : decode cX11_stick 18 = .ok (.iconst 0, 1) := by decide +kernel
theorem dX11_stick_19 : decode cX11_stick 19 = .ok (.iconst 2, 1) := by decide +kernel
theorem dX11_stick_20 : decode cX11_stick 20 = .ok (.invokestatic 317, 3) := by decide +kernel
theorem dX11_stick_23 : decode cX11_stick 23 = .ok (.ifCond .ne 5, 3) := by decide +kernel
theorem dX11_stick_26 : decode cX11_stick 26 = .ok (.iconst 0, 1) := by decide +kernel
theorem dX11_stick_27 : decode cX11_stick 27 = .ok (.ireturn, 1) := by decide +kernel
theorem dX11_stick_28 : decode cX11_stick 28 = .ok (.aload_n 0, 1) := by decide +kernel
theorem dX11_stick_29 : decode cX11_stick 29 = .ok (.iload_n 1, 1) := by decide +kernel
theorem dX11_stick_30 : decode cX11_stick 30 = .ok (.iload_n 2, 1) := by decide +kernel
theorem dX11_stick_31 : decode cX11_stick 31 = .ok (.invokevirtual 421, 3) := by decide +kernel
theorem dX11_stick_34 : decode cX11_stick 34 = .ok (.iconst 1, 1) := by decide +kernel
theorem dX11_stick_35 : decode cX11_stick 35 = .ok (.ireturn, 1) := by decide +kernel
theorem dX11_stuck_0 : decode cX11_stuck 0 = .ok (.aload_n 0, 1) := by decide +kernel
theorem dX11_stuck_1 : decode cX11_stuck 1 = .ok (.iconst 0, 1) := by decide +kernel
theorem dX11_stuck_2 : decode cX11_stuck 2 = .ok (.putfield 130, 3) := by decide +kernel
theorem dX11_stuck_5 : decode cX11_stuck 5 = .ok (.aload_n 0, 1) := by decide +kernel
theorem dX11_stuck_6 : decode cX11_stuck 6 = .ok (.getfield 274, 3) := by decide +kernel
theorem dX11_stuck_9 : decode cX11_stuck 9 = .ok (.ireturn, 1) := by decide +kernel
theorem dX11_same_0 : decode cX11_same 0 = .ok (.aload_n 0, 1) := by decide +kernel
theorem dX11_same_1 : decode cX11_same 1 = .ok (.iconst 0, 1) := by decide +kernel
theorem dX11_same_2 : decode cX11_same 2 = .ok (.putfield 130, 3) := by decide +kernel
theorem dX11_same_5 : decode cX11_same 5 = .ok (.iload_n 1, 1) := by decide +kernel
theorem dX11_same_6 : decode cX11_same 6 = .ok (.iconst 1, 1) := by decide +kernel
theorem dX11_same_7 : decode cX11_same 7 = .ok (.sipush 500, 3) := by decide +kernel
theorem dX11_same_10 : decode cX11_same 10 = .ok (.invokestatic 317, 3) := by decide +kernel
theorem dX11_same_13 : decode cX11_same 13 = .ok (.ifCond .ne 5, 3) := by decide +kernel
theorem dX11_same_16 : decode cX11_same 16 = .ok (.iconst (-1), 1) := by decide +kernel
theorem dX11_same_17 : decode cX11_same 17 = .ok (.ireturn, 1) := by decide +kernel
theorem dX11_same_18 : decode cX11_same 18 = .ok (.aload_n 0, 1) := by decide +kernel
theorem dX11_same_19 : decode cX11_same 19 = .ok (.iconst 4, 1) := by decide +kernel
theorem dX11_same_20 : decode cX11_same 20 = .ok (.invokevirtual 358, 3) := by decide +kernel
theorem dX11_same_23 : decode cX11_same 23 = .ok (.aload_n 0, 1) := by decide +kernel
theorem dX11_same_24 : decode cX11_same 24 = .ok (.aload_n 0, 1) := by decide +kernel
theorem dX11_same_25 : decode cX11_same 25 = .ok (.getfield 274, 3) := by decide +kernel
theorem dX11_same_28 : decode cX11_same 28 = .ok (.aload_n 0, 1) := by decide +kernel
theorem dX11_same_29 : decode cX11_same 29 = .ok (.getfield 277, 3) := by decide +kernel
theorem dX11_same_32 : decode cX11_same 32 = .ok (.iand, 1) := by decide +kernel
theorem dX11_same_33 : decode cX11_same 33 = .ok (.putfield 271, 3) := by decide +kernel
theorem dX11_same_36 : decode cX11_same 36 = .ok (.aload_n 0, 1) := by decide +kernel
theorem dX11_same_37 : decode cX11_same 37 = .ok (.iconst 5, 1) := by decide +kernel
theorem dX11_same_38 : decode cX11_same 38 = .ok (.invokevirtual 358, 3) := by decide +kernel
theorem dX11_same_41 : decode cX11_same 41 = .ok (.aload_n 0, 1) := by decide +kernel
theorem dX11_same_42 : decode cX11_same 42 = .ok (.bipush 6, 2) := by decide +kernel
theorem dX11_same_44 : decode cX11_same 44 = .ok (.invokevirtual 358, 3) := by decide +kernel
theorem dX11_same_47 : decode cX11_same 47 = .ok (.iconst 0, 1) := by decide +kernel
theorem dX11_same_48 : decode cX11_same 48 = .ok (.istore_n 2, 1) := by decide +kernel
theorem dX11_same_49 : decode cX11_same 49 = .ok (.iconst 1, 1) := by decide +kernel
theorem dX11_same_50 : decode cX11_same 50 = .ok (.istore_n 3, 1) := by decide +kernel
theorem dX11_same_51 : decode cX11_same 51 = .ok (.iload_n 3, 1) := by decide +kernel
theorem dX11_same_52 : decode cX11_same 52 = .ok (.iload_n 1, 1) := by decide +kernel
theorem dX11_same_53 : decode cX11_same 53 = .ok (.if_icmp .gt 171, 3) := by decide +kernel
theorem dX11_same_56 : decode cX11_same 56 = .ok (.iload_n 2, 1) := by decide +kernel
theorem dX11_same_57 : decode cX11_same 57 = .ok (.ifCond .ne 167, 3) := by decide +kernel
theorem dX11_same_60 : decode cX11_same 60 = .ok (.aload_n 0, 1) := by decide +kernel
theorem dX11_same_61 : decode cX11_same 61 = .ok (.iconst 5, 1) := by decide +kernel
theorem dX11_same_62 : decode cX11_same 62 = .ok (.invokevirtual 361, 3) := by decide +kernel
theorem dX11_same_65 : decode cX11_same 65 = .ok (.aload_n 0, 1) := by decide +kernel
theorem dX11_same_66 : decode cX11_same 66 = .ok (.invokevirtual 409, 3) := by decide +kernel
theorem dX11_same_69 : decode cX11_same 69 = .ok (.aload_n 0, 1) := by decide +kernel
theorem dX11_same_70 : decode cX11_same 70 = .ok (.iconst 5, 1) := by decide +kernel
theorem dX11_same_71 : decode cX11_same 71 = .ok (.invokevirtual 358, 3) := by decide +kernel
theorem dX11_same_74 : decode cX11_same 74 = .ok (.iconst 4, 1) := by decide +kernel
theorem dX11_same_75 : decode cX11_same 75 = .ok (.aload_n 0, 1) := by decide +kernel
theorem dX11_same_76 : decode cX11_same 76 = .ok (.getfield 295, 3) := by decide +kernel
theorem dX11_same_79 : decode cX11_same 79 = .ok (.imul, 1) := by decide +kernel
theorem dX11_same_80 : decode cX11_same 80 = .ok (.aload_n 0, 1) := by decide +kernel
theorem dX11_same_81 : decode cX11_same 81 = .ok (.getfield 298, 3) := by decide +kernel
theorem dX11_same_84 : decode cX11_same 84 = .ok (.iadd, 1) := by decide +kernel
theorem dX11_same_85 : decode cX11_same 85 = .ok (.istore 4, 2) := by decide +kernel
theorem dX11_same_87 : decode cX11_same 87 = .ok (.iconst 0, 1) := by decide +kernel
theorem dX11_same_88 : decode cX11_same 88 = .ok (.istore 5, 2) := by decide +kernel
theorem dX11_same_90 : decode cX11_same 90 = .ok (.iload 5, 2) := by decide +kernel
theorem dX11_same_92 : decode cX11_same 92 = .ok (.aload_n 0, 1) := by decide +kernel
theorem dX11_same_93 : decode cX11_same 93 = .ok (.invokevirtual 289, 3) := by decide +kernel
theorem dX11_same_96 : decode cX11_same 96 = .ok (.if_icmp .ge 23, 3) := by decide +kernel
theorem dX11_same_99 : decode cX11_same 99 = .ok (.aload_n 0, 1) := by decide +kernel
theorem dX11_same_100 : decode cX11_same 100 = .ok (.getfield 120, 3) := by decide +kernel
theorem dX11_same_103 : decode cX11_same 103 = .ok (.iload 5, 2) := by decide +kernel
theorem dX11_same_105 : decode cX11_same 105 = .ok (.aload_n 0, 1) := by decide +kernel
theorem dX11_same_106 : decode cX11_same 106 = .ok (.getfield 72, 3) := by decide +kernel
theorem dX11_same_109 : decode cX11_same 109 = .ok (.iload 5, 2) := by decide +kernel
theorem dX11_same_111 : decode cX11_same 111 = .ok (.iaload, 1) := by decide +kernel
theorem dX11_same_112 : decode cX11_same 112 = .ok (.iastore, 1) := by decide +kernel
theorem dX11_same_113 : decode cX11_same 113 = .ok (.iinc 5 1, 3) := by decide +kernel
theorem dX11_same_116 : decode cX11_same 116 = .ok (.goto (-26), 3) := by decide +kernel
theorem dX11_same_119 : decode cX11_same 119 = .ok (.aload_n 0, 1) := by decide +kernel
theorem dX11_same_120 : decode cX11_same 120 = .ok (.bipush 6, 2) := by decide +kernel
theorem dX11_same_122 : decode cX11_same 122 = .ok (.invokevirtual 361, 3) := by decide +kernel
theorem dX11_same_125 : decode cX11_same 125 = .ok (.aload_n 0, 1) := by decide +kernel
theorem dX11_same_126 : decode cX11_same 126 = .ok (.invokevirtual 349, 3) := by decide +kernel
theorem dX11_same_129 : decode cX11_same 129 = .ok (.istore 5, 2) := by decide +kernel
theorem dX11_same_131 : decode cX11_same 131 = .ok (.aload_n 0, 1) := by decide +kernel
theorem dX11_same_132 : decode cX11_same 132 = .ok (.bipush 6, 2) := by decide +kernel
theorem dX11_same_134 : decode cX11_same 134 = .ok (.invokevirtual 358, 3) := by decide +kernel
theorem dX11_same_137 : decode cX11_same 137 = .ok (.iconst 4, 1) := by decide +kernel
theorem dX11_same_138 : decode cX11_same 138 = .ok (.aload_n 0, 1) := by decide +kernel
theorem dX11_same_139 : decode cX11_same 139 = .ok (.getfield 295, 3) := by decide +kernel
theorem dX11_same_142 : decode cX11_same 142 = .ok (.imul, 1) := by decide +kernel
theorem dX11_same_143 : decode cX11_same 143 = .ok (.aload_n 0, 1) := by decide +kernel
theorem dX11_same_144 : decode cX11_same 144 = .ok (.getfield 298, 3) := by decide +kernel
theorem dX11_same_147 : decode cX11_same 147 = .ok (.iadd, 1) := by decide +kernel
theorem dX11_same_148 : decode cX11_same 148 = .ok (.iload 4, 2) := by decide +kernel
theorem dX11_same_150 : decode cX11_same 150 = .ok (.if_icmp .eq 7, 3) := by decide +kernel
theorem dX11_same_153 : decode cX11_same 153 = .ok (.iconst 1, 1) := by decide +kernel
theorem dX11_same_154 : decode cX11_same 154 = .ok (.goto 4, 3) := by decide +kernel
theorem dX11_same_157 : decode cX11_same 157 = .ok (.iconst 0, 1) := by decide +kernel
theorem dX11_same_158 : decode cX11_same 158 = .ok (.istore 6, 2) := by decide +kernel
theorem dX11_same_160 : decode cX11_same 160 = .ok (.iconst 0, 1) := by decide +kernel
theorem dX11_same_161 : decode cX11_same 161 = .ok (.istore 7, 2) := by decide +kernel
theorem dX11_same_163 : decode cX11_same 163 = .ok (.iload 7, 2) := by decide +kernel
theorem dX11_same_165 : decode cX11_same 165 = .ok (.aload_n 0, 1) := by decide +kernel
theorem dX11_same_166 : decode cX11_same 166 = .ok (.invokevirtual 289, 3) := by decide +kernel
theorem dX11_same_169 : decode cX11_same 169 = .ok (.if_icmp .ge 38, 3) := by decide +kernel
theorem dX11_same_172 : decode cX11_same 172 = .ok (.iload 6, 2) := by decide +kernel
theorem dX11_same_174 : decode cX11_same 174 = .ok (.ifCond .ne 20, 3) := by decide +kernel
theorem dX11_same_177 : decode cX11_same 177 = .ok (.aload_n 0, 1) := by decide +kernel
theorem dX11_same_178 : decode cX11_same 178 = .ok (.getfield 72, 3) := by decide +kernel
theorem dX11_same_181 : decode cX11_same 181 = .ok (.iload 7, 2) := by decide +kernel
theorem dX11_same_183 : decode cX11_same 183 = .ok (.iaload, 1) := by decide +kernel
theorem dX11_same_184 : decode cX11_same 184 = .ok (.aload_n 0, 1) := by decide +kernel
theorem dX11_same_185 : decode cX11_same 185 = .ok (.getfield 120, 3) := by decide +kernel
theorem dX11_same_188 : decode cX11_same 188 = .ok (.iload 7, 2) := by decide +kernel
theorem dX11_same_190 : decode cX11_same 190 = .ok (.iaload, 1) := by decide +kernel
theorem dX11_same_191 : decode cX11_same 191 = .ok (.if_icmp .eq 7, 3) := by decide +kernel
theorem dX11_same_194 : decode cX11_same 194 = .ok (.iconst 1, 1) := by decide +kernel
theorem dX11_same_195 : decode cX11_same 195 = .ok (.goto 4, 3) := by decide +kernel
theorem dX11_same_198 : decode cX11_same 198 = .ok (.iconst 0, 1) := by decide +kernel
theorem dX11_same_199 : decode cX11_same 199 = .ok (.istore 6, 2) := by decide +kernel
theorem dX11_same_201 : decode cX11_same 201 = .ok (.iinc 7 1, 3) := by decide +kernel
theorem dX11_same_204 : decode cX11_same 204 = .ok (.goto (-41), 3) := by decide +kernel
theorem dX11_same_207 : decode cX11_same 207 = .ok (.iload 6, 2) := by decide +kernel
theorem dX11_same_209 : decode cX11_same 209 = .ok (.ifCond .eq 7, 3) := by decide +kernel
theorem dX11_same_212 : decode cX11_same 212 = .ok (.iload_n 3, 1) := by decide +kernel
theorem dX11_same_213 : decode cX11_same 213 = .ok (.goto 4, 3) := by decide +kernel
theorem dX11_same_216 : decode cX11_same 216 = .ok (.iconst 0, 1) := by decide +kernel
theorem dX11_same_217 : decode cX11_same 217 = .ok (.istore_n 2, 1) := by decide +kernel
theorem dX11_same_218 : decode cX11_same 218 = .ok (.iinc 3 1, 3) := by decide +kernel
theorem dX11_same_221 : decode cX11_same 221 = .ok (.goto (-170), 3) := by decide +kernel
theorem dX11_same_224 : decode cX11_same 224 = .ok (.aload_n 0, 1) := by decide +kernel
theorem dX11_same_225 : decode cX11_same 225 = .ok (.iconst 4, 1) := by decide +kernel
theorem dX11_same_226 : decode cX11_same 226 = .ok (.invokevirtual 361, 3) := by decide +kernel
theorem dX11_same_229 : decode cX11_same 229 = .ok (.iload_n 2, 1) := by decide +kernel
theorem dX11_same_230 : decode cX11_same 230 = .ok (.ireturn, 1) := by decide +kernel
theorem dX11_layLike_0 : decode cX11_layLike 0 = .ok (.aload_n 0, 1) := by decide +kernel
theorem dX11_layLike_1 : decode cX11_layLike 1 = .ok (.iconst 4, 1) := by decide +kernel
theorem dX11_layLike_2 : decode cX11_layLike 2 = .ok (.invokevirtual 361, 3) := by decide +kernel
theorem dX11_layLike_5 : decode cX11_layLike 5 = .ok (.aload_n 0, 1) := by decide +kernel
theorem dX11_layLike_6 : decode cX11_layLike 6 = .ok (.aload_n 0, 1) := by decide +kernel
theorem dX11_layLike_7 : decode cX11_layLike 7 = .ok (.getfield 274, 3) := by decide +kernel
theorem dX11_layLike_10 : decode cX11_layLike 10 = .ok (.aload_n 0, 1) := by decide +kernel
theorem dX11_layLike_11 : decode cX11_layLike 11 = .ok (.getfield 277, 3) := by decide +kernel
theorem dX11_layLike_14 : decode cX11_layLike 14 = .ok (.iand, 1) := by decide +kernel
theorem dX11_layLike_15 : decode cX11_layLike 15 = .ok (.putfield 271, 3) := by decide +kernel
theorem dX11_layLike_18 : decode cX11_layLike 18 = .ok (.iconst 0, 1) := by decide +kernel
theorem dX11_layLike_19 : decode cX11_layLike 19 = .ok (.istore_n 2, 1) := by decide +kernel
theorem dX11_layLike_20 : decode cX11_layLike 20 = .ok (.iload_n 2, 1) := by decide +kernel
theorem dX11_layLike_21 : decode cX11_layLike 21 = .ok (.iload_n 1, 1) := by decide +kernel
theorem dX11_layLike_22 : decode cX11_layLike 22 = .ok (.if_icmp .ge 30, 3) := by decide +kernel
theorem dX11_layLike_25 : decode cX11_layLike 25 = .ok (.aload_n 0, 1) := by decide +kernel
theorem dX11_layLike_26 : decode cX11_layLike 26 = .ok (.invokevirtual 409, 3) := by decide +kernel
theorem dX11_layLike_29 : decode cX11_layLike 29 = .ok (.aload_n 0, 1) := by decide +kernel
theorem dX11_layLike_30 : decode cX11_layLike 30 = .ok (.getfield 123, 3) := by decide +kernel
theorem dX11_layLike_33 : decode cX11_layLike 33 = .ok (.iload_n 2, 1) := by decide +kernel
theorem dX11_layLike_34 : decode cX11_layLike 34 = .ok (.iconst 4, 1) := by decide +kernel
theorem dX11_layLike_35 : decode cX11_layLike 35 = .ok (.aload_n 0, 1) := by decide +kernel
theorem dX11_layLike_36 : decode cX11_layLike 36 = .ok (.getfield 295, 3) := by decide +kernel
theorem dX11_layLike_39 : decode cX11_layLike 39 = .ok (.imul, 1) := by decide +kernel
theorem dX11_layLike_40 : decode cX11_layLike 40 = .ok (.aload_n 0, 1) := by decide +kernel
theorem dX11_layLike_41 : decode cX11_layLike 41 = .ok (.getfield 298, 3) := by decide +kernel
theorem dX11_layLike_44 : decode cX11_layLike 44 = .ok (.iadd, 1) := by decide +kernel
theorem dX11_layLike_45 : decode cX11_layLike 45 = .ok (.iastore, 1) := by decide +kernel
theorem dX11_layLike_46 : decode cX11_layLike 46 = .ok (.iinc 2 1, 3) := by decide +kernel
theorem dX11_layLike_49 : decode cX11_layLike 49 = .ok (.goto (-29), 3) := by decide +kernel
theorem dX11_layLike_52 : decode cX11_layLike 52 = .ok (.return_, 1) := by decide +kernel
theorem dX11_isLike_0 : decode cX11_isLike 0 = .ok (.aload_n 0, 1) := by decide +kernel
theorem dX11_isLike_1 : decode cX11_isLike 1 = .ok (.iconst 4, 1) := by decide +kernel
theorem dX11_isLike_2 : decode cX11_isLike 2 = .ok (.invokevirtual 361, 3) := by decide +kernel
theorem dX11_isLike_5 : decode cX11_isLike 5 = .ok (.aload_n 0, 1) := by decide +kernel
theorem dX11_isLike_6 : decode cX11_isLike 6 = .ok (.aload_n 0, 1) := by decide +kernel
theorem dX11_isLike_7 : decode cX11_isLike 7 = .ok (.getfield 274, 3) := by decide +kernel
theorem dX11_isLike_10 : decode cX11_isLike 10 = .ok (.aload_n 0, 1) := by decide +kernel
theorem dX11_isLike_11 : decode cX11_isLike 11 = .ok (.getfield 277, 3) := by decide +kernel
theorem dX11_isLike_14 : decode cX11_isLike 14 = .ok (.iand, 1) := by decide +kernel
theorem dX11_isLike_15 : decode cX11_isLike 15 = .ok (.putfield 271, 3) := by decide +kernel
theorem dX11_isLike_18 : decode cX11_isLike 18 = .ok (.iconst 1, 1) := by decide +kernel
theorem dX11_isLike_19 : decode cX11_isLike 19 = .ok (.istore_n 2, 1) := by decide +kernel
theorem dX11_isLike_20 : decode cX11_isLike 20 = .ok (.iconst 0, 1) := by decide +kernel
theorem dX11_isLike_21 : decode cX11_isLike 21 = .ok (.istore_n 3, 1) := by decide +kernel
theorem dX11_isLike_22 : decode cX11_isLike 22 = .ok (.iload_n 3, 1) := by decide +kernel
theorem dX11_isLike_23 : decode cX11_isLike 23 = .ok (.iload_n 1, 1) := by decide +kernel
theorem dX11_isLike_24 : decode cX11_isLike 24 = .ok (.if_icmp .ge 43, 3) := by decide +kernel
theorem dX11_isLike_27 : decode cX11_isLike 27 = .ok (.iload_n 2, 1) := by decide +kernel
theorem dX11_isLike_28 : decode cX11_isLike 28 = .ok (.ifCond .eq 39, 3) := by decide +kernel
theorem dX11_isLike_31 : decode cX11_isLike 31 = .ok (.aload_n 0, 1) := by decide +kernel
theorem dX11_isLike_32 : decode cX11_isLike 32 = .ok (.invokevirtual 409, 3) := by decide +kernel
theorem dX11_isLike_35 : decode cX11_isLike 35 = .ok (.aload_n 0, 1) := by decide +kernel
theorem dX11_isLike_36 : decode cX11_isLike 36 = .ok (.getfield 123, 3) := by decide +kernel
theorem dX11_isLike_39 : decode cX11_isLike 39 = .ok (.iload_n 3, 1) := by decide +kernel
theorem dX11_isLike_40 : decode cX11_isLike 40 = .ok (.iaload, 1) := by decide +kernel
theorem dX11_isLike_41 : decode cX11_isLike 41 = .ok (.iconst 4, 1) := by decide +kernel
theorem dX11_isLike_42 : decode cX11_isLike 42 = .ok (.aload_n 0, 1) := by decide +kernel
theorem dX11_isLike_43 : decode cX11_isLike 43 = .ok (.getfield 295, 3) := by decide +kernel
theorem dX11_isLike_46 : decode cX11_isLike 46 = .ok (.imul, 1) := by decide +kernel
theorem dX11_isLike_47 : decode cX11_isLike 47 = .ok (.aload_n 0, 1) := by decide +kernel
theorem dX11_isLike_48 : decode cX11_isLike 48 = .ok (.getfield 298, 3) := by decide +kernel
theorem dX11_isLike_51 : decode cX11_isLike 51 = .ok (.iadd, 1) := by decide +kernel
theorem dX11_isLike_52 : decode cX11_isLike 52 = .ok (.if_icmp .ne 7, 3) := by decide +kernel
theorem dX11_isLike_55 : decode cX11_isLike 55 = .ok (.iconst 1, 1) := by decide +kernel
theorem dX11_isLike_56 : decode cX11_isLike 56 = .ok (.goto 4, 3) := by decide +kernel
theorem dX11_isLike_59 : decode cX11_isLike 59 = .ok (.iconst 0, 1) := by decide +kernel
theorem dX11_isLike_60 : decode cX11_isLike 60 = .ok (.istore_n 2, 1) := by decide +kernel
theorem dX11_isLike_61 : decode cX11_isLike 61 = .ok (.iinc 3 1, 3) := by decide +kernel
theorem dX11_isLike_64 : decode cX11_isLike 64 = .ok (.goto (-42), 3) := by decide +kernel
theorem dX11_isLike_67 : decode cX11_isLike 67 = .ok (.iload_n 2, 1) := by decide +kernel
theorem dX11_isLike_68 : decode cX11_isLike 68 = .ok (.ireturn, 1) := by decide +kernel
theorem dX11_laySuspects_0 : decode cX11_laySuspects 0 = .ok (.aload_n 0, 1) := by decide +kernel
theorem dX11_laySuspects_1 : decode cX11_laySuspects 1 = .ok (.getfield 274, 3) := by decide +kernel
theorem dX11_laySuspects_4 : decode cX11_laySuspects 4 = .ok (.istore 4, 2) := by decide +kernel
theorem dX11_laySuspects_6 : decode cX11_laySuspects 6 = .ok (.aload_n 0, 1) := by decide +kernel
theorem dX11_laySuspects_7 : decode cX11_laySuspects 7 = .ok (.getfield 277, 3) := by decide +kernel
theorem dX11_laySuspects_10 : decode cX11_laySuspects 10 = .ok (.istore 5, 2) := by decide +kernel
theorem dX11_laySuspects_12 : decode cX11_laySuspects 12 = .ok (.aload_n 0, 1) := by decide +kernel
theorem dX11_laySuspects_13 : decode cX11_laySuspects 13 = .ok (.iload_n 1, 1) := by decide +kernel
theorem dX11_laySuspects_14 : decode cX11_laySuspects 14 = .ok (.invokevirtual 424, 3) := by decide +kernel
theorem dX11_laySuspects_17 : decode cX11_laySuspects 17 = .ok (.aload_n 0, 1) := by decide +kernel
theorem dX11_laySuspects_18 : decode cX11_laySuspects 18 = .ok (.iconst 0, 1) := by decide +kernel
theorem dX11_laySuspects_19 : decode cX11_laySuspects 19 = .ok (.putfield 427, 3) := by decide +kernel
theorem dX11_laySuspects_22 : decode cX11_laySuspects 22 = .ok (.aload_n 0, 1) := by decide +kernel
theorem dX11_laySuspects_23 : decode cX11_laySuspects 23 = .ok (.iconst 0, 1) := by decide +kernel
theorem dX11_laySuspects_24 : decode cX11_laySuspects 24 = .ok (.putfield 430, 3) := by decide +kernel
theorem dX11_laySuspects_27 : decode cX11_laySuspects 27 = .ok (.iconst 0, 1) := by decide +kernel
theorem dX11_laySuspects_28 : decode cX11_laySuspects 28 = .ok (.istore 6, 2) := by decide +kernel
theorem dX11_laySuspects_30 : decode cX11_laySuspects 30 = .ok (.iload 6, 2) := by decide +kernel
theorem dX11_laySuspects_32 : decode cX11_laySuspects 32 = .ok (.aload_n 0, 1) := by decide +kernel
theorem dX11_laySuspects_33 : decode cX11_laySuspects 33 = .ok (.getfield 265, 3) := by decide +kernel
theorem dX11_laySuspects_36 : decode cX11_laySuspects 36 = .ok (.if_icmp .ge 107, 3) := by decide +kernel
theorem dX11_laySuspects_39 : decode cX11_laySuspects 39 = .ok (.iconst 0, 1) := by decide +kernel
theorem dX11_laySuspects_40 : decode cX11_laySuspects 40 = .ok (.istore 7, 2) := by decide +kernel
theorem dX11_laySuspects_42 : decode cX11_laySuspects 42 = .ok (.iload 7, 2) := by decide +kernel
theorem dX11_laySuspects_44 : decode cX11_laySuspects 44 = .ok (.iconst 2, 1) := by decide +kernel
theorem dX11_laySuspects_45 : decode cX11_laySuspects 45 = .ok (.if_icmp .ge 92, 3) := by decide +kernel
theorem dX11_laySuspects_48 : decode cX11_laySuspects 48 = .ok (.iload 7, 2) := by decide +kernel
theorem dX11_laySuspects_50 : decode cX11_laySuspects 50 = .ok (.ifCond .ne 7, 3) := by decide +kernel
theorem dX11_laySuspects_53 : decode cX11_laySuspects 53 = .ok (.iload_n 2, 1) := by decide +kernel
theorem dX11_laySuspects_54 : decode cX11_laySuspects 54 = .ok (.goto 4, 3) := by decide +kernel
theorem dX11_laySuspects_57 : decode cX11_laySuspects 57 = .ok (.iload_n 3, 1) := by decide +kernel
theorem dX11_laySuspects_58 : decode cX11_laySuspects 58 = .ok (.iload 6, 2) := by decide +kernel
theorem dX11_laySuspects_60 : decode cX11_laySuspects 60 = .ok (.invokestatic 310, 3) := by decide +kernel
theorem dX11_laySuspects_63 : decode cX11_laySuspects 63 = .ok (.ifCond .ne 6, 3) := by decide +kernel
theorem dX11_laySuspects_66 : decode cX11_laySuspects 66 = .ok (.goto 65, 3) := by decide +kernel
theorem dX11_laySuspects_69 : decode cX11_laySuspects 69 = .ok (.aload_n 0, 1) := by decide +kernel
theorem dX11_laySuspects_70 : decode cX11_laySuspects 70 = .ok (.iconst 1, 1) := by decide +kernel
theorem dX11_laySuspects_71 : decode cX11_laySuspects 71 = .ok (.iload 6, 2) := by decide +kernel
theorem dX11_laySuspects_73 : decode cX11_laySuspects 73 = .ok (.ishl, 1) := by decide +kernel
theorem dX11_laySuspects_74 : decode cX11_laySuspects 74 = .ok (.putfield 274, 3) := by decide +kernel
theorem dX11_laySuspects_77 : decode cX11_laySuspects 77 = .ok (.aload_n 0, 1) := by decide +kernel
theorem dX11_laySuspects_78 : decode cX11_laySuspects 78 = .ok (.iload 7, 2) := by decide +kernel
theorem dX11_laySuspects_80 : decode cX11_laySuspects 80 = .ok (.iload 6, 2) := by decide +kernel
theorem dX11_laySuspects_82 : decode cX11_laySuspects 82 = .ok (.ishl, 1) := by decide +kernel
theorem dX11_laySuspects_83 : decode cX11_laySuspects 83 = .ok (.putfield 277, 3) := by decide +kernel
theorem dX11_laySuspects_86 : decode cX11_laySuspects 86 = .ok (.aload_n 0, 1) := by decide +kernel
theorem dX11_laySuspects_87 : decode cX11_laySuspects 87 = .ok (.iload_n 1, 1) := by decide +kernel
theorem dX11_laySuspects_88 : decode cX11_laySuspects 88 = .ok (.invokevirtual 433, 3) := by decide +kernel
theorem dX11_laySuspects_91 : decode cX11_laySuspects 91 = .ok (.ifCond .ne 6, 3) := by decide +kernel
theorem dX11_laySuspects_94 : decode cX11_laySuspects 94 = .ok (.goto 37, 3) := by decide +kernel
theorem dX11_laySuspects_97 : decode cX11_laySuspects 97 = .ok (.iload 7, 2) := by decide +kernel
theorem dX11_laySuspects_99 : decode cX11_laySuspects 99 = .ok (.ifCond .ne 19, 3) := by decide +kernel
theorem dX11_laySuspects_102 : decode cX11_laySuspects 102 = .ok (.aload_n 0, 1) := by decide +kernel
theorem dX11_laySuspects_103 : decode cX11_laySuspects 103 = .ok (.dup, 1) := by decide +kernel
theorem dX11_laySuspects_104 : decode cX11_laySuspects 104 = .ok (.getfield 427, 3) := by decide +kernel
theorem dX11_laySuspects_107 : decode cX11_laySuspects 107 = .ok (.iconst 1, 1) := by decide +kernel
theorem dX11_laySuspects_108 : decode cX11_laySuspects 108 = .ok (.iload 6, 2) := by decide +kernel
theorem dX11_laySuspects_110 : decode cX11_laySuspects 110 = .ok (.ishl, 1) := by decide +kernel
theorem dX11_laySuspects_111 : decode cX11_laySuspects 111 = .ok (.ior, 1) := by decide +kernel
theorem dX11_laySuspects_112 : decode cX11_laySuspects 112 = .ok (.putfield 427, 3) := by decide +kernel
theorem dX11_laySuspects_115 : decode cX11_laySuspects 115 = .ok (.goto 16, 3) := by decide +kernel
theorem dX11_laySuspects_118 : decode cX11_laySuspects 118 = .ok (.aload_n 0, 1) := by decide +kernel
theorem dX11_laySuspects_119 : decode cX11_laySuspects 119 = .ok (.dup, 1) := by decide +kernel
theorem dX11_laySuspects_120 : decode cX11_laySuspects 120 = .ok (.getfield 430, 3) := by decide +kernel
theorem dX11_laySuspects_123 : decode cX11_laySuspects 123 = .ok (.iconst 1, 1) := by decide +kernel
theorem dX11_laySuspects_124 : decode cX11_laySuspects 124 = .ok (.iload 6, 2) := by decide +kernel
theorem dX11_laySuspects_126 : decode cX11_laySuspects 126 = .ok (.ishl, 1) := by decide +kernel
theorem dX11_laySuspects_127 : decode cX11_laySuspects 127 = .ok (.ior, 1) := by decide +kernel
theorem dX11_laySuspects_128 : decode cX11_laySuspects 128 = .ok (.putfield 430, 3) := by decide +kernel
theorem dX11_laySuspects_131 : decode cX11_laySuspects 131 = .ok (.iinc 7 1, 3) := by decide +kernel
theorem dX11_laySuspects_134 : decode cX11_laySuspects 134 = .ok (.goto (-92), 3) := by decide +kernel
theorem dX11_laySuspects_137 : decode cX11_laySuspects 137 = .ok (.iinc 6 1, 3) := by decide +kernel
theorem dX11_laySuspects_140 : decode cX11_laySuspects 140 = .ok (.goto (-110), 3) := by decide +kernel
theorem dX11_laySuspects_143 : decode cX11_laySuspects 143 = .ok (.aload_n 0, 1) := by decide +kernel
theorem dX11_laySuspects_144 : decode cX11_laySuspects 144 = .ok (.iload 4, 2) := by decide +kernel
theorem dX11_laySuspects_146 : decode cX11_laySuspects 146 = .ok (.putfield 274, 3) := by decide +kernel
theorem dX11_laySuspects_149 : decode cX11_laySuspects 149 = .ok (.aload_n 0, 1) := by decide +kernel
theorem dX11_laySuspects_150 : decode cX11_laySuspects 150 = .ok (.iload 5, 2) := by decide +kernel
theorem dX11_laySuspects_152 : decode cX11_laySuspects 152 = .ok (.putfield 277, 3) := by decide +kernel
theorem dX11_laySuspects_155 : decode cX11_laySuspects 155 = .ok (.aload_n 0, 1) := by decide +kernel
theorem dX11_laySuspects_156 : decode cX11_laySuspects 156 = .ok (.iconst 4, 1) := by decide +kernel
theorem dX11_laySuspects_157 : decode cX11_laySuspects 157 = .ok (.invokevirtual 361, 3) := by decide +kernel
theorem dX11_laySuspects_160 : decode cX11_laySuspects 160 = .ok (.return_, 1) := by decide +kernel
theorem dX11_isSound_0 : decode cX11_isSound 0 = .ok (.aload_n 0, 1) := by decide +kernel
theorem dX11_isSound_1 : decode cX11_isSound 1 = .ok (.getfield 274, 3) := by decide +kernel
theorem dX11_isSound_4 : decode cX11_isSound 4 = .ok (.istore_n 2, 1) := by decide +kernel
theorem dX11_isSound_5 : decode cX11_isSound 5 = .ok (.aload_n 0, 1) := by decide +kernel
theorem dX11_isSound_6 : decode cX11_isSound 6 = .ok (.getfield 277, 3) := by decide +kernel
theorem dX11_isSound_9 : decode cX11_isSound 9 = .ok (.istore_n 3, 1) := by decide +kernel
theorem dX11_isSound_10 : decode cX11_isSound 10 = .ok (.aload_n 0, 1) := by decide +kernel
theorem dX11_isSound_11 : decode cX11_isSound 11 = .ok (.iload_n 1, 1) := by decide +kernel
theorem dX11_isSound_12 : decode cX11_isSound 12 = .ok (.invokevirtual 424, 3) := by decide +kernel
theorem dX11_isSound_15 : decode cX11_isSound 15 = .ok (.aload_n 0, 1) := by decide +kernel
theorem dX11_isSound_16 : decode cX11_isSound 16 = .ok (.iconst 0, 1) := by decide +kernel
theorem dX11_isSound_17 : decode cX11_isSound 17 = .ok (.putfield 274, 3) := by decide +kernel
theorem dX11_isSound_20 : decode cX11_isSound 20 = .ok (.aload_n 0, 1) := by decide +kernel
theorem dX11_isSound_21 : decode cX11_isSound 21 = .ok (.iconst 0, 1) := by decide +kernel
theorem dX11_isSound_22 : decode cX11_isSound 22 = .ok (.putfield 277, 3) := by decide +kernel
theorem dX11_isSound_25 : decode cX11_isSound 25 = .ok (.aload_n 0, 1) := by decide +kernel
theorem dX11_isSound_26 : decode cX11_isSound 26 = .ok (.iload_n 1, 1) := by decide +kernel
theorem dX11_isSound_27 : decode cX11_isSound 27 = .ok (.invokevirtual 433, 3) := by decide +kernel
theorem dX11_isSound_30 : decode cX11_isSound 30 = .ok (.istore 4, 2) := by decide +kernel
theorem dX11_isSound_32 : decode cX11_isSound 32 = .ok (.aload_n 0, 1) := by decide +kernel
theorem dX11_isSound_33 : decode cX11_isSound 33 = .ok (.iload_n 2, 1) := by decide +kernel
theorem dX11_isSound_34 : decode cX11_isSound 34 = .ok (.putfield 274, 3) := by decide +kernel
theorem dX11_isSound_37 : decode cX11_isSound 37 = .ok (.aload_n 0, 1) := by decide +kernel
theorem dX11_isSound_38 : decode cX11_isSound 38 = .ok (.iload_n 3, 1) := by decide +kernel
theorem dX11_isSound_39 : decode cX11_isSound 39 = .ok (.putfield 277, 3) := by decide +kernel
theorem dX11_isSound_42 : decode cX11_isSound 42 = .ok (.aload_n 0, 1) := by decide +kernel
theorem dX11_isSound_43 : decode cX11_isSound 43 = .ok (.iconst 4, 1) := by decide +kernel
theorem dX11_isSound_44 : decode cX11_isSound 44 = .ok (.invokevirtual 361, 3) := by decide +kernel
theorem dX11_isSound_47 : decode cX11_isSound 47 = .ok (.iload 4, 2) := by decide +kernel
theorem dX11_isSound_49 : decode cX11_isSound 49 = .ok (.ireturn, 1) := by decide +kernel
theorem dX11_suspect_0 : decode cX11_suspect 0 = .ok (.aload_n 0, 1) := by decide +kernel
theorem dX11_suspect_1 : decode cX11_suspect 1 = .ok (.iconst 4, 1) := by decide +kernel
theorem dX11_suspect_2 : decode cX11_suspect 2 = .ok (.invokevirtual 358, 3) := by decide +kernel
theorem dX11_suspect_5 : decode cX11_suspect 5 = .ok (.aload_n 0, 1) := by decide +kernel
theorem dX11_suspect_6 : decode cX11_suspect 6 = .ok (.iload_n 1, 1) := by decide +kernel
theorem dX11_suspect_7 : decode cX11_suspect 7 = .ok (.invokevirtual 436, 3) := by decide +kernel
theorem dX11_suspect_10 : decode cX11_suspect 10 = .ok (.ifCond .eq 16, 3) := by decide +kernel
theorem dX11_suspect_13 : decode cX11_suspect 13 = .ok (.aload_n 0, 1) := by decide +kernel
theorem dX11_suspect_14 : decode cX11_suspect 14 = .ok (.iconst 0, 1) := by decide +kernel
theorem dX11_suspect_15 : decode cX11_suspect 15 = .ok (.putfield 427, 3) := by decide +kernel
theorem dX11_suspect_18 : decode cX11_suspect 18 = .ok (.aload_n 0, 1) := by decide +kernel
theorem dX11_suspect_19 : decode cX11_suspect 19 = .ok (.iconst 0, 1) := by decide +kernel
theorem dX11_suspect_20 : decode cX11_suspect 20 = .ok (.putfield 430, 3) := by decide +kernel
theorem dX11_suspect_23 : decode cX11_suspect 23 = .ok (.goto 24, 3) := by decide +kernel
theorem dX11_suspect_26 : decode cX11_suspect 26 = .ok (.aload_n 0, 1) := by decide +kernel
theorem dX11_suspect_27 : decode cX11_suspect 27 = .ok (.iload_n 1, 1) := by decide +kernel
theorem dX11_suspect_28 : decode cX11_suspect 28 = .ok (.iconst 1, 1) := by decide +kernel
theorem dX11_suspect_29 : decode cX11_suspect 29 = .ok (.aload_n 0, 1) := by decide +kernel
theorem dX11_suspect_30 : decode cX11_suspect 30 = .ok (.getfield 265, 3) := by decide +kernel
theorem dX11_suspect_33 : decode cX11_suspect 33 = .ok (.ishl, 1) := by decide +kernel
theorem dX11_suspect_34 : decode cX11_suspect 34 = .ok (.iconst 1, 1) := by decide +kernel
theorem dX11_suspect_35 : decode cX11_suspect 35 = .ok (.isub, 1) := by decide +kernel
theorem dX11_suspect_36 : decode cX11_suspect 36 = .ok (.iconst 1, 1) := by decide +kernel
theorem dX11_suspect_37 : decode cX11_suspect 37 = .ok (.aload_n 0, 1) := by decide +kernel
theorem dX11_suspect_38 : decode cX11_suspect 38 = .ok (.getfield 265, 3) := by decide +kernel
theorem dX11_suspect_41 : decode cX11_suspect 41 = .ok (.ishl, 1) := by decide +kernel
theorem dX11_suspect_42 : decode cX11_suspect 42 = .ok (.iconst 1, 1) := by decide +kernel
theorem dX11_suspect_43 : decode cX11_suspect 43 = .ok (.isub, 1) := by decide +kernel
theorem dX11_suspect_44 : decode cX11_suspect 44 = .ok (.invokevirtual 439, 3) := by decide +kernel
theorem dX11_suspect_47 : decode cX11_suspect 47 = .ok (.return_, 1) := by decide +kernel
theorem dX11_suspects_0 : decode cX11_suspects 0 = .ok (.aload_n 0, 1) := by decide +kernel
theorem dX11_suspects_1 : decode cX11_suspects 1 = .ok (.iconst 0, 1) := by decide +kernel
theorem dX11_suspects_2 : decode cX11_suspects 2 = .ok (.putfield 130, 3) := by decide +kernel
theorem dX11_suspects_5 : decode cX11_suspects 5 = .ok (.iload_n 1, 1) := by decide +kernel
theorem dX11_suspects_6 : decode cX11_suspects 6 = .ok (.iconst 1, 1) := by decide +kernel
theorem dX11_suspects_7 : decode cX11_suspects 7 = .ok (.sipush 500, 3) := by decide +kernel
theorem dX11_suspects_10 : decode cX11_suspects 10 = .ok (.invokestatic 317, 3) := by decide +kernel
theorem dX11_suspects_13 : decode cX11_suspects 13 = .ok (.ifCond .eq 12, 3) := by decide +kernel
theorem dX11_suspects_16 : decode cX11_suspects 16 = .ok (.iload_n 2, 1) := by decide +kernel
theorem dX11_suspects_17 : decode cX11_suspects 17 = .ok (.iconst 0, 1) := by decide +kernel
theorem dX11_suspects_18 : decode cX11_suspects 18 = .ok (.iconst 1, 1) := by decide +kernel
theorem dX11_suspects_19 : decode cX11_suspects 19 = .ok (.invokestatic 317, 3) := by decide +kernel
theorem dX11_suspects_22 : decode cX11_suspects 22 = .ok (.ifCond .ne 5, 3) := by decide +kernel
theorem dX11_suspects_25 : decode cX11_suspects 25 = .ok (.iconst (-1), 1) := by decide +kernel
theorem dX11_suspects_26 : decode cX11_suspects 26 = .ok (.ireturn, 1) := by decide +kernel
theorem dX11_suspects_27 : decode cX11_suspects 27 = .ok (.aload_n 0, 1) := by decide +kernel
theorem dX11_suspects_28 : decode cX11_suspects 28 = .ok (.iload_n 1, 1) := by decide +kernel
theorem dX11_suspects_29 : decode cX11_suspects 29 = .ok (.invokevirtual 442, 3) := by decide +kernel
theorem dX11_suspects_32 : decode cX11_suspects 32 = .ok (.iload_n 2, 1) := by decide +kernel
theorem dX11_suspects_33 : decode cX11_suspects 33 = .ok (.ifCond .ne 10, 3) := by decide +kernel
theorem dX11_suspects_36 : decode cX11_suspects 36 = .ok (.aload_n 0, 1) := by decide +kernel
theorem dX11_suspects_37 : decode cX11_suspects 37 = .ok (.getfield 427, 3) := by decide +kernel
theorem dX11_suspects_40 : decode cX11_suspects 40 = .ok (.goto 7, 3) := by decide +kernel
theorem dX11_suspects_43 : decode cX11_suspects 43 = .ok (.aload_n 0, 1) := by decide +kernel
theorem dX11_suspects_44 : decode cX11_suspects 44 = .ok (.getfield 430, 3) := by decide +kernel
theorem dX11_suspects_47 : decode cX11_suspects 47 = .ok (.ireturn, 1) := by decide +kernel
theorem dX11_manyOf_0 : decode cX11_manyOf 0 = .ok (.iconst 0, 1) := by decide +kernel
theorem dX11_manyOf_1 : decode cX11_manyOf 1 = .ok (.istore_n 1, 1) := by decide +kernel
theorem dX11_manyOf_2 : decode cX11_manyOf 2 = .ok (.iconst 0, 1) := by decide +kernel
theorem dX11_manyOf_3 : decode cX11_manyOf 3 = .ok (.istore_n 2, 1) := by decide +kernel
theorem dX11_manyOf_4 : decode cX11_manyOf 4 = .ok (.iload_n 2, 1) := by decide +kernel
theorem dX11_manyOf_5 : decode cX11_manyOf 5 = .ok (.bipush 20, 2) := by decide +kernel
theorem dX11_manyOf_7 : decode cX11_manyOf 7 = .ok (.if_icmp .ge 17, 3) := by decide +kernel
theorem dX11_manyOf_10 : decode cX11_manyOf 10 = .ok (.iload_n 1, 1) := by decide +kernel
theorem dX11_manyOf_11 : decode cX11_manyOf 11 = .ok (.iload_n 0, 1) := by decide +kernel
theorem dX11_manyOf_12 : decode cX11_manyOf 12 = .ok (.iload_n 2, 1) := by decide +kernel
theorem dX11_manyOf_13 : decode cX11_manyOf 13 = .ok (.ishr, 1) := by decide +kernel
theorem dX11_manyOf_14 : decode cX11_manyOf 14 = .ok (.iconst 1, 1) := by decide +kernel
theorem dX11_manyOf_15 : decode cX11_manyOf 15 = .ok (.iand, 1) := by decide +kernel
theorem dX11_manyOf_16 : decode cX11_manyOf 16 = .ok (.iadd, 1) := by decide +kernel
theorem dX11_manyOf_17 : decode cX11_manyOf 17 = .ok (.istore_n 1, 1) := by decide +kernel
theorem dX11_manyOf_18 : decode cX11_manyOf 18 = .ok (.iinc 2 1, 3) := by decide +kernel
theorem dX11_manyOf_21 : decode cX11_manyOf 21 = .ok (.goto (-17), 3) := by decide +kernel
theorem dX11_manyOf_24 : decode cX11_manyOf 24 = .ok (.iload_n 1, 1) := by decide +kernel
theorem dX11_manyOf_25 : decode cX11_manyOf 25 = .ok (.ireturn, 1) := by decide +kernel
theorem dX11_trial_0 : decode cX11_trial 0 = .ok (.aload_n 0, 1) := by decide +kernel
theorem dX11_trial_1 : decode cX11_trial 1 = .ok (.iconst 0, 1) := by decide +kernel
theorem dX11_trial_2 : decode cX11_trial 2 = .ok (.putfield 130, 3) := by decide +kernel
theorem dX11_trial_5 : decode cX11_trial 5 = .ok (.iload_n 1, 1) := by decide +kernel
theorem dX11_trial_6 : decode cX11_trial 6 = .ok (.iconst 1, 1) := by decide +kernel
theorem dX11_trial_7 : decode cX11_trial 7 = .ok (.sipush 500, 3) := by decide +kernel
theorem dX11_trial_10 : decode cX11_trial 10 = .ok (.invokestatic 317, 3) := by decide +kernel
theorem dX11_trial_13 : decode cX11_trial 13 = .ok (.ifCond .eq 12, 3) := by decide +kernel
theorem dX11_trial_16 : decode cX11_trial 16 = .ok (.iload_n 2, 1) := by decide +kernel
theorem dX11_trial_17 : decode cX11_trial 17 = .ok (.iconst 0, 1) := by decide +kernel
theorem dX11_trial_18 : decode cX11_trial 18 = .ok (.iconst 1, 1) := by decide +kernel
theorem dX11_trial_19 : decode cX11_trial 19 = .ok (.invokestatic 317, 3) := by decide +kernel
theorem dX11_trial_22 : decode cX11_trial 22 = .ok (.ifCond .ne 5, 3) := by decide +kernel
theorem dX11_trial_25 : decode cX11_trial 25 = .ok (.iconst (-1), 1) := by decide +kernel
theorem dX11_trial_26 : decode cX11_trial 26 = .ok (.ireturn, 1) := by decide +kernel
theorem dX11_trial_27 : decode cX11_trial 27 = .ok (.aload_n 0, 1) := by decide +kernel
theorem dX11_trial_28 : decode cX11_trial 28 = .ok (.iload_n 1, 1) := by decide +kernel
theorem dX11_trial_29 : decode cX11_trial 29 = .ok (.invokevirtual 442, 3) := by decide +kernel
theorem dX11_trial_32 : decode cX11_trial 32 = .ok (.aload_n 0, 1) := by decide +kernel
theorem dX11_trial_33 : decode cX11_trial 33 = .ok (.getfield 427, 3) := by decide +kernel
theorem dX11_trial_36 : decode cX11_trial 36 = .ok (.istore_n 3, 1) := by decide +kernel
theorem dX11_trial_37 : decode cX11_trial 37 = .ok (.aload_n 0, 1) := by decide +kernel
theorem dX11_trial_38 : decode cX11_trial 38 = .ok (.getfield 430, 3) := by decide +kernel
theorem dX11_trial_41 : decode cX11_trial 41 = .ok (.istore 4, 2) := by decide +kernel
theorem dX11_trial_43 : decode cX11_trial 43 = .ok (.iload_n 3, 1) := by decide +kernel
theorem dX11_trial_44 : decode cX11_trial 44 = .ok (.invokestatic 445, 3) := by decide +kernel
theorem dX11_trial_47 : decode cX11_trial 47 = .ok (.iload 4, 2) := by decide +kernel
theorem dX11_trial_49 : decode cX11_trial 49 = .ok (.invokestatic 445, 3) := by decide +kernel
theorem dX11_trial_52 : decode cX11_trial 52 = .ok (.iadd, 1) := by decide +kernel
theorem dX11_trial_53 : decode cX11_trial 53 = .ok (.iconst 2, 1) := by decide +kernel
theorem dX11_trial_54 : decode cX11_trial 54 = .ok (.if_icmp .ge 5, 3) := by decide +kernel
theorem dX11_trial_57 : decode cX11_trial 57 = .ok (.iconst (-1), 1) := by decide +kernel
theorem dX11_trial_58 : decode cX11_trial 58 = .ok (.ireturn, 1) := by decide +kernel
theorem dX11_trial_59 : decode cX11_trial 59 = .ok (.iconst (-1), 1) := by decide +kernel
theorem dX11_trial_60 : decode cX11_trial 60 = .ok (.istore 5, 2) := by decide +kernel
theorem dX11_trial_62 : decode cX11_trial 62 = .ok (.iconst 0, 1) := by decide +kernel
theorem dX11_trial_63 : decode cX11_trial 63 = .ok (.istore 6, 2) := by decide +kernel
theorem dX11_trial_65 : decode cX11_trial 65 = .ok (.iconst 0, 1) := by decide +kernel
theorem dX11_trial_66 : decode cX11_trial 66 = .ok (.istore 7, 2) := by decide +kernel
theorem dX11_trial_68 : decode cX11_trial 68 = .ok (.iload 7, 2) := by decide +kernel
theorem dX11_trial_70 : decode cX11_trial 70 = .ok (.aload_n 0, 1) := by decide +kernel
theorem dX11_trial_71 : decode cX11_trial 71 = .ok (.invokevirtual 370, 3) := by decide +kernel
theorem dX11_trial_74 : decode cX11_trial 74 = .ok (.if_icmp .ge 136, 3) := by decide +kernel
theorem dX11_trial_77 : decode cX11_trial 77 = .ok (.aload_n 0, 1) := by decide +kernel
theorem dX11_trial_78 : decode cX11_trial 78 = .ok (.iload 7, 2) := by decide +kernel
theorem dX11_trial_80 : decode cX11_trial 80 = .ok (.invokevirtual 373, 3) := by decide +kernel
theorem dX11_trial_83 : decode cX11_trial 83 = .ok (.iconst 4, 1) := by decide +kernel
theorem dX11_trial_84 : decode cX11_trial 84 = .ok (.idiv, 1) := by decide +kernel
theorem dX11_trial_85 : decode cX11_trial 85 = .ok (.istore 8, 2) := by decide +kernel
theorem dX11_trial_87 : decode cX11_trial 87 = .ok (.aload_n 0, 1) := by decide +kernel
theorem dX11_trial_88 : decode cX11_trial 88 = .ok (.iload 7, 2) := by decide +kernel
theorem dX11_trial_90 : decode cX11_trial 90 = .ok (.invokevirtual 373, 3) := by decide +kernel
theorem dX11_trial_93 : decode cX11_trial 93 = .ok (.iconst 4, 1) := by decide +kernel
theorem dX11_trial_94 : decode cX11_trial 94 = .ok (.irem, 1) := by decide +kernel
theorem dX11_trial_95 : decode cX11_trial 95 = .ok (.istore 9, 2) := by decide +kernel
theorem dX11_trial_97 : decode cX11_trial 97 = .ok (.aload_n 0, 1) := by decide +kernel
theorem dX11_trial_98 : decode cX11_trial 98 = .ok (.iload 8, 2) := by decide +kernel
theorem dX11_trial_100 : decode cX11_trial 100 = .ok (.iload 9, 2) := by decide +kernel
theorem dX11_trial_102 : decode cX11_trial 102 = .ok (.aload_n 0, 1) := by decide +kernel
theorem dX11_trial_103 : decode cX11_trial 103 = .ok (.iload 8, 2) := by decide +kernel
theorem dX11_trial_105 : decode cX11_trial 105 = .ok (.iload 9, 2) := by decide +kernel
theorem dX11_trial_107 : decode cX11_trial 107 = .ok (.invokevirtual 327, 3) := by decide +kernel
theorem dX11_trial_110 : decode cX11_trial 110 = .ok (.ifCond .ne 7, 3) := by decide +kernel
theorem dX11_trial_113 : decode cX11_trial 113 = .ok (.iconst 1, 1) := by decide +kernel
theorem dX11_trial_114 : decode cX11_trial 114 = .ok (.goto 4, 3) := by decide +kernel
theorem dX11_trial_117 : decode cX11_trial 117 = .ok (.iconst 0, 1) := by decide +kernel
theorem dX11_trial_118 : decode cX11_trial 118 = .ok (.invokevirtual 330, 3) := by decide +kernel
theorem dX11_trial_121 : decode cX11_trial 121 = .ok (.aload_n 0, 1) := by decide +kernel
theorem dX11_trial_122 : decode cX11_trial 122 = .ok (.iconst 4, 1) := by decide +kernel
theorem dX11_trial_123 : decode cX11_trial 123 = .ok (.invokevirtual 358, 3) := by decide +kernel
theorem dX11_trial_126 : decode cX11_trial 126 = .ok (.aload_n 0, 1) := by decide +kernel
theorem dX11_trial_127 : decode cX11_trial 127 = .ok (.iload_n 1, 1) := by decide +kernel
theorem dX11_trial_128 : decode cX11_trial 128 = .ok (.iload_n 3, 1) := by decide +kernel
theorem dX11_trial_129 : decode cX11_trial 129 = .ok (.iload 4, 2) := by decide +kernel
theorem dX11_trial_131 : decode cX11_trial 131 = .ok (.invokevirtual 439, 3) := by decide +kernel
theorem dX11_trial_134 : decode cX11_trial 134 = .ok (.aload_n 0, 1) := by decide +kernel
theorem dX11_trial_135 : decode cX11_trial 135 = .ok (.getfield 427, 3) := by decide +kernel
theorem dX11_trial_138 : decode cX11_trial 138 = .ok (.invokestatic 445, 3) := by decide +kernel
theorem dX11_trial_141 : decode cX11_trial 141 = .ok (.aload_n 0, 1) := by decide +kernel
theorem dX11_trial_142 : decode cX11_trial 142 = .ok (.getfield 430, 3) := by decide +kernel
theorem dX11_trial_145 : decode cX11_trial 145 = .ok (.invokestatic 445, 3) := by decide +kernel
theorem dX11_trial_148 : decode cX11_trial 148 = .ok (.iadd, 1) := by decide +kernel
theorem dX11_trial_149 : decode cX11_trial 149 = .ok (.istore 10, 2) := by decide +kernel
theorem dX11_trial_151 : decode cX11_trial 151 = .ok (.aload_n 0, 1) := by decide +kernel
theorem dX11_trial_152 : decode cX11_trial 152 = .ok (.iload 8, 2) := by decide +kernel
theorem dX11_trial_154 : decode cX11_trial 154 = .ok (.iload 9, 2) := by decide +kernel
theorem dX11_trial_156 : decode cX11_trial 156 = .ok (.aload_n 0, 1) := by decide +kernel
theorem dX11_trial_157 : decode cX11_trial 157 = .ok (.iload 8, 2) := by decide +kernel
theorem dX11_trial_159 : decode cX11_trial 159 = .ok (.iload 9, 2) := by decide +kernel
theorem dX11_trial_161 : decode cX11_trial 161 = .ok (.invokevirtual 327, 3) := by decide +kernel
theorem dX11_trial_164 : decode cX11_trial 164 = .ok (.ifCond .ne 7, 3) := by decide +kernel
theorem dX11_trial_167 : decode cX11_trial 167 = .ok (.iconst 1, 1) := by decide +kernel
theorem dX11_trial_168 : decode cX11_trial 168 = .ok (.goto 4, 3) := by decide +kernel
theorem dX11_trial_171 : decode cX11_trial 171 = .ok (.iconst 0, 1) := by decide +kernel
theorem dX11_trial_172 : decode cX11_trial 172 = .ok (.invokevirtual 330, 3) := by decide +kernel
theorem dX11_trial_175 : decode cX11_trial 175 = .ok (.aload_n 0, 1) := by decide +kernel
theorem dX11_trial_176 : decode cX11_trial 176 = .ok (.iconst 4, 1) := by decide +kernel
theorem dX11_trial_177 : decode cX11_trial 177 = .ok (.invokevirtual 358, 3) := by decide +kernel
theorem dX11_trial_180 : decode cX11_trial 180 = .ok (.iload 5, 2) := by decide +kernel
theorem dX11_trial_182 : decode cX11_trial 182 = .ok (.iconst (-1), 1) := by decide +kernel
theorem dX11_trial_183 : decode cX11_trial 183 = .ok (.if_icmp .eq 13, 3) := by decide +kernel
theorem dX11_trial_186 : decode cX11_trial 186 = .ok (.iload 10, 2) := by decide +kernel
theorem dX11_trial_188 : decode cX11_trial 188 = .ok (.iload 6, 2) := by decide +kernel
theorem dX11_trial_190 : decode cX11_trial 190 = .ok (.if_icmp .lt 6, 3) := by decide +kernel
theorem dX11_trial_193 : decode cX11_trial 193 = .ok (.goto 11, 3) := by decide +kernel
theorem dX11_trial_196 : decode cX11_trial 196 = .ok (.iload 7, 2) := by decide +kernel
theorem dX11_trial_198 : decode cX11_trial 198 = .ok (.istore 5, 2) := by decide +kernel
theorem dX11_trial_200 : decode cX11_trial 200 = .ok (.iload 10, 2) := by decide +kernel
theorem dX11_trial_202 : decode cX11_trial 202 = .ok (.istore 6, 2) := by decide +kernel
theorem dX11_trial_204 : decode cX11_trial 204 = .ok (.iinc 7 1, 3) := by decide +kernel
theorem dX11_trial_207 : decode cX11_trial 207 = .ok (.goto (-139), 3) := by decide +kernel
theorem dX11_trial_210 : decode cX11_trial 210 = .ok (.iload_n 2, 1) := by decide +kernel
theorem dX11_trial_211 : decode cX11_trial 211 = .ok (.ifCond .ne 8, 3) := by decide +kernel
theorem dX11_trial_214 : decode cX11_trial 214 = .ok (.iload 5, 2) := by decide +kernel
theorem dX11_trial_216 : decode cX11_trial 216 = .ok (.goto 5, 3) := by decide +kernel
theorem dX11_trial_219 : decode cX11_trial 219 = .ok (.iload 6, 2) := by decide +kernel
theorem dX11_trial_221 : decode cX11_trial 221 = .ok (.ireturn, 1) := by decide +kernel
theorem dX11_count_0 : decode cX11_count 0 = .ok (.aload_n 0, 1) := by decide +kernel
theorem dX11_count_1 : decode cX11_count 1 = .ok (.iconst 0, 1) := by decide +kernel
theorem dX11_count_2 : decode cX11_count 2 = .ok (.putfield 130, 3) := by decide +kernel
theorem dX11_count_5 : decode cX11_count 5 = .ok (.iconst 0, 1) := by decide +kernel
theorem dX11_count_6 : decode cX11_count 6 = .ok (.istore_n 2, 1) := by decide +kernel
theorem dX11_count_7 : decode cX11_count 7 = .ok (.iload_n 1, 1) := by decide +kernel
theorem dX11_count_8 : decode cX11_count 8 = .ok (.tableswitch 148 0 6 #[44, 49, 54, 59, 64, 111, 116], 44) := by decide +kernel
theorem dX11_count_52 : decode cX11_count 52 = .ok (.aload_n 0, 1) := by decide +kernel
theorem dX11_count_53 : decode cX11_count 53 = .ok (.invokevirtual 289, 3) := by decide +kernel
theorem dX11_count_56 : decode cX11_count 56 = .ok (.ireturn, 1) := by decide +kernel
theorem dX11_count_57 : decode cX11_count 57 = .ok (.aload_n 0, 1) := by decide +kernel
theorem dX11_count_58 : decode cX11_count 58 = .ok (.getfield 203, 3) := by decide +kernel
theorem dX11_count_61 : decode cX11_count 61 = .ok (.ireturn, 1) := by decide +kernel
theorem dX11_count_62 : decode cX11_count 62 = .ok (.aload_n 0, 1) := by decide +kernel
theorem dX11_count_63 : decode cX11_count 63 = .ok (.getfield 265, 3) := by decide +kernel
theorem dX11_count_66 : decode cX11_count 66 = .ok (.ireturn, 1) := by decide +kernel
theorem dX11_count_67 : decode cX11_count 67 = .ok (.aload_n 0, 1) := by decide +kernel
theorem dX11_count_68 : decode cX11_count 68 = .ok (.getfield 268, 3) := by decide +kernel
theorem dX11_count_71 : decode cX11_count 71 = .ok (.ireturn, 1) := by decide +kernel
theorem dX11_count_72 : decode cX11_count 72 = .ok (.iconst 0, 1) := by decide +kernel
theorem dX11_count_73 : decode cX11_count 73 = .ok (.istore_n 3, 1) := by decide +kernel
theorem dX11_count_74 : decode cX11_count 74 = .ok (.iload_n 3, 1) := by decide +kernel
theorem dX11_count_75 : decode cX11_count 75 = .ok (.aload_n 0, 1) := by decide +kernel
theorem dX11_count_76 : decode cX11_count 76 = .ok (.invokevirtual 370, 3) := by decide +kernel
theorem dX11_count_79 : decode cX11_count 79 = .ok (.if_icmp .ge 38, 3) := by decide +kernel
theorem dX11_count_82 : decode cX11_count 82 = .ok (.iload_n 2, 1) := by decide +kernel
theorem dX11_count_83 : decode cX11_count 83 = .ok (.aload_n 0, 1) := by decide +kernel
theorem dX11_count_84 : decode cX11_count 84 = .ok (.aload_n 0, 1) := by decide +kernel
theorem dX11_count_85 : decode cX11_count 85 = .ok (.iload_n 3, 1) := by decide +kernel
theorem dX11_count_86 : decode cX11_count 86 = .ok (.invokevirtual 373, 3) := by decide +kernel
theorem dX11_count_89 : decode cX11_count 89 = .ok (.iconst 4, 1) := by decide +kernel
theorem dX11_count_90 : decode cX11_count 90 = .ok (.idiv, 1) := by decide +kernel
theorem dX11_count_91 : decode cX11_count 91 = .ok (.aload_n 0, 1) := by decide +kernel
theorem dX11_count_92 : decode cX11_count 92 = .ok (.iload_n 3, 1) := by decide +kernel
theorem dX11_count_93 : decode cX11_count 93 = .ok (.invokevirtual 373, 3) := by decide +kernel
theorem dX11_count_96 : decode cX11_count 96 = .ok (.iconst 4, 1) := by decide +kernel
theorem dX11_count_97 : decode cX11_count 97 = .ok (.irem, 1) := by decide +kernel
theorem dX11_count_98 : decode cX11_count 98 = .ok (.invokevirtual 327, 3) := by decide +kernel
theorem dX11_count_101 : decode cX11_count 101 = .ok (.ifCond .eq 7, 3) := by decide +kernel
theorem dX11_count_104 : decode cX11_count 104 = .ok (.iconst 1, 1) := by decide +kernel
theorem dX11_count_105 : decode cX11_count 105 = .ok (.goto 4, 3) := by decide +kernel
theorem dX11_count_108 : decode cX11_count 108 = .ok (.iconst 0, 1) := by decide +kernel
theorem dX11_count_109 : decode cX11_count 109 = .ok (.iadd, 1) := by decide +kernel
theorem dX11_count_110 : decode cX11_count 110 = .ok (.istore_n 2, 1) := by decide +kernel
theorem dX11_count_111 : decode cX11_count 111 = .ok (.iinc 3 1, 3) := by decide +kernel
theorem dX11_count_114 : decode cX11_count 114 = .ok (.goto (-40), 3) := by decide +kernel
theorem dX11_count_117 : decode cX11_count 117 = .ok (.iload_n 2, 1) := by decide +kernel
theorem dX11_count_118 : decode cX11_count 118 = .ok (.ireturn, 1) := by decide +kernel
theorem dX11_count_119 : decode cX11_count 119 = .ok (.aload_n 0, 1) := by decide +kernel
theorem dX11_count_120 : decode cX11_count 120 = .ok (.getfield 292, 3) := by decide +kernel
theorem dX11_count_123 : decode cX11_count 123 = .ok (.ireturn, 1) := by decide +kernel
theorem dX11_count_124 : decode cX11_count 124 = .ok (.iconst 0, 1) := by decide +kernel
theorem dX11_count_125 : decode cX11_count 125 = .ok (.istore_n 3, 1) := by decide +kernel
theorem dX11_count_126 : decode cX11_count 126 = .ok (.iload_n 3, 1) := by decide +kernel
theorem dX11_count_127 : decode cX11_count 127 = .ok (.iconst 4, 1) := by decide +kernel
theorem dX11_count_128 : decode cX11_count 128 = .ok (.if_icmp .ge 26, 3) := by decide +kernel
theorem dX11_count_131 : decode cX11_count 131 = .ok (.iload_n 2, 1) := by decide +kernel
theorem dX11_count_132 : decode cX11_count 132 = .ok (.aload_n 0, 1) := by decide +kernel
theorem dX11_count_133 : decode cX11_count 133 = .ok (.getfield 90, 3) := by decide +kernel
theorem dX11_count_136 : decode cX11_count 136 = .ok (.iload_n 3, 1) := by decide +kernel
theorem dX11_count_137 : decode cX11_count 137 = .ok (.baload, 1) := by decide +kernel
theorem dX11_count_138 : decode cX11_count 138 = .ok (.ifCond .eq 7, 3) := by decide +kernel
theorem dX11_count_141 : decode cX11_count 141 = .ok (.iconst 1, 1) := by decide +kernel
theorem dX11_count_142 : decode cX11_count 142 = .ok (.goto 4, 3) := by decide +kernel
theorem dX11_count_145 : decode cX11_count 145 = .ok (.iconst 0, 1) := by decide +kernel
theorem dX11_count_146 : decode cX11_count 146 = .ok (.iadd, 1) := by decide +kernel
theorem dX11_count_147 : decode cX11_count 147 = .ok (.istore_n 2, 1) := by decide +kernel
theorem dX11_count_148 : decode cX11_count 148 = .ok (.iinc 3 1, 3) := by decide +kernel
theorem dX11_count_151 : decode cX11_count 151 = .ok (.goto (-25), 3) := by decide +kernel
theorem dX11_count_154 : decode cX11_count 154 = .ok (.iload_n 2, 1) := by decide +kernel
theorem dX11_count_155 : decode cX11_count 155 = .ok (.ireturn, 1) := by decide +kernel
theorem dX11_count_156 : decode cX11_count 156 = .ok (.iconst (-1), 1) := by decide +kernel
theorem dX11_count_157 : decode cX11_count 157 = .ok (.ireturn, 1) := by decide +kernel
theorem dJ0_coder_7d493_0 : decode cJ0_coder_7d493 0 = .ok (.getstatic 38, 3) := by decide +kernel
theorem dJ0_coder_7d493_3 : decode cJ0_coder_7d493 3 = .ok (.ifCond .eq 10, 3) := by decide +kernel
theorem dJ0_coder_7d493_6 : decode cJ0_coder_7d493 6 = .ok (.aload_n 0, 1) := by decide +kernel
theorem dJ0_coder_7d493_7 : decode cJ0_coder_7d493 7 = .ok (.getfield 15, 3) := by decide +kernel
theorem dJ0_coder_7d493_10 : decode cJ0_coder_7d493 10 = .ok (.goto 4, 3) := by decide +kernel
theorem dJ0_coder_7d493_13 : decode cJ0_coder_7d493 13 = .ok (.iconst 1, 1) := by decide +kernel
theorem dJ0_coder_7d493_14 : decode cJ0_coder_7d493 14 = .ok (.ireturn, 1) := by decide +kernel
theorem dJ0_isLatin1_aae02_0 : decode cJ0_isLatin1_aae02 0 = .ok (.getstatic 38, 3) := by decide +kernel
theorem dJ0_isLatin1_aae02_3 : decode cJ0_isLatin1_aae02 3 = .ok (.ifCond .eq 14, 3) := by decide +kernel
theorem dJ0_isLatin1_aae02_6 : decode cJ0_isLatin1_aae02 6 = .ok (.aload_n 0, 1) := by decide +kernel
theorem dJ0_isLatin1_aae02_7 : decode cJ0_isLatin1_aae02 7 = .ok (.getfield 15, 3) := by decide +kernel
theorem dJ0_isLatin1_aae02_10 : decode cJ0_isLatin1_aae02 10 = .ok (.ifCond .ne 7, 3) := by decide +kernel
theorem dJ0_isLatin1_aae02_13 : decode cJ0_isLatin1_aae02 13 = .ok (.iconst 1, 1) := by decide +kernel
theorem dJ0_isLatin1_aae02_14 : decode cJ0_isLatin1_aae02 14 = .ok (.goto 4, 3) := by decide +kernel
theorem dJ0_isLatin1_aae02_17 : decode cJ0_isLatin1_aae02 17 = .ok (.iconst 0, 1) := by decide +kernel
theorem dJ0_isLatin1_aae02_18 : decode cJ0_isLatin1_aae02 18 = .ok (.ireturn, 1) := by decide +kernel
theorem dJ0_length_8abf5_0 : decode cJ0_length_8abf5 0 = .ok (.aload_n 0, 1) := by decide +kernel
theorem dJ0_length_8abf5_1 : decode cJ0_length_8abf5 1 = .ok (.getfield 9, 3) := by decide +kernel
theorem dJ0_length_8abf5_4 : decode cJ0_length_8abf5 4 = .ok (.arraylength, 1) := by decide +kernel
theorem dJ0_length_8abf5_5 : decode cJ0_length_8abf5 5 = .ok (.aload_n 0, 1) := by decide +kernel
theorem dJ0_length_8abf5_6 : decode cJ0_length_8abf5 6 = .ok (.invokevirtual 335, 3) := by decide +kernel
theorem dJ0_length_8abf5_9 : decode cJ0_length_8abf5 9 = .ok (.ishr, 1) := by decide +kernel
theorem dJ0_length_8abf5_10 : decode cJ0_length_8abf5 10 = .ok (.ireturn, 1) := by decide +kernel
theorem dJ3_checkIndex_8e157_0 : decode cJ3_checkIndex_8e157 0 = .ok (.iload_n 0, 1) := by decide +kernel
theorem dJ3_checkIndex_8e157_1 : decode cJ3_checkIndex_8e157 1 = .ok (.ifCond .lt 8, 3) := by decide +kernel
theorem dJ3_checkIndex_8e157_4 : decode cJ3_checkIndex_8e157 4 = .ok (.iload_n 0, 1) := by decide +kernel
theorem dJ3_checkIndex_8e157_5 : decode cJ3_checkIndex_8e157 5 = .ok (.iload_n 1, 1) := by decide +kernel
theorem dJ3_checkIndex_8e157_6 : decode cJ3_checkIndex_8e157 6 = .ok (.if_icmp .lt 10, 3) := by decide +kernel
theorem dJ3_checkIndex_8e157_9 : decode cJ3_checkIndex_8e157 9 = .ok (.aload_n 2, 1) := by decide +kernel
theorem dJ3_checkIndex_8e157_10 : decode cJ3_checkIndex_8e157 10 = .ok (.iload_n 0, 1) := by decide +kernel
theorem dJ3_checkIndex_8e157_11 : decode cJ3_checkIndex_8e157 11 = .ok (.iload_n 1, 1) := by decide +kernel
theorem dJ3_checkIndex_8e157_12 : decode cJ3_checkIndex_8e157 12 = .ok (.invokestatic 95, 3) := by decide +kernel
theorem dJ3_checkIndex_8e157_15 : decode cJ3_checkIndex_8e157 15 = .ok (.athrow, 1) := by decide +kernel
theorem dJ3_checkIndex_8e157_16 : decode cJ3_checkIndex_8e157 16 = .ok (.iload_n 0, 1) := by decide +kernel
theorem dJ3_checkIndex_8e157_17 : decode cJ3_checkIndex_8e157 17 = .ok (.ireturn, 1) := by decide +kernel
theorem dJ0_checkIndex_df160_0 : decode cJ0_checkIndex_df160 0 = .ok (.iload_n 0, 1) := by decide +kernel
theorem dJ0_checkIndex_df160_1 : decode cJ0_checkIndex_df160 1 = .ok (.iload_n 1, 1) := by decide +kernel
theorem dJ0_checkIndex_df160_2 : decode cJ0_checkIndex_df160 2 = .ok (.getstatic 1053, 3) := by decide +kernel
theorem dJ0_checkIndex_df160_5 : decode cJ0_checkIndex_df160 5 = .ok (.invokestatic 1059, 3) := by decide +kernel
theorem dJ0_checkIndex_df160_8 : decode cJ0_checkIndex_df160 8 = .ok (.pop, 1) := by decide +kernel
theorem dJ0_checkIndex_df160_9 : decode cJ0_checkIndex_df160 9 = .ok (.return_, 1) := by decide +kernel
theorem dJ1_charAt_3b067_0 : decode cJ1_charAt_3b067 0 = .ok (.iload_n 1, 1) := by decide +kernel
theorem dJ1_charAt_3b067_1 : decode cJ1_charAt_3b067 1 = .ok (.aload_n 0, 1) := by decide +kernel
theorem dJ1_charAt_3b067_2 : decode cJ1_charAt_3b067 2 = .ok (.arraylength, 1) := by decide +kernel
theorem dJ1_charAt_3b067_3 : decode cJ1_charAt_3b067 3 = .ok (.invokestatic 9, 3) := by decide +kernel
theorem dJ1_charAt_3b067_6 : decode cJ1_charAt_3b067 6 = .ok (.aload_n 0, 1) := by decide +kernel
theorem dJ1_charAt_3b067_7 : decode cJ1_charAt_3b067 7 = .ok (.iload_n 1, 1) := by decide +kernel
theorem dJ1_charAt_3b067_8 : decode cJ1_charAt_3b067 8 = .ok (.baload, 1) := by decide +kernel
theorem dJ1_charAt_3b067_9 : decode cJ1_charAt_3b067 9 = .ok (.sipush 255, 3) := by decide +kernel
theorem dJ1_charAt_3b067_12 : decode cJ1_charAt_3b067 12 = .ok (.iand, 1) := by decide +kernel
theorem dJ1_charAt_3b067_13 : decode cJ1_charAt_3b067 13 = .ok (.i2c, 1) := by decide +kernel
theorem dJ1_charAt_3b067_14 : decode cJ1_charAt_3b067 14 = .ok (.ireturn, 1) := by decide +kernel
theorem dJ0_charAt_5068e_0 : decode cJ0_charAt_5068e 0 = .ok (.aload_n 0, 1) := by decide +kernel
theorem dJ0_charAt_5068e_1 : decode cJ0_charAt_5068e 1 = .ok (.invokevirtual 492, 3) := by decide +kernel
theorem dJ0_charAt_5068e_4 : decode cJ0_charAt_5068e 4 = .ok (.ifCond .eq 12, 3) := by decide +kernel
theorem dJ0_charAt_5068e_7 : decode cJ0_charAt_5068e 7 = .ok (.aload_n 0, 1) := by decide +kernel
theorem dJ0_charAt_5068e_8 : decode cJ0_charAt_5068e 8 = .ok (.getfield 9, 3) := by decide +kernel
theorem dJ0_charAt_5068e_11 : decode cJ0_charAt_5068e 11 = .ok (.iload_n 1, 1) := by decide +kernel
theorem dJ0_charAt_5068e_12 : decode cJ0_charAt_5068e 12 = .ok (.invokestatic 495, 3) := by decide +kernel
theorem dJ0_charAt_5068e_15 : decode cJ0_charAt_5068e 15 = .ok (.ireturn, 1) := by decide +kernel
theorem dJ0_charAt_5068e_16 : decode cJ0_charAt_5068e 16 = .ok (.aload_n 0, 1) := by decide +kernel
theorem dJ0_charAt_5068e_17 : decode cJ0_charAt_5068e 17 = .ok (.getfield 9, 3) := by decide +kernel
theorem dJ0_charAt_5068e_20 : decode cJ0_charAt_5068e 20 = .ok (.iload_n 1, 1) := by decide +kernel
theorem dJ0_charAt_5068e_21 : decode cJ0_charAt_5068e 21 = .ok (.invokestatic 498, 3) := by decide +kernel
theorem dJ0_charAt_5068e_24 : decode cJ0_charAt_5068e 24 = .ok (.ireturn, 1) := by decide +kernel
theorem dX1_clearWalls_0 : decode cX1_clearWalls 0 = .ok (.iconst 0, 1) := by decide +kernel
theorem dX1_clearWalls_1 : decode cX1_clearWalls 1 = .ok (.istore_n 1, 1) := by decide +kernel
theorem dX1_clearWalls_2 : decode cX1_clearWalls 2 = .ok (.iload_n 1, 1) := by decide +kernel
theorem dX1_clearWalls_3 : decode cX1_clearWalls 3 = .ok (.iconst 4, 1) := by decide +kernel
theorem dX1_clearWalls_4 : decode cX1_clearWalls 4 = .ok (.if_icmp .ge 21, 3) := by decide +kernel
theorem dX1_clearWalls_7 : decode cX1_clearWalls 7 = .ok (.aload_n 0, 1) := by decide +kernel
theorem dX1_clearWalls_8 : decode cX1_clearWalls 8 = .ok (.getfield 11, 3) := by decide +kernel
theorem dX1_clearWalls_11 : decode cX1_clearWalls 11 = .ok (.iload_n 1, 1) := by decide +kernel
theorem dX1_clearWalls_12 : decode cX1_clearWalls 12 = .ok (.aload_n 0, 1) := by decide +kernel
theorem dX1_clearWalls_13 : decode cX1_clearWalls 13 = .ok (.getfield 19, 3) := by decide +kernel
theorem dX1_clearWalls_16 : decode cX1_clearWalls 16 = .ok (.iload_n 1, 1) := by decide +kernel
theorem dX1_clearWalls_17 : decode cX1_clearWalls 17 = .ok (.laload, 1) := by decide +kernel
theorem dX1_clearWalls_18 : decode cX1_clearWalls 18 = .ok (.lastore, 1) := by decide +kernel
theorem dX1_clearWalls_19 : decode cX1_clearWalls 19 = .ok (.iinc 1 1, 3) := by decide +kernel
theorem dX1_clearWalls_22 : decode cX1_clearWalls 22 = .ok (.goto (-20), 3) := by decide +kernel
theorem dX1_clearWalls_25 : decode cX1_clearWalls 25 = .ok (.return_, 1) := by decide +kernel
theorem dX1_lay_0 : decode cX1_lay 0 = .ok (.aload_n 0, 1) := by decide +kernel
theorem dX1_lay_1 : decode cX1_lay 1 = .ok (.iload_n 1, 1) := by decide +kernel
theorem dX1_lay_2 : decode cX1_lay 2 = .ok (.putfield 26, 3) := by decide +kernel
theorem dX1_lay_5 : decode cX1_lay 5 = .ok (.aload_n 0, 1) := by decide +kernel
theorem dX1_lay_6 : decode cX1_lay 6 = .ok (.iload_n 2, 1) := by decide +kernel
theorem dX1_lay_7 : decode cX1_lay 7 = .ok (.putfield 30, 3) := by decide +kernel
theorem dX1_lay_10 : decode cX1_lay 10 = .ok (.aload_n 0, 1) := by decide +kernel
theorem dX1_lay_11 : decode cX1_lay 11 = .ok (.iload_n 1, 1) := by decide +kernel
theorem dX1_lay_12 : decode cX1_lay 12 = .ok (.iload_n 2, 1) := by decide +kernel
theorem dX1_lay_13 : decode cX1_lay 13 = .ok (.imul, 1) := by decide +kernel
theorem dX1_lay_14 : decode cX1_lay 14 = .ok (.putfield 33, 3) := by decide +kernel
theorem dX1_lay_17 : decode cX1_lay 17 = .ok (.aload_n 0, 1) := by decide +kernel
theorem dX1_lay_18 : decode cX1_lay 18 = .ok (.aload_n 0, 1) := by decide +kernel
theorem dX1_lay_19 : decode cX1_lay 19 = .ok (.getfield 33, 3) := by decide +kernel
theorem dX1_lay_22 : decode cX1_lay 22 = .ok (.iconst 1, 1) := by decide +kernel
theorem dX1_lay_23 : decode cX1_lay 23 = .ok (.isub, 1) := by decide +kernel
theorem dX1_lay_24 : decode cX1_lay 24 = .ok (.putfield 36, 3) := by decide +kernel
theorem dX1_lay_27 : decode cX1_lay 27 = .ok (.lconst 0, 1) := by decide +kernel
theorem dX1_lay_28 : decode cX1_lay 28 = .ok (.lstore_n 3, 1) := by decide +kernel
theorem dX1_lay_29 : decode cX1_lay 29 = .ok (.iconst 0, 1) := by decide +kernel
theorem dX1_lay_30 : decode cX1_lay 30 = .ok (.istore 5, 2) := by decide +kernel
theorem dX1_lay_32 : decode cX1_lay 32 = .ok (.iload 5, 2) := by decide +kernel
theorem dX1_lay_34 : decode cX1_lay 34 = .ok (.iload_n 2, 1) := by decide +kernel
theorem dX1_lay_35 : decode cX1_lay 35 = .ok (.if_icmp .ge 18, 3) := by decide +kernel
theorem dX1_lay_38 : decode cX1_lay 38 = .ok (.lload_n 3, 1) := by decide +kernel
theorem dX1_lay_39 : decode cX1_lay 39 = .ok (.lconst 1, 1) := by decide +kernel
theorem dX1_lay_40 : decode cX1_lay 40 = .ok (.iload 5, 2) := by decide +kernel
theorem dX1_lay_42 : decode cX1_lay 42 = .ok (.iload_n 1, 1) := by decide +kernel
theorem dX1_lay_43 : decode cX1_lay 43 = .ok (.imul, 1) := by decide +kernel
theorem dX1_lay_44 : decode cX1_lay 44 = .ok (.lshl, 1) := by decide +kernel
theorem dX1_lay_45 : decode cX1_lay 45 = .ok (.lor, 1) := by decide +kernel
theorem dX1_lay_46 : decode cX1_lay 46 = .ok (.lstore_n 3, 1) := by decide +kernel
theorem dX1_lay_47 : decode cX1_lay 47 = .ok (.iinc 5 1, 3) := by decide +kernel
theorem dX1_lay_50 : decode cX1_lay 50 = .ok (.goto (-18), 3) := by decide +kernel
theorem dX1_lay_53 : decode cX1_lay 53 = .ok (.aload_n 0, 1) := by decide +kernel
theorem dX1_lay_54 : decode cX1_lay 54 = .ok (.getfield 19, 3) := by decide +kernel
theorem dX1_lay_57 : decode cX1_lay 57 = .ok (.iconst 0, 1) := by decide +kernel
theorem dX1_lay_58 : decode cX1_lay 58 = .ok (.lconst 1, 1) := by decide +kernel
theorem dX1_lay_59 : decode cX1_lay 59 = .ok (.iload_n 1, 1) := by decide +kernel
theorem dX1_lay_60 : decode cX1_lay 60 = .ok (.lshl, 1) := by decide +kernel
theorem dX1_lay_61 : decode cX1_lay 61 = .ok (.lconst 1, 1) := by decide +kernel
theorem dX1_lay_62 : decode cX1_lay 62 = .ok (.lsub, 1) := by decide +kernel
theorem dX1_lay_63 : decode cX1_lay 63 = .ok (.lastore, 1) := by decide +kernel
theorem dX1_lay_64 : decode cX1_lay 64 = .ok (.aload_n 0, 1) := by decide +kernel
theorem dX1_lay_65 : decode cX1_lay 65 = .ok (.getfield 19, 3) := by decide +kernel
theorem dX1_lay_68 : decode cX1_lay 68 = .ok (.iconst 1, 1) := by decide +kernel
theorem dX1_lay_69 : decode cX1_lay 69 = .ok (.lload_n 3, 1) := by decide +kernel
theorem dX1_lay_70 : decode cX1_lay 70 = .ok (.iload_n 1, 1) := by decide +kernel
theorem dX1_lay_71 : decode cX1_lay 71 = .ok (.iconst 1, 1) := by decide +kernel
theorem dX1_lay_72 : decode cX1_lay 72 = .ok (.isub, 1) := by decide +kernel
theorem dX1_lay_73 : decode cX1_lay 73 = .ok (.lshl, 1) := by decide +kernel
theorem dX1_lay_74 : decode cX1_lay 74 = .ok (.lastore, 1) := by decide +kernel
theorem dX1_lay_75 : decode cX1_lay 75 = .ok (.aload_n 0, 1) := by decide +kernel
theorem dX1_lay_76 : decode cX1_lay 76 = .ok (.getfield 19, 3) := by decide +kernel
theorem dX1_lay_79 : decode cX1_lay 79 = .ok (.iconst 2, 1) := by decide +kernel
theorem dX1_lay_80 : decode cX1_lay 80 = .ok (.aload_n 0, 1) := by decide +kernel
theorem dX1_lay_81 : decode cX1_lay 81 = .ok (.getfield 19, 3) := by decide +kernel
theorem dX1_lay_84 : decode cX1_lay 84 = .ok (.iconst 0, 1) := by decide +kernel
theorem dX1_lay_85 : decode cX1_lay 85 = .ok (.laload, 1) := by decide +kernel
theorem dX1_lay_86 : decode cX1_lay 86 = .ok (.aload_n 0, 1) := by decide +kernel
theorem dX1_lay_87 : decode cX1_lay 87 = .ok (.getfield 33, 3) := by decide +kernel
theorem dX1_lay_90 : decode cX1_lay 90 = .ok (.iload_n 1, 1) := by decide +kernel
theorem dX1_lay_91 : decode cX1_lay 91 = .ok (.isub, 1) := by decide +kernel
theorem dX1_lay_92 : decode cX1_lay 92 = .ok (.lshl, 1) := by decide +kernel
theorem dX1_lay_93 : decode cX1_lay 93 = .ok (.lastore, 1) := by decide +kernel
theorem dX1_lay_94 : decode cX1_lay 94 = .ok (.aload_n 0, 1) := by decide +kernel
theorem dX1_lay_95 : decode cX1_lay 95 = .ok (.getfield 19, 3) := by decide +kernel
theorem dX1_lay_98 : decode cX1_lay 98 = .ok (.iconst 3, 1) := by decide +kernel
theorem dX1_lay_99 : decode cX1_lay 99 = .ok (.lload_n 3, 1) := by decide +kernel
theorem dX1_lay_100 : decode cX1_lay 100 = .ok (.lastore, 1) := by decide +kernel
theorem dX1_lay_101 : decode cX1_lay 101 = .ok (.aload_n 0, 1) := by decide +kernel
theorem dX1_lay_102 : decode cX1_lay 102 = .ok (.getfield 15, 3) := by decide +kernel
theorem dX1_lay_105 : decode cX1_lay 105 = .ok (.iconst 0, 1) := by decide +kernel
theorem dX1_lay_106 : decode cX1_lay 106 = .ok (.iload_n 1, 1) := by decide +kernel
theorem dX1_lay_107 : decode cX1_lay 107 = .ok (.ineg, 1) := by decide +kernel
theorem dX1_lay_108 : decode cX1_lay 108 = .ok (.iastore, 1) := by decide +kernel
theorem dX1_lay_109 : decode cX1_lay 109 = .ok (.aload_n 0, 1) := by decide +kernel
theorem dX1_lay_110 : decode cX1_lay 110 = .ok (.getfield 15, 3) := by decide +kernel
theorem dX1_lay_113 : decode cX1_lay 113 = .ok (.iconst 1, 1) := by decide +kernel
theorem dX1_lay_114 : decode cX1_lay 114 = .ok (.iconst 1, 1) := by decide +kernel
theorem dX1_lay_115 : decode cX1_lay 115 = .ok (.iastore, 1) := by decide +kernel
theorem dX1_lay_116 : decode cX1_lay 116 = .ok (.aload_n 0, 1) := by decide +kernel
theorem dX1_lay_117 : decode cX1_lay 117 = .ok (.getfield 15, 3) := by decide +kernel
theorem dX1_lay_120 : decode cX1_lay 120 = .ok (.iconst 2, 1) := by decide +kernel
theorem dX1_lay_121 : decode cX1_lay 121 = .ok (.iload_n 1, 1) := by decide +kernel
theorem dX1_lay_122 : decode cX1_lay 122 = .ok (.iastore, 1) := by decide +kernel
theorem dX1_lay_123 : decode cX1_lay 123 = .ok (.aload_n 0, 1) := by decide +kernel
theorem dX1_lay_124 : decode cX1_lay 124 = .ok (.getfield 15, 3) := by decide +kernel
theorem dX1_lay_127 : decode cX1_lay 127 = .ok (.iconst 3, 1) := by decide +kernel
theorem dX1_lay_128 : decode cX1_lay 128 = .ok (.iconst (-1), 1) := by decide +kernel
theorem dX1_lay_129 : decode cX1_lay 129 = .ok (.iastore, 1) := by decide +kernel
theorem dX1_lay_130 : decode cX1_lay 130 = .ok (.aload_n 0, 1) := by decide +kernel
theorem dX1_lay_131 : decode cX1_lay 131 = .ok (.invokevirtual 39, 3) := by decide +kernel
theorem dX1_lay_134 : decode cX1_lay 134 = .ok (.return_, 1) := by decide +kernel
theorem dX9_hasRoomFor_0 : decode cX9_hasRoomFor 0 = .ok (.aload_n 0, 1) := by decide +kernel
theorem dX9_hasRoomFor_1 : decode cX9_hasRoomFor 1 = .ok (.getfield 34, 3) := by decide +kernel
theorem dX9_hasRoomFor_4 : decode cX9_hasRoomFor 4 = .ok (.iload_n 1, 1) := by decide +kernel
theorem dX9_hasRoomFor_5 : decode cX9_hasRoomFor 5 = .ok (.iadd, 1) := by decide +kernel
theorem dX9_hasRoomFor_6 : decode cX9_hasRoomFor 6 = .ok (.sipush 500, 3) := by decide +kernel
theorem dX9_hasRoomFor_9 : decode cX9_hasRoomFor 9 = .ok (.if_icmp .gt 7, 3) := by decide +kernel
theorem dX9_hasRoomFor_12 : decode cX9_hasRoomFor 12 = .ok (.iconst 1, 1) := by decide +kernel
theorem dX9_hasRoomFor_13 : decode cX9_hasRoomFor 13 = .ok (.goto 4, 3) := by decide +kernel
theorem dX9_hasRoomFor_16 : decode cX9_hasRoomFor 16 = .ok (.iconst 0, 1) := by decide +kernel
theorem dX9_hasRoomFor_17 : decode cX9_hasRoomFor 17 = .ok (.ireturn, 1) := by decide +kernel
theorem dX9_append_0 : decode cX9_append 0 = .ok (.bipush 24, 2) := by decide +kernel
theorem dX9_append_2 : decode cX9_append 2 = .ok (.istore_n 2, 1) := by decide +kernel
theorem dX9_append_3 : decode cX9_append 3 = .ok (.iload_n 2, 1) := by decide +kernel
theorem dX9_append_4 : decode cX9_append 4 = .ok (.ifCond .lt 45, 3) := by decide +kernel
theorem dX9_append_7 : decode cX9_append 7 = .ok (.aload_n 0, 1) := by decide +kernel
theorem dX9_append_8 : decode cX9_append 8 = .ok (.getfield 34, 3) := by decide +kernel
theorem dX9_append_11 : decode cX9_append 11 = .ok (.sipush 500, 3) := by decide +kernel
theorem dX9_append_14 : decode cX9_append 14 = .ok (.if_icmp .ge 35, 3) := by decide +kernel
theorem dX9_append_17 : decode cX9_append 17 = .ok (.aload_n 0, 1) := by decide +kernel
theorem dX9_append_18 : decode cX9_append 18 = .ok (.getfield 18, 3) := by decide +kernel
theorem dX9_append_21 : decode cX9_append 21 = .ok (.aload_n 0, 1) := by decide +kernel
theorem dX9_append_22 : decode cX9_append 22 = .ok (.getfield 34, 3) := by decide +kernel
theorem dX9_append_25 : decode cX9_append 25 = .ok (.iload_n 1, 1) := by decide +kernel
theorem dX9_append_26 : decode cX9_append 26 = .ok (.iload_n 2, 1) := by decide +kernel
theorem dX9_append_27 : decode cX9_append 27 = .ok (.iushr, 1) := by decide +kernel
theorem dX9_append_28 : decode cX9_append 28 = .ok (.sipush 255, 3) := by decide +kernel
theorem dX9_append_31 : decode cX9_append 31 = .ok (.iand, 1) := by decide +kernel
theorem dX9_append_32 : decode cX9_append 32 = .ok (.iastore, 1) := by decide +kernel
theorem dX9_append_33 : decode cX9_append 33 = .ok (.aload_n 0, 1) := by decide +kernel
theorem dX9_append_34 : decode cX9_append 34 = .ok (.dup, 1) := by decide +kernel
theorem dX9_append_35 : decode cX9_append 35 = .ok (.getfield 34, 3) := by decide +kernel
theorem dX9_append_38 : decode cX9_append 38 = .ok (.iconst 1, 1) := by decide +kernel
theorem dX9_append_39 : decode cX9_append 39 = .ok (.iadd, 1) := by decide +kernel
theorem dX9_append_40 : decode cX9_append 40 = .ok (.putfield 34, 3) := by decide +kernel
theorem dX9_append_43 : decode cX9_append 43 = .ok (.iinc 2 (-8), 3) := by decide +kernel
theorem dX9_append_46 : decode cX9_append 46 = .ok (.goto (-43), 3) := by decide +kernel
theorem dX9_append_49 : decode cX9_append 49 = .ok (.return_, 1) := by decide +kernel
theorem dX10_feed_0 : decode cX10_feed 0 = .ok (.aload_n 0, 1) := by decide +kernel
theorem dX10_feed_1 : decode cX10_feed 1 = .ok (.getfield 10, 3) := by decide +kernel
theorem dX10_feed_4 : decode cX10_feed 4 = .ok (.bipush 20, 2) := by decide +kernel
theorem dX10_feed_6 : decode cX10_feed 6 = .ok (.invokevirtual 96, 3) := by decide +kernel
theorem dX10_feed_9 : decode cX10_feed 9 = .ok (.ifCond .ne 5, 3) := by decide +kernel
theorem dX10_feed_12 : decode cX10_feed 12 = .ok (.iconst (-1), 1) := by decide +kernel
theorem dX10_feed_13 : decode cX10_feed 13 = .ok (.ireturn, 1) := by decide +kernel
theorem dX10_feed_14 : decode cX10_feed 14 = .ok (.aload_n 0, 1) := by decide +kernel
theorem dX10_feed_15 : decode cX10_feed 15 = .ok (.getfield 10, 3) := by decide +kernel
theorem dX10_feed_18 : decode cX10_feed 18 = .ok (.iload_n 1, 1) := by decide +kernel
theorem dX10_feed_19 : decode cX10_feed 19 = .ok (.invokevirtual 100, 3) := by decide +kernel
theorem dX10_feed_22 : decode cX10_feed 22 = .ok (.aload_n 0, 1) := by decide +kernel
theorem dX10_feed_23 : decode cX10_feed 23 = .ok (.getfield 10, 3) := by decide +kernel
theorem dX10_feed_26 : decode cX10_feed 26 = .ok (.iload_n 2, 1) := by decide +kernel
theorem dX10_feed_27 : decode cX10_feed 27 = .ok (.invokevirtual 100, 3) := by decide +kernel
theorem dX10_feed_30 : decode cX10_feed 30 = .ok (.aload_n 0, 1) := by decide +kernel
theorem dX10_feed_31 : decode cX10_feed 31 = .ok (.getfield 10, 3) := by decide +kernel
theorem dX10_feed_34 : decode cX10_feed 34 = .ok (.iload_n 3, 1) := by decide +kernel
theorem dX10_feed_35 : decode cX10_feed 35 = .ok (.invokevirtual 100, 3) := by decide +kernel
theorem dX10_feed_38 : decode cX10_feed 38 = .ok (.aload_n 0, 1) := by decide +kernel
theorem dX10_feed_39 : decode cX10_feed 39 = .ok (.getfield 10, 3) := by decide +kernel
theorem dX10_feed_42 : decode cX10_feed 42 = .ok (.iload 4, 2) := by decide +kernel
theorem dX10_feed_44 : decode cX10_feed 44 = .ok (.invokevirtual 100, 3) := by decide +kernel
theorem dX10_feed_47 : decode cX10_feed 47 = .ok (.aload_n 0, 1) := by decide +kernel
theorem dX10_feed_48 : decode cX10_feed 48 = .ok (.getfield 10, 3) := by decide +kernel
theorem dX10_feed_51 : decode cX10_feed 51 = .ok (.iload 5, 2) := by decide +kernel
theorem dX10_feed_53 : decode cX10_feed 53 = .ok (.invokevirtual 100, 3) := by decide +kernel
theorem dX10_feed_56 : decode cX10_feed 56 = .ok (.aload_n 0, 1) := by decide +kernel
theorem dX10_feed_57 : decode cX10_feed 57 = .ok (.getfield 10, 3) := by decide +kernel
theorem dX10_feed_60 : decode cX10_feed 60 = .ok (.getfield 104, 3) := by decide +kernel
theorem dX10_feed_63 : decode cX10_feed 63 = .ok (.ireturn, 1) := by decide +kernel
theorem dX9_byteAt_0 : decode cX9_byteAt 0 = .ok (.iload_n 1, 1) := by decide +kernel
theorem dX9_byteAt_1 : decode cX9_byteAt 1 = .ok (.ifCond .lt 27, 3) := by decide +kernel
theorem dX9_byteAt_4 : decode cX9_byteAt 4 = .ok (.iload_n 1, 1) := by decide +kernel
theorem dX9_byteAt_5 : decode cX9_byteAt 5 = .ok (.aload_n 0, 1) := by decide +kernel
theorem dX9_byteAt_6 : decode cX9_byteAt 6 = .ok (.getfield 37, 3) := by decide +kernel
theorem dX9_byteAt_9 : decode cX9_byteAt 9 = .ok (.if_icmp .ge 19, 3) := by decide +kernel
theorem dX9_byteAt_12 : decode cX9_byteAt 12 = .ok (.iload_n 1, 1) := by decide +kernel
theorem dX9_byteAt_13 : decode cX9_byteAt 13 = .ok (.sipush 500, 3) := by decide +kernel
theorem dX9_byteAt_16 : decode cX9_byteAt 16 = .ok (.if_icmp .ge 12, 3) := by decide +kernel
theorem dX9_byteAt_19 : decode cX9_byteAt 19 = .ok (.aload_n 0, 1) := by decide +kernel
theorem dX9_byteAt_20 : decode cX9_byteAt 20 = .ok (.getfield 18, 3) := by decide +kernel
theorem dX9_byteAt_23 : decode cX9_byteAt 23 = .ok (.iload_n 1, 1) := by decide +kernel
theorem dX9_byteAt_24 : decode cX9_byteAt 24 = .ok (.iaload, 1) := by decide +kernel
theorem dX9_byteAt_25 : decode cX9_byteAt 25 = .ok (.goto 4, 3) := by decide +kernel
theorem dX9_byteAt_28 : decode cX9_byteAt 28 = .ok (.iconst (-1), 1) := by decide +kernel
theorem dX9_byteAt_29 : decode cX9_byteAt 29 = .ok (.ireturn, 1) := by decide +kernel
theorem dX9_isLetter_0 : decode cX9_isLetter 0 = .ok (.iload_n 0, 1) := by decide +kernel
theorem dX9_isLetter_1 : decode cX9_isLetter 1 = .ok (.bipush 97, 2) := by decide +kernel
theorem dX9_isLetter_3 : decode cX9_isLetter 3 = .ok (.if_icmp .lt 13, 3) := by decide +kernel
theorem dX9_isLetter_6 : decode cX9_isLetter 6 = .ok (.iload_n 0, 1) := by decide +kernel
theorem dX9_isLetter_7 : decode cX9_isLetter 7 = .ok (.bipush 122, 2) := by decide +kernel
theorem dX9_isLetter_9 : decode cX9_isLetter 9 = .ok (.if_icmp .gt 7, 3) := by decide +kernel
theorem dX9_isLetter_12 : decode cX9_isLetter 12 = .ok (.iconst 1, 1) := by decide +kernel
theorem dX9_isLetter_13 : decode cX9_isLetter 13 = .ok (.goto 4, 3) := by decide +kernel
theorem dX9_isLetter_16 : decode cX9_isLetter 16 = .ok (.iconst 0, 1) := by decide +kernel
theorem dX9_isLetter_17 : decode cX9_isLetter 17 = .ok (.ireturn, 1) := by decide +kernel
theorem dX9_letterCode_0 : decode cX9_letterCode 0 = .ok (.iload_n 0, 1) := by decide +kernel
theorem dX9_letterCode_1 : decode cX9_letterCode 1 = .ok (.bipush 97, 2) := by decide +kernel
theorem dX9_letterCode_3 : decode cX9_letterCode 3 = .ok (.isub, 1) := by decide +kernel
theorem dX9_letterCode_4 : decode cX9_letterCode 4 = .ok (.iconst 1, 1) := by decide +kernel
theorem dX9_letterCode_5 : decode cX9_letterCode 5 = .ok (.iadd, 1) := by decide +kernel
theorem dX9_letterCode_6 : decode cX9_letterCode 6 = .ok (.ireturn, 1) := by decide +kernel
theorem dX9_packWord_0 : decode cX9_packWord 0 = .ok (.aload_n 0, 1) := by decide +kernel
theorem dX9_packWord_1 : decode cX9_packWord 1 = .ok (.getfield 40, 3) := by decide +kernel
theorem dX9_packWord_4 : decode cX9_packWord 4 = .ok (.istore_n 1, 1) := by decide +kernel
theorem dX9_packWord_5 : decode cX9_packWord 5 = .ok (.iconst 0, 1) := by decide +kernel
theorem dX9_packWord_6 : decode cX9_packWord 6 = .ok (.istore_n 2, 1) := by decide +kernel
theorem dX9_packWord_7 : decode cX9_packWord 7 = .ok (.aload_n 0, 1) := by decide +kernel
theorem dX9_packWord_8 : decode cX9_packWord 8 = .ok (.getfield 40, 3) := by decide +kernel
theorem dX9_packWord_11 : decode cX9_packWord 11 = .ok (.aload_n 0, 1) := by decide +kernel
theorem dX9_packWord_12 : decode cX9_packWord 12 = .ok (.getfield 37, 3) := by decide +kernel
theorem dX9_packWord_15 : decode cX9_packWord 15 = .ok (.if_icmp .ge 61, 3) := by decide +kernel
theorem dX9_packWord_18 : decode cX9_packWord 18 = .ok (.aload_n 0, 1) := by decide +kernel
theorem dX9_packWord_19 : decode cX9_packWord 19 = .ok (.aload_n 0, 1) := by decide +kernel
theorem dX9_packWord_20 : decode cX9_packWord 20 = .ok (.getfield 40, 3) := by decide +kernel
theorem dX9_packWord_23 : decode cX9_packWord 23 = .ok (.invokevirtual 68, 3) := by decide +kernel
theorem dX9_packWord_26 : decode cX9_packWord 26 = .ok (.invokestatic 72, 3) := by decide +kernel
theorem dX9_packWord_29 : decode cX9_packWord 29 = .ok (.ifCond .eq 47, 3) := by decide +kernel
theorem dX9_packWord_32 : decode cX9_packWord 32 = .ok (.aload_n 0, 1) := by decide +kernel
theorem dX9_packWord_33 : decode cX9_packWord 33 = .ok (.getfield 40, 3) := by decide +kernel
theorem dX9_packWord_36 : decode cX9_packWord 36 = .ok (.iload_n 1, 1) := by decide +kernel
theorem dX9_packWord_37 : decode cX9_packWord 37 = .ok (.isub, 1) := by decide +kernel
theorem dX9_packWord_38 : decode cX9_packWord 38 = .ok (.bipush 6, 2) := by decide +kernel
theorem dX9_packWord_40 : decode cX9_packWord 40 = .ok (.if_icmp .ge 21, 3) := by decide +kernel
theorem dX9_packWord_43 : decode cX9_packWord 43 = .ok (.iload_n 2, 1) := by decide +kernel
theorem dX9_packWord_44 : decode cX9_packWord 44 = .ok (.iconst 5, 1) := by decide +kernel
theorem dX9_packWord_45 : decode cX9_packWord 45 = .ok (.ishl, 1) := by decide +kernel
theorem dX9_packWord_46 : decode cX9_packWord 46 = .ok (.aload_n 0, 1) := by decide +kernel
theorem dX9_packWord_47 : decode cX9_packWord 47 = .ok (.aload_n 0, 1) := by decide +kernel
theorem dX9_packWord_48 : decode cX9_packWord 48 = .ok (.getfield 40, 3) := by decide +kernel
theorem dX9_packWord_51 : decode cX9_packWord 51 = .ok (.invokevirtual 68, 3) := by decide +kernel
theorem dX9_packWord_54 : decode cX9_packWord 54 = .ok (.invokestatic 97, 3) := by decide +kernel
theorem dX9_packWord_57 : decode cX9_packWord 57 = .ok (.ior, 1) := by decide +kernel
theorem dX9_packWord_58 : decode cX9_packWord 58 = .ok (.goto 4, 3) := by decide +kernel
theorem dX9_packWord_61 : decode cX9_packWord 61 = .ok (.iconst 0, 1) := by decide +kernel
theorem dX9_packWord_62 : decode cX9_packWord 62 = .ok (.istore_n 2, 1) := by decide +kernel
theorem dX9_packWord_63 : decode cX9_packWord 63 = .ok (.aload_n 0, 1) := by decide +kernel
theorem dX9_packWord_64 : decode cX9_packWord 64 = .ok (.dup, 1) := by decide +kernel
theorem dX9_packWord_65 : decode cX9_packWord 65 = .ok (.getfield 40, 3) := by decide +kernel
theorem dX9_packWord_68 : decode cX9_packWord 68 = .ok (.iconst 1, 1) := by decide +kernel
theorem dX9_packWord_69 : decode cX9_packWord 69 = .ok (.iadd, 1) := by decide +kernel
theorem dX9_packWord_70 : decode cX9_packWord 70 = .ok (.putfield 40, 3) := by decide +kernel
theorem dX9_packWord_73 : decode cX9_packWord 73 = .ok (.goto (-66), 3) := by decide +kernel
theorem dX9_packWord_76 : decode cX9_packWord 76 = .ok (.iload_n 2, 1) := by decide +kernel
theorem dX9_packWord_77 : decode cX9_packWord 77 = .ok (.ireturn, 1) := by decide +kernel
theorem dX9_indexOfWord_0 : decode cX9_indexOfWord 0 = .ok (.iconst 0, 1) := by decide +kernel
theorem dX9_indexOfWord_1 : decode cX9_indexOfWord 1 = .ok (.istore_n 2, 1) := by decide +kernel
theorem dX9_indexOfWord_2 : decode cX9_indexOfWord 2 = .ok (.iconst 0, 1) := by decide +kernel
theorem dX9_indexOfWord_3 : decode cX9_indexOfWord 3 = .ok (.istore_n 3, 1) := by decide +kernel
theorem dX9_indexOfWord_4 : decode cX9_indexOfWord 4 = .ok (.iconst 0, 1) := by decide +kernel
theorem dX9_indexOfWord_5 : decode cX9_indexOfWord 5 = .ok (.istore 4, 2) := by decide +kernel
theorem dX9_indexOfWord_7 : decode cX9_indexOfWord 7 = .ok (.iload 4, 2) := by decide +kernel
theorem dX9_indexOfWord_9 : decode cX9_indexOfWord 9 = .ok (.aload_n 1, 1) := by decide +kernel
theorem dX9_indexOfWord_10 : decode cX9_indexOfWord 10 = .ok (.invokevirtual 106, 3) := by decide +kernel
theorem dX9_indexOfWord_13 : decode cX9_indexOfWord 13 = .ok (.if_icmp .ge 49, 3) := by decide +kernel
theorem dX9_indexOfWord_16 : decode cX9_indexOfWord 16 = .ok (.aload_n 1, 1) := by decide +kernel
theorem dX9_indexOfWord_17 : decode cX9_indexOfWord 17 = .ok (.iload 4, 2) := by decide +kernel
theorem dX9_indexOfWord_19 : decode cX9_indexOfWord 19 = .ok (.invokevirtual 111, 3) := by decide +kernel
theorem dX9_indexOfWord_22 : decode cX9_indexOfWord 22 = .ok (.istore 5, 2) := by decide +kernel
theorem dX9_indexOfWord_24 : decode cX9_indexOfWord 24 = .ok (.iload 5, 2) := by decide +kernel
theorem dX9_indexOfWord_26 : decode cX9_indexOfWord 26 = .ok (.bipush 32, 2) := by decide +kernel
theorem dX9_indexOfWord_28 : decode cX9_indexOfWord 28 = .ok (.if_icmp .eq 16, 3) := by decide +kernel
theorem dX9_indexOfWord_31 : decode cX9_indexOfWord 31 = .ok (.iload_n 3, 1) := by decide +kernel
theorem dX9_indexOfWord_32 : decode cX9_indexOfWord 32 = .ok (.iconst 5, 1) := by decide +kernel
theorem dX9_indexOfWord_33 : decode cX9_indexOfWord 33 = .ok (.ishl, 1) := by decide +kernel
theorem dX9_indexOfWord_34 : decode cX9_indexOfWord 34 = .ok (.iload 5, 2) := by decide +kernel
theorem dX9_indexOfWord_36 : decode cX9_indexOfWord 36 = .ok (.invokestatic 97, 3) := by decide +kernel
theorem dX9_indexOfWord_39 : decode cX9_indexOfWord 39 = .ok (.ior, 1) := by decide +kernel
theorem dX9_indexOfWord_40 : decode cX9_indexOfWord 40 = .ok (.istore_n 3, 1) := by decide +kernel
theorem dX9_indexOfWord_41 : decode cX9_indexOfWord 41 = .ok (.goto 15, 3) := by decide +kernel
theorem dX9_indexOfWord_44 : decode cX9_indexOfWord 44 = .ok (.iload_n 3, 1) := by decide +kernel
theorem dX9_indexOfWord_45 : decode cX9_indexOfWord 45 = .ok (.iload_n 0, 1) := by decide +kernel
theorem dX9_indexOfWord_46 : decode cX9_indexOfWord 46 = .ok (.if_icmp .ne 5, 3) := by decide +kernel
theorem dX9_indexOfWord_49 : decode cX9_indexOfWord 49 = .ok (.iload_n 2, 1) := by decide +kernel
theorem dX9_indexOfWord_50 : decode cX9_indexOfWord 50 = .ok (.ireturn, 1) := by decide +kernel
theorem dX9_indexOfWord_51 : decode cX9_indexOfWord 51 = .ok (.iinc 2 1, 3) := by decide +kernel
theorem dX9_indexOfWord_54 : decode cX9_indexOfWord 54 = .ok (.iconst 0, 1) := by decide +kernel
theorem dX9_indexOfWord_55 : decode cX9_indexOfWord 55 = .ok (.istore_n 3, 1) := by decide +kernel
theorem dX9_indexOfWord_56 : decode cX9_indexOfWord 56 = .ok (.iinc 4 1, 3) := by decide +kernel
theorem dX9_indexOfWord_59 : decode cX9_indexOfWord 59 = .ok (.goto (-52), 3) := by decide +kernel
theorem dX9_indexOfWord_62 : decode cX9_indexOfWord 62 = .ok (.iconst (-1), 1) := by decide +kernel
theorem dX9_indexOfWord_63 : decode cX9_indexOfWord 63 = .ok (.ireturn, 1) := by decide +kernel
theorem dX9_addToken_0 : decode cX9_addToken 0 = .ok (.aload_n 0, 1) := by decide +kernel
theorem dX9_addToken_1 : decode cX9_addToken 1 = .ok (.getfield 43, 3) := by decide +kernel
theorem dX9_addToken_4 : decode cX9_addToken 4 = .ok (.aload_n 0, 1) := by decide +kernel
theorem dX9_addToken_5 : decode cX9_addToken 5 = .ok (.getfield 22, 3) := by decide +kernel
theorem dX9_addToken_8 : decode cX9_addToken 8 = .ok (.arraylength, 1) := by decide +kernel
theorem dX9_addToken_9 : decode cX9_addToken 9 = .ok (.if_icmp .ge 54, 3) := by decide +kernel
theorem dX9_addToken_12 : decode cX9_addToken 12 = .ok (.aload_n 0, 1) := by decide +kernel
theorem dX9_addToken_13 : decode cX9_addToken 13 = .ok (.getfield 22, 3) := by decide +kernel
theorem dX9_addToken_16 : decode cX9_addToken 16 = .ok (.aload_n 0, 1) := by decide +kernel
theorem dX9_addToken_17 : decode cX9_addToken 17 = .ok (.getfield 43, 3) := by decide +kernel
theorem dX9_addToken_20 : decode cX9_addToken 20 = .ok (.iload_n 1, 1) := by decide +kernel
theorem dX9_addToken_21 : decode cX9_addToken 21 = .ok (.iastore, 1) := by decide +kernel
theorem dX9_addToken_22 : decode cX9_addToken 22 = .ok (.aload_n 0, 1) := by decide +kernel
theorem dX9_addToken_23 : decode cX9_addToken 23 = .ok (.getfield 25, 3) := by decide +kernel
theorem dX9_addToken_26 : decode cX9_addToken 26 = .ok (.aload_n 0, 1) := by decide +kernel
theorem dX9_addToken_27 : decode cX9_addToken 27 = .ok (.getfield 43, 3) := by decide +kernel
theorem dX9_addToken_30 : decode cX9_addToken 30 = .ok (.iload_n 2, 1) := by decide +kernel
theorem dX9_addToken_31 : decode cX9_addToken 31 = .ok (.iastore, 1) := by decide +kernel
theorem dX9_addToken_32 : decode cX9_addToken 32 = .ok (.aload_n 0, 1) := by decide +kernel
theorem dX9_addToken_33 : decode cX9_addToken 33 = .ok (.getfield 28, 3) := by decide +kernel
theorem dX9_addToken_36 : decode cX9_addToken 36 = .ok (.aload_n 0, 1) := by decide +kernel
theorem dX9_addToken_37 : decode cX9_addToken 37 = .ok (.getfield 43, 3) := by decide +kernel
theorem dX9_addToken_40 : decode cX9_addToken 40 = .ok (.iload_n 3, 1) := by decide +kernel
theorem dX9_addToken_41 : decode cX9_addToken 41 = .ok (.iastore, 1) := by decide +kernel
theorem dX9_addToken_42 : decode cX9_addToken 42 = .ok (.aload_n 0, 1) := by decide +kernel
theorem dX9_addToken_43 : decode cX9_addToken 43 = .ok (.getfield 31, 3) := by decide +kernel
theorem dX9_addToken_46 : decode cX9_addToken 46 = .ok (.aload_n 0, 1) := by decide +kernel
theorem dX9_addToken_47 : decode cX9_addToken 47 = .ok (.getfield 43, 3) := by decide +kernel
theorem dX9_addToken_50 : decode cX9_addToken 50 = .ok (.iload 4, 2) := by decide +kernel
theorem dX9_addToken_52 : decode cX9_addToken 52 = .ok (.iastore, 1) := by decide +kernel
theorem dX9_addToken_53 : decode cX9_addToken 53 = .ok (.aload_n 0, 1) := by decide +kernel
theorem dX9_addToken_54 : decode cX9_addToken 54 = .ok (.dup, 1) := by decide +kernel
theorem dX9_addToken_55 : decode cX9_addToken 55 = .ok (.getfield 43, 3) := by decide +kernel
theorem dX9_addToken_58 : decode cX9_addToken 58 = .ok (.iconst 1, 1) := by decide +kernel
theorem dX9_addToken_59 : decode cX9_addToken 59 = .ok (.iadd, 1) := by decide +kernel
theorem dX9_addToken_60 : decode cX9_addToken 60 = .ok (.putfield 43, 3) := by decide +kernel
theorem dX9_addToken_63 : decode cX9_addToken 63 = .ok (.return_, 1) := by decide +kernel
theorem dX9_isDigit_0 : decode cX9_isDigit 0 = .ok (.iload_n 0, 1) := by decide +kernel
theorem dX9_isDigit_1 : decode cX9_isDigit 1 = .ok (.bipush 48, 2) := by decide +kernel
theorem dX9_isDigit_3 : decode cX9_isDigit 3 = .ok (.if_icmp .lt 13, 3) := by decide +kernel
theorem dX9_isDigit_6 : decode cX9_isDigit 6 = .ok (.iload_n 0, 1) := by decide +kernel
theorem dX9_isDigit_7 : decode cX9_isDigit 7 = .ok (.bipush 57, 2) := by decide +kernel
theorem dX9_isDigit_9 : decode cX9_isDigit 9 = .ok (.if_icmp .gt 7, 3) := by decide +kernel
theorem dX9_isDigit_12 : decode cX9_isDigit 12 = .ok (.iconst 1, 1) := by decide +kernel
theorem dX9_isDigit_13 : decode cX9_isDigit 13 = .ok (.goto 4, 3) := by decide +kernel
theorem dX9_isDigit_16 : decode cX9_isDigit 16 = .ok (.iconst 0, 1) := by decide +kernel
theorem dX9_isDigit_17 : decode cX9_isDigit 17 = .ok (.ireturn, 1) := by decide +kernel
theorem dX9_packNumber_0 : decode cX9_packNumber 0 = .ok (.iconst 0, 1) := by decide +kernel
theorem dX9_packNumber_1 : decode cX9_packNumber 1 = .ok (.istore_n 1, 1) := by decide +kernel
theorem dX9_packNumber_2 : decode cX9_packNumber 2 = .ok (.aload_n 0, 1) := by decide +kernel
theorem dX9_packNumber_3 : decode cX9_packNumber 3 = .ok (.getfield 40, 3) := by decide +kernel
theorem dX9_packNumber_6 : decode cX9_packNumber 6 = .ok (.aload_n 0, 1) := by decide +kernel
theorem dX9_packNumber_7 : decode cX9_packNumber 7 = .ok (.getfield 37, 3) := by decide +kernel
theorem dX9_packNumber_10 : decode cX9_packNumber 10 = .ok (.if_icmp .ge 53, 3) := by decide +kernel
theorem dX9_packNumber_13 : decode cX9_packNumber 13 = .ok (.aload_n 0, 1) := by decide +kernel
theorem dX9_packNumber_14 : decode cX9_packNumber 14 = .ok (.aload_n 0, 1) := by decide +kernel
theorem dX9_packNumber_15 : decode cX9_packNumber 15 = .ok (.getfield 40, 3) := by decide +kernel
theorem dX9_packNumber_18 : decode cX9_packNumber 18 = .ok (.invokevirtual 68, 3) := by decide +kernel
theorem dX9_packNumber_21 : decode cX9_packNumber 21 = .ok (.invokestatic 88, 3) := by decide +kernel
theorem dX9_packNumber_24 : decode cX9_packNumber 24 = .ok (.ifCond .eq 39, 3) := by decide +kernel
theorem dX9_packNumber_27 : decode cX9_packNumber 27 = .ok (.sipush 1000, 3) := by decide +kernel
theorem dX9_packNumber_30 : decode cX9_packNumber 30 = .ok (.iload_n 1, 1) := by decide +kernel
theorem dX9_packNumber_31 : decode cX9_packNumber 31 = .ok (.bipush 10, 2) := by decide +kernel
theorem dX9_packNumber_33 : decode cX9_packNumber 33 = .ok (.imul, 1) := by decide +kernel
theorem dX9_packNumber_34 : decode cX9_packNumber 34 = .ok (.aload_n 0, 1) := by decide +kernel
theorem dX9_packNumber_35 : decode cX9_packNumber 35 = .ok (.aload_n 0, 1) := by decide +kernel
theorem dX9_packNumber_36 : decode cX9_packNumber 36 = .ok (.getfield 40, 3) := by decide +kernel
theorem dX9_packNumber_39 : decode cX9_packNumber 39 = .ok (.invokevirtual 68, 3) := by decide +kernel
theorem dX9_packNumber_42 : decode cX9_packNumber 42 = .ok (.iadd, 1) := by decide +kernel
theorem dX9_packNumber_43 : decode cX9_packNumber 43 = .ok (.bipush 48, 2) := by decide +kernel
theorem dX9_packNumber_45 : decode cX9_packNumber 45 = .ok (.isub, 1) := by decide +kernel
theorem dX9_packNumber_46 : decode cX9_packNumber 46 = .ok (.invokestatic 100, 3) := by decide +kernel
theorem dX9_packNumber_49 : decode cX9_packNumber 49 = .ok (.istore_n 1, 1) := by decide +kernel
theorem dX9_packNumber_50 : decode cX9_packNumber 50 = .ok (.aload_n 0, 1) := by decide +kernel
theorem dX9_packNumber_51 : decode cX9_packNumber 51 = .ok (.dup, 1) := by decide +kernel
theorem dX9_packNumber_52 : decode cX9_packNumber 52 = .ok (.getfield 40, 3) := by decide +kernel
theorem dX9_packNumber_55 : decode cX9_packNumber 55 = .ok (.iconst 1, 1) := by decide +kernel
theorem dX9_packNumber_56 : decode cX9_packNumber 56 = .ok (.iadd, 1) := by decide +kernel
theorem dX9_packNumber_57 : decode cX9_packNumber 57 = .ok (.putfield 40, 3) := by decide +kernel
theorem dX9_packNumber_60 : decode cX9_packNumber 60 = .ok (.goto (-58), 3) := by decide +kernel
theorem dX9_packNumber_63 : decode cX9_packNumber 63 = .ok (.iload_n 1, 1) := by decide +kernel
theorem dX9_packNumber_64 : decode cX9_packNumber 64 = .ok (.ireturn, 1) := by decide +kernel
theorem dX9_isBlank_0 : decode cX9_isBlank 0 = .ok (.iload_n 0, 1) := by decide +kernel
theorem dX9_isBlank_1 : decode cX9_isBlank 1 = .ok (.bipush 10, 2) := by decide +kernel
theorem dX9_isBlank_3 : decode cX9_isBlank 3 = .ok (.if_icmp .eq 9, 3) := by decide +kernel
theorem dX9_isBlank_6 : decode cX9_isBlank 6 = .ok (.iload_n 0, 1) := by decide +kernel
theorem dX9_isBlank_7 : decode cX9_isBlank 7 = .ok (.bipush 32, 2) := by decide +kernel
theorem dX9_isBlank_9 : decode cX9_isBlank 9 = .ok (.if_icmp .ne 7, 3) := by decide +kernel
theorem dX9_isBlank_12 : decode cX9_isBlank 12 = .ok (.iconst 1, 1) := by decide +kernel
theorem dX9_isBlank_13 : decode cX9_isBlank 13 = .ok (.goto 4, 3) := by decide +kernel
theorem dX9_isBlank_16 : decode cX9_isBlank 16 = .ok (.iconst 0, 1) := by decide +kernel
theorem dX9_isBlank_17 : decode cX9_isBlank 17 = .ok (.ireturn, 1) := by decide +kernel
theorem dX9_findToken_0 : decode cX9_findToken 0 = .ok (.aload_n 0, 1) := by decide +kernel
theorem dX9_findToken_1 : decode cX9_findToken 1 = .ok (.aload_n 0, 1) := by decide +kernel
theorem dX9_findToken_2 : decode cX9_findToken 2 = .ok (.getfield 40, 3) := by decide +kernel
theorem dX9_findToken_5 : decode cX9_findToken 5 = .ok (.invokevirtual 68, 3) := by decide +kernel
theorem dX9_findToken_8 : decode cX9_findToken 8 = .ok (.istore_n 2, 1) := by decide +kernel
theorem dX9_findToken_9 : decode cX9_findToken 9 = .ok (.aload_n 0, 1) := by decide +kernel
theorem dX9_findToken_10 : decode cX9_findToken 10 = .ok (.getfield 40, 3) := by decide +kernel
theorem dX9_findToken_13 : decode cX9_findToken 13 = .ok (.istore_n 3, 1) := by decide +kernel
theorem dX9_findToken_14 : decode cX9_findToken 14 = .ok (.iload_n 2, 1) := by decide +kernel
theorem dX9_findToken_15 : decode cX9_findToken 15 = .ok (.invokestatic 72, 3) := by decide +kernel
theorem dX9_findToken_18 : decode cX9_findToken 18 = .ok (.ifCond .eq 26, 3) := by decide +kernel
theorem dX9_findToken_21 : decode cX9_findToken 21 = .ok (.aload_n 0, 1) := by decide +kernel
theorem dX9_findToken_22 : decode cX9_findToken 22 = .ok (.invokevirtual 76, 3) := by decide +kernel
theorem dX9_findToken_25 : decode cX9_findToken 25 = .ok (.istore 4, 2) := by decide +kernel
theorem dX9_findToken_27 : decode cX9_findToken 27 = .ok (.aload_n 0, 1) := by decide +kernel
theorem dX9_findToken_28 : decode cX9_findToken 28 = .ok (.iconst 1, 1) := by decide +kernel
theorem dX9_findToken_29 : decode cX9_findToken 29 = .ok (.iload_n 3, 1) := by decide +kernel
theorem dX9_findToken_30 : decode cX9_findToken 30 = .ok (.iload 4, 2) := by decide +kernel
theorem dX9_findToken_32 : decode cX9_findToken 32 = .ok (.iload 4, 2) := by decide +kernel
theorem dX9_findToken_34 : decode cX9_findToken 34 = .ok (.aload_n 1, 1) := by decide +kernel
theorem dX9_findToken_35 : decode cX9_findToken 35 = .ok (.invokestatic 80, 3) := by decide +kernel
theorem dX9_findToken_38 : decode cX9_findToken 38 = .ok (.invokevirtual 84, 3) := by decide +kernel
theorem dX9_findToken_41 : decode cX9_findToken 41 = .ok (.goto 49, 3) := by decide +kernel
theorem dX9_findToken_44 : decode cX9_findToken 44 = .ok (.iload_n 2, 1) := by decide +kernel
theorem dX9_findToken_45 : decode cX9_findToken 45 = .ok (.invokestatic 88, 3) := by decide +kernel
theorem dX9_findToken_48 : decode cX9_findToken 48 = .ok (.ifCond .eq 17, 3) := by decide +kernel
theorem dX9_findToken_51 : decode cX9_findToken 51 = .ok (.aload_n 0, 1) := by decide +kernel
theorem dX9_findToken_52 : decode cX9_findToken 52 = .ok (.iconst 2, 1) := by decide +kernel
theorem dX9_findToken_53 : decode cX9_findToken 53 = .ok (.iload_n 3, 1) := by decide +kernel
theorem dX9_findToken_54 : decode cX9_findToken 54 = .ok (.aload_n 0, 1) := by decide +kernel
theorem dX9_findToken_55 : decode cX9_findToken 55 = .ok (.invokevirtual 91, 3) := by decide +kernel
theorem dX9_findToken_58 : decode cX9_findToken 58 = .ok (.iconst (-1), 1) := by decide +kernel
theorem dX9_findToken_59 : decode cX9_findToken 59 = .ok (.invokevirtual 84, 3) := by decide +kernel
theorem dX9_findToken_62 : decode cX9_findToken 62 = .ok (.goto 28, 3) := by decide +kernel
theorem dX9_findToken_65 : decode cX9_findToken 65 = .ok (.aload_n 0, 1) := by decide +kernel
theorem dX9_findToken_66 : decode cX9_findToken 66 = .ok (.dup, 1) := by decide +kernel
theorem dX9_findToken_67 : decode cX9_findToken 67 = .ok (.getfield 40, 3) := by decide +kernel
theorem dX9_findToken_70 : decode cX9_findToken 70 = .ok (.iconst 1, 1) := by decide +kernel
theorem dX9_findToken_71 : decode cX9_findToken 71 = .ok (.iadd, 1) := by decide +kernel
theorem dX9_findToken_72 : decode cX9_findToken 72 = .ok (.putfield 40, 3) := by decide +kernel
theorem dX9_findToken_75 : decode cX9_findToken 75 = .ok (.iload_n 2, 1) := by decide +kernel
theorem dX9_findToken_76 : decode cX9_findToken 76 = .ok (.invokestatic 94, 3) := by decide +kernel
theorem dX9_findToken_79 : decode cX9_findToken 79 = .ok (.ifCond .ne 11, 3) := by decide +kernel
theorem dX9_findToken_82 : decode cX9_findToken 82 = .ok (.aload_n 0, 1) := by decide +kernel
theorem dX9_findToken_83 : decode cX9_findToken 83 = .ok (.iconst 3, 1) := by decide +kernel
theorem dX9_findToken_84 : decode cX9_findToken 84 = .ok (.iload_n 3, 1) := by decide +kernel
theorem dX9_findToken_85 : decode cX9_findToken 85 = .ok (.iload_n 2, 1) := by decide +kernel
theorem dX9_findToken_86 : decode cX9_findToken 86 = .ok (.iconst (-1), 1) := by decide +kernel
theorem dX9_findToken_87 : decode cX9_findToken 87 = .ok (.invokevirtual 84, 3) := by decide +kernel
theorem dX9_findToken_90 : decode cX9_findToken 90 = .ok (.return_, 1) := by decide +kernel
theorem dX9_advance_0 : decode cX9_advance 0 = .ok (.aload_n 0, 1) := by decide +kernel
theorem dX9_advance_1 : decode cX9_advance 1 = .ok (.getfield 46, 3) := by decide +kernel
theorem dX9_advance_4 : decode cX9_advance 4 = .ok (.ifCond .lt 79, 3) := by decide +kernel
theorem dX9_advance_7 : decode cX9_advance 7 = .ok (.aload_n 0, 1) := by decide +kernel
theorem dX9_advance_8 : decode cX9_advance 8 = .ok (.getfield 46, 3) := by decide +kernel
theorem dX9_advance_11 : decode cX9_advance 11 = .ok (.aload_n 0, 1) := by decide +kernel
theorem dX9_advance_12 : decode cX9_advance 12 = .ok (.getfield 43, 3) := by decide +kernel
theorem dX9_advance_15 : decode cX9_advance 15 = .ok (.if_icmp .ge 68, 3) := by decide +kernel
theorem dX9_advance_18 : decode cX9_advance 18 = .ok (.aload_n 0, 1) := by decide +kernel
theorem dX9_advance_19 : decode cX9_advance 19 = .ok (.aload_n 0, 1) := by decide +kernel
theorem dX9_advance_20 : decode cX9_advance 20 = .ok (.getfield 22, 3) := by decide +kernel
theorem dX9_advance_23 : decode cX9_advance 23 = .ok (.aload_n 0, 1) := by decide +kernel
theorem dX9_advance_24 : decode cX9_advance 24 = .ok (.getfield 46, 3) := by decide +kernel
theorem dX9_advance_27 : decode cX9_advance 27 = .ok (.iaload, 1) := by decide +kernel
theorem dX9_advance_28 : decode cX9_advance 28 = .ok (.putfield 59, 3) := by decide +kernel
theorem dX9_advance_31 : decode cX9_advance 31 = .ok (.aload_n 0, 1) := by decide +kernel
theorem dX9_advance_32 : decode cX9_advance 32 = .ok (.aload_n 0, 1) := by decide +kernel
theorem dX9_advance_33 : decode cX9_advance 33 = .ok (.getfield 25, 3) := by decide +kernel
theorem dX9_advance_36 : decode cX9_advance 36 = .ok (.aload_n 0, 1) := by decide +kernel
theorem dX9_advance_37 : decode cX9_advance 37 = .ok (.getfield 46, 3) := by decide +kernel
theorem dX9_advance_40 : decode cX9_advance 40 = .ok (.iaload, 1) := by decide +kernel
theorem dX9_advance_41 : decode cX9_advance 41 = .ok (.putfield 65, 3) := by decide +kernel
theorem dX9_advance_44 : decode cX9_advance 44 = .ok (.aload_n 0, 1) := by decide +kernel
theorem dX9_advance_45 : decode cX9_advance 45 = .ok (.aload_n 0, 1) := by decide +kernel
theorem dX9_advance_46 : decode cX9_advance 46 = .ok (.getfield 28, 3) := by decide +kernel
theorem dX9_advance_49 : decode cX9_advance 49 = .ok (.aload_n 0, 1) := by decide +kernel
theorem dX9_advance_50 : decode cX9_advance 50 = .ok (.getfield 46, 3) := by decide +kernel
theorem dX9_advance_53 : decode cX9_advance 53 = .ok (.iaload, 1) := by decide +kernel
theorem dX9_advance_54 : decode cX9_advance 54 = .ok (.putfield 62, 3) := by decide +kernel
theorem dX9_advance_57 : decode cX9_advance 57 = .ok (.aload_n 0, 1) := by decide +kernel
theorem dX9_advance_58 : decode cX9_advance 58 = .ok (.aload_n 0, 1) := by decide +kernel
theorem dX9_advance_59 : decode cX9_advance 59 = .ok (.getfield 31, 3) := by decide +kernel
theorem dX9_advance_62 : decode cX9_advance 62 = .ok (.aload_n 0, 1) := by decide +kernel
theorem dX9_advance_63 : decode cX9_advance 63 = .ok (.getfield 46, 3) := by decide +kernel
theorem dX9_advance_66 : decode cX9_advance 66 = .ok (.iaload, 1) := by decide +kernel
theorem dX9_advance_67 : decode cX9_advance 67 = .ok (.putfield 15, 3) := by decide +kernel
theorem dX9_advance_70 : decode cX9_advance 70 = .ok (.aload_n 0, 1) := by decide +kernel
theorem dX9_advance_71 : decode cX9_advance 71 = .ok (.dup, 1) := by decide +kernel
theorem dX9_advance_72 : decode cX9_advance 72 = .ok (.getfield 46, 3) := by decide +kernel
theorem dX9_advance_75 : decode cX9_advance 75 = .ok (.iconst 1, 1) := by decide +kernel
theorem dX9_advance_76 : decode cX9_advance 76 = .ok (.iadd, 1) := by decide +kernel
theorem dX9_advance_77 : decode cX9_advance 77 = .ok (.putfield 46, 3) := by decide +kernel
theorem dX9_advance_80 : decode cX9_advance 80 = .ok (.goto 26, 3) := by decide +kernel
theorem dX9_advance_83 : decode cX9_advance 83 = .ok (.aload_n 0, 1) := by decide +kernel
theorem dX9_advance_84 : decode cX9_advance 84 = .ok (.iconst 0, 1) := by decide +kernel
theorem dX9_advance_85 : decode cX9_advance 85 = .ok (.putfield 59, 3) := by decide +kernel
theorem dX9_advance_88 : decode cX9_advance 88 = .ok (.aload_n 0, 1) := by decide +kernel
theorem dX9_advance_89 : decode cX9_advance 89 = .ok (.aload_n 0, 1) := by decide +kernel
theorem dX9_advance_90 : decode cX9_advance 90 = .ok (.getfield 37, 3) := by decide +kernel
theorem dX9_advance_93 : decode cX9_advance 93 = .ok (.putfield 65, 3) := by decide +kernel
theorem dX9_advance_96 : decode cX9_advance 96 = .ok (.aload_n 0, 1) := by decide +kernel
theorem dX9_advance_97 : decode cX9_advance 97 = .ok (.iconst 0, 1) := by decide +kernel
theorem dX9_advance_98 : decode cX9_advance 98 = .ok (.putfield 62, 3) := by decide +kernel
theorem dX9_advance_101 : decode cX9_advance 101 = .ok (.aload_n 0, 1) := by decide +kernel
theorem dX9_advance_102 : decode cX9_advance 102 = .ok (.iconst (-1), 1) := by decide +kernel
theorem dX9_advance_103 : decode cX9_advance 103 = .ok (.putfield 15, 3) := by decide +kernel
theorem dX9_advance_106 : decode cX9_advance 106 = .ok (.return_, 1) := by decide +kernel
theorem dX9_open_0 : decode cX9_open 0 = .ok (.aload_n 0, 1) := by decide +kernel
theorem dX9_open_1 : decode cX9_open 1 = .ok (.iload_n 1, 1) := by decide +kernel
theorem dX9_open_2 : decode cX9_open 2 = .ok (.putfield 37, 3) := by decide +kernel
theorem dX9_open_5 : decode cX9_open 5 = .ok (.aload_n 0, 1) := by decide +kernel
theorem dX9_open_6 : decode cX9_open 6 = .ok (.iconst 0, 1) := by decide +kernel
theorem dX9_open_7 : decode cX9_open 7 = .ok (.putfield 40, 3) := by decide +kernel
theorem dX9_open_10 : decode cX9_open 10 = .ok (.aload_n 0, 1) := by decide +kernel
theorem dX9_open_11 : decode cX9_open 11 = .ok (.iconst 0, 1) := by decide +kernel
theorem dX9_open_12 : decode cX9_open 12 = .ok (.putfield 43, 3) := by decide +kernel
theorem dX9_open_15 : decode cX9_open 15 = .ok (.aload_n 0, 1) := by decide +kernel
theorem dX9_open_16 : decode cX9_open 16 = .ok (.iconst 0, 1) := by decide +kernel
theorem dX9_open_17 : decode cX9_open 17 = .ok (.putfield 46, 3) := by decide +kernel
theorem dX9_open_20 : decode cX9_open 20 = .ok (.aload_n 0, 1) := by decide +kernel
theorem dX9_open_21 : decode cX9_open 21 = .ok (.iconst 0, 1) := by decide +kernel
theorem dX9_open_22 : decode cX9_open 22 = .ok (.putfield 34, 3) := by decide +kernel
theorem dX9_open_25 : decode cX9_open 25 = .ok (.aload_n 0, 1) := by decide +kernel
theorem dX9_open_26 : decode cX9_open 26 = .ok (.iconst 0, 1) := by decide +kernel
theorem dX9_open_27 : decode cX9_open 27 = .ok (.putfield 49, 3) := by decide +kernel
theorem dX9_open_30 : decode cX9_open 30 = .ok (.aload_n 0, 1) := by decide +kernel
theorem dX9_open_31 : decode cX9_open 31 = .ok (.iconst (-1), 1) := by decide +kernel
theorem dX9_open_32 : decode cX9_open 32 = .ok (.putfield 9, 3) := by decide +kernel
theorem dX9_open_35 : decode cX9_open 35 = .ok (.iconst 0, 1) := by decide +kernel
theorem dX9_open_36 : decode cX9_open 36 = .ok (.istore_n 3, 1) := by decide +kernel
theorem dX9_open_37 : decode cX9_open 37 = .ok (.iload_n 3, 1) := by decide +kernel
theorem dX9_open_38 : decode cX9_open 38 = .ok (.sipush 500, 3) := by decide +kernel
theorem dX9_open_41 : decode cX9_open 41 = .ok (.if_icmp .ge 25, 3) := by decide +kernel
theorem dX9_open_44 : decode cX9_open 44 = .ok (.aload_n 0, 1) := by decide +kernel
theorem dX9_open_45 : decode cX9_open 45 = .ok (.getfield 40, 3) := by decide +kernel
theorem dX9_open_48 : decode cX9_open 48 = .ok (.aload_n 0, 1) := by decide +kernel
theorem dX9_open_49 : decode cX9_open 49 = .ok (.getfield 37, 3) := by decide +kernel
theorem dX9_open_52 : decode cX9_open 52 = .ok (.if_icmp .ge 14, 3) := by decide +kernel
theorem dX9_open_55 : decode cX9_open 55 = .ok (.aload_n 0, 1) := by decide +kernel
theorem dX9_open_56 : decode cX9_open 56 = .ok (.aload_n 2, 1) := by decide +kernel
theorem dX9_open_57 : decode cX9_open 57 = .ok (.invokevirtual 52, 3) := by decide +kernel
theorem dX9_open_60 : decode cX9_open 60 = .ok (.iinc 3 1, 3) := by decide +kernel
theorem dX9_open_63 : decode cX9_open 63 = .ok (.goto (-26), 3) := by decide +kernel
theorem dX9_open_66 : decode cX9_open 66 = .ok (.aload_n 0, 1) := by decide +kernel
theorem dX9_open_67 : decode cX9_open 67 = .ok (.invokevirtual 56, 3) := by decide +kernel
theorem dX9_open_70 : decode cX9_open 70 = .ok (.return_, 1) := by decide +kernel
theorem dX9_refuse_0 : decode cX9_refuse 0 = .ok (.aload_n 0, 1) := by decide +kernel
theorem dX9_refuse_1 : decode cX9_refuse 1 = .ok (.getfield 49, 3) := by decide +kernel
theorem dX9_refuse_4 : decode cX9_refuse 4 = .ok (.ifCond .ne 13, 3) := by decide +kernel
theorem dX9_refuse_7 : decode cX9_refuse 7 = .ok (.aload_n 0, 1) := by decide +kernel
theorem dX9_refuse_8 : decode cX9_refuse 8 = .ok (.iload_n 1, 1) := by decide +kernel
theorem dX9_refuse_9 : decode cX9_refuse 9 = .ok (.putfield 49, 3) := by decide +kernel
theorem dX9_refuse_12 : decode cX9_refuse 12 = .ok (.aload_n 0, 1) := by decide +kernel
theorem dX9_refuse_13 : decode cX9_refuse 13 = .ok (.iload_n 2, 1) := by decide +kernel
theorem dX9_refuse_14 : decode cX9_refuse 14 = .ok (.putfield 9, 3) := by decide +kernel
theorem dX9_refuse_17 : decode cX9_refuse 17 = .ok (.return_, 1) := by decide +kernel
theorem dX6_openLine_0 : decode cX6_openLine 0 = .ok (.aload_n 0, 1) := by decide +kernel
theorem dX6_openLine_1 : decode cX6_openLine 1 = .ok (.getfield 30, 3) := by decide +kernel
theorem dX6_openLine_4 : decode cX6_openLine 4 = .ok (.bipush 30, 2) := by decide +kernel
theorem dX6_openLine_6 : decode cX6_openLine 6 = .ok (.if_icmp .lt 4, 3) := by decide +kernel
theorem dX6_openLine_9 : decode cX6_openLine 9 = .ok (.return_, 1) := by decide +kernel
theorem dX6_openLine_10 : decode cX6_openLine 10 = .ok (.aload_n 0, 1) := by decide +kernel
theorem dX6_openLine_11 : decode cX6_openLine 11 = .ok (.getfield 18, 3) := by decide +kernel
theorem dX6_openLine_14 : decode cX6_openLine 14 = .ok (.aload_n 0, 1) := by decide +kernel
theorem dX6_openLine_15 : decode cX6_openLine 15 = .ok (.getfield 30, 3) := by decide +kernel
theorem dX6_openLine_18 : decode cX6_openLine 18 = .ok (.iconst 0, 1) := by decide +kernel
theorem dX6_openLine_19 : decode cX6_openLine 19 = .ok (.iastore, 1) := by decide +kernel
theorem dX6_openLine_20 : decode cX6_openLine 20 = .ok (.aload_n 0, 1) := by decide +kernel
theorem dX6_openLine_21 : decode cX6_openLine 21 = .ok (.getfield 21, 3) := by decide +kernel
theorem dX6_openLine_24 : decode cX6_openLine 24 = .ok (.aload_n 0, 1) := by decide +kernel
theorem dX6_openLine_25 : decode cX6_openLine 25 = .ok (.getfield 30, 3) := by decide +kernel
theorem dX6_openLine_28 : decode cX6_openLine 28 = .ok (.iconst 0, 1) := by decide +kernel
theorem dX6_openLine_29 : decode cX6_openLine 29 = .ok (.iastore, 1) := by decide +kernel
theorem dX6_openLine_30 : decode cX6_openLine 30 = .ok (.aload_n 0, 1) := by decide +kernel
theorem dX6_openLine_31 : decode cX6_openLine 31 = .ok (.getfield 24, 3) := by decide +kernel
theorem dX6_openLine_34 : decode cX6_openLine 34 = .ok (.aload_n 0, 1) := by decide +kernel
theorem dX6_openLine_35 : decode cX6_openLine 35 = .ok (.getfield 30, 3) := by decide +kernel
theorem dX6_openLine_38 : decode cX6_openLine 38 = .ok (.iconst 0, 1) := by decide +kernel
theorem dX6_openLine_39 : decode cX6_openLine 39 = .ok (.iastore, 1) := by decide +kernel
theorem dX6_openLine_40 : decode cX6_openLine 40 = .ok (.aload_n 0, 1) := by decide +kernel
theorem dX6_openLine_41 : decode cX6_openLine 41 = .ok (.getfield 27, 3) := by decide +kernel
theorem dX6_openLine_44 : decode cX6_openLine 44 = .ok (.aload_n 0, 1) := by decide +kernel
theorem dX6_openLine_45 : decode cX6_openLine 45 = .ok (.getfield 30, 3) := by decide +kernel
theorem dX6_openLine_48 : decode cX6_openLine 48 = .ok (.bipush 100, 2) := by decide +kernel
theorem dX6_openLine_50 : decode cX6_openLine 50 = .ok (.iastore, 1) := by decide +kernel
theorem dX6_openLine_51 : decode cX6_openLine 51 = .ok (.aload_n 0, 1) := by decide +kernel
theorem dX6_openLine_52 : decode cX6_openLine 52 = .ok (.getfield 15, 3) := by decide +kernel
theorem dX6_openLine_55 : decode cX6_openLine 55 = .ok (.aload_n 0, 1) := by decide +kernel
theorem dX6_openLine_56 : decode cX6_openLine 56 = .ok (.getfield 30, 3) := by decide +kernel
theorem dX6_openLine_59 : decode cX6_openLine 59 = .ok (.aload_n 0, 1) := by decide +kernel
theorem dX6_openLine_60 : decode cX6_openLine 60 = .ok (.getfield 30, 3) := by decide +kernel
theorem dX6_openLine_63 : decode cX6_openLine 63 = .ok (.bipush 12, 2) := by decide +kernel
theorem dX6_openLine_65 : decode cX6_openLine 65 = .ok (.imul, 1) := by decide +kernel
theorem dX6_openLine_66 : decode cX6_openLine 66 = .ok (.iastore, 1) := by decide +kernel
theorem dX6_openLine_67 : decode cX6_openLine 67 = .ok (.aload_n 0, 1) := by decide +kernel
theorem dX6_openLine_68 : decode cX6_openLine 68 = .ok (.dup, 1) := by decide +kernel
theorem dX6_openLine_69 : decode cX6_openLine 69 = .ok (.getfield 30, 3) := by decide +kernel
theorem dX6_openLine_72 : decode cX6_openLine 72 = .ok (.iconst 1, 1) := by decide +kernel
theorem dX6_openLine_73 : decode cX6_openLine 73 = .ok (.iadd, 1) := by decide +kernel
theorem dX6_openLine_74 : decode cX6_openLine 74 = .ok (.putfield 30, 3) := by decide +kernel
theorem dX6_openLine_77 : decode cX6_openLine 77 = .ok (.return_, 1) := by decide +kernel
theorem dX7_isTest_0 : decode cX7_isTest 0 = .ok (.iload_n 0, 1) := by decide +kernel
theorem dX7_isTest_1 : decode cX7_isTest 1 = .ok (.iconst 3, 1) := by decide +kernel
theorem dX7_isTest_2 : decode cX7_isTest 2 = .ok (.if_icmp .lt 13, 3) := by decide +kernel
theorem dX7_isTest_5 : decode cX7_isTest 5 = .ok (.iload_n 0, 1) := by decide +kernel
theorem dX7_isTest_6 : decode cX7_isTest 6 = .ok (.bipush 8, 2) := by decide +kernel
theorem dX7_isTest_8 : decode cX7_isTest 8 = .ok (.if_icmp .gt 7, 3) := by decide +kernel
theorem dX7_isTest_11 : decode cX7_isTest 11 = .ok (.iconst 1, 1) := by decide +kernel
theorem dX7_isTest_12 : decode cX7_isTest 12 = .ok (.goto 4, 3) := by decide +kernel
theorem dX7_isTest_15 : decode cX7_isTest 15 = .ok (.iconst 0, 1) := by decide +kernel
theorem dX7_isTest_16 : decode cX7_isTest 16 = .ok (.ireturn, 1) := by decide +kernel
theorem dX7_mostOf_0 : decode cX7_mostOf 0 = .ok (.iload_n 0, 1) := by decide +kernel
theorem dX7_mostOf_1 : decode cX7_mostOf 1 = .ok (.tableswitch 43 6 10 #[41, 38, 35, 41, 41], 35) := by decide +kernel
theorem dX7_mostOf_36 : decode cX7_mostOf 36 = .ok (.bipush 9, 2) := by decide +kernel
theorem dX7_mostOf_38 : decode cX7_mostOf 38 = .ok (.ireturn, 1) := by decide +kernel
theorem dX7_mostOf_39 : decode cX7_mostOf 39 = .ok (.bipush 99, 2) := by decide +kernel
theorem dX7_mostOf_41 : decode cX7_mostOf 41 = .ok (.ireturn, 1) := by decide +kernel
theorem dX7_mostOf_42 : decode cX7_mostOf 42 = .ok (.iconst 2, 1) := by decide +kernel
theorem dX7_mostOf_43 : decode cX7_mostOf 43 = .ok (.ireturn, 1) := by decide +kernel
theorem dX7_mostOf_44 : decode cX7_mostOf 44 = .ok (.iconst (-1), 1) := by decide +kernel
theorem dX7_mostOf_45 : decode cX7_mostOf 45 = .ok (.ireturn, 1) := by decide +kernel
theorem dX7_readNumberOf_0 : decode cX7_readNumberOf 0 = .ok (.aload_n 0, 1) := by decide +kernel
theorem dX7_readNumberOf_1 : decode cX7_readNumberOf 1 = .ok (.getfield 22, 3) := by decide +kernel
theorem dX7_readNumberOf_4 : decode cX7_readNumberOf 4 = .ok (.invokevirtual 63, 3) := by decide +kernel
theorem dX7_readNumberOf_7 : decode cX7_readNumberOf 7 = .ok (.iload_n 1, 1) := by decide +kernel
theorem dX7_readNumberOf_8 : decode cX7_readNumberOf 8 = .ok (.invokestatic 118, 3) := by decide +kernel
theorem dX7_readNumberOf_11 : decode cX7_readNumberOf 11 = .ok (.istore_n 2, 1) := by decide +kernel
theorem dX7_readNumberOf_12 : decode cX7_readNumberOf 12 = .ok (.iload_n 2, 1) := by decide +kernel
theorem dX7_readNumberOf_13 : decode cX7_readNumberOf 13 = .ok (.iconst (-1), 1) := by decide +kernel
theorem dX7_readNumberOf_14 : decode cX7_readNumberOf 14 = .ok (.if_icmp .ne 5, 3) := by decide +kernel
theorem dX7_readNumberOf_17 : decode cX7_readNumberOf 17 = .ok (.iconst 0, 1) := by decide +kernel
theorem dX7_readNumberOf_18 : decode cX7_readNumberOf 18 = .ok (.ireturn, 1) := by decide +kernel
theorem dX7_readNumberOf_19 : decode cX7_readNumberOf 19 = .ok (.aload_n 0, 1) := by decide +kernel
theorem dX7_readNumberOf_20 : decode cX7_readNumberOf 20 = .ok (.getfield 22, 3) := by decide +kernel
theorem dX7_readNumberOf_23 : decode cX7_readNumberOf 23 = .ok (.getfield 121, 3) := by decide +kernel
theorem dX7_readNumberOf_26 : decode cX7_readNumberOf 26 = .ok (.istore_n 3, 1) := by decide +kernel
theorem dX7_readNumberOf_27 : decode cX7_readNumberOf 27 = .ok (.aload_n 0, 1) := by decide +kernel
theorem dX7_readNumberOf_28 : decode cX7_readNumberOf 28 = .ok (.getfield 22, 3) := by decide +kernel
theorem dX7_readNumberOf_31 : decode cX7_readNumberOf 31 = .ok (.getfield 41, 3) := by decide +kernel
theorem dX7_readNumberOf_34 : decode cX7_readNumberOf 34 = .ok (.iconst 2, 1) := by decide +kernel
theorem dX7_readNumberOf_35 : decode cX7_readNumberOf 35 = .ok (.if_icmp .eq 21, 3) := by decide +kernel
theorem dX7_readNumberOf_38 : decode cX7_readNumberOf 38 = .ok (.aload_n 0, 1) := by decide +kernel
theorem dX7_readNumberOf_39 : decode cX7_readNumberOf 39 = .ok (.getfield 22, 3) := by decide +kernel
theorem dX7_readNumberOf_42 : decode cX7_readNumberOf 42 = .ok (.iconst 1, 1) := by decide +kernel
theorem dX7_readNumberOf_43 : decode cX7_readNumberOf 43 = .ok (.aload_n 0, 1) := by decide +kernel
theorem dX7_readNumberOf_44 : decode cX7_readNumberOf 44 = .ok (.getfield 22, 3) := by decide +kernel
theorem dX7_readNumberOf_47 : decode cX7_readNumberOf 47 = .ok (.getfield 50, 3) := by decide +kernel
theorem dX7_readNumberOf_50 : decode cX7_readNumberOf 50 = .ok (.invokevirtual 53, 3) := by decide +kernel
theorem dX7_readNumberOf_53 : decode cX7_readNumberOf 53 = .ok (.goto 33, 3) := by decide +kernel
theorem dX7_readNumberOf_56 : decode cX7_readNumberOf 56 = .ok (.iload_n 3, 1) := by decide +kernel
theorem dX7_readNumberOf_57 : decode cX7_readNumberOf 57 = .ok (.iload_n 2, 1) := by decide +kernel
theorem dX7_readNumberOf_58 : decode cX7_readNumberOf 58 = .ok (.if_icmp .le 21, 3) := by decide +kernel
theorem dX7_readNumberOf_61 : decode cX7_readNumberOf 61 = .ok (.aload_n 0, 1) := by decide +kernel
theorem dX7_readNumberOf_62 : decode cX7_readNumberOf 62 = .ok (.getfield 22, 3) := by decide +kernel
theorem dX7_readNumberOf_65 : decode cX7_readNumberOf 65 = .ok (.iconst 2, 1) := by decide +kernel
theorem dX7_readNumberOf_66 : decode cX7_readNumberOf 66 = .ok (.aload_n 0, 1) := by decide +kernel
theorem dX7_readNumberOf_67 : decode cX7_readNumberOf 67 = .ok (.getfield 22, 3) := by decide +kernel
theorem dX7_readNumberOf_70 : decode cX7_readNumberOf 70 = .ok (.getfield 50, 3) := by decide +kernel
theorem dX7_readNumberOf_73 : decode cX7_readNumberOf 73 = .ok (.invokevirtual 53, 3) := by decide +kernel
theorem dX7_readNumberOf_76 : decode cX7_readNumberOf 76 = .ok (.goto 10, 3) := by decide +kernel
theorem dX7_readNumberOf_79 : decode cX7_readNumberOf 79 = .ok (.aload_n 0, 1) := by decide +kernel
theorem dX7_readNumberOf_80 : decode cX7_readNumberOf 80 = .ok (.getfield 22, 3) := by decide +kernel
theorem dX7_readNumberOf_83 : decode cX7_readNumberOf 83 = .ok (.invokevirtual 63, 3) := by decide +kernel
theorem dX7_readNumberOf_86 : decode cX7_readNumberOf 86 = .ok (.iload_n 3, 1) := by decide +kernel
theorem dX7_readNumberOf_87 : decode cX7_readNumberOf 87 = .ok (.ireturn, 1) := by decide +kernel
theorem dX7_isTold_0 : decode cX7_isTold 0 = .ok (.iconst 0, 1) := by decide +kernel
theorem dX7_isTold_1 : decode cX7_isTold 1 = .ok (.istore_n 2, 1) := by decide +kernel
theorem dX7_isTold_2 : decode cX7_isTold 2 = .ok (.iload_n 2, 1) := by decide +kernel
theorem dX7_isTold_3 : decode cX7_isTold 3 = .ok (.aload_n 0, 1) := by decide +kernel
theorem dX7_isTold_4 : decode cX7_isTold 4 = .ok (.getfield 60, 3) := by decide +kernel
theorem dX7_isTold_7 : decode cX7_isTold 7 = .ok (.if_icmp .ge 21, 3) := by decide +kernel
theorem dX7_isTold_10 : decode cX7_isTold 10 = .ok (.aload_n 0, 1) := by decide +kernel
theorem dX7_isTold_11 : decode cX7_isTold 11 = .ok (.getfield 11, 3) := by decide +kernel
theorem dX7_isTold_14 : decode cX7_isTold 14 = .ok (.iload_n 2, 1) := by decide +kernel
theorem dX7_isTold_15 : decode cX7_isTold 15 = .ok (.iaload, 1) := by decide +kernel
theorem dX7_isTold_16 : decode cX7_isTold 16 = .ok (.iload_n 1, 1) := by decide +kernel
theorem dX7_isTold_17 : decode cX7_isTold 17 = .ok (.if_icmp .ne 5, 3) := by decide +kernel
theorem dX7_isTold_20 : decode cX7_isTold 20 = .ok (.iconst 1, 1) := by decide +kernel
theorem dX7_isTold_21 : decode cX7_isTold 21 = .ok (.ireturn, 1) := by decide +kernel
theorem dX7_isTold_22 : decode cX7_isTold 22 = .ok (.iinc 2 1, 3) := by decide +kernel
theorem dX7_isTold_25 : decode cX7_isTold 25 = .ok (.goto (-23), 3) := by decide +kernel
theorem dX7_isTold_28 : decode cX7_isTold 28 = .ok (.iconst 0, 1) := by decide +kernel
theorem dX7_isTold_29 : decode cX7_isTold 29 = .ok (.ireturn, 1) := by decide +kernel
theorem dX6_addCount_0 : decode cX6_addCount 0 = .ok (.aload_n 0, 1) := by decide +kernel
theorem dX6_addCount_1 : decode cX6_addCount 1 = .ok (.getfield 30, 3) := by decide +kernel
theorem dX6_addCount_4 : decode cX6_addCount 4 = .ok (.iconst 1, 1) := by decide +kernel
theorem dX6_addCount_5 : decode cX6_addCount 5 = .ok (.isub, 1) := by decide +kernel
theorem dX6_addCount_6 : decode cX6_addCount 6 = .ok (.istore_n 3, 1) := by decide +kernel
theorem dX6_addCount_7 : decode cX6_addCount 7 = .ok (.iload_n 3, 1) := by decide +kernel
theorem dX6_addCount_8 : decode cX6_addCount 8 = .ok (.ifCond .ge 4, 3) := by decide +kernel
theorem dX6_addCount_11 : decode cX6_addCount 11 = .ok (.return_, 1) := by decide +kernel
theorem dX6_addCount_12 : decode cX6_addCount 12 = .ok (.iload_n 2, 1) := by decide +kernel
theorem dX6_addCount_13 : decode cX6_addCount 13 = .ok (.ifCond .eq 20, 3) := by decide +kernel
theorem dX6_addCount_16 : decode cX6_addCount 16 = .ok (.iload_n 1, 1) := by decide +kernel
theorem dX6_addCount_17 : decode cX6_addCount 17 = .ok (.aload_n 0, 1) := by decide +kernel
theorem dX6_addCount_18 : decode cX6_addCount 18 = .ok (.getfield 27, 3) := by decide +kernel
theorem dX6_addCount_21 : decode cX6_addCount 21 = .ok (.iload_n 3, 1) := by decide +kernel
theorem dX6_addCount_22 : decode cX6_addCount 22 = .ok (.iaload, 1) := by decide +kernel
theorem dX6_addCount_23 : decode cX6_addCount 23 = .ok (.if_icmp .ge 10, 3) := by decide +kernel
theorem dX6_addCount_26 : decode cX6_addCount 26 = .ok (.aload_n 0, 1) := by decide +kernel
theorem dX6_addCount_27 : decode cX6_addCount 27 = .ok (.getfield 27, 3) := by decide +kernel
theorem dX6_addCount_30 : decode cX6_addCount 30 = .ok (.iload_n 3, 1) := by decide +kernel
theorem dX6_addCount_31 : decode cX6_addCount 31 = .ok (.iload_n 1, 1) := by decide +kernel
theorem dX6_addCount_32 : decode cX6_addCount 32 = .ok (.iastore, 1) := by decide +kernel
theorem dX6_addCount_33 : decode cX6_addCount 33 = .ok (.iload_n 2, 1) := by decide +kernel
theorem dX6_addCount_34 : decode cX6_addCount 34 = .ok (.ifCond .ne 20, 3) := by decide +kernel
theorem dX6_addCount_37 : decode cX6_addCount 37 = .ok (.iload_n 1, 1) := by decide +kernel
theorem dX6_addCount_38 : decode cX6_addCount 38 = .ok (.aload_n 0, 1) := by decide +kernel
theorem dX6_addCount_39 : decode cX6_addCount 39 = .ok (.getfield 24, 3) := by decide +kernel
theorem dX6_addCount_42 : decode cX6_addCount 42 = .ok (.iload_n 3, 1) := by decide +kernel
theorem dX6_addCount_43 : decode cX6_addCount 43 = .ok (.iaload, 1) := by decide +kernel
theorem dX6_addCount_44 : decode cX6_addCount 44 = .ok (.if_icmp .le 10, 3) := by decide +kernel
theorem dX6_addCount_47 : decode cX6_addCount 47 = .ok (.aload_n 0, 1) := by decide +kernel
theorem dX6_addCount_48 : decode cX6_addCount 48 = .ok (.getfield 24, 3) := by decide +kernel
theorem dX6_addCount_51 : decode cX6_addCount 51 = .ok (.iload_n 3, 1) := by decide +kernel
theorem dX6_addCount_52 : decode cX6_addCount 52 = .ok (.iload_n 1, 1) := by decide +kernel
theorem dX6_addCount_53 : decode cX6_addCount 53 = .ok (.iastore, 1) := by decide +kernel
theorem dX6_addCount_54 : decode cX6_addCount 54 = .ok (.return_, 1) := by decide +kernel
theorem dX7_signOf_0 : decode cX7_signOf 0 = .ok (.iload_n 0, 1) := by decide +kernel
theorem dX7_signOf_1 : decode cX7_signOf 1 = .ok (.tableswitch 45 3 6 #[31, 34, 37, 40], 31) := by decide +kernel
theorem dX7_signOf_32 : decode cX7_signOf 32 = .ok (.bipush 10, 2) := by decide +kernel
theorem dX7_signOf_34 : decode cX7_signOf 34 = .ok (.ireturn, 1) := by decide +kernel
theorem dX7_signOf_35 : decode cX7_signOf 35 = .ok (.bipush 11, 2) := by decide +kernel
theorem dX7_signOf_37 : decode cX7_signOf 37 = .ok (.ireturn, 1) := by decide +kernel
theorem dX7_signOf_38 : decode cX7_signOf 38 = .ok (.bipush 12, 2) := by decide +kernel
theorem dX7_signOf_40 : decode cX7_signOf 40 = .ok (.ireturn, 1) := by decide +kernel
theorem dX7_signOf_41 : decode cX7_signOf 41 = .ok (.bipush 13, 2) := by decide +kernel
theorem dX7_signOf_43 : decode cX7_signOf 43 = .ok (.iload_n 1, 1) := by decide +kernel
theorem dX7_signOf_44 : decode cX7_signOf 44 = .ok (.iadd, 1) := by decide +kernel
theorem dX7_signOf_45 : decode cX7_signOf 45 = .ok (.ireturn, 1) := by decide +kernel
theorem dX7_signOf_46 : decode cX7_signOf 46 = .ok (.iload_n 1, 1) := by decide +kernel
theorem dX7_signOf_47 : decode cX7_signOf 47 = .ok (.ireturn, 1) := by decide +kernel
theorem dX6_addSign_0 : decode cX6_addSign 0 = .ok (.aload_n 0, 1) := by decide +kernel
theorem dX6_addSign_1 : decode cX6_addSign 1 = .ok (.getfield 30, 3) := by decide +kernel
theorem dX6_addSign_4 : decode cX6_addSign 4 = .ok (.iconst 1, 1) := by decide +kernel
theorem dX6_addSign_5 : decode cX6_addSign 5 = .ok (.isub, 1) := by decide +kernel
theorem dX6_addSign_6 : decode cX6_addSign 6 = .ok (.istore_n 3, 1) := by decide +kernel
theorem dX6_addSign_7 : decode cX6_addSign 7 = .ok (.iload_n 3, 1) := by decide +kernel
theorem dX6_addSign_8 : decode cX6_addSign 8 = .ok (.ifCond .ge 4, 3) := by decide +kernel
theorem dX6_addSign_11 : decode cX6_addSign 11 = .ok (.return_, 1) := by decide +kernel
theorem dX6_addSign_12 : decode cX6_addSign 12 = .ok (.aload_n 0, 1) := by decide +kernel
theorem dX6_addSign_13 : decode cX6_addSign 13 = .ok (.getfield 18, 3) := by decide +kernel
theorem dX6_addSign_16 : decode cX6_addSign 16 = .ok (.iload_n 3, 1) := by decide +kernel
theorem dX6_addSign_17 : decode cX6_addSign 17 = .ok (.dup2, 1) := by decide +kernel
theorem dX6_addSign_18 : decode cX6_addSign 18 = .ok (.iaload, 1) := by decide +kernel
theorem dX6_addSign_19 : decode cX6_addSign 19 = .ok (.iconst 1, 1) := by decide +kernel
theorem dX6_addSign_20 : decode cX6_addSign 20 = .ok (.iload_n 1, 1) := by decide +kernel
theorem dX6_addSign_21 : decode cX6_addSign 21 = .ok (.ishl, 1) := by decide +kernel
theorem dX6_addSign_22 : decode cX6_addSign 22 = .ok (.ior, 1) := by decide +kernel
theorem dX6_addSign_23 : decode cX6_addSign 23 = .ok (.iastore, 1) := by decide +kernel
theorem dX6_addSign_24 : decode cX6_addSign 24 = .ok (.iload_n 2, 1) := by decide +kernel
theorem dX6_addSign_25 : decode cX6_addSign 25 = .ok (.ifCond .ne 15, 3) := by decide +kernel
theorem dX6_addSign_28 : decode cX6_addSign 28 = .ok (.aload_n 0, 1) := by decide +kernel
theorem dX6_addSign_29 : decode cX6_addSign 29 = .ok (.getfield 21, 3) := by decide +kernel
theorem dX6_addSign_32 : decode cX6_addSign 32 = .ok (.iload_n 3, 1) := by decide +kernel
theorem dX6_addSign_33 : decode cX6_addSign 33 = .ok (.dup2, 1) := by decide +kernel
theorem dX6_addSign_34 : decode cX6_addSign 34 = .ok (.iaload, 1) := by decide +kernel
theorem dX6_addSign_35 : decode cX6_addSign 35 = .ok (.iconst 1, 1) := by decide +kernel
theorem dX6_addSign_36 : decode cX6_addSign 36 = .ok (.iload_n 1, 1) := by decide +kernel
theorem dX6_addSign_37 : decode cX6_addSign 37 = .ok (.ishl, 1) := by decide +kernel
theorem dX6_addSign_38 : decode cX6_addSign 38 = .ok (.ior, 1) := by decide +kernel
theorem dX6_addSign_39 : decode cX6_addSign 39 = .ok (.iastore, 1) := by decide +kernel
theorem dX6_addSign_40 : decode cX6_addSign 40 = .ok (.return_, 1) := by decide +kernel
theorem dX7_takeTest_0 : decode cX7_takeTest 0 = .ok (.iload_n 1, 1) := by decide +kernel
theorem dX7_takeTest_1 : decode cX7_takeTest 1 = .ok (.sipush 128, 3) := by decide +kernel
theorem dX7_takeTest_4 : decode cX7_takeTest 4 = .ok (.imul, 1) := by decide +kernel
theorem dX7_takeTest_5 : decode cX7_takeTest 5 = .ok (.iload_n 2, 1) := by decide +kernel
theorem dX7_takeTest_6 : decode cX7_takeTest 6 = .ok (.iadd, 1) := by decide +kernel
theorem dX7_takeTest_7 : decode cX7_takeTest 7 = .ok (.istore 5, 2) := by decide +kernel
theorem dX7_takeTest_9 : decode cX7_takeTest 9 = .ok (.aload_n 0, 1) := by decide +kernel
theorem dX7_takeTest_10 : decode cX7_takeTest 10 = .ok (.iload 5, 2) := by decide +kernel
theorem dX7_takeTest_12 : decode cX7_takeTest 12 = .ok (.invokevirtual 87, 3) := by decide +kernel
theorem dX7_takeTest_15 : decode cX7_takeTest 15 = .ok (.ifCond .eq 14, 3) := by decide +kernel
theorem dX7_takeTest_18 : decode cX7_takeTest 18 = .ok (.aload_n 0, 1) := by decide +kernel
theorem dX7_takeTest_19 : decode cX7_takeTest 19 = .ok (.getfield 22, 3) := by decide +kernel
theorem dX7_takeTest_22 : decode cX7_takeTest 22 = .ok (.iconst 3, 1) := by decide +kernel
theorem dX7_takeTest_23 : decode cX7_takeTest 23 = .ok (.iload 4, 2) := by decide +kernel
theorem dX7_takeTest_25 : decode cX7_takeTest 25 = .ok (.invokevirtual 53, 3) := by decide +kernel
theorem dX7_takeTest_28 : decode cX7_takeTest 28 = .ok (.return_, 1) := by decide +kernel
theorem dX7_takeTest_29 : decode cX7_takeTest 29 = .ok (.aload_n 0, 1) := by decide +kernel
theorem dX7_takeTest_30 : decode cX7_takeTest 30 = .ok (.getfield 11, 3) := by decide +kernel
theorem dX7_takeTest_33 : decode cX7_takeTest 33 = .ok (.aload_n 0, 1) := by decide +kernel
theorem dX7_takeTest_34 : decode cX7_takeTest 34 = .ok (.getfield 60, 3) := by decide +kernel
theorem dX7_takeTest_37 : decode cX7_takeTest 37 = .ok (.iload 5, 2) := by decide +kernel
theorem dX7_takeTest_39 : decode cX7_takeTest 39 = .ok (.iastore, 1) := by decide +kernel
theorem dX7_takeTest_40 : decode cX7_takeTest 40 = .ok (.aload_n 0, 1) := by decide +kernel
theorem dX7_takeTest_41 : decode cX7_takeTest 41 = .ok (.dup, 1) := by decide +kernel
theorem dX7_takeTest_42 : decode cX7_takeTest 42 = .ok (.getfield 60, 3) := by decide +kernel
theorem dX7_takeTest_45 : decode cX7_takeTest 45 = .ok (.iconst 1, 1) := by decide +kernel
theorem dX7_takeTest_46 : decode cX7_takeTest 46 = .ok (.iadd, 1) := by decide +kernel
theorem dX7_takeTest_47 : decode cX7_takeTest 47 = .ok (.putfield 60, 3) := by decide +kernel
theorem dX7_takeTest_50 : decode cX7_takeTest 50 = .ok (.iload_n 1, 1) := by decide +kernel
theorem dX7_takeTest_51 : decode cX7_takeTest 51 = .ok (.bipush 7, 2) := by decide +kernel
theorem dX7_takeTest_53 : decode cX7_takeTest 53 = .ok (.if_icmp .ne 15, 3) := by decide +kernel
theorem dX7_takeTest_56 : decode cX7_takeTest 56 = .ok (.aload_n 0, 1) := by decide +kernel
theorem dX7_takeTest_57 : decode cX7_takeTest 57 = .ok (.getfield 18, 3) := by decide +kernel
theorem dX7_takeTest_60 : decode cX7_takeTest 60 = .ok (.iload_n 2, 1) := by decide +kernel
theorem dX7_takeTest_61 : decode cX7_takeTest 61 = .ok (.iload_n 3, 1) := by decide +kernel
theorem dX7_takeTest_62 : decode cX7_takeTest 62 = .ok (.invokevirtual 90, 3) := by decide +kernel
theorem dX7_takeTest_65 : decode cX7_takeTest 65 = .ok (.goto 16, 3) := by decide +kernel
theorem dX7_takeTest_68 : decode cX7_takeTest 68 = .ok (.aload_n 0, 1) := by decide +kernel
theorem dX7_takeTest_69 : decode cX7_takeTest 69 = .ok (.getfield 18, 3) := by decide +kernel
theorem dX7_takeTest_72 : decode cX7_takeTest 72 = .ok (.iload_n 1, 1) := by decide +kernel
theorem dX7_takeTest_73 : decode cX7_takeTest 73 = .ok (.iload_n 2, 1) := by decide +kernel
theorem dX7_takeTest_74 : decode cX7_takeTest 74 = .ok (.invokestatic 94, 3) := by decide +kernel
theorem dX7_takeTest_77 : decode cX7_takeTest 77 = .ok (.iload_n 3, 1) := by decide +kernel
theorem dX7_takeTest_78 : decode cX7_takeTest 78 = .ok (.invokevirtual 98, 3) := by decide +kernel
theorem dX7_takeTest_81 : decode cX7_takeTest 81 = .ok (.return_, 1) := by decide +kernel
theorem dX7_readTest_0 : decode cX7_readTest 0 = .ok (.aload_n 0, 1) := by decide +kernel
theorem dX7_readTest_1 : decode cX7_readTest 1 = .ok (.getfield 22, 3) := by decide +kernel
theorem dX7_readTest_4 : decode cX7_readTest 4 = .ok (.getfield 47, 3) := by decide +kernel
theorem dX7_readTest_7 : decode cX7_readTest 7 = .ok (.iconst 2, 1) := by decide +kernel
theorem dX7_readTest_8 : decode cX7_readTest 8 = .ok (.if_icmp .ne 7, 3) := by decide +kernel
theorem dX7_readTest_11 : decode cX7_readTest 11 = .ok (.iconst 1, 1) := by decide +kernel
theorem dX7_readTest_12 : decode cX7_readTest 12 = .ok (.goto 4, 3) := by decide +kernel
theorem dX7_readTest_15 : decode cX7_readTest 15 = .ok (.iconst 0, 1) := by decide +kernel
theorem dX7_readTest_16 : decode cX7_readTest 16 = .ok (.istore_n 1, 1) := by decide +kernel
theorem dX7_readTest_17 : decode cX7_readTest 17 = .ok (.iload_n 1, 1) := by decide +kernel
theorem dX7_readTest_18 : decode cX7_readTest 18 = .ok (.ifCond .ne 32, 3) := by decide +kernel
theorem dX7_readTest_21 : decode cX7_readTest 21 = .ok (.aload_n 0, 1) := by decide +kernel
theorem dX7_readTest_22 : decode cX7_readTest 22 = .ok (.getfield 22, 3) := by decide +kernel
theorem dX7_readTest_25 : decode cX7_readTest 25 = .ok (.getfield 47, 3) := by decide +kernel
theorem dX7_readTest_28 : decode cX7_readTest 28 = .ok (.invokestatic 75, 3) := by decide +kernel
theorem dX7_readTest_31 : decode cX7_readTest 31 = .ok (.ifCond .ne 19, 3) := by decide +kernel
theorem dX7_readTest_34 : decode cX7_readTest 34 = .ok (.aload_n 0, 1) := by decide +kernel
theorem dX7_readTest_35 : decode cX7_readTest 35 = .ok (.getfield 22, 3) := by decide +kernel
theorem dX7_readTest_38 : decode cX7_readTest 38 = .ok (.iconst 1, 1) := by decide +kernel
theorem dX7_readTest_39 : decode cX7_readTest 39 = .ok (.aload_n 0, 1) := by decide +kernel
theorem dX7_readTest_40 : decode cX7_readTest 40 = .ok (.getfield 22, 3) := by decide +kernel
theorem dX7_readTest_43 : decode cX7_readTest 43 = .ok (.getfield 50, 3) := by decide +kernel
theorem dX7_readTest_46 : decode cX7_readTest 46 = .ok (.invokevirtual 53, 3) := by decide +kernel
theorem dX7_readTest_49 : decode cX7_readTest 49 = .ok (.return_, 1) := by decide +kernel
theorem dX7_readTest_50 : decode cX7_readTest 50 = .ok (.aload_n 0, 1) := by decide +kernel
theorem dX7_readTest_51 : decode cX7_readTest 51 = .ok (.getfield 60, 3) := by decide +kernel
theorem dX7_readTest_54 : decode cX7_readTest 54 = .ok (.bipush 12, 2) := by decide +kernel
theorem dX7_readTest_56 : decode cX7_readTest 56 = .ok (.if_icmp .lt 19, 3) := by decide +kernel
theorem dX7_readTest_59 : decode cX7_readTest 59 = .ok (.aload_n 0, 1) := by decide +kernel
theorem dX7_readTest_60 : decode cX7_readTest 60 = .ok (.getfield 22, 3) := by decide +kernel
theorem dX7_readTest_63 : decode cX7_readTest 63 = .ok (.iconst 2, 1) := by decide +kernel
theorem dX7_readTest_64 : decode cX7_readTest 64 = .ok (.aload_n 0, 1) := by decide +kernel
theorem dX7_readTest_65 : decode cX7_readTest 65 = .ok (.getfield 22, 3) := by decide +kernel
theorem dX7_readTest_68 : decode cX7_readTest 68 = .ok (.getfield 50, 3) := by decide +kernel
theorem dX7_readTest_71 : decode cX7_readTest 71 = .ok (.invokevirtual 53, 3) := by decide +kernel
theorem dX7_readTest_74 : decode cX7_readTest 74 = .ok (.return_, 1) := by decide +kernel
theorem dX7_readTest_75 : decode cX7_readTest 75 = .ok (.iload_n 1, 1) := by decide +kernel
theorem dX7_readTest_76 : decode cX7_readTest 76 = .ok (.ifCond .eq 10, 3) := by decide +kernel
theorem dX7_readTest_79 : decode cX7_readTest 79 = .ok (.aload_n 0, 1) := by decide +kernel
theorem dX7_readTest_80 : decode cX7_readTest 80 = .ok (.getfield 22, 3) := by decide +kernel
theorem dX7_readTest_83 : decode cX7_readTest 83 = .ok (.invokevirtual 63, 3) := by decide +kernel
theorem dX7_readTest_86 : decode cX7_readTest 86 = .ok (.aload_n 0, 1) := by decide +kernel
theorem dX7_readTest_87 : decode cX7_readTest 87 = .ok (.getfield 22, 3) := by decide +kernel
theorem dX7_readTest_90 : decode cX7_readTest 90 = .ok (.getfield 47, 3) := by decide +kernel
theorem dX7_readTest_93 : decode cX7_readTest 93 = .ok (.istore_n 2, 1) := by decide +kernel
theorem dX7_readTest_94 : decode cX7_readTest 94 = .ok (.aload_n 0, 1) := by decide +kernel
theorem dX7_readTest_95 : decode cX7_readTest 95 = .ok (.getfield 22, 3) := by decide +kernel
theorem dX7_readTest_98 : decode cX7_readTest 98 = .ok (.getfield 50, 3) := by decide +kernel
theorem dX7_readTest_101 : decode cX7_readTest 101 = .ok (.istore_n 3, 1) := by decide +kernel
theorem dX7_readTest_102 : decode cX7_readTest 102 = .ok (.iload_n 2, 1) := by decide +kernel
theorem dX7_readTest_103 : decode cX7_readTest 103 = .ok (.invokestatic 75, 3) := by decide +kernel
theorem dX7_readTest_106 : decode cX7_readTest 106 = .ok (.ifCond .ne 19, 3) := by decide +kernel
theorem dX7_readTest_109 : decode cX7_readTest 109 = .ok (.aload_n 0, 1) := by decide +kernel
theorem dX7_readTest_110 : decode cX7_readTest 110 = .ok (.getfield 22, 3) := by decide +kernel
theorem dX7_readTest_113 : decode cX7_readTest 113 = .ok (.iconst 1, 1) := by decide +kernel
theorem dX7_readTest_114 : decode cX7_readTest 114 = .ok (.aload_n 0, 1) := by decide +kernel
theorem dX7_readTest_115 : decode cX7_readTest 115 = .ok (.getfield 22, 3) := by decide +kernel
theorem dX7_readTest_118 : decode cX7_readTest 118 = .ok (.getfield 50, 3) := by decide +kernel
theorem dX7_readTest_121 : decode cX7_readTest 121 = .ok (.invokevirtual 53, 3) := by decide +kernel
theorem dX7_readTest_124 : decode cX7_readTest 124 = .ok (.return_, 1) := by decide +kernel
theorem dX7_readTest_125 : decode cX7_readTest 125 = .ok (.aload_n 0, 1) := by decide +kernel
theorem dX7_readTest_126 : decode cX7_readTest 126 = .ok (.iload_n 2, 1) := by decide +kernel
theorem dX7_readTest_127 : decode cX7_readTest 127 = .ok (.invokevirtual 79, 3) := by decide +kernel
theorem dX7_readTest_130 : decode cX7_readTest 130 = .ok (.istore 4, 2) := by decide +kernel
theorem dX7_readTest_132 : decode cX7_readTest 132 = .ok (.aload_n 0, 1) := by decide +kernel
theorem dX7_readTest_133 : decode cX7_readTest 133 = .ok (.getfield 22, 3) := by decide +kernel
theorem dX7_readTest_136 : decode cX7_readTest 136 = .ok (.getfield 38, 3) := by decide +kernel
theorem dX7_readTest_139 : decode cX7_readTest 139 = .ok (.ifCond .ne 12, 3) := by decide +kernel
theorem dX7_readTest_142 : decode cX7_readTest 142 = .ok (.aload_n 0, 1) := by decide +kernel
theorem dX7_readTest_143 : decode cX7_readTest 143 = .ok (.iload_n 2, 1) := by decide +kernel
theorem dX7_readTest_144 : decode cX7_readTest 144 = .ok (.iload 4, 2) := by decide +kernel
theorem dX7_readTest_146 : decode cX7_readTest 146 = .ok (.iload_n 1, 1) := by decide +kernel
theorem dX7_readTest_147 : decode cX7_readTest 147 = .ok (.iload_n 3, 1) := by decide +kernel
theorem dX7_readTest_148 : decode cX7_readTest 148 = .ok (.invokevirtual 83, 3) := by decide +kernel
theorem dX7_readTest_151 : decode cX7_readTest 151 = .ok (.return_, 1) := by decide +kernel
theorem dX7_readTests_0 : decode cX7_readTests 0 = .ok (.iconst 0, 1) := by decide +kernel
theorem dX7_readTests_1 : decode cX7_readTests 1 = .ok (.istore_n 1, 1) := by decide +kernel
theorem dX7_readTests_2 : decode cX7_readTests 2 = .ok (.iload_n 1, 1) := by decide +kernel
theorem dX7_readTests_3 : decode cX7_readTests 3 = .ok (.bipush 12, 2) := by decide +kernel
theorem dX7_readTests_5 : decode cX7_readTests 5 = .ok (.if_icmp .gt 39, 3) := by decide +kernel
theorem dX7_readTests_8 : decode cX7_readTests 8 = .ok (.aload_n 0, 1) := by decide +kernel
theorem dX7_readTests_9 : decode cX7_readTests 9 = .ok (.getfield 22, 3) := by decide +kernel
theorem dX7_readTests_12 : decode cX7_readTests 12 = .ok (.getfield 38, 3) := by decide +kernel
theorem dX7_readTests_15 : decode cX7_readTests 15 = .ok (.ifCond .ne 29, 3) := by decide +kernel
theorem dX7_readTests_18 : decode cX7_readTests 18 = .ok (.iload_n 1, 1) := by decide +kernel
theorem dX7_readTests_19 : decode cX7_readTests 19 = .ok (.ifCond .le 15, 3) := by decide +kernel
theorem dX7_readTests_22 : decode cX7_readTests 22 = .ok (.aload_n 0, 1) := by decide +kernel
theorem dX7_readTests_23 : decode cX7_readTests 23 = .ok (.getfield 22, 3) := by decide +kernel
theorem dX7_readTests_26 : decode cX7_readTests 26 = .ok (.getfield 47, 3) := by decide +kernel
theorem dX7_readTests_29 : decode cX7_readTests 29 = .ok (.iconst 1, 1) := by decide +kernel
theorem dX7_readTests_30 : decode cX7_readTests 30 = .ok (.if_icmp .ne 4, 3) := by decide +kernel
theorem dX7_readTests_33 : decode cX7_readTests 33 = .ok (.return_, 1) := by decide +kernel
theorem dX7_readTests_34 : decode cX7_readTests 34 = .ok (.aload_n 0, 1) := by decide +kernel
theorem dX7_readTests_35 : decode cX7_readTests 35 = .ok (.invokevirtual 72, 3) := by decide +kernel
theorem dX7_readTests_38 : decode cX7_readTests 38 = .ok (.iinc 1 1, 3) := by decide +kernel
theorem dX7_readTests_41 : decode cX7_readTests 41 = .ok (.goto (-39), 3) := by decide +kernel
theorem dX7_readTests_44 : decode cX7_readTests 44 = .ok (.return_, 1) := by decide +kernel
theorem dX9_isSign_0 : decode cX9_isSign 0 = .ok (.aload_n 0, 1) := by decide +kernel
theorem dX9_isSign_1 : decode cX9_isSign 1 = .ok (.getfield 59, 3) := by decide +kernel
theorem dX9_isSign_4 : decode cX9_isSign 4 = .ok (.iconst 3, 1) := by decide +kernel
theorem dX9_isSign_5 : decode cX9_isSign 5 = .ok (.if_icmp .ne 15, 3) := by decide +kernel
theorem dX9_isSign_8 : decode cX9_isSign 8 = .ok (.aload_n 0, 1) := by decide +kernel
theorem dX9_isSign_9 : decode cX9_isSign 9 = .ok (.getfield 62, 3) := by decide +kernel
theorem dX9_isSign_12 : decode cX9_isSign 12 = .ok (.iload_n 1, 1) := by decide +kernel
theorem dX9_isSign_13 : decode cX9_isSign 13 = .ok (.if_icmp .ne 7, 3) := by decide +kernel
theorem dX9_isSign_16 : decode cX9_isSign 16 = .ok (.iconst 1, 1) := by decide +kernel
theorem dX9_isSign_17 : decode cX9_isSign 17 = .ok (.goto 4, 3) := by decide +kernel
theorem dX9_isSign_20 : decode cX9_isSign 20 = .ok (.iconst 0, 1) := by decide +kernel
theorem dX9_isSign_21 : decode cX9_isSign 21 = .ok (.ireturn, 1) := by decide +kernel
theorem dX7_isAct_0 : decode cX7_isAct 0 = .ok (.iload_n 0, 1) := by decide +kernel
theorem dX7_isAct_1 : decode cX7_isAct 1 = .ok (.bipush 8, 2) := by decide +kernel
theorem dX7_isAct_3 : decode cX7_isAct 3 = .ok (.if_icmp .lt 13, 3) := by decide +kernel
theorem dX7_isAct_6 : decode cX7_isAct 6 = .ok (.iload_n 0, 1) := by decide +kernel
theorem dX7_isAct_7 : decode cX7_isAct 7 = .ok (.bipush 19, 2) := by decide +kernel
theorem dX7_isAct_9 : decode cX7_isAct 9 = .ok (.if_icmp .gt 7, 3) := by decide +kernel
theorem dX7_isAct_12 : decode cX7_isAct 12 = .ok (.iconst 1, 1) := by decide +kernel
theorem dX7_isAct_13 : decode cX7_isAct 13 = .ok (.goto 4, 3) := by decide +kernel
theorem dX7_isAct_16 : decode cX7_isAct 16 = .ok (.iconst 0, 1) := by decide +kernel
theorem dX7_isAct_17 : decode cX7_isAct 17 = .ok (.ireturn, 1) := by decide +kernel
theorem dX6_actOf_0 : decode cX6_actOf 0 = .ok (.iload_n 0, 1) := by decide +kernel
theorem dX6_actOf_1 : decode cX6_actOf 1 = .ok (.iconst 4, 1) := by decide +kernel
theorem dX6_actOf_2 : decode cX6_actOf 2 = .ok (.ishl, 1) := by decide +kernel
theorem dX6_actOf_3 : decode cX6_actOf 3 = .ok (.iload_n 1, 1) := by decide +kernel
theorem dX6_actOf_4 : decode cX6_actOf 4 = .ok (.ior, 1) := by decide +kernel
theorem dX6_actOf_5 : decode cX6_actOf 5 = .ok (.ireturn, 1) := by decide +kernel
theorem dX6_addAct_0 : decode cX6_addAct 0 = .ok (.aload_n 0, 1) := by decide +kernel
theorem dX6_addAct_1 : decode cX6_addAct 1 = .ok (.getfield 30, 3) := by decide +kernel
theorem dX6_addAct_4 : decode cX6_addAct 4 = .ok (.iconst 1, 1) := by decide +kernel
theorem dX6_addAct_5 : decode cX6_addAct 5 = .ok (.isub, 1) := by decide +kernel
theorem dX6_addAct_6 : decode cX6_addAct 6 = .ok (.istore_n 2, 1) := by decide +kernel
theorem dX6_addAct_7 : decode cX6_addAct 7 = .ok (.iload_n 2, 1) := by decide +kernel
theorem dX6_addAct_8 : decode cX6_addAct 8 = .ok (.ifCond .lt 19, 3) := by decide +kernel
theorem dX6_addAct_11 : decode cX6_addAct 11 = .ok (.aload_n 0, 1) := by decide +kernel
theorem dX6_addAct_12 : decode cX6_addAct 12 = .ok (.getfield 15, 3) := by decide +kernel
theorem dX6_addAct_15 : decode cX6_addAct 15 = .ok (.iload_n 2, 1) := by decide +kernel
theorem dX6_addAct_16 : decode cX6_addAct 16 = .ok (.iaload, 1) := by decide +kernel
theorem dX6_addAct_17 : decode cX6_addAct 17 = .ok (.aload_n 0, 1) := by decide +kernel
theorem dX6_addAct_18 : decode cX6_addAct 18 = .ok (.getfield 30, 3) := by decide +kernel
theorem dX6_addAct_21 : decode cX6_addAct 21 = .ok (.bipush 12, 2) := by decide +kernel
theorem dX6_addAct_23 : decode cX6_addAct 23 = .ok (.imul, 1) := by decide +kernel
theorem dX6_addAct_24 : decode cX6_addAct 24 = .ok (.if_icmp .lt 4, 3) := by decide +kernel
theorem dX6_addAct_27 : decode cX6_addAct 27 = .ok (.return_, 1) := by decide +kernel
theorem dX6_addAct_28 : decode cX6_addAct 28 = .ok (.aload_n 0, 1) := by decide +kernel
theorem dX6_addAct_29 : decode cX6_addAct 29 = .ok (.getfield 11, 3) := by decide +kernel
theorem dX6_addAct_32 : decode cX6_addAct 32 = .ok (.aload_n 0, 1) := by decide +kernel
theorem dX6_addAct_33 : decode cX6_addAct 33 = .ok (.getfield 15, 3) := by decide +kernel
theorem dX6_addAct_36 : decode cX6_addAct 36 = .ok (.iload_n 2, 1) := by decide +kernel
theorem dX6_addAct_37 : decode cX6_addAct 37 = .ok (.iaload, 1) := by decide +kernel
theorem dX6_addAct_38 : decode cX6_addAct 38 = .ok (.iload_n 1, 1) := by decide +kernel
theorem dX6_addAct_39 : decode cX6_addAct 39 = .ok (.iastore, 1) := by decide +kernel
theorem dX6_addAct_40 : decode cX6_addAct 40 = .ok (.aload_n 0, 1) := by decide +kernel
theorem dX6_addAct_41 : decode cX6_addAct 41 = .ok (.getfield 15, 3) := by decide +kernel
theorem dX6_addAct_44 : decode cX6_addAct 44 = .ok (.iload_n 2, 1) := by decide +kernel
theorem dX6_addAct_45 : decode cX6_addAct 45 = .ok (.dup2, 1) := by decide +kernel
theorem dX6_addAct_46 : decode cX6_addAct 46 = .ok (.iaload, 1) := by decide +kernel
theorem dX6_addAct_47 : decode cX6_addAct 47 = .ok (.iconst 1, 1) := by decide +kernel
theorem dX6_addAct_48 : decode cX6_addAct 48 = .ok (.iadd, 1) := by decide +kernel
theorem dX6_addAct_49 : decode cX6_addAct 49 = .ok (.iastore, 1) := by decide +kernel
theorem dX6_addAct_50 : decode cX6_addAct 50 = .ok (.return_, 1) := by decide +kernel
theorem dX7_readAct_0 : decode cX7_readAct 0 = .ok (.aload_n 0, 1) := by decide +kernel
theorem dX7_readAct_1 : decode cX7_readAct 1 = .ok (.getfield 22, 3) := by decide +kernel
theorem dX7_readAct_4 : decode cX7_readAct 4 = .ok (.getfield 47, 3) := by decide +kernel
theorem dX7_readAct_7 : decode cX7_readAct 7 = .ok (.istore_n 2, 1) := by decide +kernel
theorem dX7_readAct_8 : decode cX7_readAct 8 = .ok (.iload_n 2, 1) := by decide +kernel
theorem dX7_readAct_9 : decode cX7_readAct 9 = .ok (.invokestatic 109, 3) := by decide +kernel
theorem dX7_readAct_12 : decode cX7_readAct 12 = .ok (.ifCond .ne 19, 3) := by decide +kernel
theorem dX7_readAct_15 : decode cX7_readAct 15 = .ok (.aload_n 0, 1) := by decide +kernel
theorem dX7_readAct_16 : decode cX7_readAct 16 = .ok (.getfield 22, 3) := by decide +kernel
theorem dX7_readAct_19 : decode cX7_readAct 19 = .ok (.iconst 1, 1) := by decide +kernel
theorem dX7_readAct_20 : decode cX7_readAct 20 = .ok (.aload_n 0, 1) := by decide +kernel
theorem dX7_readAct_21 : decode cX7_readAct 21 = .ok (.getfield 22, 3) := by decide +kernel
theorem dX7_readAct_24 : decode cX7_readAct 24 = .ok (.getfield 50, 3) := by decide +kernel
theorem dX7_readAct_27 : decode cX7_readAct 27 = .ok (.invokevirtual 53, 3) := by decide +kernel
theorem dX7_readAct_30 : decode cX7_readAct 30 = .ok (.return_, 1) := by decide +kernel
theorem dX7_readAct_31 : decode cX7_readAct 31 = .ok (.iload_n 1, 1) := by decide +kernel
theorem dX7_readAct_32 : decode cX7_readAct 32 = .ok (.bipush 12, 2) := by decide +kernel
theorem dX7_readAct_34 : decode cX7_readAct 34 = .ok (.if_icmp .lt 19, 3) := by decide +kernel
theorem dX7_readAct_37 : decode cX7_readAct 37 = .ok (.aload_n 0, 1) := by decide +kernel
theorem dX7_readAct_38 : decode cX7_readAct 38 = .ok (.getfield 22, 3) := by decide +kernel
theorem dX7_readAct_41 : decode cX7_readAct 41 = .ok (.iconst 2, 1) := by decide +kernel
theorem dX7_readAct_42 : decode cX7_readAct 42 = .ok (.aload_n 0, 1) := by decide +kernel
theorem dX7_readAct_43 : decode cX7_readAct 43 = .ok (.getfield 22, 3) := by decide +kernel
theorem dX7_readAct_46 : decode cX7_readAct 46 = .ok (.getfield 50, 3) := by decide +kernel
theorem dX7_readAct_49 : decode cX7_readAct 49 = .ok (.invokevirtual 53, 3) := by decide +kernel
theorem dX7_readAct_52 : decode cX7_readAct 52 = .ok (.return_, 1) := by decide +kernel
theorem dX7_readAct_53 : decode cX7_readAct 53 = .ok (.aload_n 0, 1) := by decide +kernel
theorem dX7_readAct_54 : decode cX7_readAct 54 = .ok (.iload_n 2, 1) := by decide +kernel
theorem dX7_readAct_55 : decode cX7_readAct 55 = .ok (.invokevirtual 79, 3) := by decide +kernel
theorem dX7_readAct_58 : decode cX7_readAct 58 = .ok (.istore_n 3, 1) := by decide +kernel
theorem dX7_readAct_59 : decode cX7_readAct 59 = .ok (.aload_n 0, 1) := by decide +kernel
theorem dX7_readAct_60 : decode cX7_readAct 60 = .ok (.getfield 22, 3) := by decide +kernel
theorem dX7_readAct_63 : decode cX7_readAct 63 = .ok (.getfield 38, 3) := by decide +kernel
theorem dX7_readAct_66 : decode cX7_readAct 66 = .ok (.ifCond .ne 15, 3) := by decide +kernel
theorem dX7_readAct_69 : decode cX7_readAct 69 = .ok (.aload_n 0, 1) := by decide +kernel
theorem dX7_readAct_70 : decode cX7_readAct 70 = .ok (.getfield 18, 3) := by decide +kernel
theorem dX7_readAct_73 : decode cX7_readAct 73 = .ok (.iload_n 2, 1) := by decide +kernel
theorem dX7_readAct_74 : decode cX7_readAct 74 = .ok (.iload_n 3, 1) := by decide +kernel
theorem dX7_readAct_75 : decode cX7_readAct 75 = .ok (.invokestatic 112, 3) := by decide +kernel
theorem dX7_readAct_78 : decode cX7_readAct 78 = .ok (.invokevirtual 115, 3) := by decide +kernel
theorem dX7_readAct_81 : decode cX7_readAct 81 = .ok (.return_, 1) := by decide +kernel
theorem dX7_readActs_0 : decode cX7_readActs 0 = .ok (.iconst 0, 1) := by decide +kernel
theorem dX7_readActs_1 : decode cX7_readActs 1 = .ok (.istore_n 1, 1) := by decide +kernel
theorem dX7_readActs_2 : decode cX7_readActs 2 = .ok (.iload_n 1, 1) := by decide +kernel
theorem dX7_readActs_3 : decode cX7_readActs 3 = .ok (.bipush 12, 2) := by decide +kernel
theorem dX7_readActs_5 : decode cX7_readActs 5 = .ok (.if_icmp .gt 41, 3) := by decide +kernel
theorem dX7_readActs_8 : decode cX7_readActs 8 = .ok (.aload_n 0, 1) := by decide +kernel
theorem dX7_readActs_9 : decode cX7_readActs 9 = .ok (.getfield 22, 3) := by decide +kernel
theorem dX7_readActs_12 : decode cX7_readActs 12 = .ok (.getfield 38, 3) := by decide +kernel
theorem dX7_readActs_15 : decode cX7_readActs 15 = .ok (.ifCond .ne 31, 3) := by decide +kernel
theorem dX7_readActs_18 : decode cX7_readActs 18 = .ok (.iload_n 1, 1) := by decide +kernel
theorem dX7_readActs_19 : decode cX7_readActs 19 = .ok (.ifCond .le 16, 3) := by decide +kernel
theorem dX7_readActs_22 : decode cX7_readActs 22 = .ok (.aload_n 0, 1) := by decide +kernel
theorem dX7_readActs_23 : decode cX7_readActs 23 = .ok (.getfield 22, 3) := by decide +kernel
theorem dX7_readActs_26 : decode cX7_readActs 26 = .ok (.bipush 59, 2) := by decide +kernel
theorem dX7_readActs_28 : decode cX7_readActs 28 = .ok (.invokevirtual 101, 3) := by decide +kernel
theorem dX7_readActs_31 : decode cX7_readActs 31 = .ok (.ifCond .eq 4, 3) := by decide +kernel
theorem dX7_readActs_34 : decode cX7_readActs 34 = .ok (.return_, 1) := by decide +kernel
theorem dX7_readActs_35 : decode cX7_readActs 35 = .ok (.aload_n 0, 1) := by decide +kernel
theorem dX7_readActs_36 : decode cX7_readActs 36 = .ok (.iload_n 1, 1) := by decide +kernel
theorem dX7_readActs_37 : decode cX7_readActs 37 = .ok (.invokevirtual 105, 3) := by decide +kernel
theorem dX7_readActs_40 : decode cX7_readActs 40 = .ok (.iinc 1 1, 3) := by decide +kernel
theorem dX7_readActs_43 : decode cX7_readActs 43 = .ok (.goto (-41), 3) := by decide +kernel
theorem dX7_readActs_46 : decode cX7_readActs 46 = .ok (.return_, 1) := by decide +kernel
theorem dX7_readLine_0 : decode cX7_readLine 0 = .ok (.aload_n 0, 1) := by decide +kernel
theorem dX7_readLine_1 : decode cX7_readLine 1 = .ok (.getfield 22, 3) := by decide +kernel
theorem dX7_readLine_4 : decode cX7_readLine 4 = .ok (.getfield 47, 3) := by decide +kernel
theorem dX7_readLine_7 : decode cX7_readLine 7 = .ok (.ifCond .ne 7, 3) := by decide +kernel
theorem dX7_readLine_10 : decode cX7_readLine 10 = .ok (.iconst 1, 1) := by decide +kernel
theorem dX7_readLine_11 : decode cX7_readLine 11 = .ok (.goto 4, 3) := by decide +kernel
theorem dX7_readLine_14 : decode cX7_readLine 14 = .ok (.iconst 0, 1) := by decide +kernel
theorem dX7_readLine_15 : decode cX7_readLine 15 = .ok (.istore_n 1, 1) := by decide +kernel
theorem dX7_readLine_16 : decode cX7_readLine 16 = .ok (.iload_n 1, 1) := by decide +kernel
theorem dX7_readLine_17 : decode cX7_readLine 17 = .ok (.ifCond .ne 30, 3) := by decide +kernel
theorem dX7_readLine_20 : decode cX7_readLine 20 = .ok (.aload_n 0, 1) := by decide +kernel
theorem dX7_readLine_21 : decode cX7_readLine 21 = .ok (.getfield 22, 3) := by decide +kernel
theorem dX7_readLine_24 : decode cX7_readLine 24 = .ok (.getfield 47, 3) := by decide +kernel
theorem dX7_readLine_27 : decode cX7_readLine 27 = .ok (.iconst 1, 1) := by decide +kernel
theorem dX7_readLine_28 : decode cX7_readLine 28 = .ok (.if_icmp .eq 19, 3) := by decide +kernel
theorem dX7_readLine_31 : decode cX7_readLine 31 = .ok (.aload_n 0, 1) := by decide +kernel
theorem dX7_readLine_32 : decode cX7_readLine 32 = .ok (.getfield 22, 3) := by decide +kernel
theorem dX7_readLine_35 : decode cX7_readLine 35 = .ok (.iconst 1, 1) := by decide +kernel
theorem dX7_readLine_36 : decode cX7_readLine 36 = .ok (.aload_n 0, 1) := by decide +kernel
theorem dX7_readLine_37 : decode cX7_readLine 37 = .ok (.getfield 22, 3) := by decide +kernel
theorem dX7_readLine_40 : decode cX7_readLine 40 = .ok (.getfield 50, 3) := by decide +kernel
theorem dX7_readLine_43 : decode cX7_readLine 43 = .ok (.invokevirtual 53, 3) := by decide +kernel
theorem dX7_readLine_46 : decode cX7_readLine 46 = .ok (.return_, 1) := by decide +kernel
theorem dX7_readLine_47 : decode cX7_readLine 47 = .ok (.aload_n 0, 1) := by decide +kernel
theorem dX7_readLine_48 : decode cX7_readLine 48 = .ok (.getfield 18, 3) := by decide +kernel
theorem dX7_readLine_51 : decode cX7_readLine 51 = .ok (.getfield 26, 3) := by decide +kernel
theorem dX7_readLine_54 : decode cX7_readLine 54 = .ok (.bipush 30, 2) := by decide +kernel
theorem dX7_readLine_56 : decode cX7_readLine 56 = .ok (.if_icmp .lt 19, 3) := by decide +kernel
theorem dX7_readLine_59 : decode cX7_readLine 59 = .ok (.aload_n 0, 1) := by decide +kernel
theorem dX7_readLine_60 : decode cX7_readLine 60 = .ok (.getfield 22, 3) := by decide +kernel
theorem dX7_readLine_63 : decode cX7_readLine 63 = .ok (.iconst 2, 1) := by decide +kernel
theorem dX7_readLine_64 : decode cX7_readLine 64 = .ok (.aload_n 0, 1) := by decide +kernel
theorem dX7_readLine_65 : decode cX7_readLine 65 = .ok (.getfield 22, 3) := by decide +kernel
theorem dX7_readLine_68 : decode cX7_readLine 68 = .ok (.getfield 50, 3) := by decide +kernel
theorem dX7_readLine_71 : decode cX7_readLine 71 = .ok (.invokevirtual 53, 3) := by decide +kernel
theorem dX7_readLine_74 : decode cX7_readLine 74 = .ok (.return_, 1) := by decide +kernel
theorem dX7_readLine_75 : decode cX7_readLine 75 = .ok (.aload_n 0, 1) := by decide +kernel
theorem dX7_readLine_76 : decode cX7_readLine 76 = .ok (.getfield 18, 3) := by decide +kernel
theorem dX7_readLine_79 : decode cX7_readLine 79 = .ok (.invokevirtual 57, 3) := by decide +kernel
theorem dX7_readLine_82 : decode cX7_readLine 82 = .ok (.aload_n 0, 1) := by decide +kernel
theorem dX7_readLine_83 : decode cX7_readLine 83 = .ok (.iconst 0, 1) := by decide +kernel
theorem dX7_readLine_84 : decode cX7_readLine 84 = .ok (.putfield 60, 3) := by decide +kernel
theorem dX7_readLine_87 : decode cX7_readLine 87 = .ok (.iload_n 1, 1) := by decide +kernel
theorem dX7_readLine_88 : decode cX7_readLine 88 = .ok (.ifCond .eq 14, 3) := by decide +kernel
theorem dX7_readLine_91 : decode cX7_readLine 91 = .ok (.aload_n 0, 1) := by decide +kernel
theorem dX7_readLine_92 : decode cX7_readLine 92 = .ok (.getfield 22, 3) := by decide +kernel
theorem dX7_readLine_95 : decode cX7_readLine 95 = .ok (.invokevirtual 63, 3) := by decide +kernel
theorem dX7_readLine_98 : decode cX7_readLine 98 = .ok (.aload_n 0, 1) := by decide +kernel
theorem dX7_readLine_99 : decode cX7_readLine 99 = .ok (.invokevirtual 66, 3) := by decide +kernel
theorem dX7_readLine_102 : decode cX7_readLine 102 = .ok (.aload_n 0, 1) := by decide +kernel
theorem dX7_readLine_103 : decode cX7_readLine 103 = .ok (.getfield 22, 3) := by decide +kernel
theorem dX7_readLine_106 : decode cX7_readLine 106 = .ok (.getfield 38, 3) := by decide +kernel
theorem dX7_readLine_109 : decode cX7_readLine 109 = .ok (.ifCond .ne 14, 3) := by decide +kernel
theorem dX7_readLine_112 : decode cX7_readLine 112 = .ok (.aload_n 0, 1) := by decide +kernel
theorem dX7_readLine_113 : decode cX7_readLine 113 = .ok (.getfield 22, 3) := by decide +kernel
theorem dX7_readLine_116 : decode cX7_readLine 116 = .ok (.invokevirtual 63, 3) := by decide +kernel
theorem dX7_readLine_119 : decode cX7_readLine 119 = .ok (.aload_n 0, 1) := by decide +kernel
theorem dX7_readLine_120 : decode cX7_readLine 120 = .ok (.invokevirtual 69, 3) := by decide +kernel
theorem dX7_readLine_123 : decode cX7_readLine 123 = .ok (.aload_n 0, 1) := by decide +kernel
theorem dX7_readLine_124 : decode cX7_readLine 124 = .ok (.getfield 22, 3) := by decide +kernel
theorem dX7_readLine_127 : decode cX7_readLine 127 = .ok (.getfield 38, 3) := by decide +kernel
theorem dX7_readLine_130 : decode cX7_readLine 130 = .ok (.ifCond .ne 10, 3) := by decide +kernel
theorem dX7_readLine_133 : decode cX7_readLine 133 = .ok (.aload_n 0, 1) := by decide +kernel
theorem dX7_readLine_134 : decode cX7_readLine 134 = .ok (.getfield 22, 3) := by decide +kernel
theorem dX7_readLine_137 : decode cX7_readLine 137 = .ok (.invokevirtual 63, 3) := by decide +kernel
theorem dX7_readLine_140 : decode cX7_readLine 140 = .ok (.return_, 1) := by decide +kernel
theorem dX7_read_0 : decode cX7_read 0 = .ok (.aload_n 0, 1) := by decide +kernel
theorem dX7_read_1 : decode cX7_read 1 = .ok (.getfield 18, 3) := by decide +kernel
theorem dX7_read_4 : decode cX7_read 4 = .ok (.iconst 0, 1) := by decide +kernel
theorem dX7_read_5 : decode cX7_read 5 = .ok (.putfield 26, 3) := by decide +kernel
theorem dX7_read_8 : decode cX7_read 8 = .ok (.aload_n 0, 1) := by decide +kernel
theorem dX7_read_9 : decode cX7_read 9 = .ok (.getfield 22, 3) := by decide +kernel
theorem dX7_read_12 : decode cX7_read 12 = .ok (.iload_n 1, 1) := by decide +kernel
theorem dX7_read_13 : decode cX7_read 13 = .ok (.ldc 30, 2) := by decide +kernel
theorem dX7_read_15 : decode cX7_read 15 = .ok (.invokevirtual 32, 3) := by decide +kernel
theorem dX7_read_18 : decode cX7_read 18 = .ok (.iconst 0, 1) := by decide +kernel
theorem dX7_read_19 : decode cX7_read 19 = .ok (.istore_n 2, 1) := by decide +kernel
theorem dX7_read_20 : decode cX7_read 20 = .ok (.iload_n 2, 1) := by decide +kernel
theorem dX7_read_21 : decode cX7_read 21 = .ok (.bipush 30, 2) := by decide +kernel
theorem dX7_read_23 : decode cX7_read 23 = .ok (.if_icmp .gt 33, 3) := by decide +kernel
theorem dX7_read_26 : decode cX7_read 26 = .ok (.aload_n 0, 1) := by decide +kernel
theorem dX7_read_27 : decode cX7_read 27 = .ok (.getfield 22, 3) := by decide +kernel
theorem dX7_read_30 : decode cX7_read 30 = .ok (.getfield 38, 3) := by decide +kernel
theorem dX7_read_33 : decode cX7_read 33 = .ok (.ifCond .ne 23, 3) := by decide +kernel
theorem dX7_read_36 : decode cX7_read 36 = .ok (.aload_n 0, 1) := by decide +kernel
theorem dX7_read_37 : decode cX7_read 37 = .ok (.getfield 22, 3) := by decide +kernel
theorem dX7_read_40 : decode cX7_read 40 = .ok (.getfield 41, 3) := by decide +kernel
theorem dX7_read_43 : decode cX7_read 43 = .ok (.ifCond .eq 13, 3) := by decide +kernel
theorem dX7_read_46 : decode cX7_read 46 = .ok (.aload_n 0, 1) := by decide +kernel
theorem dX7_read_47 : decode cX7_read 47 = .ok (.invokevirtual 44, 3) := by decide +kernel
theorem dX7_read_50 : decode cX7_read 50 = .ok (.iinc 2 1, 3) := by decide +kernel
theorem dX7_read_53 : decode cX7_read 53 = .ok (.goto (-33), 3) := by decide +kernel
theorem dX7_read_56 : decode cX7_read 56 = .ok (.aload_n 0, 1) := by decide +kernel
theorem dX7_read_57 : decode cX7_read 57 = .ok (.getfield 22, 3) := by decide +kernel
theorem dX7_read_60 : decode cX7_read 60 = .ok (.getfield 38, 3) := by decide +kernel
theorem dX7_read_63 : decode cX7_read 63 = .ok (.ifCond .ne 7, 3) := by decide +kernel
theorem dX7_read_66 : decode cX7_read 66 = .ok (.iconst 1, 1) := by decide +kernel
theorem dX7_read_67 : decode cX7_read 67 = .ok (.goto 4, 3) := by decide +kernel
theorem dX7_read_70 : decode cX7_read 70 = .ok (.iconst 0, 1) := by decide +kernel
theorem dX7_read_71 : decode cX7_read 71 = .ok (.ireturn, 1) := by decide +kernel
theorem dX7_exchange_0 : decode cX7_exchange 0 = .ok (.aload_n 0, 1) := by decide +kernel
theorem dX7_exchange_1 : decode cX7_exchange 1 = .ok (.getfield 18, 3) := by decide +kernel
theorem dX7_exchange_4 : decode cX7_exchange 4 = .ok (.astore_n 2, 1) := by decide +kernel
theorem dX7_exchange_5 : decode cX7_exchange 5 = .ok (.aload_n 0, 1) := by decide +kernel
theorem dX7_exchange_6 : decode cX7_exchange 6 = .ok (.aload_n 1, 1) := by decide +kernel
theorem dX7_exchange_7 : decode cX7_exchange 7 = .ok (.putfield 18, 3) := by decide +kernel
theorem dX7_exchange_10 : decode cX7_exchange 10 = .ok (.aload_n 2, 1) := by decide +kernel
theorem dX7_exchange_11 : decode cX7_exchange 11 = .ok (.areturn, 1) := by decide +kernel
theorem dX8_forget_0 : decode cX8_forget 0 = .ok (.aload_n 0, 1) := by decide +kernel
theorem dX8_forget_1 : decode cX8_forget 1 = .ok (.iconst 0, 1) := by decide +kernel
theorem dX8_forget_2 : decode cX8_forget 2 = .ok (.putfield 48, 3) := by decide +kernel
theorem dX8_forget_5 : decode cX8_forget 5 = .ok (.aload_n 0, 1) := by decide +kernel
theorem dX8_forget_6 : decode cX8_forget 6 = .ok (.iconst 0, 1) := by decide +kernel
theorem dX8_forget_7 : decode cX8_forget 7 = .ok (.putfield 52, 3) := by decide +kernel
theorem dX8_forget_10 : decode cX8_forget 10 = .ok (.return_, 1) := by decide +kernel
theorem dX10_rules_0 : decode cX10_rules 0 = .ok (.iload_n 1, 1) := by decide +kernel
theorem dX10_rules_1 : decode cX10_rules 1 = .ok (.ifCond .lt 14, 3) := by decide +kernel
theorem dX10_rules_4 : decode cX10_rules 4 = .ok (.iload_n 1, 1) := by decide +kernel
theorem dX10_rules_5 : decode cX10_rules 5 = .ok (.aload_n 0, 1) := by decide +kernel
theorem dX10_rules_6 : decode cX10_rules 6 = .ok (.getfield 10, 3) := by decide +kernel
theorem dX10_rules_9 : decode cX10_rules 9 = .ok (.getfield 104, 3) := by decide +kernel
theorem dX10_rules_12 : decode cX10_rules 12 = .ok (.if_icmp .le 6, 3) := by decide +kernel
theorem dX10_rules_15 : decode cX10_rules 15 = .ok (.bipush (-2), 2) := by decide +kernel
theorem dX10_rules_17 : decode cX10_rules 17 = .ok (.ireturn, 1) := by decide +kernel
theorem dX10_rules_18 : decode cX10_rules 18 = .ok (.aload_n 0, 1) := by decide +kernel
theorem dX10_rules_19 : decode cX10_rules 19 = .ok (.getfield 21, 3) := by decide +kernel
theorem dX10_rules_22 : decode cX10_rules 22 = .ok (.iload_n 1, 1) := by decide +kernel
theorem dX10_rules_23 : decode cX10_rules 23 = .ok (.invokevirtual 108, 3) := by decide +kernel
theorem dX10_rules_26 : decode cX10_rules 26 = .ok (.ifCond .ne 5, 3) := by decide +kernel
theorem dX10_rules_29 : decode cX10_rules 29 = .ok (.iconst (-1), 1) := by decide +kernel
theorem dX10_rules_30 : decode cX10_rules 30 = .ok (.ireturn, 1) := by decide +kernel
theorem dX10_rules_31 : decode cX10_rules 31 = .ok (.aload_n 0, 1) := by decide +kernel
theorem dX10_rules_32 : decode cX10_rules 32 = .ok (.aload_n 0, 1) := by decide +kernel
theorem dX10_rules_33 : decode cX10_rules 33 = .ok (.getfield 21, 3) := by decide +kernel
theorem dX10_rules_36 : decode cX10_rules 36 = .ok (.aload_n 0, 1) := by decide +kernel
theorem dX10_rules_37 : decode cX10_rules 37 = .ok (.getfield 35, 3) := by decide +kernel
