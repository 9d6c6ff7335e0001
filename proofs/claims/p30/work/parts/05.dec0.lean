theorem dX11_feed_0 : decode cX11_feed 0 = .ok (.aload_n 0, 1) := by decide +kernel
theorem dX11_feed_1 : decode cX11_feed 1 = .ok (.iconst 0, 1) := by decide +kernel
theorem dX11_feed_2 : decode cX11_feed 2 = .ok (.putfield 130, 3) := by decide +kernel
theorem dX11_feed_5 : decode cX11_feed 5 = .ok (.aload_n 0, 1) := by decide +kernel
theorem dX11_feed_6 : decode cX11_feed 6 = .ok (.getfield 133, 3) := by decide +kernel
theorem dX11_feed_9 : decode cX11_feed 9 = .ok (.bipush 20, 2) := by decide +kernel
theorem dX11_feed_11 : decode cX11_feed 11 = .ok (.iadd, 1) := by decide +kernel
theorem dX11_feed_12 : decode cX11_feed 12 = .ok (.sipush 500, 3) := by decide +kernel
theorem dX11_feed_15 : decode cX11_feed 15 = .ok (.if_icmp .le 5, 3) := by decide +kernel
theorem dX11_feed_18 : decode cX11_feed 18 = .ok (.iconst (-1), 1) := by decide +kernel
theorem dX11_feed_19 : decode cX11_feed 19 = .ok (.ireturn, 1) := by decide +kernel
theorem dX11_feed_20 : decode cX11_feed 20 = .ok (.iconst 0, 1) := by decide +kernel
theorem dX11_feed_21 : decode cX11_feed 21 = .ok (.istore 6, 2) := by decide +kernel
theorem dX11_feed_23 : decode cX11_feed 23 = .ok (.iload 6, 2) := by decide +kernel
theorem dX11_feed_25 : decode cX11_feed 25 = .ok (.bipush 20, 2) := by decide +kernel
theorem dX11_feed_27 : decode cX11_feed 27 = .ok (.if_icmp .ge 86, 3) := by decide +kernel
theorem dX11_feed_30 : decode cX11_feed 30 = .ok (.iload 6, 2) := by decide +kernel
theorem dX11_feed_32 : decode cX11_feed 32 = .ok (.iconst 4, 1) := by decide +kernel
theorem dX11_feed_33 : decode cX11_feed 33 = .ok (.if_icmp .ge 7, 3) := by decide +kernel
theorem dX11_feed_36 : decode cX11_feed 36 = .ok (.iload_n 1, 1) := by decide +kernel
theorem dX11_feed_37 : decode cX11_feed 37 = .ok (.goto 39, 3) := by decide +kernel
theorem dX11_feed_40 : decode cX11_feed 40 = .ok (.iload 6, 2) := by decide +kernel
theorem dX11_feed_42 : decode cX11_feed 42 = .ok (.bipush 8, 2) := by decide +kernel
theorem dX11_feed_44 : decode cX11_feed 44 = .ok (.if_icmp .ge 7, 3) := by decide +kernel
theorem dX11_feed_47 : decode cX11_feed 47 = .ok (.iload_n 2, 1) := by decide +kernel
theorem dX11_feed_48 : decode cX11_feed 48 = .ok (.goto 28, 3) := by decide +kernel
theorem dX11_feed_51 : decode cX11_feed 51 = .ok (.iload 6, 2) := by decide +kernel
theorem dX11_feed_53 : decode cX11_feed 53 = .ok (.bipush 12, 2) := by decide +kernel
theorem dX11_feed_55 : decode cX11_feed 55 = .ok (.if_icmp .ge 7, 3) := by decide +kernel
theorem dX11_feed_58 : decode cX11_feed 58 = .ok (.iload_n 3, 1) := by decide +kernel
theorem dX11_feed_59 : decode cX11_feed 59 = .ok (.goto 17, 3) := by decide +kernel
theorem dX11_feed_62 : decode cX11_feed 62 = .ok (.iload 6, 2) := by decide +kernel
theorem dX11_feed_64 : decode cX11_feed 64 = .ok (.bipush 16, 2) := by decide +kernel
theorem dX11_feed_66 : decode cX11_feed 66 = .ok (.if_icmp .ge 8, 3) := by decide +kernel
theorem dX11_feed_69 : decode cX11_feed 69 = .ok (.iload 4, 2) := by decide +kernel
theorem dX11_feed_71 : decode cX11_feed 71 = .ok (.goto 5, 3) := by decide +kernel
theorem dX11_feed_74 : decode cX11_feed 74 = .ok (.iload 5, 2) := by decide +kernel
theorem dX11_feed_76 : decode cX11_feed 76 = .ok (.istore 7, 2) := by decide +kernel
theorem dX11_feed_78 : decode cX11_feed 78 = .ok (.aload_n 0, 1) := by decide +kernel
theorem dX11_feed_79 : decode cX11_feed 79 = .ok (.getfield 7, 3) := by decide +kernel
theorem dX11_feed_82 : decode cX11_feed 82 = .ok (.aload_n 0, 1) := by decide +kernel
theorem dX11_feed_83 : decode cX11_feed 83 = .ok (.getfield 133, 3) := by decide +kernel
theorem dX11_feed_86 : decode cX11_feed 86 = .ok (.iload 6, 2) := by decide +kernel
theorem dX11_feed_88 : decode cX11_feed 88 = .ok (.iadd, 1) := by decide +kernel
theorem dX11_feed_89 : decode cX11_feed 89 = .ok (.iload 7, 2) := by decide +kernel
theorem dX11_feed_91 : decode cX11_feed 91 = .ok (.bipush 24, 2) := by decide +kernel
theorem dX11_feed_93 : decode cX11_feed 93 = .ok (.bipush 8, 2) := by decide +kernel
theorem dX11_feed_95 : decode cX11_feed 95 = .ok (.iload 6, 2) := by decide +kernel
theorem dX11_feed_97 : decode cX11_feed 97 = .ok (.iconst 4, 1) := by decide +kernel
theorem dX11_feed_98 : decode cX11_feed 98 = .ok (.irem, 1) := by decide +kernel
theorem dX11_feed_99 : decode cX11_feed 99 = .ok (.imul, 1) := by decide +kernel
theorem dX11_feed_100 : decode cX11_feed 100 = .ok (.isub, 1) := by decide +kernel
theorem dX11_feed_101 : decode cX11_feed 101 = .ok (.ishr, 1) := by decide +kernel
theorem dX11_feed_102 : decode cX11_feed 102 = .ok (.sipush 255, 3) := by decide +kernel
theorem dX11_feed_105 : decode cX11_feed 105 = .ok (.iand, 1) := by decide +kernel
theorem dX11_feed_106 : decode cX11_feed 106 = .ok (.iastore, 1) := by decide +kernel
theorem dX11_feed_107 : decode cX11_feed 107 = .ok (.iinc 6 1, 3) := by decide +kernel
theorem dX11_feed_110 : decode cX11_feed 110 = .ok (.goto (-87), 3) := by decide +kernel
theorem dX11_feed_113 : decode cX11_feed 113 = .ok (.aload_n 0, 1) := by decide +kernel
theorem dX11_feed_114 : decode cX11_feed 114 = .ok (.dup, 1) := by decide +kernel
theorem dX11_feed_115 : decode cX11_feed 115 = .ok (.getfield 133, 3) := by decide +kernel
theorem dX11_feed_118 : decode cX11_feed 118 = .ok (.bipush 20, 2) := by decide +kernel
theorem dX11_feed_120 : decode cX11_feed 120 = .ok (.iadd, 1) := by decide +kernel
theorem dX11_feed_121 : decode cX11_feed 121 = .ok (.putfield 133, 3) := by decide +kernel
theorem dX11_feed_124 : decode cX11_feed 124 = .ok (.aload_n 0, 1) := by decide +kernel
theorem dX11_feed_125 : decode cX11_feed 125 = .ok (.getfield 133, 3) := by decide +kernel
theorem dX11_feed_128 : decode cX11_feed 128 = .ok (.ireturn, 1) := by decide +kernel
theorem dX11_isIn_0 : decode cX11_isIn 0 = .ok (.iload_n 0, 1) := by decide +kernel
theorem dX11_isIn_1 : decode cX11_isIn 1 = .ok (.iload_n 1, 1) := by decide +kernel
theorem dX11_isIn_2 : decode cX11_isIn 2 = .ok (.if_icmp .lt 12, 3) := by decide +kernel
theorem dX11_isIn_5 : decode cX11_isIn 5 = .ok (.iload_n 0, 1) := by decide +kernel
theorem dX11_isIn_6 : decode cX11_isIn 6 = .ok (.iload_n 2, 1) := by decide +kernel
theorem dX11_isIn_7 : decode cX11_isIn 7 = .ok (.if_icmp .gt 7, 3) := by decide +kernel
theorem dX11_isIn_10 : decode cX11_isIn 10 = .ok (.iconst 1, 1) := by decide +kernel
theorem dX11_isIn_11 : decode cX11_isIn 11 = .ok (.goto 4, 3) := by decide +kernel
theorem dX11_isIn_14 : decode cX11_isIn 14 = .ok (.iconst 0, 1) := by decide +kernel
theorem dX11_isIn_15 : decode cX11_isIn 15 = .ok (.ireturn, 1) := by decide +kernel
theorem dX11_isOf_0 : decode cX11_isOf 0 = .ok (.iload_n 0, 1) := by decide +kernel
theorem dX11_isOf_1 : decode cX11_isOf 1 = .ok (.iload_n 1, 1) := by decide +kernel
theorem dX11_isOf_2 : decode cX11_isOf 2 = .ok (.ishr, 1) := by decide +kernel
theorem dX11_isOf_3 : decode cX11_isOf 3 = .ok (.iconst 1, 1) := by decide +kernel
theorem dX11_isOf_4 : decode cX11_isOf 4 = .ok (.iand, 1) := by decide +kernel
theorem dX11_isOf_5 : decode cX11_isOf 5 = .ok (.iconst 1, 1) := by decide +kernel
theorem dX11_isOf_6 : decode cX11_isOf 6 = .ok (.if_icmp .ne 7, 3) := by decide +kernel
theorem dX11_isOf_9 : decode cX11_isOf 9 = .ok (.iconst 1, 1) := by decide +kernel
theorem dX11_isOf_10 : decode cX11_isOf 10 = .ok (.goto 4, 3) := by decide +kernel
theorem dX11_isOf_13 : decode cX11_isOf 13 = .ok (.iconst 0, 1) := by decide +kernel
theorem dX11_isOf_14 : decode cX11_isOf 14 = .ok (.ireturn, 1) := by decide +kernel
theorem dX11_wrong_0 : decode cX11_wrong 0 = .ok (.aload_n 0, 1) := by decide +kernel
theorem dX11_wrong_1 : decode cX11_wrong 1 = .ok (.iload_n 1, 1) := by decide +kernel
theorem dX11_wrong_2 : decode cX11_wrong 2 = .ok (.putfield 136, 3) := by decide +kernel
theorem dX11_wrong_5 : decode cX11_wrong 5 = .ok (.aload_n 0, 1) := by decide +kernel
theorem dX11_wrong_6 : decode cX11_wrong 6 = .ok (.aload_n 0, 1) := by decide +kernel
theorem dX11_wrong_7 : decode cX11_wrong 7 = .ok (.getfield 139, 3) := by decide +kernel
theorem dX11_wrong_10 : decode cX11_wrong 10 = .ok (.putfield 16, 3) := by decide +kernel
theorem dX11_wrong_13 : decode cX11_wrong 13 = .ok (.iconst 0, 1) := by decide +kernel
theorem dX11_wrong_14 : decode cX11_wrong 14 = .ok (.ireturn, 1) := by decide +kernel
theorem dX11_wordAt_0 : decode cX11_wordAt 0 = .ok (.iconst 0, 1) := by decide +kernel
theorem dX11_wordAt_1 : decode cX11_wordAt 1 = .ok (.istore_n 3, 1) := by decide +kernel
theorem dX11_wordAt_2 : decode cX11_wordAt 2 = .ok (.iconst 0, 1) := by decide +kernel
theorem dX11_wordAt_3 : decode cX11_wordAt 3 = .ok (.istore 4, 2) := by decide +kernel
theorem dX11_wordAt_5 : decode cX11_wordAt 5 = .ok (.iload 4, 2) := by decide +kernel
theorem dX11_wordAt_7 : decode cX11_wordAt 7 = .ok (.aload_n 0, 1) := by decide +kernel
theorem dX11_wordAt_8 : decode cX11_wordAt 8 = .ok (.getfield 13, 3) := by decide +kernel
theorem dX11_wordAt_11 : decode cX11_wordAt 11 = .ok (.arraylength, 1) := by decide +kernel
theorem dX11_wordAt_12 : decode cX11_wordAt 12 = .ok (.if_icmp .ge 114, 3) := by decide +kernel
theorem dX11_wordAt_15 : decode cX11_wordAt 15 = .ok (.iconst 0, 1) := by decide +kernel
theorem dX11_wordAt_16 : decode cX11_wordAt 16 = .ok (.istore 5, 2) := by decide +kernel
theorem dX11_wordAt_18 : decode cX11_wordAt 18 = .ok (.aload_n 0, 1) := by decide +kernel
theorem dX11_wordAt_19 : decode cX11_wordAt 19 = .ok (.getfield 13, 3) := by decide +kernel
theorem dX11_wordAt_22 : decode cX11_wordAt 22 = .ok (.iload 4, 2) := by decide +kernel
theorem dX11_wordAt_24 : decode cX11_wordAt 24 = .ok (.iload 5, 2) := by decide +kernel
theorem dX11_wordAt_26 : decode cX11_wordAt 26 = .ok (.iadd, 1) := by decide +kernel
theorem dX11_wordAt_27 : decode cX11_wordAt 27 = .ok (.iaload, 1) := by decide +kernel
theorem dX11_wordAt_28 : decode cX11_wordAt 28 = .ok (.bipush 32, 2) := by decide +kernel
theorem dX11_wordAt_30 : decode cX11_wordAt 30 = .ok (.if_icmp .eq 9, 3) := by decide +kernel
theorem dX11_wordAt_33 : decode cX11_wordAt 33 = .ok (.iinc 5 1, 3) := by decide +kernel
theorem dX11_wordAt_36 : decode cX11_wordAt 36 = .ok (.goto (-18), 3) := by decide +kernel
theorem dX11_wordAt_39 : decode cX11_wordAt 39 = .ok (.iload 5, 2) := by decide +kernel
theorem dX11_wordAt_41 : decode cX11_wordAt 41 = .ok (.iload_n 2, 1) := by decide +kernel
theorem dX11_wordAt_42 : decode cX11_wordAt 42 = .ok (.iload_n 1, 1) := by decide +kernel
theorem dX11_wordAt_43 : decode cX11_wordAt 43 = .ok (.isub, 1) := by decide +kernel
theorem dX11_wordAt_44 : decode cX11_wordAt 44 = .ok (.if_icmp .ne 7, 3) := by decide +kernel
theorem dX11_wordAt_47 : decode cX11_wordAt 47 = .ok (.iconst 1, 1) := by decide +kernel
theorem dX11_wordAt_48 : decode cX11_wordAt 48 = .ok (.goto 4, 3) := by decide +kernel
theorem dX11_wordAt_51 : decode cX11_wordAt 51 = .ok (.iconst 0, 1) := by decide +kernel
theorem dX11_wordAt_52 : decode cX11_wordAt 52 = .ok (.istore 6, 2) := by decide +kernel
theorem dX11_wordAt_54 : decode cX11_wordAt 54 = .ok (.iconst 0, 1) := by decide +kernel
theorem dX11_wordAt_55 : decode cX11_wordAt 55 = .ok (.istore 7, 2) := by decide +kernel
theorem dX11_wordAt_57 : decode cX11_wordAt 57 = .ok (.iload 7, 2) := by decide +kernel
theorem dX11_wordAt_59 : decode cX11_wordAt 59 = .ok (.iload 5, 2) := by decide +kernel
theorem dX11_wordAt_61 : decode cX11_wordAt 61 = .ok (.if_icmp .ge 43, 3) := by decide +kernel
theorem dX11_wordAt_64 : decode cX11_wordAt 64 = .ok (.iload 6, 2) := by decide +kernel
theorem dX11_wordAt_66 : decode cX11_wordAt 66 = .ok (.ifCond .eq 38, 3) := by decide +kernel
theorem dX11_wordAt_69 : decode cX11_wordAt 69 = .ok (.aload_n 0, 1) := by decide +kernel
theorem dX11_wordAt_70 : decode cX11_wordAt 70 = .ok (.getfield 13, 3) := by decide +kernel
theorem dX11_wordAt_73 : decode cX11_wordAt 73 = .ok (.iload 4, 2) := by decide +kernel
theorem dX11_wordAt_75 : decode cX11_wordAt 75 = .ok (.iload 7, 2) := by decide +kernel
theorem dX11_wordAt_77 : decode cX11_wordAt 77 = .ok (.iadd, 1) := by decide +kernel
theorem dX11_wordAt_78 : decode cX11_wordAt 78 = .ok (.iaload, 1) := by decide +kernel
theorem dX11_wordAt_79 : decode cX11_wordAt 79 = .ok (.aload_n 0, 1) := by decide +kernel
theorem dX11_wordAt_80 : decode cX11_wordAt 80 = .ok (.getfield 7, 3) := by decide +kernel
theorem dX11_wordAt_83 : decode cX11_wordAt 83 = .ok (.iload_n 1, 1) := by decide +kernel
theorem dX11_wordAt_84 : decode cX11_wordAt 84 = .ok (.iload 7, 2) := by decide +kernel
theorem dX11_wordAt_86 : decode cX11_wordAt 86 = .ok (.iadd, 1) := by decide +kernel
theorem dX11_wordAt_87 : decode cX11_wordAt 87 = .ok (.iaload, 1) := by decide +kernel
theorem dX11_wordAt_88 : decode cX11_wordAt 88 = .ok (.if_icmp .ne 7, 3) := by decide +kernel
theorem dX11_wordAt_91 : decode cX11_wordAt 91 = .ok (.iconst 1, 1) := by decide +kernel
theorem dX11_wordAt_92 : decode cX11_wordAt 92 = .ok (.goto 4, 3) := by decide +kernel
theorem dX11_wordAt_95 : decode cX11_wordAt 95 = .ok (.iconst 0, 1) := by decide +kernel
theorem dX11_wordAt_96 : decode cX11_wordAt 96 = .ok (.istore 6, 2) := by decide +kernel
theorem dX11_wordAt_98 : decode cX11_wordAt 98 = .ok (.iinc 7 1, 3) := by decide +kernel
theorem dX11_wordAt_101 : decode cX11_wordAt 101 = .ok (.goto (-44), 3) := by decide +kernel
theorem dX11_wordAt_104 : decode cX11_wordAt 104 = .ok (.iload 6, 2) := by decide +kernel
theorem dX11_wordAt_106 : decode cX11_wordAt 106 = .ok (.ifCond .eq 5, 3) := by decide +kernel
theorem dX11_wordAt_109 : decode cX11_wordAt 109 = .ok (.iload_n 3, 1) := by decide +kernel
theorem dX11_wordAt_110 : decode cX11_wordAt 110 = .ok (.ireturn, 1) := by decide +kernel
theorem dX11_wordAt_111 : decode cX11_wordAt 111 = .ok (.iload 4, 2) := by decide +kernel
theorem dX11_wordAt_113 : decode cX11_wordAt 113 = .ok (.iload 5, 2) := by decide +kernel
theorem dX11_wordAt_115 : decode cX11_wordAt 115 = .ok (.iconst 1, 1) := by decide +kernel
theorem dX11_wordAt_116 : decode cX11_wordAt 116 = .ok (.iadd, 1) := by decide +kernel
theorem dX11_wordAt_117 : decode cX11_wordAt 117 = .ok (.iadd, 1) := by decide +kernel
theorem dX11_wordAt_118 : decode cX11_wordAt 118 = .ok (.istore 4, 2) := by decide +kernel
theorem dX11_wordAt_120 : decode cX11_wordAt 120 = .ok (.iinc 3 1, 3) := by decide +kernel
theorem dX11_wordAt_123 : decode cX11_wordAt 123 = .ok (.goto (-118), 3) := by decide +kernel
theorem dX11_wordAt_126 : decode cX11_wordAt 126 = .ok (.iconst (-1), 1) := by decide +kernel
theorem dX11_wordAt_127 : decode cX11_wordAt 127 = .ok (.ireturn, 1) := by decide +kernel
theorem dX11_isSmall_0 : decode cX11_isSmall 0 = .ok (.iload_n 1, 1) := by decide +kernel
theorem dX11_isSmall_1 : decode cX11_isSmall 1 = .ok (.aload_n 0, 1) := by decide +kernel
theorem dX11_isSmall_2 : decode cX11_isSmall 2 = .ok (.getfield 142, 3) := by decide +kernel
theorem dX11_isSmall_5 : decode cX11_isSmall 5 = .ok (.if_icmp .ge 29, 3) := by decide +kernel
theorem dX11_isSmall_8 : decode cX11_isSmall 8 = .ok (.aload_n 0, 1) := by decide +kernel
theorem dX11_isSmall_9 : decode cX11_isSmall 9 = .ok (.getfield 7, 3) := by decide +kernel
theorem dX11_isSmall_12 : decode cX11_isSmall 12 = .ok (.iload_n 1, 1) := by decide +kernel
theorem dX11_isSmall_13 : decode cX11_isSmall 13 = .ok (.iaload, 1) := by decide +kernel
theorem dX11_isSmall_14 : decode cX11_isSmall 14 = .ok (.bipush 97, 2) := by decide +kernel
theorem dX11_isSmall_16 : decode cX11_isSmall 16 = .ok (.if_icmp .lt 18, 3) := by decide +kernel
theorem dX11_isSmall_19 : decode cX11_isSmall 19 = .ok (.aload_n 0, 1) := by decide +kernel
theorem dX11_isSmall_20 : decode cX11_isSmall 20 = .ok (.getfield 7, 3) := by decide +kernel
theorem dX11_isSmall_23 : decode cX11_isSmall 23 = .ok (.iload_n 1, 1) := by decide +kernel
theorem dX11_isSmall_24 : decode cX11_isSmall 24 = .ok (.iaload, 1) := by decide +kernel
theorem dX11_isSmall_25 : decode cX11_isSmall 25 = .ok (.bipush 122, 2) := by decide +kernel
theorem dX11_isSmall_27 : decode cX11_isSmall 27 = .ok (.if_icmp .gt 7, 3) := by decide +kernel
theorem dX11_isSmall_30 : decode cX11_isSmall 30 = .ok (.iconst 1, 1) := by decide +kernel
theorem dX11_isSmall_31 : decode cX11_isSmall 31 = .ok (.goto 4, 3) := by decide +kernel
theorem dX11_isSmall_34 : decode cX11_isSmall 34 = .ok (.iconst 0, 1) := by decide +kernel
theorem dX11_isSmall_35 : decode cX11_isSmall 35 = .ok (.ireturn, 1) := by decide +kernel
theorem dX11_isDigit_0 : decode cX11_isDigit 0 = .ok (.iload_n 1, 1) := by decide +kernel
theorem dX11_isDigit_1 : decode cX11_isDigit 1 = .ok (.aload_n 0, 1) := by decide +kernel
theorem dX11_isDigit_2 : decode cX11_isDigit 2 = .ok (.getfield 142, 3) := by decide +kernel
theorem dX11_isDigit_5 : decode cX11_isDigit 5 = .ok (.if_icmp .ge 29, 3) := by decide +kernel
theorem dX11_isDigit_8 : decode cX11_isDigit 8 = .ok (.aload_n 0, 1) := by decide +kernel
theorem dX11_isDigit_9 : decode cX11_isDigit 9 = .ok (.getfield 7, 3) := by decide +kernel
theorem dX11_isDigit_12 : decode cX11_isDigit 12 = .ok (.iload_n 1, 1) := by decide +kernel
theorem dX11_isDigit_13 : decode cX11_isDigit 13 = .ok (.iaload, 1) := by decide +kernel
theorem dX11_isDigit_14 : decode cX11_isDigit 14 = .ok (.bipush 48, 2) := by decide +kernel
theorem dX11_isDigit_16 : decode cX11_isDigit 16 = .ok (.if_icmp .lt 18, 3) := by decide +kernel
theorem dX11_isDigit_19 : decode cX11_isDigit 19 = .ok (.aload_n 0, 1) := by decide +kernel
theorem dX11_isDigit_20 : decode cX11_isDigit 20 = .ok (.getfield 7, 3) := by decide +kernel
theorem dX11_isDigit_23 : decode cX11_isDigit 23 = .ok (.iload_n 1, 1) := by decide +kernel
theorem dX11_isDigit_24 : decode cX11_isDigit 24 = .ok (.iaload, 1) := by decide +kernel
theorem dX11_isDigit_25 : decode cX11_isDigit 25 = .ok (.bipush 57, 2) := by decide +kernel
theorem dX11_isDigit_27 : decode cX11_isDigit 27 = .ok (.if_icmp .gt 7, 3) := by decide +kernel
theorem dX11_isDigit_30 : decode cX11_isDigit 30 = .ok (.iconst 1, 1) := by decide +kernel
theorem dX11_isDigit_31 : decode cX11_isDigit 31 = .ok (.goto 4, 3) := by decide +kernel
theorem dX11_isDigit_34 : decode cX11_isDigit 34 = .ok (.iconst 0, 1) := by decide +kernel
theorem dX11_isDigit_35 : decode cX11_isDigit 35 = .ok (.ireturn, 1) := by decide +kernel
theorem dX11_isOfNet_0 : decode cX11_isOfNet 0 = .ok (.iload_n 0, 1) := by decide +kernel
theorem dX11_isOfNet_1 : decode cX11_isOfNet 1 = .ok (.iconst 2, 1) := by decide +kernel
theorem dX11_isOfNet_2 : decode cX11_isOfNet 2 = .ok (.if_icmp .eq 43, 3) := by decide +kernel
theorem dX11_isOfNet_5 : decode cX11_isOfNet 5 = .ok (.iload_n 0, 1) := by decide +kernel
theorem dX11_isOfNet_6 : decode cX11_isOfNet 6 = .ok (.iconst 3, 1) := by decide +kernel
theorem dX11_isOfNet_7 : decode cX11_isOfNet 7 = .ok (.if_icmp .eq 38, 3) := by decide +kernel
theorem dX11_isOfNet_10 : decode cX11_isOfNet 10 = .ok (.iload_n 0, 1) := by decide +kernel
theorem dX11_isOfNet_11 : decode cX11_isOfNet 11 = .ok (.iconst 4, 1) := by decide +kernel
theorem dX11_isOfNet_12 : decode cX11_isOfNet 12 = .ok (.if_icmp .eq 33, 3) := by decide +kernel
theorem dX11_isOfNet_15 : decode cX11_isOfNet 15 = .ok (.iload_n 0, 1) := by decide +kernel
theorem dX11_isOfNet_16 : decode cX11_isOfNet 16 = .ok (.bipush 9, 2) := by decide +kernel
theorem dX11_isOfNet_18 : decode cX11_isOfNet 18 = .ok (.if_icmp .eq 27, 3) := by decide +kernel
theorem dX11_isOfNet_21 : decode cX11_isOfNet 21 = .ok (.iload_n 0, 1) := by decide +kernel
theorem dX11_isOfNet_22 : decode cX11_isOfNet 22 = .ok (.bipush 10, 2) := by decide +kernel
theorem dX11_isOfNet_24 : decode cX11_isOfNet 24 = .ok (.if_icmp .eq 21, 3) := by decide +kernel
theorem dX11_isOfNet_27 : decode cX11_isOfNet 27 = .ok (.iload_n 0, 1) := by decide +kernel
theorem dX11_isOfNet_28 : decode cX11_isOfNet 28 = .ok (.bipush 13, 2) := by decide +kernel
theorem dX11_isOfNet_30 : decode cX11_isOfNet 30 = .ok (.if_icmp .eq 15, 3) := by decide +kernel
theorem dX11_isOfNet_33 : decode cX11_isOfNet 33 = .ok (.iload_n 0, 1) := by decide +kernel
theorem dX11_isOfNet_34 : decode cX11_isOfNet 34 = .ok (.bipush 14, 2) := by decide +kernel
theorem dX11_isOfNet_36 : decode cX11_isOfNet 36 = .ok (.if_icmp .eq 9, 3) := by decide +kernel
theorem dX11_isOfNet_39 : decode cX11_isOfNet 39 = .ok (.iload_n 0, 1) := by decide +kernel
theorem dX11_isOfNet_40 : decode cX11_isOfNet 40 = .ok (.bipush 20, 2) := by decide +kernel
theorem dX11_isOfNet_42 : decode cX11_isOfNet 42 = .ok (.if_icmp .lt 7, 3) := by decide +kernel
theorem dX11_isOfNet_45 : decode cX11_isOfNet 45 = .ok (.iconst 1, 1) := by decide +kernel
theorem dX11_isOfNet_46 : decode cX11_isOfNet 46 = .ok (.goto 4, 3) := by decide +kernel
theorem dX11_isOfNet_49 : decode cX11_isOfNet 49 = .ok (.iconst 0, 1) := by decide +kernel
theorem dX11_isOfNet_50 : decode cX11_isOfNet 50 = .ok (.ireturn, 1) := by decide +kernel
theorem dX11_packed_0 : decode cX11_packed 0 = .ok (.iconst 0, 1) := by decide +kernel
theorem dX11_packed_1 : decode cX11_packed 1 = .ok (.istore_n 3, 1) := by decide +kernel
theorem dX11_packed_2 : decode cX11_packed 2 = .ok (.iload_n 1, 1) := by decide +kernel
theorem dX11_packed_3 : decode cX11_packed 3 = .ok (.istore 4, 2) := by decide +kernel
theorem dX11_packed_5 : decode cX11_packed 5 = .ok (.iload 4, 2) := by decide +kernel
theorem dX11_packed_7 : decode cX11_packed 7 = .ok (.iload_n 1, 1) := by decide +kernel
theorem dX11_packed_8 : decode cX11_packed 8 = .ok (.bipush 6, 2) := by decide +kernel
theorem dX11_packed_10 : decode cX11_packed 10 = .ok (.iadd, 1) := by decide +kernel
theorem dX11_packed_11 : decode cX11_packed 11 = .ok (.if_icmp .ge 34, 3) := by decide +kernel
theorem dX11_packed_14 : decode cX11_packed 14 = .ok (.iload_n 3, 1) := by decide +kernel
theorem dX11_packed_15 : decode cX11_packed 15 = .ok (.iconst 5, 1) := by decide +kernel
theorem dX11_packed_16 : decode cX11_packed 16 = .ok (.ishl, 1) := by decide +kernel
theorem dX11_packed_17 : decode cX11_packed 17 = .ok (.iload 4, 2) := by decide +kernel
theorem dX11_packed_19 : decode cX11_packed 19 = .ok (.iload_n 2, 1) := by decide +kernel
theorem dX11_packed_20 : decode cX11_packed 20 = .ok (.if_icmp .ge 16, 3) := by decide +kernel
theorem dX11_packed_23 : decode cX11_packed 23 = .ok (.aload_n 0, 1) := by decide +kernel
theorem dX11_packed_24 : decode cX11_packed 24 = .ok (.getfield 7, 3) := by decide +kernel
theorem dX11_packed_27 : decode cX11_packed 27 = .ok (.iload 4, 2) := by decide +kernel
theorem dX11_packed_29 : decode cX11_packed 29 = .ok (.iaload, 1) := by decide +kernel
theorem dX11_packed_30 : decode cX11_packed 30 = .ok (.bipush 96, 2) := by decide +kernel
theorem dX11_packed_32 : decode cX11_packed 32 = .ok (.isub, 1) := by decide +kernel
theorem dX11_packed_33 : decode cX11_packed 33 = .ok (.goto 4, 3) := by decide +kernel
theorem dX11_packed_36 : decode cX11_packed 36 = .ok (.iconst 0, 1) := by decide +kernel
theorem dX11_packed_37 : decode cX11_packed 37 = .ok (.ior, 1) := by decide +kernel
theorem dX11_packed_38 : decode cX11_packed 38 = .ok (.istore_n 3, 1) := by decide +kernel
theorem dX11_packed_39 : decode cX11_packed 39 = .ok (.iinc 4 1, 3) := by decide +kernel
theorem dX11_packed_42 : decode cX11_packed 42 = .ok (.goto (-37), 3) := by decide +kernel
theorem dX11_packed_45 : decode cX11_packed 45 = .ok (.iload_n 3, 1) := by decide +kernel
theorem dX11_packed_46 : decode cX11_packed 46 = .ok (.ireturn, 1) := by decide +kernel
theorem dX11_take_0 : decode cX11_take 0 = .ok (.aload_n 0, 1) := by decide +kernel
theorem dX11_take_1 : decode cX11_take 1 = .ok (.getfield 145, 3) := by decide +kernel
theorem dX11_take_4 : decode cX11_take 4 = .ok (.aload_n 0, 1) := by decide +kernel
theorem dX11_take_5 : decode cX11_take 5 = .ok (.getfield 142, 3) := by decide +kernel
theorem dX11_take_8 : decode cX11_take 8 = .ok (.if_icmp .ge 44, 3) := by decide +kernel
theorem dX11_take_11 : decode cX11_take 11 = .ok (.aload_n 0, 1) := by decide +kernel
theorem dX11_take_12 : decode cX11_take 12 = .ok (.getfield 7, 3) := by decide +kernel
theorem dX11_take_15 : decode cX11_take 15 = .ok (.aload_n 0, 1) := by decide +kernel
theorem dX11_take_16 : decode cX11_take 16 = .ok (.getfield 145, 3) := by decide +kernel
theorem dX11_take_19 : decode cX11_take 19 = .ok (.iaload, 1) := by decide +kernel
theorem dX11_take_20 : decode cX11_take 20 = .ok (.bipush 10, 2) := by decide +kernel
theorem dX11_take_22 : decode cX11_take 22 = .ok (.if_icmp .eq 17, 3) := by decide +kernel
theorem dX11_take_25 : decode cX11_take 25 = .ok (.aload_n 0, 1) := by decide +kernel
theorem dX11_take_26 : decode cX11_take 26 = .ok (.getfield 7, 3) := by decide +kernel
theorem dX11_take_29 : decode cX11_take 29 = .ok (.aload_n 0, 1) := by decide +kernel
theorem dX11_take_30 : decode cX11_take 30 = .ok (.getfield 145, 3) := by decide +kernel
theorem dX11_take_33 : decode cX11_take 33 = .ok (.iaload, 1) := by decide +kernel
theorem dX11_take_34 : decode cX11_take 34 = .ok (.bipush 32, 2) := by decide +kernel
theorem dX11_take_36 : decode cX11_take 36 = .ok (.if_icmp .ne 16, 3) := by decide +kernel
theorem dX11_take_39 : decode cX11_take 39 = .ok (.aload_n 0, 1) := by decide +kernel
theorem dX11_take_40 : decode cX11_take 40 = .ok (.dup, 1) := by decide +kernel
theorem dX11_take_41 : decode cX11_take 41 = .ok (.getfield 145, 3) := by decide +kernel
theorem dX11_take_44 : decode cX11_take 44 = .ok (.iconst 1, 1) := by decide +kernel
theorem dX11_take_45 : decode cX11_take 45 = .ok (.iadd, 1) := by decide +kernel
theorem dX11_take_46 : decode cX11_take 46 = .ok (.putfield 145, 3) := by decide +kernel
theorem dX11_take_49 : decode cX11_take 49 = .ok (.goto (-49), 3) := by decide +kernel
theorem dX11_take_52 : decode cX11_take 52 = .ok (.aload_n 0, 1) := by decide +kernel
theorem dX11_take_53 : decode cX11_take 53 = .ok (.aload_n 0, 1) := by decide +kernel
theorem dX11_take_54 : decode cX11_take 54 = .ok (.getfield 145, 3) := by decide +kernel
theorem dX11_take_57 : decode cX11_take 57 = .ok (.putfield 139, 3) := by decide +kernel
theorem dX11_take_60 : decode cX11_take 60 = .ok (.aload_n 0, 1) := by decide +kernel
theorem dX11_take_61 : decode cX11_take 61 = .ok (.getfield 145, 3) := by decide +kernel
theorem dX11_take_64 : decode cX11_take 64 = .ok (.aload_n 0, 1) := by decide +kernel
theorem dX11_take_65 : decode cX11_take 65 = .ok (.getfield 142, 3) := by decide +kernel
theorem dX11_take_68 : decode cX11_take 68 = .ok (.if_icmp .ne 11, 3) := by decide +kernel
theorem dX11_take_71 : decode cX11_take 71 = .ok (.aload_n 0, 1) := by decide +kernel
theorem dX11_take_72 : decode cX11_take 72 = .ok (.iconst 0, 1) := by decide +kernel
theorem dX11_take_73 : decode cX11_take 73 = .ok (.putfield 148, 3) := by decide +kernel
theorem dX11_take_76 : decode cX11_take 76 = .ok (.goto 331, 3) := by decide +kernel
theorem dX11_take_79 : decode cX11_take 79 = .ok (.aload_n 0, 1) := by decide +kernel
theorem dX11_take_80 : decode cX11_take 80 = .ok (.aload_n 0, 1) := by decide +kernel
theorem dX11_take_81 : decode cX11_take 81 = .ok (.getfield 145, 3) := by decide +kernel
theorem dX11_take_84 : decode cX11_take 84 = .ok (.invokevirtual 151, 3) := by decide +kernel
theorem dX11_take_87 : decode cX11_take 87 = .ok (.ifCond .eq 150, 3) := by decide +kernel
theorem dX11_take_90 : decode cX11_take 90 = .ok (.aload_n 0, 1) := by decide +kernel
theorem dX11_take_91 : decode cX11_take 91 = .ok (.aload_n 0, 1) := by decide +kernel
theorem dX11_take_92 : decode cX11_take 92 = .ok (.getfield 145, 3) := by decide +kernel
theorem dX11_take_95 : decode cX11_take 95 = .ok (.invokevirtual 151, 3) := by decide +kernel
theorem dX11_take_98 : decode cX11_take 98 = .ok (.ifCond .eq 16, 3) := by decide +kernel
theorem dX11_take_101 : decode cX11_take 101 = .ok (.aload_n 0, 1) := by decide +kernel
theorem dX11_take_102 : decode cX11_take 102 = .ok (.dup, 1) := by decide +kernel
theorem dX11_take_103 : decode cX11_take 103 = .ok (.getfield 145, 3) := by decide +kernel
theorem dX11_take_106 : decode cX11_take 106 = .ok (.iconst 1, 1) := by decide +kernel
theorem dX11_take_107 : decode cX11_take 107 = .ok (.iadd, 1) := by decide +kernel
theorem dX11_take_108 : decode cX11_take 108 = .ok (.putfield 145, 3) := by decide +kernel
theorem dX11_take_111 : decode cX11_take 111 = .ok (.goto (-21), 3) := by decide +kernel
theorem dX11_take_114 : decode cX11_take 114 = .ok (.aload_n 0, 1) := by decide +kernel
theorem dX11_take_115 : decode cX11_take 115 = .ok (.aload_n 0, 1) := by decide +kernel
theorem dX11_take_116 : decode cX11_take 116 = .ok (.aload_n 0, 1) := by decide +kernel
theorem dX11_take_117 : decode cX11_take 117 = .ok (.getfield 139, 3) := by decide +kernel
theorem dX11_take_120 : decode cX11_take 120 = .ok (.aload_n 0, 1) := by decide +kernel
theorem dX11_take_121 : decode cX11_take 121 = .ok (.getfield 145, 3) := by decide +kernel
theorem dX11_take_124 : decode cX11_take 124 = .ok (.invokevirtual 155, 3) := by decide +kernel
theorem dX11_take_127 : decode cX11_take 127 = .ok (.putfield 159, 3) := by decide +kernel
theorem dX11_take_130 : decode cX11_take 130 = .ok (.aload_n 0, 1) := by decide +kernel
theorem dX11_take_131 : decode cX11_take 131 = .ok (.getfield 159, 3) := by decide +kernel
theorem dX11_take_134 : decode cX11_take 134 = .ok (.ifCond .lt 36, 3) := by decide +kernel
theorem dX11_take_137 : decode cX11_take 137 = .ok (.aload_n 0, 1) := by decide +kernel
theorem dX11_take_138 : decode cX11_take 138 = .ok (.getfield 162, 3) := by decide +kernel
theorem dX11_take_141 : decode cX11_take 141 = .ok (.ifCond .eq 16, 3) := by decide +kernel
theorem dX11_take_144 : decode cX11_take 144 = .ok (.aload_n 0, 1) := by decide +kernel
theorem dX11_take_145 : decode cX11_take 145 = .ok (.getfield 159, 3) := by decide +kernel
theorem dX11_take_148 : decode cX11_take 148 = .ok (.invokestatic 166, 3) := by decide +kernel
theorem dX11_take_151 : decode cX11_take 151 = .ok (.ifCond .eq 19, 3) := by decide +kernel
theorem dX11_take_154 : decode cX11_take 154 = .ok (.goto 12, 3) := by decide +kernel
theorem dX11_take_157 : decode cX11_take 157 = .ok (.aload_n 0, 1) := by decide +kernel
theorem dX11_take_158 : decode cX11_take 158 = .ok (.getfield 159, 3) := by decide +kernel
theorem dX11_take_161 : decode cX11_take 161 = .ok (.bipush 20, 2) := by decide +kernel
theorem dX11_take_163 : decode cX11_take 163 = .ok (.if_icmp .ge 7, 3) := by decide +kernel
theorem dX11_take_166 : decode cX11_take 166 = .ok (.iconst 1, 1) := by decide +kernel
theorem dX11_take_167 : decode cX11_take 167 = .ok (.goto 4, 3) := by decide +kernel
theorem dX11_take_170 : decode cX11_take 170 = .ok (.iconst 0, 1) := by decide +kernel
theorem dX11_take_171 : decode cX11_take 171 = .ok (.istore_n 1, 1) := by decide +kernel
theorem dX11_take_172 : decode cX11_take 172 = .ok (.aload_n 0, 1) := by decide +kernel
theorem dX11_take_173 : decode cX11_take 173 = .ok (.iload_n 1, 1) := by decide +kernel
theorem dX11_take_174 : decode cX11_take 174 = .ok (.ifCond .eq 7, 3) := by decide +kernel
theorem dX11_take_177 : decode cX11_take 177 = .ok (.iconst 1, 1) := by decide +kernel
theorem dX11_take_178 : decode cX11_take 178 = .ok (.goto 29, 3) := by decide +kernel
theorem dX11_take_181 : decode cX11_take 181 = .ok (.aload_n 0, 1) := by decide +kernel
theorem dX11_take_182 : decode cX11_take 182 = .ok (.getfield 162, 3) := by decide +kernel
theorem dX11_take_185 : decode cX11_take 185 = .ok (.ifCond .eq 21, 3) := by decide +kernel
theorem dX11_take_188 : decode cX11_take 188 = .ok (.aload_n 0, 1) := by decide +kernel
theorem dX11_take_189 : decode cX11_take 189 = .ok (.getfield 145, 3) := by decide +kernel
theorem dX11_take_192 : decode cX11_take 192 = .ok (.aload_n 0, 1) := by decide +kernel
theorem dX11_take_193 : decode cX11_take 193 = .ok (.getfield 139, 3) := by decide +kernel
theorem dX11_take_196 : decode cX11_take 196 = .ok (.isub, 1) := by decide +kernel
theorem dX11_take_197 : decode cX11_take 197 = .ok (.bipush 7, 2) := by decide +kernel
theorem dX11_take_199 : decode cX11_take 199 = .ok (.if_icmp .ge 7, 3) := by decide +kernel
theorem dX11_take_202 : decode cX11_take 202 = .ok (.iconst 2, 1) := by decide +kernel
theorem dX11_take_203 : decode cX11_take 203 = .ok (.goto 4, 3) := by decide +kernel
theorem dX11_take_206 : decode cX11_take 206 = .ok (.iconst 5, 1) := by decide +kernel
theorem dX11_take_207 : decode cX11_take 207 = .ok (.putfield 148, 3) := by decide +kernel
theorem dX11_take_210 : decode cX11_take 210 = .ok (.aload_n 0, 1) := by decide +kernel
theorem dX11_take_211 : decode cX11_take 211 = .ok (.getfield 148, 3) := by decide +kernel
theorem dX11_take_214 : decode cX11_take 214 = .ok (.iconst 2, 1) := by decide +kernel
theorem dX11_take_215 : decode cX11_take 215 = .ok (.if_icmp .ne 19, 3) := by decide +kernel
theorem dX11_take_218 : decode cX11_take 218 = .ok (.aload_n 0, 1) := by decide +kernel
theorem dX11_take_219 : decode cX11_take 219 = .ok (.aload_n 0, 1) := by decide +kernel
theorem dX11_take_220 : decode cX11_take 220 = .ok (.aload_n 0, 1) := by decide +kernel
theorem dX11_take_221 : decode cX11_take 221 = .ok (.getfield 139, 3) := by decide +kernel
theorem dX11_take_224 : decode cX11_take 224 = .ok (.aload_n 0, 1) := by decide +kernel
theorem dX11_take_225 : decode cX11_take 225 = .ok (.getfield 145, 3) := by decide +kernel
theorem dX11_take_228 : decode cX11_take 228 = .ok (.invokevirtual 169, 3) := by decide +kernel
theorem dX11_take_231 : decode cX11_take 231 = .ok (.putfield 159, 3) := by decide +kernel
theorem dX11_take_234 : decode cX11_take 234 = .ok (.goto 173, 3) := by decide +kernel
theorem dX11_take_237 : decode cX11_take 237 = .ok (.aload_n 0, 1) := by decide +kernel
theorem dX11_take_238 : decode cX11_take 238 = .ok (.aload_n 0, 1) := by decide +kernel
theorem dX11_take_239 : decode cX11_take 239 = .ok (.getfield 145, 3) := by decide +kernel
theorem dX11_take_242 : decode cX11_take 242 = .ok (.invokevirtual 172, 3) := by decide +kernel
theorem dX11_take_245 : decode cX11_take 245 = .ok (.ifCond .eq 77, 3) := by decide +kernel
theorem dX11_take_248 : decode cX11_take 248 = .ok (.aload_n 0, 1) := by decide +kernel
theorem dX11_take_249 : decode cX11_take 249 = .ok (.iconst 3, 1) := by decide +kernel
theorem dX11_take_250 : decode cX11_take 250 = .ok (.putfield 148, 3) := by decide +kernel
theorem dX11_take_253 : decode cX11_take 253 = .ok (.aload_n 0, 1) := by decide +kernel
theorem dX11_take_254 : decode cX11_take 254 = .ok (.iconst 0, 1) := by decide +kernel
theorem dX11_take_255 : decode cX11_take 255 = .ok (.putfield 159, 3) := by decide +kernel
theorem dX11_take_258 : decode cX11_take 258 = .ok (.aload_n 0, 1) := by decide +kernel
theorem dX11_take_259 : decode cX11_take 259 = .ok (.aload_n 0, 1) := by decide +kernel
theorem dX11_take_260 : decode cX11_take 260 = .ok (.getfield 145, 3) := by decide +kernel
theorem dX11_take_263 : decode cX11_take 263 = .ok (.invokevirtual 172, 3) := by decide +kernel
theorem dX11_take_266 : decode cX11_take 266 = .ok (.ifCond .eq 141, 3) := by decide +kernel
theorem dX11_take_269 : decode cX11_take 269 = .ok (.aload_n 0, 1) := by decide +kernel
theorem dX11_take_270 : decode cX11_take 270 = .ok (.aload_n 0, 1) := by decide +kernel
theorem dX11_take_271 : decode cX11_take 271 = .ok (.getfield 159, 3) := by decide +kernel
theorem dX11_take_274 : decode cX11_take 274 = .ok (.bipush 99, 2) := by decide +kernel
theorem dX11_take_276 : decode cX11_take 276 = .ok (.if_icmp .le 10, 3) := by decide +kernel
theorem dX11_take_279 : decode cX11_take 279 = .ok (.aload_n 0, 1) := by decide +kernel
theorem dX11_take_280 : decode cX11_take 280 = .ok (.getfield 159, 3) := by decide +kernel
theorem dX11_take_283 : decode cX11_take 283 = .ok (.goto 23, 3) := by decide +kernel
theorem dX11_take_286 : decode cX11_take 286 = .ok (.bipush 10, 2) := by decide +kernel
theorem dX11_take_288 : decode cX11_take 288 = .ok (.aload_n 0, 1) := by decide +kernel
theorem dX11_take_289 : decode cX11_take 289 = .ok (.getfield 159, 3) := by decide +kernel
theorem dX11_take_292 : decode cX11_take 292 = .ok (.imul, 1) := by decide +kernel
theorem dX11_take_293 : decode cX11_take 293 = .ok (.aload_n 0, 1) := by decide +kernel
theorem dX11_take_294 : decode cX11_take 294 = .ok (.getfield 7, 3) := by decide +kernel
theorem dX11_take_297 : decode cX11_take 297 = .ok (.aload_n 0, 1) := by decide +kernel
theorem dX11_take_298 : decode cX11_take 298 = .ok (.getfield 145, 3) := by decide +kernel
theorem dX11_take_301 : decode cX11_take 301 = .ok (.iaload, 1) := by decide +kernel
theorem dX11_take_302 : decode cX11_take 302 = .ok (.iadd, 1) := by decide +kernel
theorem dX11_take_303 : decode cX11_take 303 = .ok (.bipush 48, 2) := by decide +kernel
theorem dX11_take_305 : decode cX11_take 305 = .ok (.isub, 1) := by decide +kernel
theorem dX11_take_306 : decode cX11_take 306 = .ok (.putfield 159, 3) := by decide +kernel
theorem dX11_take_309 : decode cX11_take 309 = .ok (.aload_n 0, 1) := by decide +kernel
theorem dX11_take_310 : decode cX11_take 310 = .ok (.dup, 1) := by decide +kernel
theorem dX11_take_311 : decode cX11_take 311 = .ok (.getfield 145, 3) := by decide +kernel
theorem dX11_take_314 : decode cX11_take 314 = .ok (.iconst 1, 1) := by decide +kernel
theorem dX11_take_315 : decode cX11_take 315 = .ok (.iadd, 1) := by decide +kernel
theorem dX11_take_316 : decode cX11_take 316 = .ok (.putfield 145, 3) := by decide +kernel
theorem dX11_take_319 : decode cX11_take 319 = .ok (.goto (-61), 3) := by decide +kernel
theorem dX11_take_322 : decode cX11_take 322 = .ok (.aload_n 0, 1) := by decide +kernel
theorem dX11_take_323 : decode cX11_take 323 = .ok (.aload_n 0, 1) := by decide +kernel
theorem dX11_take_324 : decode cX11_take 324 = .ok (.getfield 7, 3) := by decide +kernel
theorem dX11_take_327 : decode cX11_take 327 = .ok (.aload_n 0, 1) := by decide +kernel
theorem dX11_take_328 : decode cX11_take 328 = .ok (.getfield 145, 3) := by decide +kernel
theorem dX11_take_331 : decode cX11_take 331 = .ok (.iaload, 1) := by decide +kernel
theorem dX11_take_332 : decode cX11_take 332 = .ok (.putfield 159, 3) := by decide +kernel
theorem dX11_take_335 : decode cX11_take 335 = .ok (.aload_n 0, 1) := by decide +kernel
theorem dX11_take_336 : decode cX11_take 336 = .ok (.getfield 162, 3) := by decide +kernel
theorem dX11_take_339 : decode cX11_take 339 = .ok (.ifCond .eq 34, 3) := by decide +kernel
theorem dX11_take_342 : decode cX11_take 342 = .ok (.aload_n 0, 1) := by decide +kernel
theorem dX11_take_343 : decode cX11_take 343 = .ok (.getfield 159, 3) := by decide +kernel
theorem dX11_take_346 : decode cX11_take 346 = .ok (.bipush 40, 2) := by decide +kernel
theorem dX11_take_348 : decode cX11_take 348 = .ok (.if_icmp .eq 21, 3) := by decide +kernel
theorem dX11_take_351 : decode cX11_take 351 = .ok (.aload_n 0, 1) := by decide +kernel
theorem dX11_take_352 : decode cX11_take 352 = .ok (.getfield 159, 3) := by decide +kernel
theorem dX11_take_355 : decode cX11_take 355 = .ok (.bipush 41, 2) := by decide +kernel
theorem dX11_take_357 : decode cX11_take 357 = .ok (.if_icmp .eq 12, 3) := by decide +kernel
theorem dX11_take_360 : decode cX11_take 360 = .ok (.aload_n 0, 1) := by decide +kernel
theorem dX11_take_361 : decode cX11_take 361 = .ok (.getfield 159, 3) := by decide +kernel
theorem dX11_take_364 : decode cX11_take 364 = .ok (.bipush 61, 2) := by decide +kernel
theorem dX11_take_366 : decode cX11_take 366 = .ok (.if_icmp .ne 7, 3) := by decide +kernel
theorem dX11_take_369 : decode cX11_take 369 = .ok (.iconst 1, 1) := by decide +kernel
theorem dX11_take_370 : decode cX11_take 370 = .ok (.goto 4, 3) := by decide +kernel
theorem dX11_take_373 : decode cX11_take 373 = .ok (.iconst 0, 1) := by decide +kernel
theorem dX11_take_374 : decode cX11_take 374 = .ok (.istore_n 1, 1) := by decide +kernel
theorem dX11_take_375 : decode cX11_take 375 = .ok (.aload_n 0, 1) := by decide +kernel
theorem dX11_take_376 : decode cX11_take 376 = .ok (.aload_n 0, 1) := by decide +kernel
theorem dX11_take_377 : decode cX11_take 377 = .ok (.getfield 159, 3) := by decide +kernel
theorem dX11_take_380 : decode cX11_take 380 = .ok (.bipush 59, 2) := by decide +kernel
theorem dX11_take_382 : decode cX11_take 382 = .ok (.if_icmp .eq 7, 3) := by decide +kernel
theorem dX11_take_385 : decode cX11_take 385 = .ok (.iload_n 1, 1) := by decide +kernel
theorem dX11_take_386 : decode cX11_take 386 = .ok (.ifCond .eq 7, 3) := by decide +kernel
theorem dX11_take_389 : decode cX11_take 389 = .ok (.iconst 4, 1) := by decide +kernel
theorem dX11_take_390 : decode cX11_take 390 = .ok (.goto 4, 3) := by decide +kernel
theorem dX11_take_393 : decode cX11_take 393 = .ok (.iconst 5, 1) := by decide +kernel
theorem dX11_take_394 : decode cX11_take 394 = .ok (.putfield 148, 3) := by decide +kernel
theorem dX11_take_397 : decode cX11_take 397 = .ok (.aload_n 0, 1) := by decide +kernel
theorem dX11_take_398 : decode cX11_take 398 = .ok (.dup, 1) := by decide +kernel
theorem dX11_take_399 : decode cX11_take 399 = .ok (.getfield 145, 3) := by decide +kernel
theorem dX11_take_402 : decode cX11_take 402 = .ok (.iconst 1, 1) := by decide +kernel
theorem dX11_take_403 : decode cX11_take 403 = .ok (.iadd, 1) := by decide +kernel
theorem dX11_take_404 : decode cX11_take 404 = .ok (.putfield 145, 3) := by decide +kernel
theorem dX11_take_407 : decode cX11_take 407 = .ok (.return_, 1) := by decide +kernel
theorem dX11_isKey_0 : decode cX11_isKey 0 = .ok (.aload_n 0, 1) := by decide +kernel
theorem dX11_isKey_1 : decode cX11_isKey 1 = .ok (.getfield 148, 3) := by decide +kernel
theorem dX11_isKey_4 : decode cX11_isKey 4 = .ok (.iconst 1, 1) := by decide +kernel
theorem dX11_isKey_5 : decode cX11_isKey 5 = .ok (.if_icmp .ne 15, 3) := by decide +kernel
theorem dX11_isKey_8 : decode cX11_isKey 8 = .ok (.aload_n 0, 1) := by decide +kernel
theorem dX11_isKey_9 : decode cX11_isKey 9 = .ok (.getfield 159, 3) := by decide +kernel
theorem dX11_isKey_12 : decode cX11_isKey 12 = .ok (.iload_n 1, 1) := by decide +kernel
theorem dX11_isKey_13 : decode cX11_isKey 13 = .ok (.if_icmp .ne 7, 3) := by decide +kernel
theorem dX11_isKey_16 : decode cX11_isKey 16 = .ok (.iconst 1, 1) := by decide +kernel
theorem dX11_isKey_17 : decode cX11_isKey 17 = .ok (.goto 4, 3) := by decide +kernel
theorem dX11_isKey_20 : decode cX11_isKey 20 = .ok (.iconst 0, 1) := by decide +kernel
theorem dX11_isKey_21 : decode cX11_isKey 21 = .ok (.ireturn, 1) := by decide +kernel
theorem dX11_isSign_0 : decode cX11_isSign 0 = .ok (.aload_n 0, 1) := by decide +kernel
theorem dX11_isSign_1 : decode cX11_isSign 1 = .ok (.getfield 148, 3) := by decide +kernel
theorem dX11_isSign_4 : decode cX11_isSign 4 = .ok (.iconst 4, 1) := by decide +kernel
theorem dX11_isSign_5 : decode cX11_isSign 5 = .ok (.if_icmp .ne 15, 3) := by decide +kernel
theorem dX11_isSign_8 : decode cX11_isSign 8 = .ok (.aload_n 0, 1) := by decide +kernel
theorem dX11_isSign_9 : decode cX11_isSign 9 = .ok (.getfield 159, 3) := by decide +kernel
theorem dX11_isSign_12 : decode cX11_isSign 12 = .ok (.iload_n 1, 1) := by decide +kernel
theorem dX11_isSign_13 : decode cX11_isSign 13 = .ok (.if_icmp .ne 7, 3) := by decide +kernel
theorem dX11_isSign_16 : decode cX11_isSign 16 = .ok (.iconst 1, 1) := by decide +kernel
theorem dX11_isSign_17 : decode cX11_isSign 17 = .ok (.goto 4, 3) := by decide +kernel
theorem dX11_isSign_20 : decode cX11_isSign 20 = .ok (.iconst 0, 1) := by decide +kernel
theorem dX11_isSign_21 : decode cX11_isSign 21 = .ok (.ireturn, 1) := by decide +kernel
theorem dX11_signRead_0 : decode cX11_signRead 0 = .ok (.aload_n 0, 1) := by decide +kernel
theorem dX11_signRead_1 : decode cX11_signRead 1 = .ok (.iload_n 1, 1) := by decide +kernel
theorem dX11_signRead_2 : decode cX11_signRead 2 = .ok (.invokevirtual 175, 3) := by decide +kernel
theorem dX11_signRead_5 : decode cX11_signRead 5 = .ok (.ifCond .ne 9, 3) := by decide +kernel
theorem dX11_signRead_8 : decode cX11_signRead 8 = .ok (.aload_n 0, 1) := by decide +kernel
theorem dX11_signRead_9 : decode cX11_signRead 9 = .ok (.iconst 1, 1) := by decide +kernel
theorem dX11_signRead_10 : decode cX11_signRead 10 = .ok (.invokevirtual 178, 3) := by decide +kernel
theorem dX11_signRead_13 : decode cX11_signRead 13 = .ok (.ireturn, 1) := by decide +kernel
theorem dX11_signRead_14 : decode cX11_signRead 14 = .ok (.aload_n 0, 1) := by decide +kernel
theorem dX11_signRead_15 : decode cX11_signRead 15 = .ok (.invokevirtual 181, 3) := by decide +kernel
theorem dX11_signRead_18 : decode cX11_signRead 18 = .ok (.iconst 1, 1) := by decide +kernel
theorem dX11_signRead_19 : decode cX11_signRead 19 = .ok (.ireturn, 1) := by decide +kernel
theorem dX11_starts_0 : decode cX11_starts 0 = .ok (.iload_n 1, 1) := by decide +kernel
theorem dX11_starts_1 : decode cX11_starts 1 = .ok (.ifCond .lt 11, 3) := by decide +kernel
theorem dX11_starts_4 : decode cX11_starts 4 = .ok (.iload_n 1, 1) := by decide +kernel
theorem dX11_starts_5 : decode cX11_starts 5 = .ok (.aload_n 0, 1) := by decide +kernel
theorem dX11_starts_6 : decode cX11_starts 6 = .ok (.getfield 133, 3) := by decide +kernel
theorem dX11_starts_9 : decode cX11_starts 9 = .ok (.if_icmp .le 5, 3) := by decide +kernel
theorem dX11_starts_12 : decode cX11_starts 12 = .ok (.iconst 0, 1) := by decide +kernel
theorem dX11_starts_13 : decode cX11_starts 13 = .ok (.ireturn, 1) := by decide +kernel
theorem dX11_starts_14 : decode cX11_starts 14 = .ok (.aload_n 0, 1) := by decide +kernel
theorem dX11_starts_15 : decode cX11_starts 15 = .ok (.iload_n 1, 1) := by decide +kernel
theorem dX11_starts_16 : decode cX11_starts 16 = .ok (.putfield 142, 3) := by decide +kernel
theorem dX11_starts_19 : decode cX11_starts 19 = .ok (.aload_n 0, 1) := by decide +kernel
theorem dX11_starts_20 : decode cX11_starts 20 = .ok (.iconst 0, 1) := by decide +kernel
theorem dX11_starts_21 : decode cX11_starts 21 = .ok (.putfield 133, 3) := by decide +kernel
theorem dX11_starts_24 : decode cX11_starts 24 = .ok (.aload_n 0, 1) := by decide +kernel
theorem dX11_starts_25 : decode cX11_starts 25 = .ok (.iconst 0, 1) := by decide +kernel
theorem dX11_starts_26 : decode cX11_starts 26 = .ok (.putfield 136, 3) := by decide +kernel
theorem dX11_starts_29 : decode cX11_starts 29 = .ok (.aload_n 0, 1) := by decide +kernel
theorem dX11_starts_30 : decode cX11_starts 30 = .ok (.iconst (-1), 1) := by decide +kernel
theorem dX11_starts_31 : decode cX11_starts 31 = .ok (.putfield 16, 3) := by decide +kernel
theorem dX11_starts_34 : decode cX11_starts 34 = .ok (.aload_n 0, 1) := by decide +kernel
theorem dX11_starts_35 : decode cX11_starts 35 = .ok (.iconst 0, 1) := by decide +kernel
theorem dX11_starts_36 : decode cX11_starts 36 = .ok (.putfield 145, 3) := by decide +kernel
theorem dX11_starts_39 : decode cX11_starts 39 = .ok (.aload_n 0, 1) := by decide +kernel
theorem dX11_starts_40 : decode cX11_starts 40 = .ok (.iload_n 2, 1) := by decide +kernel
theorem dX11_starts_41 : decode cX11_starts 41 = .ok (.putfield 162, 3) := by decide +kernel
theorem dX11_starts_44 : decode cX11_starts 44 = .ok (.aload_n 0, 1) := by decide +kernel
theorem dX11_starts_45 : decode cX11_starts 45 = .ok (.invokevirtual 181, 3) := by decide +kernel
theorem dX11_starts_48 : decode cX11_starts 48 = .ok (.iconst 1, 1) := by decide +kernel
theorem dX11_starts_49 : decode cX11_starts 49 = .ok (.ireturn, 1) := by decide +kernel
theorem dX11_numberRead_0 : decode cX11_numberRead 0 = .ok (.aload_n 0, 1) := by decide +kernel
theorem dX11_numberRead_1 : decode cX11_numberRead 1 = .ok (.getfield 148, 3) := by decide +kernel
theorem dX11_numberRead_4 : decode cX11_numberRead 4 = .ok (.iconst 3, 1) := by decide +kernel
theorem dX11_numberRead_5 : decode cX11_numberRead 5 = .ok (.if_icmp .eq 9, 3) := by decide +kernel
theorem dX11_numberRead_8 : decode cX11_numberRead 8 = .ok (.aload_n 0, 1) := by decide +kernel
theorem dX11_numberRead_9 : decode cX11_numberRead 9 = .ok (.iconst 1, 1) := by decide +kernel
theorem dX11_numberRead_10 : decode cX11_numberRead 10 = .ok (.invokevirtual 178, 3) := by decide +kernel
theorem dX11_numberRead_13 : decode cX11_numberRead 13 = .ok (.ireturn, 1) := by decide +kernel
theorem dX11_numberRead_14 : decode cX11_numberRead 14 = .ok (.aload_n 0, 1) := by decide +kernel
theorem dX11_numberRead_15 : decode cX11_numberRead 15 = .ok (.getfield 159, 3) := by decide +kernel
theorem dX11_numberRead_18 : decode cX11_numberRead 18 = .ok (.iload_n 1, 1) := by decide +kernel
theorem dX11_numberRead_19 : decode cX11_numberRead 19 = .ok (.if_icmp .le 11, 3) := by decide +kernel
theorem dX11_numberRead_22 : decode cX11_numberRead 22 = .ok (.aload_n 0, 1) := by decide +kernel
theorem dX11_numberRead_23 : decode cX11_numberRead 23 = .ok (.iconst 2, 1) := by decide +kernel
theorem dX11_numberRead_24 : decode cX11_numberRead 24 = .ok (.invokevirtual 178, 3) := by decide +kernel
theorem dX11_numberRead_27 : decode cX11_numberRead 27 = .ok (.ifCond .eq 7, 3) := by decide +kernel
theorem dX11_numberRead_30 : decode cX11_numberRead 30 = .ok (.iconst 1, 1) := by decide +kernel
theorem dX11_numberRead_31 : decode cX11_numberRead 31 = .ok (.goto 4, 3) := by decide +kernel
theorem dX11_numberRead_34 : decode cX11_numberRead 34 = .ok (.iconst 0, 1) := by decide +kernel
theorem dX11_numberRead_35 : decode cX11_numberRead 35 = .ok (.ireturn, 1) := by decide +kernel
theorem dX11_testRead_0 : decode cX11_testRead 0 = .ok (.aload_n 0, 1) := by decide +kernel
theorem dX11_testRead_1 : decode cX11_testRead 1 = .ok (.iconst 2, 1) := by decide +kernel
theorem dX11_testRead_2 : decode cX11_testRead 2 = .ok (.invokevirtual 184, 3) := by decide +kernel
theorem dX11_testRead_5 : decode cX11_testRead 5 = .ok (.istore_n 2, 1) := by decide +kernel
theorem dX11_testRead_6 : decode cX11_testRead 6 = .ok (.iload_n 2, 1) := by decide +kernel
theorem dX11_testRead_7 : decode cX11_testRead 7 = .ok (.ifCond .ne 34, 3) := by decide +kernel
theorem dX11_testRead_10 : decode cX11_testRead 10 = .ok (.aload_n 0, 1) := by decide +kernel
theorem dX11_testRead_11 : decode cX11_testRead 11 = .ok (.getfield 148, 3) := by decide +kernel
theorem dX11_testRead_14 : decode cX11_testRead 14 = .ok (.iconst 1, 1) := by decide +kernel
theorem dX11_testRead_15 : decode cX11_testRead 15 = .ok (.if_icmp .ne 20, 3) := by decide +kernel
theorem dX11_testRead_18 : decode cX11_testRead 18 = .ok (.aload_n 0, 1) := by decide +kernel
theorem dX11_testRead_19 : decode cX11_testRead 19 = .ok (.getfield 159, 3) := by decide +kernel
theorem dX11_testRead_22 : decode cX11_testRead 22 = .ok (.iconst 3, 1) := by decide +kernel
theorem dX11_testRead_23 : decode cX11_testRead 23 = .ok (.if_icmp .lt 12, 3) := by decide +kernel
theorem dX11_testRead_26 : decode cX11_testRead 26 = .ok (.aload_n 0, 1) := by decide +kernel
theorem dX11_testRead_27 : decode cX11_testRead 27 = .ok (.getfield 159, 3) := by decide +kernel
theorem dX11_testRead_30 : decode cX11_testRead 30 = .ok (.bipush 8, 2) := by decide +kernel
theorem dX11_testRead_32 : decode cX11_testRead 32 = .ok (.if_icmp .le 9, 3) := by decide +kernel
theorem dX11_testRead_35 : decode cX11_testRead 35 = .ok (.aload_n 0, 1) := by decide +kernel
theorem dX11_testRead_36 : decode cX11_testRead 36 = .ok (.iconst 1, 1) := by decide +kernel
theorem dX11_testRead_37 : decode cX11_testRead 37 = .ok (.invokevirtual 178, 3) := by decide +kernel
theorem dX11_testRead_40 : decode cX11_testRead 40 = .ok (.ireturn, 1) := by decide +kernel
theorem dX11_testRead_41 : decode cX11_testRead 41 = .ok (.aload_n 0, 1) := by decide +kernel
theorem dX11_testRead_42 : decode cX11_testRead 42 = .ok (.getfield 20, 3) := by decide +kernel
theorem dX11_testRead_45 : decode cX11_testRead 45 = .ok (.iload_n 1, 1) := by decide +kernel
theorem dX11_testRead_46 : decode cX11_testRead 46 = .ok (.iaload, 1) := by decide +kernel
theorem dX11_testRead_47 : decode cX11_testRead 47 = .ok (.bipush 12, 2) := by decide +kernel
theorem dX11_testRead_49 : decode cX11_testRead 49 = .ok (.if_icmp .ne 9, 3) := by decide +kernel
theorem dX11_testRead_52 : decode cX11_testRead 52 = .ok (.aload_n 0, 1) := by decide +kernel
theorem dX11_testRead_53 : decode cX11_testRead 53 = .ok (.iconst 2, 1) := by decide +kernel
theorem dX11_testRead_54 : decode cX11_testRead 54 = .ok (.invokevirtual 178, 3) := by decide +kernel
theorem dX11_testRead_57 : decode cX11_testRead 57 = .ok (.ireturn, 1) := by decide +kernel
theorem dX11_testRead_58 : decode cX11_testRead 58 = .ok (.iload_n 2, 1) := by decide +kernel
theorem dX11_testRead_59 : decode cX11_testRead 59 = .ok (.ifCond .eq 7, 3) := by decide +kernel
theorem dX11_testRead_62 : decode cX11_testRead 62 = .ok (.aload_n 0, 1) := by decide +kernel
theorem dX11_testRead_63 : decode cX11_testRead 63 = .ok (.invokevirtual 181, 3) := by decide +kernel
theorem dX11_testRead_66 : decode cX11_testRead 66 = .ok (.aload_n 0, 1) := by decide +kernel
theorem dX11_testRead_67 : decode cX11_testRead 67 = .ok (.getfield 148, 3) := by decide +kernel
theorem dX11_testRead_70 : decode cX11_testRead 70 = .ok (.iconst 1, 1) := by decide +kernel
theorem dX11_testRead_71 : decode cX11_testRead 71 = .ok (.if_icmp .ne 20, 3) := by decide +kernel
theorem dX11_testRead_74 : decode cX11_testRead 74 = .ok (.aload_n 0, 1) := by decide +kernel
theorem dX11_testRead_75 : decode cX11_testRead 75 = .ok (.getfield 159, 3) := by decide +kernel
theorem dX11_testRead_78 : decode cX11_testRead 78 = .ok (.iconst 3, 1) := by decide +kernel
theorem dX11_testRead_79 : decode cX11_testRead 79 = .ok (.if_icmp .lt 12, 3) := by decide +kernel
theorem dX11_testRead_82 : decode cX11_testRead 82 = .ok (.aload_n 0, 1) := by decide +kernel
theorem dX11_testRead_83 : decode cX11_testRead 83 = .ok (.getfield 159, 3) := by decide +kernel
theorem dX11_testRead_86 : decode cX11_testRead 86 = .ok (.bipush 8, 2) := by decide +kernel
theorem dX11_testRead_88 : decode cX11_testRead 88 = .ok (.if_icmp .le 9, 3) := by decide +kernel
theorem dX11_testRead_91 : decode cX11_testRead 91 = .ok (.aload_n 0, 1) := by decide +kernel
theorem dX11_testRead_92 : decode cX11_testRead 92 = .ok (.iconst 1, 1) := by decide +kernel
theorem dX11_testRead_93 : decode cX11_testRead 93 = .ok (.invokevirtual 178, 3) := by decide +kernel
theorem dX11_testRead_96 : decode cX11_testRead 96 = .ok (.ireturn, 1) := by decide +kernel
theorem dX11_testRead_97 : decode cX11_testRead 97 = .ok (.bipush 12, 2) := by decide +kernel
theorem dX11_testRead_99 : decode cX11_testRead 99 = .ok (.iload_n 1, 1) := by decide +kernel
theorem dX11_testRead_100 : decode cX11_testRead 100 = .ok (.imul, 1) := by decide +kernel
theorem dX11_testRead_101 : decode cX11_testRead 101 = .ok (.aload_n 0, 1) := by decide +kernel
theorem dX11_testRead_102 : decode cX11_testRead 102 = .ok (.getfield 20, 3) := by decide +kernel
theorem dX11_testRead_105 : decode cX11_testRead 105 = .ok (.iload_n 1, 1) := by decide +kernel
theorem dX11_testRead_106 : decode cX11_testRead 106 = .ok (.iaload, 1) := by decide +kernel
theorem dX11_testRead_107 : decode cX11_testRead 107 = .ok (.iadd, 1) := by decide +kernel
theorem dX11_testRead_108 : decode cX11_testRead 108 = .ok (.istore_n 3, 1) := by decide +kernel
theorem dX11_testRead_109 : decode cX11_testRead 109 = .ok (.aload_n 0, 1) := by decide +kernel
theorem dX11_testRead_110 : decode cX11_testRead 110 = .ok (.getfield 159, 3) := by decide +kernel
theorem dX11_testRead_113 : decode cX11_testRead 113 = .ok (.istore 4, 2) := by decide +kernel
theorem dX11_testRead_115 : decode cX11_testRead 115 = .ok (.aload_n 0, 1) := by decide +kernel
theorem dX11_testRead_116 : decode cX11_testRead 116 = .ok (.getfield 139, 3) := by decide +kernel
theorem dX11_testRead_119 : decode cX11_testRead 119 = .ok (.istore 5, 2) := by decide +kernel
theorem dX11_testRead_121 : decode cX11_testRead 121 = .ok (.aload_n 0, 1) := by decide +kernel
theorem dX11_testRead_122 : decode cX11_testRead 122 = .ok (.getfield 26, 3) := by decide +kernel
theorem dX11_testRead_125 : decode cX11_testRead 125 = .ok (.iload_n 3, 1) := by decide +kernel
theorem dX11_testRead_126 : decode cX11_testRead 126 = .ok (.iload 4, 2) := by decide +kernel
theorem dX11_testRead_128 : decode cX11_testRead 128 = .ok (.iastore, 1) := by decide +kernel
theorem dX11_testRead_129 : decode cX11_testRead 129 = .ok (.aload_n 0, 1) := by decide +kernel
theorem dX11_testRead_130 : decode cX11_testRead 130 = .ok (.getfield 32, 3) := by decide +kernel
theorem dX11_testRead_133 : decode cX11_testRead 133 = .ok (.iload_n 3, 1) := by decide +kernel
theorem dX11_testRead_134 : decode cX11_testRead 134 = .ok (.iload_n 2, 1) := by decide +kernel
theorem dX11_testRead_135 : decode cX11_testRead 135 = .ok (.bastore, 1) := by decide +kernel
theorem dX11_testRead_136 : decode cX11_testRead 136 = .ok (.aload_n 0, 1) := by decide +kernel
theorem dX11_testRead_137 : decode cX11_testRead 137 = .ok (.getfield 29, 3) := by decide +kernel
theorem dX11_testRead_140 : decode cX11_testRead 140 = .ok (.iload_n 3, 1) := by decide +kernel
theorem dX11_testRead_141 : decode cX11_testRead 141 = .ok (.iconst 0, 1) := by decide +kernel
theorem dX11_testRead_142 : decode cX11_testRead 142 = .ok (.iastore, 1) := by decide +kernel
theorem dX11_testRead_143 : decode cX11_testRead 143 = .ok (.aload_n 0, 1) := by decide +kernel
theorem dX11_testRead_144 : decode cX11_testRead 144 = .ok (.invokevirtual 181, 3) := by decide +kernel
theorem dX11_testRead_147 : decode cX11_testRead 147 = .ok (.iload 4, 2) := by decide +kernel
theorem dX11_testRead_149 : decode cX11_testRead 149 = .ok (.bipush 6, 2) := by decide +kernel
theorem dX11_testRead_151 : decode cX11_testRead 151 = .ok (.if_icmp .lt 51, 3) := by decide +kernel
theorem dX11_testRead_154 : decode cX11_testRead 154 = .ok (.aload_n 0, 1) := by decide +kernel
theorem dX11_testRead_155 : decode cX11_testRead 155 = .ok (.iload 4, 2) := by decide +kernel
theorem dX11_testRead_157 : decode cX11_testRead 157 = .ok (.bipush 6, 2) := by decide +kernel
theorem dX11_testRead_159 : decode cX11_testRead 159 = .ok (.if_icmp .ne 8, 3) := by decide +kernel
theorem dX11_testRead_162 : decode cX11_testRead 162 = .ok (.bipush 9, 2) := by decide +kernel
theorem dX11_testRead_164 : decode cX11_testRead 164 = .ok (.goto 16, 3) := by decide +kernel
theorem dX11_testRead_167 : decode cX11_testRead 167 = .ok (.iload 4, 2) := by decide +kernel
theorem dX11_testRead_169 : decode cX11_testRead 169 = .ok (.bipush 7, 2) := by decide +kernel
theorem dX11_testRead_171 : decode cX11_testRead 171 = .ok (.if_icmp .ne 8, 3) := by decide +kernel
theorem dX11_testRead_174 : decode cX11_testRead 174 = .ok (.bipush 99, 2) := by decide +kernel
theorem dX11_testRead_176 : decode cX11_testRead 176 = .ok (.goto 4, 3) := by decide +kernel
theorem dX11_testRead_179 : decode cX11_testRead 179 = .ok (.iconst 2, 1) := by decide +kernel
theorem dX11_testRead_180 : decode cX11_testRead 180 = .ok (.invokevirtual 187, 3) := by decide +kernel
theorem dX11_testRead_183 : decode cX11_testRead 183 = .ok (.ifCond .ne 5, 3) := by decide +kernel
theorem dX11_testRead_186 : decode cX11_testRead 186 = .ok (.iconst 0, 1) := by decide +kernel
theorem dX11_testRead_187 : decode cX11_testRead 187 = .ok (.ireturn, 1) := by decide +kernel
theorem dX11_testRead_188 : decode cX11_testRead 188 = .ok (.aload_n 0, 1) := by decide +kernel
theorem dX11_testRead_189 : decode cX11_testRead 189 = .ok (.getfield 29, 3) := by decide +kernel
theorem dX11_testRead_192 : decode cX11_testRead 192 = .ok (.iload_n 3, 1) := by decide +kernel
theorem dX11_testRead_193 : decode cX11_testRead 193 = .ok (.aload_n 0, 1) := by decide +kernel
theorem dX11_testRead_194 : decode cX11_testRead 194 = .ok (.getfield 159, 3) := by decide +kernel
theorem dX11_testRead_197 : decode cX11_testRead 197 = .ok (.iastore, 1) := by decide +kernel
theorem dX11_testRead_198 : decode cX11_testRead 198 = .ok (.aload_n 0, 1) := by decide +kernel
theorem dX11_testRead_199 : decode cX11_testRead 199 = .ok (.invokevirtual 181, 3) := by decide +kernel
theorem dX11_testRead_202 : decode cX11_testRead 202 = .ok (.bipush 12, 2) := by decide +kernel
theorem dX11_testRead_204 : decode cX11_testRead 204 = .ok (.iload_n 1, 1) := by decide +kernel
theorem dX11_testRead_205 : decode cX11_testRead 205 = .ok (.imul, 1) := by decide +kernel
theorem dX11_testRead_206 : decode cX11_testRead 206 = .ok (.istore 6, 2) := by decide +kernel
theorem dX11_testRead_208 : decode cX11_testRead 208 = .ok (.iload 6, 2) := by decide +kernel
theorem dX11_testRead_210 : decode cX11_testRead 210 = .ok (.iload_n 3, 1) := by decide +kernel
theorem dX11_testRead_211 : decode cX11_testRead 211 = .ok (.if_icmp .ge 52, 3) := by decide +kernel
theorem dX11_testRead_214 : decode cX11_testRead 214 = .ok (.aload_n 0, 1) := by decide +kernel
theorem dX11_testRead_215 : decode cX11_testRead 215 = .ok (.getfield 26, 3) := by decide +kernel
theorem dX11_testRead_218 : decode cX11_testRead 218 = .ok (.iload 6, 2) := by decide +kernel
theorem dX11_testRead_220 : decode cX11_testRead 220 = .ok (.iaload, 1) := by decide +kernel
theorem dX11_testRead_221 : decode cX11_testRead 221 = .ok (.iload 4, 2) := by decide +kernel
theorem dX11_testRead_223 : decode cX11_testRead 223 = .ok (.if_icmp .ne 34, 3) := by decide +kernel
theorem dX11_testRead_226 : decode cX11_testRead 226 = .ok (.aload_n 0, 1) := by decide +kernel
theorem dX11_testRead_227 : decode cX11_testRead 227 = .ok (.getfield 29, 3) := by decide +kernel
theorem dX11_testRead_230 : decode cX11_testRead 230 = .ok (.iload 6, 2) := by decide +kernel
theorem dX11_testRead_232 : decode cX11_testRead 232 = .ok (.iaload, 1) := by decide +kernel
theorem dX11_testRead_233 : decode cX11_testRead 233 = .ok (.aload_n 0, 1) := by decide +kernel
theorem dX11_testRead_234 : decode cX11_testRead 234 = .ok (.getfield 29, 3) := by decide +kernel
theorem dX11_testRead_237 : decode cX11_testRead 237 = .ok (.iload_n 3, 1) := by decide +kernel
theorem dX11_testRead_238 : decode cX11_testRead 238 = .ok (.iaload, 1) := by decide +kernel
theorem dX11_testRead_239 : decode cX11_testRead 239 = .ok (.if_icmp .eq 6, 3) := by decide +kernel
theorem dX11_testRead_242 : decode cX11_testRead 242 = .ok (.goto 15, 3) := by decide +kernel
theorem dX11_testRead_245 : decode cX11_testRead 245 = .ok (.aload_n 0, 1) := by decide +kernel
theorem dX11_testRead_246 : decode cX11_testRead 246 = .ok (.iload 5, 2) := by decide +kernel
theorem dX11_testRead_248 : decode cX11_testRead 248 = .ok (.putfield 139, 3) := by decide +kernel
theorem dX11_testRead_251 : decode cX11_testRead 251 = .ok (.aload_n 0, 1) := by decide +kernel
theorem dX11_testRead_252 : decode cX11_testRead 252 = .ok (.iconst 3, 1) := by decide +kernel
theorem dX11_testRead_253 : decode cX11_testRead 253 = .ok (.invokevirtual 178, 3) := by decide +kernel
theorem dX11_testRead_256 : decode cX11_testRead 256 = .ok (.ireturn, 1) := by decide +kernel
theorem dX11_testRead_257 : decode cX11_testRead 257 = .ok (.iinc 6 1, 3) := by decide +kernel
theorem dX11_testRead_260 : decode cX11_testRead 260 = .ok (.goto (-52), 3) := by decide +kernel
theorem dX11_testRead_263 : decode cX11_testRead 263 = .ok (.aload_n 0, 1) := by decide +kernel
theorem dX11_testRead_264 : decode cX11_testRead 264 = .ok (.getfield 20, 3) := by decide +kernel
theorem dX11_testRead_267 : decode cX11_testRead 267 = .ok (.iload_n 1, 1) := by decide +kernel
theorem dX11_testRead_268 : decode cX11_testRead 268 = .ok (.dup2, 1) := by decide +kernel
theorem dX11_testRead_269 : decode cX11_testRead 269 = .ok (.iaload, 1) := by decide +kernel
theorem dX11_testRead_270 : decode cX11_testRead 270 = .ok (.iconst 1, 1) := by decide +kernel
theorem dX11_testRead_271 : decode cX11_testRead 271 = .ok (.iadd, 1) := by decide +kernel
theorem dX11_testRead_272 : decode cX11_testRead 272 = .ok (.iastore, 1) := by decide +kernel
theorem dX11_testRead_273 : decode cX11_testRead 273 = .ok (.iconst 1, 1) := by decide +kernel
theorem dX11_testRead_274 : decode cX11_testRead 274 = .ok (.ireturn, 1) := by decide +kernel
theorem dX11_actRead_0 : decode cX11_actRead 0 = .ok (.aload_n 0, 1) := by decide +kernel
theorem dX11_actRead_1 : decode cX11_actRead 1 = .ok (.getfield 148, 3) := by decide +kernel
theorem dX11_actRead_4 : decode cX11_actRead 4 = .ok (.iconst 1, 1) := by decide +kernel
theorem dX11_actRead_5 : decode cX11_actRead 5 = .ok (.if_icmp .ne 30, 3) := by decide +kernel
theorem dX11_actRead_8 : decode cX11_actRead 8 = .ok (.aload_n 0, 1) := by decide +kernel
theorem dX11_actRead_9 : decode cX11_actRead 9 = .ok (.getfield 159, 3) := by decide +kernel
theorem dX11_actRead_12 : decode cX11_actRead 12 = .ok (.bipush 6, 2) := by decide +kernel
theorem dX11_actRead_14 : decode cX11_actRead 14 = .ok (.if_icmp .eq 27, 3) := by decide +kernel
theorem dX11_actRead_17 : decode cX11_actRead 17 = .ok (.aload_n 0, 1) := by decide +kernel
theorem dX11_actRead_18 : decode cX11_actRead 18 = .ok (.getfield 159, 3) := by decide +kernel
theorem dX11_actRead_21 : decode cX11_actRead 21 = .ok (.bipush 9, 2) := by decide +kernel
theorem dX11_actRead_23 : decode cX11_actRead 23 = .ok (.if_icmp .lt 12, 3) := by decide +kernel
theorem dX11_actRead_26 : decode cX11_actRead 26 = .ok (.aload_n 0, 1) := by decide +kernel
theorem dX11_actRead_27 : decode cX11_actRead 27 = .ok (.getfield 159, 3) := by decide +kernel
theorem dX11_actRead_30 : decode cX11_actRead 30 = .ok (.bipush 19, 2) := by decide +kernel
theorem dX11_actRead_32 : decode cX11_actRead 32 = .ok (.if_icmp .le 9, 3) := by decide +kernel
theorem dX11_actRead_35 : decode cX11_actRead 35 = .ok (.aload_n 0, 1) := by decide +kernel
theorem dX11_actRead_36 : decode cX11_actRead 36 = .ok (.iconst 1, 1) := by decide +kernel
theorem dX11_actRead_37 : decode cX11_actRead 37 = .ok (.invokevirtual 178, 3) := by decide +kernel
theorem dX11_actRead_40 : decode cX11_actRead 40 = .ok (.ireturn, 1) := by decide +kernel
theorem dX11_actRead_41 : decode cX11_actRead 41 = .ok (.aload_n 0, 1) := by decide +kernel
theorem dX11_actRead_42 : decode cX11_actRead 42 = .ok (.getfield 23, 3) := by decide +kernel
theorem dX11_actRead_45 : decode cX11_actRead 45 = .ok (.iload_n 1, 1) := by decide +kernel
theorem dX11_actRead_46 : decode cX11_actRead 46 = .ok (.iaload, 1) := by decide +kernel
theorem dX11_actRead_47 : decode cX11_actRead 47 = .ok (.bipush 12, 2) := by decide +kernel
theorem dX11_actRead_49 : decode cX11_actRead 49 = .ok (.if_icmp .ne 9, 3) := by decide +kernel
theorem dX11_actRead_52 : decode cX11_actRead 52 = .ok (.aload_n 0, 1) := by decide +kernel
theorem dX11_actRead_53 : decode cX11_actRead 53 = .ok (.iconst 2, 1) := by decide +kernel
theorem dX11_actRead_54 : decode cX11_actRead 54 = .ok (.invokevirtual 178, 3) := by decide +kernel
theorem dX11_actRead_57 : decode cX11_actRead 57 = .ok (.ireturn, 1) := by decide +kernel
theorem dX11_actRead_58 : decode cX11_actRead 58 = .ok (.bipush 12, 2) := by decide +kernel
theorem dX11_actRead_60 : decode cX11_actRead 60 = .ok (.iload_n 1, 1) := by decide +kernel
theorem dX11_actRead_61 : decode cX11_actRead 61 = .ok (.imul, 1) := by decide +kernel
theorem dX11_actRead_62 : decode cX11_actRead 62 = .ok (.aload_n 0, 1) := by decide +kernel
theorem dX11_actRead_63 : decode cX11_actRead 63 = .ok (.getfield 23, 3) := by decide +kernel
theorem dX11_actRead_66 : decode cX11_actRead 66 = .ok (.iload_n 1, 1) := by decide +kernel
theorem dX11_actRead_67 : decode cX11_actRead 67 = .ok (.iaload, 1) := by decide +kernel
theorem dX11_actRead_68 : decode cX11_actRead 68 = .ok (.iadd, 1) := by decide +kernel
theorem dX11_actRead_69 : decode cX11_actRead 69 = .ok (.istore_n 2, 1) := by decide +kernel
theorem dX11_actRead_70 : decode cX11_actRead 70 = .ok (.aload_n 0, 1) := by decide +kernel
theorem dX11_actRead_71 : decode cX11_actRead 71 = .ok (.getfield 36, 3) := by decide +kernel
theorem dX11_actRead_74 : decode cX11_actRead 74 = .ok (.iload_n 2, 1) := by decide +kernel
theorem dX11_actRead_75 : decode cX11_actRead 75 = .ok (.aload_n 0, 1) := by decide +kernel
theorem dX11_actRead_76 : decode cX11_actRead 76 = .ok (.getfield 159, 3) := by decide +kernel
theorem dX11_actRead_79 : decode cX11_actRead 79 = .ok (.iastore, 1) := by decide +kernel
theorem dX11_actRead_80 : decode cX11_actRead 80 = .ok (.aload_n 0, 1) := by decide +kernel
theorem dX11_actRead_81 : decode cX11_actRead 81 = .ok (.getfield 39, 3) := by decide +kernel
theorem dX11_actRead_84 : decode cX11_actRead 84 = .ok (.iload_n 2, 1) := by decide +kernel
theorem dX11_actRead_85 : decode cX11_actRead 85 = .ok (.iconst 0, 1) := by decide +kernel
theorem dX11_actRead_86 : decode cX11_actRead 86 = .ok (.iastore, 1) := by decide +kernel
theorem dX11_actRead_87 : decode cX11_actRead 87 = .ok (.aload_n 0, 1) := by decide +kernel
theorem dX11_actRead_88 : decode cX11_actRead 88 = .ok (.invokevirtual 181, 3) := by decide +kernel
theorem dX11_actRead_91 : decode cX11_actRead 91 = .ok (.aload_n 0, 1) := by decide +kernel
theorem dX11_actRead_92 : decode cX11_actRead 92 = .ok (.getfield 36, 3) := by decide +kernel
theorem dX11_actRead_95 : decode cX11_actRead 95 = .ok (.iload_n 2, 1) := by decide +kernel
theorem dX11_actRead_96 : decode cX11_actRead 96 = .ok (.iaload, 1) := by decide +kernel
theorem dX11_actRead_97 : decode cX11_actRead 97 = .ok (.bipush 6, 2) := by decide +kernel
theorem dX11_actRead_99 : decode cX11_actRead 99 = .ok (.if_icmp .eq 25, 3) := by decide +kernel
theorem dX11_actRead_102 : decode cX11_actRead 102 = .ok (.aload_n 0, 1) := by decide +kernel
theorem dX11_actRead_103 : decode cX11_actRead 103 = .ok (.getfield 36, 3) := by decide +kernel
theorem dX11_actRead_106 : decode cX11_actRead 106 = .ok (.iload_n 2, 1) := by decide +kernel
theorem dX11_actRead_107 : decode cX11_actRead 107 = .ok (.iaload, 1) := by decide +kernel
theorem dX11_actRead_108 : decode cX11_actRead 108 = .ok (.bipush 15, 2) := by decide +kernel
theorem dX11_actRead_110 : decode cX11_actRead 110 = .ok (.if_icmp .eq 14, 3) := by decide +kernel
theorem dX11_actRead_113 : decode cX11_actRead 113 = .ok (.aload_n 0, 1) := by decide +kernel
theorem dX11_actRead_114 : decode cX11_actRead 114 = .ok (.getfield 36, 3) := by decide +kernel
theorem dX11_actRead_117 : decode cX11_actRead 117 = .ok (.iload_n 2, 1) := by decide +kernel
theorem dX11_actRead_118 : decode cX11_actRead 118 = .ok (.iaload, 1) := by decide +kernel
theorem dX11_actRead_119 : decode cX11_actRead 119 = .ok (.bipush 16, 2) := by decide +kernel
theorem dX11_actRead_121 : decode cX11_actRead 121 = .ok (.if_icmp .ne 43, 3) := by decide +kernel
theorem dX11_actRead_124 : decode cX11_actRead 124 = .ok (.aload_n 0, 1) := by decide +kernel
theorem dX11_actRead_125 : decode cX11_actRead 125 = .ok (.aload_n 0, 1) := by decide +kernel
theorem dX11_actRead_126 : decode cX11_actRead 126 = .ok (.getfield 36, 3) := by decide +kernel
theorem dX11_actRead_129 : decode cX11_actRead 129 = .ok (.iload_n 2, 1) := by decide +kernel
theorem dX11_actRead_130 : decode cX11_actRead 130 = .ok (.iaload, 1) := by decide +kernel
theorem dX11_actRead_131 : decode cX11_actRead 131 = .ok (.bipush 6, 2) := by decide +kernel
theorem dX11_actRead_133 : decode cX11_actRead 133 = .ok (.if_icmp .ne 8, 3) := by decide +kernel
theorem dX11_actRead_136 : decode cX11_actRead 136 = .ok (.bipush 9, 2) := by decide +kernel
theorem dX11_actRead_138 : decode cX11_actRead 138 = .ok (.goto 4, 3) := by decide +kernel
theorem dX11_actRead_141 : decode cX11_actRead 141 = .ok (.iconst 2, 1) := by decide +kernel
theorem dX11_actRead_142 : decode cX11_actRead 142 = .ok (.invokevirtual 187, 3) := by decide +kernel
theorem dX11_actRead_145 : decode cX11_actRead 145 = .ok (.ifCond .ne 5, 3) := by decide +kernel
theorem dX11_actRead_148 : decode cX11_actRead 148 = .ok (.iconst 0, 1) := by decide +kernel
theorem dX11_actRead_149 : decode cX11_actRead 149 = .ok (.ireturn, 1) := by decide +kernel
theorem dX11_actRead_150 : decode cX11_actRead 150 = .ok (.aload_n 0, 1) := by decide +kernel
theorem dX11_actRead_151 : decode cX11_actRead 151 = .ok (.getfield 39, 3) := by decide +kernel
theorem dX11_actRead_154 : decode cX11_actRead 154 = .ok (.iload_n 2, 1) := by decide +kernel
theorem dX11_actRead_155 : decode cX11_actRead 155 = .ok (.aload_n 0, 1) := by decide +kernel
theorem dX11_actRead_156 : decode cX11_actRead 156 = .ok (.getfield 159, 3) := by decide +kernel
theorem dX11_actRead_159 : decode cX11_actRead 159 = .ok (.iastore, 1) := by decide +kernel
theorem dX11_actRead_160 : decode cX11_actRead 160 = .ok (.aload_n 0, 1) := by decide +kernel
theorem dX11_actRead_161 : decode cX11_actRead 161 = .ok (.invokevirtual 181, 3) := by decide +kernel
theorem dX11_actRead_164 : decode cX11_actRead 164 = .ok (.aload_n 0, 1) := by decide +kernel
theorem dX11_actRead_165 : decode cX11_actRead 165 = .ok (.getfield 23, 3) := by decide +kernel
theorem dX11_actRead_168 : decode cX11_actRead 168 = .ok (.iload_n 1, 1) := by decide +kernel
theorem dX11_actRead_169 : decode cX11_actRead 169 = .ok (.dup2, 1) := by decide +kernel
theorem dX11_actRead_170 : decode cX11_actRead 170 = .ok (.iaload, 1) := by decide +kernel
theorem dX11_actRead_171 : decode cX11_actRead 171 = .ok (.iconst 1, 1) := by decide +kernel
theorem dX11_actRead_172 : decode cX11_actRead 172 = .ok (.iadd, 1) := by decide +kernel
theorem dX11_actRead_173 : decode cX11_actRead 173 = .ok (.iastore, 1) := by decide +kernel
theorem dX11_actRead_174 : decode cX11_actRead 174 = .ok (.iconst 1, 1) := by decide +kernel
theorem dX11_actRead_175 : decode cX11_actRead 175 = .ok (.ireturn, 1) := by decide +kernel
theorem dX11_lineRead_0 : decode cX11_lineRead 0 = .ok (.aload_n 0, 1) := by decide +kernel
theorem dX11_lineRead_1 : decode cX11_lineRead 1 = .ok (.iconst 0, 1) := by decide +kernel
theorem dX11_lineRead_2 : decode cX11_lineRead 2 = .ok (.invokevirtual 184, 3) := by decide +kernel
theorem dX11_lineRead_5 : decode cX11_lineRead 5 = .ok (.ifCond .ne 17, 3) := by decide +kernel
theorem dX11_lineRead_8 : decode cX11_lineRead 8 = .ok (.aload_n 0, 1) := by decide +kernel
theorem dX11_lineRead_9 : decode cX11_lineRead 9 = .ok (.iconst 1, 1) := by decide +kernel
theorem dX11_lineRead_10 : decode cX11_lineRead 10 = .ok (.invokevirtual 184, 3) := by decide +kernel
theorem dX11_lineRead_13 : decode cX11_lineRead 13 = .ok (.ifCond .ne 9, 3) := by decide +kernel
theorem dX11_lineRead_16 : decode cX11_lineRead 16 = .ok (.aload_n 0, 1) := by decide +kernel
theorem dX11_lineRead_17 : decode cX11_lineRead 17 = .ok (.iconst 1, 1) := by decide +kernel
theorem dX11_lineRead_18 : decode cX11_lineRead 18 = .ok (.invokevirtual 178, 3) := by decide +kernel
theorem dX11_lineRead_21 : decode cX11_lineRead 21 = .ok (.ireturn, 1) := by decide +kernel
theorem dX11_lineRead_22 : decode cX11_lineRead 22 = .ok (.iload_n 1, 1) := by decide +kernel
theorem dX11_lineRead_23 : decode cX11_lineRead 23 = .ok (.bipush 30, 2) := by decide +kernel
theorem dX11_lineRead_25 : decode cX11_lineRead 25 = .ok (.if_icmp .ne 9, 3) := by decide +kernel
theorem dX11_lineRead_28 : decode cX11_lineRead 28 = .ok (.aload_n 0, 1) := by decide +kernel
theorem dX11_lineRead_29 : decode cX11_lineRead 29 = .ok (.iconst 2, 1) := by decide +kernel
theorem dX11_lineRead_30 : decode cX11_lineRead 30 = .ok (.invokevirtual 178, 3) := by decide +kernel
theorem dX11_lineRead_33 : decode cX11_lineRead 33 = .ok (.ireturn, 1) := by decide +kernel
theorem dX11_lineRead_34 : decode cX11_lineRead 34 = .ok (.bipush 30, 2) := by decide +kernel
theorem dX11_lineRead_36 : decode cX11_lineRead 36 = .ok (.iload_n 1, 1) := by decide +kernel
theorem dX11_lineRead_37 : decode cX11_lineRead 37 = .ok (.iadd, 1) := by decide +kernel
theorem dX11_lineRead_38 : decode cX11_lineRead 38 = .ok (.istore_n 2, 1) := by decide +kernel
theorem dX11_lineRead_39 : decode cX11_lineRead 39 = .ok (.aload_n 0, 1) := by decide +kernel
theorem dX11_lineRead_40 : decode cX11_lineRead 40 = .ok (.getfield 20, 3) := by decide +kernel
theorem dX11_lineRead_43 : decode cX11_lineRead 43 = .ok (.iload_n 2, 1) := by decide +kernel
theorem dX11_lineRead_44 : decode cX11_lineRead 44 = .ok (.iconst 0, 1) := by decide +kernel
theorem dX11_lineRead_45 : decode cX11_lineRead 45 = .ok (.iastore, 1) := by decide +kernel
theorem dX11_lineRead_46 : decode cX11_lineRead 46 = .ok (.aload_n 0, 1) := by decide +kernel
theorem dX11_lineRead_47 : decode cX11_lineRead 47 = .ok (.getfield 23, 3) := by decide +kernel
theorem dX11_lineRead_50 : decode cX11_lineRead 50 = .ok (.iload_n 2, 1) := by decide +kernel
theorem dX11_lineRead_51 : decode cX11_lineRead 51 = .ok (.iconst 0, 1) := by decide +kernel
theorem dX11_lineRead_52 : decode cX11_lineRead 52 = .ok (.iastore, 1) := by decide +kernel
theorem dX11_lineRead_53 : decode cX11_lineRead 53 = .ok (.aload_n 0, 1) := by decide +kernel
theorem dX11_lineRead_54 : decode cX11_lineRead 54 = .ok (.iconst 0, 1) := by decide +kernel
theorem dX11_lineRead_55 : decode cX11_lineRead 55 = .ok (.invokevirtual 184, 3) := by decide +kernel
theorem dX11_lineRead_58 : decode cX11_lineRead 58 = .ok (.ifCond .eq 25, 3) := by decide +kernel
theorem dX11_lineRead_61 : decode cX11_lineRead 61 = .ok (.aload_n 0, 1) := by decide +kernel
theorem dX11_lineRead_62 : decode cX11_lineRead 62 = .ok (.invokevirtual 181, 3) := by decide +kernel
theorem dX11_lineRead_65 : decode cX11_lineRead 65 = .ok (.aload_n 0, 1) := by decide +kernel
theorem dX11_lineRead_66 : decode cX11_lineRead 66 = .ok (.iload_n 2, 1) := by decide +kernel
theorem dX11_lineRead_67 : decode cX11_lineRead 67 = .ok (.invokevirtual 190, 3) := by decide +kernel
theorem dX11_lineRead_70 : decode cX11_lineRead 70 = .ok (.ifCond .ne 5, 3) := by decide +kernel
theorem dX11_lineRead_73 : decode cX11_lineRead 73 = .ok (.iconst 0, 1) := by decide +kernel
theorem dX11_lineRead_74 : decode cX11_lineRead 74 = .ok (.ireturn, 1) := by decide +kernel
theorem dX11_lineRead_75 : decode cX11_lineRead 75 = .ok (.aload_n 0, 1) := by decide +kernel
theorem dX11_lineRead_76 : decode cX11_lineRead 76 = .ok (.iconst 1, 1) := by decide +kernel
theorem dX11_lineRead_77 : decode cX11_lineRead 77 = .ok (.invokevirtual 184, 3) := by decide +kernel
theorem dX11_lineRead_80 : decode cX11_lineRead 80 = .ok (.ifCond .eq (-15), 3) := by decide +kernel
theorem dX11_lineRead_83 : decode cX11_lineRead 83 = .ok (.aload_n 0, 1) := by decide +kernel
theorem dX11_lineRead_84 : decode cX11_lineRead 84 = .ok (.invokevirtual 181, 3) := by decide +kernel
theorem dX11_lineRead_87 : decode cX11_lineRead 87 = .ok (.aload_n 0, 1) := by decide +kernel
theorem dX11_lineRead_88 : decode cX11_lineRead 88 = .ok (.iload_n 2, 1) := by decide +kernel
theorem dX11_lineRead_89 : decode cX11_lineRead 89 = .ok (.invokevirtual 193, 3) := by decide +kernel
theorem dX11_lineRead_92 : decode cX11_lineRead 92 = .ok (.ifCond .ne 5, 3) := by decide +kernel
theorem dX11_lineRead_95 : decode cX11_lineRead 95 = .ok (.iconst 0, 1) := by decide +kernel
theorem dX11_lineRead_96 : decode cX11_lineRead 96 = .ok (.ireturn, 1) := by decide +kernel
theorem dX11_lineRead_97 : decode cX11_lineRead 97 = .ok (.aload_n 0, 1) := by decide +kernel
theorem dX11_lineRead_98 : decode cX11_lineRead 98 = .ok (.bipush 59, 2) := by decide +kernel
theorem dX11_lineRead_100 : decode cX11_lineRead 100 = .ok (.invokevirtual 175, 3) := by decide +kernel
theorem dX11_lineRead_103 : decode cX11_lineRead 103 = .ok (.ifCond .eq (-16), 3) := by decide +kernel
theorem dX11_lineRead_106 : decode cX11_lineRead 106 = .ok (.aload_n 0, 1) := by decide +kernel
theorem dX11_lineRead_107 : decode cX11_lineRead 107 = .ok (.invokevirtual 181, 3) := by decide +kernel
theorem dX11_lineRead_110 : decode cX11_lineRead 110 = .ok (.iconst 1, 1) := by decide +kernel
theorem dX11_lineRead_111 : decode cX11_lineRead 111 = .ok (.ireturn, 1) := by decide +kernel
theorem dX11_rules_0 : decode cX11_rules 0 = .ok (.aload_n 0, 1) := by decide +kernel
theorem dX11_rules_1 : decode cX11_rules 1 = .ok (.iconst 0, 1) := by decide +kernel
theorem dX11_rules_2 : decode cX11_rules 2 = .ok (.putfield 130, 3) := by decide +kernel
theorem dX11_rules_5 : decode cX11_rules 5 = .ok (.aload_n 0, 1) := by decide +kernel
theorem dX11_rules_6 : decode cX11_rules 6 = .ok (.iload_n 1, 1) := by decide +kernel
theorem dX11_rules_7 : decode cX11_rules 7 = .ok (.iconst 0, 1) := by decide +kernel
theorem dX11_rules_8 : decode cX11_rules 8 = .ok (.invokevirtual 196, 3) := by decide +kernel
theorem dX11_rules_11 : decode cX11_rules 11 = .ok (.ifCond .ne 6, 3) := by decide +kernel
theorem dX11_rules_14 : decode cX11_rules 14 = .ok (.bipush (-2), 2) := by decide +kernel
theorem dX11_rules_16 : decode cX11_rules 16 = .ok (.ireturn, 1) := by decide +kernel
theorem dX11_rules_17 : decode cX11_rules 17 = .ok (.iconst 0, 1) := by decide +kernel
theorem dX11_rules_18 : decode cX11_rules 18 = .ok (.istore_n 2, 1) := by decide +kernel
theorem dX11_rules_19 : decode cX11_rules 19 = .ok (.aload_n 0, 1) := by decide +kernel
theorem dX11_rules_20 : decode cX11_rules 20 = .ok (.getfield 148, 3) := by decide +kernel
theorem dX11_rules_23 : decode cX11_rules 23 = .ok (.ifCond .eq 19, 3) := by decide +kernel
theorem dX11_rules_26 : decode cX11_rules 26 = .ok (.aload_n 0, 1) := by decide +kernel
theorem dX11_rules_27 : decode cX11_rules 27 = .ok (.iload_n 2, 1) := by decide +kernel
theorem dX11_rules_28 : decode cX11_rules 28 = .ok (.invokevirtual 200, 3) := by decide +kernel
theorem dX11_rules_31 : decode cX11_rules 31 = .ok (.ifCond .ne 5, 3) := by decide +kernel
theorem dX11_rules_34 : decode cX11_rules 34 = .ok (.iconst (-1), 1) := by decide +kernel
theorem dX11_rules_35 : decode cX11_rules 35 = .ok (.ireturn, 1) := by decide +kernel
theorem dX11_rules_36 : decode cX11_rules 36 = .ok (.iinc 2 1, 3) := by decide +kernel
theorem dX11_rules_39 : decode cX11_rules 39 = .ok (.goto (-20), 3) := by decide +kernel
theorem dX11_rules_42 : decode cX11_rules 42 = .ok (.aload_n 0, 1) := by decide +kernel
theorem dX11_rules_43 : decode cX11_rules 43 = .ok (.iload_n 2, 1) := by decide +kernel
theorem dX11_rules_44 : decode cX11_rules 44 = .ok (.putfield 203, 3) := by decide +kernel
theorem dX11_rules_47 : decode cX11_rules 47 = .ok (.iconst 0, 1) := by decide +kernel
theorem dX11_rules_48 : decode cX11_rules 48 = .ok (.istore_n 3, 1) := by decide +kernel
theorem dX11_rules_49 : decode cX11_rules 49 = .ok (.iload_n 3, 1) := by decide +kernel
theorem dX11_rules_50 : decode cX11_rules 50 = .ok (.aload_n 0, 1) := by decide +kernel
theorem dX11_rules_51 : decode cX11_rules 51 = .ok (.getfield 203, 3) := by decide +kernel
theorem dX11_rules_54 : decode cX11_rules 54 = .ok (.if_icmp .ge 39, 3) := by decide +kernel
theorem dX11_rules_57 : decode cX11_rules 57 = .ok (.aload_n 0, 1) := by decide +kernel
theorem dX11_rules_58 : decode cX11_rules 58 = .ok (.getfield 20, 3) := by decide +kernel
theorem dX11_rules_61 : decode cX11_rules 61 = .ok (.iload_n 3, 1) := by decide +kernel
theorem dX11_rules_62 : decode cX11_rules 62 = .ok (.aload_n 0, 1) := by decide +kernel
theorem dX11_rules_63 : decode cX11_rules 63 = .ok (.getfield 20, 3) := by decide +kernel
theorem dX11_rules_66 : decode cX11_rules 66 = .ok (.bipush 30, 2) := by decide +kernel
theorem dX11_rules_68 : decode cX11_rules 68 = .ok (.iload_n 3, 1) := by decide +kernel
theorem dX11_rules_69 : decode cX11_rules 69 = .ok (.iadd, 1) := by decide +kernel
theorem dX11_rules_70 : decode cX11_rules 70 = .ok (.iaload, 1) := by decide +kernel
theorem dX11_rules_71 : decode cX11_rules 71 = .ok (.iastore, 1) := by decide +kernel
theorem dX11_rules_72 : decode cX11_rules 72 = .ok (.aload_n 0, 1) := by decide +kernel
theorem dX11_rules_73 : decode cX11_rules 73 = .ok (.getfield 23, 3) := by decide +kernel
theorem dX11_rules_76 : decode cX11_rules 76 = .ok (.iload_n 3, 1) := by decide +kernel
theorem dX11_rules_77 : decode cX11_rules 77 = .ok (.aload_n 0, 1) := by decide +kernel
theorem dX11_rules_78 : decode cX11_rules 78 = .ok (.getfield 23, 3) := by decide +kernel
theorem dX11_rules_81 : decode cX11_rules 81 = .ok (.bipush 30, 2) := by decide +kernel
theorem dX11_rules_83 : decode cX11_rules 83 = .ok (.iload_n 3, 1) := by decide +kernel
theorem dX11_rules_84 : decode cX11_rules 84 = .ok (.iadd, 1) := by decide +kernel
theorem dX11_rules_85 : decode cX11_rules 85 = .ok (.iaload, 1) := by decide +kernel
theorem dX11_rules_86 : decode cX11_rules 86 = .ok (.iastore, 1) := by decide +kernel
theorem dX11_rules_87 : decode cX11_rules 87 = .ok (.iinc 3 1, 3) := by decide +kernel
theorem dX11_rules_90 : decode cX11_rules 90 = .ok (.goto (-41), 3) := by decide +kernel
theorem dX11_rules_93 : decode cX11_rules 93 = .ok (.iconst 0, 1) := by decide +kernel
theorem dX11_rules_94 : decode cX11_rules 94 = .ok (.istore_n 3, 1) := by decide +kernel
theorem dX11_rules_95 : decode cX11_rules 95 = .ok (.iload_n 3, 1) := by decide +kernel
theorem dX11_rules_96 : decode cX11_rules 96 = .ok (.bipush 12, 2) := by decide +kernel
theorem dX11_rules_98 : decode cX11_rules 98 = .ok (.aload_n 0, 1) := by decide +kernel
theorem dX11_rules_99 : decode cX11_rules 99 = .ok (.getfield 203, 3) := by decide +kernel
theorem dX11_rules_102 : decode cX11_rules 102 = .ok (.imul, 1) := by decide +kernel
theorem dX11_rules_103 : decode cX11_rules 103 = .ok (.if_icmp .ge 89, 3) := by decide +kernel
theorem dX11_rules_106 : decode cX11_rules 106 = .ok (.aload_n 0, 1) := by decide +kernel
theorem dX11_rules_107 : decode cX11_rules 107 = .ok (.getfield 26, 3) := by decide +kernel
theorem dX11_rules_110 : decode cX11_rules 110 = .ok (.iload_n 3, 1) := by decide +kernel
theorem dX11_rules_111 : decode cX11_rules 111 = .ok (.aload_n 0, 1) := by decide +kernel
theorem dX11_rules_112 : decode cX11_rules 112 = .ok (.getfield 26, 3) := by decide +kernel
theorem dX11_rules_115 : decode cX11_rules 115 = .ok (.sipush 360, 3) := by decide +kernel
theorem dX11_rules_118 : decode cX11_rules 118 = .ok (.iload_n 3, 1) := by decide +kernel
theorem dX11_rules_119 : decode cX11_rules 119 = .ok (.iadd, 1) := by decide +kernel
theorem dX11_rules_120 : decode cX11_rules 120 = .ok (.iaload, 1) := by decide +kernel
theorem dX11_rules_121 : decode cX11_rules 121 = .ok (.iastore, 1) := by decide +kernel
theorem dX11_rules_122 : decode cX11_rules 122 = .ok (.aload_n 0, 1) := by decide +kernel
theorem dX11_rules_123 : decode cX11_rules 123 = .ok (.getfield 29, 3) := by decide +kernel
theorem dX11_rules_126 : decode cX11_rules 126 = .ok (.iload_n 3, 1) := by decide +kernel
theorem dX11_rules_127 : decode cX11_rules 127 = .ok (.aload_n 0, 1) := by decide +kernel
theorem dX11_rules_128 : decode cX11_rules 128 = .ok (.getfield 29, 3) := by decide +kernel
theorem dX11_rules_131 : decode cX11_rules 131 = .ok (.sipush 360, 3) := by decide +kernel
theorem dX11_rules_134 : decode cX11_rules 134 = .ok (.iload_n 3, 1) := by decide +kernel
theorem dX11_rules_135 : decode cX11_rules 135 = .ok (.iadd, 1) := by decide +kernel
theorem dX11_rules_136 : decode cX11_rules 136 = .ok (.iaload, 1) := by decide +kernel
theorem dX11_rules_137 : decode cX11_rules 137 = .ok (.iastore, 1) := by decide +kernel
theorem dX11_rules_138 : decode cX11_rules 138 = .ok (.aload_n 0, 1) := by decide +kernel
theorem dX11_rules_139 : decode cX11_rules 139 = .ok (.getfield 32, 3) := by decide +kernel
theorem dX11_rules_142 : decode cX11_rules 142 = .ok (.iload_n 3, 1) := by decide +kernel
theorem dX11_rules_143 : decode cX11_rules 143 = .ok (.aload_n 0, 1) := by decide +kernel
theorem dX11_rules_144 : decode cX11_rules 144 = .ok (.getfield 32, 3) := by decide +kernel
theorem dX11_rules_147 : decode cX11_rules 147 = .ok (.sipush 360, 3) := by decide +kernel
theorem dX11_rules_150 : decode cX11_rules 150 = .ok (.iload_n 3, 1) := by decide +kernel
theorem dX11_rules_151 : decode cX11_rules 151 = .ok (.iadd, 1) := by decide +kernel
theorem dX11_rules_152 : decode cX11_rules 152 = .ok (.baload, 1) := by decide +kernel
theorem dX11_rules_153 : decode cX11_rules 153 = .ok (.bastore, 1) := by decide +kernel
theorem dX11_rules_154 : decode cX11_rules 154 = .ok (.aload_n 0, 1) := by decide +kernel
theorem dX11_rules_155 : decode cX11_rules 155 = .ok (.getfield 36, 3) := by decide +kernel
theorem dX11_rules_158 : decode cX11_rules 158 = .ok (.iload_n 3, 1) := by decide +kernel
theorem dX11_rules_159 : decode cX11_rules 159 = .ok (.aload_n 0, 1) := by decide +kernel
theorem dX11_rules_160 : decode cX11_rules 160 = .ok (.getfield 36, 3) := by decide +kernel
theorem dX11_rules_163 : decode cX11_rules 163 = .ok (.sipush 360, 3) := by decide +kernel
theorem dX11_rules_166 : decode cX11_rules 166 = .ok (.iload_n 3, 1) := by decide +kernel
theorem dX11_rules_167 : decode cX11_rules 167 = .ok (.iadd, 1) := by decide +kernel
theorem dX11_rules_168 : decode cX11_rules 168 = .ok (.iaload, 1) := by decide +kernel
theorem dX11_rules_169 : decode cX11_rules 169 = .ok (.iastore, 1) := by decide +kernel
theorem dX11_rules_170 : decode cX11_rules 170 = .ok (.aload_n 0, 1) := by decide +kernel
theorem dX11_rules_171 : decode cX11_rules 171 = .ok (.getfield 39, 3) := by decide +kernel
theorem dX11_rules_174 : decode cX11_rules 174 = .ok (.iload_n 3, 1) := by decide +kernel
theorem dX11_rules_175 : decode cX11_rules 175 = .ok (.aload_n 0, 1) := by decide +kernel
theorem dX11_rules_176 : decode cX11_rules 176 = .ok (.getfield 39, 3) := by decide +kernel
theorem dX11_rules_179 : decode cX11_rules 179 = .ok (.sipush 360, 3) := by decide +kernel
theorem dX11_rules_182 : decode cX11_rules 182 = .ok (.iload_n 3, 1) := by decide +kernel
theorem dX11_rules_183 : decode cX11_rules 183 = .ok (.iadd, 1) := by decide +kernel
theorem dX11_rules_184 : decode cX11_rules 184 = .ok (.iaload, 1) := by decide +kernel
theorem dX11_rules_185 : decode cX11_rules 185 = .ok (.iastore, 1) := by decide +kernel
theorem dX11_rules_186 : decode cX11_rules 186 = .ok (.iinc 3 1, 3) := by decide +kernel
theorem dX11_rules_189 : decode cX11_rules 189 = .ok (.goto (-94), 3) := by decide +kernel
theorem dX11_rules_192 : decode cX11_rules 192 = .ok (.aload_n 0, 1) := by decide +kernel
theorem dX11_rules_193 : decode cX11_rules 193 = .ok (.iconst (-1), 1) := by decide +kernel
theorem dX11_rules_194 : decode cX11_rules 194 = .ok (.putfield 78, 3) := by decide +kernel
theorem dX11_rules_197 : decode cX11_rules 197 = .ok (.iconst 0, 1) := by decide +kernel
theorem dX11_rules_198 : decode cX11_rules 198 = .ok (.istore_n 3, 1) := by decide +kernel
theorem dX11_rules_199 : decode cX11_rules 199 = .ok (.iload_n 3, 1) := by decide +kernel
theorem dX11_rules_200 : decode cX11_rules 200 = .ok (.bipush 16, 2) := by decide +kernel
theorem dX11_rules_202 : decode cX11_rules 202 = .ok (.if_icmp .ge 16, 3) := by decide +kernel
theorem dX11_rules_205 : decode cX11_rules 205 = .ok (.aload_n 0, 1) := by decide +kernel
theorem dX11_rules_206 : decode cX11_rules 206 = .ok (.getfield 96, 3) := by decide +kernel
theorem dX11_rules_209 : decode cX11_rules 209 = .ok (.iload_n 3, 1) := by decide +kernel
theorem dX11_rules_210 : decode cX11_rules 210 = .ok (.iconst 0, 1) := by decide +kernel
theorem dX11_rules_211 : decode cX11_rules 211 = .ok (.bastore, 1) := by decide +kernel
theorem dX11_rules_212 : decode cX11_rules 212 = .ok (.iinc 3 1, 3) := by decide +kernel
theorem dX11_rules_215 : decode cX11_rules 215 = .ok (.goto (-16), 3) := by decide +kernel
theorem dX11_rules_218 : decode cX11_rules 218 = .ok (.aload_n 0, 1) := by decide +kernel
theorem dX11_rules_219 : decode cX11_rules 219 = .ok (.getfield 203, 3) := by decide +kernel
theorem dX11_rules_222 : decode cX11_rules 222 = .ok (.ireturn, 1) := by decide +kernel
theorem dX11_fault_0 : decode cX11_fault 0 = .ok (.aload_n 0, 1) := by decide +kernel
theorem dX11_fault_1 : decode cX11_fault 1 = .ok (.iconst 0, 1) := by decide +kernel
theorem dX11_fault_2 : decode cX11_fault 2 = .ok (.putfield 130, 3) := by decide +kernel
theorem dX11_fault_5 : decode cX11_fault 5 = .ok (.iload_n 1, 1) := by decide +kernel
theorem dX11_fault_6 : decode cX11_fault 6 = .ok (.ifCond .ne 10, 3) := by decide +kernel
theorem dX11_fault_9 : decode cX11_fault 9 = .ok (.aload_n 0, 1) := by decide +kernel
theorem dX11_fault_10 : decode cX11_fault 10 = .ok (.getfield 136, 3) := by decide +kernel
theorem dX11_fault_13 : decode cX11_fault 13 = .ok (.goto 16, 3) := by decide +kernel
theorem dX11_fault_16 : decode cX11_fault 16 = .ok (.iload_n 1, 1) := by decide +kernel
theorem dX11_fault_17 : decode cX11_fault 17 = .ok (.iconst 1, 1) := by decide +kernel
theorem dX11_fault_18 : decode cX11_fault 18 = .ok (.if_icmp .ne 10, 3) := by decide +kernel
theorem dX11_fault_21 : decode cX11_fault 21 = .ok (.aload_n 0, 1) := by decide +kernel
theorem dX11_fault_22 : decode cX11_fault 22 = .ok (.getfield 16, 3) := by decide +kernel
theorem dX11_fault_25 : decode cX11_fault 25 = .ok (.goto 4, 3) := by decide +kernel
theorem dX11_fault_28 : decode cX11_fault 28 = .ok (.iconst (-1), 1) := by decide +kernel
theorem dX11_fault_29 : decode cX11_fault 29 = .ok (.ireturn, 1) := by decide +kernel
theorem dX11_weight_0 : decode cX11_weight 0 = .ok (.iload_n 0, 1) := by decide +kernel
theorem dX11_weight_1 : decode cX11_weight 1 = .ok (.iconst 5, 1) := by decide +kernel
theorem dX11_weight_2 : decode cX11_weight 2 = .ok (.if_icmp .ne 7, 3) := by decide +kernel
theorem dX11_weight_5 : decode cX11_weight 5 = .ok (.iconst 3, 1) := by decide +kernel
theorem dX11_weight_6 : decode cX11_weight 6 = .ok (.goto 24, 3) := by decide +kernel
theorem dX11_weight_9 : decode cX11_weight 9 = .ok (.iload_n 0, 1) := by decide +kernel
theorem dX11_weight_10 : decode cX11_weight 10 = .ok (.bipush 6, 2) := by decide +kernel
theorem dX11_weight_12 : decode cX11_weight 12 = .ok (.if_icmp .ne 7, 3) := by decide +kernel
theorem dX11_weight_15 : decode cX11_weight 15 = .ok (.iconst 2, 1) := by decide +kernel
theorem dX11_weight_16 : decode cX11_weight 16 = .ok (.goto 14, 3) := by decide +kernel
theorem dX11_weight_19 : decode cX11_weight 19 = .ok (.iload_n 0, 1) := by decide +kernel
theorem dX11_weight_20 : decode cX11_weight 20 = .ok (.bipush 7, 2) := by decide +kernel
theorem dX11_weight_22 : decode cX11_weight 22 = .ok (.if_icmp .ne 7, 3) := by decide +kernel
theorem dX11_weight_25 : decode cX11_weight 25 = .ok (.iconst 1, 1) := by decide +kernel
theorem dX11_weight_26 : decode cX11_weight 26 = .ok (.goto 4, 3) := by decide +kernel
theorem dX11_weight_29 : decode cX11_weight 29 = .ok (.iconst 0, 1) := by decide +kernel
theorem dX11_weight_30 : decode cX11_weight 30 = .ok (.ireturn, 1) := by decide +kernel
theorem dX11_grown_0 : decode cX11_grown 0 = .ok (.aload_n 0, 1) := by decide +kernel
theorem dX11_grown_1 : decode cX11_grown 1 = .ok (.getfield 51, 3) := by decide +kernel
theorem dX11_grown_4 : decode cX11_grown 4 = .ok (.bipush 64, 2) := by decide +kernel
theorem dX11_grown_6 : decode cX11_grown 6 = .ok (.aload_n 0, 1) := by decide +kernel
theorem dX11_grown_7 : decode cX11_grown 7 = .ok (.getfield 206, 3) := by decide +kernel
theorem dX11_grown_10 : decode cX11_grown 10 = .ok (.iadd, 1) := by decide +kernel
theorem dX11_grown_11 : decode cX11_grown 11 = .ok (.iload_n 1, 1) := by decide +kernel
theorem dX11_grown_12 : decode cX11_grown 12 = .ok (.iastore, 1) := by decide +kernel
theorem dX11_grown_13 : decode cX11_grown 13 = .ok (.aload_n 0, 1) := by decide +kernel
theorem dX11_grown_14 : decode cX11_grown 14 = .ok (.getfield 54, 3) := by decide +kernel
theorem dX11_grown_17 : decode cX11_grown 17 = .ok (.bipush 64, 2) := by decide +kernel
theorem dX11_grown_19 : decode cX11_grown 19 = .ok (.aload_n 0, 1) := by decide +kernel
theorem dX11_grown_20 : decode cX11_grown 20 = .ok (.getfield 206, 3) := by decide +kernel
theorem dX11_grown_23 : decode cX11_grown 23 = .ok (.iadd, 1) := by decide +kernel
theorem dX11_grown_24 : decode cX11_grown 24 = .ok (.iload_n 2, 1) := by decide +kernel
theorem dX11_grown_25 : decode cX11_grown 25 = .ok (.iastore, 1) := by decide +kernel
theorem dX11_grown_26 : decode cX11_grown 26 = .ok (.aload_n 0, 1) := by decide +kernel
theorem dX11_grown_27 : decode cX11_grown 27 = .ok (.getfield 57, 3) := by decide +kernel
theorem dX11_grown_30 : decode cX11_grown 30 = .ok (.bipush 64, 2) := by decide +kernel
theorem dX11_grown_32 : decode cX11_grown 32 = .ok (.aload_n 0, 1) := by decide +kernel
theorem dX11_grown_33 : decode cX11_grown 33 = .ok (.getfield 206, 3) := by decide +kernel
theorem dX11_grown_36 : decode cX11_grown 36 = .ok (.iadd, 1) := by decide +kernel
theorem dX11_grown_37 : decode cX11_grown 37 = .ok (.iload_n 3, 1) := by decide +kernel
theorem dX11_grown_38 : decode cX11_grown 38 = .ok (.iastore, 1) := by decide +kernel
theorem dX11_grown_39 : decode cX11_grown 39 = .ok (.aload_n 0, 1) := by decide +kernel
theorem dX11_grown_40 : decode cX11_grown 40 = .ok (.getfield 60, 3) := by decide +kernel
theorem dX11_grown_43 : decode cX11_grown 43 = .ok (.bipush 64, 2) := by decide +kernel
theorem dX11_grown_45 : decode cX11_grown 45 = .ok (.aload_n 0, 1) := by decide +kernel
theorem dX11_grown_46 : decode cX11_grown 46 = .ok (.getfield 206, 3) := by decide +kernel
theorem dX11_grown_49 : decode cX11_grown 49 = .ok (.iadd, 1) := by decide +kernel
theorem dX11_grown_50 : decode cX11_grown 50 = .ok (.aload_n 0, 1) := by decide +kernel
theorem dX11_grown_51 : decode cX11_grown 51 = .ok (.getfield 139, 3) := by decide +kernel
theorem dX11_grown_54 : decode cX11_grown 54 = .ok (.iastore, 1) := by decide +kernel
theorem dX11_grown_55 : decode cX11_grown 55 = .ok (.aload_n 0, 1) := by decide +kernel
theorem dX11_grown_56 : decode cX11_grown 56 = .ok (.getfield 66, 3) := by decide +kernel
theorem dX11_grown_59 : decode cX11_grown 59 = .ok (.aload_n 0, 1) := by decide +kernel
theorem dX11_grown_60 : decode cX11_grown 60 = .ok (.getfield 209, 3) := by decide +kernel
theorem dX11_grown_63 : decode cX11_grown 63 = .ok (.aload_n 0, 1) := by decide +kernel
theorem dX11_grown_64 : decode cX11_grown 64 = .ok (.getfield 206, 3) := by decide +kernel
theorem dX11_grown_67 : decode cX11_grown 67 = .ok (.iastore, 1) := by decide +kernel
theorem dX11_grown_68 : decode cX11_grown 68 = .ok (.aload_n 0, 1) := by decide +kernel
theorem dX11_grown_69 : decode cX11_grown 69 = .ok (.dup, 1) := by decide +kernel
theorem dX11_grown_70 : decode cX11_grown 70 = .ok (.getfield 209, 3) := by decide +kernel
theorem dX11_grown_73 : decode cX11_grown 73 = .ok (.iconst 1, 1) := by decide +kernel
theorem dX11_grown_74 : decode cX11_grown 74 = .ok (.iadd, 1) := by decide +kernel
theorem dX11_grown_75 : decode cX11_grown 75 = .ok (.putfield 209, 3) := by decide +kernel
theorem dX11_grown_78 : decode cX11_grown 78 = .ok (.aload_n 0, 1) := by decide +kernel
theorem dX11_grown_79 : decode cX11_grown 79 = .ok (.dup, 1) := by decide +kernel
theorem dX11_grown_80 : decode cX11_grown 80 = .ok (.getfield 206, 3) := by decide +kernel
theorem dX11_grown_83 : decode cX11_grown 83 = .ok (.iconst 1, 1) := by decide +kernel
theorem dX11_grown_84 : decode cX11_grown 84 = .ok (.iadd, 1) := by decide +kernel
theorem dX11_grown_85 : decode cX11_grown 85 = .ok (.putfield 206, 3) := by decide +kernel
theorem dX11_grown_88 : decode cX11_grown 88 = .ok (.return_, 1) := by decide +kernel
theorem dX11_drop_0 : decode cX11_drop 0 = .ok (.aload_n 0, 1) := by decide +kernel
theorem dX11_drop_1 : decode cX11_drop 1 = .ok (.dup, 1) := by decide +kernel
theorem dX11_drop_2 : decode cX11_drop 2 = .ok (.getfield 209, 3) := by decide +kernel
theorem dX11_drop_5 : decode cX11_drop 5 = .ok (.iconst 1, 1) := by decide +kernel
theorem dX11_drop_6 : decode cX11_drop 6 = .ok (.isub, 1) := by decide +kernel
theorem dX11_drop_7 : decode cX11_drop 7 = .ok (.putfield 209, 3) := by decide +kernel
theorem dX11_drop_10 : decode cX11_drop 10 = .ok (.aload_n 0, 1) := by decide +kernel
theorem dX11_drop_11 : decode cX11_drop 11 = .ok (.getfield 66, 3) := by decide +kernel
theorem dX11_drop_14 : decode cX11_drop 14 = .ok (.aload_n 0, 1) := by decide +kernel
theorem dX11_drop_15 : decode cX11_drop 15 = .ok (.getfield 209, 3) := by decide +kernel
theorem dX11_drop_18 : decode cX11_drop 18 = .ok (.iaload, 1) := by decide +kernel
theorem dX11_drop_19 : decode cX11_drop 19 = .ok (.ireturn, 1) := by decide +kernel
theorem dX11_bind_0 : decode cX11_bind 0 = .ok (.aload_n 0, 1) := by decide +kernel
theorem dX11_bind_1 : decode cX11_bind 1 = .ok (.getfield 212, 3) := by decide +kernel
theorem dX11_bind_4 : decode cX11_bind 4 = .ok (.ifCond .le 72, 3) := by decide +kernel
theorem dX11_bind_7 : decode cX11_bind 7 = .ok (.aload_n 0, 1) := by decide +kernel
theorem dX11_bind_8 : decode cX11_bind 8 = .ok (.getfield 63, 3) := by decide +kernel
theorem dX11_bind_11 : decode cX11_bind 11 = .ok (.aload_n 0, 1) := by decide +kernel
theorem dX11_bind_12 : decode cX11_bind 12 = .ok (.getfield 212, 3) := by decide +kernel
theorem dX11_bind_15 : decode cX11_bind 15 = .ok (.iconst 1, 1) := by decide +kernel
theorem dX11_bind_16 : decode cX11_bind 16 = .ok (.isub, 1) := by decide +kernel
theorem dX11_bind_17 : decode cX11_bind 17 = .ok (.iaload, 1) := by decide +kernel
theorem dX11_bind_18 : decode cX11_bind 18 = .ok (.invokestatic 215, 3) := by decide +kernel
theorem dX11_bind_21 : decode cX11_bind 21 = .ok (.iload_n 1, 1) := by decide +kernel
theorem dX11_bind_22 : decode cX11_bind 22 = .ok (.if_icmp .lt 54, 3) := by decide +kernel
theorem dX11_bind_25 : decode cX11_bind 25 = .ok (.aload_n 0, 1) := by decide +kernel
theorem dX11_bind_26 : decode cX11_bind 26 = .ok (.dup, 1) := by decide +kernel
theorem dX11_bind_27 : decode cX11_bind 27 = .ok (.getfield 212, 3) := by decide +kernel
theorem dX11_bind_30 : decode cX11_bind 30 = .ok (.iconst 1, 1) := by decide +kernel
theorem dX11_bind_31 : decode cX11_bind 31 = .ok (.isub, 1) := by decide +kernel
theorem dX11_bind_32 : decode cX11_bind 32 = .ok (.putfield 212, 3) := by decide +kernel
theorem dX11_bind_35 : decode cX11_bind 35 = .ok (.aload_n 0, 1) := by decide +kernel
theorem dX11_bind_36 : decode cX11_bind 36 = .ok (.getfield 63, 3) := by decide +kernel
theorem dX11_bind_39 : decode cX11_bind 39 = .ok (.aload_n 0, 1) := by decide +kernel
theorem dX11_bind_40 : decode cX11_bind 40 = .ok (.getfield 212, 3) := by decide +kernel
theorem dX11_bind_43 : decode cX11_bind 43 = .ok (.iaload, 1) := by decide +kernel
theorem dX11_bind_44 : decode cX11_bind 44 = .ok (.istore_n 2, 1) := by decide +kernel
theorem dX11_bind_45 : decode cX11_bind 45 = .ok (.iload_n 2, 1) := by decide +kernel
theorem dX11_bind_46 : decode cX11_bind 46 = .ok (.iconst 5, 1) := by decide +kernel
theorem dX11_bind_47 : decode cX11_bind 47 = .ok (.if_icmp .ne 7, 3) := by decide +kernel
theorem dX11_bind_50 : decode cX11_bind 50 = .ok (.iconst (-1), 1) := by decide +kernel
theorem dX11_bind_51 : decode cX11_bind 51 = .ok (.goto 7, 3) := by decide +kernel
theorem dX11_bind_54 : decode cX11_bind 54 = .ok (.aload_n 0, 1) := by decide +kernel
theorem dX11_bind_55 : decode cX11_bind 55 = .ok (.invokevirtual 219, 3) := by decide +kernel
theorem dX11_bind_58 : decode cX11_bind 58 = .ok (.istore_n 3, 1) := by decide +kernel
theorem dX11_bind_59 : decode cX11_bind 59 = .ok (.aload_n 0, 1) := by decide +kernel
theorem dX11_bind_60 : decode cX11_bind 60 = .ok (.invokevirtual 219, 3) := by decide +kernel
theorem dX11_bind_63 : decode cX11_bind 63 = .ok (.istore 4, 2) := by decide +kernel
theorem dX11_bind_65 : decode cX11_bind 65 = .ok (.aload_n 0, 1) := by decide +kernel
theorem dX11_bind_66 : decode cX11_bind 66 = .ok (.iload_n 2, 1) := by decide +kernel
theorem dX11_bind_67 : decode cX11_bind 67 = .ok (.iload 4, 2) := by decide +kernel
theorem dX11_bind_69 : decode cX11_bind 69 = .ok (.iload_n 3, 1) := by decide +kernel
theorem dX11_bind_70 : decode cX11_bind 70 = .ok (.invokevirtual 223, 3) := by decide +kernel
theorem dX11_bind_73 : decode cX11_bind 73 = .ok (.goto (-73), 3) := by decide +kernel
theorem dX11_bind_76 : decode cX11_bind 76 = .ok (.return_, 1) := by decide +kernel
theorem dX11_isCounted_0 : decode cX11_isCounted 0 = .ok (.aload_n 0, 1) := by decide +kernel
theorem dX11_isCounted_1 : decode cX11_isCounted 1 = .ok (.getfield 227, 3) := by decide +kernel
theorem dX11_isCounted_4 : decode cX11_isCounted 4 = .ok (.bipush 64, 2) := by decide +kernel
theorem dX11_isCounted_6 : decode cX11_isCounted 6 = .ok (.if_icmp .ne 9, 3) := by decide +kernel
theorem dX11_isCounted_9 : decode cX11_isCounted 9 = .ok (.aload_n 0, 1) := by decide +kernel
theorem dX11_isCounted_10 : decode cX11_isCounted 10 = .ok (.iconst 2, 1) := by decide +kernel
theorem dX11_isCounted_11 : decode cX11_isCounted 11 = .ok (.invokevirtual 178, 3) := by decide +kernel
theorem dX11_isCounted_14 : decode cX11_isCounted 14 = .ok (.ireturn, 1) := by decide +kernel
theorem dX11_isCounted_15 : decode cX11_isCounted 15 = .ok (.aload_n 0, 1) := by decide +kernel
theorem dX11_isCounted_16 : decode cX11_isCounted 16 = .ok (.dup, 1) := by decide +kernel
theorem dX11_isCounted_17 : decode cX11_isCounted 17 = .ok (.getfield 227, 3) := by decide +kernel
theorem dX11_isCounted_20 : decode cX11_isCounted 20 = .ok (.iconst 1, 1) := by decide +kernel
theorem dX11_isCounted_21 : decode cX11_isCounted 21 = .ok (.iadd, 1) := by decide +kernel
theorem dX11_isCounted_22 : decode cX11_isCounted 22 = .ok (.putfield 227, 3) := by decide +kernel
theorem dX11_isCounted_25 : decode cX11_isCounted 25 = .ok (.iconst 1, 1) := by decide +kernel
theorem dX11_isCounted_26 : decode cX11_isCounted 26 = .ok (.ireturn, 1) := by decide +kernel
theorem dX11_leafRead_0 : decode cX11_leafRead 0 = .ok (.aload_n 0, 1) := by decide +kernel
theorem dX11_leafRead_1 : decode cX11_leafRead 1 = .ok (.bipush 40, 2) := by decide +kernel
theorem dX11_leafRead_3 : decode cX11_leafRead 3 = .ok (.invokevirtual 175, 3) := by decide +kernel
theorem dX11_leafRead_6 : decode cX11_leafRead 6 = .ok (.ifCond .eq 54, 3) := by decide +kernel
theorem dX11_leafRead_9 : decode cX11_leafRead 9 = .ok (.aload_n 0, 1) := by decide +kernel
theorem dX11_leafRead_10 : decode cX11_leafRead 10 = .ok (.getfield 230, 3) := by decide +kernel
theorem dX11_leafRead_13 : decode cX11_leafRead 13 = .ok (.bipush 8, 2) := by decide +kernel
theorem dX11_leafRead_15 : decode cX11_leafRead 15 = .ok (.if_icmp .ne 9, 3) := by decide +kernel
theorem dX11_leafRead_18 : decode cX11_leafRead 18 = .ok (.aload_n 0, 1) := by decide +kernel
theorem dX11_leafRead_19 : decode cX11_leafRead 19 = .ok (.iconst 2, 1) := by decide +kernel
theorem dX11_leafRead_20 : decode cX11_leafRead 20 = .ok (.invokevirtual 178, 3) := by decide +kernel
theorem dX11_leafRead_23 : decode cX11_leafRead 23 = .ok (.ireturn, 1) := by decide +kernel
theorem dX11_leafRead_24 : decode cX11_leafRead 24 = .ok (.aload_n 0, 1) := by decide +kernel
theorem dX11_leafRead_25 : decode cX11_leafRead 25 = .ok (.dup, 1) := by decide +kernel
theorem dX11_leafRead_26 : decode cX11_leafRead 26 = .ok (.getfield 230, 3) := by decide +kernel
theorem dX11_leafRead_29 : decode cX11_leafRead 29 = .ok (.iconst 1, 1) := by decide +kernel
theorem dX11_leafRead_30 : decode cX11_leafRead 30 = .ok (.iadd, 1) := by decide +kernel
theorem dX11_leafRead_31 : decode cX11_leafRead 31 = .ok (.putfield 230, 3) := by decide +kernel
theorem dX11_leafRead_34 : decode cX11_leafRead 34 = .ok (.aload_n 0, 1) := by decide +kernel
theorem dX11_leafRead_35 : decode cX11_leafRead 35 = .ok (.getfield 63, 3) := by decide +kernel
theorem dX11_leafRead_38 : decode cX11_leafRead 38 = .ok (.aload_n 0, 1) := by decide +kernel
theorem dX11_leafRead_39 : decode cX11_leafRead 39 = .ok (.getfield 212, 3) := by decide +kernel
theorem dX11_leafRead_42 : decode cX11_leafRead 42 = .ok (.iconst 0, 1) := by decide +kernel
theorem dX11_leafRead_43 : decode cX11_leafRead 43 = .ok (.iastore, 1) := by decide +kernel
theorem dX11_leafRead_44 : decode cX11_leafRead 44 = .ok (.aload_n 0, 1) := by decide +kernel
theorem dX11_leafRead_45 : decode cX11_leafRead 45 = .ok (.dup, 1) := by decide +kernel
theorem dX11_leafRead_46 : decode cX11_leafRead 46 = .ok (.getfield 212, 3) := by decide +kernel
theorem dX11_leafRead_49 : decode cX11_leafRead 49 = .ok (.iconst 1, 1) := by decide +kernel
theorem dX11_leafRead_50 : decode cX11_leafRead 50 = .ok (.iadd, 1) := by decide +kernel
theorem dX11_leafRead_51 : decode cX11_leafRead 51 = .ok (.putfield 212, 3) := by decide +kernel
theorem dX11_leafRead_54 : decode cX11_leafRead 54 = .ok (.aload_n 0, 1) := by decide +kernel
theorem dX11_leafRead_55 : decode cX11_leafRead 55 = .ok (.invokevirtual 181, 3) := by decide +kernel
theorem dX11_leafRead_58 : decode cX11_leafRead 58 = .ok (.iconst 1, 1) := by decide +kernel
theorem dX11_leafRead_59 : decode cX11_leafRead 59 = .ok (.ireturn, 1) := by decide +kernel
theorem dX11_leafRead_60 : decode cX11_leafRead 60 = .ok (.aload_n 0, 1) := by decide +kernel
theorem dX11_leafRead_61 : decode cX11_leafRead 61 = .ok (.iconst 2, 1) := by decide +kernel
theorem dX11_leafRead_62 : decode cX11_leafRead 62 = .ok (.invokevirtual 184, 3) := by decide +kernel
theorem dX11_leafRead_65 : decode cX11_leafRead 65 = .ok (.ifCond .eq 38, 3) := by decide +kernel
theorem dX11_leafRead_68 : decode cX11_leafRead 68 = .ok (.aload_n 0, 1) := by decide +kernel
theorem dX11_leafRead_69 : decode cX11_leafRead 69 = .ok (.invokevirtual 233, 3) := by decide +kernel
theorem dX11_leafRead_72 : decode cX11_leafRead 72 = .ok (.ifCond .ne 5, 3) := by decide +kernel
theorem dX11_leafRead_75 : decode cX11_leafRead 75 = .ok (.iconst 0, 1) := by decide +kernel
theorem dX11_leafRead_76 : decode cX11_leafRead 76 = .ok (.ireturn, 1) := by decide +kernel
theorem dX11_leafRead_77 : decode cX11_leafRead 77 = .ok (.aload_n 0, 1) := by decide +kernel
theorem dX11_leafRead_78 : decode cX11_leafRead 78 = .ok (.getfield 63, 3) := by decide +kernel
theorem dX11_leafRead_81 : decode cX11_leafRead 81 = .ok (.aload_n 0, 1) := by decide +kernel
theorem dX11_leafRead_82 : decode cX11_leafRead 82 = .ok (.getfield 212, 3) := by decide +kernel
theorem dX11_leafRead_85 : decode cX11_leafRead 85 = .ok (.iconst 5, 1) := by decide +kernel
theorem dX11_leafRead_86 : decode cX11_leafRead 86 = .ok (.iastore, 1) := by decide +kernel
theorem dX11_leafRead_87 : decode cX11_leafRead 87 = .ok (.aload_n 0, 1) := by decide +kernel
theorem dX11_leafRead_88 : decode cX11_leafRead 88 = .ok (.dup, 1) := by decide +kernel
theorem dX11_leafRead_89 : decode cX11_leafRead 89 = .ok (.getfield 212, 3) := by decide +kernel
theorem dX11_leafRead_92 : decode cX11_leafRead 92 = .ok (.iconst 1, 1) := by decide +kernel
theorem dX11_leafRead_93 : decode cX11_leafRead 93 = .ok (.iadd, 1) := by decide +kernel
theorem dX11_leafRead_94 : decode cX11_leafRead 94 = .ok (.putfield 212, 3) := by decide +kernel
theorem dX11_leafRead_97 : decode cX11_leafRead 97 = .ok (.aload_n 0, 1) := by decide +kernel
theorem dX11_leafRead_98 : decode cX11_leafRead 98 = .ok (.invokevirtual 181, 3) := by decide +kernel
theorem dX11_leafRead_101 : decode cX11_leafRead 101 = .ok (.iconst 1, 1) := by decide +kernel
theorem dX11_leafRead_102 : decode cX11_leafRead 102 = .ok (.ireturn, 1) := by decide +kernel
theorem dX11_leafRead_103 : decode cX11_leafRead 103 = .ok (.aload_n 0, 1) := by decide +kernel
theorem dX11_leafRead_104 : decode cX11_leafRead 104 = .ok (.iconst 3, 1) := by decide +kernel
theorem dX11_leafRead_105 : decode cX11_leafRead 105 = .ok (.invokevirtual 184, 3) := by decide +kernel
theorem dX11_leafRead_108 : decode cX11_leafRead 108 = .ok (.ifCond .ne 29, 3) := by decide +kernel
theorem dX11_leafRead_111 : decode cX11_leafRead 111 = .ok (.aload_n 0, 1) := by decide +kernel
theorem dX11_leafRead_112 : decode cX11_leafRead 112 = .ok (.iconst 4, 1) := by decide +kernel
theorem dX11_leafRead_113 : decode cX11_leafRead 113 = .ok (.invokevirtual 184, 3) := by decide +kernel
theorem dX11_leafRead_116 : decode cX11_leafRead 116 = .ok (.ifCond .ne 21, 3) := by decide +kernel
theorem dX11_leafRead_119 : decode cX11_leafRead 119 = .ok (.aload_n 0, 1) := by decide +kernel
theorem dX11_leafRead_120 : decode cX11_leafRead 120 = .ok (.bipush 23, 2) := by decide +kernel
theorem dX11_leafRead_122 : decode cX11_leafRead 122 = .ok (.invokevirtual 184, 3) := by decide +kernel
theorem dX11_leafRead_125 : decode cX11_leafRead 125 = .ok (.ifCond .ne 12, 3) := by decide +kernel
theorem dX11_leafRead_128 : decode cX11_leafRead 128 = .ok (.aload_n 0, 1) := by decide +kernel
theorem dX11_leafRead_129 : decode cX11_leafRead 129 = .ok (.bipush 24, 2) := by decide +kernel
theorem dX11_leafRead_131 : decode cX11_leafRead 131 = .ok (.invokevirtual 184, 3) := by decide +kernel
theorem dX11_leafRead_134 : decode cX11_leafRead 134 = .ok (.ifCond .eq 7, 3) := by decide +kernel
theorem dX11_leafRead_137 : decode cX11_leafRead 137 = .ok (.iconst 1, 1) := by decide +kernel
theorem dX11_leafRead_138 : decode cX11_leafRead 138 = .ok (.goto 4, 3) := by decide +kernel
theorem dX11_leafRead_141 : decode cX11_leafRead 141 = .ok (.iconst 0, 1) := by decide +kernel
theorem dX11_leafRead_142 : decode cX11_leafRead 142 = .ok (.istore_n 1, 1) := by decide +kernel
theorem dX11_leafRead_143 : decode cX11_leafRead 143 = .ok (.iload_n 1, 1) := by decide +kernel
theorem dX11_leafRead_144 : decode cX11_leafRead 144 = .ok (.ifCond .ne 17, 3) := by decide +kernel
theorem dX11_leafRead_147 : decode cX11_leafRead 147 = .ok (.aload_n 0, 1) := by decide +kernel
theorem dX11_leafRead_148 : decode cX11_leafRead 148 = .ok (.getfield 148, 3) := by decide +kernel
theorem dX11_leafRead_151 : decode cX11_leafRead 151 = .ok (.iconst 2, 1) := by decide +kernel
theorem dX11_leafRead_152 : decode cX11_leafRead 152 = .ok (.if_icmp .eq 9, 3) := by decide +kernel
theorem dX11_leafRead_155 : decode cX11_leafRead 155 = .ok (.aload_n 0, 1) := by decide +kernel
theorem dX11_leafRead_156 : decode cX11_leafRead 156 = .ok (.iconst 1, 1) := by decide +kernel
theorem dX11_leafRead_157 : decode cX11_leafRead 157 = .ok (.invokevirtual 178, 3) := by decide +kernel
theorem dX11_leafRead_160 : decode cX11_leafRead 160 = .ok (.ireturn, 1) := by decide +kernel
theorem dX11_leafRead_161 : decode cX11_leafRead 161 = .ok (.aload_n 0, 1) := by decide +kernel
theorem dX11_leafRead_162 : decode cX11_leafRead 162 = .ok (.invokevirtual 233, 3) := by decide +kernel
theorem dX11_leafRead_165 : decode cX11_leafRead 165 = .ok (.ifCond .ne 5, 3) := by decide +kernel
theorem dX11_leafRead_168 : decode cX11_leafRead 168 = .ok (.iconst 0, 1) := by decide +kernel
theorem dX11_leafRead_169 : decode cX11_leafRead 169 = .ok (.ireturn, 1) := by decide +kernel
theorem dX11_leafRead_170 : decode cX11_leafRead 170 = .ok (.iload_n 1, 1) := by decide +kernel
theorem dX11_leafRead_171 : decode cX11_leafRead 171 = .ok (.ifCond .eq 50, 3) := by decide +kernel
theorem dX11_leafRead_174 : decode cX11_leafRead 174 = .ok (.aload_n 0, 1) := by decide +kernel
theorem dX11_leafRead_175 : decode cX11_leafRead 175 = .ok (.aload_n 0, 1) := by decide +kernel
theorem dX11_leafRead_176 : decode cX11_leafRead 176 = .ok (.getfield 159, 3) := by decide +kernel
theorem dX11_leafRead_179 : decode cX11_leafRead 179 = .ok (.iconst 3, 1) := by decide +kernel
theorem dX11_leafRead_180 : decode cX11_leafRead 180 = .ok (.if_icmp .ne 7, 3) := by decide +kernel
theorem dX11_leafRead_183 : decode cX11_leafRead 183 = .ok (.iconst 0, 1) := by decide +kernel
theorem dX11_leafRead_184 : decode cX11_leafRead 184 = .ok (.goto 29, 3) := by decide +kernel
theorem dX11_leafRead_187 : decode cX11_leafRead 187 = .ok (.aload_n 0, 1) := by decide +kernel
theorem dX11_leafRead_188 : decode cX11_leafRead 188 = .ok (.getfield 159, 3) := by decide +kernel
theorem dX11_leafRead_191 : decode cX11_leafRead 191 = .ok (.iconst 4, 1) := by decide +kernel
theorem dX11_leafRead_192 : decode cX11_leafRead 192 = .ok (.if_icmp .ne 7, 3) := by decide +kernel
theorem dX11_leafRead_195 : decode cX11_leafRead 195 = .ok (.iconst 1, 1) := by decide +kernel
theorem dX11_leafRead_196 : decode cX11_leafRead 196 = .ok (.goto 17, 3) := by decide +kernel
theorem dX11_leafRead_199 : decode cX11_leafRead 199 = .ok (.aload_n 0, 1) := by decide +kernel
theorem dX11_leafRead_200 : decode cX11_leafRead 200 = .ok (.getfield 159, 3) := by decide +kernel
theorem dX11_leafRead_203 : decode cX11_leafRead 203 = .ok (.bipush 23, 2) := by decide +kernel
theorem dX11_leafRead_205 : decode cX11_leafRead 205 = .ok (.if_icmp .ne 7, 3) := by decide +kernel
theorem dX11_leafRead_208 : decode cX11_leafRead 208 = .ok (.iconst 2, 1) := by decide +kernel
theorem dX11_leafRead_209 : decode cX11_leafRead 209 = .ok (.goto 4, 3) := by decide +kernel
theorem dX11_leafRead_212 : decode cX11_leafRead 212 = .ok (.iconst 3, 1) := by decide +kernel
theorem dX11_leafRead_213 : decode cX11_leafRead 213 = .ok (.iconst 0, 1) := by decide +kernel
theorem dX11_leafRead_214 : decode cX11_leafRead 214 = .ok (.iconst 0, 1) := by decide +kernel
theorem dX11_leafRead_215 : decode cX11_leafRead 215 = .ok (.invokevirtual 223, 3) := by decide +kernel
theorem dX11_leafRead_218 : decode cX11_leafRead 218 = .ok (.goto 13, 3) := by decide +kernel
theorem dX11_leafRead_221 : decode cX11_leafRead 221 = .ok (.aload_n 0, 1) := by decide +kernel
theorem dX11_leafRead_222 : decode cX11_leafRead 222 = .ok (.iconst 4, 1) := by decide +kernel
theorem dX11_leafRead_223 : decode cX11_leafRead 223 = .ok (.aload_n 0, 1) := by decide +kernel
theorem dX11_leafRead_224 : decode cX11_leafRead 224 = .ok (.getfield 159, 3) := by decide +kernel
theorem dX11_leafRead_227 : decode cX11_leafRead 227 = .ok (.iconst 0, 1) := by decide +kernel
theorem dX11_leafRead_228 : decode cX11_leafRead 228 = .ok (.invokevirtual 223, 3) := by decide +kernel
theorem dX11_leafRead_231 : decode cX11_leafRead 231 = .ok (.aload_n 0, 1) := by decide +kernel
theorem dX11_leafRead_232 : decode cX11_leafRead 232 = .ok (.iconst 1, 1) := by decide +kernel
theorem dX11_leafRead_233 : decode cX11_leafRead 233 = .ok (.putfield 237, 3) := by decide +kernel
theorem dX11_leafRead_236 : decode cX11_leafRead 236 = .ok (.aload_n 0, 1) := by decide +kernel
theorem dX11_leafRead_237 : decode cX11_leafRead 237 = .ok (.invokevirtual 181, 3) := by decide +kernel
theorem dX11_leafRead_240 : decode cX11_leafRead 240 = .ok (.iconst 1, 1) := by decide +kernel
theorem dX11_leafRead_241 : decode cX11_leafRead 241 = .ok (.ireturn, 1) := by decide +kernel
theorem dX11_signs_0 : decode cX11_signs 0 = .ok (.aload_n 0, 1) := by decide +kernel
theorem dX11_signs_1 : decode cX11_signs 1 = .ok (.bipush 22, 2) := by decide +kernel
theorem dX11_signs_3 : decode cX11_signs 3 = .ok (.invokevirtual 184, 3) := by decide +kernel
theorem dX11_signs_6 : decode cX11_signs 6 = .ok (.ifCond .ne 12, 3) := by decide +kernel
theorem dX11_signs_9 : decode cX11_signs 9 = .ok (.aload_n 0, 1) := by decide +kernel
theorem dX11_signs_10 : decode cX11_signs 10 = .ok (.bipush 21, 2) := by decide +kernel
theorem dX11_signs_12 : decode cX11_signs 12 = .ok (.invokevirtual 184, 3) := by decide +kernel
theorem dX11_signs_15 : decode cX11_signs 15 = .ok (.ifCond .eq 68, 3) := by decide +kernel
theorem dX11_signs_18 : decode cX11_signs 18 = .ok (.aload_n 0, 1) := by decide +kernel
theorem dX11_signs_19 : decode cX11_signs 19 = .ok (.getfield 159, 3) := by decide +kernel
theorem dX11_signs_22 : decode cX11_signs 22 = .ok (.bipush 22, 2) := by decide +kernel
theorem dX11_signs_24 : decode cX11_signs 24 = .ok (.if_icmp .ne 8, 3) := by decide +kernel
theorem dX11_signs_27 : decode cX11_signs 27 = .ok (.bipush 6, 2) := by decide +kernel
theorem dX11_signs_29 : decode cX11_signs 29 = .ok (.goto 5, 3) := by decide +kernel
theorem dX11_signs_32 : decode cX11_signs 32 = .ok (.bipush 7, 2) := by decide +kernel
theorem dX11_signs_34 : decode cX11_signs 34 = .ok (.istore_n 1, 1) := by decide +kernel
theorem dX11_signs_35 : decode cX11_signs 35 = .ok (.aload_n 0, 1) := by decide +kernel
theorem dX11_signs_36 : decode cX11_signs 36 = .ok (.invokevirtual 233, 3) := by decide +kernel
theorem dX11_signs_39 : decode cX11_signs 39 = .ok (.ifCond .ne 5, 3) := by decide +kernel
theorem dX11_signs_42 : decode cX11_signs 42 = .ok (.iconst 0, 1) := by decide +kernel
theorem dX11_signs_43 : decode cX11_signs 43 = .ok (.ireturn, 1) := by decide +kernel
theorem dX11_signs_44 : decode cX11_signs 44 = .ok (.aload_n 0, 1) := by decide +kernel
theorem dX11_signs_45 : decode cX11_signs 45 = .ok (.iload_n 1, 1) := by decide +kernel
theorem dX11_signs_46 : decode cX11_signs 46 = .ok (.invokestatic 215, 3) := by decide +kernel
theorem dX11_signs_49 : decode cX11_signs 49 = .ok (.invokevirtual 240, 3) := by decide +kernel
theorem dX11_signs_52 : decode cX11_signs 52 = .ok (.aload_n 0, 1) := by decide +kernel
theorem dX11_signs_53 : decode cX11_signs 53 = .ok (.getfield 63, 3) := by decide +kernel
theorem dX11_signs_56 : decode cX11_signs 56 = .ok (.aload_n 0, 1) := by decide +kernel
theorem dX11_signs_57 : decode cX11_signs 57 = .ok (.getfield 212, 3) := by decide +kernel
theorem dX11_signs_60 : decode cX11_signs 60 = .ok (.iload_n 1, 1) := by decide +kernel
theorem dX11_signs_61 : decode cX11_signs 61 = .ok (.iastore, 1) := by decide +kernel
theorem dX11_signs_62 : decode cX11_signs 62 = .ok (.aload_n 0, 1) := by decide +kernel
theorem dX11_signs_63 : decode cX11_signs 63 = .ok (.dup, 1) := by decide +kernel
theorem dX11_signs_64 : decode cX11_signs 64 = .ok (.getfield 212, 3) := by decide +kernel
theorem dX11_signs_67 : decode cX11_signs 67 = .ok (.iconst 1, 1) := by decide +kernel
theorem dX11_signs_68 : decode cX11_signs 68 = .ok (.iadd, 1) := by decide +kernel
theorem dX11_signs_69 : decode cX11_signs 69 = .ok (.putfield 212, 3) := by decide +kernel
theorem dX11_signs_72 : decode cX11_signs 72 = .ok (.aload_n 0, 1) := by decide +kernel
theorem dX11_signs_73 : decode cX11_signs 73 = .ok (.iconst 0, 1) := by decide +kernel
theorem dX11_signs_74 : decode cX11_signs 74 = .ok (.putfield 237, 3) := by decide +kernel
theorem dX11_signs_77 : decode cX11_signs 77 = .ok (.aload_n 0, 1) := by decide +kernel
theorem dX11_signs_78 : decode cX11_signs 78 = .ok (.invokevirtual 181, 3) := by decide +kernel
theorem dX11_signs_81 : decode cX11_signs 81 = .ok (.iconst 1, 1) := by decide +kernel
theorem dX11_signs_82 : decode cX11_signs 82 = .ok (.ireturn, 1) := by decide +kernel
theorem dX11_signs_83 : decode cX11_signs 83 = .ok (.aload_n 0, 1) := by decide +kernel
theorem dX11_signs_84 : decode cX11_signs 84 = .ok (.bipush 41, 2) := by decide +kernel
theorem dX11_signs_86 : decode cX11_signs 86 = .ok (.invokevirtual 175, 3) := by decide +kernel
theorem dX11_signs_89 : decode cX11_signs 89 = .ok (.ifCond .eq 10, 3) := by decide +kernel
theorem dX11_signs_92 : decode cX11_signs 92 = .ok (.aload_n 0, 1) := by decide +kernel
theorem dX11_signs_93 : decode cX11_signs 93 = .ok (.getfield 230, 3) := by decide +kernel
theorem dX11_signs_96 : decode cX11_signs 96 = .ok (.ifCond .ne 9, 3) := by decide +kernel
theorem dX11_signs_99 : decode cX11_signs 99 = .ok (.aload_n 0, 1) := by decide +kernel
theorem dX11_signs_100 : decode cX11_signs 100 = .ok (.iconst 1, 1) := by decide +kernel
theorem dX11_signs_101 : decode cX11_signs 101 = .ok (.invokevirtual 178, 3) := by decide +kernel
theorem dX11_signs_104 : decode cX11_signs 104 = .ok (.ireturn, 1) := by decide +kernel
theorem dX11_signs_105 : decode cX11_signs 105 = .ok (.aload_n 0, 1) := by decide +kernel
theorem dX11_signs_106 : decode cX11_signs 106 = .ok (.iconst 1, 1) := by decide +kernel
theorem dX11_signs_107 : decode cX11_signs 107 = .ok (.invokevirtual 240, 3) := by decide +kernel
theorem dX11_signs_110 : decode cX11_signs 110 = .ok (.aload_n 0, 1) := by decide +kernel
theorem dX11_signs_111 : decode cX11_signs 111 = .ok (.dup, 1) := by decide +kernel
theorem dX11_signs_112 : decode cX11_signs 112 = .ok (.getfield 212, 3) := by decide +kernel
theorem dX11_signs_115 : decode cX11_signs 115 = .ok (.iconst 1, 1) := by decide +kernel
theorem dX11_signs_116 : decode cX11_signs 116 = .ok (.isub, 1) := by decide +kernel
theorem dX11_signs_117 : decode cX11_signs 117 = .ok (.putfield 212, 3) := by decide +kernel
theorem dX11_signs_120 : decode cX11_signs 120 = .ok (.aload_n 0, 1) := by decide +kernel
theorem dX11_signs_121 : decode cX11_signs 121 = .ok (.dup, 1) := by decide +kernel
theorem dX11_signs_122 : decode cX11_signs 122 = .ok (.getfield 230, 3) := by decide +kernel
theorem dX11_signs_125 : decode cX11_signs 125 = .ok (.iconst 1, 1) := by decide +kernel
theorem dX11_signs_126 : decode cX11_signs 126 = .ok (.isub, 1) := by decide +kernel
theorem dX11_signs_127 : decode cX11_signs 127 = .ok (.putfield 230, 3) := by decide +kernel
theorem dX11_signs_130 : decode cX11_signs 130 = .ok (.aload_n 0, 1) := by decide +kernel
theorem dX11_signs_131 : decode cX11_signs 131 = .ok (.invokevirtual 181, 3) := by decide +kernel
theorem dX11_signs_134 : decode cX11_signs 134 = .ok (.iconst 1, 1) := by decide +kernel
theorem dX11_signs_135 : decode cX11_signs 135 = .ok (.ireturn, 1) := by decide +kernel
theorem dX11_partRead_0 : decode cX11_partRead 0 = .ok (.aload_n 0, 1) := by decide +kernel
theorem dX11_partRead_1 : decode cX11_partRead 1 = .ok (.iconst 0, 1) := by decide +kernel
theorem dX11_partRead_2 : decode cX11_partRead 2 = .ok (.putfield 212, 3) := by decide +kernel
theorem dX11_partRead_5 : decode cX11_partRead 5 = .ok (.aload_n 0, 1) := by decide +kernel
theorem dX11_partRead_6 : decode cX11_partRead 6 = .ok (.iconst 0, 1) := by decide +kernel
theorem dX11_partRead_7 : decode cX11_partRead 7 = .ok (.putfield 209, 3) := by decide +kernel
theorem dX11_partRead_10 : decode cX11_partRead 10 = .ok (.aload_n 0, 1) := by decide +kernel
theorem dX11_partRead_11 : decode cX11_partRead 11 = .ok (.iconst 0, 1) := by decide +kernel
theorem dX11_partRead_12 : decode cX11_partRead 12 = .ok (.putfield 230, 3) := by decide +kernel
theorem dX11_partRead_15 : decode cX11_partRead 15 = .ok (.aload_n 0, 1) := by decide +kernel
theorem dX11_partRead_16 : decode cX11_partRead 16 = .ok (.iconst 0, 1) := by decide +kernel
theorem dX11_partRead_17 : decode cX11_partRead 17 = .ok (.putfield 237, 3) := by decide +kernel
theorem dX11_partRead_20 : decode cX11_partRead 20 = .ok (.aload_n 0, 1) := by decide +kernel
theorem dX11_partRead_21 : decode cX11_partRead 21 = .ok (.getfield 45, 3) := by decide +kernel
theorem dX11_partRead_24 : decode cX11_partRead 24 = .ok (.bipush 24, 2) := by decide +kernel
theorem dX11_partRead_26 : decode cX11_partRead 26 = .ok (.iload_n 1, 1) := by decide +kernel
theorem dX11_partRead_27 : decode cX11_partRead 27 = .ok (.iadd, 1) := by decide +kernel
theorem dX11_partRead_28 : decode cX11_partRead 28 = .ok (.aload_n 0, 1) := by decide +kernel
theorem dX11_partRead_29 : decode cX11_partRead 29 = .ok (.getfield 206, 3) := by decide +kernel
theorem dX11_partRead_32 : decode cX11_partRead 32 = .ok (.iastore, 1) := by decide +kernel
theorem dX11_partRead_33 : decode cX11_partRead 33 = .ok (.aload_n 0, 1) := by decide +kernel
theorem dX11_partRead_34 : decode cX11_partRead 34 = .ok (.bipush 59, 2) := by decide +kernel
theorem dX11_partRead_36 : decode cX11_partRead 36 = .ok (.invokevirtual 175, 3) := by decide +kernel
theorem dX11_partRead_39 : decode cX11_partRead 39 = .ok (.ifCond .eq 17, 3) := by decide +kernel
theorem dX11_partRead_42 : decode cX11_partRead 42 = .ok (.aload_n 0, 1) := by decide +kernel
theorem dX11_partRead_43 : decode cX11_partRead 43 = .ok (.getfield 237, 3) := by decide +kernel
theorem dX11_partRead_46 : decode cX11_partRead 46 = .ok (.ifCond .eq 10, 3) := by decide +kernel
theorem dX11_partRead_49 : decode cX11_partRead 49 = .ok (.aload_n 0, 1) := by decide +kernel
theorem dX11_partRead_50 : decode cX11_partRead 50 = .ok (.getfield 230, 3) := by decide +kernel
theorem dX11_partRead_53 : decode cX11_partRead 53 = .ok (.ifCond .le 29, 3) := by decide +kernel
theorem dX11_partRead_56 : decode cX11_partRead 56 = .ok (.aload_n 0, 1) := by decide +kernel
theorem dX11_partRead_57 : decode cX11_partRead 57 = .ok (.getfield 237, 3) := by decide +kernel
theorem dX11_partRead_60 : decode cX11_partRead 60 = .ok (.ifCond .ne 13, 3) := by decide +kernel
theorem dX11_partRead_63 : decode cX11_partRead 63 = .ok (.aload_n 0, 1) := by decide +kernel
theorem dX11_partRead_64 : decode cX11_partRead 64 = .ok (.invokevirtual 244, 3) := by decide +kernel
theorem dX11_partRead_67 : decode cX11_partRead 67 = .ok (.ifCond .eq 13, 3) := by decide +kernel
theorem dX11_partRead_70 : decode cX11_partRead 70 = .ok (.goto (-37), 3) := by decide +kernel
theorem dX11_partRead_73 : decode cX11_partRead 73 = .ok (.aload_n 0, 1) := by decide +kernel
theorem dX11_partRead_74 : decode cX11_partRead 74 = .ok (.invokevirtual 247, 3) := by decide +kernel
theorem dX11_partRead_77 : decode cX11_partRead 77 = .ok (.ifCond .ne (-44), 3) := by decide +kernel
theorem dX11_partRead_80 : decode cX11_partRead 80 = .ok (.iconst 0, 1) := by decide +kernel
theorem dX11_partRead_81 : decode cX11_partRead 81 = .ok (.ireturn, 1) := by decide +kernel
theorem dX11_partRead_82 : decode cX11_partRead 82 = .ok (.aload_n 0, 1) := by decide +kernel
theorem dX11_partRead_83 : decode cX11_partRead 83 = .ok (.iconst 1, 1) := by decide +kernel
theorem dX11_partRead_84 : decode cX11_partRead 84 = .ok (.invokevirtual 240, 3) := by decide +kernel
theorem dX11_partRead_87 : decode cX11_partRead 87 = .ok (.aload_n 0, 1) := by decide +kernel
theorem dX11_partRead_88 : decode cX11_partRead 88 = .ok (.getfield 48, 3) := by decide +kernel
theorem dX11_partRead_91 : decode cX11_partRead 91 = .ok (.bipush 24, 2) := by decide +kernel
theorem dX11_partRead_93 : decode cX11_partRead 93 = .ok (.iload_n 1, 1) := by decide +kernel
theorem dX11_partRead_94 : decode cX11_partRead 94 = .ok (.iadd, 1) := by decide +kernel
theorem dX11_partRead_95 : decode cX11_partRead 95 = .ok (.aload_n 0, 1) := by decide +kernel
theorem dX11_partRead_96 : decode cX11_partRead 96 = .ok (.getfield 206, 3) := by decide +kernel
theorem dX11_partRead_99 : decode cX11_partRead 99 = .ok (.iastore, 1) := by decide +kernel
theorem dX11_partRead_100 : decode cX11_partRead 100 = .ok (.aload_n 0, 1) := by decide +kernel
theorem dX11_partRead_101 : decode cX11_partRead 101 = .ok (.invokevirtual 181, 3) := by decide +kernel
theorem dX11_partRead_104 : decode cX11_partRead 104 = .ok (.iconst 1, 1) := by decide +kernel
theorem dX11_partRead_105 : decode cX11_partRead 105 = .ok (.ireturn, 1) := by decide +kernel
theorem dX11_relayRead_0 : decode cX11_relayRead 0 = .ok (.iconst 0, 1) := by decide +kernel
theorem dX11_relayRead_1 : decode cX11_relayRead 1 = .ok (.istore_n 2, 1) := by decide +kernel
theorem dX11_relayRead_2 : decode cX11_relayRead 2 = .ok (.iload_n 2, 1) := by decide +kernel
theorem dX11_relayRead_3 : decode cX11_relayRead 3 = .ok (.aload_n 0, 1) := by decide +kernel
theorem dX11_relayRead_4 : decode cX11_relayRead 4 = .ok (.getfield 250, 3) := by decide +kernel
theorem dX11_relayRead_7 : decode cX11_relayRead 7 = .ok (.if_icmp .ge 24, 3) := by decide +kernel
theorem dX11_relayRead_10 : decode cX11_relayRead 10 = .ok (.aload_n 0, 1) := by decide +kernel
theorem dX11_relayRead_11 : decode cX11_relayRead 11 = .ok (.getfield 42, 3) := by decide +kernel
theorem dX11_relayRead_14 : decode cX11_relayRead 14 = .ok (.bipush 20, 2) := by decide +kernel
theorem dX11_relayRead_16 : decode cX11_relayRead 16 = .ok (.iload_n 2, 1) := by decide +kernel
theorem dX11_relayRead_17 : decode cX11_relayRead 17 = .ok (.iadd, 1) := by decide +kernel
theorem dX11_relayRead_18 : decode cX11_relayRead 18 = .ok (.iaload, 1) := by decide +kernel
theorem dX11_relayRead_19 : decode cX11_relayRead 19 = .ok (.iload_n 1, 1) := by decide +kernel
theorem dX11_relayRead_20 : decode cX11_relayRead 20 = .ok (.if_icmp .ne 5, 3) := by decide +kernel
theorem dX11_relayRead_23 : decode cX11_relayRead 23 = .ok (.iload_n 2, 1) := by decide +kernel
theorem dX11_relayRead_24 : decode cX11_relayRead 24 = .ok (.ireturn, 1) := by decide +kernel
theorem dX11_relayRead_25 : decode cX11_relayRead 25 = .ok (.iinc 2 1, 3) := by decide +kernel
theorem dX11_relayRead_28 : decode cX11_relayRead 28 = .ok (.goto (-26), 3) := by decide +kernel
theorem dX11_relayRead_31 : decode cX11_relayRead 31 = .ok (.iconst (-1), 1) := by decide +kernel
theorem dX11_relayRead_32 : decode cX11_relayRead 32 = .ok (.ireturn, 1) := by decide +kernel
theorem dX11_netLine_0 : decode cX11_netLine 0 = .ok (.aload_n 0, 1) := by decide +kernel
theorem dX11_netLine_1 : decode cX11_netLine 1 = .ok (.bipush 20, 2) := by decide +kernel
theorem dX11_netLine_3 : decode cX11_netLine 3 = .ok (.invokevirtual 184, 3) := by decide +kernel
theorem dX11_netLine_6 : decode cX11_netLine 6 = .ok (.ifCond .eq 84, 3) := by decide +kernel
theorem dX11_netLine_9 : decode cX11_netLine 9 = .ok (.aload_n 0, 1) := by decide +kernel
theorem dX11_netLine_10 : decode cX11_netLine 10 = .ok (.getfield 250, 3) := by decide +kernel
theorem dX11_netLine_13 : decode cX11_netLine 13 = .ok (.bipush 20, 2) := by decide +kernel
theorem dX11_netLine_15 : decode cX11_netLine 15 = .ok (.if_icmp .ne 9, 3) := by decide +kernel
theorem dX11_netLine_18 : decode cX11_netLine 18 = .ok (.aload_n 0, 1) := by decide +kernel
theorem dX11_netLine_19 : decode cX11_netLine 19 = .ok (.iconst 2, 1) := by decide +kernel
theorem dX11_netLine_20 : decode cX11_netLine 20 = .ok (.invokevirtual 178, 3) := by decide +kernel
theorem dX11_netLine_23 : decode cX11_netLine 23 = .ok (.ireturn, 1) := by decide +kernel
theorem dX11_netLine_24 : decode cX11_netLine 24 = .ok (.aload_n 0, 1) := by decide +kernel
theorem dX11_netLine_25 : decode cX11_netLine 25 = .ok (.invokevirtual 181, 3) := by decide +kernel
theorem dX11_netLine_28 : decode cX11_netLine 28 = .ok (.aload_n 0, 1) := by decide +kernel
theorem dX11_netLine_29 : decode cX11_netLine 29 = .ok (.getfield 148, 3) := by decide +kernel
theorem dX11_netLine_32 : decode cX11_netLine 32 = .ok (.iconst 2, 1) := by decide +kernel
theorem dX11_netLine_33 : decode cX11_netLine 33 = .ok (.if_icmp .eq 9, 3) := by decide +kernel
theorem dX11_netLine_36 : decode cX11_netLine 36 = .ok (.aload_n 0, 1) := by decide +kernel
theorem dX11_netLine_37 : decode cX11_netLine 37 = .ok (.iconst 1, 1) := by decide +kernel
theorem dX11_netLine_38 : decode cX11_netLine 38 = .ok (.invokevirtual 178, 3) := by decide +kernel
theorem dX11_netLine_41 : decode cX11_netLine 41 = .ok (.ireturn, 1) := by decide +kernel
theorem dX11_netLine_42 : decode cX11_netLine 42 = .ok (.aload_n 0, 1) := by decide +kernel
theorem dX11_netLine_43 : decode cX11_netLine 43 = .ok (.aload_n 0, 1) := by decide +kernel
theorem dX11_netLine_44 : decode cX11_netLine 44 = .ok (.getfield 159, 3) := by decide +kernel
theorem dX11_netLine_47 : decode cX11_netLine 47 = .ok (.invokevirtual 253, 3) := by decide +kernel
theorem dX11_netLine_50 : decode cX11_netLine 50 = .ok (.ifCond .lt 9, 3) := by decide +kernel
theorem dX11_netLine_53 : decode cX11_netLine 53 = .ok (.aload_n 0, 1) := by decide +kernel
theorem dX11_netLine_54 : decode cX11_netLine 54 = .ok (.iconst 3, 1) := by decide +kernel
theorem dX11_netLine_55 : decode cX11_netLine 55 = .ok (.invokevirtual 178, 3) := by decide +kernel
theorem dX11_netLine_58 : decode cX11_netLine 58 = .ok (.ireturn, 1) := by decide +kernel
theorem dX11_netLine_59 : decode cX11_netLine 59 = .ok (.aload_n 0, 1) := by decide +kernel
theorem dX11_netLine_60 : decode cX11_netLine 60 = .ok (.getfield 250, 3) := by decide +kernel
theorem dX11_netLine_63 : decode cX11_netLine 63 = .ok (.istore_n 1, 1) := by decide +kernel
theorem dX11_netLine_64 : decode cX11_netLine 64 = .ok (.aload_n 0, 1) := by decide +kernel
theorem dX11_netLine_65 : decode cX11_netLine 65 = .ok (.getfield 42, 3) := by decide +kernel
theorem dX11_netLine_68 : decode cX11_netLine 68 = .ok (.bipush 20, 2) := by decide +kernel
theorem dX11_netLine_70 : decode cX11_netLine 70 = .ok (.iload_n 1, 1) := by decide +kernel
theorem dX11_netLine_71 : decode cX11_netLine 71 = .ok (.iadd, 1) := by decide +kernel
theorem dX11_netLine_72 : decode cX11_netLine 72 = .ok (.aload_n 0, 1) := by decide +kernel
theorem dX11_netLine_73 : decode cX11_netLine 73 = .ok (.getfield 159, 3) := by decide +kernel
theorem dX11_netLine_76 : decode cX11_netLine 76 = .ok (.iastore, 1) := by decide +kernel
theorem dX11_netLine_77 : decode cX11_netLine 77 = .ok (.aload_n 0, 1) := by decide +kernel
theorem dX11_netLine_78 : decode cX11_netLine 78 = .ok (.dup, 1) := by decide +kernel
theorem dX11_netLine_79 : decode cX11_netLine 79 = .ok (.getfield 250, 3) := by decide +kernel
theorem dX11_netLine_82 : decode cX11_netLine 82 = .ok (.iconst 1, 1) := by decide +kernel
theorem dX11_netLine_83 : decode cX11_netLine 83 = .ok (.iadd, 1) := by decide +kernel
theorem dX11_netLine_84 : decode cX11_netLine 84 = .ok (.putfield 250, 3) := by decide +kernel
theorem dX11_netLine_87 : decode cX11_netLine 87 = .ok (.goto 108, 3) := by decide +kernel
theorem dX11_netLine_90 : decode cX11_netLine 90 = .ok (.aload_n 0, 1) := by decide +kernel
theorem dX11_netLine_91 : decode cX11_netLine 91 = .ok (.bipush 14, 2) := by decide +kernel
theorem dX11_netLine_93 : decode cX11_netLine 93 = .ok (.invokevirtual 184, 3) := by decide +kernel
theorem dX11_netLine_96 : decode cX11_netLine 96 = .ok (.ifCond .ne 30, 3) := by decide +kernel
theorem dX11_netLine_99 : decode cX11_netLine 99 = .ok (.aload_n 0, 1) := by decide +kernel
theorem dX11_netLine_100 : decode cX11_netLine 100 = .ok (.bipush 10, 2) := by decide +kernel
theorem dX11_netLine_102 : decode cX11_netLine 102 = .ok (.invokevirtual 184, 3) := by decide +kernel
theorem dX11_netLine_105 : decode cX11_netLine 105 = .ok (.ifCond .ne 21, 3) := by decide +kernel
theorem dX11_netLine_108 : decode cX11_netLine 108 = .ok (.aload_n 0, 1) := by decide +kernel
theorem dX11_netLine_109 : decode cX11_netLine 109 = .ok (.bipush 9, 2) := by decide +kernel
theorem dX11_netLine_111 : decode cX11_netLine 111 = .ok (.invokevirtual 184, 3) := by decide +kernel
theorem dX11_netLine_114 : decode cX11_netLine 114 = .ok (.ifCond .ne 12, 3) := by decide +kernel
theorem dX11_netLine_117 : decode cX11_netLine 117 = .ok (.aload_n 0, 1) := by decide +kernel
theorem dX11_netLine_118 : decode cX11_netLine 118 = .ok (.bipush 13, 2) := by decide +kernel
theorem dX11_netLine_120 : decode cX11_netLine 120 = .ok (.invokevirtual 184, 3) := by decide +kernel
theorem dX11_netLine_123 : decode cX11_netLine 123 = .ok (.ifCond .eq 66, 3) := by decide +kernel
theorem dX11_netLine_126 : decode cX11_netLine 126 = .ok (.aload_n 0, 1) := by decide +kernel
theorem dX11_netLine_127 : decode cX11_netLine 127 = .ok (.getfield 159, 3) := by decide +kernel
theorem dX11_netLine_130 : decode cX11_netLine 130 = .ok (.bipush 14, 2) := by decide +kernel
theorem dX11_netLine_132 : decode cX11_netLine 132 = .ok (.if_icmp .ne 8, 3) := by decide +kernel
theorem dX11_netLine_135 : decode cX11_netLine 135 = .ok (.bipush 20, 2) := by decide +kernel
theorem dX11_netLine_137 : decode cX11_netLine 137 = .ok (.goto 33, 3) := by decide +kernel
theorem dX11_netLine_140 : decode cX11_netLine 140 = .ok (.aload_n 0, 1) := by decide +kernel
theorem dX11_netLine_141 : decode cX11_netLine 141 = .ok (.getfield 159, 3) := by decide +kernel
theorem dX11_netLine_144 : decode cX11_netLine 144 = .ok (.bipush 10, 2) := by decide +kernel
theorem dX11_netLine_146 : decode cX11_netLine 146 = .ok (.if_icmp .ne 8, 3) := by decide +kernel
theorem dX11_netLine_149 : decode cX11_netLine 149 = .ok (.bipush 21, 2) := by decide +kernel
theorem dX11_netLine_151 : decode cX11_netLine 151 = .ok (.goto 19, 3) := by decide +kernel
theorem dX11_netLine_154 : decode cX11_netLine 154 = .ok (.aload_n 0, 1) := by decide +kernel
theorem dX11_netLine_155 : decode cX11_netLine 155 = .ok (.getfield 159, 3) := by decide +kernel
theorem dX11_netLine_158 : decode cX11_netLine 158 = .ok (.bipush 9, 2) := by decide +kernel
theorem dX11_netLine_160 : decode cX11_netLine 160 = .ok (.if_icmp .ne 8, 3) := by decide +kernel
theorem dX11_netLine_163 : decode cX11_netLine 163 = .ok (.bipush 22, 2) := by decide +kernel
theorem dX11_netLine_165 : decode cX11_netLine 165 = .ok (.goto 5, 3) := by decide +kernel
theorem dX11_netLine_168 : decode cX11_netLine 168 = .ok (.bipush 23, 2) := by decide +kernel
theorem dX11_netLine_170 : decode cX11_netLine 170 = .ok (.istore_n 1, 1) := by decide +kernel
theorem dX11_netLine_171 : decode cX11_netLine 171 = .ok (.aload_n 0, 1) := by decide +kernel
theorem dX11_netLine_172 : decode cX11_netLine 172 = .ok (.getfield 48, 3) := by decide +kernel
theorem dX11_netLine_175 : decode cX11_netLine 175 = .ok (.bipush 24, 2) := by decide +kernel
theorem dX11_netLine_177 : decode cX11_netLine 177 = .ok (.iload_n 1, 1) := by decide +kernel
theorem dX11_netLine_178 : decode cX11_netLine 178 = .ok (.iadd, 1) := by decide +kernel
theorem dX11_netLine_179 : decode cX11_netLine 179 = .ok (.iaload, 1) := by decide +kernel
theorem dX11_netLine_180 : decode cX11_netLine 180 = .ok (.ifCond .le 15, 3) := by decide +kernel
theorem dX11_netLine_183 : decode cX11_netLine 183 = .ok (.aload_n 0, 1) := by decide +kernel
theorem dX11_netLine_184 : decode cX11_netLine 184 = .ok (.iconst 3, 1) := by decide +kernel
theorem dX11_netLine_185 : decode cX11_netLine 185 = .ok (.invokevirtual 178, 3) := by decide +kernel
theorem dX11_netLine_188 : decode cX11_netLine 188 = .ok (.ireturn, 1) := by decide +kernel
theorem dX11_netLine_189 : decode cX11_netLine 189 = .ok (.aload_n 0, 1) := by decide +kernel
theorem dX11_netLine_190 : decode cX11_netLine 190 = .ok (.iconst 1, 1) := by decide +kernel
theorem dX11_netLine_191 : decode cX11_netLine 191 = .ok (.invokevirtual 178, 3) := by decide +kernel
theorem dX11_netLine_194 : decode cX11_netLine 194 = .ok (.ireturn, 1) := by decide +kernel
theorem dX11_netLine_195 : decode cX11_netLine 195 = .ok (.aload_n 0, 1) := by decide +kernel
theorem dX11_netLine_196 : decode cX11_netLine 196 = .ok (.invokevirtual 181, 3) := by decide +kernel
theorem dX11_netLine_199 : decode cX11_netLine 199 = .ok (.aload_n 0, 1) := by decide +kernel
theorem dX11_netLine_200 : decode cX11_netLine 200 = .ok (.bipush 61, 2) := by decide +kernel
theorem dX11_netLine_202 : decode cX11_netLine 202 = .ok (.invokevirtual 256, 3) := by decide +kernel
theorem dX11_netLine_205 : decode cX11_netLine 205 = .ok (.ifCond .eq 15, 3) := by decide +kernel
theorem dX11_netLine_208 : decode cX11_netLine 208 = .ok (.aload_n 0, 1) := by decide +kernel
theorem dX11_netLine_209 : decode cX11_netLine 209 = .ok (.iload_n 1, 1) := by decide +kernel
theorem dX11_netLine_210 : decode cX11_netLine 210 = .ok (.invokevirtual 259, 3) := by decide +kernel
theorem dX11_netLine_213 : decode cX11_netLine 213 = .ok (.ifCond .eq 7, 3) := by decide +kernel
theorem dX11_netLine_216 : decode cX11_netLine 216 = .ok (.iconst 1, 1) := by decide +kernel
theorem dX11_netLine_217 : decode cX11_netLine 217 = .ok (.goto 4, 3) := by decide +kernel
theorem dX11_netLine_220 : decode cX11_netLine 220 = .ok (.iconst 0, 1) := by decide +kernel
theorem dX11_netLine_221 : decode cX11_netLine 221 = .ok (.ireturn, 1) := by decide +kernel
theorem dX11_forgets_0 : decode cX11_forgets 0 = .ok (.aload_n 0, 1) := by decide +kernel
theorem dX11_forgets_1 : decode cX11_forgets 1 = .ok (.iconst 0, 1) := by decide +kernel
theorem dX11_forgets_2 : decode cX11_forgets 2 = .ok (.putfield 394, 3) := by decide +kernel
theorem dX11_forgets_5 : decode cX11_forgets 5 = .ok (.return_, 1) := by decide +kernel
theorem dX11_net_0 : decode cX11_net 0 = .ok (.aload_n 0, 1) := by decide +kernel
theorem dX11_net_1 : decode cX11_net 1 = .ok (.iconst 0, 1) := by decide +kernel
theorem dX11_net_2 : decode cX11_net 2 = .ok (.putfield 130, 3) := by decide +kernel
theorem dX11_net_5 : decode cX11_net 5 = .ok (.aload_n 0, 1) := by decide +kernel
theorem dX11_net_6 : decode cX11_net 6 = .ok (.iload_n 1, 1) := by decide +kernel
theorem dX11_net_7 : decode cX11_net 7 = .ok (.iconst 1, 1) := by decide +kernel
theorem dX11_net_8 : decode cX11_net 8 = .ok (.invokevirtual 196, 3) := by decide +kernel
theorem dX11_net_11 : decode cX11_net 11 = .ok (.ifCond .ne 6, 3) := by decide +kernel
theorem dX11_net_14 : decode cX11_net 14 = .ok (.bipush (-2), 2) := by decide +kernel
theorem dX11_net_16 : decode cX11_net 16 = .ok (.ireturn, 1) := by decide +kernel
theorem dX11_net_17 : decode cX11_net 17 = .ok (.aload_n 0, 1) := by decide +kernel
theorem dX11_net_18 : decode cX11_net 18 = .ok (.iconst 0, 1) := by decide +kernel
theorem dX11_net_19 : decode cX11_net 19 = .ok (.putfield 250, 3) := by decide +kernel
theorem dX11_net_22 : decode cX11_net 22 = .ok (.aload_n 0, 1) := by decide +kernel
theorem dX11_net_23 : decode cX11_net 23 = .ok (.iconst 0, 1) := by decide +kernel
theorem dX11_net_24 : decode cX11_net 24 = .ok (.putfield 206, 3) := by decide +kernel
theorem dX11_net_27 : decode cX11_net 27 = .ok (.aload_n 0, 1) := by decide +kernel
theorem dX11_net_28 : decode cX11_net 28 = .ok (.iconst 0, 1) := by decide +kernel
theorem dX11_net_29 : decode cX11_net 29 = .ok (.putfield 227, 3) := by decide +kernel
theorem dX11_net_32 : decode cX11_net 32 = .ok (.iconst 0, 1) := by decide +kernel
theorem dX11_net_33 : decode cX11_net 33 = .ok (.istore_n 2, 1) := by decide +kernel
theorem dX11_net_34 : decode cX11_net 34 = .ok (.iload_n 2, 1) := by decide +kernel
theorem dX11_net_35 : decode cX11_net 35 = .ok (.bipush 24, 2) := by decide +kernel
theorem dX11_net_37 : decode cX11_net 37 = .ok (.if_icmp .ge 29, 3) := by decide +kernel
theorem dX11_net_40 : decode cX11_net 40 = .ok (.aload_n 0, 1) := by decide +kernel
theorem dX11_net_41 : decode cX11_net 41 = .ok (.getfield 45, 3) := by decide +kernel
theorem dX11_net_44 : decode cX11_net 44 = .ok (.bipush 24, 2) := by decide +kernel
theorem dX11_net_46 : decode cX11_net 46 = .ok (.iload_n 2, 1) := by decide +kernel
theorem dX11_net_47 : decode cX11_net 47 = .ok (.iadd, 1) := by decide +kernel
theorem dX11_net_48 : decode cX11_net 48 = .ok (.iconst 0, 1) := by decide +kernel
theorem dX11_net_49 : decode cX11_net 49 = .ok (.iastore, 1) := by decide +kernel
theorem dX11_net_50 : decode cX11_net 50 = .ok (.aload_n 0, 1) := by decide +kernel
theorem dX11_net_51 : decode cX11_net 51 = .ok (.getfield 48, 3) := by decide +kernel
theorem dX11_net_54 : decode cX11_net 54 = .ok (.bipush 24, 2) := by decide +kernel
theorem dX11_net_56 : decode cX11_net 56 = .ok (.iload_n 2, 1) := by decide +kernel
theorem dX11_net_57 : decode cX11_net 57 = .ok (.iadd, 1) := by decide +kernel
theorem dX11_net_58 : decode cX11_net 58 = .ok (.iconst 0, 1) := by decide +kernel
theorem dX11_net_59 : decode cX11_net 59 = .ok (.iastore, 1) := by decide +kernel
theorem dX11_net_60 : decode cX11_net 60 = .ok (.iinc 2 1, 3) := by decide +kernel
theorem dX11_net_63 : decode cX11_net 63 = .ok (.goto (-29), 3) := by decide +kernel
theorem dX11_net_66 : decode cX11_net 66 = .ok (.aload_n 0, 1) := by decide +kernel
theorem dX11_net_67 : decode cX11_net 67 = .ok (.getfield 148, 3) := by decide +kernel
theorem dX11_net_70 : decode cX11_net 70 = .ok (.ifCond .eq 12, 3) := by decide +kernel
theorem dX11_net_73 : decode cX11_net 73 = .ok (.aload_n 0, 1) := by decide +kernel
theorem dX11_net_74 : decode cX11_net 74 = .ok (.invokevirtual 262, 3) := by decide +kernel
theorem dX11_net_77 : decode cX11_net 77 = .ok (.ifCond .ne (-11), 3) := by decide +kernel
theorem dX11_net_80 : decode cX11_net 80 = .ok (.iconst (-1), 1) := by decide +kernel
theorem dX11_net_81 : decode cX11_net 81 = .ok (.ireturn, 1) := by decide +kernel
theorem dX11_net_82 : decode cX11_net 82 = .ok (.bipush 64, 2) := by decide +kernel
theorem dX11_net_84 : decode cX11_net 84 = .ok (.istore_n 2, 1) := by decide +kernel
theorem dX11_net_85 : decode cX11_net 85 = .ok (.iload_n 2, 1) := by decide +kernel
theorem dX11_net_86 : decode cX11_net 86 = .ok (.bipush 64, 2) := by decide +kernel
theorem dX11_net_88 : decode cX11_net 88 = .ok (.aload_n 0, 1) := by decide +kernel
theorem dX11_net_89 : decode cX11_net 89 = .ok (.getfield 206, 3) := by decide +kernel
theorem dX11_net_92 : decode cX11_net 92 = .ok (.iadd, 1) := by decide +kernel
theorem dX11_net_93 : decode cX11_net 93 = .ok (.if_icmp .ge 63, 3) := by decide +kernel
theorem dX11_net_96 : decode cX11_net 96 = .ok (.aload_n 0, 1) := by decide +kernel
theorem dX11_net_97 : decode cX11_net 97 = .ok (.getfield 51, 3) := by decide +kernel
theorem dX11_net_100 : decode cX11_net 100 = .ok (.iload_n 2, 1) := by decide +kernel
theorem dX11_net_101 : decode cX11_net 101 = .ok (.iaload, 1) := by decide +kernel
theorem dX11_net_102 : decode cX11_net 102 = .ok (.iconst 4, 1) := by decide +kernel
theorem dX11_net_103 : decode cX11_net 103 = .ok (.if_icmp .eq 6, 3) := by decide +kernel
theorem dX11_net_106 : decode cX11_net 106 = .ok (.goto 44, 3) := by decide +kernel
theorem dX11_net_109 : decode cX11_net 109 = .ok (.aload_n 0, 1) := by decide +kernel
theorem dX11_net_110 : decode cX11_net 110 = .ok (.aload_n 0, 1) := by decide +kernel
theorem dX11_net_111 : decode cX11_net 111 = .ok (.getfield 54, 3) := by decide +kernel
theorem dX11_net_114 : decode cX11_net 114 = .ok (.iload_n 2, 1) := by decide +kernel
theorem dX11_net_115 : decode cX11_net 115 = .ok (.iaload, 1) := by decide +kernel
theorem dX11_net_116 : decode cX11_net 116 = .ok (.invokevirtual 253, 3) := by decide +kernel
theorem dX11_net_119 : decode cX11_net 119 = .ok (.istore_n 3, 1) := by decide +kernel
theorem dX11_net_120 : decode cX11_net 120 = .ok (.iload_n 3, 1) := by decide +kernel
theorem dX11_net_121 : decode cX11_net 121 = .ok (.ifCond .ge 22, 3) := by decide +kernel
theorem dX11_net_124 : decode cX11_net 124 = .ok (.aload_n 0, 1) := by decide +kernel
theorem dX11_net_125 : decode cX11_net 125 = .ok (.aload_n 0, 1) := by decide +kernel
theorem dX11_net_126 : decode cX11_net 126 = .ok (.getfield 60, 3) := by decide +kernel
theorem dX11_net_129 : decode cX11_net 129 = .ok (.iload_n 2, 1) := by decide +kernel
theorem dX11_net_130 : decode cX11_net 130 = .ok (.iaload, 1) := by decide +kernel
theorem dX11_net_131 : decode cX11_net 131 = .ok (.putfield 139, 3) := by decide +kernel
theorem dX11_net_134 : decode cX11_net 134 = .ok (.aload_n 0, 1) := by decide +kernel
theorem dX11_net_135 : decode cX11_net 135 = .ok (.iconst 4, 1) := by decide +kernel
theorem dX11_net_136 : decode cX11_net 136 = .ok (.invokevirtual 178, 3) := by decide +kernel
theorem dX11_net_139 : decode cX11_net 139 = .ok (.istore 4, 2) := by decide +kernel
theorem dX11_net_141 : decode cX11_net 141 = .ok (.iconst (-1), 1) := by decide +kernel
theorem dX11_net_142 : decode cX11_net 142 = .ok (.ireturn, 1) := by decide +kernel
theorem dX11_net_143 : decode cX11_net 143 = .ok (.aload_n 0, 1) := by decide +kernel
theorem dX11_net_144 : decode cX11_net 144 = .ok (.getfield 54, 3) := by decide +kernel
theorem dX11_net_147 : decode cX11_net 147 = .ok (.iload_n 2, 1) := by decide +kernel
theorem dX11_net_148 : decode cX11_net 148 = .ok (.iload_n 3, 1) := by decide +kernel
theorem dX11_net_149 : decode cX11_net 149 = .ok (.iastore, 1) := by decide +kernel
theorem dX11_net_150 : decode cX11_net 150 = .ok (.iinc 2 1, 3) := by decide +kernel
theorem dX11_net_153 : decode cX11_net 153 = .ok (.goto (-68), 3) := by decide +kernel
theorem dX11_net_156 : decode cX11_net 156 = .ok (.aload_n 0, 1) := by decide +kernel
theorem dX11_net_157 : decode cX11_net 157 = .ok (.aload_n 0, 1) := by decide +kernel
theorem dX11_net_158 : decode cX11_net 158 = .ok (.getfield 250, 3) := by decide +kernel
theorem dX11_net_161 : decode cX11_net 161 = .ok (.putfield 265, 3) := by decide +kernel
theorem dX11_net_164 : decode cX11_net 164 = .ok (.aload_n 0, 1) := by decide +kernel
theorem dX11_net_165 : decode cX11_net 165 = .ok (.aload_n 0, 1) := by decide +kernel
theorem dX11_net_166 : decode cX11_net 166 = .ok (.getfield 206, 3) := by decide +kernel
theorem dX11_net_169 : decode cX11_net 169 = .ok (.putfield 268, 3) := by decide +kernel
theorem dX11_net_172 : decode cX11_net 172 = .ok (.iconst 0, 1) := by decide +kernel
theorem dX11_net_173 : decode cX11_net 173 = .ok (.istore_n 2, 1) := by decide +kernel
theorem dX11_net_174 : decode cX11_net 174 = .ok (.iload_n 2, 1) := by decide +kernel
theorem dX11_net_175 : decode cX11_net 175 = .ok (.bipush 64, 2) := by decide +kernel
theorem dX11_net_177 : decode cX11_net 177 = .ok (.if_icmp .ge 54, 3) := by decide +kernel
theorem dX11_net_180 : decode cX11_net 180 = .ok (.aload_n 0, 1) := by decide +kernel
theorem dX11_net_181 : decode cX11_net 181 = .ok (.getfield 51, 3) := by decide +kernel
theorem dX11_net_184 : decode cX11_net 184 = .ok (.iload_n 2, 1) := by decide +kernel
theorem dX11_net_185 : decode cX11_net 185 = .ok (.aload_n 0, 1) := by decide +kernel
theorem dX11_net_186 : decode cX11_net 186 = .ok (.getfield 51, 3) := by decide +kernel
theorem dX11_net_189 : decode cX11_net 189 = .ok (.bipush 64, 2) := by decide +kernel
theorem dX11_net_191 : decode cX11_net 191 = .ok (.iload_n 2, 1) := by decide +kernel
theorem dX11_net_192 : decode cX11_net 192 = .ok (.iadd, 1) := by decide +kernel
theorem dX11_net_193 : decode cX11_net 193 = .ok (.iaload, 1) := by decide +kernel
theorem dX11_net_194 : decode cX11_net 194 = .ok (.iastore, 1) := by decide +kernel
theorem dX11_net_195 : decode cX11_net 195 = .ok (.aload_n 0, 1) := by decide +kernel
theorem dX11_net_196 : decode cX11_net 196 = .ok (.getfield 54, 3) := by decide +kernel
theorem dX11_net_199 : decode cX11_net 199 = .ok (.iload_n 2, 1) := by decide +kernel
theorem dX11_net_200 : decode cX11_net 200 = .ok (.aload_n 0, 1) := by decide +kernel
theorem dX11_net_201 : decode cX11_net 201 = .ok (.getfield 54, 3) := by decide +kernel
theorem dX11_net_204 : decode cX11_net 204 = .ok (.bipush 64, 2) := by decide +kernel
theorem dX11_net_206 : decode cX11_net 206 = .ok (.iload_n 2, 1) := by decide +kernel
theorem dX11_net_207 : decode cX11_net 207 = .ok (.iadd, 1) := by decide +kernel
theorem dX11_net_208 : decode cX11_net 208 = .ok (.iaload, 1) := by decide +kernel
theorem dX11_net_209 : decode cX11_net 209 = .ok (.iastore, 1) := by decide +kernel
theorem dX11_net_210 : decode cX11_net 210 = .ok (.aload_n 0, 1) := by decide +kernel
theorem dX11_net_211 : decode cX11_net 211 = .ok (.getfield 57, 3) := by decide +kernel
theorem dX11_net_214 : decode cX11_net 214 = .ok (.iload_n 2, 1) := by decide +kernel
theorem dX11_net_215 : decode cX11_net 215 = .ok (.aload_n 0, 1) := by decide +kernel
theorem dX11_net_216 : decode cX11_net 216 = .ok (.getfield 57, 3) := by decide +kernel
theorem dX11_net_219 : decode cX11_net 219 = .ok (.bipush 64, 2) := by decide +kernel
theorem dX11_net_221 : decode cX11_net 221 = .ok (.iload_n 2, 1) := by decide +kernel
theorem dX11_net_222 : decode cX11_net 222 = .ok (.iadd, 1) := by decide +kernel
theorem dX11_net_223 : decode cX11_net 223 = .ok (.iaload, 1) := by decide +kernel
theorem dX11_net_224 : decode cX11_net 224 = .ok (.iastore, 1) := by decide +kernel
theorem dX11_net_225 : decode cX11_net 225 = .ok (.iinc 2 1, 3) := by decide +kernel
theorem dX11_net_228 : decode cX11_net 228 = .ok (.goto (-54), 3) := by decide +kernel
theorem dX11_net_231 : decode cX11_net 231 = .ok (.iconst 0, 1) := by decide +kernel
theorem dX11_net_232 : decode cX11_net 232 = .ok (.istore_n 2, 1) := by decide +kernel
theorem dX11_net_233 : decode cX11_net 233 = .ok (.iload_n 2, 1) := by decide +kernel
theorem dX11_net_234 : decode cX11_net 234 = .ok (.bipush 24, 2) := by decide +kernel
theorem dX11_net_236 : decode cX11_net 236 = .ok (.if_icmp .ge 39, 3) := by decide +kernel
theorem dX11_net_239 : decode cX11_net 239 = .ok (.aload_n 0, 1) := by decide +kernel
theorem dX11_net_240 : decode cX11_net 240 = .ok (.getfield 45, 3) := by decide +kernel
theorem dX11_net_243 : decode cX11_net 243 = .ok (.iload_n 2, 1) := by decide +kernel
theorem dX11_net_244 : decode cX11_net 244 = .ok (.aload_n 0, 1) := by decide +kernel
theorem dX11_net_245 : decode cX11_net 245 = .ok (.getfield 45, 3) := by decide +kernel
theorem dX11_net_248 : decode cX11_net 248 = .ok (.bipush 24, 2) := by decide +kernel
theorem dX11_net_250 : decode cX11_net 250 = .ok (.iload_n 2, 1) := by decide +kernel
theorem dX11_net_251 : decode cX11_net 251 = .ok (.iadd, 1) := by decide +kernel
theorem dX11_net_252 : decode cX11_net 252 = .ok (.iaload, 1) := by decide +kernel
theorem dX11_net_253 : decode cX11_net 253 = .ok (.iastore, 1) := by decide +kernel
theorem dX11_net_254 : decode cX11_net 254 = .ok (.aload_n 0, 1) := by decide +kernel
theorem dX11_net_255 : decode cX11_net 255 = .ok (.getfield 48, 3) := by decide +kernel
theorem dX11_net_258 : decode cX11_net 258 = .ok (.iload_n 2, 1) := by decide +kernel
theorem dX11_net_259 : decode cX11_net 259 = .ok (.aload_n 0, 1) := by decide +kernel
theorem dX11_net_260 : decode cX11_net 260 = .ok (.getfield 48, 3) := by decide +kernel
theorem dX11_net_263 : decode cX11_net 263 = .ok (.bipush 24, 2) := by decide +kernel
theorem dX11_net_265 : decode cX11_net 265 = .ok (.iload_n 2, 1) := by decide +kernel
theorem dX11_net_266 : decode cX11_net 266 = .ok (.iadd, 1) := by decide +kernel
theorem dX11_net_267 : decode cX11_net 267 = .ok (.iaload, 1) := by decide +kernel
theorem dX11_net_268 : decode cX11_net 268 = .ok (.iastore, 1) := by decide +kernel
theorem dX11_net_269 : decode cX11_net 269 = .ok (.iinc 2 1, 3) := by decide +kernel
theorem dX11_net_272 : decode cX11_net 272 = .ok (.goto (-39), 3) := by decide +kernel
theorem dX11_net_275 : decode cX11_net 275 = .ok (.aload_n 0, 1) := by decide +kernel
theorem dX11_net_276 : decode cX11_net 276 = .ok (.iconst 0, 1) := by decide +kernel
theorem dX11_net_277 : decode cX11_net 277 = .ok (.putfield 271, 3) := by decide +kernel
theorem dX11_net_280 : decode cX11_net 280 = .ok (.aload_n 0, 1) := by decide +kernel
theorem dX11_net_281 : decode cX11_net 281 = .ok (.iconst 0, 1) := by decide +kernel
theorem dX11_net_282 : decode cX11_net 282 = .ok (.putfield 274, 3) := by decide +kernel
theorem dX11_net_285 : decode cX11_net 285 = .ok (.aload_n 0, 1) := by decide +kernel
theorem dX11_net_286 : decode cX11_net 286 = .ok (.iconst 0, 1) := by decide +kernel
theorem dX11_net_287 : decode cX11_net 287 = .ok (.putfield 277, 3) := by decide +kernel
theorem dX11_net_290 : decode cX11_net 290 = .ok (.aload_n 0, 1) := by decide +kernel
theorem dX11_net_291 : decode cX11_net 291 = .ok (.invokevirtual 280, 3) := by decide +kernel
theorem dX11_net_294 : decode cX11_net 294 = .ok (.iconst 0, 1) := by decide +kernel
theorem dX11_net_295 : decode cX11_net 295 = .ok (.istore_n 2, 1) := by decide +kernel
theorem dX11_net_296 : decode cX11_net 296 = .ok (.iload_n 2, 1) := by decide +kernel
theorem dX11_net_297 : decode cX11_net 297 = .ok (.iconst 4, 1) := by decide +kernel
theorem dX11_net_298 : decode cX11_net 298 = .ok (.if_icmp .ge 16, 3) := by decide +kernel
theorem dX11_net_301 : decode cX11_net 301 = .ok (.aload_n 0, 1) := by decide +kernel
theorem dX11_net_302 : decode cX11_net 302 = .ok (.getfield 90, 3) := by decide +kernel
theorem dX11_net_305 : decode cX11_net 305 = .ok (.iload_n 2, 1) := by decide +kernel
theorem dX11_net_306 : decode cX11_net 306 = .ok (.iconst 0, 1) := by decide +kernel
theorem dX11_net_307 : decode cX11_net 307 = .ok (.bastore, 1) := by decide +kernel
theorem dX11_net_308 : decode cX11_net 308 = .ok (.iinc 2 1, 3) := by decide +kernel
theorem dX11_net_311 : decode cX11_net 311 = .ok (.goto (-15), 3) := by decide +kernel
theorem dX11_net_314 : decode cX11_net 314 = .ok (.aload_n 0, 1) := by decide +kernel
theorem dX11_net_315 : decode cX11_net 315 = .ok (.getfield 265, 3) := by decide +kernel
theorem dX11_net_318 : decode cX11_net 318 = .ok (.ireturn, 1) := by decide +kernel
theorem dX11_squares_0 : decode cX11_squares 0 = .ok (.aload_n 0, 1) := by decide +kernel
theorem dX11_squares_1 : decode cX11_squares 1 = .ok (.getfield 283, 3) := by decide +kernel
theorem dX11_squares_4 : decode cX11_squares 4 = .ok (.aload_n 0, 1) := by decide +kernel
theorem dX11_squares_5 : decode cX11_squares 5 = .ok (.getfield 286, 3) := by decide +kernel
theorem dX11_squares_8 : decode cX11_squares 8 = .ok (.imul, 1) := by decide +kernel
theorem dX11_squares_9 : decode cX11_squares 9 = .ok (.ireturn, 1) := by decide +kernel
theorem dX11_isSquare_0 : decode cX11_isSquare 0 = .ok (.iload_n 1, 1) := by decide +kernel
theorem dX11_isSquare_1 : decode cX11_isSquare 1 = .ok (.ifCond .lt 15, 3) := by decide +kernel
theorem dX11_isSquare_4 : decode cX11_isSquare 4 = .ok (.iload_n 1, 1) := by decide +kernel
theorem dX11_isSquare_5 : decode cX11_isSquare 5 = .ok (.aload_n 0, 1) := by decide +kernel
theorem dX11_isSquare_6 : decode cX11_isSquare 6 = .ok (.invokevirtual 289, 3) := by decide +kernel
theorem dX11_isSquare_9 : decode cX11_isSquare 9 = .ok (.if_icmp .ge 7, 3) := by decide +kernel
theorem dX11_isSquare_12 : decode cX11_isSquare 12 = .ok (.iconst 1, 1) := by decide +kernel
theorem dX11_isSquare_13 : decode cX11_isSquare 13 = .ok (.goto 4, 3) := by decide +kernel
theorem dX11_isSquare_16 : decode cX11_isSquare 16 = .ok (.iconst 0, 1) := by decide +kernel
theorem dX11_isSquare_17 : decode cX11_isSquare 17 = .ok (.ireturn, 1) := by decide +kernel
theorem dX11_plainWalls_0 : decode cX11_plainWalls 0 = .ok (.iconst 0, 1) := by decide +kernel
theorem dX11_plainWalls_1 : decode cX11_plainWalls 1 = .ok (.istore_n 1, 1) := by decide +kernel
theorem dX11_plainWalls_2 : decode cX11_plainWalls 2 = .ok (.iload_n 1, 1) := by decide +kernel
theorem dX11_plainWalls_3 : decode cX11_plainWalls 3 = .ok (.aload_n 0, 1) := by decide +kernel
theorem dX11_plainWalls_4 : decode cX11_plainWalls 4 = .ok (.invokevirtual 289, 3) := by decide +kernel
theorem dX11_plainWalls_7 : decode cX11_plainWalls 7 = .ok (.if_icmp .ge 84, 3) := by decide +kernel
theorem dX11_plainWalls_10 : decode cX11_plainWalls 10 = .ok (.aload_n 0, 1) := by decide +kernel
theorem dX11_plainWalls_11 : decode cX11_plainWalls 11 = .ok (.getfield 69, 3) := by decide +kernel
theorem dX11_plainWalls_14 : decode cX11_plainWalls 14 = .ok (.iload_n 1, 1) := by decide +kernel
theorem dX11_plainWalls_15 : decode cX11_plainWalls 15 = .ok (.iload_n 1, 1) := by decide +kernel
theorem dX11_plainWalls_16 : decode cX11_plainWalls 16 = .ok (.aload_n 0, 1) := by decide +kernel
theorem dX11_plainWalls_17 : decode cX11_plainWalls 17 = .ok (.getfield 283, 3) := by decide +kernel
theorem dX11_plainWalls_20 : decode cX11_plainWalls 20 = .ok (.if_icmp .ge 7, 3) := by decide +kernel
theorem dX11_plainWalls_23 : decode cX11_plainWalls 23 = .ok (.iconst 1, 1) := by decide +kernel
theorem dX11_plainWalls_24 : decode cX11_plainWalls 24 = .ok (.goto 4, 3) := by decide +kernel
theorem dX11_plainWalls_27 : decode cX11_plainWalls 27 = .ok (.iconst 0, 1) := by decide +kernel
theorem dX11_plainWalls_28 : decode cX11_plainWalls 28 = .ok (.iload_n 1, 1) := by decide +kernel
theorem dX11_plainWalls_29 : decode cX11_plainWalls 29 = .ok (.aload_n 0, 1) := by decide +kernel
theorem dX11_plainWalls_30 : decode cX11_plainWalls 30 = .ok (.getfield 283, 3) := by decide +kernel
theorem dX11_plainWalls_33 : decode cX11_plainWalls 33 = .ok (.irem, 1) := by decide +kernel
theorem dX11_plainWalls_34 : decode cX11_plainWalls 34 = .ok (.aload_n 0, 1) := by decide +kernel
theorem dX11_plainWalls_35 : decode cX11_plainWalls 35 = .ok (.getfield 283, 3) := by decide +kernel
theorem dX11_plainWalls_38 : decode cX11_plainWalls 38 = .ok (.iconst 1, 1) := by decide +kernel
theorem dX11_plainWalls_39 : decode cX11_plainWalls 39 = .ok (.isub, 1) := by decide +kernel
theorem dX11_plainWalls_40 : decode cX11_plainWalls 40 = .ok (.if_icmp .ne 7, 3) := by decide +kernel
theorem dX11_plainWalls_43 : decode cX11_plainWalls 43 = .ok (.iconst 2, 1) := by decide +kernel
theorem dX11_plainWalls_44 : decode cX11_plainWalls 44 = .ok (.goto 4, 3) := by decide +kernel
theorem dX11_plainWalls_47 : decode cX11_plainWalls 47 = .ok (.iconst 0, 1) := by decide +kernel
theorem dX11_plainWalls_48 : decode cX11_plainWalls 48 = .ok (.ior, 1) := by decide +kernel
theorem dX11_plainWalls_49 : decode cX11_plainWalls 49 = .ok (.iload_n 1, 1) := by decide +kernel
theorem dX11_plainWalls_50 : decode cX11_plainWalls 50 = .ok (.aload_n 0, 1) := by decide +kernel
theorem dX11_plainWalls_51 : decode cX11_plainWalls 51 = .ok (.invokevirtual 289, 3) := by decide +kernel
theorem dX11_plainWalls_54 : decode cX11_plainWalls 54 = .ok (.aload_n 0, 1) := by decide +kernel
theorem dX11_plainWalls_55 : decode cX11_plainWalls 55 = .ok (.getfield 283, 3) := by decide +kernel
theorem dX11_plainWalls_58 : decode cX11_plainWalls 58 = .ok (.isub, 1) := by decide +kernel
theorem dX11_plainWalls_59 : decode cX11_plainWalls 59 = .ok (.if_icmp .lt 7, 3) := by decide +kernel
theorem dX11_plainWalls_62 : decode cX11_plainWalls 62 = .ok (.iconst 4, 1) := by decide +kernel
theorem dX11_plainWalls_63 : decode cX11_plainWalls 63 = .ok (.goto 4, 3) := by decide +kernel
theorem dX11_plainWalls_66 : decode cX11_plainWalls 66 = .ok (.iconst 0, 1) := by decide +kernel
theorem dX11_plainWalls_67 : decode cX11_plainWalls 67 = .ok (.ior, 1) := by decide +kernel
theorem dX11_plainWalls_68 : decode cX11_plainWalls 68 = .ok (.iload_n 1, 1) := by decide +kernel
theorem dX11_plainWalls_69 : decode cX11_plainWalls 69 = .ok (.aload_n 0, 1) := by decide +kernel
theorem dX11_plainWalls_70 : decode cX11_plainWalls 70 = .ok (.getfield 283, 3) := by decide +kernel
theorem dX11_plainWalls_73 : decode cX11_plainWalls 73 = .ok (.irem, 1) := by decide +kernel
theorem dX11_plainWalls_74 : decode cX11_plainWalls 74 = .ok (.ifCond .ne 8, 3) := by decide +kernel
theorem dX11_plainWalls_77 : decode cX11_plainWalls 77 = .ok (.bipush 8, 2) := by decide +kernel
theorem dX11_plainWalls_79 : decode cX11_plainWalls 79 = .ok (.goto 4, 3) := by decide +kernel
theorem dX11_plainWalls_82 : decode cX11_plainWalls 82 = .ok (.iconst 0, 1) := by decide +kernel
theorem dX11_plainWalls_83 : decode cX11_plainWalls 83 = .ok (.ior, 1) := by decide +kernel
theorem dX11_plainWalls_84 : decode cX11_plainWalls 84 = .ok (.iastore, 1) := by decide +kernel
theorem dX11_plainWalls_85 : decode cX11_plainWalls 85 = .ok (.iinc 1 1, 3) := by decide +kernel
theorem dX11_plainWalls_88 : decode cX11_plainWalls 88 = .ok (.goto (-86), 3) := by decide +kernel
theorem dX11_plainWalls_91 : decode cX11_plainWalls 91 = .ok (.return_, 1) := by decide +kernel
theorem dX11_begins_0 : decode cX11_begins 0 = .ok (.aload_n 0, 1) := by decide +kernel
theorem dX11_begins_1 : decode cX11_begins 1 = .ok (.iload_n 1, 1) := by decide +kernel
theorem dX11_begins_2 : decode cX11_begins 2 = .ok (.putfield 283, 3) := by decide +kernel
theorem dX11_begins_5 : decode cX11_begins 5 = .ok (.aload_n 0, 1) := by decide +kernel
theorem dX11_begins_6 : decode cX11_begins 6 = .ok (.iload_n 2, 1) := by decide +kernel
theorem dX11_begins_7 : decode cX11_begins 7 = .ok (.putfield 286, 3) := by decide +kernel
theorem dX11_begins_10 : decode cX11_begins 10 = .ok (.aload_n 0, 1) := by decide +kernel
theorem dX11_begins_11 : decode cX11_begins 11 = .ok (.iload_n 1, 1) := by decide +kernel
theorem dX11_begins_12 : decode cX11_begins 12 = .ok (.iload_n 2, 1) := by decide +kernel
theorem dX11_begins_13 : decode cX11_begins 13 = .ok (.imul, 1) := by decide +kernel
theorem dX11_begins_14 : decode cX11_begins 14 = .ok (.iconst 1, 1) := by decide +kernel
theorem dX11_begins_15 : decode cX11_begins 15 = .ok (.isub, 1) := by decide +kernel
theorem dX11_begins_16 : decode cX11_begins 16 = .ok (.putfield 292, 3) := by decide +kernel
theorem dX11_begins_19 : decode cX11_begins 19 = .ok (.aload_n 0, 1) := by decide +kernel
theorem dX11_begins_20 : decode cX11_begins 20 = .ok (.iconst 0, 1) := by decide +kernel
theorem dX11_begins_21 : decode cX11_begins 21 = .ok (.putfield 295, 3) := by decide +kernel
theorem dX11_begins_24 : decode cX11_begins 24 = .ok (.aload_n 0, 1) := by decide +kernel
theorem dX11_begins_25 : decode cX11_begins 25 = .ok (.iconst 0, 1) := by decide +kernel
theorem dX11_begins_26 : decode cX11_begins 26 = .ok (.putfield 298, 3) := by decide +kernel
theorem dX11_begins_29 : decode cX11_begins 29 = .ok (.aload_n 0, 1) := by decide +kernel
theorem dX11_begins_30 : decode cX11_begins 30 = .ok (.iconst 0, 1) := by decide +kernel
theorem dX11_begins_31 : decode cX11_begins 31 = .ok (.putfield 301, 3) := by decide +kernel
theorem dX11_begins_34 : decode cX11_begins 34 = .ok (.aload_n 0, 1) := by decide +kernel
theorem dX11_begins_35 : decode cX11_begins 35 = .ok (.iconst 0, 1) := by decide +kernel
theorem dX11_begins_36 : decode cX11_begins 36 = .ok (.putfield 304, 3) := by decide +kernel
theorem dX11_begins_39 : decode cX11_begins 39 = .ok (.aload_n 0, 1) := by decide +kernel
theorem dX11_begins_40 : decode cX11_begins 40 = .ok (.aload_n 0, 1) := by decide +kernel
theorem dX11_begins_41 : decode cX11_begins 41 = .ok (.getfield 274, 3) := by decide +kernel
theorem dX11_begins_44 : decode cX11_begins 44 = .ok (.aload_n 0, 1) := by decide +kernel
theorem dX11_begins_45 : decode cX11_begins 45 = .ok (.getfield 277, 3) := by decide +kernel
theorem dX11_begins_48 : decode cX11_begins 48 = .ok (.iand, 1) := by decide +kernel
theorem dX11_begins_49 : decode cX11_begins 49 = .ok (.putfield 271, 3) := by decide +kernel
theorem dX11_begins_52 : decode cX11_begins 52 = .ok (.aload_n 0, 1) := by decide +kernel
theorem dX11_begins_53 : decode cX11_begins 53 = .ok (.invokevirtual 307, 3) := by decide +kernel
theorem dX11_begins_56 : decode cX11_begins 56 = .ok (.iconst 0, 1) := by decide +kernel
theorem dX11_begins_57 : decode cX11_begins 57 = .ok (.istore_n 3, 1) := by decide +kernel
theorem dX11_begins_58 : decode cX11_begins 58 = .ok (.iload_n 3, 1) := by decide +kernel
theorem dX11_begins_59 : decode cX11_begins 59 = .ok (.bipush 36, 2) := by decide +kernel
theorem dX11_begins_61 : decode cX11_begins 61 = .ok (.if_icmp .ge 23, 3) := by decide +kernel
theorem dX11_begins_64 : decode cX11_begins 64 = .ok (.aload_n 0, 1) := by decide +kernel
theorem dX11_begins_65 : decode cX11_begins 65 = .ok (.getfield 72, 3) := by decide +kernel
theorem dX11_begins_68 : decode cX11_begins 68 = .ok (.iload_n 3, 1) := by decide +kernel
theorem dX11_begins_69 : decode cX11_begins 69 = .ok (.iconst 0, 1) := by decide +kernel
theorem dX11_begins_70 : decode cX11_begins 70 = .ok (.iastore, 1) := by decide +kernel
theorem dX11_begins_71 : decode cX11_begins 71 = .ok (.aload_n 0, 1) := by decide +kernel
theorem dX11_begins_72 : decode cX11_begins 72 = .ok (.getfield 75, 3) := by decide +kernel
theorem dX11_begins_75 : decode cX11_begins 75 = .ok (.iload_n 3, 1) := by decide +kernel
theorem dX11_begins_76 : decode cX11_begins 76 = .ok (.iconst 0, 1) := by decide +kernel
theorem dX11_begins_77 : decode cX11_begins 77 = .ok (.iastore, 1) := by decide +kernel
theorem dX11_begins_78 : decode cX11_begins 78 = .ok (.iinc 3 1, 3) := by decide +kernel
theorem dX11_begins_81 : decode cX11_begins 81 = .ok (.goto (-23), 3) := by decide +kernel
theorem dX11_begins_84 : decode cX11_begins 84 = .ok (.aload_n 0, 1) := by decide +kernel
theorem dX11_begins_85 : decode cX11_begins 85 = .ok (.iconst (-1), 1) := by decide +kernel
theorem dX11_begins_86 : decode cX11_begins 86 = .ok (.putfield 78, 3) := by decide +kernel
theorem dX11_begins_89 : decode cX11_begins 89 = .ok (.aload_n 0, 1) := by decide +kernel
theorem dX11_begins_90 : decode cX11_begins 90 = .ok (.invokevirtual 280, 3) := by decide +kernel
theorem dX11_begins_93 : decode cX11_begins 93 = .ok (.iconst 0, 1) := by decide +kernel
theorem dX11_begins_94 : decode cX11_begins 94 = .ok (.istore_n 3, 1) := by decide +kernel
theorem dX11_begins_95 : decode cX11_begins 95 = .ok (.iload_n 3, 1) := by decide +kernel
theorem dX11_begins_96 : decode cX11_begins 96 = .ok (.iconst 4, 1) := by decide +kernel
theorem dX11_begins_97 : decode cX11_begins 97 = .ok (.if_icmp .ge 16, 3) := by decide +kernel
theorem dX11_begins_100 : decode cX11_begins 100 = .ok (.aload_n 0, 1) := by decide +kernel
theorem dX11_begins_101 : decode cX11_begins 101 = .ok (.getfield 90, 3) := by decide +kernel
theorem dX11_begins_104 : decode cX11_begins 104 = .ok (.iload_n 3, 1) := by decide +kernel
theorem dX11_begins_105 : decode cX11_begins 105 = .ok (.iconst 0, 1) := by decide +kernel
theorem dX11_begins_106 : decode cX11_begins 106 = .ok (.bastore, 1) := by decide +kernel
theorem dX11_begins_107 : decode cX11_begins 107 = .ok (.iinc 3 1, 3) := by decide +kernel
theorem dX11_begins_110 : decode cX11_begins 110 = .ok (.goto (-15), 3) := by decide +kernel
theorem dX11_begins_113 : decode cX11_begins 113 = .ok (.return_, 1) := by decide +kernel
theorem dX11_ahead_0 : decode cX11_ahead 0 = .ok (.iload_n 2, 1) := by decide +kernel
theorem dX11_ahead_1 : decode cX11_ahead 1 = .ok (.ifCond .ne 12, 3) := by decide +kernel
theorem dX11_ahead_4 : decode cX11_ahead 4 = .ok (.iload_n 1, 1) := by decide +kernel
theorem dX11_ahead_5 : decode cX11_ahead 5 = .ok (.aload_n 0, 1) := by decide +kernel
theorem dX11_ahead_6 : decode cX11_ahead 6 = .ok (.getfield 283, 3) := by decide +kernel
theorem dX11_ahead_9 : decode cX11_ahead 9 = .ok (.isub, 1) := by decide +kernel
theorem dX11_ahead_10 : decode cX11_ahead 10 = .ok (.goto 31, 3) := by decide +kernel
theorem dX11_ahead_13 : decode cX11_ahead 13 = .ok (.iload_n 2, 1) := by decide +kernel
theorem dX11_ahead_14 : decode cX11_ahead 14 = .ok (.iconst 1, 1) := by decide +kernel
theorem dX11_ahead_15 : decode cX11_ahead 15 = .ok (.if_icmp .ne 9, 3) := by decide +kernel
theorem dX11_ahead_18 : decode cX11_ahead 18 = .ok (.iload_n 1, 1) := by decide +kernel
theorem dX11_ahead_19 : decode cX11_ahead 19 = .ok (.iconst 1, 1) := by decide +kernel
theorem dX11_ahead_20 : decode cX11_ahead 20 = .ok (.iadd, 1) := by decide +kernel
theorem dX11_ahead_21 : decode cX11_ahead 21 = .ok (.goto 20, 3) := by decide +kernel
theorem dX11_ahead_24 : decode cX11_ahead 24 = .ok (.iload_n 2, 1) := by decide +kernel
theorem dX11_ahead_25 : decode cX11_ahead 25 = .ok (.iconst 2, 1) := by decide +kernel
theorem dX11_ahead_26 : decode cX11_ahead 26 = .ok (.if_icmp .ne 12, 3) := by decide +kernel
theorem dX11_ahead_29 : decode cX11_ahead 29 = .ok (.iload_n 1, 1) := by decide +kernel
theorem dX11_ahead_30 : decode cX11_ahead 30 = .ok (.aload_n 0, 1) := by decide +kernel
theorem dX11_ahead_31 : decode cX11_ahead 31 = .ok (.getfield 283, 3) := by decide +kernel
theorem dX11_ahead_34 : decode cX11_ahead 34 = .ok (.iadd, 1) := by decide +kernel
theorem dX11_ahead_35 : decode cX11_ahead 35 = .ok (.goto 6, 3) := by decide +kernel
theorem dX11_ahead_38 : decode cX11_ahead 38 = .ok (.iload_n 1, 1) := by decide +kernel
theorem dX11_ahead_39 : decode cX11_ahead 39 = .ok (.iconst 1, 1) := by decide +kernel
theorem dX11_ahead_40 : decode cX11_ahead 40 = .ok (.isub, 1) := by decide +kernel
theorem dX11_ahead_41 : decode cX11_ahead 41 = .ok (.ireturn, 1) := by decide +kernel
theorem dX11_isWall_0 : decode cX11_isWall 0 = .ok (.aload_n 0, 1) := by decide +kernel
theorem dX11_isWall_1 : decode cX11_isWall 1 = .ok (.getfield 69, 3) := by decide +kernel
theorem dX11_isWall_4 : decode cX11_isWall 4 = .ok (.iload_n 1, 1) := by decide +kernel
theorem dX11_isWall_5 : decode cX11_isWall 5 = .ok (.iaload, 1) := by decide +kernel
theorem dX11_isWall_6 : decode cX11_isWall 6 = .ok (.iload_n 2, 1) := by decide +kernel
theorem dX11_isWall_7 : decode cX11_isWall 7 = .ok (.invokestatic 310, 3) := by decide +kernel
theorem dX11_isWall_10 : decode cX11_isWall 10 = .ok (.ireturn, 1) := by decide +kernel
theorem dX11_putWall_0 : decode cX11_putWall 0 = .ok (.aload_n 0, 1) := by decide +kernel
theorem dX11_putWall_1 : decode cX11_putWall 1 = .ok (.iload_n 1, 1) := by decide +kernel
theorem dX11_putWall_2 : decode cX11_putWall 2 = .ok (.iload_n 2, 1) := by decide +kernel
theorem dX11_putWall_3 : decode cX11_putWall 3 = .ok (.invokevirtual 314, 3) := by decide +kernel
theorem dX11_putWall_6 : decode cX11_putWall 6 = .ok (.istore 4, 2) := by decide +kernel
theorem dX11_putWall_8 : decode cX11_putWall 8 = .ok (.iload_n 2, 1) := by decide +kernel
theorem dX11_putWall_9 : decode cX11_putWall 9 = .ok (.iconst 2, 1) := by decide +kernel
theorem dX11_putWall_10 : decode cX11_putWall 10 = .ok (.iadd, 1) := by decide +kernel
theorem dX11_putWall_11 : decode cX11_putWall 11 = .ok (.iconst 4, 1) := by decide +kernel
theorem dX11_putWall_12 : decode cX11_putWall 12 = .ok (.irem, 1) := by decide +kernel
theorem dX11_putWall_13 : decode cX11_putWall 13 = .ok (.istore 5, 2) := by decide +kernel
theorem dX11_putWall_15 : decode cX11_putWall 15 = .ok (.aload_n 0, 1) := by decide +kernel
theorem dX11_putWall_16 : decode cX11_putWall 16 = .ok (.getfield 69, 3) := by decide +kernel
theorem dX11_putWall_19 : decode cX11_putWall 19 = .ok (.iload_n 1, 1) := by decide +kernel
theorem dX11_putWall_20 : decode cX11_putWall 20 = .ok (.iload_n 3, 1) := by decide +kernel
theorem dX11_putWall_21 : decode cX11_putWall 21 = .ok (.ifCond .eq 16, 3) := by decide +kernel
theorem dX11_putWall_24 : decode cX11_putWall 24 = .ok (.aload_n 0, 1) := by decide +kernel
theorem dX11_putWall_25 : decode cX11_putWall 25 = .ok (.getfield 69, 3) := by decide +kernel
theorem dX11_putWall_28 : decode cX11_putWall 28 = .ok (.iload_n 1, 1) := by decide +kernel
theorem dX11_putWall_29 : decode cX11_putWall 29 = .ok (.iaload, 1) := by decide +kernel
theorem dX11_putWall_30 : decode cX11_putWall 30 = .ok (.iconst 1, 1) := by decide +kernel
theorem dX11_putWall_31 : decode cX11_putWall 31 = .ok (.iload_n 2, 1) := by decide +kernel
theorem dX11_putWall_32 : decode cX11_putWall 32 = .ok (.ishl, 1) := by decide +kernel
theorem dX11_putWall_33 : decode cX11_putWall 33 = .ok (.ior, 1) := by decide +kernel
theorem dX11_putWall_34 : decode cX11_putWall 34 = .ok (.goto 15, 3) := by decide +kernel
theorem dX11_putWall_37 : decode cX11_putWall 37 = .ok (.aload_n 0, 1) := by decide +kernel
theorem dX11_putWall_38 : decode cX11_putWall 38 = .ok (.getfield 69, 3) := by decide +kernel
theorem dX11_putWall_41 : decode cX11_putWall 41 = .ok (.iload_n 1, 1) := by decide +kernel
theorem dX11_putWall_42 : decode cX11_putWall 42 = .ok (.iaload, 1) := by decide +kernel
theorem dX11_putWall_43 : decode cX11_putWall 43 = .ok (.iconst 1, 1) := by decide +kernel
theorem dX11_putWall_44 : decode cX11_putWall 44 = .ok (.iload_n 2, 1) := by decide +kernel
theorem dX11_putWall_45 : decode cX11_putWall 45 = .ok (.ishl, 1) := by decide +kernel
theorem dX11_putWall_46 : decode cX11_putWall 46 = .ok (.iconst (-1), 1) := by decide +kernel
theorem dX11_putWall_47 : decode cX11_putWall 47 = .ok (.ixor, 1) := by decide +kernel
theorem dX11_putWall_48 : decode cX11_putWall 48 = .ok (.iand, 1) := by decide +kernel
theorem dX11_putWall_49 : decode cX11_putWall 49 = .ok (.iastore, 1) := by decide +kernel
theorem dX11_putWall_50 : decode cX11_putWall 50 = .ok (.aload_n 0, 1) := by decide +kernel
theorem dX11_putWall_51 : decode cX11_putWall 51 = .ok (.getfield 69, 3) := by decide +kernel
theorem dX11_putWall_54 : decode cX11_putWall 54 = .ok (.iload 4, 2) := by decide +kernel
theorem dX11_putWall_56 : decode cX11_putWall 56 = .ok (.iload_n 3, 1) := by decide +kernel
theorem dX11_putWall_57 : decode cX11_putWall 57 = .ok (.ifCond .eq 18, 3) := by decide +kernel
theorem dX11_putWall_60 : decode cX11_putWall 60 = .ok (.aload_n 0, 1) := by decide +kernel
theorem dX11_putWall_61 : decode cX11_putWall 61 = .ok (.getfield 69, 3) := by decide +kernel
theorem dX11_putWall_64 : decode cX11_putWall 64 = .ok (.iload 4, 2) := by decide +kernel
theorem dX11_putWall_66 : decode cX11_putWall 66 = .ok (.iaload, 1) := by decide +kernel
theorem dX11_putWall_67 : decode cX11_putWall 67 = .ok (.iconst 1, 1) := by decide +kernel
theorem dX11_putWall_68 : decode cX11_putWall 68 = .ok (.iload 5, 2) := by decide +kernel
theorem dX11_putWall_70 : decode cX11_putWall 70 = .ok (.ishl, 1) := by decide +kernel
theorem dX11_putWall_71 : decode cX11_putWall 71 = .ok (.ior, 1) := by decide +kernel
theorem dX11_putWall_72 : decode cX11_putWall 72 = .ok (.goto 17, 3) := by decide +kernel
theorem dX11_putWall_75 : decode cX11_putWall 75 = .ok (.aload_n 0, 1) := by decide +kernel
theorem dX11_putWall_76 : decode cX11_putWall 76 = .ok (.getfield 69, 3) := by decide +kernel
theorem dX11_putWall_79 : decode cX11_putWall 79 = .ok (.iload 4, 2) := by decide +kernel
theorem dX11_putWall_81 : decode cX11_putWall 81 = .ok (.iaload, 1) := by decide +kernel
theorem dX11_putWall_82 : decode cX11_putWall 82 = .ok (.iconst 1, 1) := by decide +kernel
theorem dX11_putWall_83 : decode cX11_putWall 83 = .ok (.iload 5, 2) := by decide +kernel
theorem dX11_putWall_85 : decode cX11_putWall 85 = .ok (.ishl, 1) := by decide +kernel
theorem dX11_putWall_86 : decode cX11_putWall 86 = .ok (.iconst (-1), 1) := by decide +kernel
theorem dX11_putWall_87 : decode cX11_putWall 87 = .ok (.ixor, 1) := by decide +kernel
theorem dX11_putWall_88 : decode cX11_putWall 88 = .ok (.iand, 1) := by decide +kernel
theorem dX11_putWall_89 : decode cX11_putWall 89 = .ok (.iastore, 1) := by decide +kernel
theorem dX11_putWall_90 : decode cX11_putWall 90 = .ok (.return_, 1) := by decide +kernel
theorem dX11_floor_0 : decode cX11_floor 0 = .ok (.aload_n 0, 1) := by decide +kernel
theorem dX11_floor_1 : decode cX11_floor 1 = .ok (.iconst 0, 1) := by decide +kernel
theorem dX11_floor_2 : decode cX11_floor 2 = .ok (.putfield 130, 3) := by decide +kernel
theorem dX11_floor_5 : decode cX11_floor 5 = .ok (.iload_n 1, 1) := by decide +kernel
theorem dX11_floor_6 : decode cX11_floor 6 = .ok (.iconst 2, 1) := by decide +kernel
theorem dX11_floor_7 : decode cX11_floor 7 = .ok (.bipush 6, 2) := by decide +kernel
theorem dX11_floor_9 : decode cX11_floor 9 = .ok (.invokestatic 317, 3) := by decide +kernel
theorem dX11_floor_12 : decode cX11_floor 12 = .ok (.ifCond .eq 13, 3) := by decide +kernel
theorem dX11_floor_15 : decode cX11_floor 15 = .ok (.iload_n 2, 1) := by decide +kernel
theorem dX11_floor_16 : decode cX11_floor 16 = .ok (.iconst 2, 1) := by decide +kernel
theorem dX11_floor_17 : decode cX11_floor 17 = .ok (.bipush 6, 2) := by decide +kernel
theorem dX11_floor_19 : decode cX11_floor 19 = .ok (.invokestatic 317, 3) := by decide +kernel
theorem dX11_floor_22 : decode cX11_floor 22 = .ok (.ifCond .ne 5, 3) := by decide +kernel
theorem dX11_floor_25 : decode cX11_floor 25 = .ok (.iconst 0, 1) := by decide +kernel
theorem dX11_floor_26 : decode cX11_floor 26 = .ok (.ireturn, 1) := by decide +kernel
theorem dX11_floor_27 : decode cX11_floor 27 = .ok (.aload_n 0, 1) := by decide +kernel
theorem dX11_floor_28 : decode cX11_floor 28 = .ok (.iload_n 1, 1) := by decide +kernel
theorem dX11_floor_29 : decode cX11_floor 29 = .ok (.iload_n 2, 1) := by decide +kernel
theorem dX11_floor_30 : decode cX11_floor 30 = .ok (.invokevirtual 126, 3) := by decide +kernel
theorem dX11_floor_33 : decode cX11_floor 33 = .ok (.iconst 1, 1) := by decide +kernel
theorem dX11_floor_34 : decode cX11_floor 34 = .ok (.ireturn, 1) := by decide +kernel
theorem dX11_isAround_0 : decode cX11_isAround 0 = .ok (.iload_n 2, 1) := by decide +kernel
theorem dX11_isAround_1 : decode cX11_isAround 1 = .ok (.ifCond .ne 19, 3) := by decide +kernel
theorem dX11_isAround_4 : decode cX11_isAround 4 = .ok (.iload_n 1, 1) := by decide +kernel
theorem dX11_isAround_5 : decode cX11_isAround 5 = .ok (.aload_n 0, 1) := by decide +kernel
theorem dX11_isAround_6 : decode cX11_isAround 6 = .ok (.getfield 283, 3) := by decide +kernel
theorem dX11_isAround_9 : decode cX11_isAround 9 = .ok (.if_icmp .ge 7, 3) := by decide +kernel
theorem dX11_isAround_12 : decode cX11_isAround 12 = .ok (.iconst 1, 1) := by decide +kernel
theorem dX11_isAround_13 : decode cX11_isAround 13 = .ok (.goto 75, 3) := by decide +kernel
theorem dX11_isAround_16 : decode cX11_isAround 16 = .ok (.iconst 0, 1) := by decide +kernel
theorem dX11_isAround_17 : decode cX11_isAround 17 = .ok (.goto 71, 3) := by decide +kernel
theorem dX11_isAround_20 : decode cX11_isAround 20 = .ok (.iload_n 2, 1) := by decide +kernel
theorem dX11_isAround_21 : decode cX11_isAround 21 = .ok (.iconst 1, 1) := by decide +kernel
theorem dX11_isAround_22 : decode cX11_isAround 22 = .ok (.if_icmp .ne 26, 3) := by decide +kernel
theorem dX11_isAround_25 : decode cX11_isAround 25 = .ok (.iload_n 1, 1) := by decide +kernel
theorem dX11_isAround_26 : decode cX11_isAround 26 = .ok (.aload_n 0, 1) := by decide +kernel
theorem dX11_isAround_27 : decode cX11_isAround 27 = .ok (.getfield 283, 3) := by decide +kernel
theorem dX11_isAround_30 : decode cX11_isAround 30 = .ok (.irem, 1) := by decide +kernel
theorem dX11_isAround_31 : decode cX11_isAround 31 = .ok (.aload_n 0, 1) := by decide +kernel
theorem dX11_isAround_32 : decode cX11_isAround 32 = .ok (.getfield 283, 3) := by decide +kernel
theorem dX11_isAround_35 : decode cX11_isAround 35 = .ok (.iconst 1, 1) := by decide +kernel
theorem dX11_isAround_36 : decode cX11_isAround 36 = .ok (.isub, 1) := by decide +kernel
theorem dX11_isAround_37 : decode cX11_isAround 37 = .ok (.if_icmp .ne 7, 3) := by decide +kernel
theorem dX11_isAround_40 : decode cX11_isAround 40 = .ok (.iconst 1, 1) := by decide +kernel
theorem dX11_isAround_41 : decode cX11_isAround 41 = .ok (.goto 47, 3) := by decide +kernel
theorem dX11_isAround_44 : decode cX11_isAround 44 = .ok (.iconst 0, 1) := by decide +kernel
theorem dX11_isAround_45 : decode cX11_isAround 45 = .ok (.goto 43, 3) := by decide +kernel
theorem dX11_isAround_48 : decode cX11_isAround 48 = .ok (.iload_n 2, 1) := by decide +kernel
theorem dX11_isAround_49 : decode cX11_isAround 49 = .ok (.iconst 2, 1) := by decide +kernel
theorem dX11_isAround_50 : decode cX11_isAround 50 = .ok (.if_icmp .ne 24, 3) := by decide +kernel
theorem dX11_isAround_53 : decode cX11_isAround 53 = .ok (.iload_n 1, 1) := by decide +kernel
theorem dX11_isAround_54 : decode cX11_isAround 54 = .ok (.aload_n 0, 1) := by decide +kernel
theorem dX11_isAround_55 : decode cX11_isAround 55 = .ok (.invokevirtual 289, 3) := by decide +kernel
theorem dX11_isAround_58 : decode cX11_isAround 58 = .ok (.aload_n 0, 1) := by decide +kernel
theorem dX11_isAround_59 : decode cX11_isAround 59 = .ok (.getfield 283, 3) := by decide +kernel
theorem dX11_isAround_62 : decode cX11_isAround 62 = .ok (.isub, 1) := by decide +kernel
theorem dX11_isAround_63 : decode cX11_isAround 63 = .ok (.if_icmp .lt 7, 3) := by decide +kernel
theorem dX11_isAround_66 : decode cX11_isAround 66 = .ok (.iconst 1, 1) := by decide +kernel
theorem dX11_isAround_67 : decode cX11_isAround 67 = .ok (.goto 21, 3) := by decide +kernel
theorem dX11_isAround_70 : decode cX11_isAround 70 = .ok (.iconst 0, 1) := by decide +kernel
theorem dX11_isAround_71 : decode cX11_isAround 71 = .ok (.goto 17, 3) := by decide +kernel
theorem dX11_isAround_74 : decode cX11_isAround 74 = .ok (.iload_n 1, 1) := by decide +kernel
theorem dX11_isAround_75 : decode cX11_isAround 75 = .ok (.aload_n 0, 1) := by decide +kernel
theorem dX11_isAround_76 : decode cX11_isAround 76 = .ok (.getfield 283, 3) := by decide +kernel
theorem dX11_isAround_79 : decode cX11_isAround 79 = .ok (.irem, 1) := by decide +kernel
theorem dX11_isAround_80 : decode cX11_isAround 80 = .ok (.ifCond .ne 7, 3) := by decide +kernel
theorem dX11_isAround_83 : decode cX11_isAround 83 = .ok (.iconst 1, 1) := by decide +kernel
theorem dX11_isAround_84 : decode cX11_isAround 84 = .ok (.goto 4, 3) := by decide +kernel
theorem dX11_isAround_87 : decode cX11_isAround 87 = .ok (.iconst 0, 1) := by decide +kernel
theorem dX11_isAround_88 : decode cX11_isAround 88 = .ok (.ireturn, 1) := by decide +kernel
theorem dX11_wall_0 : decode cX11_wall 0 = .ok (.aload_n 0, 1) := by decide +kernel
theorem dX11_wall_1 : decode cX11_wall 1 = .ok (.iconst 0, 1) := by decide +kernel
theorem dX11_wall_2 : decode cX11_wall 2 = .ok (.putfield 130, 3) := by decide +kernel
theorem dX11_wall_5 : decode cX11_wall 5 = .ok (.aload_n 0, 1) := by decide +kernel
theorem dX11_wall_6 : decode cX11_wall 6 = .ok (.iload_n 1, 1) := by decide +kernel
theorem dX11_wall_7 : decode cX11_wall 7 = .ok (.invokevirtual 321, 3) := by decide +kernel
theorem dX11_wall_10 : decode cX11_wall 10 = .ok (.ifCond .eq 31, 3) := by decide +kernel
theorem dX11_wall_13 : decode cX11_wall 13 = .ok (.iload_n 2, 1) := by decide +kernel
theorem dX11_wall_14 : decode cX11_wall 14 = .ok (.iconst 0, 1) := by decide +kernel
theorem dX11_wall_15 : decode cX11_wall 15 = .ok (.iconst 3, 1) := by decide +kernel
theorem dX11_wall_16 : decode cX11_wall 16 = .ok (.invokestatic 317, 3) := by decide +kernel
theorem dX11_wall_19 : decode cX11_wall 19 = .ok (.ifCond .eq 22, 3) := by decide +kernel
theorem dX11_wall_22 : decode cX11_wall 22 = .ok (.aload_n 0, 1) := by decide +kernel
theorem dX11_wall_23 : decode cX11_wall 23 = .ok (.iload_n 1, 1) := by decide +kernel
theorem dX11_wall_24 : decode cX11_wall 24 = .ok (.iload_n 2, 1) := by decide +kernel
theorem dX11_wall_25 : decode cX11_wall 25 = .ok (.invokevirtual 324, 3) := by decide +kernel
theorem dX11_wall_28 : decode cX11_wall 28 = .ok (.ifCond .ne 13, 3) := by decide +kernel
theorem dX11_wall_31 : decode cX11_wall 31 = .ok (.aload_n 0, 1) := by decide +kernel
theorem dX11_wall_32 : decode cX11_wall 32 = .ok (.iload_n 1, 1) := by decide +kernel
theorem dX11_wall_33 : decode cX11_wall 33 = .ok (.iload_n 2, 1) := by decide +kernel
theorem dX11_wall_34 : decode cX11_wall 34 = .ok (.invokevirtual 327, 3) := by decide +kernel
theorem dX11_wall_37 : decode cX11_wall 37 = .ok (.iload_n 3, 1) := by decide +kernel
theorem dX11_wall_38 : decode cX11_wall 38 = .ok (.if_icmp .ne 5, 3) := by decide +kernel
theorem dX11_wall_41 : decode cX11_wall 41 = .ok (.iconst 0, 1) := by decide +kernel
theorem dX11_wall_42 : decode cX11_wall 42 = .ok (.ireturn, 1) := by decide +kernel
theorem dX11_wall_43 : decode cX11_wall 43 = .ok (.aload_n 0, 1) := by decide +kernel
theorem dX11_wall_44 : decode cX11_wall 44 = .ok (.iload_n 1, 1) := by decide +kernel
theorem dX11_wall_45 : decode cX11_wall 45 = .ok (.iload_n 2, 1) := by decide +kernel
theorem dX11_wall_46 : decode cX11_wall 46 = .ok (.iload_n 3, 1) := by decide +kernel
theorem dX11_wall_47 : decode cX11_wall 47 = .ok (.invokevirtual 330, 3) := by decide +kernel
theorem dX11_wall_50 : decode cX11_wall 50 = .ok (.iconst 1, 1) := by decide +kernel
theorem dX11_wall_51 : decode cX11_wall 51 = .ok (.ireturn, 1) := by decide +kernel
theorem dX11_bell_0 : decode cX11_bell 0 = .ok (.aload_n 0, 1) := by decide +kernel
theorem dX11_bell_1 : decode cX11_bell 1 = .ok (.iconst 0, 1) := by decide +kernel
theorem dX11_bell_2 : decode cX11_bell 2 = .ok (.putfield 130, 3) := by decide +kernel
theorem dX11_bell_5 : decode cX11_bell 5 = .ok (.aload_n 0, 1) := by decide +kernel
theorem dX11_bell_6 : decode cX11_bell 6 = .ok (.iload_n 1, 1) := by decide +kernel
theorem dX11_bell_7 : decode cX11_bell 7 = .ok (.invokevirtual 321, 3) := by decide +kernel
theorem dX11_bell_10 : decode cX11_bell 10 = .ok (.ifCond .ne 5, 3) := by decide +kernel
theorem dX11_bell_13 : decode cX11_bell 13 = .ok (.iconst 0, 1) := by decide +kernel
theorem dX11_bell_14 : decode cX11_bell 14 = .ok (.ireturn, 1) := by decide +kernel
theorem dX11_bell_15 : decode cX11_bell 15 = .ok (.aload_n 0, 1) := by decide +kernel
theorem dX11_bell_16 : decode cX11_bell 16 = .ok (.iload_n 1, 1) := by decide +kernel
theorem dX11_bell_17 : decode cX11_bell 17 = .ok (.putfield 292, 3) := by decide +kernel
theorem dX11_bell_20 : decode cX11_bell 20 = .ok (.iconst 1, 1) := by decide +kernel
theorem dX11_bell_21 : decode cX11_bell 21 = .ok (.ireturn, 1) := by decide +kernel
theorem dX11_lift_0 : decode cX11_lift 0 = .ok (.aload_n 0, 1) := by decide +kernel
theorem dX11_lift_1 : decode cX11_lift 1 = .ok (.iconst 0, 1) := by decide +kernel
theorem dX11_lift_2 : decode cX11_lift 2 = .ok (.putfield 130, 3) := by decide +kernel
theorem dX11_lift_5 : decode cX11_lift 5 = .ok (.aload_n 0, 1) := by decide +kernel
theorem dX11_lift_6 : decode cX11_lift 6 = .ok (.iload_n 1, 1) := by decide +kernel
theorem dX11_lift_7 : decode cX11_lift 7 = .ok (.invokevirtual 321, 3) := by decide +kernel
theorem dX11_lift_10 : decode cX11_lift 10 = .ok (.ifCond .eq 12, 3) := by decide +kernel
theorem dX11_lift_13 : decode cX11_lift 13 = .ok (.iload_n 2, 1) := by decide +kernel
theorem dX11_lift_14 : decode cX11_lift 14 = .ok (.iconst 0, 1) := by decide +kernel
theorem dX11_lift_15 : decode cX11_lift 15 = .ok (.iconst 3, 1) := by decide +kernel
theorem dX11_lift_16 : decode cX11_lift 16 = .ok (.invokestatic 317, 3) := by decide +kernel
theorem dX11_lift_19 : decode cX11_lift 19 = .ok (.ifCond .ne 5, 3) := by decide +kernel
theorem dX11_lift_22 : decode cX11_lift 22 = .ok (.iconst 0, 1) := by decide +kernel
theorem dX11_lift_23 : decode cX11_lift 23 = .ok (.ireturn, 1) := by decide +kernel
theorem dX11_lift_24 : decode cX11_lift 24 = .ok (.aload_n 0, 1) := by decide +kernel
theorem dX11_lift_25 : decode cX11_lift 25 = .ok (.iload_n 1, 1) := by decide +kernel
theorem dX11_lift_26 : decode cX11_lift 26 = .ok (.putfield 295, 3) := by decide +kernel
theorem dX11_lift_29 : decode cX11_lift 29 = .ok (.aload_n 0, 1) := by decide +kernel
theorem dX11_lift_30 : decode cX11_lift 30 = .ok (.iload_n 2, 1) := by decide +kernel
theorem dX11_lift_31 : decode cX11_lift 31 = .ok (.putfield 298, 3) := by decide +kernel
theorem dX11_lift_34 : decode cX11_lift 34 = .ok (.iconst 1, 1) := by decide +kernel
theorem dX11_lift_35 : decode cX11_lift 35 = .ok (.ireturn, 1) := by decide +kernel
theorem dX11_wipes_0 : decode cX11_wipes 0 = .ok (.iconst 0, 1) := by decide +kernel
theorem dX11_wipes_1 : decode cX11_wipes 1 = .ok (.istore_n 1, 1) := by decide +kernel
theorem dX11_wipes_2 : decode cX11_wipes 2 = .ok (.iload_n 1, 1) := by decide +kernel
theorem dX11_wipes_3 : decode cX11_wipes 3 = .ok (.aload_n 0, 1) := by decide +kernel
theorem dX11_wipes_4 : decode cX11_wipes 4 = .ok (.invokevirtual 289, 3) := by decide +kernel
theorem dX11_wipes_7 : decode cX11_wipes 7 = .ok (.if_icmp .ge 23, 3) := by decide +kernel
theorem dX11_wipes_10 : decode cX11_wipes 10 = .ok (.aload_n 0, 1) := by decide +kernel
theorem dX11_wipes_11 : decode cX11_wipes 11 = .ok (.getfield 72, 3) := by decide +kernel
theorem dX11_wipes_14 : decode cX11_wipes 14 = .ok (.iload_n 1, 1) := by decide +kernel
theorem dX11_wipes_15 : decode cX11_wipes 15 = .ok (.iconst 0, 1) := by decide +kernel
theorem dX11_wipes_16 : decode cX11_wipes 16 = .ok (.iastore, 1) := by decide +kernel
theorem dX11_wipes_17 : decode cX11_wipes 17 = .ok (.aload_n 0, 1) := by decide +kernel
theorem dX11_wipes_18 : decode cX11_wipes 18 = .ok (.getfield 75, 3) := by decide +kernel
theorem dX11_wipes_21 : decode cX11_wipes 21 = .ok (.iload_n 1, 1) := by decide +kernel
theorem dX11_wipes_22 : decode cX11_wipes 22 = .ok (.iconst 0, 1) := by decide +kernel
theorem dX11_wipes_23 : decode cX11_wipes 23 = .ok (.iastore, 1) := by decide +kernel
theorem dX11_wipes_24 : decode cX11_wipes 24 = .ok (.iinc 1 1, 3) := by decide +kernel
theorem dX11_wipes_27 : decode cX11_wipes 27 = .ok (.goto (-25), 3) := by decide +kernel
theorem dX11_wipes_30 : decode cX11_wipes 30 = .ok (.return_, 1) := by decide +kernel
theorem dX11_wipe_0 : decode cX11_wipe 0 = .ok (.aload_n 0, 1) := by decide +kernel
theorem dX11_wipe_1 : decode cX11_wipe 1 = .ok (.iconst 0, 1) := by decide +kernel
theorem dX11_wipe_2 : decode cX11_wipe 2 = .ok (.putfield 130, 3) := by decide +kernel
theorem dX11_wipe_5 : decode cX11_wipe 5 = .ok (.iconst 0, 1) := by decide +kernel
theorem dX11_wipe_6 : decode cX11_wipe 6 = .ok (.istore_n 1, 1) := by decide +kernel
theorem dX11_wipe_7 : decode cX11_wipe 7 = .ok (.iconst 0, 1) := by decide +kernel
theorem dX11_wipe_8 : decode cX11_wipe 8 = .ok (.istore_n 2, 1) := by decide +kernel
theorem dX11_wipe_9 : decode cX11_wipe 9 = .ok (.iload_n 2, 1) := by decide +kernel
theorem dX11_wipe_10 : decode cX11_wipe 10 = .ok (.aload_n 0, 1) := by decide +kernel
theorem dX11_wipe_11 : decode cX11_wipe 11 = .ok (.invokevirtual 289, 3) := by decide +kernel
theorem dX11_wipe_14 : decode cX11_wipe 14 = .ok (.if_icmp .ge 35, 3) := by decide +kernel
theorem dX11_wipe_17 : decode cX11_wipe 17 = .ok (.iload_n 1, 1) := by decide +kernel
theorem dX11_wipe_18 : decode cX11_wipe 18 = .ok (.aload_n 0, 1) := by decide +kernel
theorem dX11_wipe_19 : decode cX11_wipe 19 = .ok (.getfield 72, 3) := by decide +kernel
theorem dX11_wipe_22 : decode cX11_wipe 22 = .ok (.iload_n 2, 1) := by decide +kernel
theorem dX11_wipe_23 : decode cX11_wipe 23 = .ok (.iaload, 1) := by decide +kernel
theorem dX11_wipe_24 : decode cX11_wipe 24 = .ok (.ifCond .ne 12, 3) := by decide +kernel
theorem dX11_wipe_27 : decode cX11_wipe 27 = .ok (.aload_n 0, 1) := by decide +kernel
theorem dX11_wipe_28 : decode cX11_wipe 28 = .ok (.getfield 75, 3) := by decide +kernel
theorem dX11_wipe_31 : decode cX11_wipe 31 = .ok (.iload_n 2, 1) := by decide +kernel
theorem dX11_wipe_32 : decode cX11_wipe 32 = .ok (.iaload, 1) := by decide +kernel
theorem dX11_wipe_33 : decode cX11_wipe 33 = .ok (.ifCond .eq 7, 3) := by decide +kernel
theorem dX11_wipe_36 : decode cX11_wipe 36 = .ok (.iconst 1, 1) := by decide +kernel
theorem dX11_wipe_37 : decode cX11_wipe 37 = .ok (.goto 4, 3) := by decide +kernel
theorem dX11_wipe_40 : decode cX11_wipe 40 = .ok (.iconst 0, 1) := by decide +kernel
theorem dX11_wipe_41 : decode cX11_wipe 41 = .ok (.iadd, 1) := by decide +kernel
theorem dX11_wipe_42 : decode cX11_wipe 42 = .ok (.istore_n 1, 1) := by decide +kernel
theorem dX11_wipe_43 : decode cX11_wipe 43 = .ok (.iinc 2 1, 3) := by decide +kernel
theorem dX11_wipe_46 : decode cX11_wipe 46 = .ok (.goto (-37), 3) := by decide +kernel
theorem dX11_wipe_49 : decode cX11_wipe 49 = .ok (.aload_n 0, 1) := by decide +kernel
theorem dX11_wipe_50 : decode cX11_wipe 50 = .ok (.invokevirtual 334, 3) := by decide +kernel
theorem dX11_wipe_53 : decode cX11_wipe 53 = .ok (.aload_n 0, 1) := by decide +kernel
theorem dX11_wipe_54 : decode cX11_wipe 54 = .ok (.iconst 0, 1) := by decide +kernel
theorem dX11_wipe_55 : decode cX11_wipe 55 = .ok (.putfield 301, 3) := by decide +kernel
theorem dX11_wipe_58 : decode cX11_wipe 58 = .ok (.aload_n 0, 1) := by decide +kernel
theorem dX11_wipe_59 : decode cX11_wipe 59 = .ok (.iconst 0, 1) := by decide +kernel
theorem dX11_wipe_60 : decode cX11_wipe 60 = .ok (.putfield 304, 3) := by decide +kernel
theorem dX11_wipe_63 : decode cX11_wipe 63 = .ok (.aload_n 0, 1) := by decide +kernel
theorem dX11_wipe_64 : decode cX11_wipe 64 = .ok (.aload_n 0, 1) := by decide +kernel
theorem dX11_wipe_65 : decode cX11_wipe 65 = .ok (.getfield 274, 3) := by decide +kernel
theorem dX11_wipe_68 : decode cX11_wipe 68 = .ok (.aload_n 0, 1) := by decide +kernel
theorem dX11_wipe_69 : decode cX11_wipe 69 = .ok (.getfield 277, 3) := by decide +kernel
theorem dX11_wipe_72 : decode cX11_wipe 72 = .ok (.iand, 1) := by decide +kernel
theorem dX11_wipe_73 : decode cX11_wipe 73 = .ok (.putfield 271, 3) := by decide +kernel
theorem dX11_wipe_76 : decode cX11_wipe 76 = .ok (.iload_n 1, 1) := by decide +kernel
theorem dX11_wipe_77 : decode cX11_wipe 77 = .ok (.ireturn, 1) := by decide +kernel
theorem dX11_goes_0 : decode cX11_goes 0 = .ok (.aload_n 0, 1) := by decide +kernel
theorem dX11_goes_1 : decode cX11_goes 1 = .ok (.aload_n 0, 1) := by decide +kernel
theorem dX11_goes_2 : decode cX11_goes 2 = .ok (.getfield 295, 3) := by decide +kernel
theorem dX11_goes_5 : decode cX11_goes 5 = .ok (.aload_n 0, 1) := by decide +kernel
theorem dX11_goes_6 : decode cX11_goes 6 = .ok (.getfield 298, 3) := by decide +kernel
theorem dX11_goes_9 : decode cX11_goes 9 = .ok (.invokevirtual 327, 3) := by decide +kernel
theorem dX11_goes_12 : decode cX11_goes 12 = .ok (.ifCond .eq 4, 3) := by decide +kernel
theorem dX11_goes_15 : decode cX11_goes 15 = .ok (.return_, 1) := by decide +kernel
theorem dX11_goes_16 : decode cX11_goes 16 = .ok (.aload_n 0, 1) := by decide +kernel
theorem dX11_goes_17 : decode cX11_goes 17 = .ok (.aload_n 0, 1) := by decide +kernel
theorem dX11_goes_18 : decode cX11_goes 18 = .ok (.aload_n 0, 1) := by decide +kernel
theorem dX11_goes_19 : decode cX11_goes 19 = .ok (.getfield 295, 3) := by decide +kernel
theorem dX11_goes_22 : decode cX11_goes 22 = .ok (.aload_n 0, 1) := by decide +kernel
theorem dX11_goes_23 : decode cX11_goes 23 = .ok (.getfield 298, 3) := by decide +kernel
theorem dX11_goes_26 : decode cX11_goes 26 = .ok (.invokevirtual 314, 3) := by decide +kernel
theorem dX11_goes_29 : decode cX11_goes 29 = .ok (.putfield 295, 3) := by decide +kernel
theorem dX11_goes_32 : decode cX11_goes 32 = .ok (.aload_n 0, 1) := by decide +kernel
theorem dX11_goes_33 : decode cX11_goes 33 = .ok (.dup, 1) := by decide +kernel
theorem dX11_goes_34 : decode cX11_goes 34 = .ok (.getfield 337, 3) := by decide +kernel
theorem dX11_goes_37 : decode cX11_goes 37 = .ok (.iconst 1, 1) := by decide +kernel
theorem dX11_goes_38 : decode cX11_goes 38 = .ok (.iadd, 1) := by decide +kernel
theorem dX11_goes_39 : decode cX11_goes 39 = .ok (.putfield 337, 3) := by decide +kernel
theorem dX11_goes_42 : decode cX11_goes 42 = .ok (.return_, 1) := by decide +kernel
theorem dX11_holds_0 : decode cX11_holds 0 = .ok (.aload_n 0, 1) := by decide +kernel
theorem dX11_holds_1 : decode cX11_holds 1 = .ok (.getfield 26, 3) := by decide +kernel
theorem dX11_holds_4 : decode cX11_holds 4 = .ok (.iload_n 1, 1) := by decide +kernel
theorem dX11_holds_5 : decode cX11_holds 5 = .ok (.iaload, 1) := by decide +kernel
theorem dX11_holds_6 : decode cX11_holds 6 = .ok (.tableswitch 139 3 7 #[34, 50, 70, 95, 117], 34) := by decide +kernel
theorem dX11_holds_40 : decode cX11_holds 40 = .ok (.aload_n 0, 1) := by decide +kernel
theorem dX11_holds_41 : decode cX11_holds 41 = .ok (.aload_n 0, 1) := by decide +kernel
theorem dX11_holds_42 : decode cX11_holds 42 = .ok (.getfield 295, 3) := by decide +kernel
theorem dX11_holds_45 : decode cX11_holds 45 = .ok (.aload_n 0, 1) := by decide +kernel
theorem dX11_holds_46 : decode cX11_holds 46 = .ok (.getfield 298, 3) := by decide +kernel
theorem dX11_holds_49 : decode cX11_holds 49 = .ok (.invokevirtual 327, 3) := by decide +kernel
theorem dX11_holds_52 : decode cX11_holds 52 = .ok (.istore_n 2, 1) := by decide +kernel
theorem dX11_holds_53 : decode cX11_holds 53 = .ok (.goto 111, 3) := by decide +kernel
theorem dX11_holds_56 : decode cX11_holds 56 = .ok (.aload_n 0, 1) := by decide +kernel
theorem dX11_holds_57 : decode cX11_holds 57 = .ok (.getfield 295, 3) := by decide +kernel
theorem dX11_holds_60 : decode cX11_holds 60 = .ok (.aload_n 0, 1) := by decide +kernel
theorem dX11_holds_61 : decode cX11_holds 61 = .ok (.getfield 292, 3) := by decide +kernel
theorem dX11_holds_64 : decode cX11_holds 64 = .ok (.if_icmp .ne 7, 3) := by decide +kernel
theorem dX11_holds_67 : decode cX11_holds 67 = .ok (.iconst 1, 1) := by decide +kernel
theorem dX11_holds_68 : decode cX11_holds 68 = .ok (.goto 4, 3) := by decide +kernel
theorem dX11_holds_71 : decode cX11_holds 71 = .ok (.iconst 0, 1) := by decide +kernel
theorem dX11_holds_72 : decode cX11_holds 72 = .ok (.istore_n 2, 1) := by decide +kernel
theorem dX11_holds_73 : decode cX11_holds 73 = .ok (.goto 91, 3) := by decide +kernel
theorem dX11_holds_76 : decode cX11_holds 76 = .ok (.aload_n 0, 1) := by decide +kernel
theorem dX11_holds_77 : decode cX11_holds 77 = .ok (.getfield 298, 3) := by decide +kernel
theorem dX11_holds_80 : decode cX11_holds 80 = .ok (.aload_n 0, 1) := by decide +kernel
theorem dX11_holds_81 : decode cX11_holds 81 = .ok (.getfield 72, 3) := by decide +kernel
theorem dX11_holds_84 : decode cX11_holds 84 = .ok (.aload_n 0, 1) := by decide +kernel
theorem dX11_holds_85 : decode cX11_holds 85 = .ok (.getfield 295, 3) := by decide +kernel
theorem dX11_holds_88 : decode cX11_holds 88 = .ok (.iaload, 1) := by decide +kernel
theorem dX11_holds_89 : decode cX11_holds 89 = .ok (.if_icmp .ne 7, 3) := by decide +kernel
theorem dX11_holds_92 : decode cX11_holds 92 = .ok (.iconst 1, 1) := by decide +kernel
theorem dX11_holds_93 : decode cX11_holds 93 = .ok (.goto 4, 3) := by decide +kernel
theorem dX11_holds_96 : decode cX11_holds 96 = .ok (.iconst 0, 1) := by decide +kernel
theorem dX11_holds_97 : decode cX11_holds 97 = .ok (.istore_n 2, 1) := by decide +kernel
theorem dX11_holds_98 : decode cX11_holds 98 = .ok (.goto 66, 3) := by decide +kernel
theorem dX11_holds_101 : decode cX11_holds 101 = .ok (.aload_n 0, 1) := by decide +kernel
theorem dX11_holds_102 : decode cX11_holds 102 = .ok (.getfield 301, 3) := by decide +kernel
theorem dX11_holds_105 : decode cX11_holds 105 = .ok (.aload_n 0, 1) := by decide +kernel
theorem dX11_holds_106 : decode cX11_holds 106 = .ok (.getfield 29, 3) := by decide +kernel
theorem dX11_holds_109 : decode cX11_holds 109 = .ok (.iload_n 1, 1) := by decide +kernel
theorem dX11_holds_110 : decode cX11_holds 110 = .ok (.iaload, 1) := by decide +kernel
theorem dX11_holds_111 : decode cX11_holds 111 = .ok (.if_icmp .ne 7, 3) := by decide +kernel
theorem dX11_holds_114 : decode cX11_holds 114 = .ok (.iconst 1, 1) := by decide +kernel
theorem dX11_holds_115 : decode cX11_holds 115 = .ok (.goto 4, 3) := by decide +kernel
theorem dX11_holds_118 : decode cX11_holds 118 = .ok (.iconst 0, 1) := by decide +kernel
theorem dX11_holds_119 : decode cX11_holds 119 = .ok (.istore_n 2, 1) := by decide +kernel
theorem dX11_holds_120 : decode cX11_holds 120 = .ok (.goto 44, 3) := by decide +kernel
theorem dX11_holds_123 : decode cX11_holds 123 = .ok (.aload_n 0, 1) := by decide +kernel
theorem dX11_holds_124 : decode cX11_holds 124 = .ok (.getfield 304, 3) := by decide +kernel
theorem dX11_holds_127 : decode cX11_holds 127 = .ok (.aload_n 0, 1) := by decide +kernel
theorem dX11_holds_128 : decode cX11_holds 128 = .ok (.getfield 29, 3) := by decide +kernel
theorem dX11_holds_131 : decode cX11_holds 131 = .ok (.iload_n 1, 1) := by decide +kernel
theorem dX11_holds_132 : decode cX11_holds 132 = .ok (.iaload, 1) := by decide +kernel
theorem dX11_holds_133 : decode cX11_holds 133 = .ok (.if_icmp .lt 7, 3) := by decide +kernel
theorem dX11_holds_136 : decode cX11_holds 136 = .ok (.iconst 1, 1) := by decide +kernel
theorem dX11_holds_137 : decode cX11_holds 137 = .ok (.goto 4, 3) := by decide +kernel
theorem dX11_holds_140 : decode cX11_holds 140 = .ok (.iconst 0, 1) := by decide +kernel
theorem dX11_holds_141 : decode cX11_holds 141 = .ok (.istore_n 2, 1) := by decide +kernel
theorem dX11_holds_142 : decode cX11_holds 142 = .ok (.goto 22, 3) := by decide +kernel
theorem dX11_holds_145 : decode cX11_holds 145 = .ok (.aload_n 0, 1) := by decide +kernel
theorem dX11_holds_146 : decode cX11_holds 146 = .ok (.getfield 75, 3) := by decide +kernel
theorem dX11_holds_149 : decode cX11_holds 149 = .ok (.aload_n 0, 1) := by decide +kernel
theorem dX11_holds_150 : decode cX11_holds 150 = .ok (.getfield 295, 3) := by decide +kernel
theorem dX11_holds_153 : decode cX11_holds 153 = .ok (.iaload, 1) := by decide +kernel
theorem dX11_holds_154 : decode cX11_holds 154 = .ok (.aload_n 0, 1) := by decide +kernel
theorem dX11_holds_155 : decode cX11_holds 155 = .ok (.getfield 29, 3) := by decide +kernel
theorem dX11_holds_158 : decode cX11_holds 158 = .ok (.iload_n 1, 1) := by decide +kernel
theorem dX11_holds_159 : decode cX11_holds 159 = .ok (.iaload, 1) := by decide +kernel
theorem dX11_holds_160 : decode cX11_holds 160 = .ok (.invokestatic 310, 3) := by decide +kernel
theorem dX11_holds_163 : decode cX11_holds 163 = .ok (.istore_n 2, 1) := by decide +kernel
theorem dX11_holds_164 : decode cX11_holds 164 = .ok (.iload_n 2, 1) := by decide +kernel
theorem dX11_holds_165 : decode cX11_holds 165 = .ok (.aload_n 0, 1) := by decide +kernel
theorem dX11_holds_166 : decode cX11_holds 166 = .ok (.getfield 32, 3) := by decide +kernel
theorem dX11_holds_169 : decode cX11_holds 169 = .ok (.iload_n 1, 1) := by decide +kernel
theorem dX11_holds_170 : decode cX11_holds 170 = .ok (.baload, 1) := by decide +kernel
theorem dX11_holds_171 : decode cX11_holds 171 = .ok (.if_icmp .eq 7, 3) := by decide +kernel
theorem dX11_holds_174 : decode cX11_holds 174 = .ok (.iconst 1, 1) := by decide +kernel
theorem dX11_holds_175 : decode cX11_holds 175 = .ok (.goto 4, 3) := by decide +kernel
theorem dX11_holds_178 : decode cX11_holds 178 = .ok (.iconst 0, 1) := by decide +kernel
theorem dX11_holds_179 : decode cX11_holds 179 = .ok (.ireturn, 1) := by decide +kernel
theorem dX11_does_0 : decode cX11_does 0 = .ok (.aload_n 0, 1) := by decide +kernel
theorem dX11_does_1 : decode cX11_does 1 = .ok (.getfield 36, 3) := by decide +kernel
theorem dX11_does_4 : decode cX11_does 4 = .ok (.iload_n 1, 1) := by decide +kernel
theorem dX11_does_5 : decode cX11_does 5 = .ok (.iaload, 1) := by decide +kernel
theorem dX11_does_6 : decode cX11_does 6 = .ok (.tableswitch 262 6 18 #[215, 262, 262, 66, 81, 96, 111, 127, 143, 150, 190, 228, 254], 66) := by decide +kernel
theorem dX11_does_72 : decode cX11_does 72 = .ok (.aload_n 0, 1) := by decide +kernel
theorem dX11_does_73 : decode cX11_does 73 = .ok (.aload_n 0, 1) := by decide +kernel
theorem dX11_does_74 : decode cX11_does 74 = .ok (.getfield 298, 3) := by decide +kernel
theorem dX11_does_77 : decode cX11_does 77 = .ok (.iconst 1, 1) := by decide +kernel
theorem dX11_does_78 : decode cX11_does 78 = .ok (.iadd, 1) := by decide +kernel
theorem dX11_does_79 : decode cX11_does 79 = .ok (.iconst 4, 1) := by decide +kernel
theorem dX11_does_80 : decode cX11_does 80 = .ok (.irem, 1) := by decide +kernel
theorem dX11_does_81 : decode cX11_does 81 = .ok (.putfield 298, 3) := by decide +kernel
theorem dX11_does_84 : decode cX11_does 84 = .ok (.goto 188, 3) := by decide +kernel
theorem dX11_does_87 : decode cX11_does 87 = .ok (.aload_n 0, 1) := by decide +kernel
theorem dX11_does_88 : decode cX11_does 88 = .ok (.aload_n 0, 1) := by decide +kernel
theorem dX11_does_89 : decode cX11_does 89 = .ok (.getfield 298, 3) := by decide +kernel
theorem dX11_does_92 : decode cX11_does 92 = .ok (.iconst 3, 1) := by decide +kernel
theorem dX11_does_93 : decode cX11_does 93 = .ok (.iadd, 1) := by decide +kernel
theorem dX11_does_94 : decode cX11_does 94 = .ok (.iconst 4, 1) := by decide +kernel
theorem dX11_does_95 : decode cX11_does 95 = .ok (.irem, 1) := by decide +kernel
theorem dX11_does_96 : decode cX11_does 96 = .ok (.putfield 298, 3) := by decide +kernel
theorem dX11_does_99 : decode cX11_does 99 = .ok (.goto 173, 3) := by decide +kernel
theorem dX11_does_102 : decode cX11_does 102 = .ok (.aload_n 0, 1) := by decide +kernel
theorem dX11_does_103 : decode cX11_does 103 = .ok (.aload_n 0, 1) := by decide +kernel
theorem dX11_does_104 : decode cX11_does 104 = .ok (.getfield 298, 3) := by decide +kernel
theorem dX11_does_107 : decode cX11_does 107 = .ok (.iconst 2, 1) := by decide +kernel
theorem dX11_does_108 : decode cX11_does 108 = .ok (.iadd, 1) := by decide +kernel
theorem dX11_does_109 : decode cX11_does 109 = .ok (.iconst 4, 1) := by decide +kernel
theorem dX11_does_110 : decode cX11_does 110 = .ok (.irem, 1) := by decide +kernel
theorem dX11_does_111 : decode cX11_does 111 = .ok (.putfield 298, 3) := by decide +kernel
theorem dX11_does_114 : decode cX11_does 114 = .ok (.goto 158, 3) := by decide +kernel
theorem dX11_does_117 : decode cX11_does 117 = .ok (.aload_n 0, 1) := by decide +kernel
theorem dX11_does_118 : decode cX11_does 118 = .ok (.aload_n 0, 1) := by decide +kernel
theorem dX11_does_119 : decode cX11_does 119 = .ok (.getfield 72, 3) := by decide +kernel
theorem dX11_does_122 : decode cX11_does 122 = .ok (.aload_n 0, 1) := by decide +kernel
theorem dX11_does_123 : decode cX11_does 123 = .ok (.getfield 295, 3) := by decide +kernel
theorem dX11_does_126 : decode cX11_does 126 = .ok (.iaload, 1) := by decide +kernel
theorem dX11_does_127 : decode cX11_does 127 = .ok (.putfield 298, 3) := by decide +kernel
theorem dX11_does_130 : decode cX11_does 130 = .ok (.goto 142, 3) := by decide +kernel
theorem dX11_does_133 : decode cX11_does 133 = .ok (.aload_n 0, 1) := by decide +kernel
theorem dX11_does_134 : decode cX11_does 134 = .ok (.getfield 72, 3) := by decide +kernel
theorem dX11_does_137 : decode cX11_does 137 = .ok (.aload_n 0, 1) := by decide +kernel
theorem dX11_does_138 : decode cX11_does 138 = .ok (.getfield 295, 3) := by decide +kernel
theorem dX11_does_141 : decode cX11_does 141 = .ok (.aload_n 0, 1) := by decide +kernel
theorem dX11_does_142 : decode cX11_does 142 = .ok (.getfield 298, 3) := by decide +kernel
theorem dX11_does_145 : decode cX11_does 145 = .ok (.iastore, 1) := by decide +kernel
theorem dX11_does_146 : decode cX11_does 146 = .ok (.goto 126, 3) := by decide +kernel
theorem dX11_does_149 : decode cX11_does 149 = .ok (.aload_n 0, 1) := by decide +kernel
theorem dX11_does_150 : decode cX11_does 150 = .ok (.invokevirtual 340, 3) := by decide +kernel
theorem dX11_does_153 : decode cX11_does 153 = .ok (.goto 119, 3) := by decide +kernel
theorem dX11_does_156 : decode cX11_does 156 = .ok (.aload_n 0, 1) := by decide +kernel
theorem dX11_does_157 : decode cX11_does 157 = .ok (.getfield 75, 3) := by decide +kernel
theorem dX11_does_160 : decode cX11_does 160 = .ok (.aload_n 0, 1) := by decide +kernel
theorem dX11_does_161 : decode cX11_does 161 = .ok (.getfield 295, 3) := by decide +kernel
theorem dX11_does_164 : decode cX11_does 164 = .ok (.dup2, 1) := by decide +kernel
theorem dX11_does_165 : decode cX11_does 165 = .ok (.iaload, 1) := by decide +kernel
theorem dX11_does_166 : decode cX11_does 166 = .ok (.aload_n 0, 1) := by decide +kernel
theorem dX11_does_167 : decode cX11_does 167 = .ok (.getfield 39, 3) := by decide +kernel
theorem dX11_does_170 : decode cX11_does 170 = .ok (.iload_n 1, 1) := by decide +kernel
theorem dX11_does_171 : decode cX11_does 171 = .ok (.iaload, 1) := by decide +kernel
theorem dX11_does_172 : decode cX11_does 172 = .ok (.aload_n 0, 1) := by decide +kernel
theorem dX11_does_173 : decode cX11_does 173 = .ok (.getfield 81, 3) := by decide +kernel
theorem dX11_does_176 : decode cX11_does 176 = .ok (.if_icmp .ne 7, 3) := by decide +kernel
theorem dX11_does_179 : decode cX11_does 179 = .ok (.iconst 0, 1) := by decide +kernel
theorem dX11_does_180 : decode cX11_does 180 = .ok (.goto 11, 3) := by decide +kernel
theorem dX11_does_183 : decode cX11_does 183 = .ok (.iconst 1, 1) := by decide +kernel
theorem dX11_does_184 : decode cX11_does 184 = .ok (.aload_n 0, 1) := by decide +kernel
theorem dX11_does_185 : decode cX11_does 185 = .ok (.getfield 39, 3) := by decide +kernel
theorem dX11_does_188 : decode cX11_does 188 = .ok (.iload_n 1, 1) := by decide +kernel
theorem dX11_does_189 : decode cX11_does 189 = .ok (.iaload, 1) := by decide +kernel
theorem dX11_does_190 : decode cX11_does 190 = .ok (.ishl, 1) := by decide +kernel
theorem dX11_does_191 : decode cX11_does 191 = .ok (.ior, 1) := by decide +kernel
theorem dX11_does_192 : decode cX11_does 192 = .ok (.iastore, 1) := by decide +kernel
theorem dX11_does_193 : decode cX11_does 193 = .ok (.goto 79, 3) := by decide +kernel
theorem dX11_does_196 : decode cX11_does 196 = .ok (.aload_n 0, 1) := by decide +kernel
theorem dX11_does_197 : decode cX11_does 197 = .ok (.getfield 75, 3) := by decide +kernel
theorem dX11_does_200 : decode cX11_does 200 = .ok (.aload_n 0, 1) := by decide +kernel
theorem dX11_does_201 : decode cX11_does 201 = .ok (.getfield 295, 3) := by decide +kernel
theorem dX11_does_204 : decode cX11_does 204 = .ok (.dup2, 1) := by decide +kernel
theorem dX11_does_205 : decode cX11_does 205 = .ok (.iaload, 1) := by decide +kernel
theorem dX11_does_206 : decode cX11_does 206 = .ok (.iconst 1, 1) := by decide +kernel
theorem dX11_does_207 : decode cX11_does 207 = .ok (.aload_n 0, 1) := by decide +kernel
theorem dX11_does_208 : decode cX11_does 208 = .ok (.getfield 39, 3) := by decide +kernel
theorem dX11_does_211 : decode cX11_does 211 = .ok (.iload_n 1, 1) := by decide +kernel
theorem dX11_does_212 : decode cX11_does 212 = .ok (.iaload, 1) := by decide +kernel
theorem dX11_does_213 : decode cX11_does 213 = .ok (.ishl, 1) := by decide +kernel
theorem dX11_does_214 : decode cX11_does 214 = .ok (.iconst (-1), 1) := by decide +kernel
theorem dX11_does_215 : decode cX11_does 215 = .ok (.ixor, 1) := by decide +kernel
theorem dX11_does_216 : decode cX11_does 216 = .ok (.iand, 1) := by decide +kernel
theorem dX11_does_217 : decode cX11_does 217 = .ok (.iastore, 1) := by decide +kernel
theorem dX11_does_218 : decode cX11_does 218 = .ok (.goto 54, 3) := by decide +kernel
theorem dX11_does_221 : decode cX11_does 221 = .ok (.aload_n 0, 1) := by decide +kernel
theorem dX11_does_222 : decode cX11_does 222 = .ok (.aload_n 0, 1) := by decide +kernel
theorem dX11_does_223 : decode cX11_does 223 = .ok (.getfield 39, 3) := by decide +kernel
theorem dX11_does_226 : decode cX11_does 226 = .ok (.iload_n 1, 1) := by decide +kernel
theorem dX11_does_227 : decode cX11_does 227 = .ok (.iaload, 1) := by decide +kernel
theorem dX11_does_228 : decode cX11_does 228 = .ok (.putfield 301, 3) := by decide +kernel
theorem dX11_does_231 : decode cX11_does 231 = .ok (.goto 41, 3) := by decide +kernel
theorem dX11_does_234 : decode cX11_does 234 = .ok (.aload_n 0, 1) := by decide +kernel
theorem dX11_does_235 : decode cX11_does 235 = .ok (.dup, 1) := by decide +kernel
theorem dX11_does_236 : decode cX11_does 236 = .ok (.getfield 304, 3) := by decide +kernel
theorem dX11_does_239 : decode cX11_does 239 = .ok (.aload_n 0, 1) := by decide +kernel
theorem dX11_does_240 : decode cX11_does 240 = .ok (.getfield 304, 3) := by decide +kernel
theorem dX11_does_243 : decode cX11_does 243 = .ok (.bipush 99, 2) := by decide +kernel
theorem dX11_does_245 : decode cX11_does 245 = .ok (.if_icmp .ge 7, 3) := by decide +kernel
theorem dX11_does_248 : decode cX11_does 248 = .ok (.iconst 1, 1) := by decide +kernel
theorem dX11_does_249 : decode cX11_does 249 = .ok (.goto 4, 3) := by decide +kernel
theorem dX11_does_252 : decode cX11_does 252 = .ok (.iconst 0, 1) := by decide +kernel
theorem dX11_does_253 : decode cX11_does 253 = .ok (.iadd, 1) := by decide +kernel
theorem dX11_does_254 : decode cX11_does 254 = .ok (.putfield 304, 3) := by decide +kernel
theorem dX11_does_257 : decode cX11_does 257 = .ok (.goto 15, 3) := by decide +kernel
theorem dX11_does_260 : decode cX11_does 260 = .ok (.aload_n 0, 1) := by decide +kernel
theorem dX11_does_261 : decode cX11_does 261 = .ok (.iconst 0, 1) := by decide +kernel
theorem dX11_does_262 : decode cX11_does 262 = .ok (.putfield 304, 3) := by decide +kernel
theorem dX11_does_265 : decode cX11_does 265 = .ok (.goto 7, 3) := by decide +kernel
theorem dX11_does_268 : decode cX11_does 268 = .ok (.aload_n 0, 1) := by decide +kernel
theorem dX11_does_269 : decode cX11_does 269 = .ok (.invokevirtual 334, 3) := by decide +kernel
theorem dX11_does_272 : decode cX11_does 272 = .ok (.return_, 1) := by decide +kernel
theorem dX11_ticks_0 : decode cX11_ticks 0 = .ok (.iconst 0, 1) := by decide +kernel
theorem dX11_ticks_1 : decode cX11_ticks 1 = .ok (.istore_n 1, 1) := by decide +kernel
theorem dX11_ticks_2 : decode cX11_ticks 2 = .ok (.iload_n 1, 1) := by decide +kernel
theorem dX11_ticks_3 : decode cX11_ticks 3 = .ok (.aload_n 0, 1) := by decide +kernel
theorem dX11_ticks_4 : decode cX11_ticks 4 = .ok (.getfield 203, 3) := by decide +kernel
theorem dX11_ticks_7 : decode cX11_ticks 7 = .ok (.if_icmp .ge 87, 3) := by decide +kernel
theorem dX11_ticks_10 : decode cX11_ticks 10 = .ok (.iconst 1, 1) := by decide +kernel
theorem dX11_ticks_11 : decode cX11_ticks 11 = .ok (.istore_n 2, 1) := by decide +kernel
theorem dX11_ticks_12 : decode cX11_ticks 12 = .ok (.bipush 12, 2) := by decide +kernel
theorem dX11_ticks_14 : decode cX11_ticks 14 = .ok (.iload_n 1, 1) := by decide +kernel
theorem dX11_ticks_15 : decode cX11_ticks 15 = .ok (.imul, 1) := by decide +kernel
theorem dX11_ticks_16 : decode cX11_ticks 16 = .ok (.istore_n 3, 1) := by decide +kernel
theorem dX11_ticks_17 : decode cX11_ticks 17 = .ok (.iload_n 3, 1) := by decide +kernel
theorem dX11_ticks_18 : decode cX11_ticks 18 = .ok (.bipush 12, 2) := by decide +kernel
theorem dX11_ticks_20 : decode cX11_ticks 20 = .ok (.iload_n 1, 1) := by decide +kernel
theorem dX11_ticks_21 : decode cX11_ticks 21 = .ok (.imul, 1) := by decide +kernel
theorem dX11_ticks_22 : decode cX11_ticks 22 = .ok (.aload_n 0, 1) := by decide +kernel
theorem dX11_ticks_23 : decode cX11_ticks 23 = .ok (.getfield 20, 3) := by decide +kernel
theorem dX11_ticks_26 : decode cX11_ticks 26 = .ok (.iload_n 1, 1) := by decide +kernel
theorem dX11_ticks_27 : decode cX11_ticks 27 = .ok (.iaload, 1) := by decide +kernel
theorem dX11_ticks_28 : decode cX11_ticks 28 = .ok (.iadd, 1) := by decide +kernel
theorem dX11_ticks_29 : decode cX11_ticks 29 = .ok (.if_icmp .ge 19, 3) := by decide +kernel
theorem dX11_ticks_32 : decode cX11_ticks 32 = .ok (.iload_n 2, 1) := by decide +kernel
theorem dX11_ticks_33 : decode cX11_ticks 33 = .ok (.ifCond .eq 15, 3) := by decide +kernel
theorem dX11_ticks_36 : decode cX11_ticks 36 = .ok (.aload_n 0, 1) := by decide +kernel
theorem dX11_ticks_37 : decode cX11_ticks 37 = .ok (.iload_n 3, 1) := by decide +kernel
theorem dX11_ticks_38 : decode cX11_ticks 38 = .ok (.invokevirtual 343, 3) := by decide +kernel
theorem dX11_ticks_41 : decode cX11_ticks 41 = .ok (.istore_n 2, 1) := by decide +kernel
theorem dX11_ticks_42 : decode cX11_ticks 42 = .ok (.iinc 3 1, 3) := by decide +kernel
theorem dX11_ticks_45 : decode cX11_ticks 45 = .ok (.goto (-28), 3) := by decide +kernel
theorem dX11_ticks_48 : decode cX11_ticks 48 = .ok (.iload_n 2, 1) := by decide +kernel
theorem dX11_ticks_49 : decode cX11_ticks 49 = .ok (.ifCond .ne 6, 3) := by decide +kernel
theorem dX11_ticks_52 : decode cX11_ticks 52 = .ok (.goto 36, 3) := by decide +kernel
theorem dX11_ticks_55 : decode cX11_ticks 55 = .ok (.bipush 12, 2) := by decide +kernel
theorem dX11_ticks_57 : decode cX11_ticks 57 = .ok (.iload_n 1, 1) := by decide +kernel
theorem dX11_ticks_58 : decode cX11_ticks 58 = .ok (.imul, 1) := by decide +kernel
theorem dX11_ticks_59 : decode cX11_ticks 59 = .ok (.istore_n 3, 1) := by decide +kernel
theorem dX11_ticks_60 : decode cX11_ticks 60 = .ok (.iload_n 3, 1) := by decide +kernel
theorem dX11_ticks_61 : decode cX11_ticks 61 = .ok (.bipush 12, 2) := by decide +kernel
theorem dX11_ticks_63 : decode cX11_ticks 63 = .ok (.iload_n 1, 1) := by decide +kernel
theorem dX11_ticks_64 : decode cX11_ticks 64 = .ok (.imul, 1) := by decide +kernel
theorem dX11_ticks_65 : decode cX11_ticks 65 = .ok (.aload_n 0, 1) := by decide +kernel
theorem dX11_ticks_66 : decode cX11_ticks 66 = .ok (.getfield 23, 3) := by decide +kernel
theorem dX11_ticks_69 : decode cX11_ticks 69 = .ok (.iload_n 1, 1) := by decide +kernel
theorem dX11_ticks_70 : decode cX11_ticks 70 = .ok (.iaload, 1) := by decide +kernel
theorem dX11_ticks_71 : decode cX11_ticks 71 = .ok (.iadd, 1) := by decide +kernel
theorem dX11_ticks_72 : decode cX11_ticks 72 = .ok (.if_icmp .ge 14, 3) := by decide +kernel
theorem dX11_ticks_75 : decode cX11_ticks 75 = .ok (.aload_n 0, 1) := by decide +kernel
theorem dX11_ticks_76 : decode cX11_ticks 76 = .ok (.iload_n 3, 1) := by decide +kernel
theorem dX11_ticks_77 : decode cX11_ticks 77 = .ok (.invokevirtual 346, 3) := by decide +kernel
theorem dX11_ticks_80 : decode cX11_ticks 80 = .ok (.iinc 3 1, 3) := by decide +kernel
theorem dX11_ticks_83 : decode cX11_ticks 83 = .ok (.goto (-23), 3) := by decide +kernel
theorem dX11_ticks_86 : decode cX11_ticks 86 = .ok (.iload_n 1, 1) := by decide +kernel
theorem dX11_ticks_87 : decode cX11_ticks 87 = .ok (.ireturn, 1) := by decide +kernel
theorem dX11_ticks_88 : decode cX11_ticks 88 = .ok (.iinc 1 1, 3) := by decide +kernel
theorem dX11_ticks_91 : decode cX11_ticks 91 = .ok (.goto (-89), 3) := by decide +kernel
theorem dX11_ticks_94 : decode cX11_ticks 94 = .ok (.iconst (-1), 1) := by decide +kernel
theorem dX11_ticks_95 : decode cX11_ticks 95 = .ok (.ireturn, 1) := by decide +kernel
theorem dX11_tick_0 : decode cX11_tick 0 = .ok (.aload_n 0, 1) := by decide +kernel
theorem dX11_tick_1 : decode cX11_tick 1 = .ok (.iconst 0, 1) := by decide +kernel
theorem dX11_tick_2 : decode cX11_tick 2 = .ok (.putfield 130, 3) := by decide +kernel
theorem dX11_tick_5 : decode cX11_tick 5 = .ok (.iload_n 1, 1) := by decide +kernel
theorem dX11_tick_6 : decode cX11_tick 6 = .ok (.iconst 0, 1) := by decide +kernel
theorem dX11_tick_7 : decode cX11_tick 7 = .ok (.sipush 5000, 3) := by decide +kernel
theorem dX11_tick_10 : decode cX11_tick 10 = .ok (.invokestatic 317, 3) := by decide +kernel
theorem dX11_tick_13 : decode cX11_tick 13 = .ok (.ifCond .ne 5, 3) := by decide +kernel
theorem dX11_tick_16 : decode cX11_tick 16 = .ok (.iconst (-1), 1) := by decide +kernel
theorem dX11_tick_17 : decode cX11_tick 17 = .ok (.ireturn, 1) := by decide +kernel
theorem dX11_tick_18 : decode cX11_tick 18 = .ok (.iconst 0, 1) := by decide +kernel
theorem dX11_tick_19 : decode cX11_tick 19 = .ok (.istore_n 2, 1) := by decide +kernel
theorem dX11_tick_20 : decode cX11_tick 20 = .ok (.iconst 0, 1) := by decide +kernel
theorem dX11_tick_21 : decode cX11_tick 21 = .ok (.istore_n 3, 1) := by decide +kernel
theorem dX11_tick_22 : decode cX11_tick 22 = .ok (.iload_n 3, 1) := by decide +kernel
theorem dX11_tick_23 : decode cX11_tick 23 = .ok (.iload_n 1, 1) := by decide +kernel
theorem dX11_tick_24 : decode cX11_tick 24 = .ok (.if_icmp .ge 32, 3) := by decide +kernel
theorem dX11_tick_27 : decode cX11_tick 27 = .ok (.aload_n 0, 1) := by decide +kernel
theorem dX11_tick_28 : decode cX11_tick 28 = .ok (.aload_n 0, 1) := by decide +kernel
theorem dX11_tick_29 : decode cX11_tick 29 = .ok (.invokevirtual 349, 3) := by decide +kernel
theorem dX11_tick_32 : decode cX11_tick 32 = .ok (.putfield 78, 3) := by decide +kernel
theorem dX11_tick_35 : decode cX11_tick 35 = .ok (.iload_n 2, 1) := by decide +kernel
theorem dX11_tick_36 : decode cX11_tick 36 = .ok (.aload_n 0, 1) := by decide +kernel
theorem dX11_tick_37 : decode cX11_tick 37 = .ok (.getfield 78, 3) := by decide +kernel
theorem dX11_tick_40 : decode cX11_tick 40 = .ok (.ifCond .lt 7, 3) := by decide +kernel
theorem dX11_tick_43 : decode cX11_tick 43 = .ok (.iconst 1, 1) := by decide +kernel
theorem dX11_tick_44 : decode cX11_tick 44 = .ok (.goto 4, 3) := by decide +kernel
theorem dX11_tick_47 : decode cX11_tick 47 = .ok (.iconst 0, 1) := by decide +kernel
theorem dX11_tick_48 : decode cX11_tick 48 = .ok (.iadd, 1) := by decide +kernel
theorem dX11_tick_49 : decode cX11_tick 49 = .ok (.istore_n 2, 1) := by decide +kernel
theorem dX11_tick_50 : decode cX11_tick 50 = .ok (.iinc 3 1, 3) := by decide +kernel
theorem dX11_tick_53 : decode cX11_tick 53 = .ok (.goto (-31), 3) := by decide +kernel
theorem dX11_tick_56 : decode cX11_tick 56 = .ok (.iload_n 2, 1) := by decide +kernel
theorem dX11_tick_57 : decode cX11_tick 57 = .ok (.ireturn, 1) := by decide +kernel
theorem dX11_run_0 : decode cX11_run 0 = .ok (.aload_n 0, 1) := by decide +kernel
theorem dX11_run_1 : decode cX11_run 1 = .ok (.iconst 0, 1) := by decide +kernel
theorem dX11_run_2 : decode cX11_run 2 = .ok (.putfield 130, 3) := by decide +kernel
theorem dX11_run_5 : decode cX11_run 5 = .ok (.iload_n 1, 1) := by decide +kernel
theorem dX11_run_6 : decode cX11_run 6 = .ok (.iconst 0, 1) := by decide +kernel
theorem dX11_run_7 : decode cX11_run 7 = .ok (.sipush 5000, 3) := by decide +kernel
theorem dX11_run_10 : decode cX11_run 10 = .ok (.invokestatic 317, 3) := by decide +kernel
theorem dX11_run_13 : decode cX11_run 13 = .ok (.ifCond .ne 5, 3) := by decide +kernel
theorem dX11_run_16 : decode cX11_run 16 = .ok (.iconst (-1), 1) := by decide +kernel
theorem dX11_run_17 : decode cX11_run 17 = .ok (.ireturn, 1) := by decide +kernel
theorem dX11_run_18 : decode cX11_run 18 = .ok (.iconst 0, 1) := by decide +kernel
theorem dX11_run_19 : decode cX11_run 19 = .ok (.istore_n 2, 1) := by decide +kernel
theorem dX11_run_20 : decode cX11_run 20 = .ok (.aload_n 0, 1) := by decide +kernel
theorem dX11_run_21 : decode cX11_run 21 = .ok (.getfield 295, 3) := by decide +kernel
theorem dX11_run_24 : decode cX11_run 24 = .ok (.aload_n 0, 1) := by decide +kernel
theorem dX11_run_25 : decode cX11_run 25 = .ok (.getfield 292, 3) := by decide +kernel
theorem dX11_run_28 : decode cX11_run 28 = .ok (.if_icmp .eq 25, 3) := by decide +kernel
theorem dX11_run_31 : decode cX11_run 31 = .ok (.iload_n 2, 1) := by decide +kernel
theorem dX11_run_32 : decode cX11_run 32 = .ok (.iload_n 1, 1) := by decide +kernel
theorem dX11_run_33 : decode cX11_run 33 = .ok (.if_icmp .ne 6, 3) := by decide +kernel
theorem dX11_run_36 : decode cX11_run 36 = .ok (.bipush (-2), 2) := by decide +kernel
theorem dX11_run_38 : decode cX11_run 38 = .ok (.ireturn, 1) := by decide +kernel
theorem dX11_run_39 : decode cX11_run 39 = .ok (.aload_n 0, 1) := by decide +kernel
theorem dX11_run_40 : decode cX11_run 40 = .ok (.aload_n 0, 1) := by decide +kernel
theorem dX11_run_41 : decode cX11_run 41 = .ok (.invokevirtual 349, 3) := by decide +kernel
theorem dX11_run_44 : decode cX11_run 44 = .ok (.putfield 78, 3) := by decide +kernel
theorem dX11_run_47 : decode cX11_run 47 = .ok (.iinc 2 1, 3) := by decide +kernel
theorem dX11_run_50 : decode cX11_run 50 = .ok (.goto (-30), 3) := by decide +kernel
theorem dX11_run_53 : decode cX11_run 53 = .ok (.iload_n 2, 1) := by decide +kernel
theorem dX11_run_54 : decode cX11_run 54 = .ok (.ireturn, 1) := by decide +kernel
theorem dX11_comesIn_0 : decode cX11_comesIn 0 = .ok (.iconst 0, 1) := by decide +kernel
theorem dX11_comesIn_1 : decode cX11_comesIn 1 = .ok (.istore_n 2, 1) := by decide +kernel
theorem dX11_comesIn_2 : decode cX11_comesIn 2 = .ok (.aload_n 0, 1) := by decide +kernel
theorem dX11_comesIn_3 : decode cX11_comesIn 3 = .ok (.getfield 295, 3) := by decide +kernel
theorem dX11_comesIn_6 : decode cX11_comesIn 6 = .ok (.aload_n 0, 1) := by decide +kernel
theorem dX11_comesIn_7 : decode cX11_comesIn 7 = .ok (.getfield 292, 3) := by decide +kernel
theorem dX11_comesIn_10 : decode cX11_comesIn 10 = .ok (.if_icmp .eq 22, 3) := by decide +kernel
theorem dX11_comesIn_13 : decode cX11_comesIn 13 = .ok (.iload_n 2, 1) := by decide +kernel
theorem dX11_comesIn_14 : decode cX11_comesIn 14 = .ok (.iload_n 1, 1) := by decide +kernel
theorem dX11_comesIn_15 : decode cX11_comesIn 15 = .ok (.if_icmp .ne 6, 3) := by decide +kernel
theorem dX11_comesIn_18 : decode cX11_comesIn 18 = .ok (.bipush (-2), 2) := by decide +kernel
theorem dX11_comesIn_20 : decode cX11_comesIn 20 = .ok (.ireturn, 1) := by decide +kernel
theorem dX11_comesIn_21 : decode cX11_comesIn 21 = .ok (.aload_n 0, 1) := by decide +kernel
theorem dX11_comesIn_22 : decode cX11_comesIn 22 = .ok (.invokevirtual 349, 3) := by decide +kernel
theorem dX11_comesIn_25 : decode cX11_comesIn 25 = .ok (.istore_n 3, 1) := by decide +kernel
theorem dX11_comesIn_26 : decode cX11_comesIn 26 = .ok (.iinc 2 1, 3) := by decide +kernel
theorem dX11_comesIn_29 : decode cX11_comesIn 29 = .ok (.goto (-27), 3) := by decide +kernel
theorem dX11_comesIn_32 : decode cX11_comesIn 32 = .ok (.iload_n 2, 1) := by decide +kernel
theorem dX11_comesIn_33 : decode cX11_comesIn 33 = .ok (.ireturn, 1) := by decide +kernel
theorem dX11_mouse_0 : decode cX11_mouse 0 = .ok (.aload_n 0, 1) := by decide +kernel
theorem dX11_mouse_1 : decode cX11_mouse 1 = .ok (.iconst 0, 1) := by decide +kernel
theorem dX11_mouse_2 : decode cX11_mouse 2 = .ok (.putfield 130, 3) := by decide +kernel
theorem dX11_mouse_5 : decode cX11_mouse 5 = .ok (.iload_n 1, 1) := by decide +kernel
theorem dX11_mouse_6 : decode cX11_mouse 6 = .ok (.tableswitch 59 0 4 #[34, 39, 44, 49, 54], 34) := by decide +kernel
theorem dX11_mouse_40 : decode cX11_mouse 40 = .ok (.aload_n 0, 1) := by decide +kernel
theorem dX11_mouse_41 : decode cX11_mouse 41 = .ok (.getfield 295, 3) := by decide +kernel
theorem dX11_mouse_44 : decode cX11_mouse 44 = .ok (.ireturn, 1) := by decide +kernel
theorem dX11_mouse_45 : decode cX11_mouse 45 = .ok (.aload_n 0, 1) := by decide +kernel
theorem dX11_mouse_46 : decode cX11_mouse 46 = .ok (.getfield 298, 3) := by decide +kernel
theorem dX11_mouse_49 : decode cX11_mouse 49 = .ok (.ireturn, 1) := by decide +kernel
theorem dX11_mouse_50 : decode cX11_mouse 50 = .ok (.aload_n 0, 1) := by decide +kernel
theorem dX11_mouse_51 : decode cX11_mouse 51 = .ok (.getfield 301, 3) := by decide +kernel
theorem dX11_mouse_54 : decode cX11_mouse 54 = .ok (.ireturn, 1) := by decide +kernel
theorem dX11_mouse_55 : decode cX11_mouse 55 = .ok (.aload_n 0, 1) := by decide +kernel
theorem dX11_mouse_56 : decode cX11_mouse 56 = .ok (.getfield 304, 3) := by decide +kernel
theorem dX11_mouse_59 : decode cX11_mouse 59 = .ok (.ireturn, 1) := by decide +kernel
theorem dX11_mouse_60 : decode cX11_mouse 60 = .ok (.aload_n 0, 1) := by decide +kernel
theorem dX11_mouse_61 : decode cX11_mouse 61 = .ok (.getfield 78, 3) := by decide +kernel
theorem dX11_mouse_64 : decode cX11_mouse 64 = .ok (.ireturn, 1) := by decide +kernel
theorem dX11_mouse_65 : decode cX11_mouse 65 = .ok (.iconst (-1), 1) := by decide +kernel
theorem dX11_mouse_66 : decode cX11_mouse 66 = .ok (.ireturn, 1) := by decide +kernel
theorem dX11_fails_0 : decode cX11_fails 0 = .ok (.aload_n 0, 1) := by decide +kernel
theorem dX11_fails_1 : decode cX11_fails 1 = .ok (.iload_n 1, 1) := by decide +kernel
theorem dX11_fails_2 : decode cX11_fails 2 = .ok (.putfield 130, 3) := by decide +kernel
theorem dX11_fails_5 : decode cX11_fails 5 = .ok (.iconst 0, 1) := by decide +kernel
theorem dX11_fails_6 : decode cX11_fails 6 = .ok (.ireturn, 1) := by decide +kernel
theorem dX11_layFar_0 : decode cX11_layFar 0 = .ok (.iconst 0, 1) := by decide +kernel
theorem dX11_layFar_1 : decode cX11_layFar 1 = .ok (.istore_n 1, 1) := by decide +kernel
theorem dX11_layFar_2 : decode cX11_layFar 2 = .ok (.iload_n 1, 1) := by decide +kernel
theorem dX11_layFar_3 : decode cX11_layFar 3 = .ok (.bipush 36, 2) := by decide +kernel
theorem dX11_layFar_5 : decode cX11_layFar 5 = .ok (.if_icmp .ge 16, 3) := by decide +kernel
theorem dX11_layFar_8 : decode cX11_layFar 8 = .ok (.aload_n 0, 1) := by decide +kernel
theorem dX11_layFar_9 : decode cX11_layFar 9 = .ok (.getfield 84, 3) := by decide +kernel
theorem dX11_layFar_12 : decode cX11_layFar 12 = .ok (.iload_n 1, 1) := by decide +kernel
theorem dX11_layFar_13 : decode cX11_layFar 13 = .ok (.iconst (-1), 1) := by decide +kernel
theorem dX11_layFar_14 : decode cX11_layFar 14 = .ok (.iastore, 1) := by decide +kernel
theorem dX11_layFar_15 : decode cX11_layFar 15 = .ok (.iinc 1 1, 3) := by decide +kernel
theorem dX11_layFar_18 : decode cX11_layFar 18 = .ok (.goto (-16), 3) := by decide +kernel
theorem dX11_layFar_21 : decode cX11_layFar 21 = .ok (.aload_n 0, 1) := by decide +kernel
theorem dX11_layFar_22 : decode cX11_layFar 22 = .ok (.getfield 84, 3) := by decide +kernel
theorem dX11_layFar_25 : decode cX11_layFar 25 = .ok (.aload_n 0, 1) := by decide +kernel
theorem dX11_layFar_26 : decode cX11_layFar 26 = .ok (.getfield 292, 3) := by decide +kernel
theorem dX11_layFar_29 : decode cX11_layFar 29 = .ok (.iconst 0, 1) := by decide +kernel
theorem dX11_layFar_30 : decode cX11_layFar 30 = .ok (.iastore, 1) := by decide +kernel
theorem dX11_layFar_31 : decode cX11_layFar 31 = .ok (.aload_n 0, 1) := by decide +kernel
theorem dX11_layFar_32 : decode cX11_layFar 32 = .ok (.getfield 87, 3) := by decide +kernel
theorem dX11_layFar_35 : decode cX11_layFar 35 = .ok (.iconst 0, 1) := by decide +kernel
theorem dX11_layFar_36 : decode cX11_layFar 36 = .ok (.aload_n 0, 1) := by decide +kernel
theorem dX11_layFar_37 : decode cX11_layFar 37 = .ok (.getfield 292, 3) := by decide +kernel
theorem dX11_layFar_40 : decode cX11_layFar 40 = .ok (.iastore, 1) := by decide +kernel
theorem dX11_layFar_41 : decode cX11_layFar 41 = .ok (.iconst 1, 1) := by decide +kernel
theorem dX11_layFar_42 : decode cX11_layFar 42 = .ok (.istore_n 1, 1) := by decide +kernel
theorem dX11_layFar_43 : decode cX11_layFar 43 = .ok (.iconst 0, 1) := by decide +kernel
theorem dX11_layFar_44 : decode cX11_layFar 44 = .ok (.istore_n 2, 1) := by decide +kernel
theorem dX11_layFar_45 : decode cX11_layFar 45 = .ok (.iload_n 2, 1) := by decide +kernel
theorem dX11_layFar_46 : decode cX11_layFar 46 = .ok (.iload_n 1, 1) := by decide +kernel
theorem dX11_layFar_47 : decode cX11_layFar 47 = .ok (.if_icmp .ge 97, 3) := by decide +kernel
theorem dX11_layFar_50 : decode cX11_layFar 50 = .ok (.iconst 0, 1) := by decide +kernel
theorem dX11_layFar_51 : decode cX11_layFar 51 = .ok (.istore_n 3, 1) := by decide +kernel
theorem dX11_layFar_52 : decode cX11_layFar 52 = .ok (.iload_n 3, 1) := by decide +kernel
theorem dX11_layFar_53 : decode cX11_layFar 53 = .ok (.iconst 4, 1) := by decide +kernel
theorem dX11_layFar_54 : decode cX11_layFar 54 = .ok (.if_icmp .ge 84, 3) := by decide +kernel
theorem dX11_layFar_57 : decode cX11_layFar 57 = .ok (.aload_n 0, 1) := by decide +kernel
theorem dX11_layFar_58 : decode cX11_layFar 58 = .ok (.aload_n 0, 1) := by decide +kernel
theorem dX11_layFar_59 : decode cX11_layFar 59 = .ok (.getfield 87, 3) := by decide +kernel
theorem dX11_layFar_62 : decode cX11_layFar 62 = .ok (.iload_n 2, 1) := by decide +kernel
theorem dX11_layFar_63 : decode cX11_layFar 63 = .ok (.iaload, 1) := by decide +kernel
theorem dX11_layFar_64 : decode cX11_layFar 64 = .ok (.iload_n 3, 1) := by decide +kernel
theorem dX11_layFar_65 : decode cX11_layFar 65 = .ok (.invokevirtual 327, 3) := by decide +kernel
theorem dX11_layFar_68 : decode cX11_layFar 68 = .ok (.ifCond .eq 6, 3) := by decide +kernel
theorem dX11_layFar_71 : decode cX11_layFar 71 = .ok (.goto 61, 3) := by decide +kernel
theorem dX11_layFar_74 : decode cX11_layFar 74 = .ok (.aload_n 0, 1) := by decide +kernel
theorem dX11_layFar_75 : decode cX11_layFar 75 = .ok (.aload_n 0, 1) := by decide +kernel
theorem dX11_layFar_76 : decode cX11_layFar 76 = .ok (.getfield 87, 3) := by decide +kernel
theorem dX11_layFar_79 : decode cX11_layFar 79 = .ok (.iload_n 2, 1) := by decide +kernel
theorem dX11_layFar_80 : decode cX11_layFar 80 = .ok (.iaload, 1) := by decide +kernel
theorem dX11_layFar_81 : decode cX11_layFar 81 = .ok (.iload_n 3, 1) := by decide +kernel
theorem dX11_layFar_82 : decode cX11_layFar 82 = .ok (.invokevirtual 314, 3) := by decide +kernel
theorem dX11_layFar_85 : decode cX11_layFar 85 = .ok (.istore 4, 2) := by decide +kernel
theorem dX11_layFar_87 : decode cX11_layFar 87 = .ok (.aload_n 0, 1) := by decide +kernel
theorem dX11_layFar_88 : decode cX11_layFar 88 = .ok (.getfield 84, 3) := by decide +kernel
theorem dX11_layFar_91 : decode cX11_layFar 91 = .ok (.iload 4, 2) := by decide +kernel
theorem dX11_layFar_93 : decode cX11_layFar 93 = .ok (.iaload, 1) := by decide +kernel
theorem dX11_layFar_94 : decode cX11_layFar 94 = .ok (.iconst (-1), 1) := by decide +kernel
theorem dX11_layFar_95 : decode cX11_layFar 95 = .ok (.if_icmp .eq 6, 3) := by decide +kernel
theorem dX11_layFar_98 : decode cX11_layFar 98 = .ok (.goto 34, 3) := by decide +kernel
theorem dX11_layFar_101 : decode cX11_layFar 101 = .ok (.aload_n 0, 1) := by decide +kernel
theorem dX11_layFar_102 : decode cX11_layFar 102 = .ok (.getfield 84, 3) := by decide +kernel
theorem dX11_layFar_105 : decode cX11_layFar 105 = .ok (.iload 4, 2) := by decide +kernel
theorem dX11_layFar_107 : decode cX11_layFar 107 = .ok (.aload_n 0, 1) := by decide +kernel
theorem dX11_layFar_108 : decode cX11_layFar 108 = .ok (.getfield 84, 3) := by decide +kernel
theorem dX11_layFar_111 : decode cX11_layFar 111 = .ok (.aload_n 0, 1) := by decide +kernel
theorem dX11_layFar_112 : decode cX11_layFar 112 = .ok (.getfield 87, 3) := by decide +kernel
theorem dX11_layFar_115 : decode cX11_layFar 115 = .ok (.iload_n 2, 1) := by decide +kernel
theorem dX11_layFar_116 : decode cX11_layFar 116 = .ok (.iaload, 1) := by decide +kernel
theorem dX11_layFar_117 : decode cX11_layFar 117 = .ok (.iaload, 1) := by decide +kernel
theorem dX11_layFar_118 : decode cX11_layFar 118 = .ok (.iconst 1, 1) := by decide +kernel
theorem dX11_layFar_119 : decode cX11_layFar 119 = .ok (.iadd, 1) := by decide +kernel
theorem dX11_layFar_120 : decode cX11_layFar 120 = .ok (.iastore, 1) := by decide +kernel
theorem dX11_layFar_121 : decode cX11_layFar 121 = .ok (.aload_n 0, 1) := by decide +kernel
theorem dX11_layFar_122 : decode cX11_layFar 122 = .ok (.getfield 87, 3) := by decide +kernel
theorem dX11_layFar_125 : decode cX11_layFar 125 = .ok (.iload_n 1, 1) := by decide +kernel
theorem dX11_layFar_126 : decode cX11_layFar 126 = .ok (.iload 4, 2) := by decide +kernel
theorem dX11_layFar_128 : decode cX11_layFar 128 = .ok (.iastore, 1) := by decide +kernel
theorem dX11_layFar_129 : decode cX11_layFar 129 = .ok (.iinc 1 1, 3) := by decide +kernel
theorem dX11_layFar_132 : decode cX11_layFar 132 = .ok (.iinc 3 1, 3) := by decide +kernel
theorem dX11_layFar_135 : decode cX11_layFar 135 = .ok (.goto (-83), 3) := by decide +kernel
theorem dX11_layFar_138 : decode cX11_layFar 138 = .ok (.iinc 2 1, 3) := by decide +kernel
theorem dX11_layFar_141 : decode cX11_layFar 141 = .ok (.goto (-96), 3) := by decide +kernel
theorem dX11_layFar_144 : decode cX11_layFar 144 = .ok (.return_, 1) := by decide +kernel
theorem dX11_look_0 : decode cX11_look 0 = .ok (.aload_n 0, 1) := by decide +kernel
theorem dX11_look_1 : decode cX11_look 1 = .ok (.iconst 0, 1) := by decide +kernel
theorem dX11_look_2 : decode cX11_look 2 = .ok (.putfield 130, 3) := by decide +kernel
theorem dX11_look_5 : decode cX11_look 5 = .ok (.aload_n 0, 1) := by decide +kernel
theorem dX11_look_6 : decode cX11_look 6 = .ok (.iload_n 1, 1) := by decide +kernel
theorem dX11_look_7 : decode cX11_look 7 = .ok (.invokevirtual 321, 3) := by decide +kernel
theorem dX11_look_10 : decode cX11_look 10 = .ok (.ifCond .ne 9, 3) := by decide +kernel
theorem dX11_look_13 : decode cX11_look 13 = .ok (.aload_n 0, 1) := by decide +kernel
theorem dX11_look_14 : decode cX11_look 14 = .ok (.iconst 1, 1) := by decide +kernel
theorem dX11_look_15 : decode cX11_look 15 = .ok (.invokevirtual 352, 3) := by decide +kernel
theorem dX11_look_18 : decode cX11_look 18 = .ok (.ireturn, 1) := by decide +kernel
theorem dX11_look_19 : decode cX11_look 19 = .ok (.iload_n 2, 1) := by decide +kernel
theorem dX11_look_20 : decode cX11_look 20 = .ok (.tableswitch 64 0 3 #[32, 39, 46, 53], 32) := by decide +kernel
theorem dX11_look_52 : decode cX11_look 52 = .ok (.aload_n 0, 1) := by decide +kernel
theorem dX11_look_53 : decode cX11_look 53 = .ok (.getfield 72, 3) := by decide +kernel
theorem dX11_look_56 : decode cX11_look 56 = .ok (.iload_n 1, 1) := by decide +kernel
theorem dX11_look_57 : decode cX11_look 57 = .ok (.iaload, 1) := by decide +kernel
theorem dX11_look_58 : decode cX11_look 58 = .ok (.ireturn, 1) := by decide +kernel
theorem dX11_look_59 : decode cX11_look 59 = .ok (.aload_n 0, 1) := by decide +kernel
theorem dX11_look_60 : decode cX11_look 60 = .ok (.getfield 75, 3) := by decide +kernel
theorem dX11_look_63 : decode cX11_look 63 = .ok (.iload_n 1, 1) := by decide +kernel
theorem dX11_look_64 : decode cX11_look 64 = .ok (.iaload, 1) := by decide +kernel
theorem dX11_look_65 : decode cX11_look 65 = .ok (.ireturn, 1) := by decide +kernel
theorem dX11_look_66 : decode cX11_look 66 = .ok (.aload_n 0, 1) := by decide +kernel
theorem dX11_look_67 : decode cX11_look 67 = .ok (.getfield 69, 3) := by decide +kernel
theorem dX11_look_70 : decode cX11_look 70 = .ok (.iload_n 1, 1) := by decide +kernel
theorem dX11_look_71 : decode cX11_look 71 = .ok (.iaload, 1) := by decide +kernel
theorem dX11_look_72 : decode cX11_look 72 = .ok (.ireturn, 1) := by decide +kernel
theorem dX11_look_73 : decode cX11_look 73 = .ok (.aload_n 0, 1) := by decide +kernel
theorem dX11_look_74 : decode cX11_look 74 = .ok (.invokevirtual 355, 3) := by decide +kernel
theorem dX11_look_77 : decode cX11_look 77 = .ok (.aload_n 0, 1) := by decide +kernel
theorem dX11_look_78 : decode cX11_look 78 = .ok (.getfield 84, 3) := by decide +kernel
theorem dX11_look_81 : decode cX11_look 81 = .ok (.iload_n 1, 1) := by decide +kernel
theorem dX11_look_82 : decode cX11_look 82 = .ok (.iaload, 1) := by decide +kernel
theorem dX11_look_83 : decode cX11_look 83 = .ok (.ireturn, 1) := by decide +kernel
theorem dX11_look_84 : decode cX11_look 84 = .ok (.aload_n 0, 1) := by decide +kernel
theorem dX11_look_85 : decode cX11_look 85 = .ok (.iconst 2, 1) := by decide +kernel
theorem dX11_look_86 : decode cX11_look 86 = .ok (.invokevirtual 352, 3) := by decide +kernel
theorem dX11_look_89 : decode cX11_look 89 = .ok (.ireturn, 1) := by decide +kernel
theorem dX11_puts_0 : decode cX11_puts 0 = .ok (.bipush 120, 2) := by decide +kernel
theorem dX11_puts_2 : decode cX11_puts 2 = .ok (.iload_n 1, 1) := by decide +kernel
theorem dX11_puts_3 : decode cX11_puts 3 = .ok (.imul, 1) := by decide +kernel
theorem dX11_puts_4 : decode cX11_puts 4 = .ok (.istore_n 2, 1) := by decide +kernel
theorem dX11_puts_5 : decode cX11_puts 5 = .ok (.aload_n 0, 1) := by decide +kernel
theorem dX11_puts_6 : decode cX11_puts 6 = .ok (.getfield 93, 3) := by decide +kernel
theorem dX11_puts_9 : decode cX11_puts 9 = .ok (.iload_n 2, 1) := by decide +kernel
theorem dX11_puts_10 : decode cX11_puts 10 = .ok (.aload_n 0, 1) := by decide +kernel
theorem dX11_puts_11 : decode cX11_puts 11 = .ok (.getfield 283, 3) := by decide +kernel
theorem dX11_puts_14 : decode cX11_puts 14 = .ok (.iastore, 1) := by decide +kernel
theorem dX11_puts_15 : decode cX11_puts 15 = .ok (.aload_n 0, 1) := by decide +kernel
theorem dX11_puts_16 : decode cX11_puts 16 = .ok (.getfield 93, 3) := by decide +kernel
theorem dX11_puts_19 : decode cX11_puts 19 = .ok (.iload_n 2, 1) := by decide +kernel
theorem dX11_puts_20 : decode cX11_puts 20 = .ok (.iconst 1, 1) := by decide +kernel
theorem dX11_puts_21 : decode cX11_puts 21 = .ok (.iadd, 1) := by decide +kernel
theorem dX11_puts_22 : decode cX11_puts 22 = .ok (.aload_n 0, 1) := by decide +kernel
theorem dX11_puts_23 : decode cX11_puts 23 = .ok (.getfield 286, 3) := by decide +kernel
theorem dX11_puts_26 : decode cX11_puts 26 = .ok (.iastore, 1) := by decide +kernel
theorem dX11_puts_27 : decode cX11_puts 27 = .ok (.aload_n 0, 1) := by decide +kernel
theorem dX11_puts_28 : decode cX11_puts 28 = .ok (.getfield 93, 3) := by decide +kernel
theorem dX11_puts_31 : decode cX11_puts 31 = .ok (.iload_n 2, 1) := by decide +kernel
theorem dX11_puts_32 : decode cX11_puts 32 = .ok (.iconst 2, 1) := by decide +kernel
theorem dX11_puts_33 : decode cX11_puts 33 = .ok (.iadd, 1) := by decide +kernel
theorem dX11_puts_34 : decode cX11_puts 34 = .ok (.aload_n 0, 1) := by decide +kernel
theorem dX11_puts_35 : decode cX11_puts 35 = .ok (.getfield 292, 3) := by decide +kernel
theorem dX11_puts_38 : decode cX11_puts 38 = .ok (.iastore, 1) := by decide +kernel
theorem dX11_puts_39 : decode cX11_puts 39 = .ok (.aload_n 0, 1) := by decide +kernel
theorem dX11_puts_40 : decode cX11_puts 40 = .ok (.getfield 93, 3) := by decide +kernel
theorem dX11_puts_43 : decode cX11_puts 43 = .ok (.iload_n 2, 1) := by decide +kernel
theorem dX11_puts_44 : decode cX11_puts 44 = .ok (.iconst 3, 1) := by decide +kernel
theorem dX11_puts_45 : decode cX11_puts 45 = .ok (.iadd, 1) := by decide +kernel
theorem dX11_puts_46 : decode cX11_puts 46 = .ok (.aload_n 0, 1) := by decide +kernel
theorem dX11_puts_47 : decode cX11_puts 47 = .ok (.getfield 295, 3) := by decide +kernel
theorem dX11_puts_50 : decode cX11_puts 50 = .ok (.iastore, 1) := by decide +kernel
theorem dX11_puts_51 : decode cX11_puts 51 = .ok (.aload_n 0, 1) := by decide +kernel
theorem dX11_puts_52 : decode cX11_puts 52 = .ok (.getfield 93, 3) := by decide +kernel
theorem dX11_puts_55 : decode cX11_puts 55 = .ok (.iload_n 2, 1) := by decide +kernel
theorem dX11_puts_56 : decode cX11_puts 56 = .ok (.iconst 4, 1) := by decide +kernel
theorem dX11_puts_57 : decode cX11_puts 57 = .ok (.iadd, 1) := by decide +kernel
theorem dX11_puts_58 : decode cX11_puts 58 = .ok (.aload_n 0, 1) := by decide +kernel
theorem dX11_puts_59 : decode cX11_puts 59 = .ok (.getfield 298, 3) := by decide +kernel
theorem dX11_puts_62 : decode cX11_puts 62 = .ok (.iastore, 1) := by decide +kernel
theorem dX11_puts_63 : decode cX11_puts 63 = .ok (.aload_n 0, 1) := by decide +kernel
theorem dX11_puts_64 : decode cX11_puts 64 = .ok (.getfield 93, 3) := by decide +kernel
theorem dX11_puts_67 : decode cX11_puts 67 = .ok (.iload_n 2, 1) := by decide +kernel
theorem dX11_puts_68 : decode cX11_puts 68 = .ok (.iconst 5, 1) := by decide +kernel
theorem dX11_puts_69 : decode cX11_puts 69 = .ok (.iadd, 1) := by decide +kernel
theorem dX11_puts_70 : decode cX11_puts 70 = .ok (.aload_n 0, 1) := by decide +kernel
theorem dX11_puts_71 : decode cX11_puts 71 = .ok (.getfield 301, 3) := by decide +kernel
theorem dX11_puts_74 : decode cX11_puts 74 = .ok (.iastore, 1) := by decide +kernel
theorem dX11_puts_75 : decode cX11_puts 75 = .ok (.aload_n 0, 1) := by decide +kernel
theorem dX11_puts_76 : decode cX11_puts 76 = .ok (.getfield 93, 3) := by decide +kernel
theorem dX11_puts_79 : decode cX11_puts 79 = .ok (.iload_n 2, 1) := by decide +kernel
theorem dX11_puts_80 : decode cX11_puts 80 = .ok (.bipush 6, 2) := by decide +kernel
theorem dX11_puts_82 : decode cX11_puts 82 = .ok (.iadd, 1) := by decide +kernel
theorem dX11_puts_83 : decode cX11_puts 83 = .ok (.aload_n 0, 1) := by decide +kernel
theorem dX11_puts_84 : decode cX11_puts 84 = .ok (.getfield 304, 3) := by decide +kernel
theorem dX11_puts_87 : decode cX11_puts 87 = .ok (.iastore, 1) := by decide +kernel
theorem dX11_puts_88 : decode cX11_puts 88 = .ok (.aload_n 0, 1) := by decide +kernel
theorem dX11_puts_89 : decode cX11_puts 89 = .ok (.getfield 93, 3) := by decide +kernel
theorem dX11_puts_92 : decode cX11_puts 92 = .ok (.iload_n 2, 1) := by decide +kernel
theorem dX11_puts_93 : decode cX11_puts 93 = .ok (.bipush 7, 2) := by decide +kernel
theorem dX11_puts_95 : decode cX11_puts 95 = .ok (.iadd, 1) := by decide +kernel
theorem dX11_puts_96 : decode cX11_puts 96 = .ok (.aload_n 0, 1) := by decide +kernel
theorem dX11_puts_97 : decode cX11_puts 97 = .ok (.getfield 271, 3) := by decide +kernel
theorem dX11_puts_100 : decode cX11_puts 100 = .ok (.iastore, 1) := by decide +kernel
theorem dX11_puts_101 : decode cX11_puts 101 = .ok (.iconst 0, 1) := by decide +kernel
theorem dX11_puts_102 : decode cX11_puts 102 = .ok (.istore_n 3, 1) := by decide +kernel
theorem dX11_puts_103 : decode cX11_puts 103 = .ok (.iload_n 3, 1) := by decide +kernel
theorem dX11_puts_104 : decode cX11_puts 104 = .ok (.bipush 36, 2) := by decide +kernel
theorem dX11_puts_106 : decode cX11_puts 106 = .ok (.if_icmp .ge 60, 3) := by decide +kernel
theorem dX11_puts_109 : decode cX11_puts 109 = .ok (.aload_n 0, 1) := by decide +kernel
theorem dX11_puts_110 : decode cX11_puts 110 = .ok (.getfield 93, 3) := by decide +kernel
theorem dX11_puts_113 : decode cX11_puts 113 = .ok (.iload_n 2, 1) := by decide +kernel
theorem dX11_puts_114 : decode cX11_puts 114 = .ok (.bipush 8, 2) := by decide +kernel
theorem dX11_puts_116 : decode cX11_puts 116 = .ok (.iadd, 1) := by decide +kernel
theorem dX11_puts_117 : decode cX11_puts 117 = .ok (.iload_n 3, 1) := by decide +kernel
theorem dX11_puts_118 : decode cX11_puts 118 = .ok (.iadd, 1) := by decide +kernel
theorem dX11_puts_119 : decode cX11_puts 119 = .ok (.aload_n 0, 1) := by decide +kernel
theorem dX11_puts_120 : decode cX11_puts 120 = .ok (.getfield 69, 3) := by decide +kernel
theorem dX11_puts_123 : decode cX11_puts 123 = .ok (.iload_n 3, 1) := by decide +kernel
theorem dX11_puts_124 : decode cX11_puts 124 = .ok (.iaload, 1) := by decide +kernel
theorem dX11_puts_125 : decode cX11_puts 125 = .ok (.iastore, 1) := by decide +kernel
theorem dX11_puts_126 : decode cX11_puts 126 = .ok (.aload_n 0, 1) := by decide +kernel
theorem dX11_puts_127 : decode cX11_puts 127 = .ok (.getfield 93, 3) := by decide +kernel
theorem dX11_puts_130 : decode cX11_puts 130 = .ok (.iload_n 2, 1) := by decide +kernel
theorem dX11_puts_131 : decode cX11_puts 131 = .ok (.bipush 44, 2) := by decide +kernel
theorem dX11_puts_133 : decode cX11_puts 133 = .ok (.iadd, 1) := by decide +kernel
theorem dX11_puts_134 : decode cX11_puts 134 = .ok (.iload_n 3, 1) := by decide +kernel
theorem dX11_puts_135 : decode cX11_puts 135 = .ok (.iadd, 1) := by decide +kernel
theorem dX11_puts_136 : decode cX11_puts 136 = .ok (.aload_n 0, 1) := by decide +kernel
theorem dX11_puts_137 : decode cX11_puts 137 = .ok (.getfield 72, 3) := by decide +kernel
theorem dX11_puts_140 : decode cX11_puts 140 = .ok (.iload_n 3, 1) := by decide +kernel
theorem dX11_puts_141 : decode cX11_puts 141 = .ok (.iaload, 1) := by decide +kernel
theorem dX11_puts_142 : decode cX11_puts 142 = .ok (.iastore, 1) := by decide +kernel
theorem dX11_puts_143 : decode cX11_puts 143 = .ok (.aload_n 0, 1) := by decide +kernel
theorem dX11_puts_144 : decode cX11_puts 144 = .ok (.getfield 93, 3) := by decide +kernel
theorem dX11_puts_147 : decode cX11_puts 147 = .ok (.iload_n 2, 1) := by decide +kernel
theorem dX11_puts_148 : decode cX11_puts 148 = .ok (.bipush 80, 2) := by decide +kernel
theorem dX11_puts_150 : decode cX11_puts 150 = .ok (.iadd, 1) := by decide +kernel
theorem dX11_puts_151 : decode cX11_puts 151 = .ok (.iload_n 3, 1) := by decide +kernel
theorem dX11_puts_152 : decode cX11_puts 152 = .ok (.iadd, 1) := by decide +kernel
theorem dX11_puts_153 : decode cX11_puts 153 = .ok (.aload_n 0, 1) := by decide +kernel
theorem dX11_puts_154 : decode cX11_puts 154 = .ok (.getfield 75, 3) := by decide +kernel
theorem dX11_puts_157 : decode cX11_puts 157 = .ok (.iload_n 3, 1) := by decide +kernel
theorem dX11_puts_158 : decode cX11_puts 158 = .ok (.iaload, 1) := by decide +kernel
theorem dX11_puts_159 : decode cX11_puts 159 = .ok (.iastore, 1) := by decide +kernel
theorem dX11_puts_160 : decode cX11_puts 160 = .ok (.iinc 3 1, 3) := by decide +kernel
theorem dX11_puts_163 : decode cX11_puts 163 = .ok (.goto (-60), 3) := by decide +kernel
theorem dX11_puts_166 : decode cX11_puts 166 = .ok (.return_, 1) := by decide +kernel
theorem dX11_takes_0 : decode cX11_takes 0 = .ok (.bipush 120, 2) := by decide +kernel
theorem dX11_takes_2 : decode cX11_takes 2 = .ok (.iload_n 1, 1) := by decide +kernel
theorem dX11_takes_3 : decode cX11_takes 3 = .ok (.imul, 1) := by decide +kernel
theorem dX11_takes_4 : decode cX11_takes 4 = .ok (.istore_n 2, 1) := by decide +kernel
theorem dX11_takes_5 : decode cX11_takes 5 = .ok (.aload_n 0, 1) := by decide +kernel
theorem dX11_takes_6 : decode cX11_takes 6 = .ok (.aload_n 0, 1) := by decide +kernel
theorem dX11_takes_7 : decode cX11_takes 7 = .ok (.getfield 93, 3) := by decide +kernel
theorem dX11_takes_10 : decode cX11_takes 10 = .ok (.iload_n 2, 1) := by decide +kernel
theorem dX11_takes_11 : decode cX11_takes 11 = .ok (.iaload, 1) := by decide +kernel
theorem dX11_takes_12 : decode cX11_takes 12 = .ok (.putfield 283, 3) := by decide +kernel
theorem dX11_takes_15 : decode cX11_takes 15 = .ok (.aload_n 0, 1) := by decide +kernel
theorem dX11_takes_16 : decode cX11_takes 16 = .ok (.aload_n 0, 1) := by decide +kernel
theorem dX11_takes_17 : decode cX11_takes 17 = .ok (.getfield 93, 3) := by decide +kernel
theorem dX11_takes_20 : decode cX11_takes 20 = .ok (.iload_n 2, 1) := by decide +kernel
theorem dX11_takes_21 : decode cX11_takes 21 = .ok (.iconst 1, 1) := by decide +kernel
theorem dX11_takes_22 : decode cX11_takes 22 = .ok (.iadd, 1) := by decide +kernel
theorem dX11_takes_23 : decode cX11_takes 23 = .ok (.iaload, 1) := by decide +kernel
theorem dX11_takes_24 : decode cX11_takes 24 = .ok (.putfield 286, 3) := by decide +kernel
theorem dX11_takes_27 : decode cX11_takes 27 = .ok (.aload_n 0, 1) := by decide +kernel
theorem dX11_takes_28 : decode cX11_takes 28 = .ok (.aload_n 0, 1) := by decide +kernel
theorem dX11_takes_29 : decode cX11_takes 29 = .ok (.getfield 93, 3) := by decide +kernel
theorem dX11_takes_32 : decode cX11_takes 32 = .ok (.iload_n 2, 1) := by decide +kernel
theorem dX11_takes_33 : decode cX11_takes 33 = .ok (.iconst 2, 1) := by decide +kernel
theorem dX11_takes_34 : decode cX11_takes 34 = .ok (.iadd, 1) := by decide +kernel
theorem dX11_takes_35 : decode cX11_takes 35 = .ok (.iaload, 1) := by decide +kernel
theorem dX11_takes_36 : decode cX11_takes 36 = .ok (.putfield 292, 3) := by decide +kernel
theorem dX11_takes_39 : decode cX11_takes 39 = .ok (.aload_n 0, 1) := by decide +kernel
theorem dX11_takes_40 : decode cX11_takes 40 = .ok (.aload_n 0, 1) := by decide +kernel
theorem dX11_takes_41 : decode cX11_takes 41 = .ok (.getfield 93, 3) := by decide +kernel
theorem dX11_takes_44 : decode cX11_takes 44 = .ok (.iload_n 2, 1) := by decide +kernel
theorem dX11_takes_45 : decode cX11_takes 45 = .ok (.iconst 3, 1) := by decide +kernel
theorem dX11_takes_46 : decode cX11_takes 46 = .ok (.iadd, 1) := by decide +kernel
theorem dX11_takes_47 : decode cX11_takes 47 = .ok (.iaload, 1) := by decide +kernel
theorem dX11_takes_48 : decode cX11_takes 48 = .ok (.putfield 295, 3) := by decide +kernel
theorem dX11_takes_51 : decode cX11_takes 51 = .ok (.aload_n 0, 1) := by decide +kernel
theorem dX11_takes_52 : decode cX11_takes 52 = .ok (.aload_n 0, 1) := by decide +kernel
theorem dX11_takes_53 : decode cX11_takes 53 = .ok (.getfield 93, 3) := by decide +kernel
theorem dX11_takes_56 : decode cX11_takes 56 = .ok (.iload_n 2, 1) := by decide +kernel
theorem dX11_takes_57 : decode cX11_takes 57 = .ok (.iconst 4, 1) := by decide +kernel
theorem dX11_takes_58 : decode cX11_takes 58 = .ok (.iadd, 1) := by decide +kernel
theorem dX11_takes_59 : decode cX11_takes 59 = .ok (.iaload, 1) := by decide +kernel
theorem dX11_takes_60 : decode cX11_takes 60 = .ok (.putfield 298, 3) := by decide +kernel
theorem dX11_takes_63 : decode cX11_takes 63 = .ok (.aload_n 0, 1) := by decide +kernel
theorem dX11_takes_64 : decode cX11_takes 64 = .ok (.aload_n 0, 1) := by decide +kernel
theorem dX11_takes_65 : decode cX11_takes 65 = .ok (.getfield 93, 3) := by decide +kernel
theorem dX11_takes_68 : decode cX11_takes 68 = .ok (.iload_n 2, 1) := by decide +kernel
theorem dX11_takes_69 : decode cX11_takes 69 = .ok (.iconst 5, 1) := by decide +kernel
theorem dX11_takes_70 : decode cX11_takes 70 = .ok (.iadd, 1) := by decide +kernel
theorem dX11_takes_71 : decode cX11_takes 71 = .ok (.iaload, 1) := by decide +kernel
theorem dX11_takes_72 : decode cX11_takes 72 = .ok (.putfield 301, 3) := by decide +kernel
theorem dX11_takes_75 : decode cX11_takes 75 = .ok (.aload_n 0, 1) := by decide +kernel
theorem dX11_takes_76 : decode cX11_takes 76 = .ok (.aload_n 0, 1) := by decide +kernel
theorem dX11_takes_77 : decode cX11_takes 77 = .ok (.getfield 93, 3) := by decide +kernel
theorem dX11_takes_80 : decode cX11_takes 80 = .ok (.iload_n 2, 1) := by decide +kernel
theorem dX11_takes_81 : decode cX11_takes 81 = .ok (.bipush 6, 2) := by decide +kernel
theorem dX11_takes_83 : decode cX11_takes 83 = .ok (.iadd, 1) := by decide +kernel
theorem dX11_takes_84 : decode cX11_takes 84 = .ok (.iaload, 1) := by decide +kernel
theorem dX11_takes_85 : decode cX11_takes 85 = .ok (.putfield 304, 3) := by decide +kernel
theorem dX11_takes_88 : decode cX11_takes 88 = .ok (.aload_n 0, 1) := by decide +kernel
theorem dX11_takes_89 : decode cX11_takes 89 = .ok (.aload_n 0, 1) := by decide +kernel
theorem dX11_takes_90 : decode cX11_takes 90 = .ok (.getfield 93, 3) := by decide +kernel
theorem dX11_takes_93 : decode cX11_takes 93 = .ok (.iload_n 2, 1) := by decide +kernel
theorem dX11_takes_94 : decode cX11_takes 94 = .ok (.bipush 7, 2) := by decide +kernel
theorem dX11_takes_96 : decode cX11_takes 96 = .ok (.iadd, 1) := by decide +kernel
theorem dX11_takes_97 : decode cX11_takes 97 = .ok (.iaload, 1) := by decide +kernel
theorem dX11_takes_98 : decode cX11_takes 98 = .ok (.putfield 271, 3) := by decide +kernel
theorem dX11_takes_101 : decode cX11_takes 101 = .ok (.iconst 0, 1) := by decide +kernel
theorem dX11_takes_102 : decode cX11_takes 102 = .ok (.istore_n 3, 1) := by decide +kernel
theorem dX11_takes_103 : decode cX11_takes 103 = .ok (.iload_n 3, 1) := by decide +kernel
theorem dX11_takes_104 : decode cX11_takes 104 = .ok (.bipush 36, 2) := by decide +kernel
theorem dX11_takes_106 : decode cX11_takes 106 = .ok (.if_icmp .ge 60, 3) := by decide +kernel
theorem dX11_takes_109 : decode cX11_takes 109 = .ok (.aload_n 0, 1) := by decide +kernel
theorem dX11_takes_110 : decode cX11_takes 110 = .ok (.getfield 69, 3) := by decide +kernel
theorem dX11_takes_113 : decode cX11_takes 113 = .ok (.iload_n 3, 1) := by decide +kernel
theorem dX11_takes_114 : decode cX11_takes 114 = .ok (.aload_n 0, 1) := by decide +kernel
theorem dX11_takes_115 : decode cX11_takes 115 = .ok (.getfield 93, 3) := by decide +kernel
theorem dX11_takes_118 : decode cX11_takes 118 = .ok (.iload_n 2, 1) := by decide +kernel
theorem dX11_takes_119 : decode cX11_takes 119 = .ok (.bipush 8, 2) := by decide +kernel
theorem dX11_takes_121 : decode cX11_takes 121 = .ok (.iadd, 1) := by decide +kernel
theorem dX11_takes_122 : decode cX11_takes 122 = .ok (.iload_n 3, 1) := by decide +kernel
theorem dX11_takes_123 : decode cX11_takes 123 = .ok (.iadd, 1) := by decide +kernel
theorem dX11_takes_124 : decode cX11_takes 124 = .ok (.iaload, 1) := by decide +kernel
theorem dX11_takes_125 : decode cX11_takes 125 = .ok (.iastore, 1) := by decide +kernel
theorem dX11_takes_126 : decode cX11_takes 126 = .ok (.aload_n 0, 1) := by decide +kernel
theorem dX11_takes_127 : decode cX11_takes 127 = .ok (.getfield 72, 3) := by decide +kernel
theorem dX11_takes_130 : decode cX11_takes 130 = .ok (.iload_n 3, 1) := by decide +kernel
theorem dX11_takes_131 : decode cX11_takes 131 = .ok (.aload_n 0, 1) := by decide +kernel
theorem dX11_takes_132 : decode cX11_takes 132 = .ok (.getfield 93, 3) := by decide +kernel
theorem dX11_takes_135 : decode cX11_takes 135 = .ok (.iload_n 2, 1) := by decide +kernel
theorem dX11_takes_136 : decode cX11_takes 136 = .ok (.bipush 44, 2) := by decide +kernel
theorem dX11_takes_138 : decode cX11_takes 138 = .ok (.iadd, 1) := by decide +kernel
theorem dX11_takes_139 : decode cX11_takes 139 = .ok (.iload_n 3, 1) := by decide +kernel
theorem dX11_takes_140 : decode cX11_takes 140 = .ok (.iadd, 1) := by decide +kernel
theorem dX11_takes_141 : decode cX11_takes 141 = .ok (.iaload, 1) := by decide +kernel
theorem dX11_takes_142 : decode cX11_takes 142 = .ok (.iastore, 1) := by decide +kernel
theorem dX11_takes_143 : decode cX11_takes 143 = .ok (.aload_n 0, 1) := by decide +kernel
theorem dX11_takes_144 : decode cX11_takes 144 = .ok (.getfield 75, 3) := by decide +kernel
theorem dX11_takes_147 : decode cX11_takes 147 = .ok (.iload_n 3, 1) := by decide +kernel
theorem dX11_takes_148 : decode cX11_takes 148 = .ok (.aload_n 0, 1) := by decide +kernel
theorem dX11_takes_149 : decode cX11_takes 149 = .ok (.getfield 93, 3) := by decide +kernel
theorem dX11_takes_152 : decode cX11_takes 152 = .ok (.iload_n 2, 1) := by decide +kernel
theorem dX11_takes_153 : decode cX11_takes 153 = .ok (.bipush 80, 2) := by decide +kernel
theorem dX11_takes_155 : decode cX11_takes 155 = .ok (.iadd, 1) := by decide +kernel
theorem dX11_takes_156 : decode cX11_takes 156 = .ok (.iload_n 3, 1) := by decide +kernel
theorem dX11_takes_157 : decode cX11_takes 157 = .ok (.iadd, 1) := by decide +kernel
theorem dX11_takes_158 : decode cX11_takes 158 = .ok (.iaload, 1) := by decide +kernel
theorem dX11_takes_159 : decode cX11_takes 159 = .ok (.iastore, 1) := by decide +kernel
theorem dX11_takes_160 : decode cX11_takes 160 = .ok (.iinc 3 1, 3) := by decide +kernel
theorem dX11_takes_163 : decode cX11_takes 163 = .ok (.goto (-60), 3) := by decide +kernel
theorem dX11_takes_166 : decode cX11_takes 166 = .ok (.return_, 1) := by decide +kernel
theorem dX11_keep_0 : decode cX11_keep 0 = .ok (.aload_n 0, 1) := by decide +kernel
theorem dX11_keep_1 : decode cX11_keep 1 = .ok (.iconst 0, 1) := by decide +kernel
theorem dX11_keep_2 : decode cX11_keep 2 = .ok (.putfield 130, 3) := by decide +kernel
theorem dX11_keep_5 : decode cX11_keep 5 = .ok (.iload_n 1, 1) := by decide +kernel
theorem dX11_keep_6 : decode cX11_keep 6 = .ok (.iconst 0, 1) := by decide +kernel
theorem dX11_keep_7 : decode cX11_keep 7 = .ok (.iconst 3, 1) := by decide +kernel
theorem dX11_keep_8 : decode cX11_keep 8 = .ok (.invokestatic 317, 3) := by decide +kernel
theorem dX11_keep_11 : decode cX11_keep 11 = .ok (.ifCond .ne 5, 3) := by decide +kernel
theorem dX11_keep_14 : decode cX11_keep 14 = .ok (.iconst 0, 1) := by decide +kernel
theorem dX11_keep_15 : decode cX11_keep 15 = .ok (.ireturn, 1) := by decide +kernel
theorem dX11_keep_16 : decode cX11_keep 16 = .ok (.aload_n 0, 1) := by decide +kernel
theorem dX11_keep_17 : decode cX11_keep 17 = .ok (.iload_n 1, 1) := by decide +kernel
theorem dX11_keep_18 : decode cX11_keep 18 = .ok (.invokevirtual 358, 3) := by decide +kernel
theorem dX11_keep_21 : decode cX11_keep 21 = .ok (.aload_n 0, 1) := by decide +kernel
theorem dX11_keep_22 : decode cX11_keep 22 = .ok (.getfield 90, 3) := by decide +kernel
theorem dX11_keep_25 : decode cX11_keep 25 = .ok (.iload_n 1, 1) := by decide +kernel
theorem dX11_keep_26 : decode cX11_keep 26 = .ok (.iconst 1, 1) := by decide +kernel
theorem dX11_keep_27 : decode cX11_keep 27 = .ok (.bastore, 1) := by decide +kernel
theorem dX11_keep_28 : decode cX11_keep 28 = .ok (.iconst 1, 1) := by decide +kernel
theorem dX11_keep_29 : decode cX11_keep 29 = .ok (.ireturn, 1) := by decide +kernel
theorem dX11_restore_0 : decode cX11_restore 0 = .ok (.aload_n 0, 1) := by decide +kernel
theorem dX11_restore_1 : decode cX11_restore 1 = .ok (.iconst 0, 1) := by decide +kernel
theorem dX11_restore_2 : decode cX11_restore 2 = .ok (.putfield 130, 3) := by decide +kernel
theorem dX11_restore_5 : decode cX11_restore 5 = .ok (.iload_n 1, 1) := by decide +kernel
theorem dX11_restore_6 : decode cX11_restore 6 = .ok (.iconst 0, 1) := by decide +kernel
theorem dX11_restore_7 : decode cX11_restore 7 = .ok (.iconst 3, 1) := by decide +kernel
theorem dX11_restore_8 : decode cX11_restore 8 = .ok (.invokestatic 317, 3) := by decide +kernel
theorem dX11_restore_11 : decode cX11_restore 11 = .ok (.ifCond .eq 12, 3) := by decide +kernel
theorem dX11_restore_14 : decode cX11_restore 14 = .ok (.aload_n 0, 1) := by decide +kernel
theorem dX11_restore_15 : decode cX11_restore 15 = .ok (.getfield 90, 3) := by decide +kernel
theorem dX11_restore_18 : decode cX11_restore 18 = .ok (.iload_n 1, 1) := by decide +kernel
theorem dX11_restore_19 : decode cX11_restore 19 = .ok (.baload, 1) := by decide +kernel
theorem dX11_restore_20 : decode cX11_restore 20 = .ok (.ifCond .ne 5, 3) := by decide +kernel
theorem dX11_restore_23 : decode cX11_restore 23 = .ok (.iconst 0, 1) := by decide +kernel
theorem dX11_restore_24 : decode cX11_restore 24 = .ok (.ireturn, 1) := by decide +kernel
theorem dX11_restore_25 : decode cX11_restore 25 = .ok (.aload_n 0, 1) := by decide +kernel
theorem dX11_restore_26 : decode cX11_restore 26 = .ok (.iload_n 1, 1) := by decide +kernel
theorem dX11_restore_27 : decode cX11_restore 27 = .ok (.invokevirtual 361, 3) := by decide +kernel
theorem dX11_restore_30 : decode cX11_restore 30 = .ok (.aload_n 0, 1) := by decide +kernel
theorem dX11_restore_31 : decode cX11_restore 31 = .ok (.aload_n 0, 1) := by decide +kernel
theorem dX11_restore_32 : decode cX11_restore 32 = .ok (.getfield 271, 3) := by decide +kernel
theorem dX11_restore_35 : decode cX11_restore 35 = .ok (.aload_n 0, 1) := by decide +kernel
theorem dX11_restore_36 : decode cX11_restore 36 = .ok (.getfield 274, 3) := by decide +kernel
theorem dX11_restore_39 : decode cX11_restore 39 = .ok (.iconst (-1), 1) := by decide +kernel
theorem dX11_restore_40 : decode cX11_restore 40 = .ok (.ixor, 1) := by decide +kernel
theorem dX11_restore_41 : decode cX11_restore 41 = .ok (.iand, 1) := by decide +kernel
theorem dX11_restore_42 : decode cX11_restore 42 = .ok (.aload_n 0, 1) := by decide +kernel
theorem dX11_restore_43 : decode cX11_restore 43 = .ok (.getfield 274, 3) := by decide +kernel
theorem dX11_restore_46 : decode cX11_restore 46 = .ok (.aload_n 0, 1) := by decide +kernel
theorem dX11_restore_47 : decode cX11_restore 47 = .ok (.getfield 277, 3) := by decide +kernel
theorem dX11_restore_50 : decode cX11_restore 50 = .ok (.iand, 1) := by decide +kernel
theorem dX11_restore_51 : decode cX11_restore 51 = .ok (.ior, 1) := by decide +kernel
theorem dX11_restore_52 : decode cX11_restore 52 = .ok (.putfield 271, 3) := by decide +kernel
theorem dX11_restore_55 : decode cX11_restore 55 = .ok (.iconst 1, 1) := by decide +kernel
theorem dX11_restore_56 : decode cX11_restore 56 = .ok (.ireturn, 1) := by decide +kernel
theorem dX11_setDown_0 : decode cX11_setDown 0 = .ok (.aload_n 0, 1) := by decide +kernel
theorem dX11_setDown_1 : decode cX11_setDown 1 = .ok (.invokevirtual 334, 3) := by decide +kernel
theorem dX11_setDown_4 : decode cX11_setDown 4 = .ok (.aload_n 0, 1) := by decide +kernel
theorem dX11_setDown_5 : decode cX11_setDown 5 = .ok (.iload_n 1, 1) := by decide +kernel
theorem dX11_setDown_6 : decode cX11_setDown 6 = .ok (.putfield 295, 3) := by decide +kernel
theorem dX11_setDown_9 : decode cX11_setDown 9 = .ok (.aload_n 0, 1) := by decide +kernel
theorem dX11_setDown_10 : decode cX11_setDown 10 = .ok (.iconst 0, 1) := by decide +kernel
theorem dX11_setDown_11 : decode cX11_setDown 11 = .ok (.putfield 298, 3) := by decide +kernel
theorem dX11_setDown_14 : decode cX11_setDown 14 = .ok (.aload_n 0, 1) := by decide +kernel
theorem dX11_setDown_15 : decode cX11_setDown 15 = .ok (.iconst 0, 1) := by decide +kernel
theorem dX11_setDown_16 : decode cX11_setDown 16 = .ok (.putfield 301, 3) := by decide +kernel
theorem dX11_setDown_19 : decode cX11_setDown 19 = .ok (.aload_n 0, 1) := by decide +kernel
theorem dX11_setDown_20 : decode cX11_setDown 20 = .ok (.iconst 0, 1) := by decide +kernel
theorem dX11_setDown_21 : decode cX11_setDown 21 = .ok (.putfield 304, 3) := by decide +kernel
theorem dX11_setDown_24 : decode cX11_setDown 24 = .ok (.return_, 1) := by decide +kernel
theorem dX11_comes_0 : decode cX11_comes 0 = .ok (.aload_n 0, 1) := by decide +kernel
theorem dX11_comes_1 : decode cX11_comes 1 = .ok (.iconst 0, 1) := by decide +kernel
theorem dX11_comes_2 : decode cX11_comes 2 = .ok (.putfield 130, 3) := by decide +kernel
theorem dX11_comes_5 : decode cX11_comes 5 = .ok (.iload_n 1, 1) := by decide +kernel
theorem dX11_comes_6 : decode cX11_comes 6 = .ok (.iconst 0, 1) := by decide +kernel
theorem dX11_comes_7 : decode cX11_comes 7 = .ok (.iconst 1, 1) := by decide +kernel
theorem dX11_comes_8 : decode cX11_comes 8 = .ok (.invokestatic 317, 3) := by decide +kernel
