theorem dX10_rules_40 : decode cX10_rules 40 = .ok (.invokevirtual 111, 3) := by decide +kernel
theorem dX10_rules_43 : decode cX10_rules 43 = .ok (.putfield 35, 3) := by decide +kernel
theorem dX10_rules_46 : decode cX10_rules 46 = .ok (.aload_n 0, 1) := by decide +kernel
theorem dX10_rules_47 : decode cX10_rules 47 = .ok (.getfield 56, 3) := by decide +kernel
theorem dX10_rules_50 : decode cX10_rules 50 = .ok (.iconst (-1), 1) := by decide +kernel
theorem dX10_rules_51 : decode cX10_rules 51 = .ok (.putfield 115, 3) := by decide +kernel
theorem dX10_rules_54 : decode cX10_rules 54 = .ok (.aload_n 0, 1) := by decide +kernel
theorem dX10_rules_55 : decode cX10_rules 55 = .ok (.getfield 85, 3) := by decide +kernel
theorem dX10_rules_58 : decode cX10_rules 58 = .ok (.invokevirtual 118, 3) := by decide +kernel
theorem dX10_rules_61 : decode cX10_rules 61 = .ok (.aload_n 0, 1) := by decide +kernel
theorem dX10_rules_62 : decode cX10_rules 62 = .ok (.getfield 35, 3) := by decide +kernel
theorem dX10_rules_65 : decode cX10_rules 65 = .ok (.getfield 121, 3) := by decide +kernel
theorem dX10_rules_68 : decode cX10_rules 68 = .ok (.ireturn, 1) := by decide +kernel
theorem dX4_clear_0 : decode cX4_clear 0 = .ok (.aload_n 0, 1) := by decide +kernel
theorem dX4_clear_1 : decode cX4_clear 1 = .ok (.iconst 0, 1) := by decide +kernel
theorem dX4_clear_2 : decode cX4_clear 2 = .ok (.putfield 19, 3) := by decide +kernel
theorem dX4_clear_5 : decode cX4_clear 5 = .ok (.aload_n 0, 1) := by decide +kernel
theorem dX4_clear_6 : decode cX4_clear 6 = .ok (.iconst 0, 1) := by decide +kernel
theorem dX4_clear_7 : decode cX4_clear 7 = .ok (.putfield 23, 3) := by decide +kernel
theorem dX4_clear_10 : decode cX4_clear 10 = .ok (.aload_n 0, 1) := by decide +kernel
theorem dX4_clear_11 : decode cX4_clear 11 = .ok (.iconst 0, 1) := by decide +kernel
theorem dX4_clear_12 : decode cX4_clear 12 = .ok (.putfield 26, 3) := by decide +kernel
theorem dX4_clear_15 : decode cX4_clear 15 = .ok (.iconst 0, 1) := by decide +kernel
theorem dX4_clear_16 : decode cX4_clear 16 = .ok (.istore_n 1, 1) := by decide +kernel
theorem dX4_clear_17 : decode cX4_clear 17 = .ok (.iload_n 1, 1) := by decide +kernel
theorem dX4_clear_18 : decode cX4_clear 18 = .ok (.aload_n 0, 1) := by decide +kernel
theorem dX4_clear_19 : decode cX4_clear 19 = .ok (.getfield 13, 3) := by decide +kernel
theorem dX4_clear_22 : decode cX4_clear 22 = .ok (.arraylength, 1) := by decide +kernel
theorem dX4_clear_23 : decode cX4_clear 23 = .ok (.if_icmp .ge 32, 3) := by decide +kernel
theorem dX4_clear_26 : decode cX4_clear 26 = .ok (.iload_n 1, 1) := by decide +kernel
theorem dX4_clear_27 : decode cX4_clear 27 = .ok (.aload_n 0, 1) := by decide +kernel
theorem dX4_clear_28 : decode cX4_clear 28 = .ok (.getfield 16, 3) := by decide +kernel
theorem dX4_clear_31 : decode cX4_clear 31 = .ok (.arraylength, 1) := by decide +kernel
theorem dX4_clear_32 : decode cX4_clear 32 = .ok (.if_icmp .ge 23, 3) := by decide +kernel
theorem dX4_clear_35 : decode cX4_clear 35 = .ok (.aload_n 0, 1) := by decide +kernel
theorem dX4_clear_36 : decode cX4_clear 36 = .ok (.getfield 13, 3) := by decide +kernel
theorem dX4_clear_39 : decode cX4_clear 39 = .ok (.iload_n 1, 1) := by decide +kernel
theorem dX4_clear_40 : decode cX4_clear 40 = .ok (.iconst 0, 1) := by decide +kernel
theorem dX4_clear_41 : decode cX4_clear 41 = .ok (.iastore, 1) := by decide +kernel
theorem dX4_clear_42 : decode cX4_clear 42 = .ok (.aload_n 0, 1) := by decide +kernel
theorem dX4_clear_43 : decode cX4_clear 43 = .ok (.getfield 16, 3) := by decide +kernel
theorem dX4_clear_46 : decode cX4_clear 46 = .ok (.iload_n 1, 1) := by decide +kernel
theorem dX4_clear_47 : decode cX4_clear 47 = .ok (.iconst 0, 1) := by decide +kernel
theorem dX4_clear_48 : decode cX4_clear 48 = .ok (.iastore, 1) := by decide +kernel
theorem dX4_clear_49 : decode cX4_clear 49 = .ok (.iinc 1 1, 3) := by decide +kernel
theorem dX4_clear_52 : decode cX4_clear 52 = .ok (.goto (-35), 3) := by decide +kernel
theorem dX4_clear_55 : decode cX4_clear 55 = .ok (.return_, 1) := by decide +kernel
theorem dX5_isName_0 : decode cX5_isName 0 = .ok (.aload_n 0, 1) := by decide +kernel
theorem dX5_isName_1 : decode cX5_isName 1 = .ok (.getfield 31, 3) := by decide +kernel
theorem dX5_isName_4 : decode cX5_isName 4 = .ok (.getfield 56, 3) := by decide +kernel
theorem dX5_isName_7 : decode cX5_isName 7 = .ok (.iconst 1, 1) := by decide +kernel
theorem dX5_isName_8 : decode cX5_isName 8 = .ok (.if_icmp .ne 28, 3) := by decide +kernel
theorem dX5_isName_11 : decode cX5_isName 11 = .ok (.aload_n 0, 1) := by decide +kernel
theorem dX5_isName_12 : decode cX5_isName 12 = .ok (.getfield 31, 3) := by decide +kernel
theorem dX5_isName_15 : decode cX5_isName 15 = .ok (.getfield 95, 3) := by decide +kernel
theorem dX5_isName_18 : decode cX5_isName 18 = .ok (.iconst (-1), 1) := by decide +kernel
theorem dX5_isName_19 : decode cX5_isName 19 = .ok (.if_icmp .ne 17, 3) := by decide +kernel
theorem dX5_isName_22 : decode cX5_isName 22 = .ok (.aload_n 0, 1) := by decide +kernel
theorem dX5_isName_23 : decode cX5_isName 23 = .ok (.getfield 31, 3) := by decide +kernel
theorem dX5_isName_26 : decode cX5_isName 26 = .ok (.getfield 112, 3) := by decide +kernel
theorem dX5_isName_29 : decode cX5_isName 29 = .ok (.ifCond .eq 7, 3) := by decide +kernel
theorem dX5_isName_32 : decode cX5_isName 32 = .ok (.iconst 1, 1) := by decide +kernel
theorem dX5_isName_33 : decode cX5_isName 33 = .ok (.goto 4, 3) := by decide +kernel
theorem dX5_isName_36 : decode cX5_isName 36 = .ok (.iconst 0, 1) := by decide +kernel
theorem dX5_isName_37 : decode cX5_isName 37 = .ok (.ireturn, 1) := by decide +kernel
theorem dX5_relayOf_0 : decode cX5_relayOf 0 = .ok (.iconst 0, 1) := by decide +kernel
theorem dX5_relayOf_1 : decode cX5_relayOf 1 = .ok (.istore_n 2, 1) := by decide +kernel
theorem dX5_relayOf_2 : decode cX5_relayOf 2 = .ok (.iload_n 2, 1) := by decide +kernel
theorem dX5_relayOf_3 : decode cX5_relayOf 3 = .ok (.aload_n 0, 1) := by decide +kernel
theorem dX5_relayOf_4 : decode cX5_relayOf 4 = .ok (.getfield 27, 3) := by decide +kernel
theorem dX5_relayOf_7 : decode cX5_relayOf 7 = .ok (.getfield 105, 3) := by decide +kernel
theorem dX5_relayOf_10 : decode cX5_relayOf 10 = .ok (.if_icmp .ge 21, 3) := by decide +kernel
theorem dX5_relayOf_13 : decode cX5_relayOf 13 = .ok (.aload_n 0, 1) := by decide +kernel
theorem dX5_relayOf_14 : decode cX5_relayOf 14 = .ok (.getfield 11, 3) := by decide +kernel
theorem dX5_relayOf_17 : decode cX5_relayOf 17 = .ok (.iload_n 2, 1) := by decide +kernel
theorem dX5_relayOf_18 : decode cX5_relayOf 18 = .ok (.iaload, 1) := by decide +kernel
theorem dX5_relayOf_19 : decode cX5_relayOf 19 = .ok (.iload_n 1, 1) := by decide +kernel
theorem dX5_relayOf_20 : decode cX5_relayOf 20 = .ok (.if_icmp .ne 5, 3) := by decide +kernel
theorem dX5_relayOf_23 : decode cX5_relayOf 23 = .ok (.iload_n 2, 1) := by decide +kernel
theorem dX5_relayOf_24 : decode cX5_relayOf 24 = .ok (.ireturn, 1) := by decide +kernel
theorem dX5_relayOf_25 : decode cX5_relayOf 25 = .ok (.iinc 2 1, 3) := by decide +kernel
theorem dX5_relayOf_28 : decode cX5_relayOf 28 = .ok (.goto (-26), 3) := by decide +kernel
theorem dX5_relayOf_31 : decode cX5_relayOf 31 = .ok (.iconst (-1), 1) := by decide +kernel
theorem dX5_relayOf_32 : decode cX5_relayOf 32 = .ok (.ireturn, 1) := by decide +kernel
theorem dX5_readRelay_0 : decode cX5_readRelay 0 = .ok (.aload_n 0, 1) := by decide +kernel
theorem dX5_readRelay_1 : decode cX5_readRelay 1 = .ok (.getfield 27, 3) := by decide +kernel
theorem dX5_readRelay_4 : decode cX5_readRelay 4 = .ok (.getfield 105, 3) := by decide +kernel
theorem dX5_readRelay_7 : decode cX5_readRelay 7 = .ok (.bipush 20, 2) := by decide +kernel
theorem dX5_readRelay_9 : decode cX5_readRelay 9 = .ok (.if_icmp .lt 20, 3) := by decide +kernel
theorem dX5_readRelay_12 : decode cX5_readRelay 12 = .ok (.aload_n 0, 1) := by decide +kernel
theorem dX5_readRelay_13 : decode cX5_readRelay 13 = .ok (.getfield 31, 3) := by decide +kernel
theorem dX5_readRelay_16 : decode cX5_readRelay 16 = .ok (.iconst 2, 1) := by decide +kernel
theorem dX5_readRelay_17 : decode cX5_readRelay 17 = .ok (.aload_n 0, 1) := by decide +kernel
theorem dX5_readRelay_18 : decode cX5_readRelay 18 = .ok (.getfield 31, 3) := by decide +kernel
theorem dX5_readRelay_21 : decode cX5_readRelay 21 = .ok (.getfield 79, 3) := by decide +kernel
theorem dX5_readRelay_24 : decode cX5_readRelay 24 = .ok (.invokevirtual 82, 3) := by decide +kernel
theorem dX5_readRelay_27 : decode cX5_readRelay 27 = .ok (.iconst (-1), 1) := by decide +kernel
theorem dX5_readRelay_28 : decode cX5_readRelay 28 = .ok (.ireturn, 1) := by decide +kernel
theorem dX5_readRelay_29 : decode cX5_readRelay 29 = .ok (.aload_n 0, 1) := by decide +kernel
theorem dX5_readRelay_30 : decode cX5_readRelay 30 = .ok (.getfield 31, 3) := by decide +kernel
theorem dX5_readRelay_33 : decode cX5_readRelay 33 = .ok (.invokevirtual 72, 3) := by decide +kernel
theorem dX5_readRelay_36 : decode cX5_readRelay 36 = .ok (.aload_n 0, 1) := by decide +kernel
theorem dX5_readRelay_37 : decode cX5_readRelay 37 = .ok (.invokevirtual 108, 3) := by decide +kernel
theorem dX5_readRelay_40 : decode cX5_readRelay 40 = .ok (.ifCond .ne 20, 3) := by decide +kernel
theorem dX5_readRelay_43 : decode cX5_readRelay 43 = .ok (.aload_n 0, 1) := by decide +kernel
theorem dX5_readRelay_44 : decode cX5_readRelay 44 = .ok (.getfield 31, 3) := by decide +kernel
theorem dX5_readRelay_47 : decode cX5_readRelay 47 = .ok (.iconst 1, 1) := by decide +kernel
theorem dX5_readRelay_48 : decode cX5_readRelay 48 = .ok (.aload_n 0, 1) := by decide +kernel
theorem dX5_readRelay_49 : decode cX5_readRelay 49 = .ok (.getfield 31, 3) := by decide +kernel
theorem dX5_readRelay_52 : decode cX5_readRelay 52 = .ok (.getfield 79, 3) := by decide +kernel
theorem dX5_readRelay_55 : decode cX5_readRelay 55 = .ok (.invokevirtual 82, 3) := by decide +kernel
theorem dX5_readRelay_58 : decode cX5_readRelay 58 = .ok (.iconst (-1), 1) := by decide +kernel
theorem dX5_readRelay_59 : decode cX5_readRelay 59 = .ok (.ireturn, 1) := by decide +kernel
theorem dX5_readRelay_60 : decode cX5_readRelay 60 = .ok (.aload_n 0, 1) := by decide +kernel
theorem dX5_readRelay_61 : decode cX5_readRelay 61 = .ok (.aload_n 0, 1) := by decide +kernel
theorem dX5_readRelay_62 : decode cX5_readRelay 62 = .ok (.getfield 31, 3) := by decide +kernel
theorem dX5_readRelay_65 : decode cX5_readRelay 65 = .ok (.getfield 112, 3) := by decide +kernel
theorem dX5_readRelay_68 : decode cX5_readRelay 68 = .ok (.invokevirtual 115, 3) := by decide +kernel
theorem dX5_readRelay_71 : decode cX5_readRelay 71 = .ok (.iconst (-1), 1) := by decide +kernel
theorem dX5_readRelay_72 : decode cX5_readRelay 72 = .ok (.if_icmp .eq 20, 3) := by decide +kernel
theorem dX5_readRelay_75 : decode cX5_readRelay 75 = .ok (.aload_n 0, 1) := by decide +kernel
theorem dX5_readRelay_76 : decode cX5_readRelay 76 = .ok (.getfield 31, 3) := by decide +kernel
theorem dX5_readRelay_79 : decode cX5_readRelay 79 = .ok (.iconst 3, 1) := by decide +kernel
theorem dX5_readRelay_80 : decode cX5_readRelay 80 = .ok (.aload_n 0, 1) := by decide +kernel
theorem dX5_readRelay_81 : decode cX5_readRelay 81 = .ok (.getfield 31, 3) := by decide +kernel
theorem dX5_readRelay_84 : decode cX5_readRelay 84 = .ok (.getfield 79, 3) := by decide +kernel
theorem dX5_readRelay_87 : decode cX5_readRelay 87 = .ok (.invokevirtual 82, 3) := by decide +kernel
theorem dX5_readRelay_90 : decode cX5_readRelay 90 = .ok (.iconst (-1), 1) := by decide +kernel
theorem dX5_readRelay_91 : decode cX5_readRelay 91 = .ok (.ireturn, 1) := by decide +kernel
theorem dX5_readRelay_92 : decode cX5_readRelay 92 = .ok (.aload_n 0, 1) := by decide +kernel
theorem dX5_readRelay_93 : decode cX5_readRelay 93 = .ok (.getfield 11, 3) := by decide +kernel
theorem dX5_readRelay_96 : decode cX5_readRelay 96 = .ok (.aload_n 0, 1) := by decide +kernel
theorem dX5_readRelay_97 : decode cX5_readRelay 97 = .ok (.getfield 27, 3) := by decide +kernel
theorem dX5_readRelay_100 : decode cX5_readRelay 100 = .ok (.getfield 105, 3) := by decide +kernel
theorem dX5_readRelay_103 : decode cX5_readRelay 103 = .ok (.aload_n 0, 1) := by decide +kernel
theorem dX5_readRelay_104 : decode cX5_readRelay 104 = .ok (.getfield 31, 3) := by decide +kernel
theorem dX5_readRelay_107 : decode cX5_readRelay 107 = .ok (.getfield 112, 3) := by decide +kernel
theorem dX5_readRelay_110 : decode cX5_readRelay 110 = .ok (.iastore, 1) := by decide +kernel
theorem dX5_readRelay_111 : decode cX5_readRelay 111 = .ok (.aload_n 0, 1) := by decide +kernel
theorem dX5_readRelay_112 : decode cX5_readRelay 112 = .ok (.getfield 27, 3) := by decide +kernel
theorem dX5_readRelay_115 : decode cX5_readRelay 115 = .ok (.dup, 1) := by decide +kernel
theorem dX5_readRelay_116 : decode cX5_readRelay 116 = .ok (.getfield 105, 3) := by decide +kernel
theorem dX5_readRelay_119 : decode cX5_readRelay 119 = .ok (.iconst 1, 1) := by decide +kernel
theorem dX5_readRelay_120 : decode cX5_readRelay 120 = .ok (.iadd, 1) := by decide +kernel
theorem dX5_readRelay_121 : decode cX5_readRelay 121 = .ok (.putfield 105, 3) := by decide +kernel
theorem dX5_readRelay_124 : decode cX5_readRelay 124 = .ok (.aload_n 0, 1) := by decide +kernel
theorem dX5_readRelay_125 : decode cX5_readRelay 125 = .ok (.getfield 27, 3) := by decide +kernel
theorem dX5_readRelay_128 : decode cX5_readRelay 128 = .ok (.getfield 105, 3) := by decide +kernel
theorem dX5_readRelay_131 : decode cX5_readRelay 131 = .ok (.iconst 1, 1) := by decide +kernel
theorem dX5_readRelay_132 : decode cX5_readRelay 132 = .ok (.isub, 1) := by decide +kernel
theorem dX5_readRelay_133 : decode cX5_readRelay 133 = .ok (.ireturn, 1) := by decide +kernel
theorem dX4_placeOfOutput_0 : decode cX4_placeOfOutput 0 = .ok (.bipush 20, 2) := by decide +kernel
theorem dX4_placeOfOutput_2 : decode cX4_placeOfOutput 2 = .ok (.iload_n 0, 1) := by decide +kernel
theorem dX4_placeOfOutput_3 : decode cX4_placeOfOutput 3 = .ok (.iadd, 1) := by decide +kernel
theorem dX4_placeOfOutput_4 : decode cX4_placeOfOutput 4 = .ok (.iconst 1, 1) := by decide +kernel
theorem dX4_placeOfOutput_5 : decode cX4_placeOfOutput 5 = .ok (.isub, 1) := by decide +kernel
theorem dX4_placeOfOutput_6 : decode cX4_placeOfOutput 6 = .ok (.ireturn, 1) := by decide +kernel
theorem dX5_readTarget_0 : decode cX5_readTarget 0 = .ok (.aload_n 0, 1) := by decide +kernel
theorem dX5_readTarget_1 : decode cX5_readTarget 1 = .ok (.getfield 31, 3) := by decide +kernel
theorem dX5_readTarget_4 : decode cX5_readTarget 4 = .ok (.getfield 95, 3) := by decide +kernel
theorem dX5_readTarget_7 : decode cX5_readTarget 7 = .ok (.istore_n 1, 1) := by decide +kernel
theorem dX5_readTarget_8 : decode cX5_readTarget 8 = .ok (.iload_n 1, 1) := by decide +kernel
theorem dX5_readTarget_9 : decode cX5_readTarget 9 = .ok (.ifCond .ne 8, 3) := by decide +kernel
theorem dX5_readTarget_12 : decode cX5_readTarget 12 = .ok (.aload_n 0, 1) := by decide +kernel
theorem dX5_readTarget_13 : decode cX5_readTarget 13 = .ok (.invokevirtual 98, 3) := by decide +kernel
theorem dX5_readTarget_16 : decode cX5_readTarget 16 = .ok (.ireturn, 1) := by decide +kernel
theorem dX5_readTarget_17 : decode cX5_readTarget 17 = .ok (.iload_n 1, 1) := by decide +kernel
theorem dX5_readTarget_18 : decode cX5_readTarget 18 = .ok (.iconst 1, 1) := by decide +kernel
theorem dX5_readTarget_19 : decode cX5_readTarget 19 = .ok (.if_icmp .lt 8, 3) := by decide +kernel
theorem dX5_readTarget_22 : decode cX5_readTarget 22 = .ok (.iload_n 1, 1) := by decide +kernel
theorem dX5_readTarget_23 : decode cX5_readTarget 23 = .ok (.iconst 4, 1) := by decide +kernel
theorem dX5_readTarget_24 : decode cX5_readTarget 24 = .ok (.if_icmp .le 20, 3) := by decide +kernel
theorem dX5_readTarget_27 : decode cX5_readTarget 27 = .ok (.aload_n 0, 1) := by decide +kernel
theorem dX5_readTarget_28 : decode cX5_readTarget 28 = .ok (.getfield 31, 3) := by decide +kernel
theorem dX5_readTarget_31 : decode cX5_readTarget 31 = .ok (.iconst 1, 1) := by decide +kernel
theorem dX5_readTarget_32 : decode cX5_readTarget 32 = .ok (.aload_n 0, 1) := by decide +kernel
theorem dX5_readTarget_33 : decode cX5_readTarget 33 = .ok (.getfield 31, 3) := by decide +kernel
theorem dX5_readTarget_36 : decode cX5_readTarget 36 = .ok (.getfield 79, 3) := by decide +kernel
theorem dX5_readTarget_39 : decode cX5_readTarget 39 = .ok (.invokevirtual 82, 3) := by decide +kernel
theorem dX5_readTarget_42 : decode cX5_readTarget 42 = .ok (.iconst (-1), 1) := by decide +kernel
theorem dX5_readTarget_43 : decode cX5_readTarget 43 = .ok (.ireturn, 1) := by decide +kernel
theorem dX5_readTarget_44 : decode cX5_readTarget 44 = .ok (.aload_n 0, 1) := by decide +kernel
theorem dX5_readTarget_45 : decode cX5_readTarget 45 = .ok (.getfield 38, 3) := by decide +kernel
theorem dX5_readTarget_48 : decode cX5_readTarget 48 = .ok (.iload_n 1, 1) := by decide +kernel
theorem dX5_readTarget_49 : decode cX5_readTarget 49 = .ok (.ishr, 1) := by decide +kernel
theorem dX5_readTarget_50 : decode cX5_readTarget 50 = .ok (.iconst 1, 1) := by decide +kernel
theorem dX5_readTarget_51 : decode cX5_readTarget 51 = .ok (.iand, 1) := by decide +kernel
theorem dX5_readTarget_52 : decode cX5_readTarget 52 = .ok (.ifCond .eq 20, 3) := by decide +kernel
theorem dX5_readTarget_55 : decode cX5_readTarget 55 = .ok (.aload_n 0, 1) := by decide +kernel
theorem dX5_readTarget_56 : decode cX5_readTarget 56 = .ok (.getfield 31, 3) := by decide +kernel
theorem dX5_readTarget_59 : decode cX5_readTarget 59 = .ok (.iconst 3, 1) := by decide +kernel
theorem dX5_readTarget_60 : decode cX5_readTarget 60 = .ok (.aload_n 0, 1) := by decide +kernel
theorem dX5_readTarget_61 : decode cX5_readTarget 61 = .ok (.getfield 31, 3) := by decide +kernel
theorem dX5_readTarget_64 : decode cX5_readTarget 64 = .ok (.getfield 79, 3) := by decide +kernel
theorem dX5_readTarget_67 : decode cX5_readTarget 67 = .ok (.invokevirtual 82, 3) := by decide +kernel
theorem dX5_readTarget_70 : decode cX5_readTarget 70 = .ok (.iconst (-1), 1) := by decide +kernel
theorem dX5_readTarget_71 : decode cX5_readTarget 71 = .ok (.ireturn, 1) := by decide +kernel
theorem dX5_readTarget_72 : decode cX5_readTarget 72 = .ok (.aload_n 0, 1) := by decide +kernel
theorem dX5_readTarget_73 : decode cX5_readTarget 73 = .ok (.dup, 1) := by decide +kernel
theorem dX5_readTarget_74 : decode cX5_readTarget 74 = .ok (.getfield 38, 3) := by decide +kernel
theorem dX5_readTarget_77 : decode cX5_readTarget 77 = .ok (.iconst 1, 1) := by decide +kernel
theorem dX5_readTarget_78 : decode cX5_readTarget 78 = .ok (.iload_n 1, 1) := by decide +kernel
theorem dX5_readTarget_79 : decode cX5_readTarget 79 = .ok (.ishl, 1) := by decide +kernel
theorem dX5_readTarget_80 : decode cX5_readTarget 80 = .ok (.ior, 1) := by decide +kernel
theorem dX5_readTarget_81 : decode cX5_readTarget 81 = .ok (.putfield 38, 3) := by decide +kernel
theorem dX5_readTarget_84 : decode cX5_readTarget 84 = .ok (.iload_n 1, 1) := by decide +kernel
theorem dX5_readTarget_85 : decode cX5_readTarget 85 = .ok (.invokestatic 101, 3) := by decide +kernel
theorem dX5_readTarget_88 : decode cX5_readTarget 88 = .ok (.ireturn, 1) := by decide +kernel
theorem dX5_await_0 : decode cX5_await 0 = .ok (.aload_n 0, 1) := by decide +kernel
theorem dX5_await_1 : decode cX5_await 1 = .ok (.getfield 120, 3) := by decide +kernel
theorem dX5_await_4 : decode cX5_await 4 = .ok (.aload_n 0, 1) := by decide +kernel
theorem dX5_await_5 : decode cX5_await 5 = .ok (.getfield 23, 3) := by decide +kernel
theorem dX5_await_8 : decode cX5_await 8 = .ok (.arraylength, 1) := by decide +kernel
theorem dX5_await_9 : decode cX5_await 9 = .ok (.if_icmp .ge 23, 3) := by decide +kernel
theorem dX5_await_12 : decode cX5_await 12 = .ok (.aload_n 0, 1) := by decide +kernel
theorem dX5_await_13 : decode cX5_await 13 = .ok (.getfield 23, 3) := by decide +kernel
theorem dX5_await_16 : decode cX5_await 16 = .ok (.aload_n 0, 1) := by decide +kernel
theorem dX5_await_17 : decode cX5_await 17 = .ok (.getfield 120, 3) := by decide +kernel
theorem dX5_await_20 : decode cX5_await 20 = .ok (.iload_n 1, 1) := by decide +kernel
theorem dX5_await_21 : decode cX5_await 21 = .ok (.iastore, 1) := by decide +kernel
theorem dX5_await_22 : decode cX5_await 22 = .ok (.aload_n 0, 1) := by decide +kernel
theorem dX5_await_23 : decode cX5_await 23 = .ok (.dup, 1) := by decide +kernel
theorem dX5_await_24 : decode cX5_await 24 = .ok (.getfield 120, 3) := by decide +kernel
theorem dX5_await_27 : decode cX5_await 27 = .ok (.iconst 1, 1) := by decide +kernel
theorem dX5_await_28 : decode cX5_await 28 = .ok (.iadd, 1) := by decide +kernel
theorem dX5_await_29 : decode cX5_await 29 = .ok (.putfield 120, 3) := by decide +kernel
theorem dX5_await_32 : decode cX5_await 32 = .ok (.return_, 1) := by decide +kernel
theorem dX5_openBracket_0 : decode cX5_openBracket 0 = .ok (.aload_n 0, 1) := by decide +kernel
theorem dX5_openBracket_1 : decode cX5_openBracket 1 = .ok (.getfield 42, 3) := by decide +kernel
theorem dX5_openBracket_4 : decode cX5_openBracket 4 = .ok (.bipush 8, 2) := by decide +kernel
theorem dX5_openBracket_6 : decode cX5_openBracket 6 = .ok (.if_icmp .lt 19, 3) := by decide +kernel
theorem dX5_openBracket_9 : decode cX5_openBracket 9 = .ok (.aload_n 0, 1) := by decide +kernel
theorem dX5_openBracket_10 : decode cX5_openBracket 10 = .ok (.getfield 31, 3) := by decide +kernel
theorem dX5_openBracket_13 : decode cX5_openBracket 13 = .ok (.iconst 2, 1) := by decide +kernel
theorem dX5_openBracket_14 : decode cX5_openBracket 14 = .ok (.aload_n 0, 1) := by decide +kernel
theorem dX5_openBracket_15 : decode cX5_openBracket 15 = .ok (.getfield 31, 3) := by decide +kernel
theorem dX5_openBracket_18 : decode cX5_openBracket 18 = .ok (.getfield 79, 3) := by decide +kernel
theorem dX5_openBracket_21 : decode cX5_openBracket 21 = .ok (.invokevirtual 82, 3) := by decide +kernel
theorem dX5_openBracket_24 : decode cX5_openBracket 24 = .ok (.return_, 1) := by decide +kernel
theorem dX5_openBracket_25 : decode cX5_openBracket 25 = .ok (.aload_n 0, 1) := by decide +kernel
theorem dX5_openBracket_26 : decode cX5_openBracket 26 = .ok (.dup, 1) := by decide +kernel
theorem dX5_openBracket_27 : decode cX5_openBracket 27 = .ok (.getfield 42, 3) := by decide +kernel
theorem dX5_openBracket_30 : decode cX5_openBracket 30 = .ok (.iconst 1, 1) := by decide +kernel
theorem dX5_openBracket_31 : decode cX5_openBracket 31 = .ok (.iadd, 1) := by decide +kernel
theorem dX5_openBracket_32 : decode cX5_openBracket 32 = .ok (.putfield 42, 3) := by decide +kernel
theorem dX5_openBracket_35 : decode cX5_openBracket 35 = .ok (.aload_n 0, 1) := by decide +kernel
theorem dX5_openBracket_36 : decode cX5_openBracket 36 = .ok (.dup, 1) := by decide +kernel
theorem dX5_openBracket_37 : decode cX5_openBracket 37 = .ok (.getfield 118, 3) := by decide +kernel
theorem dX5_openBracket_40 : decode cX5_openBracket 40 = .ok (.iconst 1, 1) := by decide +kernel
theorem dX5_openBracket_41 : decode cX5_openBracket 41 = .ok (.iadd, 1) := by decide +kernel
theorem dX5_openBracket_42 : decode cX5_openBracket 42 = .ok (.putfield 118, 3) := by decide +kernel
theorem dX5_openBracket_45 : decode cX5_openBracket 45 = .ok (.aload_n 0, 1) := by decide +kernel
theorem dX5_openBracket_46 : decode cX5_openBracket 46 = .ok (.bipush 27, 2) := by decide +kernel
theorem dX5_openBracket_48 : decode cX5_openBracket 48 = .ok (.invokevirtual 142, 3) := by decide +kernel
theorem dX5_openBracket_51 : decode cX5_openBracket 51 = .ok (.return_, 1) := by decide +kernel
theorem dX5_countKnot_0 : decode cX5_countKnot 0 = .ok (.aload_n 0, 1) := by decide +kernel
theorem dX5_countKnot_1 : decode cX5_countKnot 1 = .ok (.getfield 27, 3) := by decide +kernel
theorem dX5_countKnot_4 : decode cX5_countKnot 4 = .ok (.getfield 151, 3) := by decide +kernel
theorem dX5_countKnot_7 : decode cX5_countKnot 7 = .ok (.bipush 64, 2) := by decide +kernel
theorem dX5_countKnot_9 : decode cX5_countKnot 9 = .ok (.if_icmp .lt 20, 3) := by decide +kernel
theorem dX5_countKnot_12 : decode cX5_countKnot 12 = .ok (.aload_n 0, 1) := by decide +kernel
theorem dX5_countKnot_13 : decode cX5_countKnot 13 = .ok (.getfield 31, 3) := by decide +kernel
theorem dX5_countKnot_16 : decode cX5_countKnot 16 = .ok (.iconst 2, 1) := by decide +kernel
theorem dX5_countKnot_17 : decode cX5_countKnot 17 = .ok (.aload_n 0, 1) := by decide +kernel
theorem dX5_countKnot_18 : decode cX5_countKnot 18 = .ok (.getfield 31, 3) := by decide +kernel
theorem dX5_countKnot_21 : decode cX5_countKnot 21 = .ok (.getfield 79, 3) := by decide +kernel
theorem dX5_countKnot_24 : decode cX5_countKnot 24 = .ok (.invokevirtual 82, 3) := by decide +kernel
theorem dX5_countKnot_27 : decode cX5_countKnot 27 = .ok (.iconst 0, 1) := by decide +kernel
theorem dX5_countKnot_28 : decode cX5_countKnot 28 = .ok (.ireturn, 1) := by decide +kernel
theorem dX5_countKnot_29 : decode cX5_countKnot 29 = .ok (.aload_n 0, 1) := by decide +kernel
theorem dX5_countKnot_30 : decode cX5_countKnot 30 = .ok (.getfield 27, 3) := by decide +kernel
theorem dX5_countKnot_33 : decode cX5_countKnot 33 = .ok (.dup, 1) := by decide +kernel
theorem dX5_countKnot_34 : decode cX5_countKnot 34 = .ok (.getfield 151, 3) := by decide +kernel
theorem dX5_countKnot_37 : decode cX5_countKnot 37 = .ok (.iconst 1, 1) := by decide +kernel
theorem dX5_countKnot_38 : decode cX5_countKnot 38 = .ok (.iadd, 1) := by decide +kernel
theorem dX5_countKnot_39 : decode cX5_countKnot 39 = .ok (.putfield 151, 3) := by decide +kernel
theorem dX5_countKnot_42 : decode cX5_countKnot 42 = .ok (.iconst 1, 1) := by decide +kernel
theorem dX5_countKnot_43 : decode cX5_countKnot 43 = .ok (.ireturn, 1) := by decide +kernel
theorem dX4_addCode_0 : decode cX4_addCode 0 = .ok (.aload_n 0, 1) := by decide +kernel
theorem dX4_addCode_1 : decode cX4_addCode 1 = .ok (.getfield 26, 3) := by decide +kernel
theorem dX4_addCode_4 : decode cX4_addCode 4 = .ok (.bipush 64, 2) := by decide +kernel
theorem dX4_addCode_6 : decode cX4_addCode 6 = .ok (.if_icmp .ge 23, 3) := by decide +kernel
theorem dX4_addCode_9 : decode cX4_addCode 9 = .ok (.aload_n 0, 1) := by decide +kernel
theorem dX4_addCode_10 : decode cX4_addCode 10 = .ok (.getfield 9, 3) := by decide +kernel
theorem dX4_addCode_13 : decode cX4_addCode 13 = .ok (.aload_n 0, 1) := by decide +kernel
theorem dX4_addCode_14 : decode cX4_addCode 14 = .ok (.getfield 26, 3) := by decide +kernel
theorem dX4_addCode_17 : decode cX4_addCode 17 = .ok (.iload_n 1, 1) := by decide +kernel
theorem dX4_addCode_18 : decode cX4_addCode 18 = .ok (.iastore, 1) := by decide +kernel
theorem dX4_addCode_19 : decode cX4_addCode 19 = .ok (.aload_n 0, 1) := by decide +kernel
theorem dX4_addCode_20 : decode cX4_addCode 20 = .ok (.dup, 1) := by decide +kernel
theorem dX4_addCode_21 : decode cX4_addCode 21 = .ok (.getfield 26, 3) := by decide +kernel
theorem dX4_addCode_24 : decode cX4_addCode 24 = .ok (.iconst 1, 1) := by decide +kernel
theorem dX4_addCode_25 : decode cX4_addCode 25 = .ok (.iadd, 1) := by decide +kernel
theorem dX4_addCode_26 : decode cX4_addCode 26 = .ok (.putfield 26, 3) := by decide +kernel
theorem dX4_addCode_29 : decode cX4_addCode 29 = .ok (.return_, 1) := by decide +kernel
theorem dX5_takeOperand_0 : decode cX5_takeOperand 0 = .ok (.aload_n 0, 1) := by decide +kernel
theorem dX5_takeOperand_1 : decode cX5_takeOperand 1 = .ok (.getfield 27, 3) := by decide +kernel
theorem dX5_takeOperand_4 : decode cX5_takeOperand 4 = .ok (.getfield 86, 3) := by decide +kernel
theorem dX5_takeOperand_7 : decode cX5_takeOperand 7 = .ok (.bipush 64, 2) := by decide +kernel
theorem dX5_takeOperand_9 : decode cX5_takeOperand 9 = .ok (.if_icmp .ge 41, 3) := by decide +kernel
theorem dX5_takeOperand_12 : decode cX5_takeOperand 12 = .ok (.aload_n 0, 1) := by decide +kernel
theorem dX5_takeOperand_13 : decode cX5_takeOperand 13 = .ok (.getfield 17, 3) := by decide +kernel
theorem dX5_takeOperand_16 : decode cX5_takeOperand 16 = .ok (.aload_n 0, 1) := by decide +kernel
theorem dX5_takeOperand_17 : decode cX5_takeOperand 17 = .ok (.getfield 27, 3) := by decide +kernel
theorem dX5_takeOperand_20 : decode cX5_takeOperand 20 = .ok (.getfield 86, 3) := by decide +kernel
theorem dX5_takeOperand_23 : decode cX5_takeOperand 23 = .ok (.aload_n 0, 1) := by decide +kernel
theorem dX5_takeOperand_24 : decode cX5_takeOperand 24 = .ok (.getfield 31, 3) := by decide +kernel
theorem dX5_takeOperand_27 : decode cX5_takeOperand 27 = .ok (.getfield 112, 3) := by decide +kernel
theorem dX5_takeOperand_30 : decode cX5_takeOperand 30 = .ok (.iastore, 1) := by decide +kernel
theorem dX5_takeOperand_31 : decode cX5_takeOperand 31 = .ok (.aload_n 0, 1) := by decide +kernel
theorem dX5_takeOperand_32 : decode cX5_takeOperand 32 = .ok (.getfield 20, 3) := by decide +kernel
theorem dX5_takeOperand_35 : decode cX5_takeOperand 35 = .ok (.aload_n 0, 1) := by decide +kernel
theorem dX5_takeOperand_36 : decode cX5_takeOperand 36 = .ok (.getfield 27, 3) := by decide +kernel
theorem dX5_takeOperand_39 : decode cX5_takeOperand 39 = .ok (.getfield 86, 3) := by decide +kernel
theorem dX5_takeOperand_42 : decode cX5_takeOperand 42 = .ok (.aload_n 0, 1) := by decide +kernel
theorem dX5_takeOperand_43 : decode cX5_takeOperand 43 = .ok (.getfield 31, 3) := by decide +kernel
theorem dX5_takeOperand_46 : decode cX5_takeOperand 46 = .ok (.getfield 79, 3) := by decide +kernel
theorem dX5_takeOperand_49 : decode cX5_takeOperand 49 = .ok (.iastore, 1) := by decide +kernel
theorem dX5_takeOperand_50 : decode cX5_takeOperand 50 = .ok (.aload_n 0, 1) := by decide +kernel
theorem dX5_takeOperand_51 : decode cX5_takeOperand 51 = .ok (.getfield 27, 3) := by decide +kernel
theorem dX5_takeOperand_54 : decode cX5_takeOperand 54 = .ok (.iload_n 1, 1) := by decide +kernel
theorem dX5_takeOperand_55 : decode cX5_takeOperand 55 = .ok (.invokevirtual 148, 3) := by decide +kernel
theorem dX5_takeOperand_58 : decode cX5_takeOperand 58 = .ok (.return_, 1) := by decide +kernel
theorem dX5_readOperand_0 : decode cX5_readOperand 0 = .ok (.aload_n 0, 1) := by decide +kernel
theorem dX5_readOperand_1 : decode cX5_readOperand 1 = .ok (.getfield 31, 3) := by decide +kernel
theorem dX5_readOperand_4 : decode cX5_readOperand 4 = .ok (.getfield 95, 3) := by decide +kernel
theorem dX5_readOperand_7 : decode cX5_readOperand 7 = .ok (.istore_n 1, 1) := by decide +kernel
theorem dX5_readOperand_8 : decode cX5_readOperand 8 = .ok (.aload_n 0, 1) := by decide +kernel
theorem dX5_readOperand_9 : decode cX5_readOperand 9 = .ok (.getfield 31, 3) := by decide +kernel
theorem dX5_readOperand_12 : decode cX5_readOperand 12 = .ok (.bipush 40, 2) := by decide +kernel
theorem dX5_readOperand_14 : decode cX5_readOperand 14 = .ok (.invokevirtual 75, 3) := by decide +kernel
theorem dX5_readOperand_17 : decode cX5_readOperand 17 = .ok (.ifCond .eq 9, 3) := by decide +kernel
theorem dX5_readOperand_20 : decode cX5_readOperand 20 = .ok (.aload_n 0, 1) := by decide +kernel
theorem dX5_readOperand_21 : decode cX5_readOperand 21 = .ok (.invokevirtual 136, 3) := by decide +kernel
theorem dX5_readOperand_24 : decode cX5_readOperand 24 = .ok (.iconst 1, 1) := by decide +kernel
theorem dX5_readOperand_25 : decode cX5_readOperand 25 = .ok (.ireturn, 1) := by decide +kernel
theorem dX5_readOperand_26 : decode cX5_readOperand 26 = .ok (.iload_n 1, 1) := by decide +kernel
theorem dX5_readOperand_27 : decode cX5_readOperand 27 = .ok (.bipush 7, 2) := by decide +kernel
theorem dX5_readOperand_29 : decode cX5_readOperand 29 = .ok (.if_icmp .ne 18, 3) := by decide +kernel
theorem dX5_readOperand_32 : decode cX5_readOperand 32 = .ok (.aload_n 0, 1) := by decide +kernel
theorem dX5_readOperand_33 : decode cX5_readOperand 33 = .ok (.invokevirtual 139, 3) := by decide +kernel
theorem dX5_readOperand_36 : decode cX5_readOperand 36 = .ok (.ifCond .eq 9, 3) := by decide +kernel
theorem dX5_readOperand_39 : decode cX5_readOperand 39 = .ok (.aload_n 0, 1) := by decide +kernel
theorem dX5_readOperand_40 : decode cX5_readOperand 40 = .ok (.bipush 26, 2) := by decide +kernel
theorem dX5_readOperand_42 : decode cX5_readOperand 42 = .ok (.invokevirtual 142, 3) := by decide +kernel
theorem dX5_readOperand_45 : decode cX5_readOperand 45 = .ok (.iconst 1, 1) := by decide +kernel
theorem dX5_readOperand_46 : decode cX5_readOperand 46 = .ok (.ireturn, 1) := by decide +kernel
theorem dX5_readOperand_47 : decode cX5_readOperand 47 = .ok (.iload_n 1, 1) := by decide +kernel
theorem dX5_readOperand_48 : decode cX5_readOperand 48 = .ok (.bipush 8, 2) := by decide +kernel
theorem dX5_readOperand_50 : decode cX5_readOperand 50 = .ok (.if_icmp .lt 13, 3) := by decide +kernel
theorem dX5_readOperand_53 : decode cX5_readOperand 53 = .ok (.iload_n 1, 1) := by decide +kernel
theorem dX5_readOperand_54 : decode cX5_readOperand 54 = .ok (.bipush 11, 2) := by decide +kernel
theorem dX5_readOperand_56 : decode cX5_readOperand 56 = .ok (.if_icmp .gt 7, 3) := by decide +kernel
theorem dX5_readOperand_59 : decode cX5_readOperand 59 = .ok (.iconst 1, 1) := by decide +kernel
theorem dX5_readOperand_60 : decode cX5_readOperand 60 = .ok (.goto 4, 3) := by decide +kernel
theorem dX5_readOperand_63 : decode cX5_readOperand 63 = .ok (.iconst 0, 1) := by decide +kernel
theorem dX5_readOperand_64 : decode cX5_readOperand 64 = .ok (.istore_n 2, 1) := by decide +kernel
theorem dX5_readOperand_65 : decode cX5_readOperand 65 = .ok (.iload_n 2, 1) := by decide +kernel
theorem dX5_readOperand_66 : decode cX5_readOperand 66 = .ok (.ifCond .ne 28, 3) := by decide +kernel
theorem dX5_readOperand_69 : decode cX5_readOperand 69 = .ok (.aload_n 0, 1) := by decide +kernel
theorem dX5_readOperand_70 : decode cX5_readOperand 70 = .ok (.invokevirtual 108, 3) := by decide +kernel
theorem dX5_readOperand_73 : decode cX5_readOperand 73 = .ok (.ifCond .ne 21, 3) := by decide +kernel
theorem dX5_readOperand_76 : decode cX5_readOperand 76 = .ok (.aload_n 0, 1) := by decide +kernel
theorem dX5_readOperand_77 : decode cX5_readOperand 77 = .ok (.getfield 31, 3) := by decide +kernel
theorem dX5_readOperand_80 : decode cX5_readOperand 80 = .ok (.iconst 1, 1) := by decide +kernel
theorem dX5_readOperand_81 : decode cX5_readOperand 81 = .ok (.aload_n 0, 1) := by decide +kernel
theorem dX5_readOperand_82 : decode cX5_readOperand 82 = .ok (.getfield 31, 3) := by decide +kernel
theorem dX5_readOperand_85 : decode cX5_readOperand 85 = .ok (.getfield 79, 3) := by decide +kernel
theorem dX5_readOperand_88 : decode cX5_readOperand 88 = .ok (.invokevirtual 82, 3) := by decide +kernel
theorem dX5_readOperand_91 : decode cX5_readOperand 91 = .ok (.goto 30, 3) := by decide +kernel
theorem dX5_readOperand_94 : decode cX5_readOperand 94 = .ok (.aload_n 0, 1) := by decide +kernel
theorem dX5_readOperand_95 : decode cX5_readOperand 95 = .ok (.invokevirtual 139, 3) := by decide +kernel
theorem dX5_readOperand_98 : decode cX5_readOperand 98 = .ok (.ifCond .eq 23, 3) := by decide +kernel
theorem dX5_readOperand_101 : decode cX5_readOperand 101 = .ok (.aload_n 0, 1) := by decide +kernel
theorem dX5_readOperand_102 : decode cX5_readOperand 102 = .ok (.iload_n 2, 1) := by decide +kernel
theorem dX5_readOperand_103 : decode cX5_readOperand 103 = .ok (.ifCond .eq 13, 3) := by decide +kernel
theorem dX5_readOperand_106 : decode cX5_readOperand 106 = .ok (.bipush 20, 2) := by decide +kernel
theorem dX5_readOperand_108 : decode cX5_readOperand 108 = .ok (.iload_n 1, 1) := by decide +kernel
theorem dX5_readOperand_109 : decode cX5_readOperand 109 = .ok (.iadd, 1) := by decide +kernel
theorem dX5_readOperand_110 : decode cX5_readOperand 110 = .ok (.bipush 8, 2) := by decide +kernel
theorem dX5_readOperand_112 : decode cX5_readOperand 112 = .ok (.isub, 1) := by decide +kernel
theorem dX5_readOperand_113 : decode cX5_readOperand 113 = .ok (.goto 5, 3) := by decide +kernel
theorem dX5_readOperand_116 : decode cX5_readOperand 116 = .ok (.bipush 28, 2) := by decide +kernel
theorem dX5_readOperand_118 : decode cX5_readOperand 118 = .ok (.invokevirtual 145, 3) := by decide +kernel
theorem dX5_readOperand_121 : decode cX5_readOperand 121 = .ok (.iconst 0, 1) := by decide +kernel
theorem dX5_readOperand_122 : decode cX5_readOperand 122 = .ok (.ireturn, 1) := by decide +kernel
theorem dX5_joinDownTo_0 : decode cX5_joinDownTo 0 = .ok (.aload_n 0, 1) := by decide +kernel
theorem dX5_joinDownTo_1 : decode cX5_joinDownTo 1 = .ok (.getfield 120, 3) := by decide +kernel
theorem dX5_joinDownTo_4 : decode cX5_joinDownTo 4 = .ok (.ifCond .le 63, 3) := by decide +kernel
theorem dX5_joinDownTo_7 : decode cX5_joinDownTo 7 = .ok (.aload_n 0, 1) := by decide +kernel
theorem dX5_joinDownTo_8 : decode cX5_joinDownTo 8 = .ok (.getfield 23, 3) := by decide +kernel
theorem dX5_joinDownTo_11 : decode cX5_joinDownTo 11 = .ok (.aload_n 0, 1) := by decide +kernel
theorem dX5_joinDownTo_12 : decode cX5_joinDownTo 12 = .ok (.getfield 120, 3) := by decide +kernel
theorem dX5_joinDownTo_15 : decode cX5_joinDownTo 15 = .ok (.iconst 1, 1) := by decide +kernel
theorem dX5_joinDownTo_16 : decode cX5_joinDownTo 16 = .ok (.isub, 1) := by decide +kernel
theorem dX5_joinDownTo_17 : decode cX5_joinDownTo 17 = .ok (.iaload, 1) := by decide +kernel
theorem dX5_joinDownTo_18 : decode cX5_joinDownTo 18 = .ok (.iload_n 1, 1) := by decide +kernel
theorem dX5_joinDownTo_19 : decode cX5_joinDownTo 19 = .ok (.if_icmp .lt 48, 3) := by decide +kernel
theorem dX5_joinDownTo_22 : decode cX5_joinDownTo 22 = .ok (.aload_n 0, 1) := by decide +kernel
theorem dX5_joinDownTo_23 : decode cX5_joinDownTo 23 = .ok (.getfield 23, 3) := by decide +kernel
theorem dX5_joinDownTo_26 : decode cX5_joinDownTo 26 = .ok (.aload_n 0, 1) := by decide +kernel
theorem dX5_joinDownTo_27 : decode cX5_joinDownTo 27 = .ok (.getfield 120, 3) := by decide +kernel
theorem dX5_joinDownTo_30 : decode cX5_joinDownTo 30 = .ok (.iconst 1, 1) := by decide +kernel
theorem dX5_joinDownTo_31 : decode cX5_joinDownTo 31 = .ok (.isub, 1) := by decide +kernel
theorem dX5_joinDownTo_32 : decode cX5_joinDownTo 32 = .ok (.iaload, 1) := by decide +kernel
theorem dX5_joinDownTo_33 : decode cX5_joinDownTo 33 = .ok (.bipush 27, 2) := by decide +kernel
theorem dX5_joinDownTo_35 : decode cX5_joinDownTo 35 = .ok (.if_icmp .eq 32, 3) := by decide +kernel
theorem dX5_joinDownTo_38 : decode cX5_joinDownTo 38 = .ok (.aload_n 0, 1) := by decide +kernel
theorem dX5_joinDownTo_39 : decode cX5_joinDownTo 39 = .ok (.dup, 1) := by decide +kernel
theorem dX5_joinDownTo_40 : decode cX5_joinDownTo 40 = .ok (.getfield 120, 3) := by decide +kernel
theorem dX5_joinDownTo_43 : decode cX5_joinDownTo 43 = .ok (.iconst 1, 1) := by decide +kernel
theorem dX5_joinDownTo_44 : decode cX5_joinDownTo 44 = .ok (.isub, 1) := by decide +kernel
theorem dX5_joinDownTo_45 : decode cX5_joinDownTo 45 = .ok (.putfield 120, 3) := by decide +kernel
theorem dX5_joinDownTo_48 : decode cX5_joinDownTo 48 = .ok (.aload_n 0, 1) := by decide +kernel
theorem dX5_joinDownTo_49 : decode cX5_joinDownTo 49 = .ok (.getfield 27, 3) := by decide +kernel
theorem dX5_joinDownTo_52 : decode cX5_joinDownTo 52 = .ok (.aload_n 0, 1) := by decide +kernel
theorem dX5_joinDownTo_53 : decode cX5_joinDownTo 53 = .ok (.getfield 23, 3) := by decide +kernel
theorem dX5_joinDownTo_56 : decode cX5_joinDownTo 56 = .ok (.aload_n 0, 1) := by decide +kernel
theorem dX5_joinDownTo_57 : decode cX5_joinDownTo 57 = .ok (.getfield 120, 3) := by decide +kernel
theorem dX5_joinDownTo_60 : decode cX5_joinDownTo 60 = .ok (.iaload, 1) := by decide +kernel
theorem dX5_joinDownTo_61 : decode cX5_joinDownTo 61 = .ok (.invokevirtual 148, 3) := by decide +kernel
theorem dX5_joinDownTo_64 : decode cX5_joinDownTo 64 = .ok (.goto (-64), 3) := by decide +kernel
theorem dX5_joinDownTo_67 : decode cX5_joinDownTo 67 = .ok (.return_, 1) := by decide +kernel
theorem dX5_closeBracket_0 : decode cX5_closeBracket 0 = .ok (.aload_n 0, 1) := by decide +kernel
theorem dX5_closeBracket_1 : decode cX5_closeBracket 1 = .ok (.bipush 24, 2) := by decide +kernel
theorem dX5_closeBracket_3 : decode cX5_closeBracket 3 = .ok (.invokevirtual 126, 3) := by decide +kernel
theorem dX5_closeBracket_6 : decode cX5_closeBracket 6 = .ok (.aload_n 0, 1) := by decide +kernel
theorem dX5_closeBracket_7 : decode cX5_closeBracket 7 = .ok (.dup, 1) := by decide +kernel
theorem dX5_closeBracket_8 : decode cX5_closeBracket 8 = .ok (.getfield 118, 3) := by decide +kernel
theorem dX5_closeBracket_11 : decode cX5_closeBracket 11 = .ok (.iconst 1, 1) := by decide +kernel
theorem dX5_closeBracket_12 : decode cX5_closeBracket 12 = .ok (.isub, 1) := by decide +kernel
theorem dX5_closeBracket_13 : decode cX5_closeBracket 13 = .ok (.putfield 118, 3) := by decide +kernel
theorem dX5_closeBracket_16 : decode cX5_closeBracket 16 = .ok (.aload_n 0, 1) := by decide +kernel
theorem dX5_closeBracket_17 : decode cX5_closeBracket 17 = .ok (.getfield 120, 3) := by decide +kernel
theorem dX5_closeBracket_20 : decode cX5_closeBracket 20 = .ok (.ifCond .le 13, 3) := by decide +kernel
theorem dX5_closeBracket_23 : decode cX5_closeBracket 23 = .ok (.aload_n 0, 1) := by decide +kernel
theorem dX5_closeBracket_24 : decode cX5_closeBracket 24 = .ok (.dup, 1) := by decide +kernel
theorem dX5_closeBracket_25 : decode cX5_closeBracket 25 = .ok (.getfield 120, 3) := by decide +kernel
theorem dX5_closeBracket_28 : decode cX5_closeBracket 28 = .ok (.iconst 1, 1) := by decide +kernel
theorem dX5_closeBracket_29 : decode cX5_closeBracket 29 = .ok (.isub, 1) := by decide +kernel
theorem dX5_closeBracket_30 : decode cX5_closeBracket 30 = .ok (.putfield 120, 3) := by decide +kernel
theorem dX5_closeBracket_33 : decode cX5_closeBracket 33 = .ok (.return_, 1) := by decide +kernel
theorem dX5_readJoint_0 : decode cX5_readJoint 0 = .ok (.aload_n 0, 1) := by decide +kernel
theorem dX5_readJoint_1 : decode cX5_readJoint 1 = .ok (.getfield 31, 3) := by decide +kernel
theorem dX5_readJoint_4 : decode cX5_readJoint 4 = .ok (.getfield 95, 3) := by decide +kernel
theorem dX5_readJoint_7 : decode cX5_readJoint 7 = .ok (.istore_n 1, 1) := by decide +kernel
theorem dX5_readJoint_8 : decode cX5_readJoint 8 = .ok (.iload_n 1, 1) := by decide +kernel
theorem dX5_readJoint_9 : decode cX5_readJoint 9 = .ok (.iconst 5, 1) := by decide +kernel
theorem dX5_readJoint_10 : decode cX5_readJoint 10 = .ok (.if_icmp .eq 27, 3) := by decide +kernel
theorem dX5_readJoint_13 : decode cX5_readJoint 13 = .ok (.iload_n 1, 1) := by decide +kernel
theorem dX5_readJoint_14 : decode cX5_readJoint 14 = .ok (.bipush 6, 2) := by decide +kernel
theorem dX5_readJoint_16 : decode cX5_readJoint 16 = .ok (.if_icmp .eq 21, 3) := by decide +kernel
theorem dX5_readJoint_19 : decode cX5_readJoint 19 = .ok (.aload_n 0, 1) := by decide +kernel
theorem dX5_readJoint_20 : decode cX5_readJoint 20 = .ok (.getfield 31, 3) := by decide +kernel
theorem dX5_readJoint_23 : decode cX5_readJoint 23 = .ok (.iconst 1, 1) := by decide +kernel
theorem dX5_readJoint_24 : decode cX5_readJoint 24 = .ok (.aload_n 0, 1) := by decide +kernel
theorem dX5_readJoint_25 : decode cX5_readJoint 25 = .ok (.getfield 31, 3) := by decide +kernel
theorem dX5_readJoint_28 : decode cX5_readJoint 28 = .ok (.getfield 79, 3) := by decide +kernel
theorem dX5_readJoint_31 : decode cX5_readJoint 31 = .ok (.invokevirtual 82, 3) := by decide +kernel
theorem dX5_readJoint_34 : decode cX5_readJoint 34 = .ok (.goto 33, 3) := by decide +kernel
theorem dX5_readJoint_37 : decode cX5_readJoint 37 = .ok (.aload_n 0, 1) := by decide +kernel
theorem dX5_readJoint_38 : decode cX5_readJoint 38 = .ok (.invokevirtual 139, 3) := by decide +kernel
theorem dX5_readJoint_41 : decode cX5_readJoint 41 = .ok (.ifCond .eq 26, 3) := by decide +kernel
theorem dX5_readJoint_44 : decode cX5_readJoint 44 = .ok (.iload_n 1, 1) := by decide +kernel
theorem dX5_readJoint_45 : decode cX5_readJoint 45 = .ok (.iconst 5, 1) := by decide +kernel
theorem dX5_readJoint_46 : decode cX5_readJoint 46 = .ok (.if_icmp .ne 8, 3) := by decide +kernel
theorem dX5_readJoint_49 : decode cX5_readJoint 49 = .ok (.bipush 24, 2) := by decide +kernel
theorem dX5_readJoint_51 : decode cX5_readJoint 51 = .ok (.goto 5, 3) := by decide +kernel
theorem dX5_readJoint_54 : decode cX5_readJoint 54 = .ok (.bipush 25, 2) := by decide +kernel
theorem dX5_readJoint_56 : decode cX5_readJoint 56 = .ok (.istore_n 2, 1) := by decide +kernel
theorem dX5_readJoint_57 : decode cX5_readJoint 57 = .ok (.aload_n 0, 1) := by decide +kernel
theorem dX5_readJoint_58 : decode cX5_readJoint 58 = .ok (.iload_n 2, 1) := by decide +kernel
theorem dX5_readJoint_59 : decode cX5_readJoint 59 = .ok (.invokevirtual 126, 3) := by decide +kernel
theorem dX5_readJoint_62 : decode cX5_readJoint 62 = .ok (.aload_n 0, 1) := by decide +kernel
theorem dX5_readJoint_63 : decode cX5_readJoint 63 = .ok (.iload_n 2, 1) := by decide +kernel
theorem dX5_readJoint_64 : decode cX5_readJoint 64 = .ok (.invokevirtual 142, 3) := by decide +kernel
theorem dX5_readJoint_67 : decode cX5_readJoint 67 = .ok (.return_, 1) := by decide +kernel
theorem dX5_readExpression_0 : decode cX5_readExpression 0 = .ok (.aload_n 0, 1) := by decide +kernel
theorem dX5_readExpression_1 : decode cX5_readExpression 1 = .ok (.iconst 0, 1) := by decide +kernel
theorem dX5_readExpression_2 : decode cX5_readExpression 2 = .ok (.putfield 118, 3) := by decide +kernel
theorem dX5_readExpression_5 : decode cX5_readExpression 5 = .ok (.aload_n 0, 1) := by decide +kernel
theorem dX5_readExpression_6 : decode cX5_readExpression 6 = .ok (.iconst 0, 1) := by decide +kernel
theorem dX5_readExpression_7 : decode cX5_readExpression 7 = .ok (.putfield 120, 3) := by decide +kernel
theorem dX5_readExpression_10 : decode cX5_readExpression 10 = .ok (.iconst 1, 1) := by decide +kernel
theorem dX5_readExpression_11 : decode cX5_readExpression 11 = .ok (.istore_n 1, 1) := by decide +kernel
theorem dX5_readExpression_12 : decode cX5_readExpression 12 = .ok (.iconst 0, 1) := by decide +kernel
theorem dX5_readExpression_13 : decode cX5_readExpression 13 = .ok (.istore_n 2, 1) := by decide +kernel
theorem dX5_readExpression_14 : decode cX5_readExpression 14 = .ok (.iload_n 2, 1) := by decide +kernel
theorem dX5_readExpression_15 : decode cX5_readExpression 15 = .ok (.sipush 500, 3) := by decide +kernel
theorem dX5_readExpression_18 : decode cX5_readExpression 18 = .ok (.if_icmp .gt 106, 3) := by decide +kernel
theorem dX5_readExpression_21 : decode cX5_readExpression 21 = .ok (.aload_n 0, 1) := by decide +kernel
theorem dX5_readExpression_22 : decode cX5_readExpression 22 = .ok (.getfield 31, 3) := by decide +kernel
theorem dX5_readExpression_25 : decode cX5_readExpression 25 = .ok (.getfield 53, 3) := by decide +kernel
theorem dX5_readExpression_28 : decode cX5_readExpression 28 = .ok (.ifCond .ne 96, 3) := by decide +kernel
theorem dX5_readExpression_31 : decode cX5_readExpression 31 = .ok (.iload_n 1, 1) := by decide +kernel
theorem dX5_readExpression_32 : decode cX5_readExpression 32 = .ok (.ifCond .eq 11, 3) := by decide +kernel
theorem dX5_readExpression_35 : decode cX5_readExpression 35 = .ok (.aload_n 0, 1) := by decide +kernel
theorem dX5_readExpression_36 : decode cX5_readExpression 36 = .ok (.invokevirtual 123, 3) := by decide +kernel
theorem dX5_readExpression_39 : decode cX5_readExpression 39 = .ok (.istore_n 1, 1) := by decide +kernel
theorem dX5_readExpression_40 : decode cX5_readExpression 40 = .ok (.goto 61, 3) := by decide +kernel
theorem dX5_readExpression_43 : decode cX5_readExpression 43 = .ok (.aload_n 0, 1) := by decide +kernel
theorem dX5_readExpression_44 : decode cX5_readExpression 44 = .ok (.getfield 118, 3) := by decide +kernel
theorem dX5_readExpression_47 : decode cX5_readExpression 47 = .ok (.ifCond .ne 22, 3) := by decide +kernel
theorem dX5_readExpression_50 : decode cX5_readExpression 50 = .ok (.aload_n 0, 1) := by decide +kernel
theorem dX5_readExpression_51 : decode cX5_readExpression 51 = .ok (.getfield 31, 3) := by decide +kernel
theorem dX5_readExpression_54 : decode cX5_readExpression 54 = .ok (.bipush 59, 2) := by decide +kernel
theorem dX5_readExpression_56 : decode cX5_readExpression 56 = .ok (.invokevirtual 75, 3) := by decide +kernel
theorem dX5_readExpression_59 : decode cX5_readExpression 59 = .ok (.ifCond .eq 10, 3) := by decide +kernel
theorem dX5_readExpression_62 : decode cX5_readExpression 62 = .ok (.aload_n 0, 1) := by decide +kernel
theorem dX5_readExpression_63 : decode cX5_readExpression 63 = .ok (.bipush 24, 2) := by decide +kernel
theorem dX5_readExpression_65 : decode cX5_readExpression 65 = .ok (.invokevirtual 126, 3) := by decide +kernel
theorem dX5_readExpression_68 : decode cX5_readExpression 68 = .ok (.return_, 1) := by decide +kernel
theorem dX5_readExpression_69 : decode cX5_readExpression 69 = .ok (.aload_n 0, 1) := by decide +kernel
theorem dX5_readExpression_70 : decode cX5_readExpression 70 = .ok (.getfield 118, 3) := by decide +kernel
theorem dX5_readExpression_73 : decode cX5_readExpression 73 = .ok (.ifCond .le 22, 3) := by decide +kernel
theorem dX5_readExpression_76 : decode cX5_readExpression 76 = .ok (.aload_n 0, 1) := by decide +kernel
theorem dX5_readExpression_77 : decode cX5_readExpression 77 = .ok (.getfield 31, 3) := by decide +kernel
theorem dX5_readExpression_80 : decode cX5_readExpression 80 = .ok (.bipush 41, 2) := by decide +kernel
theorem dX5_readExpression_82 : decode cX5_readExpression 82 = .ok (.invokevirtual 75, 3) := by decide +kernel
theorem dX5_readExpression_85 : decode cX5_readExpression 85 = .ok (.ifCond .eq 10, 3) := by decide +kernel
theorem dX5_readExpression_88 : decode cX5_readExpression 88 = .ok (.aload_n 0, 1) := by decide +kernel
theorem dX5_readExpression_89 : decode cX5_readExpression 89 = .ok (.invokevirtual 130, 3) := by decide +kernel
theorem dX5_readExpression_92 : decode cX5_readExpression 92 = .ok (.goto 9, 3) := by decide +kernel
theorem dX5_readExpression_95 : decode cX5_readExpression 95 = .ok (.aload_n 0, 1) := by decide +kernel
theorem dX5_readExpression_96 : decode cX5_readExpression 96 = .ok (.invokevirtual 133, 3) := by decide +kernel
theorem dX5_readExpression_99 : decode cX5_readExpression 99 = .ok (.iconst 1, 1) := by decide +kernel
theorem dX5_readExpression_100 : decode cX5_readExpression 100 = .ok (.istore_n 1, 1) := by decide +kernel
theorem dX5_readExpression_101 : decode cX5_readExpression 101 = .ok (.aload_n 0, 1) := by decide +kernel
theorem dX5_readExpression_102 : decode cX5_readExpression 102 = .ok (.getfield 31, 3) := by decide +kernel
theorem dX5_readExpression_105 : decode cX5_readExpression 105 = .ok (.getfield 53, 3) := by decide +kernel
theorem dX5_readExpression_108 : decode cX5_readExpression 108 = .ok (.ifCond .ne 10, 3) := by decide +kernel
theorem dX5_readExpression_111 : decode cX5_readExpression 111 = .ok (.aload_n 0, 1) := by decide +kernel
theorem dX5_readExpression_112 : decode cX5_readExpression 112 = .ok (.getfield 31, 3) := by decide +kernel
theorem dX5_readExpression_115 : decode cX5_readExpression 115 = .ok (.invokevirtual 72, 3) := by decide +kernel
theorem dX5_readExpression_118 : decode cX5_readExpression 118 = .ok (.iinc 2 1, 3) := by decide +kernel
theorem dX5_readExpression_121 : decode cX5_readExpression 121 = .ok (.goto (-107), 3) := by decide +kernel
theorem dX5_readExpression_124 : decode cX5_readExpression 124 = .ok (.return_, 1) := by decide +kernel
theorem dX5_readLine_0 : decode cX5_readLine 0 = .ok (.aload_n 0, 1) := by decide +kernel
theorem dX5_readLine_1 : decode cX5_readLine 1 = .ok (.invokevirtual 65, 3) := by decide +kernel
theorem dX5_readLine_4 : decode cX5_readLine 4 = .ok (.istore_n 1, 1) := by decide +kernel
theorem dX5_readLine_5 : decode cX5_readLine 5 = .ok (.aload_n 0, 1) := by decide +kernel
theorem dX5_readLine_6 : decode cX5_readLine 6 = .ok (.getfield 31, 3) := by decide +kernel
theorem dX5_readLine_9 : decode cX5_readLine 9 = .ok (.getfield 53, 3) := by decide +kernel
theorem dX5_readLine_12 : decode cX5_readLine 12 = .ok (.ifCond .ne 19, 3) := by decide +kernel
theorem dX5_readLine_15 : decode cX5_readLine 15 = .ok (.iload_n 1, 1) := by decide +kernel
theorem dX5_readLine_16 : decode cX5_readLine 16 = .ok (.ifCond .lt 15, 3) := by decide +kernel
theorem dX5_readLine_19 : decode cX5_readLine 19 = .ok (.iload_n 1, 1) := by decide +kernel
theorem dX5_readLine_20 : decode cX5_readLine 20 = .ok (.aload_n 0, 1) := by decide +kernel
theorem dX5_readLine_21 : decode cX5_readLine 21 = .ok (.getfield 27, 3) := by decide +kernel
theorem dX5_readLine_24 : decode cX5_readLine 24 = .ok (.getfield 69, 3) := by decide +kernel
theorem dX5_readLine_27 : decode cX5_readLine 27 = .ok (.arraylength, 1) := by decide +kernel
theorem dX5_readLine_28 : decode cX5_readLine 28 = .ok (.if_icmp .lt 4, 3) := by decide +kernel
theorem dX5_readLine_31 : decode cX5_readLine 31 = .ok (.return_, 1) := by decide +kernel
theorem dX5_readLine_32 : decode cX5_readLine 32 = .ok (.aload_n 0, 1) := by decide +kernel
theorem dX5_readLine_33 : decode cX5_readLine 33 = .ok (.getfield 31, 3) := by decide +kernel
theorem dX5_readLine_36 : decode cX5_readLine 36 = .ok (.invokevirtual 72, 3) := by decide +kernel
theorem dX5_readLine_39 : decode cX5_readLine 39 = .ok (.aload_n 0, 1) := by decide +kernel
theorem dX5_readLine_40 : decode cX5_readLine 40 = .ok (.getfield 31, 3) := by decide +kernel
theorem dX5_readLine_43 : decode cX5_readLine 43 = .ok (.bipush 61, 2) := by decide +kernel
theorem dX5_readLine_45 : decode cX5_readLine 45 = .ok (.invokevirtual 75, 3) := by decide +kernel
theorem dX5_readLine_48 : decode cX5_readLine 48 = .ok (.ifCond .ne 19, 3) := by decide +kernel
theorem dX5_readLine_51 : decode cX5_readLine 51 = .ok (.aload_n 0, 1) := by decide +kernel
theorem dX5_readLine_52 : decode cX5_readLine 52 = .ok (.getfield 31, 3) := by decide +kernel
theorem dX5_readLine_55 : decode cX5_readLine 55 = .ok (.iconst 1, 1) := by decide +kernel
theorem dX5_readLine_56 : decode cX5_readLine 56 = .ok (.aload_n 0, 1) := by decide +kernel
theorem dX5_readLine_57 : decode cX5_readLine 57 = .ok (.getfield 31, 3) := by decide +kernel
theorem dX5_readLine_60 : decode cX5_readLine 60 = .ok (.getfield 79, 3) := by decide +kernel
theorem dX5_readLine_63 : decode cX5_readLine 63 = .ok (.invokevirtual 82, 3) := by decide +kernel
theorem dX5_readLine_66 : decode cX5_readLine 66 = .ok (.return_, 1) := by decide +kernel
theorem dX5_readLine_67 : decode cX5_readLine 67 = .ok (.aload_n 0, 1) := by decide +kernel
theorem dX5_readLine_68 : decode cX5_readLine 68 = .ok (.getfield 31, 3) := by decide +kernel
theorem dX5_readLine_71 : decode cX5_readLine 71 = .ok (.invokevirtual 72, 3) := by decide +kernel
theorem dX5_readLine_74 : decode cX5_readLine 74 = .ok (.aload_n 0, 1) := by decide +kernel
theorem dX5_readLine_75 : decode cX5_readLine 75 = .ok (.getfield 27, 3) := by decide +kernel
theorem dX5_readLine_78 : decode cX5_readLine 78 = .ok (.getfield 69, 3) := by decide +kernel
theorem dX5_readLine_81 : decode cX5_readLine 81 = .ok (.iload_n 1, 1) := by decide +kernel
theorem dX5_readLine_82 : decode cX5_readLine 82 = .ok (.aload_n 0, 1) := by decide +kernel
theorem dX5_readLine_83 : decode cX5_readLine 83 = .ok (.getfield 27, 3) := by decide +kernel
theorem dX5_readLine_86 : decode cX5_readLine 86 = .ok (.getfield 86, 3) := by decide +kernel
theorem dX5_readLine_89 : decode cX5_readLine 89 = .ok (.iastore, 1) := by decide +kernel
theorem dX5_readLine_90 : decode cX5_readLine 90 = .ok (.aload_n 0, 1) := by decide +kernel
theorem dX5_readLine_91 : decode cX5_readLine 91 = .ok (.invokevirtual 89, 3) := by decide +kernel
theorem dX5_readLine_94 : decode cX5_readLine 94 = .ok (.aload_n 0, 1) := by decide +kernel
theorem dX5_readLine_95 : decode cX5_readLine 95 = .ok (.getfield 27, 3) := by decide +kernel
theorem dX5_readLine_98 : decode cX5_readLine 98 = .ok (.getfield 92, 3) := by decide +kernel
theorem dX5_readLine_101 : decode cX5_readLine 101 = .ok (.iload_n 1, 1) := by decide +kernel
theorem dX5_readLine_102 : decode cX5_readLine 102 = .ok (.aload_n 0, 1) := by decide +kernel
theorem dX5_readLine_103 : decode cX5_readLine 103 = .ok (.getfield 27, 3) := by decide +kernel
theorem dX5_readLine_106 : decode cX5_readLine 106 = .ok (.getfield 86, 3) := by decide +kernel
theorem dX5_readLine_109 : decode cX5_readLine 109 = .ok (.iastore, 1) := by decide +kernel
theorem dX5_readLine_110 : decode cX5_readLine 110 = .ok (.aload_n 0, 1) := by decide +kernel
theorem dX5_readLine_111 : decode cX5_readLine 111 = .ok (.getfield 31, 3) := by decide +kernel
theorem dX5_readLine_114 : decode cX5_readLine 114 = .ok (.getfield 53, 3) := by decide +kernel
theorem dX5_readLine_117 : decode cX5_readLine 117 = .ok (.ifCond .ne 10, 3) := by decide +kernel
theorem dX5_readLine_120 : decode cX5_readLine 120 = .ok (.aload_n 0, 1) := by decide +kernel
theorem dX5_readLine_121 : decode cX5_readLine 121 = .ok (.getfield 31, 3) := by decide +kernel
theorem dX5_readLine_124 : decode cX5_readLine 124 = .ok (.invokevirtual 72, 3) := by decide +kernel
theorem dX5_readLine_127 : decode cX5_readLine 127 = .ok (.return_, 1) := by decide +kernel
theorem dX5_findNames_0 : decode cX5_findNames 0 = .ok (.iconst 0, 1) := by decide +kernel
theorem dX5_findNames_1 : decode cX5_findNames 1 = .ok (.istore_n 1, 1) := by decide +kernel
theorem dX5_findNames_2 : decode cX5_findNames 2 = .ok (.iload_n 1, 1) := by decide +kernel
theorem dX5_findNames_3 : decode cX5_findNames 3 = .ok (.aload_n 0, 1) := by decide +kernel
theorem dX5_findNames_4 : decode cX5_findNames 4 = .ok (.getfield 27, 3) := by decide +kernel
theorem dX5_findNames_7 : decode cX5_findNames 7 = .ok (.getfield 86, 3) := by decide +kernel
theorem dX5_findNames_10 : decode cX5_findNames 10 = .ok (.if_icmp .ge 76, 3) := by decide +kernel
theorem dX5_findNames_13 : decode cX5_findNames 13 = .ok (.aload_n 0, 1) := by decide +kernel
theorem dX5_findNames_14 : decode cX5_findNames 14 = .ok (.getfield 31, 3) := by decide +kernel
theorem dX5_findNames_17 : decode cX5_findNames 17 = .ok (.getfield 53, 3) := by decide +kernel
theorem dX5_findNames_20 : decode cX5_findNames 20 = .ok (.ifCond .ne 66, 3) := by decide +kernel
theorem dX5_findNames_23 : decode cX5_findNames 23 = .ok (.aload_n 0, 1) := by decide +kernel
theorem dX5_findNames_24 : decode cX5_findNames 24 = .ok (.getfield 27, 3) := by decide +kernel
theorem dX5_findNames_27 : decode cX5_findNames 27 = .ok (.getfield 154, 3) := by decide +kernel
theorem dX5_findNames_30 : decode cX5_findNames 30 = .ok (.iload_n 1, 1) := by decide +kernel
theorem dX5_findNames_31 : decode cX5_findNames 31 = .ok (.iaload, 1) := by decide +kernel
theorem dX5_findNames_32 : decode cX5_findNames 32 = .ok (.bipush 28, 2) := by decide +kernel
theorem dX5_findNames_34 : decode cX5_findNames 34 = .ok (.if_icmp .ne 46, 3) := by decide +kernel
theorem dX5_findNames_37 : decode cX5_findNames 37 = .ok (.aload_n 0, 1) := by decide +kernel
theorem dX5_findNames_38 : decode cX5_findNames 38 = .ok (.aload_n 0, 1) := by decide +kernel
theorem dX5_findNames_39 : decode cX5_findNames 39 = .ok (.getfield 17, 3) := by decide +kernel
theorem dX5_findNames_42 : decode cX5_findNames 42 = .ok (.iload_n 1, 1) := by decide +kernel
theorem dX5_findNames_43 : decode cX5_findNames 43 = .ok (.iaload, 1) := by decide +kernel
theorem dX5_findNames_44 : decode cX5_findNames 44 = .ok (.invokevirtual 115, 3) := by decide +kernel
theorem dX5_findNames_47 : decode cX5_findNames 47 = .ok (.istore_n 2, 1) := by decide +kernel
theorem dX5_findNames_48 : decode cX5_findNames 48 = .ok (.iload_n 2, 1) := by decide +kernel
theorem dX5_findNames_49 : decode cX5_findNames 49 = .ok (.iconst (-1), 1) := by decide +kernel
theorem dX5_findNames_50 : decode cX5_findNames 50 = .ok (.if_icmp .ne 20, 3) := by decide +kernel
theorem dX5_findNames_53 : decode cX5_findNames 53 = .ok (.aload_n 0, 1) := by decide +kernel
theorem dX5_findNames_54 : decode cX5_findNames 54 = .ok (.getfield 31, 3) := by decide +kernel
theorem dX5_findNames_57 : decode cX5_findNames 57 = .ok (.iconst 4, 1) := by decide +kernel
theorem dX5_findNames_58 : decode cX5_findNames 58 = .ok (.aload_n 0, 1) := by decide +kernel
theorem dX5_findNames_59 : decode cX5_findNames 59 = .ok (.getfield 20, 3) := by decide +kernel
theorem dX5_findNames_62 : decode cX5_findNames 62 = .ok (.iload_n 1, 1) := by decide +kernel
theorem dX5_findNames_63 : decode cX5_findNames 63 = .ok (.iaload, 1) := by decide +kernel
theorem dX5_findNames_64 : decode cX5_findNames 64 = .ok (.invokevirtual 82, 3) := by decide +kernel
theorem dX5_findNames_67 : decode cX5_findNames 67 = .ok (.goto 13, 3) := by decide +kernel
theorem dX5_findNames_70 : decode cX5_findNames 70 = .ok (.aload_n 0, 1) := by decide +kernel
theorem dX5_findNames_71 : decode cX5_findNames 71 = .ok (.getfield 27, 3) := by decide +kernel
theorem dX5_findNames_74 : decode cX5_findNames 74 = .ok (.getfield 154, 3) := by decide +kernel
theorem dX5_findNames_77 : decode cX5_findNames 77 = .ok (.iload_n 1, 1) := by decide +kernel
theorem dX5_findNames_78 : decode cX5_findNames 78 = .ok (.iload_n 2, 1) := by decide +kernel
theorem dX5_findNames_79 : decode cX5_findNames 79 = .ok (.iastore, 1) := by decide +kernel
theorem dX5_findNames_80 : decode cX5_findNames 80 = .ok (.iinc 1 1, 3) := by decide +kernel
theorem dX5_findNames_83 : decode cX5_findNames 83 = .ok (.goto (-81), 3) := by decide +kernel
theorem dX5_findNames_86 : decode cX5_findNames 86 = .ok (.return_, 1) := by decide +kernel
theorem dX5_read_0 : decode cX5_read 0 = .ok (.aload_n 0, 1) := by decide +kernel
theorem dX5_read_1 : decode cX5_read 1 = .ok (.getfield 27, 3) := by decide +kernel
theorem dX5_read_4 : decode cX5_read 4 = .ok (.invokevirtual 35, 3) := by decide +kernel
theorem dX5_read_7 : decode cX5_read 7 = .ok (.aload_n 0, 1) := by decide +kernel
theorem dX5_read_8 : decode cX5_read 8 = .ok (.iconst 0, 1) := by decide +kernel
theorem dX5_read_9 : decode cX5_read 9 = .ok (.putfield 38, 3) := by decide +kernel
theorem dX5_read_12 : decode cX5_read 12 = .ok (.aload_n 0, 1) := by decide +kernel
theorem dX5_read_13 : decode cX5_read 13 = .ok (.iconst 0, 1) := by decide +kernel
theorem dX5_read_14 : decode cX5_read 14 = .ok (.putfield 42, 3) := by decide +kernel
theorem dX5_read_17 : decode cX5_read 17 = .ok (.aload_n 0, 1) := by decide +kernel
theorem dX5_read_18 : decode cX5_read 18 = .ok (.getfield 31, 3) := by decide +kernel
theorem dX5_read_21 : decode cX5_read 21 = .ok (.iload_n 1, 1) := by decide +kernel
theorem dX5_read_22 : decode cX5_read 22 = .ok (.ldc 45, 2) := by decide +kernel
theorem dX5_read_24 : decode cX5_read 24 = .ok (.invokevirtual 47, 3) := by decide +kernel
theorem dX5_read_27 : decode cX5_read 27 = .ok (.iconst 0, 1) := by decide +kernel
theorem dX5_read_28 : decode cX5_read 28 = .ok (.istore_n 2, 1) := by decide +kernel
theorem dX5_read_29 : decode cX5_read 29 = .ok (.iload_n 2, 1) := by decide +kernel
theorem dX5_read_30 : decode cX5_read 30 = .ok (.sipush 500, 3) := by decide +kernel
theorem dX5_read_33 : decode cX5_read 33 = .ok (.if_icmp .gt 33, 3) := by decide +kernel
theorem dX5_read_36 : decode cX5_read 36 = .ok (.aload_n 0, 1) := by decide +kernel
theorem dX5_read_37 : decode cX5_read 37 = .ok (.getfield 31, 3) := by decide +kernel
theorem dX5_read_40 : decode cX5_read 40 = .ok (.getfield 53, 3) := by decide +kernel
theorem dX5_read_43 : decode cX5_read 43 = .ok (.ifCond .ne 23, 3) := by decide +kernel
theorem dX5_read_46 : decode cX5_read 46 = .ok (.aload_n 0, 1) := by decide +kernel
theorem dX5_read_47 : decode cX5_read 47 = .ok (.getfield 31, 3) := by decide +kernel
theorem dX5_read_50 : decode cX5_read 50 = .ok (.getfield 56, 3) := by decide +kernel
theorem dX5_read_53 : decode cX5_read 53 = .ok (.ifCond .eq 13, 3) := by decide +kernel
theorem dX5_read_56 : decode cX5_read 56 = .ok (.aload_n 0, 1) := by decide +kernel
theorem dX5_read_57 : decode cX5_read 57 = .ok (.invokevirtual 59, 3) := by decide +kernel
theorem dX5_read_60 : decode cX5_read 60 = .ok (.iinc 2 1, 3) := by decide +kernel
theorem dX5_read_63 : decode cX5_read 63 = .ok (.goto (-34), 3) := by decide +kernel
theorem dX5_read_66 : decode cX5_read 66 = .ok (.aload_n 0, 1) := by decide +kernel
theorem dX5_read_67 : decode cX5_read 67 = .ok (.getfield 31, 3) := by decide +kernel
theorem dX5_read_70 : decode cX5_read 70 = .ok (.getfield 53, 3) := by decide +kernel
theorem dX5_read_73 : decode cX5_read 73 = .ok (.ifCond .ne 7, 3) := by decide +kernel
theorem dX5_read_76 : decode cX5_read 76 = .ok (.aload_n 0, 1) := by decide +kernel
theorem dX5_read_77 : decode cX5_read 77 = .ok (.invokevirtual 62, 3) := by decide +kernel
theorem dX5_read_80 : decode cX5_read 80 = .ok (.aload_n 0, 1) := by decide +kernel
theorem dX5_read_81 : decode cX5_read 81 = .ok (.getfield 31, 3) := by decide +kernel
theorem dX5_read_84 : decode cX5_read 84 = .ok (.getfield 53, 3) := by decide +kernel
theorem dX5_read_87 : decode cX5_read 87 = .ok (.ifCond .ne 7, 3) := by decide +kernel
theorem dX5_read_90 : decode cX5_read 90 = .ok (.iconst 1, 1) := by decide +kernel
theorem dX5_read_91 : decode cX5_read 91 = .ok (.goto 4, 3) := by decide +kernel
theorem dX5_read_94 : decode cX5_read 94 = .ok (.iconst 0, 1) := by decide +kernel
theorem dX5_read_95 : decode cX5_read 95 = .ok (.ireturn, 1) := by decide +kernel
theorem dX5_exchange_0 : decode cX5_exchange 0 = .ok (.aload_n 0, 1) := by decide +kernel
theorem dX5_exchange_1 : decode cX5_exchange 1 = .ok (.getfield 27, 3) := by decide +kernel
theorem dX5_exchange_4 : decode cX5_exchange 4 = .ok (.astore_n 2, 1) := by decide +kernel
theorem dX5_exchange_5 : decode cX5_exchange 5 = .ok (.aload_n 0, 1) := by decide +kernel
theorem dX5_exchange_6 : decode cX5_exchange 6 = .ok (.aload_n 1, 1) := by decide +kernel
theorem dX5_exchange_7 : decode cX5_exchange 7 = .ok (.putfield 27, 3) := by decide +kernel
theorem dX5_exchange_10 : decode cX5_exchange 10 = .ok (.aload_n 2, 1) := by decide +kernel
theorem dX5_exchange_11 : decode cX5_exchange 11 = .ok (.areturn, 1) := by decide +kernel
theorem dX0_renew_0 : decode cX0_renew 0 = .ok (.aload_n 0, 1) := by decide +kernel
theorem dX0_renew_1 : decode cX0_renew 1 = .ok (.iconst 0, 1) := by decide +kernel
theorem dX0_renew_2 : decode cX0_renew 2 = .ok (.putfield 9, 3) := by decide +kernel
theorem dX0_renew_5 : decode cX0_renew 5 = .ok (.aload_n 0, 1) := by decide +kernel
theorem dX0_renew_6 : decode cX0_renew 6 = .ok (.iconst 0, 1) := by decide +kernel
theorem dX0_renew_7 : decode cX0_renew 7 = .ok (.putfield 15, 3) := by decide +kernel
theorem dX0_renew_10 : decode cX0_renew 10 = .ok (.aload_n 0, 1) := by decide +kernel
theorem dX0_renew_11 : decode cX0_renew 11 = .ok (.iconst 0, 1) := by decide +kernel
theorem dX0_renew_12 : decode cX0_renew 12 = .ok (.putfield 18, 3) := by decide +kernel
theorem dX0_renew_15 : decode cX0_renew 15 = .ok (.aload_n 0, 1) := by decide +kernel
theorem dX0_renew_16 : decode cX0_renew 16 = .ok (.iconst 0, 1) := by decide +kernel
theorem dX0_renew_17 : decode cX0_renew 17 = .ok (.putfield 21, 3) := by decide +kernel
theorem dX0_renew_20 : decode cX0_renew 20 = .ok (.return_, 1) := by decide +kernel
theorem dX10_net_0 : decode cX10_net 0 = .ok (.iload_n 1, 1) := by decide +kernel
theorem dX10_net_1 : decode cX10_net 1 = .ok (.ifCond .lt 14, 3) := by decide +kernel
theorem dX10_net_4 : decode cX10_net 4 = .ok (.iload_n 1, 1) := by decide +kernel
theorem dX10_net_5 : decode cX10_net 5 = .ok (.aload_n 0, 1) := by decide +kernel
theorem dX10_net_6 : decode cX10_net 6 = .ok (.getfield 10, 3) := by decide +kernel
theorem dX10_net_9 : decode cX10_net 9 = .ok (.getfield 104, 3) := by decide +kernel
theorem dX10_net_12 : decode cX10_net 12 = .ok (.if_icmp .le 6, 3) := by decide +kernel
theorem dX10_net_15 : decode cX10_net 15 = .ok (.bipush (-2), 2) := by decide +kernel
theorem dX10_net_17 : decode cX10_net 17 = .ok (.ireturn, 1) := by decide +kernel
theorem dX10_net_18 : decode cX10_net 18 = .ok (.aload_n 0, 1) := by decide +kernel
theorem dX10_net_19 : decode cX10_net 19 = .ok (.getfield 28, 3) := by decide +kernel
theorem dX10_net_22 : decode cX10_net 22 = .ok (.iload_n 1, 1) := by decide +kernel
theorem dX10_net_23 : decode cX10_net 23 = .ok (.invokevirtual 124, 3) := by decide +kernel
theorem dX10_net_26 : decode cX10_net 26 = .ok (.ifCond .ne 5, 3) := by decide +kernel
theorem dX10_net_29 : decode cX10_net 29 = .ok (.iconst (-1), 1) := by decide +kernel
theorem dX10_net_30 : decode cX10_net 30 = .ok (.ireturn, 1) := by decide +kernel
theorem dX10_net_31 : decode cX10_net 31 = .ok (.aload_n 0, 1) := by decide +kernel
theorem dX10_net_32 : decode cX10_net 32 = .ok (.aload_n 0, 1) := by decide +kernel
theorem dX10_net_33 : decode cX10_net 33 = .ok (.getfield 28, 3) := by decide +kernel
theorem dX10_net_36 : decode cX10_net 36 = .ok (.aload_n 0, 1) := by decide +kernel
theorem dX10_net_37 : decode cX10_net 37 = .ok (.getfield 42, 3) := by decide +kernel
theorem dX10_net_40 : decode cX10_net 40 = .ok (.invokevirtual 125, 3) := by decide +kernel
theorem dX10_net_43 : decode cX10_net 43 = .ok (.putfield 42, 3) := by decide +kernel
theorem dX10_net_46 : decode cX10_net 46 = .ok (.aload_n 0, 1) := by decide +kernel
theorem dX10_net_47 : decode cX10_net 47 = .ok (.getfield 63, 3) := by decide +kernel
theorem dX10_net_50 : decode cX10_net 50 = .ok (.invokevirtual 128, 3) := by decide +kernel
theorem dX10_net_53 : decode cX10_net 53 = .ok (.aload_n 0, 1) := by decide +kernel
theorem dX10_net_54 : decode cX10_net 54 = .ok (.iconst 0, 1) := by decide +kernel
theorem dX10_net_55 : decode cX10_net 55 = .ok (.putfield 131, 3) := by decide +kernel
theorem dX10_net_58 : decode cX10_net 58 = .ok (.aload_n 0, 1) := by decide +kernel
theorem dX10_net_59 : decode cX10_net 59 = .ok (.getfield 42, 3) := by decide +kernel
theorem dX10_net_62 : decode cX10_net 62 = .ok (.getfield 134, 3) := by decide +kernel
theorem dX10_net_65 : decode cX10_net 65 = .ok (.ireturn, 1) := by decide +kernel
theorem dX10_fault_0 : decode cX10_fault 0 = .ok (.iload_n 1, 1) := by decide +kernel
theorem dX10_fault_1 : decode cX10_fault 1 = .ok (.lookupswitch 43 #[(0, 27), (1, 35)], 27) := by decide +kernel
theorem dX10_fault_28 : decode cX10_fault 28 = .ok (.aload_n 0, 1) := by decide +kernel
theorem dX10_fault_29 : decode cX10_fault 29 = .ok (.getfield 10, 3) := by decide +kernel
theorem dX10_fault_32 : decode cX10_fault 32 = .ok (.getfield 137, 3) := by decide +kernel
theorem dX10_fault_35 : decode cX10_fault 35 = .ok (.ireturn, 1) := by decide +kernel
theorem dX10_fault_36 : decode cX10_fault 36 = .ok (.aload_n 0, 1) := by decide +kernel
theorem dX10_fault_37 : decode cX10_fault 37 = .ok (.getfield 10, 3) := by decide +kernel
theorem dX10_fault_40 : decode cX10_fault 40 = .ok (.getfield 140, 3) := by decide +kernel
theorem dX10_fault_43 : decode cX10_fault 43 = .ok (.ireturn, 1) := by decide +kernel
theorem dX10_fault_44 : decode cX10_fault 44 = .ok (.iconst (-1), 1) := by decide +kernel
theorem dX10_fault_45 : decode cX10_fault 45 = .ok (.ireturn, 1) := by decide +kernel
theorem dX3_setDown_0 : decode cX3_setDown 0 = .ok (.aload_n 0, 1) := by decide +kernel
theorem dX3_setDown_1 : decode cX3_setDown 1 = .ok (.iload_n 1, 1) := by decide +kernel
theorem dX3_setDown_2 : decode cX3_setDown 2 = .ok (.putfield 19, 3) := by decide +kernel
theorem dX3_setDown_5 : decode cX3_setDown 5 = .ok (.aload_n 0, 1) := by decide +kernel
theorem dX3_setDown_6 : decode cX3_setDown 6 = .ok (.iconst 0, 1) := by decide +kernel
theorem dX3_setDown_7 : decode cX3_setDown 7 = .ok (.putfield 22, 3) := by decide +kernel
theorem dX3_setDown_10 : decode cX3_setDown 10 = .ok (.aload_n 0, 1) := by decide +kernel
theorem dX3_setDown_11 : decode cX3_setDown 11 = .ok (.iconst 0, 1) := by decide +kernel
theorem dX3_setDown_12 : decode cX3_setDown 12 = .ok (.putfield 25, 3) := by decide +kernel
theorem dX3_setDown_15 : decode cX3_setDown 15 = .ok (.aload_n 0, 1) := by decide +kernel
theorem dX3_setDown_16 : decode cX3_setDown 16 = .ok (.iconst 0, 1) := by decide +kernel
theorem dX3_setDown_17 : decode cX3_setDown 17 = .ok (.putfield 28, 3) := by decide +kernel
theorem dX3_setDown_20 : decode cX3_setDown 20 = .ok (.return_, 1) := by decide +kernel
theorem dX3_clearSquares_0 : decode cX3_clearSquares 0 = .ok (.aload_n 0, 1) := by decide +kernel
theorem dX3_clearSquares_1 : decode cX3_clearSquares 1 = .ok (.lconst 0, 1) := by decide +kernel
theorem dX3_clearSquares_2 : decode cX3_clearSquares 2 = .ok (.putfield 38, 3) := by decide +kernel
theorem dX3_clearSquares_5 : decode cX3_clearSquares 5 = .ok (.aload_n 0, 1) := by decide +kernel
theorem dX3_clearSquares_6 : decode cX3_clearSquares 6 = .ok (.lconst 0, 1) := by decide +kernel
theorem dX3_clearSquares_7 : decode cX3_clearSquares 7 = .ok (.putfield 42, 3) := by decide +kernel
theorem dX3_clearSquares_10 : decode cX3_clearSquares 10 = .ok (.iconst 0, 1) := by decide +kernel
theorem dX3_clearSquares_11 : decode cX3_clearSquares 11 = .ok (.istore_n 1, 1) := by decide +kernel
theorem dX3_clearSquares_12 : decode cX3_clearSquares 12 = .ok (.iload_n 1, 1) := by decide +kernel
theorem dX3_clearSquares_13 : decode cX3_clearSquares 13 = .ok (.iconst 3, 1) := by decide +kernel
theorem dX3_clearSquares_14 : decode cX3_clearSquares 14 = .ok (.if_icmp .ge 16, 3) := by decide +kernel
theorem dX3_clearSquares_17 : decode cX3_clearSquares 17 = .ok (.aload_n 0, 1) := by decide +kernel
theorem dX3_clearSquares_18 : decode cX3_clearSquares 18 = .ok (.getfield 15, 3) := by decide +kernel
theorem dX3_clearSquares_21 : decode cX3_clearSquares 21 = .ok (.iload_n 1, 1) := by decide +kernel
theorem dX3_clearSquares_22 : decode cX3_clearSquares 22 = .ok (.lconst 0, 1) := by decide +kernel
theorem dX3_clearSquares_23 : decode cX3_clearSquares 23 = .ok (.lastore, 1) := by decide +kernel
theorem dX3_clearSquares_24 : decode cX3_clearSquares 24 = .ok (.iinc 1 1, 3) := by decide +kernel
theorem dX3_clearSquares_27 : decode cX3_clearSquares 27 = .ok (.goto (-15), 3) := by decide +kernel
theorem dX3_clearSquares_30 : decode cX3_clearSquares 30 = .ok (.return_, 1) := by decide +kernel
theorem dX3_setDownWiped_0 : decode cX3_setDownWiped 0 = .ok (.aload_n 0, 1) := by decide +kernel
theorem dX3_setDownWiped_1 : decode cX3_setDownWiped 1 = .ok (.iload_n 1, 1) := by decide +kernel
theorem dX3_setDownWiped_2 : decode cX3_setDownWiped 2 = .ok (.invokevirtual 31, 3) := by decide +kernel
theorem dX3_setDownWiped_5 : decode cX3_setDownWiped 5 = .ok (.aload_n 0, 1) := by decide +kernel
theorem dX3_setDownWiped_6 : decode cX3_setDownWiped 6 = .ok (.invokevirtual 35, 3) := by decide +kernel
theorem dX3_setDownWiped_9 : decode cX3_setDownWiped 9 = .ok (.return_, 1) := by decide +kernel
theorem dX0_settle_0 : decode cX0_settle 0 = .ok (.aload_n 0, 1) := by decide +kernel
theorem dX0_settle_1 : decode cX0_settle 1 = .ok (.iload_n 1, 1) := by decide +kernel
theorem dX0_settle_2 : decode cX0_settle 2 = .ok (.aload_n 0, 1) := by decide +kernel
theorem dX0_settle_3 : decode cX0_settle 3 = .ok (.getfield 9, 3) := by decide +kernel
theorem dX0_settle_6 : decode cX0_settle 6 = .ok (.iconst (-1), 1) := by decide +kernel
theorem dX0_settle_7 : decode cX0_settle 7 = .ok (.ixor, 1) := by decide +kernel
theorem dX0_settle_8 : decode cX0_settle 8 = .ok (.iand, 1) := by decide +kernel
theorem dX0_settle_9 : decode cX0_settle 9 = .ok (.aload_n 0, 1) := by decide +kernel
theorem dX0_settle_10 : decode cX0_settle 10 = .ok (.getfield 15, 3) := by decide +kernel
theorem dX0_settle_13 : decode cX0_settle 13 = .ok (.ior, 1) := by decide +kernel
theorem dX0_settle_14 : decode cX0_settle 14 = .ok (.putfield 18, 3) := by decide +kernel
theorem dX0_settle_17 : decode cX0_settle 17 = .ok (.return_, 1) := by decide +kernel
theorem dX0_release_0 : decode cX0_release 0 = .ok (.aload_n 0, 1) := by decide +kernel
theorem dX0_release_1 : decode cX0_release 1 = .ok (.iconst 0, 1) := by decide +kernel
theorem dX0_release_2 : decode cX0_release 2 = .ok (.invokevirtual 25, 3) := by decide +kernel
theorem dX0_release_5 : decode cX0_release 5 = .ok (.return_, 1) := by decide +kernel
theorem dX10_floor_0 : decode cX10_floor 0 = .ok (.iload_n 1, 1) := by decide +kernel
theorem dX10_floor_1 : decode cX10_floor 1 = .ok (.iconst 2, 1) := by decide +kernel
theorem dX10_floor_2 : decode cX10_floor 2 = .ok (.if_icmp .lt 20, 3) := by decide +kernel
theorem dX10_floor_5 : decode cX10_floor 5 = .ok (.iload_n 1, 1) := by decide +kernel
theorem dX10_floor_6 : decode cX10_floor 6 = .ok (.bipush 6, 2) := by decide +kernel
theorem dX10_floor_8 : decode cX10_floor 8 = .ok (.if_icmp .gt 14, 3) := by decide +kernel
theorem dX10_floor_11 : decode cX10_floor 11 = .ok (.iload_n 2, 1) := by decide +kernel
theorem dX10_floor_12 : decode cX10_floor 12 = .ok (.iconst 2, 1) := by decide +kernel
theorem dX10_floor_13 : decode cX10_floor 13 = .ok (.if_icmp .lt 9, 3) := by decide +kernel
theorem dX10_floor_16 : decode cX10_floor 16 = .ok (.iload_n 2, 1) := by decide +kernel
theorem dX10_floor_17 : decode cX10_floor 17 = .ok (.bipush 6, 2) := by decide +kernel
theorem dX10_floor_19 : decode cX10_floor 19 = .ok (.if_icmp .le 5, 3) := by decide +kernel
theorem dX10_floor_22 : decode cX10_floor 22 = .ok (.iconst 0, 1) := by decide +kernel
theorem dX10_floor_23 : decode cX10_floor 23 = .ok (.ireturn, 1) := by decide +kernel
theorem dX10_floor_24 : decode cX10_floor 24 = .ok (.aload_n 0, 1) := by decide +kernel
theorem dX10_floor_25 : decode cX10_floor 25 = .ok (.getfield 49, 3) := by decide +kernel
theorem dX10_floor_28 : decode cX10_floor 28 = .ok (.iload_n 1, 1) := by decide +kernel
theorem dX10_floor_29 : decode cX10_floor 29 = .ok (.iload_n 2, 1) := by decide +kernel
theorem dX10_floor_30 : decode cX10_floor 30 = .ok (.invokevirtual 143, 3) := by decide +kernel
theorem dX10_floor_33 : decode cX10_floor 33 = .ok (.aload_n 0, 1) := by decide +kernel
theorem dX10_floor_34 : decode cX10_floor 34 = .ok (.getfield 56, 3) := by decide +kernel
theorem dX10_floor_37 : decode cX10_floor 37 = .ok (.iconst 0, 1) := by decide +kernel
theorem dX10_floor_38 : decode cX10_floor 38 = .ok (.invokevirtual 147, 3) := by decide +kernel
theorem dX10_floor_41 : decode cX10_floor 41 = .ok (.aload_n 0, 1) := by decide +kernel
theorem dX10_floor_42 : decode cX10_floor 42 = .ok (.getfield 56, 3) := by decide +kernel
theorem dX10_floor_45 : decode cX10_floor 45 = .ok (.iconst (-1), 1) := by decide +kernel
theorem dX10_floor_46 : decode cX10_floor 46 = .ok (.putfield 115, 3) := by decide +kernel
theorem dX10_floor_49 : decode cX10_floor 49 = .ok (.aload_n 0, 1) := by decide +kernel
theorem dX10_floor_50 : decode cX10_floor 50 = .ok (.getfield 63, 3) := by decide +kernel
theorem dX10_floor_53 : decode cX10_floor 53 = .ok (.invokevirtual 150, 3) := by decide +kernel
theorem dX10_floor_56 : decode cX10_floor 56 = .ok (.aload_n 0, 1) := by decide +kernel
theorem dX10_floor_57 : decode cX10_floor 57 = .ok (.getfield 10, 3) := by decide +kernel
theorem dX10_floor_60 : decode cX10_floor 60 = .ok (.iconst 0, 1) := by decide +kernel
theorem dX10_floor_61 : decode cX10_floor 61 = .ok (.putfield 104, 3) := by decide +kernel
theorem dX10_floor_64 : decode cX10_floor 64 = .ok (.aload_n 0, 1) := by decide +kernel
theorem dX10_floor_65 : decode cX10_floor 65 = .ok (.iconst 0, 1) := by decide +kernel
theorem dX10_floor_66 : decode cX10_floor 66 = .ok (.putfield 131, 3) := by decide +kernel
theorem dX10_floor_69 : decode cX10_floor 69 = .ok (.iconst 1, 1) := by decide +kernel
theorem dX10_floor_70 : decode cX10_floor 70 = .ok (.ireturn, 1) := by decide +kernel
theorem dX1_has_0 : decode cX1_has 0 = .ok (.iload_n 1, 1) := by decide +kernel
theorem dX1_has_1 : decode cX1_has 1 = .ok (.ifCond .lt 15, 3) := by decide +kernel
theorem dX1_has_4 : decode cX1_has 4 = .ok (.iload_n 1, 1) := by decide +kernel
theorem dX1_has_5 : decode cX1_has 5 = .ok (.aload_n 0, 1) := by decide +kernel
theorem dX1_has_6 : decode cX1_has 6 = .ok (.getfield 33, 3) := by decide +kernel
theorem dX1_has_9 : decode cX1_has 9 = .ok (.if_icmp .ge 7, 3) := by decide +kernel
theorem dX1_has_12 : decode cX1_has 12 = .ok (.iconst 1, 1) := by decide +kernel
theorem dX1_has_13 : decode cX1_has 13 = .ok (.goto 4, 3) := by decide +kernel
theorem dX1_has_16 : decode cX1_has 16 = .ok (.iconst 0, 1) := by decide +kernel
theorem dX1_has_17 : decode cX1_has 17 = .ok (.ireturn, 1) := by decide +kernel
theorem dX10_isSide_0 : decode cX10_isSide 0 = .ok (.iload_n 0, 1) := by decide +kernel
theorem dX10_isSide_1 : decode cX10_isSide 1 = .ok (.ifCond .lt 12, 3) := by decide +kernel
theorem dX10_isSide_4 : decode cX10_isSide 4 = .ok (.iload_n 0, 1) := by decide +kernel
theorem dX10_isSide_5 : decode cX10_isSide 5 = .ok (.iconst 4, 1) := by decide +kernel
theorem dX10_isSide_6 : decode cX10_isSide 6 = .ok (.if_icmp .ge 7, 3) := by decide +kernel
theorem dX10_isSide_9 : decode cX10_isSide 9 = .ok (.iconst 1, 1) := by decide +kernel
theorem dX10_isSide_10 : decode cX10_isSide 10 = .ok (.goto 4, 3) := by decide +kernel
theorem dX10_isSide_13 : decode cX10_isSide 13 = .ok (.iconst 0, 1) := by decide +kernel
theorem dX10_isSide_14 : decode cX10_isSide 14 = .ok (.ireturn, 1) := by decide +kernel
theorem dX1_isRim_0 : decode cX1_isRim 0 = .ok (.aload_n 0, 1) := by decide +kernel
theorem dX1_isRim_1 : decode cX1_isRim 1 = .ok (.getfield 19, 3) := by decide +kernel
theorem dX1_isRim_4 : decode cX1_isRim 4 = .ok (.iload_n 2, 1) := by decide +kernel
theorem dX1_isRim_5 : decode cX1_isRim 5 = .ok (.iconst 3, 1) := by decide +kernel
theorem dX1_isRim_6 : decode cX1_isRim 6 = .ok (.iand, 1) := by decide +kernel
theorem dX1_isRim_7 : decode cX1_isRim 7 = .ok (.laload, 1) := by decide +kernel
theorem dX1_isRim_8 : decode cX1_isRim 8 = .ok (.iload_n 1, 1) := by decide +kernel
theorem dX1_isRim_9 : decode cX1_isRim 9 = .ok (.lushr, 1) := by decide +kernel
theorem dX1_isRim_10 : decode cX1_isRim 10 = .ok (.lconst 1, 1) := by decide +kernel
theorem dX1_isRim_11 : decode cX1_isRim 11 = .ok (.land, 1) := by decide +kernel
theorem dX1_isRim_12 : decode cX1_isRim 12 = .ok (.lconst 0, 1) := by decide +kernel
theorem dX1_isRim_13 : decode cX1_isRim 13 = .ok (.lcmp, 1) := by decide +kernel
theorem dX1_isRim_14 : decode cX1_isRim 14 = .ok (.ifCond .eq 7, 3) := by decide +kernel
theorem dX1_isRim_17 : decode cX1_isRim 17 = .ok (.iconst 1, 1) := by decide +kernel
theorem dX1_isRim_18 : decode cX1_isRim 18 = .ok (.goto 4, 3) := by decide +kernel
theorem dX1_isRim_21 : decode cX1_isRim 21 = .ok (.iconst 0, 1) := by decide +kernel
theorem dX1_isRim_22 : decode cX1_isRim 22 = .ok (.ireturn, 1) := by decide +kernel
theorem dX1_isWalled_0 : decode cX1_isWalled 0 = .ok (.aload_n 0, 1) := by decide +kernel
theorem dX1_isWalled_1 : decode cX1_isWalled 1 = .ok (.getfield 11, 3) := by decide +kernel
theorem dX1_isWalled_4 : decode cX1_isWalled 4 = .ok (.iload_n 2, 1) := by decide +kernel
theorem dX1_isWalled_5 : decode cX1_isWalled 5 = .ok (.iconst 3, 1) := by decide +kernel
theorem dX1_isWalled_6 : decode cX1_isWalled 6 = .ok (.iand, 1) := by decide +kernel
theorem dX1_isWalled_7 : decode cX1_isWalled 7 = .ok (.laload, 1) := by decide +kernel
theorem dX1_isWalled_8 : decode cX1_isWalled 8 = .ok (.iload_n 1, 1) := by decide +kernel
theorem dX1_isWalled_9 : decode cX1_isWalled 9 = .ok (.lushr, 1) := by decide +kernel
theorem dX1_isWalled_10 : decode cX1_isWalled 10 = .ok (.lconst 1, 1) := by decide +kernel
theorem dX1_isWalled_11 : decode cX1_isWalled 11 = .ok (.land, 1) := by decide +kernel
theorem dX1_isWalled_12 : decode cX1_isWalled 12 = .ok (.lconst 0, 1) := by decide +kernel
theorem dX1_isWalled_13 : decode cX1_isWalled 13 = .ok (.lcmp, 1) := by decide +kernel
theorem dX1_isWalled_14 : decode cX1_isWalled 14 = .ok (.ifCond .eq 7, 3) := by decide +kernel
theorem dX1_isWalled_17 : decode cX1_isWalled 17 = .ok (.iconst 1, 1) := by decide +kernel
theorem dX1_isWalled_18 : decode cX1_isWalled 18 = .ok (.goto 4, 3) := by decide +kernel
theorem dX1_isWalled_21 : decode cX1_isWalled 21 = .ok (.iconst 0, 1) := by decide +kernel
theorem dX1_isWalled_22 : decode cX1_isWalled 22 = .ok (.ireturn, 1) := by decide +kernel
theorem dX1_markWall_0 : decode cX1_markWall 0 = .ok (.iload_n 3, 1) := by decide +kernel
theorem dX1_markWall_1 : decode cX1_markWall 1 = .ok (.ifCond .eq 20, 3) := by decide +kernel
theorem dX1_markWall_4 : decode cX1_markWall 4 = .ok (.aload_n 0, 1) := by decide +kernel
theorem dX1_markWall_5 : decode cX1_markWall 5 = .ok (.getfield 11, 3) := by decide +kernel
theorem dX1_markWall_8 : decode cX1_markWall 8 = .ok (.iload_n 2, 1) := by decide +kernel
theorem dX1_markWall_9 : decode cX1_markWall 9 = .ok (.iconst 3, 1) := by decide +kernel
theorem dX1_markWall_10 : decode cX1_markWall 10 = .ok (.iand, 1) := by decide +kernel
theorem dX1_markWall_11 : decode cX1_markWall 11 = .ok (.dup2, 1) := by decide +kernel
theorem dX1_markWall_12 : decode cX1_markWall 12 = .ok (.laload, 1) := by decide +kernel
theorem dX1_markWall_13 : decode cX1_markWall 13 = .ok (.lconst 1, 1) := by decide +kernel
theorem dX1_markWall_14 : decode cX1_markWall 14 = .ok (.iload_n 1, 1) := by decide +kernel
theorem dX1_markWall_15 : decode cX1_markWall 15 = .ok (.lshl, 1) := by decide +kernel
theorem dX1_markWall_16 : decode cX1_markWall 16 = .ok (.lor, 1) := by decide +kernel
theorem dX1_markWall_17 : decode cX1_markWall 17 = .ok (.lastore, 1) := by decide +kernel
theorem dX1_markWall_18 : decode cX1_markWall 18 = .ok (.goto 21, 3) := by decide +kernel
theorem dX1_markWall_21 : decode cX1_markWall 21 = .ok (.aload_n 0, 1) := by decide +kernel
theorem dX1_markWall_22 : decode cX1_markWall 22 = .ok (.getfield 11, 3) := by decide +kernel
theorem dX1_markWall_25 : decode cX1_markWall 25 = .ok (.iload_n 2, 1) := by decide +kernel
theorem dX1_markWall_26 : decode cX1_markWall 26 = .ok (.iconst 3, 1) := by decide +kernel
theorem dX1_markWall_27 : decode cX1_markWall 27 = .ok (.iand, 1) := by decide +kernel
theorem dX1_markWall_28 : decode cX1_markWall 28 = .ok (.dup2, 1) := by decide +kernel
theorem dX1_markWall_29 : decode cX1_markWall 29 = .ok (.laload, 1) := by decide +kernel
theorem dX1_markWall_30 : decode cX1_markWall 30 = .ok (.lconst 1, 1) := by decide +kernel
theorem dX1_markWall_31 : decode cX1_markWall 31 = .ok (.iload_n 1, 1) := by decide +kernel
theorem dX1_markWall_32 : decode cX1_markWall 32 = .ok (.lshl, 1) := by decide +kernel
theorem dX1_markWall_33 : decode cX1_markWall 33 = .ok (.ldc2_w 54, 3) := by decide +kernel
theorem dX1_markWall_36 : decode cX1_markWall 36 = .ok (.lxor, 1) := by decide +kernel
theorem dX1_markWall_37 : decode cX1_markWall 37 = .ok (.land, 1) := by decide +kernel
theorem dX1_markWall_38 : decode cX1_markWall 38 = .ok (.lastore, 1) := by decide +kernel
theorem dX1_markWall_39 : decode cX1_markWall 39 = .ok (.return_, 1) := by decide +kernel
theorem dX1_ahead_0 : decode cX1_ahead 0 = .ok (.iload_n 1, 1) := by decide +kernel
theorem dX1_ahead_1 : decode cX1_ahead 1 = .ok (.aload_n 0, 1) := by decide +kernel
theorem dX1_ahead_2 : decode cX1_ahead 2 = .ok (.getfield 15, 3) := by decide +kernel
theorem dX1_ahead_5 : decode cX1_ahead 5 = .ok (.iload_n 2, 1) := by decide +kernel
theorem dX1_ahead_6 : decode cX1_ahead 6 = .ok (.iconst 3, 1) := by decide +kernel
theorem dX1_ahead_7 : decode cX1_ahead 7 = .ok (.iand, 1) := by decide +kernel
theorem dX1_ahead_8 : decode cX1_ahead 8 = .ok (.iaload, 1) := by decide +kernel
theorem dX1_ahead_9 : decode cX1_ahead 9 = .ok (.iadd, 1) := by decide +kernel
theorem dX1_ahead_10 : decode cX1_ahead 10 = .ok (.ireturn, 1) := by decide +kernel
theorem dX1_putWall_0 : decode cX1_putWall 0 = .ok (.aload_n 0, 1) := by decide +kernel
theorem dX1_putWall_1 : decode cX1_putWall 1 = .ok (.iload_n 1, 1) := by decide +kernel
theorem dX1_putWall_2 : decode cX1_putWall 2 = .ok (.iload_n 2, 1) := by decide +kernel
theorem dX1_putWall_3 : decode cX1_putWall 3 = .ok (.iload_n 3, 1) := by decide +kernel
theorem dX1_putWall_4 : decode cX1_putWall 4 = .ok (.invokevirtual 46, 3) := by decide +kernel
theorem dX1_putWall_7 : decode cX1_putWall 7 = .ok (.aload_n 0, 1) := by decide +kernel
theorem dX1_putWall_8 : decode cX1_putWall 8 = .ok (.aload_n 0, 1) := by decide +kernel
theorem dX1_putWall_9 : decode cX1_putWall 9 = .ok (.iload_n 1, 1) := by decide +kernel
theorem dX1_putWall_10 : decode cX1_putWall 10 = .ok (.iload_n 2, 1) := by decide +kernel
theorem dX1_putWall_11 : decode cX1_putWall 11 = .ok (.invokevirtual 50, 3) := by decide +kernel
theorem dX1_putWall_14 : decode cX1_putWall 14 = .ok (.iload_n 2, 1) := by decide +kernel
theorem dX1_putWall_15 : decode cX1_putWall 15 = .ok (.iconst 2, 1) := by decide +kernel
theorem dX1_putWall_16 : decode cX1_putWall 16 = .ok (.iadd, 1) := by decide +kernel
theorem dX1_putWall_17 : decode cX1_putWall 17 = .ok (.iload_n 3, 1) := by decide +kernel
theorem dX1_putWall_18 : decode cX1_putWall 18 = .ok (.invokevirtual 46, 3) := by decide +kernel
theorem dX1_putWall_21 : decode cX1_putWall 21 = .ok (.return_, 1) := by decide +kernel
theorem dX10_wall_0 : decode cX10_wall 0 = .ok (.aload_n 0, 1) := by decide +kernel
theorem dX10_wall_1 : decode cX10_wall 1 = .ok (.getfield 49, 3) := by decide +kernel
theorem dX10_wall_4 : decode cX10_wall 4 = .ok (.iload_n 1, 1) := by decide +kernel
theorem dX10_wall_5 : decode cX10_wall 5 = .ok (.invokevirtual 153, 3) := by decide +kernel
theorem dX10_wall_8 : decode cX10_wall 8 = .ok (.ifCond .eq 22, 3) := by decide +kernel
theorem dX10_wall_11 : decode cX10_wall 11 = .ok (.iload_n 2, 1) := by decide +kernel
theorem dX10_wall_12 : decode cX10_wall 12 = .ok (.invokestatic 156, 3) := by decide +kernel
theorem dX10_wall_15 : decode cX10_wall 15 = .ok (.ifCond .eq 15, 3) := by decide +kernel
theorem dX10_wall_18 : decode cX10_wall 18 = .ok (.aload_n 0, 1) := by decide +kernel
theorem dX10_wall_19 : decode cX10_wall 19 = .ok (.getfield 49, 3) := by decide +kernel
theorem dX10_wall_22 : decode cX10_wall 22 = .ok (.iload_n 1, 1) := by decide +kernel
theorem dX10_wall_23 : decode cX10_wall 23 = .ok (.iload_n 2, 1) := by decide +kernel
theorem dX10_wall_24 : decode cX10_wall 24 = .ok (.invokevirtual 159, 3) := by decide +kernel
theorem dX10_wall_27 : decode cX10_wall 27 = .ok (.ifCond .eq 5, 3) := by decide +kernel
theorem dX10_wall_30 : decode cX10_wall 30 = .ok (.iconst 0, 1) := by decide +kernel
theorem dX10_wall_31 : decode cX10_wall 31 = .ok (.ireturn, 1) := by decide +kernel
theorem dX10_wall_32 : decode cX10_wall 32 = .ok (.aload_n 0, 1) := by decide +kernel
theorem dX10_wall_33 : decode cX10_wall 33 = .ok (.getfield 49, 3) := by decide +kernel
theorem dX10_wall_36 : decode cX10_wall 36 = .ok (.iload_n 1, 1) := by decide +kernel
theorem dX10_wall_37 : decode cX10_wall 37 = .ok (.iload_n 2, 1) := by decide +kernel
theorem dX10_wall_38 : decode cX10_wall 38 = .ok (.invokevirtual 163, 3) := by decide +kernel
theorem dX10_wall_41 : decode cX10_wall 41 = .ok (.iload_n 3, 1) := by decide +kernel
theorem dX10_wall_42 : decode cX10_wall 42 = .ok (.if_icmp .ne 5, 3) := by decide +kernel
theorem dX10_wall_45 : decode cX10_wall 45 = .ok (.iconst 0, 1) := by decide +kernel
theorem dX10_wall_46 : decode cX10_wall 46 = .ok (.ireturn, 1) := by decide +kernel
theorem dX10_wall_47 : decode cX10_wall 47 = .ok (.aload_n 0, 1) := by decide +kernel
theorem dX10_wall_48 : decode cX10_wall 48 = .ok (.getfield 49, 3) := by decide +kernel
theorem dX10_wall_51 : decode cX10_wall 51 = .ok (.iload_n 1, 1) := by decide +kernel
theorem dX10_wall_52 : decode cX10_wall 52 = .ok (.iload_n 2, 1) := by decide +kernel
theorem dX10_wall_53 : decode cX10_wall 53 = .ok (.iload_n 3, 1) := by decide +kernel
theorem dX10_wall_54 : decode cX10_wall 54 = .ok (.invokevirtual 166, 3) := by decide +kernel
theorem dX10_wall_57 : decode cX10_wall 57 = .ok (.iconst 1, 1) := by decide +kernel
theorem dX10_wall_58 : decode cX10_wall 58 = .ok (.ireturn, 1) := by decide +kernel
theorem dX10_bell_0 : decode cX10_bell 0 = .ok (.aload_n 0, 1) := by decide +kernel
theorem dX10_bell_1 : decode cX10_bell 1 = .ok (.getfield 49, 3) := by decide +kernel
theorem dX10_bell_4 : decode cX10_bell 4 = .ok (.iload_n 1, 1) := by decide +kernel
theorem dX10_bell_5 : decode cX10_bell 5 = .ok (.invokevirtual 153, 3) := by decide +kernel
theorem dX10_bell_8 : decode cX10_bell 8 = .ok (.ifCond .ne 5, 3) := by decide +kernel
theorem dX10_bell_11 : decode cX10_bell 11 = .ok (.iconst 0, 1) := by decide +kernel
theorem dX10_bell_12 : decode cX10_bell 12 = .ok (.ireturn, 1) := by decide +kernel
theorem dX10_bell_13 : decode cX10_bell 13 = .ok (.aload_n 0, 1) := by decide +kernel
theorem dX10_bell_14 : decode cX10_bell 14 = .ok (.getfield 49, 3) := by decide +kernel
theorem dX10_bell_17 : decode cX10_bell 17 = .ok (.iload_n 1, 1) := by decide +kernel
theorem dX10_bell_18 : decode cX10_bell 18 = .ok (.putfield 170, 3) := by decide +kernel
theorem dX10_bell_21 : decode cX10_bell 21 = .ok (.iconst 1, 1) := by decide +kernel
theorem dX10_bell_22 : decode cX10_bell 22 = .ok (.ireturn, 1) := by decide +kernel
theorem dX10_lift_0 : decode cX10_lift 0 = .ok (.aload_n 0, 1) := by decide +kernel
theorem dX10_lift_1 : decode cX10_lift 1 = .ok (.getfield 49, 3) := by decide +kernel
theorem dX10_lift_4 : decode cX10_lift 4 = .ok (.iload_n 1, 1) := by decide +kernel
theorem dX10_lift_5 : decode cX10_lift 5 = .ok (.invokevirtual 153, 3) := by decide +kernel
theorem dX10_lift_8 : decode cX10_lift 8 = .ok (.ifCond .eq 10, 3) := by decide +kernel
theorem dX10_lift_11 : decode cX10_lift 11 = .ok (.iload_n 2, 1) := by decide +kernel
theorem dX10_lift_12 : decode cX10_lift 12 = .ok (.invokestatic 156, 3) := by decide +kernel
theorem dX10_lift_15 : decode cX10_lift 15 = .ok (.ifCond .ne 5, 3) := by decide +kernel
theorem dX10_lift_18 : decode cX10_lift 18 = .ok (.iconst 0, 1) := by decide +kernel
theorem dX10_lift_19 : decode cX10_lift 19 = .ok (.ireturn, 1) := by decide +kernel
theorem dX10_lift_20 : decode cX10_lift 20 = .ok (.aload_n 0, 1) := by decide +kernel
theorem dX10_lift_21 : decode cX10_lift 21 = .ok (.getfield 56, 3) := by decide +kernel
theorem dX10_lift_24 : decode cX10_lift 24 = .ok (.iload_n 1, 1) := by decide +kernel
theorem dX10_lift_25 : decode cX10_lift 25 = .ok (.putfield 173, 3) := by decide +kernel
theorem dX10_lift_28 : decode cX10_lift 28 = .ok (.aload_n 0, 1) := by decide +kernel
theorem dX10_lift_29 : decode cX10_lift 29 = .ok (.getfield 56, 3) := by decide +kernel
theorem dX10_lift_32 : decode cX10_lift 32 = .ok (.iload_n 2, 1) := by decide +kernel
theorem dX10_lift_33 : decode cX10_lift 33 = .ok (.putfield 176, 3) := by decide +kernel
theorem dX10_lift_36 : decode cX10_lift 36 = .ok (.iconst 1, 1) := by decide +kernel
theorem dX10_lift_37 : decode cX10_lift 37 = .ok (.ireturn, 1) := by decide +kernel
theorem dJ13_bitCount_95d88_0 : decode cJ13_bitCount_95d88 0 = .ok (.lload_n 0, 1) := by decide +kernel
theorem dJ13_bitCount_95d88_1 : decode cJ13_bitCount_95d88 1 = .ok (.lload_n 0, 1) := by decide +kernel
theorem dJ13_bitCount_95d88_2 : decode cJ13_bitCount_95d88 2 = .ok (.iconst 1, 1) := by decide +kernel
theorem dJ13_bitCount_95d88_3 : decode cJ13_bitCount_95d88 3 = .ok (.lushr, 1) := by decide +kernel
theorem dJ13_bitCount_95d88_4 : decode cJ13_bitCount_95d88 4 = .ok (.ldc2_w 314, 3) := by decide +kernel
theorem dJ13_bitCount_95d88_7 : decode cJ13_bitCount_95d88 7 = .ok (.land, 1) := by decide +kernel
theorem dJ13_bitCount_95d88_8 : decode cJ13_bitCount_95d88 8 = .ok (.lsub, 1) := by decide +kernel
theorem dJ13_bitCount_95d88_9 : decode cJ13_bitCount_95d88 9 = .ok (.lstore_n 0, 1) := by decide +kernel
theorem dJ13_bitCount_95d88_10 : decode cJ13_bitCount_95d88 10 = .ok (.lload_n 0, 1) := by decide +kernel
theorem dJ13_bitCount_95d88_11 : decode cJ13_bitCount_95d88 11 = .ok (.ldc2_w 316, 3) := by decide +kernel
theorem dJ13_bitCount_95d88_14 : decode cJ13_bitCount_95d88 14 = .ok (.land, 1) := by decide +kernel
theorem dJ13_bitCount_95d88_15 : decode cJ13_bitCount_95d88 15 = .ok (.lload_n 0, 1) := by decide +kernel
theorem dJ13_bitCount_95d88_16 : decode cJ13_bitCount_95d88 16 = .ok (.iconst 2, 1) := by decide +kernel
theorem dJ13_bitCount_95d88_17 : decode cJ13_bitCount_95d88 17 = .ok (.lushr, 1) := by decide +kernel
theorem dJ13_bitCount_95d88_18 : decode cJ13_bitCount_95d88 18 = .ok (.ldc2_w 316, 3) := by decide +kernel
theorem dJ13_bitCount_95d88_21 : decode cJ13_bitCount_95d88 21 = .ok (.land, 1) := by decide +kernel
theorem dJ13_bitCount_95d88_22 : decode cJ13_bitCount_95d88 22 = .ok (.ladd, 1) := by decide +kernel
theorem dJ13_bitCount_95d88_23 : decode cJ13_bitCount_95d88 23 = .ok (.lstore_n 0, 1) := by decide +kernel
theorem dJ13_bitCount_95d88_24 : decode cJ13_bitCount_95d88 24 = .ok (.lload_n 0, 1) := by decide +kernel
theorem dJ13_bitCount_95d88_25 : decode cJ13_bitCount_95d88 25 = .ok (.lload_n 0, 1) := by decide +kernel
theorem dJ13_bitCount_95d88_26 : decode cJ13_bitCount_95d88 26 = .ok (.iconst 4, 1) := by decide +kernel
theorem dJ13_bitCount_95d88_27 : decode cJ13_bitCount_95d88 27 = .ok (.lushr, 1) := by decide +kernel
theorem dJ13_bitCount_95d88_28 : decode cJ13_bitCount_95d88 28 = .ok (.ladd, 1) := by decide +kernel
theorem dJ13_bitCount_95d88_29 : decode cJ13_bitCount_95d88 29 = .ok (.ldc2_w 318, 3) := by decide +kernel
theorem dJ13_bitCount_95d88_32 : decode cJ13_bitCount_95d88 32 = .ok (.land, 1) := by decide +kernel
theorem dJ13_bitCount_95d88_33 : decode cJ13_bitCount_95d88 33 = .ok (.lstore_n 0, 1) := by decide +kernel
theorem dJ13_bitCount_95d88_34 : decode cJ13_bitCount_95d88 34 = .ok (.lload_n 0, 1) := by decide +kernel
theorem dJ13_bitCount_95d88_35 : decode cJ13_bitCount_95d88 35 = .ok (.lload_n 0, 1) := by decide +kernel
theorem dJ13_bitCount_95d88_36 : decode cJ13_bitCount_95d88 36 = .ok (.bipush 8, 2) := by decide +kernel
theorem dJ13_bitCount_95d88_38 : decode cJ13_bitCount_95d88 38 = .ok (.lushr, 1) := by decide +kernel
theorem dJ13_bitCount_95d88_39 : decode cJ13_bitCount_95d88 39 = .ok (.ladd, 1) := by decide +kernel
theorem dJ13_bitCount_95d88_40 : decode cJ13_bitCount_95d88 40 = .ok (.lstore_n 0, 1) := by decide +kernel
theorem dJ13_bitCount_95d88_41 : decode cJ13_bitCount_95d88 41 = .ok (.lload_n 0, 1) := by decide +kernel
theorem dJ13_bitCount_95d88_42 : decode cJ13_bitCount_95d88 42 = .ok (.lload_n 0, 1) := by decide +kernel
theorem dJ13_bitCount_95d88_43 : decode cJ13_bitCount_95d88 43 = .ok (.bipush 16, 2) := by decide +kernel
theorem dJ13_bitCount_95d88_45 : decode cJ13_bitCount_95d88 45 = .ok (.lushr, 1) := by decide +kernel
theorem dJ13_bitCount_95d88_46 : decode cJ13_bitCount_95d88 46 = .ok (.ladd, 1) := by decide +kernel
theorem dJ13_bitCount_95d88_47 : decode cJ13_bitCount_95d88 47 = .ok (.lstore_n 0, 1) := by decide +kernel
theorem dJ13_bitCount_95d88_48 : decode cJ13_bitCount_95d88 48 = .ok (.lload_n 0, 1) := by decide +kernel
theorem dJ13_bitCount_95d88_49 : decode cJ13_bitCount_95d88 49 = .ok (.lload_n 0, 1) := by decide +kernel
theorem dJ13_bitCount_95d88_50 : decode cJ13_bitCount_95d88 50 = .ok (.bipush 32, 2) := by decide +kernel
theorem dJ13_bitCount_95d88_52 : decode cJ13_bitCount_95d88 52 = .ok (.lushr, 1) := by decide +kernel
theorem dJ13_bitCount_95d88_53 : decode cJ13_bitCount_95d88 53 = .ok (.ladd, 1) := by decide +kernel
theorem dJ13_bitCount_95d88_54 : decode cJ13_bitCount_95d88 54 = .ok (.lstore_n 0, 1) := by decide +kernel
theorem dJ13_bitCount_95d88_55 : decode cJ13_bitCount_95d88 55 = .ok (.lload_n 0, 1) := by decide +kernel
theorem dJ13_bitCount_95d88_56 : decode cJ13_bitCount_95d88 56 = .ok (.l2i, 1) := by decide +kernel
theorem dJ13_bitCount_95d88_57 : decode cJ13_bitCount_95d88 57 = .ok (.bipush 127, 2) := by decide +kernel
theorem dJ13_bitCount_95d88_59 : decode cJ13_bitCount_95d88 59 = .ok (.iand, 1) := by decide +kernel
theorem dJ13_bitCount_95d88_60 : decode cJ13_bitCount_95d88 60 = .ok (.ireturn, 1) := by decide +kernel
theorem dX3_markedSquares_0 : decode cX3_markedSquares 0 = .ok (.aload_n 0, 1) := by decide +kernel
theorem dX3_markedSquares_1 : decode cX3_markedSquares 1 = .ok (.getfield 38, 3) := by decide +kernel
theorem dX3_markedSquares_4 : decode cX3_markedSquares 4 = .ok (.aload_n 0, 1) := by decide +kernel
theorem dX3_markedSquares_5 : decode cX3_markedSquares 5 = .ok (.getfield 42, 3) := by decide +kernel
theorem dX3_markedSquares_8 : decode cX3_markedSquares 8 = .ok (.lor, 1) := by decide +kernel
theorem dX3_markedSquares_9 : decode cX3_markedSquares 9 = .ok (.lstore_n 1, 1) := by decide +kernel
theorem dX3_markedSquares_10 : decode cX3_markedSquares 10 = .ok (.iconst 0, 1) := by decide +kernel
theorem dX3_markedSquares_11 : decode cX3_markedSquares 11 = .ok (.istore_n 3, 1) := by decide +kernel
theorem dX3_markedSquares_12 : decode cX3_markedSquares 12 = .ok (.iload_n 3, 1) := by decide +kernel
theorem dX3_markedSquares_13 : decode cX3_markedSquares 13 = .ok (.iconst 3, 1) := by decide +kernel
theorem dX3_markedSquares_14 : decode cX3_markedSquares 14 = .ok (.if_icmp .ge 18, 3) := by decide +kernel
theorem dX3_markedSquares_17 : decode cX3_markedSquares 17 = .ok (.lload_n 1, 1) := by decide +kernel
theorem dX3_markedSquares_18 : decode cX3_markedSquares 18 = .ok (.aload_n 0, 1) := by decide +kernel
theorem dX3_markedSquares_19 : decode cX3_markedSquares 19 = .ok (.getfield 15, 3) := by decide +kernel
theorem dX3_markedSquares_22 : decode cX3_markedSquares 22 = .ok (.iload_n 3, 1) := by decide +kernel
theorem dX3_markedSquares_23 : decode cX3_markedSquares 23 = .ok (.laload, 1) := by decide +kernel
theorem dX3_markedSquares_24 : decode cX3_markedSquares 24 = .ok (.lor, 1) := by decide +kernel
theorem dX3_markedSquares_25 : decode cX3_markedSquares 25 = .ok (.lstore_n 1, 1) := by decide +kernel
theorem dX3_markedSquares_26 : decode cX3_markedSquares 26 = .ok (.iinc 3 1, 3) := by decide +kernel
theorem dX3_markedSquares_29 : decode cX3_markedSquares 29 = .ok (.goto (-17), 3) := by decide +kernel
theorem dX3_markedSquares_32 : decode cX3_markedSquares 32 = .ok (.lload_n 1, 1) := by decide +kernel
theorem dX3_markedSquares_33 : decode cX3_markedSquares 33 = .ok (.invokestatic 45, 3) := by decide +kernel
theorem dX3_markedSquares_36 : decode cX3_markedSquares 36 = .ok (.ireturn, 1) := by decide +kernel
theorem dX10_wipe_0 : decode cX10_wipe 0 = .ok (.aload_n 0, 1) := by decide +kernel
theorem dX10_wipe_1 : decode cX10_wipe 1 = .ok (.getfield 56, 3) := by decide +kernel
theorem dX10_wipe_4 : decode cX10_wipe 4 = .ok (.invokevirtual 179, 3) := by decide +kernel
theorem dX10_wipe_7 : decode cX10_wipe 7 = .ok (.istore_n 1, 1) := by decide +kernel
theorem dX10_wipe_8 : decode cX10_wipe 8 = .ok (.aload_n 0, 1) := by decide +kernel
theorem dX10_wipe_9 : decode cX10_wipe 9 = .ok (.getfield 56, 3) := by decide +kernel
theorem dX10_wipe_12 : decode cX10_wipe 12 = .ok (.invokevirtual 183, 3) := by decide +kernel
theorem dX10_wipe_15 : decode cX10_wipe 15 = .ok (.aload_n 0, 1) := by decide +kernel
theorem dX10_wipe_16 : decode cX10_wipe 16 = .ok (.getfield 56, 3) := by decide +kernel
theorem dX10_wipe_19 : decode cX10_wipe 19 = .ok (.iconst 0, 1) := by decide +kernel
theorem dX10_wipe_20 : decode cX10_wipe 20 = .ok (.putfield 186, 3) := by decide +kernel
theorem dX10_wipe_23 : decode cX10_wipe 23 = .ok (.aload_n 0, 1) := by decide +kernel
theorem dX10_wipe_24 : decode cX10_wipe 24 = .ok (.getfield 56, 3) := by decide +kernel
theorem dX10_wipe_27 : decode cX10_wipe 27 = .ok (.iconst 0, 1) := by decide +kernel
theorem dX10_wipe_28 : decode cX10_wipe 28 = .ok (.putfield 189, 3) := by decide +kernel
theorem dX10_wipe_31 : decode cX10_wipe 31 = .ok (.aload_n 0, 1) := by decide +kernel
theorem dX10_wipe_32 : decode cX10_wipe 32 = .ok (.getfield 63, 3) := by decide +kernel
theorem dX10_wipe_35 : decode cX10_wipe 35 = .ok (.invokevirtual 150, 3) := by decide +kernel
theorem dX10_wipe_38 : decode cX10_wipe 38 = .ok (.iload_n 1, 1) := by decide +kernel
theorem dX10_wipe_39 : decode cX10_wipe 39 = .ok (.ireturn, 1) := by decide +kernel
theorem dX3_yesesOf_0 : decode cX3_yesesOf 0 = .ok (.iconst 0, 1) := by decide +kernel
theorem dX3_yesesOf_1 : decode cX3_yesesOf 1 = .ok (.istore_n 2, 1) := by decide +kernel
theorem dX3_yesesOf_2 : decode cX3_yesesOf 2 = .ok (.iconst 0, 1) := by decide +kernel
theorem dX3_yesesOf_3 : decode cX3_yesesOf 3 = .ok (.istore_n 3, 1) := by decide +kernel
theorem dX3_yesesOf_4 : decode cX3_yesesOf 4 = .ok (.iload_n 3, 1) := by decide +kernel
theorem dX3_yesesOf_5 : decode cX3_yesesOf 5 = .ok (.iconst 3, 1) := by decide +kernel
theorem dX3_yesesOf_6 : decode cX3_yesesOf 6 = .ok (.if_icmp .ge 25, 3) := by decide +kernel
theorem dX3_yesesOf_9 : decode cX3_yesesOf 9 = .ok (.iload_n 2, 1) := by decide +kernel
theorem dX3_yesesOf_10 : decode cX3_yesesOf 10 = .ok (.aload_n 0, 1) := by decide +kernel
theorem dX3_yesesOf_11 : decode cX3_yesesOf 11 = .ok (.getfield 15, 3) := by decide +kernel
theorem dX3_yesesOf_14 : decode cX3_yesesOf 14 = .ok (.iload_n 3, 1) := by decide +kernel
theorem dX3_yesesOf_15 : decode cX3_yesesOf 15 = .ok (.laload, 1) := by decide +kernel
theorem dX3_yesesOf_16 : decode cX3_yesesOf 16 = .ok (.iload_n 1, 1) := by decide +kernel
theorem dX3_yesesOf_17 : decode cX3_yesesOf 17 = .ok (.lushr, 1) := by decide +kernel
theorem dX3_yesesOf_18 : decode cX3_yesesOf 18 = .ok (.lconst 1, 1) := by decide +kernel
theorem dX3_yesesOf_19 : decode cX3_yesesOf 19 = .ok (.land, 1) := by decide +kernel
theorem dX3_yesesOf_20 : decode cX3_yesesOf 20 = .ok (.l2i, 1) := by decide +kernel
theorem dX3_yesesOf_21 : decode cX3_yesesOf 21 = .ok (.iload_n 3, 1) := by decide +kernel
theorem dX3_yesesOf_22 : decode cX3_yesesOf 22 = .ok (.ishl, 1) := by decide +kernel
theorem dX3_yesesOf_23 : decode cX3_yesesOf 23 = .ok (.ior, 1) := by decide +kernel
theorem dX3_yesesOf_24 : decode cX3_yesesOf 24 = .ok (.istore_n 2, 1) := by decide +kernel
theorem dX3_yesesOf_25 : decode cX3_yesesOf 25 = .ok (.iinc 3 1, 3) := by decide +kernel
theorem dX3_yesesOf_28 : decode cX3_yesesOf 28 = .ok (.goto (-24), 3) := by decide +kernel
theorem dX3_yesesOf_31 : decode cX3_yesesOf 31 = .ok (.iload_n 2, 1) := by decide +kernel
theorem dX3_yesesOf_32 : decode cX3_yesesOf 32 = .ok (.ireturn, 1) := by decide +kernel
theorem dX3_wayOf_0 : decode cX3_wayOf 0 = .ok (.aload_n 0, 1) := by decide +kernel
theorem dX3_wayOf_1 : decode cX3_wayOf 1 = .ok (.getfield 38, 3) := by decide +kernel
theorem dX3_wayOf_4 : decode cX3_wayOf 4 = .ok (.iload_n 1, 1) := by decide +kernel
theorem dX3_wayOf_5 : decode cX3_wayOf 5 = .ok (.lushr, 1) := by decide +kernel
theorem dX3_wayOf_6 : decode cX3_wayOf 6 = .ok (.lconst 1, 1) := by decide +kernel
theorem dX3_wayOf_7 : decode cX3_wayOf 7 = .ok (.land, 1) := by decide +kernel
theorem dX3_wayOf_8 : decode cX3_wayOf 8 = .ok (.l2i, 1) := by decide +kernel
theorem dX3_wayOf_9 : decode cX3_wayOf 9 = .ok (.iconst 2, 1) := by decide +kernel
theorem dX3_wayOf_10 : decode cX3_wayOf 10 = .ok (.aload_n 0, 1) := by decide +kernel
theorem dX3_wayOf_11 : decode cX3_wayOf 11 = .ok (.getfield 42, 3) := by decide +kernel
theorem dX3_wayOf_14 : decode cX3_wayOf 14 = .ok (.iload_n 1, 1) := by decide +kernel
theorem dX3_wayOf_15 : decode cX3_wayOf 15 = .ok (.lushr, 1) := by decide +kernel
theorem dX3_wayOf_16 : decode cX3_wayOf 16 = .ok (.lconst 1, 1) := by decide +kernel
theorem dX3_wayOf_17 : decode cX3_wayOf 17 = .ok (.land, 1) := by decide +kernel
theorem dX3_wayOf_18 : decode cX3_wayOf 18 = .ok (.l2i, 1) := by decide +kernel
theorem dX3_wayOf_19 : decode cX3_wayOf 19 = .ok (.imul, 1) := by decide +kernel
theorem dX3_wayOf_20 : decode cX3_wayOf 20 = .ok (.iadd, 1) := by decide +kernel
theorem dX3_wayOf_21 : decode cX3_wayOf 21 = .ok (.ireturn, 1) := by decide +kernel
theorem dX3_signs_0 : decode cX3_signs 0 = .ok (.iconst 1, 1) := by decide +kernel
theorem dX3_signs_1 : decode cX3_signs 1 = .ok (.aload_n 0, 1) := by decide +kernel
theorem dX3_signs_2 : decode cX3_signs 2 = .ok (.getfield 25, 3) := by decide +kernel
theorem dX3_signs_5 : decode cX3_signs 5 = .ok (.ishl, 1) := by decide +kernel
theorem dX3_signs_6 : decode cX3_signs 6 = .ok (.aload_n 0, 1) := by decide +kernel
theorem dX3_signs_7 : decode cX3_signs 7 = .ok (.aload_n 0, 1) := by decide +kernel
theorem dX3_signs_8 : decode cX3_signs 8 = .ok (.getfield 19, 3) := by decide +kernel
theorem dX3_signs_11 : decode cX3_signs 11 = .ok (.invokevirtual 68, 3) := by decide +kernel
theorem dX3_signs_14 : decode cX3_signs 14 = .ok (.bipush 13, 2) := by decide +kernel
theorem dX3_signs_16 : decode cX3_signs 16 = .ok (.ishl, 1) := by decide +kernel
theorem dX3_signs_17 : decode cX3_signs 17 = .ok (.ior, 1) := by decide +kernel
theorem dX3_signs_18 : decode cX3_signs 18 = .ok (.istore_n 2, 1) := by decide +kernel
theorem dX3_signs_19 : decode cX3_signs 19 = .ok (.aload_n 1, 1) := by decide +kernel
theorem dX3_signs_20 : decode cX3_signs 20 = .ok (.aload_n 0, 1) := by decide +kernel
theorem dX3_signs_21 : decode cX3_signs 21 = .ok (.getfield 19, 3) := by decide +kernel
theorem dX3_signs_24 : decode cX3_signs 24 = .ok (.aload_n 0, 1) := by decide +kernel
theorem dX3_signs_25 : decode cX3_signs 25 = .ok (.getfield 22, 3) := by decide +kernel
theorem dX3_signs_28 : decode cX3_signs 28 = .ok (.invokevirtual 74, 3) := by decide +kernel
theorem dX3_signs_31 : decode cX3_signs 31 = .ok (.ifCond .eq 9, 3) := by decide +kernel
theorem dX3_signs_34 : decode cX3_signs 34 = .ok (.iload_n 2, 1) := by decide +kernel
theorem dX3_signs_35 : decode cX3_signs 35 = .ok (.sipush 1024, 3) := by decide +kernel
theorem dX3_signs_38 : decode cX3_signs 38 = .ok (.ior, 1) := by decide +kernel
theorem dX3_signs_39 : decode cX3_signs 39 = .ok (.istore_n 2, 1) := by decide +kernel
theorem dX3_signs_40 : decode cX3_signs 40 = .ok (.aload_n 0, 1) := by decide +kernel
theorem dX3_signs_41 : decode cX3_signs 41 = .ok (.getfield 19, 3) := by decide +kernel
theorem dX3_signs_44 : decode cX3_signs 44 = .ok (.aload_n 1, 1) := by decide +kernel
theorem dX3_signs_45 : decode cX3_signs 45 = .ok (.getfield 78, 3) := by decide +kernel
theorem dX3_signs_48 : decode cX3_signs 48 = .ok (.if_icmp .ne 9, 3) := by decide +kernel
theorem dX3_signs_51 : decode cX3_signs 51 = .ok (.iload_n 2, 1) := by decide +kernel
theorem dX3_signs_52 : decode cX3_signs 52 = .ok (.sipush 2048, 3) := by decide +kernel
theorem dX3_signs_55 : decode cX3_signs 55 = .ok (.ior, 1) := by decide +kernel
theorem dX3_signs_56 : decode cX3_signs 56 = .ok (.istore_n 2, 1) := by decide +kernel
theorem dX3_signs_57 : decode cX3_signs 57 = .ok (.aload_n 0, 1) := by decide +kernel
theorem dX3_signs_58 : decode cX3_signs 58 = .ok (.getfield 22, 3) := by decide +kernel
theorem dX3_signs_61 : decode cX3_signs 61 = .ok (.aload_n 0, 1) := by decide +kernel
theorem dX3_signs_62 : decode cX3_signs 62 = .ok (.aload_n 0, 1) := by decide +kernel
theorem dX3_signs_63 : decode cX3_signs 63 = .ok (.getfield 19, 3) := by decide +kernel
theorem dX3_signs_66 : decode cX3_signs 66 = .ok (.invokevirtual 81, 3) := by decide +kernel
theorem dX3_signs_69 : decode cX3_signs 69 = .ok (.if_icmp .ne 9, 3) := by decide +kernel
theorem dX3_signs_72 : decode cX3_signs 72 = .ok (.iload_n 2, 1) := by decide +kernel
theorem dX3_signs_73 : decode cX3_signs 73 = .ok (.sipush 4096, 3) := by decide +kernel
theorem dX3_signs_76 : decode cX3_signs 76 = .ok (.ior, 1) := by decide +kernel
theorem dX3_signs_77 : decode cX3_signs 77 = .ok (.istore_n 2, 1) := by decide +kernel
theorem dX3_signs_78 : decode cX3_signs 78 = .ok (.iload_n 2, 1) := by decide +kernel
theorem dX3_signs_79 : decode cX3_signs 79 = .ok (.ireturn, 1) := by decide +kernel
theorem dX6_lineFor_0 : decode cX6_lineFor 0 = .ok (.iconst 0, 1) := by decide +kernel
theorem dX6_lineFor_1 : decode cX6_lineFor 1 = .ok (.istore_n 3, 1) := by decide +kernel
theorem dX6_lineFor_2 : decode cX6_lineFor 2 = .ok (.iload_n 3, 1) := by decide +kernel
theorem dX6_lineFor_3 : decode cX6_lineFor 3 = .ok (.aload_n 0, 1) := by decide +kernel
theorem dX6_lineFor_4 : decode cX6_lineFor 4 = .ok (.getfield 30, 3) := by decide +kernel
theorem dX6_lineFor_7 : decode cX6_lineFor 7 = .ok (.if_icmp .ge 49, 3) := by decide +kernel
theorem dX6_lineFor_10 : decode cX6_lineFor 10 = .ok (.iload_n 1, 1) := by decide +kernel
theorem dX6_lineFor_11 : decode cX6_lineFor 11 = .ok (.aload_n 0, 1) := by decide +kernel
theorem dX6_lineFor_12 : decode cX6_lineFor 12 = .ok (.getfield 21, 3) := by decide +kernel
theorem dX6_lineFor_15 : decode cX6_lineFor 15 = .ok (.iload_n 3, 1) := by decide +kernel
theorem dX6_lineFor_16 : decode cX6_lineFor 16 = .ok (.iaload, 1) := by decide +kernel
theorem dX6_lineFor_17 : decode cX6_lineFor 17 = .ok (.ixor, 1) := by decide +kernel
theorem dX6_lineFor_18 : decode cX6_lineFor 18 = .ok (.aload_n 0, 1) := by decide +kernel
theorem dX6_lineFor_19 : decode cX6_lineFor 19 = .ok (.getfield 18, 3) := by decide +kernel
theorem dX6_lineFor_22 : decode cX6_lineFor 22 = .ok (.iload_n 3, 1) := by decide +kernel
theorem dX6_lineFor_23 : decode cX6_lineFor 23 = .ok (.iaload, 1) := by decide +kernel
theorem dX6_lineFor_24 : decode cX6_lineFor 24 = .ok (.iand, 1) := by decide +kernel
theorem dX6_lineFor_25 : decode cX6_lineFor 25 = .ok (.ifCond .ne 25, 3) := by decide +kernel
theorem dX6_lineFor_28 : decode cX6_lineFor 28 = .ok (.iload_n 2, 1) := by decide +kernel
theorem dX6_lineFor_29 : decode cX6_lineFor 29 = .ok (.aload_n 0, 1) := by decide +kernel
theorem dX6_lineFor_30 : decode cX6_lineFor 30 = .ok (.getfield 24, 3) := by decide +kernel
theorem dX6_lineFor_33 : decode cX6_lineFor 33 = .ok (.iload_n 3, 1) := by decide +kernel
theorem dX6_lineFor_34 : decode cX6_lineFor 34 = .ok (.iaload, 1) := by decide +kernel
theorem dX6_lineFor_35 : decode cX6_lineFor 35 = .ok (.if_icmp .lt 15, 3) := by decide +kernel
theorem dX6_lineFor_38 : decode cX6_lineFor 38 = .ok (.iload_n 2, 1) := by decide +kernel
theorem dX6_lineFor_39 : decode cX6_lineFor 39 = .ok (.aload_n 0, 1) := by decide +kernel
theorem dX6_lineFor_40 : decode cX6_lineFor 40 = .ok (.getfield 27, 3) := by decide +kernel
theorem dX6_lineFor_43 : decode cX6_lineFor 43 = .ok (.iload_n 3, 1) := by decide +kernel
theorem dX6_lineFor_44 : decode cX6_lineFor 44 = .ok (.iaload, 1) := by decide +kernel
theorem dX6_lineFor_45 : decode cX6_lineFor 45 = .ok (.if_icmp .ge 5, 3) := by decide +kernel
theorem dX6_lineFor_48 : decode cX6_lineFor 48 = .ok (.iload_n 3, 1) := by decide +kernel
theorem dX6_lineFor_49 : decode cX6_lineFor 49 = .ok (.ireturn, 1) := by decide +kernel
theorem dX6_lineFor_50 : decode cX6_lineFor 50 = .ok (.iinc 3 1, 3) := by decide +kernel
theorem dX6_lineFor_53 : decode cX6_lineFor 53 = .ok (.goto (-51), 3) := by decide +kernel
theorem dX6_lineFor_56 : decode cX6_lineFor 56 = .ok (.iconst (-1), 1) := by decide +kernel
theorem dX6_lineFor_57 : decode cX6_lineFor 57 = .ok (.ireturn, 1) := by decide +kernel
theorem dX3_turn_0 : decode cX3_turn 0 = .ok (.aload_n 0, 1) := by decide +kernel
theorem dX3_turn_1 : decode cX3_turn 1 = .ok (.aload_n 0, 1) := by decide +kernel
theorem dX3_turn_2 : decode cX3_turn 2 = .ok (.getfield 22, 3) := by decide +kernel
theorem dX3_turn_5 : decode cX3_turn 5 = .ok (.iload_n 1, 1) := by decide +kernel
theorem dX3_turn_6 : decode cX3_turn 6 = .ok (.iadd, 1) := by decide +kernel
theorem dX3_turn_7 : decode cX3_turn 7 = .ok (.iconst 3, 1) := by decide +kernel
theorem dX3_turn_8 : decode cX3_turn 8 = .ok (.iand, 1) := by decide +kernel
theorem dX3_turn_9 : decode cX3_turn 9 = .ok (.putfield 22, 3) := by decide +kernel
theorem dX3_turn_12 : decode cX3_turn 12 = .ok (.return_, 1) := by decide +kernel
theorem dX3_markWay_0 : decode cX3_markWay 0 = .ok (.lconst 1, 1) := by decide +kernel
theorem dX3_markWay_1 : decode cX3_markWay 1 = .ok (.aload_n 0, 1) := by decide +kernel
theorem dX3_markWay_2 : decode cX3_markWay 2 = .ok (.getfield 19, 3) := by decide +kernel
theorem dX3_markWay_5 : decode cX3_markWay 5 = .ok (.lshl, 1) := by decide +kernel
theorem dX3_markWay_6 : decode cX3_markWay 6 = .ok (.lstore_n 1, 1) := by decide +kernel
theorem dX3_markWay_7 : decode cX3_markWay 7 = .ok (.aload_n 0, 1) := by decide +kernel
theorem dX3_markWay_8 : decode cX3_markWay 8 = .ok (.aload_n 0, 1) := by decide +kernel
theorem dX3_markWay_9 : decode cX3_markWay 9 = .ok (.getfield 22, 3) := by decide +kernel
theorem dX3_markWay_12 : decode cX3_markWay 12 = .ok (.iconst 1, 1) := by decide +kernel
theorem dX3_markWay_13 : decode cX3_markWay 13 = .ok (.iand, 1) := by decide +kernel
theorem dX3_markWay_14 : decode cX3_markWay 14 = .ok (.ifCond .eq 12, 3) := by decide +kernel
theorem dX3_markWay_17 : decode cX3_markWay 17 = .ok (.aload_n 0, 1) := by decide +kernel
theorem dX3_markWay_18 : decode cX3_markWay 18 = .ok (.getfield 38, 3) := by decide +kernel
theorem dX3_markWay_21 : decode cX3_markWay 21 = .ok (.lload_n 1, 1) := by decide +kernel
theorem dX3_markWay_22 : decode cX3_markWay 22 = .ok (.lor, 1) := by decide +kernel
theorem dX3_markWay_23 : decode cX3_markWay 23 = .ok (.goto 13, 3) := by decide +kernel
theorem dX3_markWay_26 : decode cX3_markWay 26 = .ok (.aload_n 0, 1) := by decide +kernel
theorem dX3_markWay_27 : decode cX3_markWay 27 = .ok (.getfield 38, 3) := by decide +kernel
theorem dX3_markWay_30 : decode cX3_markWay 30 = .ok (.lload_n 1, 1) := by decide +kernel
theorem dX3_markWay_31 : decode cX3_markWay 31 = .ok (.ldc2_w 51, 3) := by decide +kernel
theorem dX3_markWay_34 : decode cX3_markWay 34 = .ok (.lxor, 1) := by decide +kernel
theorem dX3_markWay_35 : decode cX3_markWay 35 = .ok (.land, 1) := by decide +kernel
theorem dX3_markWay_36 : decode cX3_markWay 36 = .ok (.putfield 38, 3) := by decide +kernel
theorem dX3_markWay_39 : decode cX3_markWay 39 = .ok (.aload_n 0, 1) := by decide +kernel
theorem dX3_markWay_40 : decode cX3_markWay 40 = .ok (.aload_n 0, 1) := by decide +kernel
theorem dX3_markWay_41 : decode cX3_markWay 41 = .ok (.getfield 22, 3) := by decide +kernel
theorem dX3_markWay_44 : decode cX3_markWay 44 = .ok (.iconst 2, 1) := by decide +kernel
theorem dX3_markWay_45 : decode cX3_markWay 45 = .ok (.iand, 1) := by decide +kernel
theorem dX3_markWay_46 : decode cX3_markWay 46 = .ok (.ifCond .eq 12, 3) := by decide +kernel
theorem dX3_markWay_49 : decode cX3_markWay 49 = .ok (.aload_n 0, 1) := by decide +kernel
theorem dX3_markWay_50 : decode cX3_markWay 50 = .ok (.getfield 42, 3) := by decide +kernel
theorem dX3_markWay_53 : decode cX3_markWay 53 = .ok (.lload_n 1, 1) := by decide +kernel
theorem dX3_markWay_54 : decode cX3_markWay 54 = .ok (.lor, 1) := by decide +kernel
theorem dX3_markWay_55 : decode cX3_markWay 55 = .ok (.goto 13, 3) := by decide +kernel
theorem dX3_markWay_58 : decode cX3_markWay 58 = .ok (.aload_n 0, 1) := by decide +kernel
theorem dX3_markWay_59 : decode cX3_markWay 59 = .ok (.getfield 42, 3) := by decide +kernel
theorem dX3_markWay_62 : decode cX3_markWay 62 = .ok (.lload_n 1, 1) := by decide +kernel
theorem dX3_markWay_63 : decode cX3_markWay 63 = .ok (.ldc2_w 51, 3) := by decide +kernel
theorem dX3_markWay_66 : decode cX3_markWay 66 = .ok (.lxor, 1) := by decide +kernel
theorem dX3_markWay_67 : decode cX3_markWay 67 = .ok (.land, 1) := by decide +kernel
theorem dX3_markWay_68 : decode cX3_markWay 68 = .ok (.putfield 42, 3) := by decide +kernel
theorem dX3_markWay_71 : decode cX3_markWay 71 = .ok (.return_, 1) := by decide +kernel
theorem dX3_advance_0 : decode cX3_advance 0 = .ok (.aload_n 0, 1) := by decide +kernel
theorem dX3_advance_1 : decode cX3_advance 1 = .ok (.getfield 22, 3) := by decide +kernel
theorem dX3_advance_4 : decode cX3_advance 4 = .ok (.iconst 3, 1) := by decide +kernel
theorem dX3_advance_5 : decode cX3_advance 5 = .ok (.iand, 1) := by decide +kernel
theorem dX3_advance_6 : decode cX3_advance 6 = .ok (.istore_n 2, 1) := by decide +kernel
theorem dX3_advance_7 : decode cX3_advance 7 = .ok (.aload_n 1, 1) := by decide +kernel
theorem dX3_advance_8 : decode cX3_advance 8 = .ok (.getfield 53, 3) := by decide +kernel
theorem dX3_advance_11 : decode cX3_advance 11 = .ok (.iload_n 2, 1) := by decide +kernel
theorem dX3_advance_12 : decode cX3_advance 12 = .ok (.laload, 1) := by decide +kernel
theorem dX3_advance_13 : decode cX3_advance 13 = .ok (.aload_n 0, 1) := by decide +kernel
theorem dX3_advance_14 : decode cX3_advance 14 = .ok (.getfield 19, 3) := by decide +kernel
theorem dX3_advance_17 : decode cX3_advance 17 = .ok (.lushr, 1) := by decide +kernel
theorem dX3_advance_18 : decode cX3_advance 18 = .ok (.lconst 1, 1) := by decide +kernel
theorem dX3_advance_19 : decode cX3_advance 19 = .ok (.land, 1) := by decide +kernel
theorem dX3_advance_20 : decode cX3_advance 20 = .ok (.lconst 0, 1) := by decide +kernel
theorem dX3_advance_21 : decode cX3_advance 21 = .ok (.lcmp, 1) := by decide +kernel
theorem dX3_advance_22 : decode cX3_advance 22 = .ok (.ifCond .ne 28, 3) := by decide +kernel
theorem dX3_advance_25 : decode cX3_advance 25 = .ok (.aload_n 0, 1) := by decide +kernel
theorem dX3_advance_26 : decode cX3_advance 26 = .ok (.dup, 1) := by decide +kernel
theorem dX3_advance_27 : decode cX3_advance 27 = .ok (.getfield 19, 3) := by decide +kernel
theorem dX3_advance_30 : decode cX3_advance 30 = .ok (.aload_n 1, 1) := by decide +kernel
theorem dX3_advance_31 : decode cX3_advance 31 = .ok (.getfield 58, 3) := by decide +kernel
theorem dX3_advance_34 : decode cX3_advance 34 = .ok (.iload_n 2, 1) := by decide +kernel
theorem dX3_advance_35 : decode cX3_advance 35 = .ok (.iaload, 1) := by decide +kernel
theorem dX3_advance_36 : decode cX3_advance 36 = .ok (.iadd, 1) := by decide +kernel
theorem dX3_advance_37 : decode cX3_advance 37 = .ok (.putfield 19, 3) := by decide +kernel
theorem dX3_advance_40 : decode cX3_advance 40 = .ok (.aload_n 0, 1) := by decide +kernel
theorem dX3_advance_41 : decode cX3_advance 41 = .ok (.dup, 1) := by decide +kernel
theorem dX3_advance_42 : decode cX3_advance 42 = .ok (.getfield 62, 3) := by decide +kernel
theorem dX3_advance_45 : decode cX3_advance 45 = .ok (.iconst 1, 1) := by decide +kernel
theorem dX3_advance_46 : decode cX3_advance 46 = .ok (.iadd, 1) := by decide +kernel
theorem dX3_advance_47 : decode cX3_advance 47 = .ok (.putfield 62, 3) := by decide +kernel
theorem dX3_advance_50 : decode cX3_advance 50 = .ok (.return_, 1) := by decide +kernel
theorem dX3_markYes_0 : decode cX3_markYes 0 = .ok (.iload_n 1, 1) := by decide +kernel
theorem dX3_markYes_1 : decode cX3_markYes 1 = .ok (.ifCond .lt 8, 3) := by decide +kernel
theorem dX3_markYes_4 : decode cX3_markYes 4 = .ok (.iload_n 1, 1) := by decide +kernel
theorem dX3_markYes_5 : decode cX3_markYes 5 = .ok (.iconst 3, 1) := by decide +kernel
theorem dX3_markYes_6 : decode cX3_markYes 6 = .ok (.if_icmp .lt 4, 3) := by decide +kernel
theorem dX3_markYes_9 : decode cX3_markYes 9 = .ok (.return_, 1) := by decide +kernel
theorem dX3_markYes_10 : decode cX3_markYes 10 = .ok (.iload_n 2, 1) := by decide +kernel
theorem dX3_markYes_11 : decode cX3_markYes 11 = .ok (.ifCond .ne 25, 3) := by decide +kernel
theorem dX3_markYes_14 : decode cX3_markYes 14 = .ok (.aload_n 0, 1) := by decide +kernel
theorem dX3_markYes_15 : decode cX3_markYes 15 = .ok (.getfield 15, 3) := by decide +kernel
theorem dX3_markYes_18 : decode cX3_markYes 18 = .ok (.iload_n 1, 1) := by decide +kernel
theorem dX3_markYes_19 : decode cX3_markYes 19 = .ok (.dup2, 1) := by decide +kernel
theorem dX3_markYes_20 : decode cX3_markYes 20 = .ok (.laload, 1) := by decide +kernel
theorem dX3_markYes_21 : decode cX3_markYes 21 = .ok (.lconst 1, 1) := by decide +kernel
theorem dX3_markYes_22 : decode cX3_markYes 22 = .ok (.aload_n 0, 1) := by decide +kernel
theorem dX3_markYes_23 : decode cX3_markYes 23 = .ok (.getfield 19, 3) := by decide +kernel
theorem dX3_markYes_26 : decode cX3_markYes 26 = .ok (.lshl, 1) := by decide +kernel
theorem dX3_markYes_27 : decode cX3_markYes 27 = .ok (.ldc2_w 51, 3) := by decide +kernel
theorem dX3_markYes_30 : decode cX3_markYes 30 = .ok (.lxor, 1) := by decide +kernel
theorem dX3_markYes_31 : decode cX3_markYes 31 = .ok (.land, 1) := by decide +kernel
theorem dX3_markYes_32 : decode cX3_markYes 32 = .ok (.lastore, 1) := by decide +kernel
theorem dX3_markYes_33 : decode cX3_markYes 33 = .ok (.goto 29, 3) := by decide +kernel
theorem dX3_markYes_36 : decode cX3_markYes 36 = .ok (.aload_n 0, 1) := by decide +kernel
theorem dX3_markYes_37 : decode cX3_markYes 37 = .ok (.getfield 65, 3) := by decide +kernel
theorem dX3_markYes_40 : decode cX3_markYes 40 = .ok (.iload_n 1, 1) := by decide +kernel
theorem dX3_markYes_41 : decode cX3_markYes 41 = .ok (.ishr, 1) := by decide +kernel
theorem dX3_markYes_42 : decode cX3_markYes 42 = .ok (.iconst 1, 1) := by decide +kernel
theorem dX3_markYes_43 : decode cX3_markYes 43 = .ok (.iand, 1) := by decide +kernel
theorem dX3_markYes_44 : decode cX3_markYes 44 = .ok (.ifCond .ne 18, 3) := by decide +kernel
theorem dX3_markYes_47 : decode cX3_markYes 47 = .ok (.aload_n 0, 1) := by decide +kernel
theorem dX3_markYes_48 : decode cX3_markYes 48 = .ok (.getfield 15, 3) := by decide +kernel
theorem dX3_markYes_51 : decode cX3_markYes 51 = .ok (.iload_n 1, 1) := by decide +kernel
theorem dX3_markYes_52 : decode cX3_markYes 52 = .ok (.dup2, 1) := by decide +kernel
theorem dX3_markYes_53 : decode cX3_markYes 53 = .ok (.laload, 1) := by decide +kernel
theorem dX3_markYes_54 : decode cX3_markYes 54 = .ok (.lconst 1, 1) := by decide +kernel
theorem dX3_markYes_55 : decode cX3_markYes 55 = .ok (.aload_n 0, 1) := by decide +kernel
theorem dX3_markYes_56 : decode cX3_markYes 56 = .ok (.getfield 19, 3) := by decide +kernel
theorem dX3_markYes_59 : decode cX3_markYes 59 = .ok (.lshl, 1) := by decide +kernel
theorem dX3_markYes_60 : decode cX3_markYes 60 = .ok (.lor, 1) := by decide +kernel
theorem dX3_markYes_61 : decode cX3_markYes 61 = .ok (.lastore, 1) := by decide +kernel
theorem dX3_markYes_62 : decode cX3_markYes 62 = .ok (.return_, 1) := by decide +kernel
theorem dX3_perform_0 : decode cX3_perform 0 = .ok (.iload_n 1, 1) := by decide +kernel
theorem dX3_perform_1 : decode cX3_perform 1 = .ok (.bipush 15, 2) := by decide +kernel
theorem dX3_perform_3 : decode cX3_perform 3 = .ok (.iand, 1) := by decide +kernel
theorem dX3_perform_4 : decode cX3_perform 4 = .ok (.istore_n 3, 1) := by decide +kernel
theorem dX3_perform_5 : decode cX3_perform 5 = .ok (.iload_n 1, 1) := by decide +kernel
theorem dX3_perform_6 : decode cX3_perform 6 = .ok (.iconst 4, 1) := by decide +kernel
theorem dX3_perform_7 : decode cX3_perform 7 = .ok (.ishr, 1) := by decide +kernel
theorem dX3_perform_8 : decode cX3_perform 8 = .ok (.tableswitch 166 8 18 #[132, 114, 123, 60, 68, 76, 84, 99, 106, 140, 158], 60) := by decide +kernel
theorem dX3_perform_68 : decode cX3_perform 68 = .ok (.aload_n 0, 1) := by decide +kernel
theorem dX3_perform_69 : decode cX3_perform 69 = .ok (.iconst 1, 1) := by decide +kernel
theorem dX3_perform_70 : decode cX3_perform 70 = .ok (.invokevirtual 102, 3) := by decide +kernel
theorem dX3_perform_73 : decode cX3_perform 73 = .ok (.goto 105, 3) := by decide +kernel
theorem dX3_perform_76 : decode cX3_perform 76 = .ok (.aload_n 0, 1) := by decide +kernel
theorem dX3_perform_77 : decode cX3_perform 77 = .ok (.iconst 3, 1) := by decide +kernel
theorem dX3_perform_78 : decode cX3_perform 78 = .ok (.invokevirtual 102, 3) := by decide +kernel
theorem dX3_perform_81 : decode cX3_perform 81 = .ok (.goto 97, 3) := by decide +kernel
theorem dX3_perform_84 : decode cX3_perform 84 = .ok (.aload_n 0, 1) := by decide +kernel
theorem dX3_perform_85 : decode cX3_perform 85 = .ok (.iconst 2, 1) := by decide +kernel
theorem dX3_perform_86 : decode cX3_perform 86 = .ok (.invokevirtual 102, 3) := by decide +kernel
theorem dX3_perform_89 : decode cX3_perform 89 = .ok (.goto 89, 3) := by decide +kernel
theorem dX3_perform_92 : decode cX3_perform 92 = .ok (.aload_n 0, 1) := by decide +kernel
theorem dX3_perform_93 : decode cX3_perform 93 = .ok (.aload_n 0, 1) := by decide +kernel
theorem dX3_perform_94 : decode cX3_perform 94 = .ok (.aload_n 0, 1) := by decide +kernel
theorem dX3_perform_95 : decode cX3_perform 95 = .ok (.getfield 19, 3) := by decide +kernel
theorem dX3_perform_98 : decode cX3_perform 98 = .ok (.invokevirtual 81, 3) := by decide +kernel
theorem dX3_perform_101 : decode cX3_perform 101 = .ok (.putfield 22, 3) := by decide +kernel
theorem dX3_perform_104 : decode cX3_perform 104 = .ok (.goto 74, 3) := by decide +kernel
theorem dX3_perform_107 : decode cX3_perform 107 = .ok (.aload_n 0, 1) := by decide +kernel
theorem dX3_perform_108 : decode cX3_perform 108 = .ok (.invokevirtual 105, 3) := by decide +kernel
theorem dX3_perform_111 : decode cX3_perform 111 = .ok (.goto 67, 3) := by decide +kernel
theorem dX3_perform_114 : decode cX3_perform 114 = .ok (.aload_n 0, 1) := by decide +kernel
theorem dX3_perform_115 : decode cX3_perform 115 = .ok (.aload_n 2, 1) := by decide +kernel
theorem dX3_perform_116 : decode cX3_perform 116 = .ok (.invokevirtual 108, 3) := by decide +kernel
theorem dX3_perform_119 : decode cX3_perform 119 = .ok (.goto 59, 3) := by decide +kernel
theorem dX3_perform_122 : decode cX3_perform 122 = .ok (.aload_n 0, 1) := by decide +kernel
theorem dX3_perform_123 : decode cX3_perform 123 = .ok (.iload_n 3, 1) := by decide +kernel
theorem dX3_perform_124 : decode cX3_perform 124 = .ok (.iconst 1, 1) := by decide +kernel
theorem dX3_perform_125 : decode cX3_perform 125 = .ok (.invokevirtual 112, 3) := by decide +kernel
theorem dX3_perform_128 : decode cX3_perform 128 = .ok (.goto 50, 3) := by decide +kernel
theorem dX3_perform_131 : decode cX3_perform 131 = .ok (.aload_n 0, 1) := by decide +kernel
theorem dX3_perform_132 : decode cX3_perform 132 = .ok (.iload_n 3, 1) := by decide +kernel
theorem dX3_perform_133 : decode cX3_perform 133 = .ok (.iconst 0, 1) := by decide +kernel
theorem dX3_perform_134 : decode cX3_perform 134 = .ok (.invokevirtual 112, 3) := by decide +kernel
theorem dX3_perform_137 : decode cX3_perform 137 = .ok (.goto 41, 3) := by decide +kernel
theorem dX3_perform_140 : decode cX3_perform 140 = .ok (.aload_n 0, 1) := by decide +kernel
theorem dX3_perform_141 : decode cX3_perform 141 = .ok (.iload_n 3, 1) := by decide +kernel
theorem dX3_perform_142 : decode cX3_perform 142 = .ok (.putfield 25, 3) := by decide +kernel
theorem dX3_perform_145 : decode cX3_perform 145 = .ok (.goto 33, 3) := by decide +kernel
theorem dX3_perform_148 : decode cX3_perform 148 = .ok (.aload_n 0, 1) := by decide +kernel
theorem dX3_perform_149 : decode cX3_perform 149 = .ok (.bipush 99, 2) := by decide +kernel
theorem dX3_perform_151 : decode cX3_perform 151 = .ok (.aload_n 0, 1) := by decide +kernel
theorem dX3_perform_152 : decode cX3_perform 152 = .ok (.getfield 28, 3) := by decide +kernel
theorem dX3_perform_155 : decode cX3_perform 155 = .ok (.iconst 1, 1) := by decide +kernel
theorem dX3_perform_156 : decode cX3_perform 156 = .ok (.iadd, 1) := by decide +kernel
theorem dX3_perform_157 : decode cX3_perform 157 = .ok (.invokestatic 116, 3) := by decide +kernel
theorem dX3_perform_160 : decode cX3_perform 160 = .ok (.putfield 28, 3) := by decide +kernel
theorem dX3_perform_163 : decode cX3_perform 163 = .ok (.goto 15, 3) := by decide +kernel
theorem dX3_perform_166 : decode cX3_perform 166 = .ok (.aload_n 0, 1) := by decide +kernel
theorem dX3_perform_167 : decode cX3_perform 167 = .ok (.iconst 0, 1) := by decide +kernel
theorem dX3_perform_168 : decode cX3_perform 168 = .ok (.putfield 28, 3) := by decide +kernel
theorem dX3_perform_171 : decode cX3_perform 171 = .ok (.goto 7, 3) := by decide +kernel
theorem dX3_perform_174 : decode cX3_perform 174 = .ok (.aload_n 0, 1) := by decide +kernel
theorem dX3_perform_175 : decode cX3_perform 175 = .ok (.invokevirtual 35, 3) := by decide +kernel
theorem dX3_perform_178 : decode cX3_perform 178 = .ok (.return_, 1) := by decide +kernel
theorem dX3_obey_0 : decode cX3_obey 0 = .ok (.aload_n 0, 1) := by decide +kernel
theorem dX3_obey_1 : decode cX3_obey 1 = .ok (.aload_n 1, 1) := by decide +kernel
theorem dX3_obey_2 : decode cX3_obey 2 = .ok (.aload_n 0, 1) := by decide +kernel
theorem dX3_obey_3 : decode cX3_obey 3 = .ok (.aload_n 2, 1) := by decide +kernel
theorem dX3_obey_4 : decode cX3_obey 4 = .ok (.invokevirtual 84, 3) := by decide +kernel
theorem dX3_obey_7 : decode cX3_obey 7 = .ok (.aload_n 0, 1) := by decide +kernel
theorem dX3_obey_8 : decode cX3_obey 8 = .ok (.getfield 28, 3) := by decide +kernel
theorem dX3_obey_11 : decode cX3_obey 11 = .ok (.invokevirtual 88, 3) := by decide +kernel
theorem dX3_obey_14 : decode cX3_obey 14 = .ok (.putfield 9, 3) := by decide +kernel
theorem dX3_obey_17 : decode cX3_obey 17 = .ok (.aload_n 0, 1) := by decide +kernel
theorem dX3_obey_18 : decode cX3_obey 18 = .ok (.getfield 9, 3) := by decide +kernel
theorem dX3_obey_21 : decode cX3_obey 21 = .ok (.ifCond .ge 4, 3) := by decide +kernel
theorem dX3_obey_24 : decode cX3_obey 24 = .ok (.return_, 1) := by decide +kernel
theorem dX3_obey_25 : decode cX3_obey 25 = .ok (.aload_n 1, 1) := by decide +kernel
theorem dX3_obey_26 : decode cX3_obey 26 = .ok (.getfield 92, 3) := by decide +kernel
theorem dX3_obey_29 : decode cX3_obey 29 = .ok (.aload_n 0, 1) := by decide +kernel
theorem dX3_obey_30 : decode cX3_obey 30 = .ok (.getfield 9, 3) := by decide +kernel
theorem dX3_obey_33 : decode cX3_obey 33 = .ok (.iaload, 1) := by decide +kernel
theorem dX3_obey_34 : decode cX3_obey 34 = .ok (.istore_n 3, 1) := by decide +kernel
theorem dX3_obey_35 : decode cX3_obey 35 = .ok (.aload_n 0, 1) := by decide +kernel
theorem dX3_obey_36 : decode cX3_obey 36 = .ok (.getfield 9, 3) := by decide +kernel
theorem dX3_obey_39 : decode cX3_obey 39 = .ok (.bipush 12, 2) := by decide +kernel
theorem dX3_obey_41 : decode cX3_obey 41 = .ok (.imul, 1) := by decide +kernel
theorem dX3_obey_42 : decode cX3_obey 42 = .ok (.istore 4, 2) := by decide +kernel
theorem dX3_obey_44 : decode cX3_obey 44 = .ok (.iload 4, 2) := by decide +kernel
theorem dX3_obey_46 : decode cX3_obey 46 = .ok (.iload_n 3, 1) := by decide +kernel
theorem dX3_obey_47 : decode cX3_obey 47 = .ok (.if_icmp .ge 21, 3) := by decide +kernel
theorem dX3_obey_50 : decode cX3_obey 50 = .ok (.aload_n 0, 1) := by decide +kernel
theorem dX3_obey_51 : decode cX3_obey 51 = .ok (.aload_n 1, 1) := by decide +kernel
theorem dX3_obey_52 : decode cX3_obey 52 = .ok (.getfield 95, 3) := by decide +kernel
theorem dX3_obey_55 : decode cX3_obey 55 = .ok (.iload 4, 2) := by decide +kernel
theorem dX3_obey_57 : decode cX3_obey 57 = .ok (.iaload, 1) := by decide +kernel
theorem dX3_obey_58 : decode cX3_obey 58 = .ok (.aload_n 2, 1) := by decide +kernel
theorem dX3_obey_59 : decode cX3_obey 59 = .ok (.invokevirtual 98, 3) := by decide +kernel
theorem dX3_obey_62 : decode cX3_obey 62 = .ok (.iinc 4 1, 3) := by decide +kernel
theorem dX3_obey_65 : decode cX3_obey 65 = .ok (.goto (-21), 3) := by decide +kernel
theorem dX3_obey_68 : decode cX3_obey 68 = .ok (.return_, 1) := by decide +kernel
theorem dX10_tick_0 : decode cX10_tick 0 = .ok (.iload_n 1, 1) := by decide +kernel
theorem dX10_tick_1 : decode cX10_tick 1 = .ok (.ifCond .lt 10, 3) := by decide +kernel
theorem dX10_tick_4 : decode cX10_tick 4 = .ok (.iload_n 1, 1) := by decide +kernel
theorem dX10_tick_5 : decode cX10_tick 5 = .ok (.sipush 5000, 3) := by decide +kernel
theorem dX10_tick_8 : decode cX10_tick 8 = .ok (.if_icmp .le 5, 3) := by decide +kernel
theorem dX10_tick_11 : decode cX10_tick 11 = .ok (.iconst (-1), 1) := by decide +kernel
theorem dX10_tick_12 : decode cX10_tick 12 = .ok (.ireturn, 1) := by decide +kernel
theorem dX10_tick_13 : decode cX10_tick 13 = .ok (.iconst 0, 1) := by decide +kernel
theorem dX10_tick_14 : decode cX10_tick 14 = .ok (.istore_n 2, 1) := by decide +kernel
theorem dX10_tick_15 : decode cX10_tick 15 = .ok (.iconst 0, 1) := by decide +kernel
theorem dX10_tick_16 : decode cX10_tick 16 = .ok (.istore_n 3, 1) := by decide +kernel
theorem dX10_tick_17 : decode cX10_tick 17 = .ok (.iload_n 3, 1) := by decide +kernel
theorem dX10_tick_18 : decode cX10_tick 18 = .ok (.iload_n 1, 1) := by decide +kernel
theorem dX10_tick_19 : decode cX10_tick 19 = .ok (.if_icmp .ge 38, 3) := by decide +kernel
theorem dX10_tick_22 : decode cX10_tick 22 = .ok (.aload_n 0, 1) := by decide +kernel
theorem dX10_tick_23 : decode cX10_tick 23 = .ok (.getfield 56, 3) := by decide +kernel
theorem dX10_tick_26 : decode cX10_tick 26 = .ok (.aload_n 0, 1) := by decide +kernel
theorem dX10_tick_27 : decode cX10_tick 27 = .ok (.getfield 35, 3) := by decide +kernel
theorem dX10_tick_30 : decode cX10_tick 30 = .ok (.aload_n 0, 1) := by decide +kernel
theorem dX10_tick_31 : decode cX10_tick 31 = .ok (.getfield 49, 3) := by decide +kernel
theorem dX10_tick_34 : decode cX10_tick 34 = .ok (.invokevirtual 192, 3) := by decide +kernel
theorem dX10_tick_37 : decode cX10_tick 37 = .ok (.aload_n 0, 1) := by decide +kernel
theorem dX10_tick_38 : decode cX10_tick 38 = .ok (.getfield 56, 3) := by decide +kernel
theorem dX10_tick_41 : decode cX10_tick 41 = .ok (.getfield 115, 3) := by decide +kernel
theorem dX10_tick_44 : decode cX10_tick 44 = .ok (.iconst (-1), 1) := by decide +kernel
theorem dX10_tick_45 : decode cX10_tick 45 = .ok (.if_icmp .eq 6, 3) := by decide +kernel
theorem dX10_tick_48 : decode cX10_tick 48 = .ok (.iinc 2 1, 3) := by decide +kernel
theorem dX10_tick_51 : decode cX10_tick 51 = .ok (.iinc 3 1, 3) := by decide +kernel
theorem dX10_tick_54 : decode cX10_tick 54 = .ok (.goto (-37), 3) := by decide +kernel
theorem dX10_tick_57 : decode cX10_tick 57 = .ok (.iload_n 2, 1) := by decide +kernel
theorem dX10_tick_58 : decode cX10_tick 58 = .ok (.ireturn, 1) := by decide +kernel
theorem dX3_arrive_0 : decode cX3_arrive 0 = .ok (.iconst 0, 1) := by decide +kernel
theorem dX3_arrive_1 : decode cX3_arrive 1 = .ok (.istore 4, 2) := by decide +kernel
theorem dX3_arrive_3 : decode cX3_arrive 3 = .ok (.iload 4, 2) := by decide +kernel
theorem dX3_arrive_5 : decode cX3_arrive 5 = .ok (.iload_n 3, 1) := by decide +kernel
theorem dX3_arrive_6 : decode cX3_arrive 6 = .ok (.if_icmp .ge 40, 3) := by decide +kernel
theorem dX3_arrive_9 : decode cX3_arrive 9 = .ok (.aload_n 0, 1) := by decide +kernel
theorem dX3_arrive_10 : decode cX3_arrive 10 = .ok (.getfield 19, 3) := by decide +kernel
theorem dX3_arrive_13 : decode cX3_arrive 13 = .ok (.aload_n 2, 1) := by decide +kernel
theorem dX3_arrive_14 : decode cX3_arrive 14 = .ok (.getfield 78, 3) := by decide +kernel
theorem dX3_arrive_17 : decode cX3_arrive 17 = .ok (.if_icmp .ne 6, 3) := by decide +kernel
theorem dX3_arrive_20 : decode cX3_arrive 20 = .ok (.iload 4, 2) := by decide +kernel
theorem dX3_arrive_22 : decode cX3_arrive 22 = .ok (.ireturn, 1) := by decide +kernel
theorem dX3_arrive_23 : decode cX3_arrive 23 = .ok (.aload_n 0, 1) := by decide +kernel
theorem dX3_arrive_24 : decode cX3_arrive 24 = .ok (.aload_n 1, 1) := by decide +kernel
theorem dX3_arrive_25 : decode cX3_arrive 25 = .ok (.aload_n 2, 1) := by decide +kernel
theorem dX3_arrive_26 : decode cX3_arrive 26 = .ok (.invokevirtual 121, 3) := by decide +kernel
theorem dX3_arrive_29 : decode cX3_arrive 29 = .ok (.aload_n 0, 1) := by decide +kernel
theorem dX3_arrive_30 : decode cX3_arrive 30 = .ok (.getfield 9, 3) := by decide +kernel
theorem dX3_arrive_33 : decode cX3_arrive 33 = .ok (.iconst (-1), 1) := by decide +kernel
theorem dX3_arrive_34 : decode cX3_arrive 34 = .ok (.if_icmp .ne 6, 3) := by decide +kernel
theorem dX3_arrive_37 : decode cX3_arrive 37 = .ok (.bipush (-2), 2) := by decide +kernel
theorem dX3_arrive_39 : decode cX3_arrive 39 = .ok (.ireturn, 1) := by decide +kernel
theorem dX3_arrive_40 : decode cX3_arrive 40 = .ok (.iinc 4 1, 3) := by decide +kernel
theorem dX3_arrive_43 : decode cX3_arrive 43 = .ok (.goto (-40), 3) := by decide +kernel
theorem dX3_arrive_46 : decode cX3_arrive 46 = .ok (.aload_n 0, 1) := by decide +kernel
theorem dX3_arrive_47 : decode cX3_arrive 47 = .ok (.getfield 19, 3) := by decide +kernel
theorem dX3_arrive_50 : decode cX3_arrive 50 = .ok (.aload_n 2, 1) := by decide +kernel
theorem dX3_arrive_51 : decode cX3_arrive 51 = .ok (.getfield 78, 3) := by decide +kernel
theorem dX3_arrive_54 : decode cX3_arrive 54 = .ok (.if_icmp .ne 7, 3) := by decide +kernel
theorem dX3_arrive_57 : decode cX3_arrive 57 = .ok (.iload_n 3, 1) := by decide +kernel
theorem dX3_arrive_58 : decode cX3_arrive 58 = .ok (.goto 5, 3) := by decide +kernel
theorem dX3_arrive_61 : decode cX3_arrive 61 = .ok (.bipush (-2), 2) := by decide +kernel
theorem dX3_arrive_63 : decode cX3_arrive 63 = .ok (.ireturn, 1) := by decide +kernel
theorem dX10_run_0 : decode cX10_run 0 = .ok (.iload_n 1, 1) := by decide +kernel
theorem dX10_run_1 : decode cX10_run 1 = .ok (.ifCond .lt 10, 3) := by decide +kernel
theorem dX10_run_4 : decode cX10_run 4 = .ok (.iload_n 1, 1) := by decide +kernel
theorem dX10_run_5 : decode cX10_run 5 = .ok (.sipush 5000, 3) := by decide +kernel
theorem dX10_run_8 : decode cX10_run 8 = .ok (.if_icmp .le 5, 3) := by decide +kernel
theorem dX10_run_11 : decode cX10_run 11 = .ok (.iconst (-1), 1) := by decide +kernel
theorem dX10_run_12 : decode cX10_run 12 = .ok (.ireturn, 1) := by decide +kernel
theorem dX10_run_13 : decode cX10_run 13 = .ok (.aload_n 0, 1) := by decide +kernel
theorem dX10_run_14 : decode cX10_run 14 = .ok (.getfield 56, 3) := by decide +kernel
theorem dX10_run_17 : decode cX10_run 17 = .ok (.aload_n 0, 1) := by decide +kernel
theorem dX10_run_18 : decode cX10_run 18 = .ok (.getfield 35, 3) := by decide +kernel
theorem dX10_run_21 : decode cX10_run 21 = .ok (.aload_n 0, 1) := by decide +kernel
theorem dX10_run_22 : decode cX10_run 22 = .ok (.getfield 49, 3) := by decide +kernel
theorem dX10_run_25 : decode cX10_run 25 = .ok (.iload_n 1, 1) := by decide +kernel
theorem dX10_run_26 : decode cX10_run 26 = .ok (.invokevirtual 196, 3) := by decide +kernel
theorem dX10_run_29 : decode cX10_run 29 = .ok (.ireturn, 1) := by decide +kernel
theorem dX10_mouse_0 : decode cX10_mouse 0 = .ok (.iload_n 1, 1) := by decide +kernel
theorem dX10_mouse_1 : decode cX10_mouse 1 = .ok (.tableswitch 75 0 4 #[35, 43, 51, 59, 67], 35) := by decide +kernel
theorem dX10_mouse_36 : decode cX10_mouse 36 = .ok (.aload_n 0, 1) := by decide +kernel
theorem dX10_mouse_37 : decode cX10_mouse 37 = .ok (.getfield 56, 3) := by decide +kernel
theorem dX10_mouse_40 : decode cX10_mouse 40 = .ok (.getfield 173, 3) := by decide +kernel
theorem dX10_mouse_43 : decode cX10_mouse 43 = .ok (.ireturn, 1) := by decide +kernel
theorem dX10_mouse_44 : decode cX10_mouse 44 = .ok (.aload_n 0, 1) := by decide +kernel
theorem dX10_mouse_45 : decode cX10_mouse 45 = .ok (.getfield 56, 3) := by decide +kernel
theorem dX10_mouse_48 : decode cX10_mouse 48 = .ok (.getfield 176, 3) := by decide +kernel
theorem dX10_mouse_51 : decode cX10_mouse 51 = .ok (.ireturn, 1) := by decide +kernel
theorem dX10_mouse_52 : decode cX10_mouse 52 = .ok (.aload_n 0, 1) := by decide +kernel
theorem dX10_mouse_53 : decode cX10_mouse 53 = .ok (.getfield 56, 3) := by decide +kernel
theorem dX10_mouse_56 : decode cX10_mouse 56 = .ok (.getfield 186, 3) := by decide +kernel
theorem dX10_mouse_59 : decode cX10_mouse 59 = .ok (.ireturn, 1) := by decide +kernel
theorem dX10_mouse_60 : decode cX10_mouse 60 = .ok (.aload_n 0, 1) := by decide +kernel
theorem dX10_mouse_61 : decode cX10_mouse 61 = .ok (.getfield 56, 3) := by decide +kernel
theorem dX10_mouse_64 : decode cX10_mouse 64 = .ok (.getfield 189, 3) := by decide +kernel
theorem dX10_mouse_67 : decode cX10_mouse 67 = .ok (.ireturn, 1) := by decide +kernel
theorem dX10_mouse_68 : decode cX10_mouse 68 = .ok (.aload_n 0, 1) := by decide +kernel
theorem dX10_mouse_69 : decode cX10_mouse 69 = .ok (.getfield 56, 3) := by decide +kernel
theorem dX10_mouse_72 : decode cX10_mouse 72 = .ok (.getfield 115, 3) := by decide +kernel
theorem dX10_mouse_75 : decode cX10_mouse 75 = .ok (.ireturn, 1) := by decide +kernel
theorem dX10_mouse_76 : decode cX10_mouse 76 = .ok (.iconst (-1), 1) := by decide +kernel
theorem dX10_mouse_77 : decode cX10_mouse 77 = .ok (.ireturn, 1) := by decide +kernel
theorem dX1_wallsOf_0 : decode cX1_wallsOf 0 = .ok (.iconst 0, 1) := by decide +kernel
theorem dX1_wallsOf_1 : decode cX1_wallsOf 1 = .ok (.istore_n 2, 1) := by decide +kernel
theorem dX1_wallsOf_2 : decode cX1_wallsOf 2 = .ok (.iconst 0, 1) := by decide +kernel
theorem dX1_wallsOf_3 : decode cX1_wallsOf 3 = .ok (.istore_n 3, 1) := by decide +kernel
theorem dX1_wallsOf_4 : decode cX1_wallsOf 4 = .ok (.iload_n 3, 1) := by decide +kernel
theorem dX1_wallsOf_5 : decode cX1_wallsOf 5 = .ok (.iconst 4, 1) := by decide +kernel
theorem dX1_wallsOf_6 : decode cX1_wallsOf 6 = .ok (.if_icmp .ge 24, 3) := by decide +kernel
theorem dX1_wallsOf_9 : decode cX1_wallsOf 9 = .ok (.aload_n 0, 1) := by decide +kernel
theorem dX1_wallsOf_10 : decode cX1_wallsOf 10 = .ok (.iload_n 1, 1) := by decide +kernel
theorem dX1_wallsOf_11 : decode cX1_wallsOf 11 = .ok (.iload_n 3, 1) := by decide +kernel
theorem dX1_wallsOf_12 : decode cX1_wallsOf 12 = .ok (.invokevirtual 42, 3) := by decide +kernel
theorem dX1_wallsOf_15 : decode cX1_wallsOf 15 = .ok (.ifCond .eq 9, 3) := by decide +kernel
theorem dX1_wallsOf_18 : decode cX1_wallsOf 18 = .ok (.iload_n 2, 1) := by decide +kernel
theorem dX1_wallsOf_19 : decode cX1_wallsOf 19 = .ok (.iconst 1, 1) := by decide +kernel
theorem dX1_wallsOf_20 : decode cX1_wallsOf 20 = .ok (.iload_n 3, 1) := by decide +kernel
theorem dX1_wallsOf_21 : decode cX1_wallsOf 21 = .ok (.ishl, 1) := by decide +kernel
theorem dX1_wallsOf_22 : decode cX1_wallsOf 22 = .ok (.ior, 1) := by decide +kernel
theorem dX1_wallsOf_23 : decode cX1_wallsOf 23 = .ok (.istore_n 2, 1) := by decide +kernel
theorem dX1_wallsOf_24 : decode cX1_wallsOf 24 = .ok (.iinc 3 1, 3) := by decide +kernel
theorem dX1_wallsOf_27 : decode cX1_wallsOf 27 = .ok (.goto (-23), 3) := by decide +kernel
theorem dX1_wallsOf_30 : decode cX1_wallsOf 30 = .ok (.iload_n 2, 1) := by decide +kernel
theorem dX1_wallsOf_31 : decode cX1_wallsOf 31 = .ok (.ireturn, 1) := by decide +kernel
theorem dX1_spread_0 : decode cX1_spread 0 = .ok (.lload_n 1, 1) := by decide +kernel
theorem dX1_spread_1 : decode cX1_spread 1 = .ok (.lload_n 1, 1) := by decide +kernel
theorem dX1_spread_2 : decode cX1_spread 2 = .ok (.aload_n 0, 1) := by decide +kernel
theorem dX1_spread_3 : decode cX1_spread 3 = .ok (.getfield 11, 3) := by decide +kernel
theorem dX1_spread_6 : decode cX1_spread 6 = .ok (.iconst 0, 1) := by decide +kernel
theorem dX1_spread_7 : decode cX1_spread 7 = .ok (.laload, 1) := by decide +kernel
theorem dX1_spread_8 : decode cX1_spread 8 = .ok (.ldc2_w 54, 3) := by decide +kernel
theorem dX1_spread_11 : decode cX1_spread 11 = .ok (.lxor, 1) := by decide +kernel
theorem dX1_spread_12 : decode cX1_spread 12 = .ok (.land, 1) := by decide +kernel
theorem dX1_spread_13 : decode cX1_spread 13 = .ok (.aload_n 0, 1) := by decide +kernel
theorem dX1_spread_14 : decode cX1_spread 14 = .ok (.getfield 26, 3) := by decide +kernel
theorem dX1_spread_17 : decode cX1_spread 17 = .ok (.lushr, 1) := by decide +kernel
theorem dX1_spread_18 : decode cX1_spread 18 = .ok (.lor, 1) := by decide +kernel
theorem dX1_spread_19 : decode cX1_spread 19 = .ok (.lload_n 1, 1) := by decide +kernel
theorem dX1_spread_20 : decode cX1_spread 20 = .ok (.aload_n 0, 1) := by decide +kernel
theorem dX1_spread_21 : decode cX1_spread 21 = .ok (.getfield 11, 3) := by decide +kernel
theorem dX1_spread_24 : decode cX1_spread 24 = .ok (.iconst 1, 1) := by decide +kernel
theorem dX1_spread_25 : decode cX1_spread 25 = .ok (.laload, 1) := by decide +kernel
theorem dX1_spread_26 : decode cX1_spread 26 = .ok (.ldc2_w 54, 3) := by decide +kernel
theorem dX1_spread_29 : decode cX1_spread 29 = .ok (.lxor, 1) := by decide +kernel
theorem dX1_spread_30 : decode cX1_spread 30 = .ok (.land, 1) := by decide +kernel
theorem dX1_spread_31 : decode cX1_spread 31 = .ok (.iconst 1, 1) := by decide +kernel
theorem dX1_spread_32 : decode cX1_spread 32 = .ok (.lshl, 1) := by decide +kernel
theorem dX1_spread_33 : decode cX1_spread 33 = .ok (.lor, 1) := by decide +kernel
theorem dX1_spread_34 : decode cX1_spread 34 = .ok (.lload_n 1, 1) := by decide +kernel
theorem dX1_spread_35 : decode cX1_spread 35 = .ok (.aload_n 0, 1) := by decide +kernel
theorem dX1_spread_36 : decode cX1_spread 36 = .ok (.getfield 11, 3) := by decide +kernel
theorem dX1_spread_39 : decode cX1_spread 39 = .ok (.iconst 2, 1) := by decide +kernel
theorem dX1_spread_40 : decode cX1_spread 40 = .ok (.laload, 1) := by decide +kernel
theorem dX1_spread_41 : decode cX1_spread 41 = .ok (.ldc2_w 54, 3) := by decide +kernel
theorem dX1_spread_44 : decode cX1_spread 44 = .ok (.lxor, 1) := by decide +kernel
theorem dX1_spread_45 : decode cX1_spread 45 = .ok (.land, 1) := by decide +kernel
theorem dX1_spread_46 : decode cX1_spread 46 = .ok (.aload_n 0, 1) := by decide +kernel
theorem dX1_spread_47 : decode cX1_spread 47 = .ok (.getfield 26, 3) := by decide +kernel
theorem dX1_spread_50 : decode cX1_spread 50 = .ok (.lshl, 1) := by decide +kernel
theorem dX1_spread_51 : decode cX1_spread 51 = .ok (.lor, 1) := by decide +kernel
theorem dX1_spread_52 : decode cX1_spread 52 = .ok (.lload_n 1, 1) := by decide +kernel
theorem dX1_spread_53 : decode cX1_spread 53 = .ok (.aload_n 0, 1) := by decide +kernel
theorem dX1_spread_54 : decode cX1_spread 54 = .ok (.getfield 11, 3) := by decide +kernel
theorem dX1_spread_57 : decode cX1_spread 57 = .ok (.iconst 3, 1) := by decide +kernel
theorem dX1_spread_58 : decode cX1_spread 58 = .ok (.laload, 1) := by decide +kernel
theorem dX1_spread_59 : decode cX1_spread 59 = .ok (.ldc2_w 54, 3) := by decide +kernel
theorem dX1_spread_62 : decode cX1_spread 62 = .ok (.lxor, 1) := by decide +kernel
theorem dX1_spread_63 : decode cX1_spread 63 = .ok (.land, 1) := by decide +kernel
theorem dX1_spread_64 : decode cX1_spread 64 = .ok (.iconst 1, 1) := by decide +kernel
theorem dX1_spread_65 : decode cX1_spread 65 = .ok (.lushr, 1) := by decide +kernel
theorem dX1_spread_66 : decode cX1_spread 66 = .ok (.lor, 1) := by decide +kernel
theorem dX1_spread_67 : decode cX1_spread 67 = .ok (.lreturn, 1) := by decide +kernel
theorem dX1_far_0 : decode cX1_far 0 = .ok (.lconst 1, 1) := by decide +kernel
theorem dX1_far_1 : decode cX1_far 1 = .ok (.iload_n 1, 1) := by decide +kernel
theorem dX1_far_2 : decode cX1_far 2 = .ok (.lshl, 1) := by decide +kernel
theorem dX1_far_3 : decode cX1_far 3 = .ok (.lstore_n 2, 1) := by decide +kernel
theorem dX1_far_4 : decode cX1_far 4 = .ok (.iconst 0, 1) := by decide +kernel
theorem dX1_far_5 : decode cX1_far 5 = .ok (.istore 4, 2) := by decide +kernel
theorem dX1_far_7 : decode cX1_far 7 = .ok (.iload 4, 2) := by decide +kernel
theorem dX1_far_9 : decode cX1_far 9 = .ok (.aload_n 0, 1) := by decide +kernel
theorem dX1_far_10 : decode cX1_far 10 = .ok (.getfield 33, 3) := by decide +kernel
theorem dX1_far_13 : decode cX1_far 13 = .ok (.if_icmp .ge 31, 3) := by decide +kernel
theorem dX1_far_16 : decode cX1_far 16 = .ok (.lload_n 2, 1) := by decide +kernel
theorem dX1_far_17 : decode cX1_far 17 = .ok (.aload_n 0, 1) := by decide +kernel
theorem dX1_far_18 : decode cX1_far 18 = .ok (.getfield 36, 3) := by decide +kernel
theorem dX1_far_21 : decode cX1_far 21 = .ok (.lushr, 1) := by decide +kernel
theorem dX1_far_22 : decode cX1_far 22 = .ok (.lconst 1, 1) := by decide +kernel
theorem dX1_far_23 : decode cX1_far 23 = .ok (.land, 1) := by decide +kernel
theorem dX1_far_24 : decode cX1_far 24 = .ok (.lconst 0, 1) := by decide +kernel
theorem dX1_far_25 : decode cX1_far 25 = .ok (.lcmp, 1) := by decide +kernel
theorem dX1_far_26 : decode cX1_far 26 = .ok (.ifCond .eq 6, 3) := by decide +kernel
theorem dX1_far_29 : decode cX1_far 29 = .ok (.iload 4, 2) := by decide +kernel
theorem dX1_far_31 : decode cX1_far 31 = .ok (.ireturn, 1) := by decide +kernel
theorem dX1_far_32 : decode cX1_far 32 = .ok (.aload_n 0, 1) := by decide +kernel
theorem dX1_far_33 : decode cX1_far 33 = .ok (.lload_n 2, 1) := by decide +kernel
theorem dX1_far_34 : decode cX1_far 34 = .ok (.invokevirtual 76, 3) := by decide +kernel
theorem dX1_far_37 : decode cX1_far 37 = .ok (.lstore_n 2, 1) := by decide +kernel
theorem dX1_far_38 : decode cX1_far 38 = .ok (.iinc 4 1, 3) := by decide +kernel
theorem dX1_far_41 : decode cX1_far 41 = .ok (.goto (-34), 3) := by decide +kernel
theorem dX1_far_44 : decode cX1_far 44 = .ok (.iconst (-1), 1) := by decide +kernel
theorem dX1_far_45 : decode cX1_far 45 = .ok (.ireturn, 1) := by decide +kernel
theorem dX10_look_0 : decode cX10_look 0 = .ok (.aload_n 0, 1) := by decide +kernel
theorem dX10_look_1 : decode cX10_look 1 = .ok (.getfield 49, 3) := by decide +kernel
theorem dX10_look_4 : decode cX10_look 4 = .ok (.iload_n 1, 1) := by decide +kernel
theorem dX10_look_5 : decode cX10_look 5 = .ok (.invokevirtual 153, 3) := by decide +kernel
theorem dX10_look_8 : decode cX10_look 8 = .ok (.ifCond .ne 13, 3) := by decide +kernel
theorem dX10_look_11 : decode cX10_look 11 = .ok (.new 200, 3) := by decide +kernel
theorem dX10_look_14 : decode cX10_look 14 = .ok (.dup, 1) := by decide +kernel
theorem dX10_look_15 : decode cX10_look 15 = .ok (.ldc 202, 2) := by decide +kernel
theorem dX10_look_17 : decode cX10_look 17 = .ok (.invokespecial 204, 3) := by decide +kernel
theorem dX10_look_20 : decode cX10_look 20 = .ok (.athrow, 1) := by decide +kernel
theorem dX10_look_21 : decode cX10_look 21 = .ok (.iload_n 2, 1) := by decide +kernel
theorem dX10_look_22 : decode cX10_look 22 = .ok (.tableswitch 66 0 3 #[30, 39, 48, 57], 30) := by decide +kernel
theorem dX10_look_52 : decode cX10_look 52 = .ok (.aload_n 0, 1) := by decide +kernel
theorem dX10_look_53 : decode cX10_look 53 = .ok (.getfield 56, 3) := by decide +kernel
theorem dX10_look_56 : decode cX10_look 56 = .ok (.iload_n 1, 1) := by decide +kernel
theorem dX10_look_57 : decode cX10_look 57 = .ok (.invokevirtual 207, 3) := by decide +kernel
theorem dX10_look_60 : decode cX10_look 60 = .ok (.ireturn, 1) := by decide +kernel
theorem dX10_look_61 : decode cX10_look 61 = .ok (.aload_n 0, 1) := by decide +kernel
theorem dX10_look_62 : decode cX10_look 62 = .ok (.getfield 56, 3) := by decide +kernel
theorem dX10_look_65 : decode cX10_look 65 = .ok (.iload_n 1, 1) := by decide +kernel
theorem dX10_look_66 : decode cX10_look 66 = .ok (.invokevirtual 211, 3) := by decide +kernel
theorem dX10_look_69 : decode cX10_look 69 = .ok (.ireturn, 1) := by decide +kernel
theorem dX10_look_70 : decode cX10_look 70 = .ok (.aload_n 0, 1) := by decide +kernel
theorem dX10_look_71 : decode cX10_look 71 = .ok (.getfield 49, 3) := by decide +kernel
theorem dX10_look_74 : decode cX10_look 74 = .ok (.iload_n 1, 1) := by decide +kernel
theorem dX10_look_75 : decode cX10_look 75 = .ok (.invokevirtual 214, 3) := by decide +kernel
theorem dX10_look_78 : decode cX10_look 78 = .ok (.ireturn, 1) := by decide +kernel
theorem dX10_look_79 : decode cX10_look 79 = .ok (.aload_n 0, 1) := by decide +kernel
theorem dX10_look_80 : decode cX10_look 80 = .ok (.getfield 49, 3) := by decide +kernel
theorem dX10_look_83 : decode cX10_look 83 = .ok (.iload_n 1, 1) := by decide +kernel
theorem dX10_look_84 : decode cX10_look 84 = .ok (.invokevirtual 217, 3) := by decide +kernel
theorem dX10_look_87 : decode cX10_look 87 = .ok (.ireturn, 1) := by decide +kernel
theorem dX10_look_88 : decode cX10_look 88 = .ok (.new 220, 3) := by decide +kernel
theorem dX10_look_91 : decode cX10_look 91 = .ok (.dup, 1) := by decide +kernel
theorem dX10_look_92 : decode cX10_look 92 = .ok (.ldc 222, 2) := by decide +kernel
theorem dX10_look_94 : decode cX10_look 94 = .ok (.invokespecial 224, 3) := by decide +kernel
theorem dX10_look_97 : decode cX10_look 97 = .ok (.athrow, 1) := by decide +kernel
theorem dX1_reach_0 : decode cX1_reach 0 = .ok (.lconst 1, 1) := by decide +kernel
theorem dX1_reach_1 : decode cX1_reach 1 = .ok (.aload_n 0, 1) := by decide +kernel
theorem dX1_reach_2 : decode cX1_reach 2 = .ok (.getfield 36, 3) := by decide +kernel
theorem dX1_reach_5 : decode cX1_reach 5 = .ok (.lshl, 1) := by decide +kernel
theorem dX1_reach_6 : decode cX1_reach 6 = .ok (.lstore_n 1, 1) := by decide +kernel
theorem dX1_reach_7 : decode cX1_reach 7 = .ok (.iconst 1, 1) := by decide +kernel
theorem dX1_reach_8 : decode cX1_reach 8 = .ok (.istore_n 3, 1) := by decide +kernel
theorem dX1_reach_9 : decode cX1_reach 9 = .ok (.iload_n 3, 1) := by decide +kernel
theorem dX1_reach_10 : decode cX1_reach 10 = .ok (.aload_n 0, 1) := by decide +kernel
theorem dX1_reach_11 : decode cX1_reach 11 = .ok (.getfield 33, 3) := by decide +kernel
theorem dX1_reach_14 : decode cX1_reach 14 = .ok (.if_icmp .ge 15, 3) := by decide +kernel
theorem dX1_reach_17 : decode cX1_reach 17 = .ok (.aload_n 0, 1) := by decide +kernel
theorem dX1_reach_18 : decode cX1_reach 18 = .ok (.lload_n 1, 1) := by decide +kernel
theorem dX1_reach_19 : decode cX1_reach 19 = .ok (.invokevirtual 76, 3) := by decide +kernel
theorem dX1_reach_22 : decode cX1_reach 22 = .ok (.lstore_n 1, 1) := by decide +kernel
theorem dX1_reach_23 : decode cX1_reach 23 = .ok (.iinc 3 1, 3) := by decide +kernel
theorem dX1_reach_26 : decode cX1_reach 26 = .ok (.goto (-17), 3) := by decide +kernel
theorem dX1_reach_29 : decode cX1_reach 29 = .ok (.lload_n 1, 1) := by decide +kernel
theorem dX1_reach_30 : decode cX1_reach 30 = .ok (.lreturn, 1) := by decide +kernel
theorem dX10_scoutRun_0 : decode cX10_scoutRun 0 = .ok (.iload_n 2, 1) := by decide +kernel
theorem dX10_scoutRun_1 : decode cX10_scoutRun 1 = .ok (.ifCond .eq 14, 3) := by decide +kernel
theorem dX10_scoutRun_4 : decode cX10_scoutRun 4 = .ok (.aload_n 0, 1) := by decide +kernel
theorem dX10_scoutRun_5 : decode cX10_scoutRun 5 = .ok (.getfield 79, 3) := by decide +kernel
theorem dX10_scoutRun_8 : decode cX10_scoutRun 8 = .ok (.iload_n 1, 1) := by decide +kernel
theorem dX10_scoutRun_9 : decode cX10_scoutRun 9 = .ok (.invokevirtual 147, 3) := by decide +kernel
theorem dX10_scoutRun_12 : decode cX10_scoutRun 12 = .ok (.goto 11, 3) := by decide +kernel
theorem dX10_scoutRun_15 : decode cX10_scoutRun 15 = .ok (.aload_n 0, 1) := by decide +kernel
theorem dX10_scoutRun_16 : decode cX10_scoutRun 16 = .ok (.getfield 79, 3) := by decide +kernel
theorem dX10_scoutRun_19 : decode cX10_scoutRun 19 = .ok (.iload_n 1, 1) := by decide +kernel
theorem dX10_scoutRun_20 : decode cX10_scoutRun 20 = .ok (.invokevirtual 331, 3) := by decide +kernel
theorem dX10_scoutRun_23 : decode cX10_scoutRun 23 = .ok (.aload_n 0, 1) := by decide +kernel
theorem dX10_scoutRun_24 : decode cX10_scoutRun 24 = .ok (.getfield 79, 3) := by decide +kernel
theorem dX10_scoutRun_27 : decode cX10_scoutRun 27 = .ok (.iconst 0, 1) := by decide +kernel
theorem dX10_scoutRun_28 : decode cX10_scoutRun 28 = .ok (.putfield 236, 3) := by decide +kernel
theorem dX10_scoutRun_31 : decode cX10_scoutRun 31 = .ok (.aload_n 0, 1) := by decide +kernel
theorem dX10_scoutRun_32 : decode cX10_scoutRun 32 = .ok (.getfield 79, 3) := by decide +kernel
theorem dX10_scoutRun_35 : decode cX10_scoutRun 35 = .ok (.aload_n 0, 1) := by decide +kernel
theorem dX10_scoutRun_36 : decode cX10_scoutRun 36 = .ok (.getfield 35, 3) := by decide +kernel
theorem dX10_scoutRun_39 : decode cX10_scoutRun 39 = .ok (.aload_n 0, 1) := by decide +kernel
theorem dX10_scoutRun_40 : decode cX10_scoutRun 40 = .ok (.getfield 49, 3) := by decide +kernel
theorem dX10_scoutRun_43 : decode cX10_scoutRun 43 = .ok (.sipush 2000, 3) := by decide +kernel
theorem dX10_scoutRun_46 : decode cX10_scoutRun 46 = .ok (.invokevirtual 196, 3) := by decide +kernel
theorem dX10_scoutRun_49 : decode cX10_scoutRun 49 = .ok (.ireturn, 1) := by decide +kernel
theorem dX10_comes_0 : decode cX10_comes 0 = .ok (.iload_n 1, 1) := by decide +kernel
theorem dX10_comes_1 : decode cX10_comes 1 = .ok (.ifCond .lt 8, 3) := by decide +kernel
theorem dX10_comes_4 : decode cX10_comes 4 = .ok (.iload_n 1, 1) := by decide +kernel
theorem dX10_comes_5 : decode cX10_comes 5 = .ok (.iconst 1, 1) := by decide +kernel
theorem dX10_comes_6 : decode cX10_comes 6 = .ok (.if_icmp .le 5, 3) := by decide +kernel
theorem dX10_comes_9 : decode cX10_comes 9 = .ok (.iconst (-1), 1) := by decide +kernel
theorem dX10_comes_10 : decode cX10_comes 10 = .ok (.ireturn, 1) := by decide +kernel
theorem dX10_comes_11 : decode cX10_comes 11 = .ok (.aload_n 0, 1) := by decide +kernel
theorem dX10_comes_12 : decode cX10_comes 12 = .ok (.getfield 49, 3) := by decide +kernel
theorem dX10_comes_15 : decode cX10_comes 15 = .ok (.invokevirtual 225, 3) := by decide +kernel
theorem dX10_comes_18 : decode cX10_comes 18 = .ok (.lstore_n 2, 1) := by decide +kernel
theorem dX10_comes_19 : decode cX10_comes 19 = .ok (.iconst 0, 1) := by decide +kernel
theorem dX10_comes_20 : decode cX10_comes 20 = .ok (.istore 4, 2) := by decide +kernel
theorem dX10_comes_22 : decode cX10_comes 22 = .ok (.iconst (-1), 1) := by decide +kernel
theorem dX10_comes_23 : decode cX10_comes 23 = .ok (.istore 5, 2) := by decide +kernel
theorem dX10_comes_25 : decode cX10_comes 25 = .ok (.iconst 0, 1) := by decide +kernel
theorem dX10_comes_26 : decode cX10_comes 26 = .ok (.istore 6, 2) := by decide +kernel
theorem dX10_comes_28 : decode cX10_comes 28 = .ok (.iload 6, 2) := by decide +kernel
theorem dX10_comes_30 : decode cX10_comes 30 = .ok (.aload_n 0, 1) := by decide +kernel
theorem dX10_comes_31 : decode cX10_comes 31 = .ok (.getfield 49, 3) := by decide +kernel
theorem dX10_comes_34 : decode cX10_comes 34 = .ok (.getfield 229, 3) := by decide +kernel
theorem dX10_comes_37 : decode cX10_comes 37 = .ok (.if_icmp .ge 45, 3) := by decide +kernel
theorem dX10_comes_40 : decode cX10_comes 40 = .ok (.lload_n 2, 1) := by decide +kernel
theorem dX10_comes_41 : decode cX10_comes 41 = .ok (.iload 6, 2) := by decide +kernel
theorem dX10_comes_43 : decode cX10_comes 43 = .ok (.lushr, 1) := by decide +kernel
theorem dX10_comes_44 : decode cX10_comes 44 = .ok (.lconst 1, 1) := by decide +kernel
theorem dX10_comes_45 : decode cX10_comes 45 = .ok (.land, 1) := by decide +kernel
theorem dX10_comes_46 : decode cX10_comes 46 = .ok (.lconst 0, 1) := by decide +kernel
theorem dX10_comes_47 : decode cX10_comes 47 = .ok (.lcmp, 1) := by decide +kernel
theorem dX10_comes_48 : decode cX10_comes 48 = .ok (.ifCond .eq 28, 3) := by decide +kernel
theorem dX10_comes_51 : decode cX10_comes 51 = .ok (.aload_n 0, 1) := by decide +kernel
theorem dX10_comes_52 : decode cX10_comes 52 = .ok (.iload 6, 2) := by decide +kernel
theorem dX10_comes_54 : decode cX10_comes 54 = .ok (.iconst 1, 1) := by decide +kernel
theorem dX10_comes_55 : decode cX10_comes 55 = .ok (.invokevirtual 232, 3) := by decide +kernel
theorem dX10_comes_58 : decode cX10_comes 58 = .ok (.bipush (-2), 2) := by decide +kernel
theorem dX10_comes_60 : decode cX10_comes 60 = .ok (.if_icmp .ne 16, 3) := by decide +kernel
theorem dX10_comes_63 : decode cX10_comes 63 = .ok (.iinc 4 1, 3) := by decide +kernel
theorem dX10_comes_66 : decode cX10_comes 66 = .ok (.iload 5, 2) := by decide +kernel
theorem dX10_comes_68 : decode cX10_comes 68 = .ok (.iconst (-1), 1) := by decide +kernel
theorem dX10_comes_69 : decode cX10_comes 69 = .ok (.if_icmp .ne 7, 3) := by decide +kernel
theorem dX10_comes_72 : decode cX10_comes 72 = .ok (.iload 6, 2) := by decide +kernel
theorem dX10_comes_74 : decode cX10_comes 74 = .ok (.istore 5, 2) := by decide +kernel
theorem dX10_comes_76 : decode cX10_comes 76 = .ok (.iinc 6 1, 3) := by decide +kernel
theorem dX10_comes_79 : decode cX10_comes 79 = .ok (.goto (-51), 3) := by decide +kernel
theorem dX10_comes_82 : decode cX10_comes 82 = .ok (.iload_n 1, 1) := by decide +kernel
theorem dX10_comes_83 : decode cX10_comes 83 = .ok (.ifCond .ne 8, 3) := by decide +kernel
theorem dX10_comes_86 : decode cX10_comes 86 = .ok (.iload 4, 2) := by decide +kernel
theorem dX10_comes_88 : decode cX10_comes 88 = .ok (.goto 5, 3) := by decide +kernel
theorem dX10_comes_91 : decode cX10_comes 91 = .ok (.iload 5, 2) := by decide +kernel
theorem dX10_comes_93 : decode cX10_comes 93 = .ok (.ireturn, 1) := by decide +kernel
theorem dX10_second_0 : decode cX10_second 0 = .ok (.aload_n 0, 1) := by decide +kernel
theorem dX10_second_1 : decode cX10_second 1 = .ok (.getfield 49, 3) := by decide +kernel
theorem dX10_second_4 : decode cX10_second 4 = .ok (.iload_n 1, 1) := by decide +kernel
theorem dX10_second_5 : decode cX10_second 5 = .ok (.invokevirtual 153, 3) := by decide +kernel
theorem dX10_second_8 : decode cX10_second 8 = .ok (.ifCond .eq 12, 3) := by decide +kernel
theorem dX10_second_11 : decode cX10_second 11 = .ok (.iload_n 2, 1) := by decide +kernel
theorem dX10_second_12 : decode cX10_second 12 = .ok (.ifCond .lt 8, 3) := by decide +kernel
theorem dX10_second_15 : decode cX10_second 15 = .ok (.iload_n 2, 1) := by decide +kernel
theorem dX10_second_16 : decode cX10_second 16 = .ok (.iconst 3, 1) := by decide +kernel
theorem dX10_second_17 : decode cX10_second 17 = .ok (.if_icmp .le 5, 3) := by decide +kernel
theorem dX10_second_20 : decode cX10_second 20 = .ok (.iconst (-1), 1) := by decide +kernel
theorem dX10_second_21 : decode cX10_second 21 = .ok (.ireturn, 1) := by decide +kernel
theorem dX10_second_22 : decode cX10_second 22 = .ok (.aload_n 0, 1) := by decide +kernel
theorem dX10_second_23 : decode cX10_second 23 = .ok (.iload_n 1, 1) := by decide +kernel
theorem dX10_second_24 : decode cX10_second 24 = .ok (.iconst 1, 1) := by decide +kernel
theorem dX10_second_25 : decode cX10_second 25 = .ok (.invokevirtual 232, 3) := by decide +kernel
theorem dX10_second_28 : decode cX10_second 28 = .ok (.istore_n 3, 1) := by decide +kernel
theorem dX10_second_29 : decode cX10_second 29 = .ok (.iload_n 2, 1) := by decide +kernel
theorem dX10_second_30 : decode cX10_second 30 = .ok (.iconst 1, 1) := by decide +kernel
theorem dX10_second_31 : decode cX10_second 31 = .ok (.if_icmp .eq 8, 3) := by decide +kernel
theorem dX10_second_34 : decode cX10_second 34 = .ok (.iload_n 2, 1) := by decide +kernel
theorem dX10_second_35 : decode cX10_second 35 = .ok (.iconst 3, 1) := by decide +kernel
theorem dX10_second_36 : decode cX10_second 36 = .ok (.if_icmp .ne 7, 3) := by decide +kernel
theorem dX10_second_39 : decode cX10_second 39 = .ok (.iconst 1, 1) := by decide +kernel
theorem dX10_second_40 : decode cX10_second 40 = .ok (.goto 4, 3) := by decide +kernel
theorem dX10_second_43 : decode cX10_second 43 = .ok (.iconst 0, 1) := by decide +kernel
theorem dX10_second_44 : decode cX10_second 44 = .ok (.istore 4, 2) := by decide +kernel
theorem dX10_second_46 : decode cX10_second 46 = .ok (.iload 4, 2) := by decide +kernel
theorem dX10_second_48 : decode cX10_second 48 = .ok (.ifCond .eq 16, 3) := by decide +kernel
theorem dX10_second_51 : decode cX10_second 51 = .ok (.iload_n 3, 1) := by decide +kernel
theorem dX10_second_52 : decode cX10_second 52 = .ok (.bipush (-2), 2) := by decide +kernel
theorem dX10_second_54 : decode cX10_second 54 = .ok (.if_icmp .eq 10, 3) := by decide +kernel
theorem dX10_second_57 : decode cX10_second 57 = .ok (.aload_n 0, 1) := by decide +kernel
theorem dX10_second_58 : decode cX10_second 58 = .ok (.iload_n 1, 1) := by decide +kernel
theorem dX10_second_59 : decode cX10_second 59 = .ok (.iconst 0, 1) := by decide +kernel
theorem dX10_second_60 : decode cX10_second 60 = .ok (.invokevirtual 232, 3) := by decide +kernel
theorem dX10_second_63 : decode cX10_second 63 = .ok (.istore_n 3, 1) := by decide +kernel
theorem dX10_second_64 : decode cX10_second 64 = .ok (.iload_n 3, 1) := by decide +kernel
theorem dX10_second_65 : decode cX10_second 65 = .ok (.bipush (-2), 2) := by decide +kernel
theorem dX10_second_67 : decode cX10_second 67 = .ok (.if_icmp .ne 6, 3) := by decide +kernel
theorem dX10_second_70 : decode cX10_second 70 = .ok (.bipush (-2), 2) := by decide +kernel
theorem dX10_second_72 : decode cX10_second 72 = .ok (.ireturn, 1) := by decide +kernel
theorem dX10_second_73 : decode cX10_second 73 = .ok (.iload_n 2, 1) := by decide +kernel
theorem dX10_second_74 : decode cX10_second 74 = .ok (.iconst 2, 1) := by decide +kernel
theorem dX10_second_75 : decode cX10_second 75 = .ok (.if_icmp .ge 7, 3) := by decide +kernel
theorem dX10_second_78 : decode cX10_second 78 = .ok (.iload_n 3, 1) := by decide +kernel
theorem dX10_second_79 : decode cX10_second 79 = .ok (.goto 10, 3) := by decide +kernel
theorem dX10_second_82 : decode cX10_second 82 = .ok (.aload_n 0, 1) := by decide +kernel
theorem dX10_second_83 : decode cX10_second 83 = .ok (.getfield 79, 3) := by decide +kernel
theorem dX10_second_86 : decode cX10_second 86 = .ok (.getfield 236, 3) := by decide +kernel
theorem dX10_second_89 : decode cX10_second 89 = .ok (.ireturn, 1) := by decide +kernel
theorem dX8_isSmall_0 : decode cX8_isSmall 0 = .ok (.iload_n 0, 1) := by decide +kernel
theorem dX8_isSmall_1 : decode cX8_isSmall 1 = .ok (.iconst 2, 1) := by decide +kernel
theorem dX8_isSmall_2 : decode cX8_isSmall 2 = .ok (.if_icmp .lt 22, 3) := by decide +kernel
theorem dX8_isSmall_5 : decode cX8_isSmall 5 = .ok (.iload_n 0, 1) := by decide +kernel
theorem dX8_isSmall_6 : decode cX8_isSmall 6 = .ok (.iconst 3, 1) := by decide +kernel
theorem dX8_isSmall_7 : decode cX8_isSmall 7 = .ok (.if_icmp .gt 17, 3) := by decide +kernel
theorem dX8_isSmall_10 : decode cX8_isSmall 10 = .ok (.iload_n 1, 1) := by decide +kernel
theorem dX8_isSmall_11 : decode cX8_isSmall 11 = .ok (.iconst 2, 1) := by decide +kernel
theorem dX8_isSmall_12 : decode cX8_isSmall 12 = .ok (.if_icmp .lt 12, 3) := by decide +kernel
theorem dX8_isSmall_15 : decode cX8_isSmall 15 = .ok (.iload_n 1, 1) := by decide +kernel
theorem dX8_isSmall_16 : decode cX8_isSmall 16 = .ok (.iconst 3, 1) := by decide +kernel
theorem dX8_isSmall_17 : decode cX8_isSmall 17 = .ok (.if_icmp .gt 7, 3) := by decide +kernel
theorem dX8_isSmall_20 : decode cX8_isSmall 20 = .ok (.iconst 1, 1) := by decide +kernel
theorem dX8_isSmall_21 : decode cX8_isSmall 21 = .ok (.goto 4, 3) := by decide +kernel
theorem dX8_isSmall_24 : decode cX8_isSmall 24 = .ok (.iconst 0, 1) := by decide +kernel
theorem dX8_isSmall_25 : decode cX8_isSmall 25 = .ok (.ireturn, 1) := by decide +kernel
theorem dX8_sizeOf_0 : decode cX8_sizeOf 0 = .ok (.iload_n 0, 1) := by decide +kernel
theorem dX8_sizeOf_1 : decode cX8_sizeOf 1 = .ok (.iload_n 1, 1) := by decide +kernel
theorem dX8_sizeOf_2 : decode cX8_sizeOf 2 = .ok (.invokestatic 44, 3) := by decide +kernel
theorem dX8_sizeOf_5 : decode cX8_sizeOf 5 = .ok (.ifCond .eq 15, 3) := by decide +kernel
theorem dX8_sizeOf_8 : decode cX8_sizeOf 8 = .ok (.iload_n 0, 1) := by decide +kernel
theorem dX8_sizeOf_9 : decode cX8_sizeOf 9 = .ok (.iconst 2, 1) := by decide +kernel
theorem dX8_sizeOf_10 : decode cX8_sizeOf 10 = .ok (.isub, 1) := by decide +kernel
theorem dX8_sizeOf_11 : decode cX8_sizeOf 11 = .ok (.iconst 2, 1) := by decide +kernel
theorem dX8_sizeOf_12 : decode cX8_sizeOf 12 = .ok (.imul, 1) := by decide +kernel
theorem dX8_sizeOf_13 : decode cX8_sizeOf 13 = .ok (.iload_n 1, 1) := by decide +kernel
theorem dX8_sizeOf_14 : decode cX8_sizeOf 14 = .ok (.iadd, 1) := by decide +kernel
theorem dX8_sizeOf_15 : decode cX8_sizeOf 15 = .ok (.iconst 2, 1) := by decide +kernel
theorem dX8_sizeOf_16 : decode cX8_sizeOf 16 = .ok (.isub, 1) := by decide +kernel
theorem dX8_sizeOf_17 : decode cX8_sizeOf 17 = .ok (.goto 4, 3) := by decide +kernel
theorem dX8_sizeOf_20 : decode cX8_sizeOf 20 = .ok (.iconst 0, 1) := by decide +kernel
theorem dX8_sizeOf_21 : decode cX8_sizeOf 21 = .ok (.ireturn, 1) := by decide +kernel
theorem dX8_layFirst_0 : decode cX8_layFirst 0 = .ok (.aload_n 0, 1) := by decide +kernel
theorem dX8_layFirst_1 : decode cX8_layFirst 1 = .ok (.getfield 12, 3) := by decide +kernel
theorem dX8_layFirst_4 : decode cX8_layFirst 4 = .ok (.iload_n 1, 1) := by decide +kernel
theorem dX8_layFirst_5 : decode cX8_layFirst 5 = .ok (.iload_n 2, 1) := by decide +kernel
theorem dX8_layFirst_6 : decode cX8_layFirst 6 = .ok (.invokevirtual 55, 3) := by decide +kernel
theorem dX8_layFirst_9 : decode cX8_layFirst 9 = .ok (.aload_n 0, 1) := by decide +kernel
theorem dX8_layFirst_10 : decode cX8_layFirst 10 = .ok (.iconst 0, 1) := by decide +kernel
theorem dX8_layFirst_11 : decode cX8_layFirst 11 = .ok (.putfield 59, 3) := by decide +kernel
theorem dX8_layFirst_14 : decode cX8_layFirst 14 = .ok (.aload_n 0, 1) := by decide +kernel
theorem dX8_layFirst_15 : decode cX8_layFirst 15 = .ok (.iconst (-1), 1) := by decide +kernel
theorem dX8_layFirst_16 : decode cX8_layFirst 16 = .ok (.putfield 62, 3) := by decide +kernel
theorem dX8_layFirst_19 : decode cX8_layFirst 19 = .ok (.aload_n 0, 1) := by decide +kernel
theorem dX8_layFirst_20 : decode cX8_layFirst 20 = .ok (.aload_n 0, 1) := by decide +kernel
theorem dX8_layFirst_21 : decode cX8_layFirst 21 = .ok (.getfield 12, 3) := by decide +kernel
theorem dX8_layFirst_24 : decode cX8_layFirst 24 = .ok (.invokevirtual 65, 3) := by decide +kernel
theorem dX8_layFirst_27 : decode cX8_layFirst 27 = .ok (.putfield 69, 3) := by decide +kernel
theorem dX8_layFirst_30 : decode cX8_layFirst 30 = .ok (.return_, 1) := by decide +kernel
theorem dX1_wallNumbers_0 : decode cX1_wallNumbers 0 = .ok (.aload_n 0, 1) := by decide +kernel
theorem dX1_wallNumbers_1 : decode cX1_wallNumbers 1 = .ok (.getfield 30, 3) := by decide +kernel
theorem dX1_wallNumbers_4 : decode cX1_wallNumbers 4 = .ok (.aload_n 0, 1) := by decide +kernel
theorem dX1_wallNumbers_5 : decode cX1_wallNumbers 5 = .ok (.getfield 26, 3) := by decide +kernel
theorem dX1_wallNumbers_8 : decode cX1_wallNumbers 8 = .ok (.iconst 1, 1) := by decide +kernel
theorem dX1_wallNumbers_9 : decode cX1_wallNumbers 9 = .ok (.isub, 1) := by decide +kernel
theorem dX1_wallNumbers_10 : decode cX1_wallNumbers 10 = .ok (.imul, 1) := by decide +kernel
theorem dX1_wallNumbers_11 : decode cX1_wallNumbers 11 = .ok (.aload_n 0, 1) := by decide +kernel
theorem dX1_wallNumbers_12 : decode cX1_wallNumbers 12 = .ok (.getfield 30, 3) := by decide +kernel
theorem dX1_wallNumbers_15 : decode cX1_wallNumbers 15 = .ok (.iconst 1, 1) := by decide +kernel
theorem dX1_wallNumbers_16 : decode cX1_wallNumbers 16 = .ok (.isub, 1) := by decide +kernel
theorem dX1_wallNumbers_17 : decode cX1_wallNumbers 17 = .ok (.aload_n 0, 1) := by decide +kernel
theorem dX1_wallNumbers_18 : decode cX1_wallNumbers 18 = .ok (.getfield 26, 3) := by decide +kernel
theorem dX1_wallNumbers_21 : decode cX1_wallNumbers 21 = .ok (.imul, 1) := by decide +kernel
theorem dX1_wallNumbers_22 : decode cX1_wallNumbers 22 = .ok (.iadd, 1) := by decide +kernel
theorem dX1_wallNumbers_23 : decode cX1_wallNumbers 23 = .ok (.ireturn, 1) := by decide +kernel
theorem dX1_squareOfWall_0 : decode cX1_squareOfWall 0 = .ok (.aload_n 0, 1) := by decide +kernel
theorem dX1_squareOfWall_1 : decode cX1_squareOfWall 1 = .ok (.getfield 26, 3) := by decide +kernel
theorem dX1_squareOfWall_4 : decode cX1_squareOfWall 4 = .ok (.iconst 1, 1) := by decide +kernel
theorem dX1_squareOfWall_5 : decode cX1_squareOfWall 5 = .ok (.isub, 1) := by decide +kernel
theorem dX1_squareOfWall_6 : decode cX1_squareOfWall 6 = .ok (.istore_n 2, 1) := by decide +kernel
theorem dX1_squareOfWall_7 : decode cX1_squareOfWall 7 = .ok (.aload_n 0, 1) := by decide +kernel
theorem dX1_squareOfWall_8 : decode cX1_squareOfWall 8 = .ok (.getfield 30, 3) := by decide +kernel
theorem dX1_squareOfWall_11 : decode cX1_squareOfWall 11 = .ok (.iload_n 2, 1) := by decide +kernel
theorem dX1_squareOfWall_12 : decode cX1_squareOfWall 12 = .ok (.imul, 1) := by decide +kernel
theorem dX1_squareOfWall_13 : decode cX1_squareOfWall 13 = .ok (.istore_n 3, 1) := by decide +kernel
theorem dX1_squareOfWall_14 : decode cX1_squareOfWall 14 = .ok (.iload_n 1, 1) := by decide +kernel
theorem dX1_squareOfWall_15 : decode cX1_squareOfWall 15 = .ok (.iload_n 3, 1) := by decide +kernel
theorem dX1_squareOfWall_16 : decode cX1_squareOfWall 16 = .ok (.if_icmp .ge 8, 3) := by decide +kernel
theorem dX1_squareOfWall_19 : decode cX1_squareOfWall 19 = .ok (.iload_n 2, 1) := by decide +kernel
theorem dX1_squareOfWall_20 : decode cX1_squareOfWall 20 = .ok (.iconst 1, 1) := by decide +kernel
theorem dX1_squareOfWall_21 : decode cX1_squareOfWall 21 = .ok (.if_icmp .ge 7, 3) := by decide +kernel
theorem dX1_squareOfWall_24 : decode cX1_squareOfWall 24 = .ok (.iload_n 1, 1) := by decide +kernel
theorem dX1_squareOfWall_25 : decode cX1_squareOfWall 25 = .ok (.iload_n 3, 1) := by decide +kernel
theorem dX1_squareOfWall_26 : decode cX1_squareOfWall 26 = .ok (.isub, 1) := by decide +kernel
theorem dX1_squareOfWall_27 : decode cX1_squareOfWall 27 = .ok (.ireturn, 1) := by decide +kernel
theorem dX1_squareOfWall_28 : decode cX1_squareOfWall 28 = .ok (.iload_n 1, 1) := by decide +kernel
theorem dX1_squareOfWall_29 : decode cX1_squareOfWall 29 = .ok (.iload_n 2, 1) := by decide +kernel
theorem dX1_squareOfWall_30 : decode cX1_squareOfWall 30 = .ok (.idiv, 1) := by decide +kernel
theorem dX1_squareOfWall_31 : decode cX1_squareOfWall 31 = .ok (.aload_n 0, 1) := by decide +kernel
theorem dX1_squareOfWall_32 : decode cX1_squareOfWall 32 = .ok (.getfield 26, 3) := by decide +kernel
theorem dX1_squareOfWall_35 : decode cX1_squareOfWall 35 = .ok (.imul, 1) := by decide +kernel
theorem dX1_squareOfWall_36 : decode cX1_squareOfWall 36 = .ok (.iload_n 1, 1) := by decide +kernel
theorem dX1_squareOfWall_37 : decode cX1_squareOfWall 37 = .ok (.iload_n 2, 1) := by decide +kernel
theorem dX1_squareOfWall_38 : decode cX1_squareOfWall 38 = .ok (.irem, 1) := by decide +kernel
theorem dX1_squareOfWall_39 : decode cX1_squareOfWall 39 = .ok (.iadd, 1) := by decide +kernel
theorem dX1_squareOfWall_40 : decode cX1_squareOfWall 40 = .ok (.ireturn, 1) := by decide +kernel
theorem dX1_sideOfWall_0 : decode cX1_sideOfWall 0 = .ok (.iload_n 1, 1) := by decide +kernel
theorem dX1_sideOfWall_1 : decode cX1_sideOfWall 1 = .ok (.aload_n 0, 1) := by decide +kernel
theorem dX1_sideOfWall_2 : decode cX1_sideOfWall 2 = .ok (.getfield 30, 3) := by decide +kernel
theorem dX1_sideOfWall_5 : decode cX1_sideOfWall 5 = .ok (.aload_n 0, 1) := by decide +kernel
theorem dX1_sideOfWall_6 : decode cX1_sideOfWall 6 = .ok (.getfield 26, 3) := by decide +kernel
theorem dX1_sideOfWall_9 : decode cX1_sideOfWall 9 = .ok (.iconst 1, 1) := by decide +kernel
theorem dX1_sideOfWall_10 : decode cX1_sideOfWall 10 = .ok (.isub, 1) := by decide +kernel
theorem dX1_sideOfWall_11 : decode cX1_sideOfWall 11 = .ok (.imul, 1) := by decide +kernel
theorem dX1_sideOfWall_12 : decode cX1_sideOfWall 12 = .ok (.if_icmp .ge 7, 3) := by decide +kernel
theorem dX1_sideOfWall_15 : decode cX1_sideOfWall 15 = .ok (.iconst 1, 1) := by decide +kernel
theorem dX1_sideOfWall_16 : decode cX1_sideOfWall 16 = .ok (.goto 4, 3) := by decide +kernel
theorem dX1_sideOfWall_19 : decode cX1_sideOfWall 19 = .ok (.iconst 2, 1) := by decide +kernel
theorem dX1_sideOfWall_20 : decode cX1_sideOfWall 20 = .ok (.ireturn, 1) := by decide +kernel
theorem dX1_raiseWalls_0 : decode cX1_raiseWalls 0 = .ok (.aload_n 0, 1) := by decide +kernel
theorem dX1_raiseWalls_1 : decode cX1_raiseWalls 1 = .ok (.invokevirtual 39, 3) := by decide +kernel
theorem dX1_raiseWalls_4 : decode cX1_raiseWalls 4 = .ok (.iconst 0, 1) := by decide +kernel
theorem dX1_raiseWalls_5 : decode cX1_raiseWalls 5 = .ok (.istore_n 2, 1) := by decide +kernel
theorem dX1_raiseWalls_6 : decode cX1_raiseWalls 6 = .ok (.iload_n 2, 1) := by decide +kernel
theorem dX1_raiseWalls_7 : decode cX1_raiseWalls 7 = .ok (.aload_n 0, 1) := by decide +kernel
theorem dX1_raiseWalls_8 : decode cX1_raiseWalls 8 = .ok (.invokevirtual 72, 3) := by decide +kernel
theorem dX1_raiseWalls_11 : decode cX1_raiseWalls 11 = .ok (.if_icmp .ge 32, 3) := by decide +kernel
theorem dX1_raiseWalls_14 : decode cX1_raiseWalls 14 = .ok (.iload_n 1, 1) := by decide +kernel
theorem dX1_raiseWalls_15 : decode cX1_raiseWalls 15 = .ok (.iload_n 2, 1) := by decide +kernel
theorem dX1_raiseWalls_16 : decode cX1_raiseWalls 16 = .ok (.ishr, 1) := by decide +kernel
theorem dX1_raiseWalls_17 : decode cX1_raiseWalls 17 = .ok (.iconst 1, 1) := by decide +kernel
theorem dX1_raiseWalls_18 : decode cX1_raiseWalls 18 = .ok (.iand, 1) := by decide +kernel
theorem dX1_raiseWalls_19 : decode cX1_raiseWalls 19 = .ok (.ifCond .eq 18, 3) := by decide +kernel
theorem dX1_raiseWalls_22 : decode cX1_raiseWalls 22 = .ok (.aload_n 0, 1) := by decide +kernel
theorem dX1_raiseWalls_23 : decode cX1_raiseWalls 23 = .ok (.aload_n 0, 1) := by decide +kernel
theorem dX1_raiseWalls_24 : decode cX1_raiseWalls 24 = .ok (.iload_n 2, 1) := by decide +kernel
theorem dX1_raiseWalls_25 : decode cX1_raiseWalls 25 = .ok (.invokevirtual 62, 3) := by decide +kernel
theorem dX1_raiseWalls_28 : decode cX1_raiseWalls 28 = .ok (.aload_n 0, 1) := by decide +kernel
theorem dX1_raiseWalls_29 : decode cX1_raiseWalls 29 = .ok (.iload_n 2, 1) := by decide +kernel
theorem dX1_raiseWalls_30 : decode cX1_raiseWalls 30 = .ok (.invokevirtual 66, 3) := by decide +kernel
theorem dX1_raiseWalls_33 : decode cX1_raiseWalls 33 = .ok (.iconst 1, 1) := by decide +kernel
theorem dX1_raiseWalls_34 : decode cX1_raiseWalls 34 = .ok (.invokevirtual 69, 3) := by decide +kernel
theorem dX1_raiseWalls_37 : decode cX1_raiseWalls 37 = .ok (.iinc 2 1, 3) := by decide +kernel
theorem dX1_raiseWalls_40 : decode cX1_raiseWalls 40 = .ok (.goto (-34), 3) := by decide +kernel
theorem dX1_raiseWalls_43 : decode cX1_raiseWalls 43 = .ok (.return_, 1) := by decide +kernel
theorem dX8_nextStart_0 : decode cX8_nextStart 0 = .ok (.iconst 1, 1) := by decide +kernel
theorem dX8_nextStart_1 : decode cX8_nextStart 1 = .ok (.aload_n 0, 1) := by decide +kernel
theorem dX8_nextStart_2 : decode cX8_nextStart 2 = .ok (.getfield 12, 3) := by decide +kernel
theorem dX8_nextStart_5 : decode cX8_nextStart 5 = .ok (.invokevirtual 73, 3) := by decide +kernel
theorem dX8_nextStart_8 : decode cX8_nextStart 8 = .ok (.ishl, 1) := by decide +kernel
theorem dX8_nextStart_9 : decode cX8_nextStart 9 = .ok (.istore_n 1, 1) := by decide +kernel
theorem dX8_nextStart_10 : decode cX8_nextStart 10 = .ok (.iconst 0, 1) := by decide +kernel
theorem dX8_nextStart_11 : decode cX8_nextStart 11 = .ok (.istore_n 2, 1) := by decide +kernel
theorem dX8_nextStart_12 : decode cX8_nextStart 12 = .ok (.iload_n 2, 1) := by decide +kernel
theorem dX8_nextStart_13 : decode cX8_nextStart 13 = .ok (.ldc 77, 2) := by decide +kernel
theorem dX8_nextStart_15 : decode cX8_nextStart 15 = .ok (.if_icmp .ge 98, 3) := by decide +kernel
theorem dX8_nextStart_18 : decode cX8_nextStart 18 = .ok (.aload_n 0, 1) := by decide +kernel
theorem dX8_nextStart_19 : decode cX8_nextStart 19 = .ok (.dup, 1) := by decide +kernel
theorem dX8_nextStart_20 : decode cX8_nextStart 20 = .ok (.getfield 62, 3) := by decide +kernel
theorem dX8_nextStart_23 : decode cX8_nextStart 23 = .ok (.iconst 1, 1) := by decide +kernel
theorem dX8_nextStart_24 : decode cX8_nextStart 24 = .ok (.iadd, 1) := by decide +kernel
theorem dX8_nextStart_25 : decode cX8_nextStart 25 = .ok (.putfield 62, 3) := by decide +kernel
theorem dX8_nextStart_28 : decode cX8_nextStart 28 = .ok (.aload_n 0, 1) := by decide +kernel
theorem dX8_nextStart_29 : decode cX8_nextStart 29 = .ok (.getfield 62, 3) := by decide +kernel
theorem dX8_nextStart_32 : decode cX8_nextStart 32 = .ok (.aload_n 0, 1) := by decide +kernel
theorem dX8_nextStart_33 : decode cX8_nextStart 33 = .ok (.getfield 12, 3) := by decide +kernel
theorem dX8_nextStart_36 : decode cX8_nextStart 36 = .ok (.getfield 78, 3) := by decide +kernel
theorem dX8_nextStart_39 : decode cX8_nextStart 39 = .ok (.if_icmp .lt 40, 3) := by decide +kernel
theorem dX8_nextStart_42 : decode cX8_nextStart 42 = .ok (.aload_n 0, 1) := by decide +kernel
theorem dX8_nextStart_43 : decode cX8_nextStart 43 = .ok (.iconst 0, 1) := by decide +kernel
theorem dX8_nextStart_44 : decode cX8_nextStart 44 = .ok (.putfield 62, 3) := by decide +kernel
theorem dX8_nextStart_47 : decode cX8_nextStart 47 = .ok (.aload_n 0, 1) := by decide +kernel
theorem dX8_nextStart_48 : decode cX8_nextStart 48 = .ok (.dup, 1) := by decide +kernel
theorem dX8_nextStart_49 : decode cX8_nextStart 49 = .ok (.getfield 59, 3) := by decide +kernel
theorem dX8_nextStart_52 : decode cX8_nextStart 52 = .ok (.iconst 1, 1) := by decide +kernel
theorem dX8_nextStart_53 : decode cX8_nextStart 53 = .ok (.iadd, 1) := by decide +kernel
theorem dX8_nextStart_54 : decode cX8_nextStart 54 = .ok (.putfield 59, 3) := by decide +kernel
theorem dX8_nextStart_57 : decode cX8_nextStart 57 = .ok (.aload_n 0, 1) := by decide +kernel
theorem dX8_nextStart_58 : decode cX8_nextStart 58 = .ok (.getfield 12, 3) := by decide +kernel
theorem dX8_nextStart_61 : decode cX8_nextStart 61 = .ok (.aload_n 0, 1) := by decide +kernel
theorem dX8_nextStart_62 : decode cX8_nextStart 62 = .ok (.getfield 59, 3) := by decide +kernel
theorem dX8_nextStart_65 : decode cX8_nextStart 65 = .ok (.invokevirtual 81, 3) := by decide +kernel
theorem dX8_nextStart_68 : decode cX8_nextStart 68 = .ok (.aload_n 0, 1) := by decide +kernel
theorem dX8_nextStart_69 : decode cX8_nextStart 69 = .ok (.aload_n 0, 1) := by decide +kernel
theorem dX8_nextStart_70 : decode cX8_nextStart 70 = .ok (.getfield 12, 3) := by decide +kernel
theorem dX8_nextStart_73 : decode cX8_nextStart 73 = .ok (.invokevirtual 65, 3) := by decide +kernel
theorem dX8_nextStart_76 : decode cX8_nextStart 76 = .ok (.putfield 69, 3) := by decide +kernel
theorem dX8_nextStart_79 : decode cX8_nextStart 79 = .ok (.aload_n 0, 1) := by decide +kernel
theorem dX8_nextStart_80 : decode cX8_nextStart 80 = .ok (.getfield 59, 3) := by decide +kernel
theorem dX8_nextStart_83 : decode cX8_nextStart 83 = .ok (.iload_n 1, 1) := by decide +kernel
theorem dX8_nextStart_84 : decode cX8_nextStart 84 = .ok (.if_icmp .lt 5, 3) := by decide +kernel
theorem dX8_nextStart_87 : decode cX8_nextStart 87 = .ok (.iconst 0, 1) := by decide +kernel
theorem dX8_nextStart_88 : decode cX8_nextStart 88 = .ok (.ireturn, 1) := by decide +kernel
theorem dX8_nextStart_89 : decode cX8_nextStart 89 = .ok (.aload_n 0, 1) := by decide +kernel
theorem dX8_nextStart_90 : decode cX8_nextStart 90 = .ok (.getfield 69, 3) := by decide +kernel
theorem dX8_nextStart_93 : decode cX8_nextStart 93 = .ok (.aload_n 0, 1) := by decide +kernel
theorem dX8_nextStart_94 : decode cX8_nextStart 94 = .ok (.getfield 62, 3) := by decide +kernel
theorem dX8_nextStart_97 : decode cX8_nextStart 97 = .ok (.lushr, 1) := by decide +kernel
theorem dX8_nextStart_98 : decode cX8_nextStart 98 = .ok (.lconst 1, 1) := by decide +kernel
theorem dX8_nextStart_99 : decode cX8_nextStart 99 = .ok (.land, 1) := by decide +kernel
theorem dX8_nextStart_100 : decode cX8_nextStart 100 = .ok (.lconst 0, 1) := by decide +kernel
theorem dX8_nextStart_101 : decode cX8_nextStart 101 = .ok (.lcmp, 1) := by decide +kernel
theorem dX8_nextStart_102 : decode cX8_nextStart 102 = .ok (.ifCond .eq 5, 3) := by decide +kernel
theorem dX8_nextStart_105 : decode cX8_nextStart 105 = .ok (.iconst 1, 1) := by decide +kernel
theorem dX8_nextStart_106 : decode cX8_nextStart 106 = .ok (.ireturn, 1) := by decide +kernel
theorem dX8_nextStart_107 : decode cX8_nextStart 107 = .ok (.iinc 2 1, 3) := by decide +kernel
theorem dX8_nextStart_110 : decode cX8_nextStart 110 = .ok (.goto (-98), 3) := by decide +kernel
theorem dX8_nextStart_113 : decode cX8_nextStart 113 = .ok (.iconst 0, 1) := by decide +kernel
theorem dX8_nextStart_114 : decode cX8_nextStart 114 = .ok (.ireturn, 1) := by decide +kernel
theorem dX8_findHeld_0 : decode cX8_findHeld 0 = .ok (.aload_n 0, 1) := by decide +kernel
theorem dX8_findHeld_1 : decode cX8_findHeld 1 = .ok (.getfield 28, 3) := by decide +kernel
theorem dX8_findHeld_4 : decode cX8_findHeld 4 = .ok (.iload_n 2, 1) := by decide +kernel
theorem dX8_findHeld_5 : decode cX8_findHeld 5 = .ok (.bipush (-2), 2) := by decide +kernel
theorem dX8_findHeld_7 : decode cX8_findHeld 7 = .ok (.iastore, 1) := by decide +kernel
theorem dX8_findHeld_8 : decode cX8_findHeld 8 = .ok (.aload_n 0, 1) := by decide +kernel
theorem dX8_findHeld_9 : decode cX8_findHeld 9 = .ok (.getfield 32, 3) := by decide +kernel
theorem dX8_findHeld_12 : decode cX8_findHeld 12 = .ok (.iload_n 2, 1) := by decide +kernel
theorem dX8_findHeld_13 : decode cX8_findHeld 13 = .ok (.bipush (-2), 2) := by decide +kernel
theorem dX8_findHeld_15 : decode cX8_findHeld 15 = .ok (.iastore, 1) := by decide +kernel
theorem dX8_findHeld_16 : decode cX8_findHeld 16 = .ok (.iconst 0, 1) := by decide +kernel
theorem dX8_findHeld_17 : decode cX8_findHeld 17 = .ok (.istore_n 3, 1) := by decide +kernel
theorem dX8_findHeld_18 : decode cX8_findHeld 18 = .ok (.iload_n 3, 1) := by decide +kernel
theorem dX8_findHeld_19 : decode cX8_findHeld 19 = .ok (.ldc 77, 2) := by decide +kernel
theorem dX8_findHeld_21 : decode cX8_findHeld 21 = .ok (.if_icmp .ge 67, 3) := by decide +kernel
theorem dX8_findHeld_24 : decode cX8_findHeld 24 = .ok (.aload_n 0, 1) := by decide +kernel
theorem dX8_findHeld_25 : decode cX8_findHeld 25 = .ok (.invokevirtual 96, 3) := by decide +kernel
theorem dX8_findHeld_28 : decode cX8_findHeld 28 = .ok (.ifCond .eq 60, 3) := by decide +kernel
theorem dX8_findHeld_31 : decode cX8_findHeld 31 = .ok (.aload_n 0, 1) := by decide +kernel
theorem dX8_findHeld_32 : decode cX8_findHeld 32 = .ok (.getfield 21, 3) := by decide +kernel
theorem dX8_findHeld_35 : decode cX8_findHeld 35 = .ok (.aload_n 0, 1) := by decide +kernel
theorem dX8_findHeld_36 : decode cX8_findHeld 36 = .ok (.getfield 62, 3) := by decide +kernel
theorem dX8_findHeld_39 : decode cX8_findHeld 39 = .ok (.invokevirtual 100, 3) := by decide +kernel
theorem dX8_findHeld_42 : decode cX8_findHeld 42 = .ok (.aload_n 0, 1) := by decide +kernel
theorem dX8_findHeld_43 : decode cX8_findHeld 43 = .ok (.getfield 21, 3) := by decide +kernel
theorem dX8_findHeld_46 : decode cX8_findHeld 46 = .ok (.aload_n 1, 1) := by decide +kernel
theorem dX8_findHeld_47 : decode cX8_findHeld 47 = .ok (.aload_n 0, 1) := by decide +kernel
theorem dX8_findHeld_48 : decode cX8_findHeld 48 = .ok (.getfield 12, 3) := by decide +kernel
theorem dX8_findHeld_51 : decode cX8_findHeld 51 = .ok (.bipush 100, 2) := by decide +kernel
theorem dX8_findHeld_53 : decode cX8_findHeld 53 = .ok (.invokevirtual 103, 3) := by decide +kernel
theorem dX8_findHeld_56 : decode cX8_findHeld 56 = .ok (.bipush (-2), 2) := by decide +kernel
theorem dX8_findHeld_58 : decode cX8_findHeld 58 = .ok (.if_icmp .ne 24, 3) := by decide +kernel
theorem dX8_findHeld_61 : decode cX8_findHeld 61 = .ok (.aload_n 0, 1) := by decide +kernel
theorem dX8_findHeld_62 : decode cX8_findHeld 62 = .ok (.getfield 28, 3) := by decide +kernel
theorem dX8_findHeld_65 : decode cX8_findHeld 65 = .ok (.iload_n 2, 1) := by decide +kernel
theorem dX8_findHeld_66 : decode cX8_findHeld 66 = .ok (.aload_n 0, 1) := by decide +kernel
theorem dX8_findHeld_67 : decode cX8_findHeld 67 = .ok (.getfield 59, 3) := by decide +kernel
theorem dX8_findHeld_70 : decode cX8_findHeld 70 = .ok (.iastore, 1) := by decide +kernel
theorem dX8_findHeld_71 : decode cX8_findHeld 71 = .ok (.aload_n 0, 1) := by decide +kernel
theorem dX8_findHeld_72 : decode cX8_findHeld 72 = .ok (.getfield 32, 3) := by decide +kernel
theorem dX8_findHeld_75 : decode cX8_findHeld 75 = .ok (.iload_n 2, 1) := by decide +kernel
theorem dX8_findHeld_76 : decode cX8_findHeld 76 = .ok (.aload_n 0, 1) := by decide +kernel
theorem dX8_findHeld_77 : decode cX8_findHeld 77 = .ok (.getfield 62, 3) := by decide +kernel
theorem dX8_findHeld_80 : decode cX8_findHeld 80 = .ok (.iastore, 1) := by decide +kernel
theorem dX8_findHeld_81 : decode cX8_findHeld 81 = .ok (.return_, 1) := by decide +kernel
theorem dX8_findHeld_82 : decode cX8_findHeld 82 = .ok (.iinc 3 1, 3) := by decide +kernel
theorem dX8_findHeld_85 : decode cX8_findHeld 85 = .ok (.goto (-67), 3) := by decide +kernel
theorem dX8_findHeld_88 : decode cX8_findHeld 88 = .ok (.return_, 1) := by decide +kernel
theorem dX8_heldBy_0 : decode cX8_heldBy 0 = .ok (.iload_n 2, 1) := by decide +kernel
theorem dX8_heldBy_1 : decode cX8_heldBy 1 = .ok (.iload_n 3, 1) := by decide +kernel
theorem dX8_heldBy_2 : decode cX8_heldBy 2 = .ok (.invokestatic 85, 3) := by decide +kernel
theorem dX8_heldBy_5 : decode cX8_heldBy 5 = .ok (.istore 5, 2) := by decide +kernel
theorem dX8_heldBy_7 : decode cX8_heldBy 7 = .ok (.aload_n 0, 1) := by decide +kernel
theorem dX8_heldBy_8 : decode cX8_heldBy 8 = .ok (.getfield 48, 3) := by decide +kernel
theorem dX8_heldBy_11 : decode cX8_heldBy 11 = .ok (.iload 5, 2) := by decide +kernel
theorem dX8_heldBy_13 : decode cX8_heldBy 13 = .ok (.ishr, 1) := by decide +kernel
theorem dX8_heldBy_14 : decode cX8_heldBy 14 = .ok (.iconst 1, 1) := by decide +kernel
theorem dX8_heldBy_15 : decode cX8_heldBy 15 = .ok (.iand, 1) := by decide +kernel
theorem dX8_heldBy_16 : decode cX8_heldBy 16 = .ok (.ifCond .ne 29, 3) := by decide +kernel
theorem dX8_heldBy_19 : decode cX8_heldBy 19 = .ok (.aload_n 0, 1) := by decide +kernel
theorem dX8_heldBy_20 : decode cX8_heldBy 20 = .ok (.iload_n 2, 1) := by decide +kernel
theorem dX8_heldBy_21 : decode cX8_heldBy 21 = .ok (.iload_n 3, 1) := by decide +kernel
theorem dX8_heldBy_22 : decode cX8_heldBy 22 = .ok (.invokevirtual 89, 3) := by decide +kernel
theorem dX8_heldBy_25 : decode cX8_heldBy 25 = .ok (.aload_n 0, 1) := by decide +kernel
theorem dX8_heldBy_26 : decode cX8_heldBy 26 = .ok (.aload_n 1, 1) := by decide +kernel
theorem dX8_heldBy_27 : decode cX8_heldBy 27 = .ok (.iload 5, 2) := by decide +kernel
theorem dX8_heldBy_29 : decode cX8_heldBy 29 = .ok (.invokevirtual 92, 3) := by decide +kernel
theorem dX8_heldBy_32 : decode cX8_heldBy 32 = .ok (.aload_n 0, 1) := by decide +kernel
theorem dX8_heldBy_33 : decode cX8_heldBy 33 = .ok (.dup, 1) := by decide +kernel
theorem dX8_heldBy_34 : decode cX8_heldBy 34 = .ok (.getfield 48, 3) := by decide +kernel
theorem dX8_heldBy_37 : decode cX8_heldBy 37 = .ok (.iconst 1, 1) := by decide +kernel
theorem dX8_heldBy_38 : decode cX8_heldBy 38 = .ok (.iload 5, 2) := by decide +kernel
theorem dX8_heldBy_40 : decode cX8_heldBy 40 = .ok (.ishl, 1) := by decide +kernel
theorem dX8_heldBy_41 : decode cX8_heldBy 41 = .ok (.ior, 1) := by decide +kernel
theorem dX8_heldBy_42 : decode cX8_heldBy 42 = .ok (.putfield 48, 3) := by decide +kernel
theorem dX8_heldBy_45 : decode cX8_heldBy 45 = .ok (.iload 4, 2) := by decide +kernel
theorem dX8_heldBy_47 : decode cX8_heldBy 47 = .ok (.ifCond .ne 13, 3) := by decide +kernel
theorem dX8_heldBy_50 : decode cX8_heldBy 50 = .ok (.aload_n 0, 1) := by decide +kernel
theorem dX8_heldBy_51 : decode cX8_heldBy 51 = .ok (.getfield 28, 3) := by decide +kernel
theorem dX8_heldBy_54 : decode cX8_heldBy 54 = .ok (.iload 5, 2) := by decide +kernel
theorem dX8_heldBy_56 : decode cX8_heldBy 56 = .ok (.iaload, 1) := by decide +kernel
theorem dX8_heldBy_57 : decode cX8_heldBy 57 = .ok (.goto 10, 3) := by decide +kernel
theorem dX8_heldBy_60 : decode cX8_heldBy 60 = .ok (.aload_n 0, 1) := by decide +kernel
theorem dX8_heldBy_61 : decode cX8_heldBy 61 = .ok (.getfield 32, 3) := by decide +kernel
theorem dX8_heldBy_64 : decode cX8_heldBy 64 = .ok (.iload 5, 2) := by decide +kernel
theorem dX8_heldBy_66 : decode cX8_heldBy 66 = .ok (.iaload, 1) := by decide +kernel
theorem dX8_heldBy_67 : decode cX8_heldBy 67 = .ok (.ireturn, 1) := by decide +kernel
theorem dX10_held_0 : decode cX10_held 0 = .ok (.iload_n 1, 1) := by decide +kernel
theorem dX10_held_1 : decode cX10_held 1 = .ok (.iload_n 2, 1) := by decide +kernel
theorem dX10_held_2 : decode cX10_held 2 = .ok (.invokestatic 239, 3) := by decide +kernel
theorem dX10_held_5 : decode cX10_held 5 = .ok (.ifCond .eq 12, 3) := by decide +kernel
theorem dX10_held_8 : decode cX10_held 8 = .ok (.iload_n 3, 1) := by decide +kernel
theorem dX10_held_9 : decode cX10_held 9 = .ok (.ifCond .lt 8, 3) := by decide +kernel
theorem dX10_held_12 : decode cX10_held 12 = .ok (.iload_n 3, 1) := by decide +kernel
theorem dX10_held_13 : decode cX10_held 13 = .ok (.iconst 1, 1) := by decide +kernel
theorem dX10_held_14 : decode cX10_held 14 = .ok (.if_icmp .le 5, 3) := by decide +kernel
theorem dX10_held_17 : decode cX10_held 17 = .ok (.iconst (-1), 1) := by decide +kernel
theorem dX10_held_18 : decode cX10_held 18 = .ok (.ireturn, 1) := by decide +kernel
theorem dX10_held_19 : decode cX10_held 19 = .ok (.aload_n 0, 1) := by decide +kernel
theorem dX10_held_20 : decode cX10_held 20 = .ok (.getfield 85, 3) := by decide +kernel
theorem dX10_held_23 : decode cX10_held 23 = .ok (.aload_n 0, 1) := by decide +kernel
theorem dX10_held_24 : decode cX10_held 24 = .ok (.getfield 35, 3) := by decide +kernel
theorem dX10_held_27 : decode cX10_held 27 = .ok (.iload_n 1, 1) := by decide +kernel
theorem dX10_held_28 : decode cX10_held 28 = .ok (.iload_n 2, 1) := by decide +kernel
theorem dX10_held_29 : decode cX10_held 29 = .ok (.iload_n 3, 1) := by decide +kernel
theorem dX10_held_30 : decode cX10_held 30 = .ok (.invokevirtual 242, 3) := by decide +kernel
theorem dX10_held_33 : decode cX10_held 33 = .ok (.ireturn, 1) := by decide +kernel
theorem dX8_findLongest_0 : decode cX8_findLongest 0 = .ok (.aload_n 0, 1) := by decide +kernel
theorem dX8_findLongest_1 : decode cX8_findLongest 1 = .ok (.getfield 35, 3) := by decide +kernel
theorem dX8_findLongest_4 : decode cX8_findLongest 4 = .ok (.iload_n 2, 1) := by decide +kernel
theorem dX8_findLongest_5 : decode cX8_findLongest 5 = .ok (.iconst (-1), 1) := by decide +kernel
theorem dX8_findLongest_6 : decode cX8_findLongest 6 = .ok (.iastore, 1) := by decide +kernel
theorem dX8_findLongest_7 : decode cX8_findLongest 7 = .ok (.iconst 0, 1) := by decide +kernel
theorem dX8_findLongest_8 : decode cX8_findLongest 8 = .ok (.istore_n 3, 1) := by decide +kernel
theorem dX8_findLongest_9 : decode cX8_findLongest 9 = .ok (.iload_n 3, 1) := by decide +kernel
theorem dX8_findLongest_10 : decode cX8_findLongest 10 = .ok (.ldc 77, 2) := by decide +kernel
theorem dX8_findLongest_12 : decode cX8_findLongest 12 = .ok (.if_icmp .ge 82, 3) := by decide +kernel
theorem dX8_findLongest_15 : decode cX8_findLongest 15 = .ok (.aload_n 0, 1) := by decide +kernel
theorem dX8_findLongest_16 : decode cX8_findLongest 16 = .ok (.invokevirtual 96, 3) := by decide +kernel
theorem dX8_findLongest_19 : decode cX8_findLongest 19 = .ok (.ifCond .eq 75, 3) := by decide +kernel
theorem dX8_findLongest_22 : decode cX8_findLongest 22 = .ok (.aload_n 0, 1) := by decide +kernel
theorem dX8_findLongest_23 : decode cX8_findLongest 23 = .ok (.getfield 21, 3) := by decide +kernel
theorem dX8_findLongest_26 : decode cX8_findLongest 26 = .ok (.aload_n 0, 1) := by decide +kernel
theorem dX8_findLongest_27 : decode cX8_findLongest 27 = .ok (.getfield 62, 3) := by decide +kernel
theorem dX8_findLongest_30 : decode cX8_findLongest 30 = .ok (.invokevirtual 100, 3) := by decide +kernel
theorem dX8_findLongest_33 : decode cX8_findLongest 33 = .ok (.aload_n 0, 1) := by decide +kernel
theorem dX8_findLongest_34 : decode cX8_findLongest 34 = .ok (.getfield 21, 3) := by decide +kernel
theorem dX8_findLongest_37 : decode cX8_findLongest 37 = .ok (.aload_n 1, 1) := by decide +kernel
theorem dX8_findLongest_38 : decode cX8_findLongest 38 = .ok (.aload_n 0, 1) := by decide +kernel
theorem dX8_findLongest_39 : decode cX8_findLongest 39 = .ok (.getfield 12, 3) := by decide +kernel
theorem dX8_findLongest_42 : decode cX8_findLongest 42 = .ok (.bipush 100, 2) := by decide +kernel
theorem dX8_findLongest_44 : decode cX8_findLongest 44 = .ok (.invokevirtual 103, 3) := by decide +kernel
theorem dX8_findLongest_47 : decode cX8_findLongest 47 = .ok (.istore 4, 2) := by decide +kernel
theorem dX8_findLongest_49 : decode cX8_findLongest 49 = .ok (.iload 4, 2) := by decide +kernel
theorem dX8_findLongest_51 : decode cX8_findLongest 51 = .ok (.aload_n 0, 1) := by decide +kernel
theorem dX8_findLongest_52 : decode cX8_findLongest 52 = .ok (.getfield 35, 3) := by decide +kernel
theorem dX8_findLongest_55 : decode cX8_findLongest 55 = .ok (.iload_n 2, 1) := by decide +kernel
theorem dX8_findLongest_56 : decode cX8_findLongest 56 = .ok (.iaload, 1) := by decide +kernel
theorem dX8_findLongest_57 : decode cX8_findLongest 57 = .ok (.if_icmp .le 31, 3) := by decide +kernel
theorem dX8_findLongest_60 : decode cX8_findLongest 60 = .ok (.aload_n 0, 1) := by decide +kernel
theorem dX8_findLongest_61 : decode cX8_findLongest 61 = .ok (.getfield 35, 3) := by decide +kernel
theorem dX8_findLongest_64 : decode cX8_findLongest 64 = .ok (.iload_n 2, 1) := by decide +kernel
theorem dX8_findLongest_65 : decode cX8_findLongest 65 = .ok (.iload 4, 2) := by decide +kernel
theorem dX8_findLongest_67 : decode cX8_findLongest 67 = .ok (.iastore, 1) := by decide +kernel
theorem dX8_findLongest_68 : decode cX8_findLongest 68 = .ok (.aload_n 0, 1) := by decide +kernel
theorem dX8_findLongest_69 : decode cX8_findLongest 69 = .ok (.getfield 38, 3) := by decide +kernel
theorem dX8_findLongest_72 : decode cX8_findLongest 72 = .ok (.iload_n 2, 1) := by decide +kernel
theorem dX8_findLongest_73 : decode cX8_findLongest 73 = .ok (.aload_n 0, 1) := by decide +kernel
theorem dX8_findLongest_74 : decode cX8_findLongest 74 = .ok (.getfield 59, 3) := by decide +kernel
theorem dX8_findLongest_77 : decode cX8_findLongest 77 = .ok (.iastore, 1) := by decide +kernel
theorem dX8_findLongest_78 : decode cX8_findLongest 78 = .ok (.aload_n 0, 1) := by decide +kernel
theorem dX8_findLongest_79 : decode cX8_findLongest 79 = .ok (.getfield 41, 3) := by decide +kernel
theorem dX8_findLongest_82 : decode cX8_findLongest 82 = .ok (.iload_n 2, 1) := by decide +kernel
theorem dX8_findLongest_83 : decode cX8_findLongest 83 = .ok (.aload_n 0, 1) := by decide +kernel
theorem dX8_findLongest_84 : decode cX8_findLongest 84 = .ok (.getfield 62, 3) := by decide +kernel
theorem dX8_findLongest_87 : decode cX8_findLongest 87 = .ok (.iastore, 1) := by decide +kernel
theorem dX8_findLongest_88 : decode cX8_findLongest 88 = .ok (.iinc 3 1, 3) := by decide +kernel
theorem dX8_findLongest_91 : decode cX8_findLongest 91 = .ok (.goto (-82), 3) := by decide +kernel
theorem dX8_findLongest_94 : decode cX8_findLongest 94 = .ok (.return_, 1) := by decide +kernel
theorem dX8_longestBy_0 : decode cX8_longestBy 0 = .ok (.iload_n 2, 1) := by decide +kernel
theorem dX8_longestBy_1 : decode cX8_longestBy 1 = .ok (.iload_n 3, 1) := by decide +kernel
theorem dX8_longestBy_2 : decode cX8_longestBy 2 = .ok (.invokestatic 85, 3) := by decide +kernel
theorem dX8_longestBy_5 : decode cX8_longestBy 5 = .ok (.istore 5, 2) := by decide +kernel
theorem dX8_longestBy_7 : decode cX8_longestBy 7 = .ok (.aload_n 0, 1) := by decide +kernel
theorem dX8_longestBy_8 : decode cX8_longestBy 8 = .ok (.getfield 52, 3) := by decide +kernel
theorem dX8_longestBy_11 : decode cX8_longestBy 11 = .ok (.iload 5, 2) := by decide +kernel
theorem dX8_longestBy_13 : decode cX8_longestBy 13 = .ok (.ishr, 1) := by decide +kernel
theorem dX8_longestBy_14 : decode cX8_longestBy 14 = .ok (.iconst 1, 1) := by decide +kernel
theorem dX8_longestBy_15 : decode cX8_longestBy 15 = .ok (.iand, 1) := by decide +kernel
theorem dX8_longestBy_16 : decode cX8_longestBy 16 = .ok (.ifCond .ne 29, 3) := by decide +kernel
theorem dX8_longestBy_19 : decode cX8_longestBy 19 = .ok (.aload_n 0, 1) := by decide +kernel
theorem dX8_longestBy_20 : decode cX8_longestBy 20 = .ok (.iload_n 2, 1) := by decide +kernel
theorem dX8_longestBy_21 : decode cX8_longestBy 21 = .ok (.iload_n 3, 1) := by decide +kernel
theorem dX8_longestBy_22 : decode cX8_longestBy 22 = .ok (.invokevirtual 89, 3) := by decide +kernel
theorem dX8_longestBy_25 : decode cX8_longestBy 25 = .ok (.aload_n 0, 1) := by decide +kernel
theorem dX8_longestBy_26 : decode cX8_longestBy 26 = .ok (.aload_n 1, 1) := by decide +kernel
theorem dX8_longestBy_27 : decode cX8_longestBy 27 = .ok (.iload 5, 2) := by decide +kernel
theorem dX8_longestBy_29 : decode cX8_longestBy 29 = .ok (.invokevirtual 107, 3) := by decide +kernel
theorem dX8_longestBy_32 : decode cX8_longestBy 32 = .ok (.aload_n 0, 1) := by decide +kernel
theorem dX8_longestBy_33 : decode cX8_longestBy 33 = .ok (.dup, 1) := by decide +kernel
theorem dX8_longestBy_34 : decode cX8_longestBy 34 = .ok (.getfield 52, 3) := by decide +kernel
theorem dX8_longestBy_37 : decode cX8_longestBy 37 = .ok (.iconst 1, 1) := by decide +kernel
theorem dX8_longestBy_38 : decode cX8_longestBy 38 = .ok (.iload 5, 2) := by decide +kernel
theorem dX8_longestBy_40 : decode cX8_longestBy 40 = .ok (.ishl, 1) := by decide +kernel
theorem dX8_longestBy_41 : decode cX8_longestBy 41 = .ok (.ior, 1) := by decide +kernel
theorem dX8_longestBy_42 : decode cX8_longestBy 42 = .ok (.putfield 52, 3) := by decide +kernel
theorem dX8_longestBy_45 : decode cX8_longestBy 45 = .ok (.iload 4, 2) := by decide +kernel
theorem dX8_longestBy_47 : decode cX8_longestBy 47 = .ok (.ifCond .ne 11, 3) := by decide +kernel
theorem dX8_longestBy_50 : decode cX8_longestBy 50 = .ok (.aload_n 0, 1) := by decide +kernel
theorem dX8_longestBy_51 : decode cX8_longestBy 51 = .ok (.getfield 35, 3) := by decide +kernel
theorem dX8_longestBy_54 : decode cX8_longestBy 54 = .ok (.iload 5, 2) := by decide +kernel
theorem dX8_longestBy_56 : decode cX8_longestBy 56 = .ok (.iaload, 1) := by decide +kernel
theorem dX8_longestBy_57 : decode cX8_longestBy 57 = .ok (.ireturn, 1) := by decide +kernel
theorem dX8_longestBy_58 : decode cX8_longestBy 58 = .ok (.iload 4, 2) := by decide +kernel
theorem dX8_longestBy_60 : decode cX8_longestBy 60 = .ok (.iconst 1, 1) := by decide +kernel
theorem dX8_longestBy_61 : decode cX8_longestBy 61 = .ok (.if_icmp .ne 13, 3) := by decide +kernel
theorem dX8_longestBy_64 : decode cX8_longestBy 64 = .ok (.aload_n 0, 1) := by decide +kernel
theorem dX8_longestBy_65 : decode cX8_longestBy 65 = .ok (.getfield 38, 3) := by decide +kernel
theorem dX8_longestBy_68 : decode cX8_longestBy 68 = .ok (.iload 5, 2) := by decide +kernel
theorem dX8_longestBy_70 : decode cX8_longestBy 70 = .ok (.iaload, 1) := by decide +kernel
theorem dX8_longestBy_71 : decode cX8_longestBy 71 = .ok (.goto 10, 3) := by decide +kernel
theorem dX8_longestBy_74 : decode cX8_longestBy 74 = .ok (.aload_n 0, 1) := by decide +kernel
theorem dX8_longestBy_75 : decode cX8_longestBy 75 = .ok (.getfield 41, 3) := by decide +kernel
theorem dX8_longestBy_78 : decode cX8_longestBy 78 = .ok (.iload 5, 2) := by decide +kernel
theorem dX8_longestBy_80 : decode cX8_longestBy 80 = .ok (.iaload, 1) := by decide +kernel
theorem dX8_longestBy_81 : decode cX8_longestBy 81 = .ok (.ireturn, 1) := by decide +kernel
theorem dX10_longest_0 : decode cX10_longest 0 = .ok (.iload_n 1, 1) := by decide +kernel
theorem dX10_longest_1 : decode cX10_longest 1 = .ok (.iload_n 2, 1) := by decide +kernel
theorem dX10_longest_2 : decode cX10_longest 2 = .ok (.invokestatic 239, 3) := by decide +kernel
theorem dX10_longest_5 : decode cX10_longest 5 = .ok (.ifCond .eq 12, 3) := by decide +kernel
theorem dX10_longest_8 : decode cX10_longest 8 = .ok (.iload_n 3, 1) := by decide +kernel
theorem dX10_longest_9 : decode cX10_longest 9 = .ok (.ifCond .lt 8, 3) := by decide +kernel
theorem dX10_longest_12 : decode cX10_longest 12 = .ok (.iload_n 3, 1) := by decide +kernel
theorem dX10_longest_13 : decode cX10_longest 13 = .ok (.iconst 2, 1) := by decide +kernel
theorem dX10_longest_14 : decode cX10_longest 14 = .ok (.if_icmp .le 5, 3) := by decide +kernel
theorem dX10_longest_17 : decode cX10_longest 17 = .ok (.iconst (-1), 1) := by decide +kernel
theorem dX10_longest_18 : decode cX10_longest 18 = .ok (.ireturn, 1) := by decide +kernel
theorem dX10_longest_19 : decode cX10_longest 19 = .ok (.aload_n 0, 1) := by decide +kernel
theorem dX10_longest_20 : decode cX10_longest 20 = .ok (.getfield 85, 3) := by decide +kernel
theorem dX10_longest_23 : decode cX10_longest 23 = .ok (.aload_n 0, 1) := by decide +kernel
theorem dX10_longest_24 : decode cX10_longest 24 = .ok (.getfield 35, 3) := by decide +kernel
theorem dX10_longest_27 : decode cX10_longest 27 = .ok (.iload_n 1, 1) := by decide +kernel
theorem dX10_longest_28 : decode cX10_longest 28 = .ok (.iload_n 2, 1) := by decide +kernel
theorem dX10_longest_29 : decode cX10_longest 29 = .ok (.iload_n 3, 1) := by decide +kernel
theorem dX10_longest_30 : decode cX10_longest 30 = .ok (.invokevirtual 246, 3) := by decide +kernel
theorem dX10_longest_33 : decode cX10_longest 33 = .ok (.ireturn, 1) := by decide +kernel
theorem dX6_usesYes_0 : decode cX6_usesYes 0 = .ok (.iconst 1, 1) := by decide +kernel
theorem dX6_usesYes_1 : decode cX6_usesYes 1 = .ok (.bipush 13, 2) := by decide +kernel
theorem dX6_usesYes_3 : decode cX6_usesYes 3 = .ok (.iload_n 1, 1) := by decide +kernel
theorem dX6_usesYes_4 : decode cX6_usesYes 4 = .ok (.iadd, 1) := by decide +kernel
theorem dX6_usesYes_5 : decode cX6_usesYes 5 = .ok (.ishl, 1) := by decide +kernel
theorem dX6_usesYes_6 : decode cX6_usesYes 6 = .ok (.istore_n 2, 1) := by decide +kernel
theorem dX6_usesYes_7 : decode cX6_usesYes 7 = .ok (.iconst 0, 1) := by decide +kernel
theorem dX6_usesYes_8 : decode cX6_usesYes 8 = .ok (.istore_n 3, 1) := by decide +kernel
theorem dX6_usesYes_9 : decode cX6_usesYes 9 = .ok (.iconst 0, 1) := by decide +kernel
theorem dX6_usesYes_10 : decode cX6_usesYes 10 = .ok (.istore 4, 2) := by decide +kernel
theorem dX6_usesYes_12 : decode cX6_usesYes 12 = .ok (.iconst 0, 1) := by decide +kernel
theorem dX6_usesYes_13 : decode cX6_usesYes 13 = .ok (.istore 5, 2) := by decide +kernel
theorem dX6_usesYes_15 : decode cX6_usesYes 15 = .ok (.iload 5, 2) := by decide +kernel
theorem dX6_usesYes_17 : decode cX6_usesYes 17 = .ok (.aload_n 0, 1) := by decide +kernel
theorem dX6_usesYes_18 : decode cX6_usesYes 18 = .ok (.getfield 30, 3) := by decide +kernel
theorem dX6_usesYes_21 : decode cX6_usesYes 21 = .ok (.if_icmp .ge 80, 3) := by decide +kernel
theorem dX6_usesYes_24 : decode cX6_usesYes 24 = .ok (.iload_n 3, 1) := by decide +kernel
theorem dX6_usesYes_25 : decode cX6_usesYes 25 = .ok (.aload_n 0, 1) := by decide +kernel
theorem dX6_usesYes_26 : decode cX6_usesYes 26 = .ok (.getfield 18, 3) := by decide +kernel
theorem dX6_usesYes_29 : decode cX6_usesYes 29 = .ok (.iload 5, 2) := by decide +kernel
theorem dX6_usesYes_31 : decode cX6_usesYes 31 = .ok (.iaload, 1) := by decide +kernel
theorem dX6_usesYes_32 : decode cX6_usesYes 32 = .ok (.iload_n 2, 1) := by decide +kernel
theorem dX6_usesYes_33 : decode cX6_usesYes 33 = .ok (.iand, 1) := by decide +kernel
theorem dX6_usesYes_34 : decode cX6_usesYes 34 = .ok (.ifCond .eq 7, 3) := by decide +kernel
theorem dX6_usesYes_37 : decode cX6_usesYes 37 = .ok (.iconst 1, 1) := by decide +kernel
theorem dX6_usesYes_38 : decode cX6_usesYes 38 = .ok (.goto 4, 3) := by decide +kernel
theorem dX6_usesYes_41 : decode cX6_usesYes 41 = .ok (.iconst 0, 1) := by decide +kernel
theorem dX6_usesYes_42 : decode cX6_usesYes 42 = .ok (.ior, 1) := by decide +kernel
theorem dX6_usesYes_43 : decode cX6_usesYes 43 = .ok (.istore_n 3, 1) := by decide +kernel
theorem dX6_usesYes_44 : decode cX6_usesYes 44 = .ok (.iload 5, 2) := by decide +kernel
theorem dX6_usesYes_46 : decode cX6_usesYes 46 = .ok (.bipush 12, 2) := by decide +kernel
theorem dX6_usesYes_48 : decode cX6_usesYes 48 = .ok (.imul, 1) := by decide +kernel
theorem dX6_usesYes_49 : decode cX6_usesYes 49 = .ok (.istore 6, 2) := by decide +kernel
theorem dX6_usesYes_51 : decode cX6_usesYes 51 = .ok (.iload 6, 2) := by decide +kernel
theorem dX6_usesYes_53 : decode cX6_usesYes 53 = .ok (.aload_n 0, 1) := by decide +kernel
theorem dX6_usesYes_54 : decode cX6_usesYes 54 = .ok (.getfield 15, 3) := by decide +kernel
theorem dX6_usesYes_57 : decode cX6_usesYes 57 = .ok (.iload 5, 2) := by decide +kernel
theorem dX6_usesYes_59 : decode cX6_usesYes 59 = .ok (.iaload, 1) := by decide +kernel
theorem dX6_usesYes_60 : decode cX6_usesYes 60 = .ok (.if_icmp .ge 35, 3) := by decide +kernel
theorem dX6_usesYes_63 : decode cX6_usesYes 63 = .ok (.iload 4, 2) := by decide +kernel
theorem dX6_usesYes_65 : decode cX6_usesYes 65 = .ok (.aload_n 0, 1) := by decide +kernel
theorem dX6_usesYes_66 : decode cX6_usesYes 66 = .ok (.getfield 11, 3) := by decide +kernel
theorem dX6_usesYes_69 : decode cX6_usesYes 69 = .ok (.iload 6, 2) := by decide +kernel
theorem dX6_usesYes_71 : decode cX6_usesYes 71 = .ok (.iaload, 1) := by decide +kernel
theorem dX6_usesYes_72 : decode cX6_usesYes 72 = .ok (.bipush 9, 2) := by decide +kernel
theorem dX6_usesYes_74 : decode cX6_usesYes 74 = .ok (.iload_n 1, 1) := by decide +kernel
theorem dX6_usesYes_75 : decode cX6_usesYes 75 = .ok (.invokestatic 34, 3) := by decide +kernel
theorem dX6_usesYes_78 : decode cX6_usesYes 78 = .ok (.if_icmp .ne 7, 3) := by decide +kernel
theorem dX6_usesYes_81 : decode cX6_usesYes 81 = .ok (.iconst 1, 1) := by decide +kernel
theorem dX6_usesYes_82 : decode cX6_usesYes 82 = .ok (.goto 4, 3) := by decide +kernel
theorem dX6_usesYes_85 : decode cX6_usesYes 85 = .ok (.iconst 0, 1) := by decide +kernel
theorem dX6_usesYes_86 : decode cX6_usesYes 86 = .ok (.ior, 1) := by decide +kernel
theorem dX6_usesYes_87 : decode cX6_usesYes 87 = .ok (.istore 4, 2) := by decide +kernel
theorem dX6_usesYes_89 : decode cX6_usesYes 89 = .ok (.iinc 6 1, 3) := by decide +kernel
theorem dX6_usesYes_92 : decode cX6_usesYes 92 = .ok (.goto (-41), 3) := by decide +kernel
theorem dX6_usesYes_95 : decode cX6_usesYes 95 = .ok (.iinc 5 1, 3) := by decide +kernel
theorem dX6_usesYes_98 : decode cX6_usesYes 98 = .ok (.goto (-83), 3) := by decide +kernel
theorem dX6_usesYes_101 : decode cX6_usesYes 101 = .ok (.iload_n 3, 1) := by decide +kernel
theorem dX6_usesYes_102 : decode cX6_usesYes 102 = .ok (.ifCond .eq 12, 3) := by decide +kernel
theorem dX6_usesYes_105 : decode cX6_usesYes 105 = .ok (.iload 4, 2) := by decide +kernel
theorem dX6_usesYes_107 : decode cX6_usesYes 107 = .ok (.ifCond .eq 7, 3) := by decide +kernel
theorem dX6_usesYes_110 : decode cX6_usesYes 110 = .ok (.iconst 1, 1) := by decide +kernel
theorem dX6_usesYes_111 : decode cX6_usesYes 111 = .ok (.goto 4, 3) := by decide +kernel
theorem dX6_usesYes_114 : decode cX6_usesYes 114 = .ok (.iconst 0, 1) := by decide +kernel
theorem dX6_usesYes_115 : decode cX6_usesYes 115 = .ok (.ireturn, 1) := by decide +kernel
theorem dX3_standsAs_0 : decode cX3_standsAs 0 = .ok (.aload_n 0, 1) := by decide +kernel
theorem dX3_standsAs_1 : decode cX3_standsAs 1 = .ok (.getfield 19, 3) := by decide +kernel
theorem dX3_standsAs_4 : decode cX3_standsAs 4 = .ok (.aload_n 1, 1) := by decide +kernel
theorem dX3_standsAs_5 : decode cX3_standsAs 5 = .ok (.getfield 19, 3) := by decide +kernel
theorem dX3_standsAs_8 : decode cX3_standsAs 8 = .ok (.if_icmp .ne 18, 3) := by decide +kernel
theorem dX3_standsAs_11 : decode cX3_standsAs 11 = .ok (.aload_n 0, 1) := by decide +kernel
theorem dX3_standsAs_12 : decode cX3_standsAs 12 = .ok (.getfield 22, 3) := by decide +kernel
theorem dX3_standsAs_15 : decode cX3_standsAs 15 = .ok (.aload_n 1, 1) := by decide +kernel
theorem dX3_standsAs_16 : decode cX3_standsAs 16 = .ok (.getfield 22, 3) := by decide +kernel
theorem dX3_standsAs_19 : decode cX3_standsAs 19 = .ok (.if_icmp .ne 7, 3) := by decide +kernel
theorem dX3_standsAs_22 : decode cX3_standsAs 22 = .ok (.iconst 1, 1) := by decide +kernel
theorem dX3_standsAs_23 : decode cX3_standsAs 23 = .ok (.goto 4, 3) := by decide +kernel
theorem dX3_standsAs_26 : decode cX3_standsAs 26 = .ok (.iconst 0, 1) := by decide +kernel
theorem dX3_standsAs_27 : decode cX3_standsAs 27 = .ok (.ireturn, 1) := by decide +kernel
theorem dX8_partWays_0 : decode cX8_partWays 0 = .ok (.aload_n 0, 1) := by decide +kernel
theorem dX8_partWays_1 : decode cX8_partWays 1 = .ok (.getfield 21, 3) := by decide +kernel
theorem dX8_partWays_4 : decode cX8_partWays 4 = .ok (.aload_n 0, 1) := by decide +kernel
theorem dX8_partWays_5 : decode cX8_partWays 5 = .ok (.getfield 62, 3) := by decide +kernel
theorem dX8_partWays_8 : decode cX8_partWays 8 = .ok (.invokevirtual 100, 3) := by decide +kernel
theorem dX8_partWays_11 : decode cX8_partWays 11 = .ok (.aload_n 0, 1) := by decide +kernel
theorem dX8_partWays_12 : decode cX8_partWays 12 = .ok (.getfield 25, 3) := by decide +kernel
theorem dX8_partWays_15 : decode cX8_partWays 15 = .ok (.aload_n 0, 1) := by decide +kernel
theorem dX8_partWays_16 : decode cX8_partWays 16 = .ok (.getfield 62, 3) := by decide +kernel
theorem dX8_partWays_19 : decode cX8_partWays 19 = .ok (.invokevirtual 100, 3) := by decide +kernel
theorem dX8_partWays_22 : decode cX8_partWays 22 = .ok (.iconst 0, 1) := by decide +kernel
theorem dX8_partWays_23 : decode cX8_partWays 23 = .ok (.istore_n 2, 1) := by decide +kernel
theorem dX8_partWays_24 : decode cX8_partWays 24 = .ok (.iload_n 2, 1) := by decide +kernel
theorem dX8_partWays_25 : decode cX8_partWays 25 = .ok (.bipush 100, 2) := by decide +kernel
theorem dX8_partWays_27 : decode cX8_partWays 27 = .ok (.if_icmp .ge 66, 3) := by decide +kernel
theorem dX8_partWays_30 : decode cX8_partWays 30 = .ok (.aload_n 0, 1) := by decide +kernel
theorem dX8_partWays_31 : decode cX8_partWays 31 = .ok (.getfield 21, 3) := by decide +kernel
theorem dX8_partWays_34 : decode cX8_partWays 34 = .ok (.getfield 123, 3) := by decide +kernel
theorem dX8_partWays_37 : decode cX8_partWays 37 = .ok (.aload_n 0, 1) := by decide +kernel
theorem dX8_partWays_38 : decode cX8_partWays 38 = .ok (.getfield 12, 3) := by decide +kernel
theorem dX8_partWays_41 : decode cX8_partWays 41 = .ok (.getfield 124, 3) := by decide +kernel
theorem dX8_partWays_44 : decode cX8_partWays 44 = .ok (.if_icmp .eq 49, 3) := by decide +kernel
theorem dX8_partWays_47 : decode cX8_partWays 47 = .ok (.aload_n 0, 1) := by decide +kernel
theorem dX8_partWays_48 : decode cX8_partWays 48 = .ok (.getfield 21, 3) := by decide +kernel
theorem dX8_partWays_51 : decode cX8_partWays 51 = .ok (.aload_n 1, 1) := by decide +kernel
theorem dX8_partWays_52 : decode cX8_partWays 52 = .ok (.aload_n 0, 1) := by decide +kernel
theorem dX8_partWays_53 : decode cX8_partWays 53 = .ok (.getfield 12, 3) := by decide +kernel
theorem dX8_partWays_56 : decode cX8_partWays 56 = .ok (.invokevirtual 127, 3) := by decide +kernel
theorem dX8_partWays_59 : decode cX8_partWays 59 = .ok (.aload_n 0, 1) := by decide +kernel
theorem dX8_partWays_60 : decode cX8_partWays 60 = .ok (.getfield 25, 3) := by decide +kernel
theorem dX8_partWays_63 : decode cX8_partWays 63 = .ok (.aload_n 1, 1) := by decide +kernel
theorem dX8_partWays_64 : decode cX8_partWays 64 = .ok (.aload_n 0, 1) := by decide +kernel
theorem dX8_partWays_65 : decode cX8_partWays 65 = .ok (.getfield 12, 3) := by decide +kernel
theorem dX8_partWays_68 : decode cX8_partWays 68 = .ok (.invokevirtual 127, 3) := by decide +kernel
theorem dX8_partWays_71 : decode cX8_partWays 71 = .ok (.aload_n 0, 1) := by decide +kernel
theorem dX8_partWays_72 : decode cX8_partWays 72 = .ok (.getfield 21, 3) := by decide +kernel
theorem dX8_partWays_75 : decode cX8_partWays 75 = .ok (.aload_n 0, 1) := by decide +kernel
theorem dX8_partWays_76 : decode cX8_partWays 76 = .ok (.getfield 25, 3) := by decide +kernel
theorem dX8_partWays_79 : decode cX8_partWays 79 = .ok (.invokevirtual 131, 3) := by decide +kernel
theorem dX8_partWays_82 : decode cX8_partWays 82 = .ok (.ifCond .ne 5, 3) := by decide +kernel
theorem dX8_partWays_85 : decode cX8_partWays 85 = .ok (.iconst 1, 1) := by decide +kernel
theorem dX8_partWays_86 : decode cX8_partWays 86 = .ok (.ireturn, 1) := by decide +kernel
theorem dX8_partWays_87 : decode cX8_partWays 87 = .ok (.iinc 2 1, 3) := by decide +kernel
theorem dX8_partWays_90 : decode cX8_partWays 90 = .ok (.goto (-66), 3) := by decide +kernel
theorem dX8_partWays_93 : decode cX8_partWays 93 = .ok (.iconst 0, 1) := by decide +kernel
theorem dX8_partWays_94 : decode cX8_partWays 94 = .ok (.ireturn, 1) := by decide +kernel
theorem dX8_isNeeded_0 : decode cX8_isNeeded 0 = .ok (.aload_n 1, 1) := by decide +kernel
theorem dX8_isNeeded_1 : decode cX8_isNeeded 1 = .ok (.iload_n 2, 1) := by decide +kernel
theorem dX8_isNeeded_2 : decode cX8_isNeeded 2 = .ok (.invokevirtual 110, 3) := by decide +kernel
theorem dX8_isNeeded_5 : decode cX8_isNeeded 5 = .ok (.ifCond .ne 5, 3) := by decide +kernel
theorem dX8_isNeeded_8 : decode cX8_isNeeded 8 = .ok (.iconst 0, 1) := by decide +kernel
theorem dX8_isNeeded_9 : decode cX8_isNeeded 9 = .ok (.ireturn, 1) := by decide +kernel
theorem dX8_isNeeded_10 : decode cX8_isNeeded 10 = .ok (.aload_n 0, 1) := by decide +kernel
theorem dX8_isNeeded_11 : decode cX8_isNeeded 11 = .ok (.iload_n 3, 1) := by decide +kernel
theorem dX8_isNeeded_12 : decode cX8_isNeeded 12 = .ok (.iload 4, 2) := by decide +kernel
theorem dX8_isNeeded_14 : decode cX8_isNeeded 14 = .ok (.invokevirtual 89, 3) := by decide +kernel
theorem dX8_isNeeded_17 : decode cX8_isNeeded 17 = .ok (.aload_n 0, 1) := by decide +kernel
theorem dX8_isNeeded_18 : decode cX8_isNeeded 18 = .ok (.getfield 25, 3) := by decide +kernel
theorem dX8_isNeeded_21 : decode cX8_isNeeded 21 = .ok (.iconst 1, 1) := by decide +kernel
theorem dX8_isNeeded_22 : decode cX8_isNeeded 22 = .ok (.iload_n 2, 1) := by decide +kernel
theorem dX8_isNeeded_23 : decode cX8_isNeeded 23 = .ok (.ishl, 1) := by decide +kernel
theorem dX8_isNeeded_24 : decode cX8_isNeeded 24 = .ok (.putfield 116, 3) := by decide +kernel
theorem dX8_isNeeded_27 : decode cX8_isNeeded 27 = .ok (.iconst 0, 1) := by decide +kernel
theorem dX8_isNeeded_28 : decode cX8_isNeeded 28 = .ok (.istore 5, 2) := by decide +kernel
theorem dX8_isNeeded_30 : decode cX8_isNeeded 30 = .ok (.iload 5, 2) := by decide +kernel
theorem dX8_isNeeded_32 : decode cX8_isNeeded 32 = .ok (.ldc 77, 2) := by decide +kernel
theorem dX8_isNeeded_34 : decode cX8_isNeeded 34 = .ok (.if_icmp .ge 26, 3) := by decide +kernel
theorem dX8_isNeeded_37 : decode cX8_isNeeded 37 = .ok (.aload_n 0, 1) := by decide +kernel
theorem dX8_isNeeded_38 : decode cX8_isNeeded 38 = .ok (.invokevirtual 96, 3) := by decide +kernel
theorem dX8_isNeeded_41 : decode cX8_isNeeded 41 = .ok (.ifCond .eq 19, 3) := by decide +kernel
theorem dX8_isNeeded_44 : decode cX8_isNeeded 44 = .ok (.aload_n 0, 1) := by decide +kernel
theorem dX8_isNeeded_45 : decode cX8_isNeeded 45 = .ok (.aload_n 1, 1) := by decide +kernel
theorem dX8_isNeeded_46 : decode cX8_isNeeded 46 = .ok (.invokevirtual 119, 3) := by decide +kernel
theorem dX8_isNeeded_49 : decode cX8_isNeeded 49 = .ok (.ifCond .eq 5, 3) := by decide +kernel
theorem dX8_isNeeded_52 : decode cX8_isNeeded 52 = .ok (.iconst 1, 1) := by decide +kernel
theorem dX8_isNeeded_53 : decode cX8_isNeeded 53 = .ok (.ireturn, 1) := by decide +kernel
theorem dX8_isNeeded_54 : decode cX8_isNeeded 54 = .ok (.iinc 5 1, 3) := by decide +kernel
theorem dX8_isNeeded_57 : decode cX8_isNeeded 57 = .ok (.goto (-27), 3) := by decide +kernel
theorem dX8_isNeeded_60 : decode cX8_isNeeded 60 = .ok (.iconst 0, 1) := by decide +kernel
theorem dX8_isNeeded_61 : decode cX8_isNeeded 61 = .ok (.ireturn, 1) := by decide +kernel
theorem dX10_needs_0 : decode cX10_needs 0 = .ok (.iload_n 2, 1) := by decide +kernel
theorem dX10_needs_1 : decode cX10_needs 1 = .ok (.iload_n 3, 1) := by decide +kernel
theorem dX10_needs_2 : decode cX10_needs 2 = .ok (.invokestatic 239, 3) := by decide +kernel
theorem dX10_needs_5 : decode cX10_needs 5 = .ok (.ifCond .eq 12, 3) := by decide +kernel
theorem dX10_needs_8 : decode cX10_needs 8 = .ok (.iload_n 1, 1) := by decide +kernel
theorem dX10_needs_9 : decode cX10_needs 9 = .ok (.ifCond .lt 8, 3) := by decide +kernel
theorem dX10_needs_12 : decode cX10_needs 12 = .ok (.iload_n 1, 1) := by decide +kernel
theorem dX10_needs_13 : decode cX10_needs 13 = .ok (.iconst 3, 1) := by decide +kernel
theorem dX10_needs_14 : decode cX10_needs 14 = .ok (.if_icmp .lt 5, 3) := by decide +kernel
theorem dX10_needs_17 : decode cX10_needs 17 = .ok (.iconst (-1), 1) := by decide +kernel
theorem dX10_needs_18 : decode cX10_needs 18 = .ok (.ireturn, 1) := by decide +kernel
theorem dX10_needs_19 : decode cX10_needs 19 = .ok (.aload_n 0, 1) := by decide +kernel
theorem dX10_needs_20 : decode cX10_needs 20 = .ok (.getfield 85, 3) := by decide +kernel
theorem dX10_needs_23 : decode cX10_needs 23 = .ok (.aload_n 0, 1) := by decide +kernel
theorem dX10_needs_24 : decode cX10_needs 24 = .ok (.getfield 35, 3) := by decide +kernel
theorem dX10_needs_27 : decode cX10_needs 27 = .ok (.iload_n 1, 1) := by decide +kernel
theorem dX10_needs_28 : decode cX10_needs 28 = .ok (.iload_n 2, 1) := by decide +kernel
theorem dX10_needs_29 : decode cX10_needs 29 = .ok (.iload_n 3, 1) := by decide +kernel
theorem dX10_needs_30 : decode cX10_needs 30 = .ok (.invokevirtual 249, 3) := by decide +kernel
theorem dX10_needs_33 : decode cX10_needs 33 = .ok (.ifCond .eq 7, 3) := by decide +kernel
theorem dX10_needs_36 : decode cX10_needs 36 = .ok (.iconst 1, 1) := by decide +kernel
theorem dX10_needs_37 : decode cX10_needs 37 = .ok (.goto 4, 3) := by decide +kernel
theorem dX10_needs_40 : decode cX10_needs 40 = .ok (.iconst 0, 1) := by decide +kernel
theorem dX10_needs_41 : decode cX10_needs 41 = .ok (.ireturn, 1) := by decide +kernel
theorem dX10_knows_0 : decode cX10_knows 0 = .ok (.aload_n 0, 1) := by decide +kernel
theorem dX10_knows_1 : decode cX10_knows 1 = .ok (.getfield 49, 3) := by decide +kernel
theorem dX10_knows_4 : decode cX10_knows 4 = .ok (.iload_n 1, 1) := by decide +kernel
theorem dX10_knows_5 : decode cX10_knows 5 = .ok (.invokevirtual 153, 3) := by decide +kernel
theorem dX10_knows_8 : decode cX10_knows 8 = .ok (.ifCond .ne 5, 3) := by decide +kernel
theorem dX10_knows_11 : decode cX10_knows 11 = .ok (.iconst (-1), 1) := by decide +kernel
theorem dX10_knows_12 : decode cX10_knows 12 = .ok (.ireturn, 1) := by decide +kernel
theorem dX10_knows_13 : decode cX10_knows 13 = .ok (.iload_n 1, 1) := by decide +kernel
theorem dX10_knows_14 : decode cX10_knows 14 = .ok (.istore_n 2, 1) := by decide +kernel
theorem dX10_knows_15 : decode cX10_knows 15 = .ok (.iconst 0, 1) := by decide +kernel
theorem dX10_knows_16 : decode cX10_knows 16 = .ok (.istore_n 3, 1) := by decide +kernel
theorem dX10_knows_17 : decode cX10_knows 17 = .ok (.iload_n 3, 1) := by decide +kernel
theorem dX10_knows_18 : decode cX10_knows 18 = .ok (.aload_n 0, 1) := by decide +kernel
theorem dX10_knows_19 : decode cX10_knows 19 = .ok (.getfield 49, 3) := by decide +kernel
theorem dX10_knows_22 : decode cX10_knows 22 = .ok (.getfield 229, 3) := by decide +kernel
theorem dX10_knows_25 : decode cX10_knows 25 = .ok (.if_icmp .ge 58, 3) := by decide +kernel
theorem dX10_knows_28 : decode cX10_knows 28 = .ok (.iload_n 2, 1) := by decide +kernel
theorem dX10_knows_29 : decode cX10_knows 29 = .ok (.aload_n 0, 1) := by decide +kernel
theorem dX10_knows_30 : decode cX10_knows 30 = .ok (.getfield 49, 3) := by decide +kernel
theorem dX10_knows_33 : decode cX10_knows 33 = .ok (.getfield 170, 3) := by decide +kernel
theorem dX10_knows_36 : decode cX10_knows 36 = .ok (.if_icmp .ne 5, 3) := by decide +kernel
theorem dX10_knows_39 : decode cX10_knows 39 = .ok (.iload_n 3, 1) := by decide +kernel
theorem dX10_knows_40 : decode cX10_knows 40 = .ok (.ireturn, 1) := by decide +kernel
theorem dX10_knows_41 : decode cX10_knows 41 = .ok (.aload_n 0, 1) := by decide +kernel
theorem dX10_knows_42 : decode cX10_knows 42 = .ok (.getfield 56, 3) := by decide +kernel
theorem dX10_knows_45 : decode cX10_knows 45 = .ok (.iload_n 2, 1) := by decide +kernel
theorem dX10_knows_46 : decode cX10_knows 46 = .ok (.invokevirtual 207, 3) := by decide +kernel
theorem dX10_knows_49 : decode cX10_knows 49 = .ok (.istore 4, 2) := by decide +kernel
theorem dX10_knows_51 : decode cX10_knows 51 = .ok (.aload_n 0, 1) := by decide +kernel
theorem dX10_knows_52 : decode cX10_knows 52 = .ok (.getfield 49, 3) := by decide +kernel
theorem dX10_knows_55 : decode cX10_knows 55 = .ok (.iload_n 2, 1) := by decide +kernel
theorem dX10_knows_56 : decode cX10_knows 56 = .ok (.iload 4, 2) := by decide +kernel
theorem dX10_knows_58 : decode cX10_knows 58 = .ok (.invokevirtual 163, 3) := by decide +kernel
theorem dX10_knows_61 : decode cX10_knows 61 = .ok (.ifCond .eq 5, 3) := by decide +kernel
theorem dX10_knows_64 : decode cX10_knows 64 = .ok (.iconst (-1), 1) := by decide +kernel
theorem dX10_knows_65 : decode cX10_knows 65 = .ok (.ireturn, 1) := by decide +kernel
theorem dX10_knows_66 : decode cX10_knows 66 = .ok (.aload_n 0, 1) := by decide +kernel
theorem dX10_knows_67 : decode cX10_knows 67 = .ok (.getfield 49, 3) := by decide +kernel
theorem dX10_knows_70 : decode cX10_knows 70 = .ok (.iload_n 2, 1) := by decide +kernel
theorem dX10_knows_71 : decode cX10_knows 71 = .ok (.iload 4, 2) := by decide +kernel
theorem dX10_knows_73 : decode cX10_knows 73 = .ok (.invokevirtual 253, 3) := by decide +kernel
theorem dX10_knows_76 : decode cX10_knows 76 = .ok (.istore_n 2, 1) := by decide +kernel
theorem dX10_knows_77 : decode cX10_knows 77 = .ok (.iinc 3 1, 3) := by decide +kernel
theorem dX10_knows_80 : decode cX10_knows 80 = .ok (.goto (-63), 3) := by decide +kernel
theorem dX10_knows_83 : decode cX10_knows 83 = .ok (.iconst (-1), 1) := by decide +kernel
theorem dX10_knows_84 : decode cX10_knows 84 = .ok (.ireturn, 1) := by decide +kernel
theorem dX3_inputs_0 : decode cX3_inputs 0 = .ok (.aload_n 0, 1) := by decide +kernel
theorem dX3_inputs_1 : decode cX3_inputs 1 = .ok (.aload_n 0, 1) := by decide +kernel
theorem dX3_inputs_2 : decode cX3_inputs 2 = .ok (.getfield 19, 3) := by decide +kernel
theorem dX3_inputs_5 : decode cX3_inputs 5 = .ok (.invokevirtual 81, 3) := by decide +kernel
theorem dX3_inputs_8 : decode cX3_inputs 8 = .ok (.bipush 22, 2) := by decide +kernel
theorem dX3_inputs_10 : decode cX3_inputs 10 = .ok (.ishl, 1) := by decide +kernel
theorem dX3_inputs_11 : decode cX3_inputs 11 = .ok (.istore_n 2, 1) := by decide +kernel
theorem dX3_inputs_12 : decode cX3_inputs 12 = .ok (.aload_n 1, 1) := by decide +kernel
theorem dX3_inputs_13 : decode cX3_inputs 13 = .ok (.aload_n 0, 1) := by decide +kernel
theorem dX3_inputs_14 : decode cX3_inputs 14 = .ok (.getfield 19, 3) := by decide +kernel
theorem dX3_inputs_17 : decode cX3_inputs 17 = .ok (.aload_n 0, 1) := by decide +kernel
theorem dX3_inputs_18 : decode cX3_inputs 18 = .ok (.getfield 22, 3) := by decide +kernel
theorem dX3_inputs_21 : decode cX3_inputs 21 = .ok (.invokevirtual 74, 3) := by decide +kernel
theorem dX3_inputs_24 : decode cX3_inputs 24 = .ok (.ifCond .eq 8, 3) := by decide +kernel
theorem dX3_inputs_27 : decode cX3_inputs 27 = .ok (.iload_n 2, 1) := by decide +kernel
theorem dX3_inputs_28 : decode cX3_inputs 28 = .ok (.ldc 127, 2) := by decide +kernel
theorem dX3_inputs_30 : decode cX3_inputs 30 = .ok (.ior, 1) := by decide +kernel
theorem dX3_inputs_31 : decode cX3_inputs 31 = .ok (.istore_n 2, 1) := by decide +kernel
theorem dX3_inputs_32 : decode cX3_inputs 32 = .ok (.aload_n 0, 1) := by decide +kernel
theorem dX3_inputs_33 : decode cX3_inputs 33 = .ok (.getfield 19, 3) := by decide +kernel
theorem dX3_inputs_36 : decode cX3_inputs 36 = .ok (.aload_n 1, 1) := by decide +kernel
theorem dX3_inputs_37 : decode cX3_inputs 37 = .ok (.getfield 78, 3) := by decide +kernel
theorem dX3_inputs_40 : decode cX3_inputs 40 = .ok (.if_icmp .ne 8, 3) := by decide +kernel
theorem dX3_inputs_43 : decode cX3_inputs 43 = .ok (.iload_n 2, 1) := by decide +kernel
theorem dX3_inputs_44 : decode cX3_inputs 44 = .ok (.ldc 128, 2) := by decide +kernel
theorem dX3_inputs_46 : decode cX3_inputs 46 = .ok (.ior, 1) := by decide +kernel
theorem dX3_inputs_47 : decode cX3_inputs 47 = .ok (.istore_n 2, 1) := by decide +kernel
theorem dX3_inputs_48 : decode cX3_inputs 48 = .ok (.iload_n 2, 1) := by decide +kernel
theorem dX3_inputs_49 : decode cX3_inputs 49 = .ok (.ireturn, 1) := by decide +kernel
theorem dX4_valueOf_0 : decode cX4_valueOf 0 = .ok (.iload_n 1, 1) := by decide +kernel
theorem dX4_valueOf_1 : decode cX4_valueOf 1 = .ok (.ifCond .lt 9, 3) := by decide +kernel
theorem dX4_valueOf_4 : decode cX4_valueOf 4 = .ok (.iload_n 1, 1) := by decide +kernel
theorem dX4_valueOf_5 : decode cX4_valueOf 5 = .ok (.bipush 24, 2) := by decide +kernel
theorem dX4_valueOf_7 : decode cX4_valueOf 7 = .ok (.if_icmp .lt 5, 3) := by decide +kernel
theorem dX4_valueOf_10 : decode cX4_valueOf 10 = .ok (.iconst 0, 1) := by decide +kernel
theorem dX4_valueOf_11 : decode cX4_valueOf 11 = .ok (.ireturn, 1) := by decide +kernel
theorem dX4_valueOf_12 : decode cX4_valueOf 12 = .ok (.iconst 0, 1) := by decide +kernel
theorem dX4_valueOf_13 : decode cX4_valueOf 13 = .ok (.istore_n 3, 1) := by decide +kernel
theorem dX4_valueOf_14 : decode cX4_valueOf 14 = .ok (.aload_n 0, 1) := by decide +kernel
theorem dX4_valueOf_15 : decode cX4_valueOf 15 = .ok (.getfield 13, 3) := by decide +kernel
theorem dX4_valueOf_18 : decode cX4_valueOf 18 = .ok (.iload_n 1, 1) := by decide +kernel
theorem dX4_valueOf_19 : decode cX4_valueOf 19 = .ok (.iaload, 1) := by decide +kernel
theorem dX4_valueOf_20 : decode cX4_valueOf 20 = .ok (.istore 4, 2) := by decide +kernel
theorem dX4_valueOf_22 : decode cX4_valueOf 22 = .ok (.iload 4, 2) := by decide +kernel
theorem dX4_valueOf_24 : decode cX4_valueOf 24 = .ok (.aload_n 0, 1) := by decide +kernel
theorem dX4_valueOf_25 : decode cX4_valueOf 25 = .ok (.getfield 16, 3) := by decide +kernel
theorem dX4_valueOf_28 : decode cX4_valueOf 28 = .ok (.iload_n 1, 1) := by decide +kernel
theorem dX4_valueOf_29 : decode cX4_valueOf 29 = .ok (.iaload, 1) := by decide +kernel
theorem dX4_valueOf_30 : decode cX4_valueOf 30 = .ok (.if_icmp .ge 84, 3) := by decide +kernel
theorem dX4_valueOf_33 : decode cX4_valueOf 33 = .ok (.aload_n 0, 1) := by decide +kernel
theorem dX4_valueOf_34 : decode cX4_valueOf 34 = .ok (.getfield 9, 3) := by decide +kernel
theorem dX4_valueOf_37 : decode cX4_valueOf 37 = .ok (.iload 4, 2) := by decide +kernel
theorem dX4_valueOf_39 : decode cX4_valueOf 39 = .ok (.iaload, 1) := by decide +kernel
theorem dX4_valueOf_40 : decode cX4_valueOf 40 = .ok (.istore 5, 2) := by decide +kernel
theorem dX4_valueOf_42 : decode cX4_valueOf 42 = .ok (.iload 5, 2) := by decide +kernel
theorem dX4_valueOf_44 : decode cX4_valueOf 44 = .ok (.bipush 24, 2) := by decide +kernel
theorem dX4_valueOf_46 : decode cX4_valueOf 46 = .ok (.if_icmp .ge 17, 3) := by decide +kernel
theorem dX4_valueOf_49 : decode cX4_valueOf 49 = .ok (.iload_n 3, 1) := by decide +kernel
theorem dX4_valueOf_50 : decode cX4_valueOf 50 = .ok (.iconst 1, 1) := by decide +kernel
theorem dX4_valueOf_51 : decode cX4_valueOf 51 = .ok (.ishl, 1) := by decide +kernel
theorem dX4_valueOf_52 : decode cX4_valueOf 52 = .ok (.iload_n 2, 1) := by decide +kernel
theorem dX4_valueOf_53 : decode cX4_valueOf 53 = .ok (.iload 5, 2) := by decide +kernel
theorem dX4_valueOf_55 : decode cX4_valueOf 55 = .ok (.iushr, 1) := by decide +kernel
theorem dX4_valueOf_56 : decode cX4_valueOf 56 = .ok (.iconst 1, 1) := by decide +kernel
theorem dX4_valueOf_57 : decode cX4_valueOf 57 = .ok (.iand, 1) := by decide +kernel
theorem dX4_valueOf_58 : decode cX4_valueOf 58 = .ok (.ior, 1) := by decide +kernel
theorem dX4_valueOf_59 : decode cX4_valueOf 59 = .ok (.istore_n 3, 1) := by decide +kernel
theorem dX4_valueOf_60 : decode cX4_valueOf 60 = .ok (.goto 48, 3) := by decide +kernel
theorem dX4_valueOf_63 : decode cX4_valueOf 63 = .ok (.iload 5, 2) := by decide +kernel
theorem dX4_valueOf_65 : decode cX4_valueOf 65 = .ok (.bipush 26, 2) := by decide +kernel
theorem dX4_valueOf_67 : decode cX4_valueOf 67 = .ok (.if_icmp .ne 10, 3) := by decide +kernel
theorem dX4_valueOf_70 : decode cX4_valueOf 70 = .ok (.iload_n 3, 1) := by decide +kernel
theorem dX4_valueOf_71 : decode cX4_valueOf 71 = .ok (.iconst 1, 1) := by decide +kernel
theorem dX4_valueOf_72 : decode cX4_valueOf 72 = .ok (.ixor, 1) := by decide +kernel
theorem dX4_valueOf_73 : decode cX4_valueOf 73 = .ok (.istore_n 3, 1) := by decide +kernel
theorem dX4_valueOf_74 : decode cX4_valueOf 74 = .ok (.goto 34, 3) := by decide +kernel
theorem dX4_valueOf_77 : decode cX4_valueOf 77 = .ok (.iload_n 3, 1) := by decide +kernel
theorem dX4_valueOf_78 : decode cX4_valueOf 78 = .ok (.iconst 1, 1) := by decide +kernel
theorem dX4_valueOf_79 : decode cX4_valueOf 79 = .ok (.iand, 1) := by decide +kernel
theorem dX4_valueOf_80 : decode cX4_valueOf 80 = .ok (.istore 6, 2) := by decide +kernel
theorem dX4_valueOf_82 : decode cX4_valueOf 82 = .ok (.iload_n 3, 1) := by decide +kernel
theorem dX4_valueOf_83 : decode cX4_valueOf 83 = .ok (.iconst 1, 1) := by decide +kernel
theorem dX4_valueOf_84 : decode cX4_valueOf 84 = .ok (.iushr, 1) := by decide +kernel
theorem dX4_valueOf_85 : decode cX4_valueOf 85 = .ok (.istore_n 3, 1) := by decide +kernel
theorem dX4_valueOf_86 : decode cX4_valueOf 86 = .ok (.iload 5, 2) := by decide +kernel
theorem dX4_valueOf_88 : decode cX4_valueOf 88 = .ok (.bipush 24, 2) := by decide +kernel
theorem dX4_valueOf_90 : decode cX4_valueOf 90 = .ok (.if_icmp .ne 10, 3) := by decide +kernel
theorem dX4_valueOf_93 : decode cX4_valueOf 93 = .ok (.iload_n 3, 1) := by decide +kernel
theorem dX4_valueOf_94 : decode cX4_valueOf 94 = .ok (.iload 6, 2) := by decide +kernel
theorem dX4_valueOf_96 : decode cX4_valueOf 96 = .ok (.ior, 1) := by decide +kernel
theorem dX4_valueOf_97 : decode cX4_valueOf 97 = .ok (.goto 10, 3) := by decide +kernel
theorem dX4_valueOf_100 : decode cX4_valueOf 100 = .ok (.iload_n 3, 1) := by decide +kernel
theorem dX4_valueOf_101 : decode cX4_valueOf 101 = .ok (.iload 6, 2) := by decide +kernel
theorem dX4_valueOf_103 : decode cX4_valueOf 103 = .ok (.bipush (-2), 2) := by decide +kernel
theorem dX4_valueOf_105 : decode cX4_valueOf 105 = .ok (.ior, 1) := by decide +kernel
theorem dX4_valueOf_106 : decode cX4_valueOf 106 = .ok (.iand, 1) := by decide +kernel
theorem dX4_valueOf_107 : decode cX4_valueOf 107 = .ok (.istore_n 3, 1) := by decide +kernel
theorem dX4_valueOf_108 : decode cX4_valueOf 108 = .ok (.iinc 4 1, 3) := by decide +kernel
theorem dX4_valueOf_111 : decode cX4_valueOf 111 = .ok (.goto (-89), 3) := by decide +kernel
theorem dX4_valueOf_114 : decode cX4_valueOf 114 = .ok (.iload_n 3, 1) := by decide +kernel
theorem dX4_valueOf_115 : decode cX4_valueOf 115 = .ok (.iconst 1, 1) := by decide +kernel
theorem dX4_valueOf_116 : decode cX4_valueOf 116 = .ok (.iand, 1) := by decide +kernel
theorem dX4_valueOf_117 : decode cX4_valueOf 117 = .ok (.ireturn, 1) := by decide +kernel
theorem dX4_relaysBy_0 : decode cX4_relaysBy 0 = .ok (.iconst 0, 1) := by decide +kernel
theorem dX4_relaysBy_1 : decode cX4_relaysBy 1 = .ok (.istore_n 2, 1) := by decide +kernel
theorem dX4_relaysBy_2 : decode cX4_relaysBy 2 = .ok (.iconst 0, 1) := by decide +kernel
theorem dX4_relaysBy_3 : decode cX4_relaysBy 3 = .ok (.istore_n 3, 1) := by decide +kernel
theorem dX4_relaysBy_4 : decode cX4_relaysBy 4 = .ok (.iload_n 3, 1) := by decide +kernel
theorem dX4_relaysBy_5 : decode cX4_relaysBy 5 = .ok (.aload_n 0, 1) := by decide +kernel
theorem dX4_relaysBy_6 : decode cX4_relaysBy 6 = .ok (.getfield 19, 3) := by decide +kernel
theorem dX4_relaysBy_9 : decode cX4_relaysBy 9 = .ok (.if_icmp .ge 20, 3) := by decide +kernel
theorem dX4_relaysBy_12 : decode cX4_relaysBy 12 = .ok (.iload_n 2, 1) := by decide +kernel
theorem dX4_relaysBy_13 : decode cX4_relaysBy 13 = .ok (.aload_n 0, 1) := by decide +kernel
theorem dX4_relaysBy_14 : decode cX4_relaysBy 14 = .ok (.iload_n 3, 1) := by decide +kernel
theorem dX4_relaysBy_15 : decode cX4_relaysBy 15 = .ok (.iload_n 1, 1) := by decide +kernel
theorem dX4_relaysBy_16 : decode cX4_relaysBy 16 = .ok (.invokevirtual 29, 3) := by decide +kernel
theorem dX4_relaysBy_19 : decode cX4_relaysBy 19 = .ok (.iload_n 3, 1) := by decide +kernel
theorem dX4_relaysBy_20 : decode cX4_relaysBy 20 = .ok (.ishl, 1) := by decide +kernel
theorem dX4_relaysBy_21 : decode cX4_relaysBy 21 = .ok (.ior, 1) := by decide +kernel
theorem dX4_relaysBy_22 : decode cX4_relaysBy 22 = .ok (.istore_n 2, 1) := by decide +kernel
theorem dX4_relaysBy_23 : decode cX4_relaysBy 23 = .ok (.iinc 3 1, 3) := by decide +kernel
theorem dX4_relaysBy_26 : decode cX4_relaysBy 26 = .ok (.goto (-22), 3) := by decide +kernel
theorem dX4_relaysBy_29 : decode cX4_relaysBy 29 = .ok (.iload_n 2, 1) := by decide +kernel
theorem dX4_relaysBy_30 : decode cX4_relaysBy 30 = .ok (.ireturn, 1) := by decide +kernel
theorem dX4_outputsBy_0 : decode cX4_outputsBy 0 = .ok (.iconst 0, 1) := by decide +kernel
theorem dX4_outputsBy_1 : decode cX4_outputsBy 1 = .ok (.istore_n 2, 1) := by decide +kernel
theorem dX4_outputsBy_2 : decode cX4_outputsBy 2 = .ok (.iconst 1, 1) := by decide +kernel
theorem dX4_outputsBy_3 : decode cX4_outputsBy 3 = .ok (.istore_n 3, 1) := by decide +kernel
theorem dX4_outputsBy_4 : decode cX4_outputsBy 4 = .ok (.iload_n 3, 1) := by decide +kernel
theorem dX4_outputsBy_5 : decode cX4_outputsBy 5 = .ok (.iconst 4, 1) := by decide +kernel
theorem dX4_outputsBy_6 : decode cX4_outputsBy 6 = .ok (.if_icmp .gt 23, 3) := by decide +kernel
theorem dX4_outputsBy_9 : decode cX4_outputsBy 9 = .ok (.iload_n 2, 1) := by decide +kernel
theorem dX4_outputsBy_10 : decode cX4_outputsBy 10 = .ok (.aload_n 0, 1) := by decide +kernel
theorem dX4_outputsBy_11 : decode cX4_outputsBy 11 = .ok (.iload_n 3, 1) := by decide +kernel
theorem dX4_outputsBy_12 : decode cX4_outputsBy 12 = .ok (.invokestatic 33, 3) := by decide +kernel
theorem dX4_outputsBy_15 : decode cX4_outputsBy 15 = .ok (.iload_n 1, 1) := by decide +kernel
theorem dX4_outputsBy_16 : decode cX4_outputsBy 16 = .ok (.invokevirtual 29, 3) := by decide +kernel
theorem dX4_outputsBy_19 : decode cX4_outputsBy 19 = .ok (.iload_n 3, 1) := by decide +kernel
theorem dX4_outputsBy_20 : decode cX4_outputsBy 20 = .ok (.ishl, 1) := by decide +kernel
theorem dX4_outputsBy_21 : decode cX4_outputsBy 21 = .ok (.ior, 1) := by decide +kernel
theorem dX4_outputsBy_22 : decode cX4_outputsBy 22 = .ok (.istore_n 2, 1) := by decide +kernel
theorem dX4_outputsBy_23 : decode cX4_outputsBy 23 = .ok (.iinc 3 1, 3) := by decide +kernel
theorem dX4_outputsBy_26 : decode cX4_outputsBy 26 = .ok (.goto (-22), 3) := by decide +kernel
theorem dX4_outputsBy_29 : decode cX4_outputsBy 29 = .ok (.iload_n 2, 1) := by decide +kernel
theorem dX4_outputsBy_30 : decode cX4_outputsBy 30 = .ok (.ireturn, 1) := by decide +kernel
theorem dX3_doOutputs_0 : decode cX3_doOutputs 0 = .ok (.iload_n 1, 1) := by decide +kernel
theorem dX3_doOutputs_1 : decode cX3_doOutputs 1 = .ok (.iconst 4, 1) := by decide +kernel
theorem dX3_doOutputs_2 : decode cX3_doOutputs 2 = .ok (.ishr, 1) := by decide +kernel
theorem dX3_doOutputs_3 : decode cX3_doOutputs 3 = .ok (.iconst 1, 1) := by decide +kernel
theorem dX3_doOutputs_4 : decode cX3_doOutputs 4 = .ok (.iand, 1) := by decide +kernel
theorem dX3_doOutputs_5 : decode cX3_doOutputs 5 = .ok (.ifCond .eq 7, 3) := by decide +kernel
theorem dX3_doOutputs_8 : decode cX3_doOutputs 8 = .ok (.aload_n 0, 1) := by decide +kernel
theorem dX3_doOutputs_9 : decode cX3_doOutputs 9 = .ok (.invokevirtual 105, 3) := by decide +kernel
theorem dX3_doOutputs_12 : decode cX3_doOutputs 12 = .ok (.iload_n 1, 1) := by decide +kernel
theorem dX3_doOutputs_13 : decode cX3_doOutputs 13 = .ok (.iconst 2, 1) := by decide +kernel
theorem dX3_doOutputs_14 : decode cX3_doOutputs 14 = .ok (.ishr, 1) := by decide +kernel
theorem dX3_doOutputs_15 : decode cX3_doOutputs 15 = .ok (.iconst 1, 1) := by decide +kernel
theorem dX3_doOutputs_16 : decode cX3_doOutputs 16 = .ok (.iand, 1) := by decide +kernel
theorem dX3_doOutputs_17 : decode cX3_doOutputs 17 = .ok (.ifCond .eq 8, 3) := by decide +kernel
theorem dX3_doOutputs_20 : decode cX3_doOutputs 20 = .ok (.aload_n 0, 1) := by decide +kernel
theorem dX3_doOutputs_21 : decode cX3_doOutputs 21 = .ok (.iconst 3, 1) := by decide +kernel
theorem dX3_doOutputs_22 : decode cX3_doOutputs 22 = .ok (.invokevirtual 102, 3) := by decide +kernel
theorem dX3_doOutputs_25 : decode cX3_doOutputs 25 = .ok (.iload_n 1, 1) := by decide +kernel
theorem dX3_doOutputs_26 : decode cX3_doOutputs 26 = .ok (.iconst 3, 1) := by decide +kernel
theorem dX3_doOutputs_27 : decode cX3_doOutputs 27 = .ok (.ishr, 1) := by decide +kernel
theorem dX3_doOutputs_28 : decode cX3_doOutputs 28 = .ok (.iconst 1, 1) := by decide +kernel
theorem dX3_doOutputs_29 : decode cX3_doOutputs 29 = .ok (.iand, 1) := by decide +kernel
theorem dX3_doOutputs_30 : decode cX3_doOutputs 30 = .ok (.ifCond .eq 8, 3) := by decide +kernel
theorem dX3_doOutputs_33 : decode cX3_doOutputs 33 = .ok (.aload_n 0, 1) := by decide +kernel
theorem dX3_doOutputs_34 : decode cX3_doOutputs 34 = .ok (.iconst 1, 1) := by decide +kernel
theorem dX3_doOutputs_35 : decode cX3_doOutputs 35 = .ok (.invokevirtual 102, 3) := by decide +kernel
theorem dX3_doOutputs_38 : decode cX3_doOutputs 38 = .ok (.iload_n 1, 1) := by decide +kernel
theorem dX3_doOutputs_39 : decode cX3_doOutputs 39 = .ok (.iconst 1, 1) := by decide +kernel
theorem dX3_doOutputs_40 : decode cX3_doOutputs 40 = .ok (.ishr, 1) := by decide +kernel
theorem dX3_doOutputs_41 : decode cX3_doOutputs 41 = .ok (.iconst 1, 1) := by decide +kernel
theorem dX3_doOutputs_42 : decode cX3_doOutputs 42 = .ok (.iand, 1) := by decide +kernel
theorem dX3_doOutputs_43 : decode cX3_doOutputs 43 = .ok (.ifCond .eq 8, 3) := by decide +kernel
theorem dX3_doOutputs_46 : decode cX3_doOutputs 46 = .ok (.aload_n 0, 1) := by decide +kernel
theorem dX3_doOutputs_47 : decode cX3_doOutputs 47 = .ok (.aload_n 2, 1) := by decide +kernel
theorem dX3_doOutputs_48 : decode cX3_doOutputs 48 = .ok (.invokevirtual 108, 3) := by decide +kernel
theorem dX3_doOutputs_51 : decode cX3_doOutputs 51 = .ok (.return_, 1) := by decide +kernel
theorem dX0_step_0 : decode cX0_step 0 = .ok (.aload_n 0, 1) := by decide +kernel
theorem dX0_step_1 : decode cX0_step 1 = .ok (.aload_n 2, 1) := by decide +kernel
theorem dX0_step_2 : decode cX0_step 2 = .ok (.aload_n 3, 1) := by decide +kernel
theorem dX0_step_3 : decode cX0_step 3 = .ok (.invokevirtual 33, 3) := by decide +kernel
theorem dX0_step_6 : decode cX0_step 6 = .ok (.putfield 39, 3) := by decide +kernel
theorem dX0_step_9 : decode cX0_step 9 = .ok (.aload_n 0, 1) := by decide +kernel
theorem dX0_step_10 : decode cX0_step 10 = .ok (.aload_n 0, 1) := by decide +kernel
theorem dX0_step_11 : decode cX0_step 11 = .ok (.getfield 18, 3) := by decide +kernel
theorem dX0_step_14 : decode cX0_step 14 = .ok (.putfield 41, 3) := by decide +kernel
theorem dX0_step_17 : decode cX0_step 17 = .ok (.aload_n 0, 1) := by decide +kernel
theorem dX0_step_18 : decode cX0_step 18 = .ok (.aload_n 1, 1) := by decide +kernel
theorem dX0_step_19 : decode cX0_step 19 = .ok (.aload_n 0, 1) := by decide +kernel
theorem dX0_step_20 : decode cX0_step 20 = .ok (.getfield 41, 3) := by decide +kernel
theorem dX0_step_23 : decode cX0_step 23 = .ok (.aload_n 0, 1) := by decide +kernel
theorem dX0_step_24 : decode cX0_step 24 = .ok (.getfield 39, 3) := by decide +kernel
theorem dX0_step_27 : decode cX0_step 27 = .ok (.ior, 1) := by decide +kernel
theorem dX0_step_28 : decode cX0_step 28 = .ok (.invokevirtual 44, 3) := by decide +kernel
theorem dX0_step_31 : decode cX0_step 31 = .ok (.invokevirtual 25, 3) := by decide +kernel
theorem dX0_step_34 : decode cX0_step 34 = .ok (.aload_n 0, 1) := by decide +kernel
theorem dX0_step_35 : decode cX0_step 35 = .ok (.aload_n 0, 1) := by decide +kernel
theorem dX0_step_36 : decode cX0_step 36 = .ok (.getfield 18, 3) := by decide +kernel
theorem dX0_step_39 : decode cX0_step 39 = .ok (.putfield 50, 3) := by decide +kernel
theorem dX0_step_42 : decode cX0_step 42 = .ok (.aload_n 0, 1) := by decide +kernel
theorem dX0_step_43 : decode cX0_step 43 = .ok (.iconst 1, 1) := by decide +kernel
theorem dX0_step_44 : decode cX0_step 44 = .ok (.putfield 21, 3) := by decide +kernel
theorem dX0_step_47 : decode cX0_step 47 = .ok (.aload_n 2, 1) := by decide +kernel
theorem dX0_step_48 : decode cX0_step 48 = .ok (.aload_n 1, 1) := by decide +kernel
theorem dX0_step_49 : decode cX0_step 49 = .ok (.aload_n 0, 1) := by decide +kernel
theorem dX0_step_50 : decode cX0_step 50 = .ok (.getfield 50, 3) := by decide +kernel
theorem dX0_step_53 : decode cX0_step 53 = .ok (.aload_n 0, 1) := by decide +kernel
theorem dX0_step_54 : decode cX0_step 54 = .ok (.getfield 39, 3) := by decide +kernel
theorem dX0_step_57 : decode cX0_step 57 = .ok (.ior, 1) := by decide +kernel
theorem dX0_step_58 : decode cX0_step 58 = .ok (.invokevirtual 53, 3) := by decide +kernel
theorem dX0_step_61 : decode cX0_step 61 = .ok (.aload_n 3, 1) := by decide +kernel
theorem dX0_step_62 : decode cX0_step 62 = .ok (.invokevirtual 56, 3) := by decide +kernel
theorem dX0_step_65 : decode cX0_step 65 = .ok (.return_, 1) := by decide +kernel
theorem dX10_pull_0 : decode cX10_pull 0 = .ok (.iload_n 1, 1) := by decide +kernel
theorem dX10_pull_1 : decode cX10_pull 1 = .ok (.ifCond .lt 10, 3) := by decide +kernel
theorem dX10_pull_4 : decode cX10_pull 4 = .ok (.iload_n 1, 1) := by decide +kernel
theorem dX10_pull_5 : decode cX10_pull 5 = .ok (.sipush 5000, 3) := by decide +kernel
theorem dX10_pull_8 : decode cX10_pull 8 = .ok (.if_icmp .le 5, 3) := by decide +kernel
theorem dX10_pull_11 : decode cX10_pull 11 = .ok (.iconst (-1), 1) := by decide +kernel
theorem dX10_pull_12 : decode cX10_pull 12 = .ok (.ireturn, 1) := by decide +kernel
theorem dX10_pull_13 : decode cX10_pull 13 = .ok (.aload_n 0, 1) := by decide +kernel
theorem dX10_pull_14 : decode cX10_pull 14 = .ok (.getfield 56, 3) := by decide +kernel
theorem dX10_pull_17 : decode cX10_pull 17 = .ok (.iconst 0, 1) := by decide +kernel
theorem dX10_pull_18 : decode cX10_pull 18 = .ok (.putfield 236, 3) := by decide +kernel
theorem dX10_pull_21 : decode cX10_pull 21 = .ok (.iconst 0, 1) := by decide +kernel
theorem dX10_pull_22 : decode cX10_pull 22 = .ok (.istore_n 2, 1) := by decide +kernel
theorem dX10_pull_23 : decode cX10_pull 23 = .ok (.iload_n 2, 1) := by decide +kernel
theorem dX10_pull_24 : decode cX10_pull 24 = .ok (.iload_n 1, 1) := by decide +kernel
theorem dX10_pull_25 : decode cX10_pull 25 = .ok (.if_icmp .ge 28, 3) := by decide +kernel
theorem dX10_pull_28 : decode cX10_pull 28 = .ok (.aload_n 0, 1) := by decide +kernel
theorem dX10_pull_29 : decode cX10_pull 29 = .ok (.getfield 63, 3) := by decide +kernel
theorem dX10_pull_32 : decode cX10_pull 32 = .ok (.aload_n 0, 1) := by decide +kernel
theorem dX10_pull_33 : decode cX10_pull 33 = .ok (.getfield 42, 3) := by decide +kernel
theorem dX10_pull_36 : decode cX10_pull 36 = .ok (.aload_n 0, 1) := by decide +kernel
theorem dX10_pull_37 : decode cX10_pull 37 = .ok (.getfield 56, 3) := by decide +kernel
theorem dX10_pull_40 : decode cX10_pull 40 = .ok (.aload_n 0, 1) := by decide +kernel
theorem dX10_pull_41 : decode cX10_pull 41 = .ok (.getfield 49, 3) := by decide +kernel
theorem dX10_pull_44 : decode cX10_pull 44 = .ok (.invokevirtual 257, 3) := by decide +kernel
theorem dX10_pull_47 : decode cX10_pull 47 = .ok (.iinc 2 1, 3) := by decide +kernel
theorem dX10_pull_50 : decode cX10_pull 50 = .ok (.goto (-27), 3) := by decide +kernel
theorem dX10_pull_53 : decode cX10_pull 53 = .ok (.aload_n 0, 1) := by decide +kernel
theorem dX10_pull_54 : decode cX10_pull 54 = .ok (.getfield 56, 3) := by decide +kernel
theorem dX10_pull_57 : decode cX10_pull 57 = .ok (.getfield 236, 3) := by decide +kernel
theorem dX10_pull_60 : decode cX10_pull 60 = .ok (.ireturn, 1) := by decide +kernel
theorem dX10_pullRun_0 : decode cX10_pullRun 0 = .ok (.iload_n 1, 1) := by decide +kernel
theorem dX10_pullRun_1 : decode cX10_pullRun 1 = .ok (.ifCond .lt 10, 3) := by decide +kernel
theorem dX10_pullRun_4 : decode cX10_pullRun 4 = .ok (.iload_n 1, 1) := by decide +kernel
theorem dX10_pullRun_5 : decode cX10_pullRun 5 = .ok (.sipush 5000, 3) := by decide +kernel
theorem dX10_pullRun_8 : decode cX10_pullRun 8 = .ok (.if_icmp .le 5, 3) := by decide +kernel
theorem dX10_pullRun_11 : decode cX10_pullRun 11 = .ok (.iconst (-1), 1) := by decide +kernel
theorem dX10_pullRun_12 : decode cX10_pullRun 12 = .ok (.ireturn, 1) := by decide +kernel
theorem dX10_pullRun_13 : decode cX10_pullRun 13 = .ok (.iconst 0, 1) := by decide +kernel
theorem dX10_pullRun_14 : decode cX10_pullRun 14 = .ok (.istore_n 2, 1) := by decide +kernel
theorem dX10_pullRun_15 : decode cX10_pullRun 15 = .ok (.iload_n 2, 1) := by decide +kernel
theorem dX10_pullRun_16 : decode cX10_pullRun 16 = .ok (.iload_n 1, 1) := by decide +kernel
theorem dX10_pullRun_17 : decode cX10_pullRun 17 = .ok (.if_icmp .ge 47, 3) := by decide +kernel
theorem dX10_pullRun_20 : decode cX10_pullRun 20 = .ok (.aload_n 0, 1) := by decide +kernel
theorem dX10_pullRun_21 : decode cX10_pullRun 21 = .ok (.getfield 56, 3) := by decide +kernel
theorem dX10_pullRun_24 : decode cX10_pullRun 24 = .ok (.getfield 173, 3) := by decide +kernel
theorem dX10_pullRun_27 : decode cX10_pullRun 27 = .ok (.aload_n 0, 1) := by decide +kernel
theorem dX10_pullRun_28 : decode cX10_pullRun 28 = .ok (.getfield 49, 3) := by decide +kernel
theorem dX10_pullRun_31 : decode cX10_pullRun 31 = .ok (.getfield 170, 3) := by decide +kernel
theorem dX10_pullRun_34 : decode cX10_pullRun 34 = .ok (.if_icmp .ne 5, 3) := by decide +kernel
theorem dX10_pullRun_37 : decode cX10_pullRun 37 = .ok (.iload_n 2, 1) := by decide +kernel
theorem dX10_pullRun_38 : decode cX10_pullRun 38 = .ok (.ireturn, 1) := by decide +kernel
theorem dX10_pullRun_39 : decode cX10_pullRun 39 = .ok (.aload_n 0, 1) := by decide +kernel
theorem dX10_pullRun_40 : decode cX10_pullRun 40 = .ok (.getfield 63, 3) := by decide +kernel
theorem dX10_pullRun_43 : decode cX10_pullRun 43 = .ok (.aload_n 0, 1) := by decide +kernel
theorem dX10_pullRun_44 : decode cX10_pullRun 44 = .ok (.getfield 42, 3) := by decide +kernel
theorem dX10_pullRun_47 : decode cX10_pullRun 47 = .ok (.aload_n 0, 1) := by decide +kernel
theorem dX10_pullRun_48 : decode cX10_pullRun 48 = .ok (.getfield 56, 3) := by decide +kernel
theorem dX10_pullRun_51 : decode cX10_pullRun 51 = .ok (.aload_n 0, 1) := by decide +kernel
theorem dX10_pullRun_52 : decode cX10_pullRun 52 = .ok (.getfield 49, 3) := by decide +kernel
theorem dX10_pullRun_55 : decode cX10_pullRun 55 = .ok (.invokevirtual 257, 3) := by decide +kernel
theorem dX10_pullRun_58 : decode cX10_pullRun 58 = .ok (.iinc 2 1, 3) := by decide +kernel
theorem dX10_pullRun_61 : decode cX10_pullRun 61 = .ok (.goto (-46), 3) := by decide +kernel
theorem dX10_pullRun_64 : decode cX10_pullRun 64 = .ok (.aload_n 0, 1) := by decide +kernel
theorem dX10_pullRun_65 : decode cX10_pullRun 65 = .ok (.getfield 56, 3) := by decide +kernel
theorem dX10_pullRun_68 : decode cX10_pullRun 68 = .ok (.getfield 173, 3) := by decide +kernel
theorem dX10_pullRun_71 : decode cX10_pullRun 71 = .ok (.aload_n 0, 1) := by decide +kernel
theorem dX10_pullRun_72 : decode cX10_pullRun 72 = .ok (.getfield 49, 3) := by decide +kernel
theorem dX10_pullRun_75 : decode cX10_pullRun 75 = .ok (.getfield 170, 3) := by decide +kernel
theorem dX10_pullRun_78 : decode cX10_pullRun 78 = .ok (.if_icmp .ne 7, 3) := by decide +kernel
theorem dX10_pullRun_81 : decode cX10_pullRun 81 = .ok (.iload_n 1, 1) := by decide +kernel
theorem dX10_pullRun_82 : decode cX10_pullRun 82 = .ok (.goto 5, 3) := by decide +kernel
theorem dX10_pullRun_85 : decode cX10_pullRun 85 = .ok (.bipush (-2), 2) := by decide +kernel
theorem dX10_pullRun_87 : decode cX10_pullRun 87 = .ok (.ireturn, 1) := by decide +kernel
theorem dX10_relays_0 : decode cX10_relays 0 = .ok (.aload_n 0, 1) := by decide +kernel
theorem dX10_relays_1 : decode cX10_relays 1 = .ok (.getfield 63, 3) := by decide +kernel
theorem dX10_relays_4 : decode cX10_relays 4 = .ok (.getfield 261, 3) := by decide +kernel
theorem dX10_relays_7 : decode cX10_relays 7 = .ok (.ireturn, 1) := by decide +kernel
theorem dX0_wouldStay_0 : decode cX0_wouldStay 0 = .ok (.aload_n 0, 1) := by decide +kernel
theorem dX0_wouldStay_1 : decode cX0_wouldStay 1 = .ok (.getfield 41, 3) := by decide +kernel
theorem dX0_wouldStay_4 : decode cX0_wouldStay 4 = .ok (.iconst 1, 1) := by decide +kernel
theorem dX0_wouldStay_5 : decode cX0_wouldStay 5 = .ok (.iload_n 3, 1) := by decide +kernel
theorem dX0_wouldStay_6 : decode cX0_wouldStay 6 = .ok (.ishl, 1) := by decide +kernel
theorem dX0_wouldStay_7 : decode cX0_wouldStay 7 = .ok (.ixor, 1) := by decide +kernel
theorem dX0_wouldStay_8 : decode cX0_wouldStay 8 = .ok (.aload_n 0, 1) := by decide +kernel
theorem dX0_wouldStay_9 : decode cX0_wouldStay 9 = .ok (.getfield 39, 3) := by decide +kernel
theorem dX0_wouldStay_12 : decode cX0_wouldStay 12 = .ok (.ior, 1) := by decide +kernel
theorem dX0_wouldStay_13 : decode cX0_wouldStay 13 = .ok (.istore 4, 2) := by decide +kernel
theorem dX0_wouldStay_15 : decode cX0_wouldStay 15 = .ok (.aload_n 1, 1) := by decide +kernel
theorem dX0_wouldStay_16 : decode cX0_wouldStay 16 = .ok (.iload_n 2, 1) := by decide +kernel
theorem dX0_wouldStay_17 : decode cX0_wouldStay 17 = .ok (.iload 4, 2) := by decide +kernel
theorem dX0_wouldStay_19 : decode cX0_wouldStay 19 = .ok (.invokevirtual 71, 3) := by decide +kernel
theorem dX0_wouldStay_22 : decode cX0_wouldStay 22 = .ok (.aload_n 0, 1) := by decide +kernel
theorem dX0_wouldStay_23 : decode cX0_wouldStay 23 = .ok (.getfield 41, 3) := by decide +kernel
theorem dX0_wouldStay_26 : decode cX0_wouldStay 26 = .ok (.iload_n 2, 1) := by decide +kernel
theorem dX0_wouldStay_27 : decode cX0_wouldStay 27 = .ok (.ishr, 1) := by decide +kernel
theorem dX0_wouldStay_28 : decode cX0_wouldStay 28 = .ok (.iconst 1, 1) := by decide +kernel
theorem dX0_wouldStay_29 : decode cX0_wouldStay 29 = .ok (.iand, 1) := by decide +kernel
theorem dX0_wouldStay_30 : decode cX0_wouldStay 30 = .ok (.if_icmp .ne 7, 3) := by decide +kernel
theorem dX0_wouldStay_33 : decode cX0_wouldStay 33 = .ok (.iconst 1, 1) := by decide +kernel
theorem dX0_wouldStay_34 : decode cX0_wouldStay 34 = .ok (.goto 4, 3) := by decide +kernel
theorem dX0_wouldStay_37 : decode cX0_wouldStay 37 = .ok (.iconst 0, 1) := by decide +kernel
theorem dX0_wouldStay_38 : decode cX0_wouldStay 38 = .ok (.ireturn, 1) := by decide +kernel
theorem dX0_raceOf_0 : decode cX0_raceOf 0 = .ok (.aload_n 0, 1) := by decide +kernel
theorem dX0_raceOf_1 : decode cX0_raceOf 1 = .ok (.aload_n 1, 1) := by decide +kernel
theorem dX0_raceOf_2 : decode cX0_raceOf 2 = .ok (.iload_n 2, 1) := by decide +kernel
theorem dX0_raceOf_3 : decode cX0_raceOf 3 = .ok (.iload_n 3, 1) := by decide +kernel
theorem dX0_raceOf_4 : decode cX0_raceOf 4 = .ok (.invokevirtual 67, 3) := by decide +kernel
theorem dX0_raceOf_7 : decode cX0_raceOf 7 = .ok (.ifCond .eq 10, 3) := by decide +kernel
theorem dX0_raceOf_10 : decode cX0_raceOf 10 = .ok (.bipush 32, 2) := by decide +kernel
theorem dX0_raceOf_12 : decode cX0_raceOf 12 = .ok (.iload_n 2, 1) := by decide +kernel
theorem dX0_raceOf_13 : decode cX0_raceOf 13 = .ok (.imul, 1) := by decide +kernel
theorem dX0_raceOf_14 : decode cX0_raceOf 14 = .ok (.iload_n 3, 1) := by decide +kernel
theorem dX0_raceOf_15 : decode cX0_raceOf 15 = .ok (.iadd, 1) := by decide +kernel
theorem dX0_raceOf_16 : decode cX0_raceOf 16 = .ok (.ireturn, 1) := by decide +kernel
theorem dX0_raceOf_17 : decode cX0_raceOf 17 = .ok (.aload_n 0, 1) := by decide +kernel
theorem dX0_raceOf_18 : decode cX0_raceOf 18 = .ok (.aload_n 1, 1) := by decide +kernel
theorem dX0_raceOf_19 : decode cX0_raceOf 19 = .ok (.iload_n 3, 1) := by decide +kernel
theorem dX0_raceOf_20 : decode cX0_raceOf 20 = .ok (.iload_n 2, 1) := by decide +kernel
theorem dX0_raceOf_21 : decode cX0_raceOf 21 = .ok (.invokevirtual 67, 3) := by decide +kernel
theorem dX0_raceOf_24 : decode cX0_raceOf 24 = .ok (.ifCond .eq 12, 3) := by decide +kernel
theorem dX0_raceOf_27 : decode cX0_raceOf 27 = .ok (.bipush 32, 2) := by decide +kernel
theorem dX0_raceOf_29 : decode cX0_raceOf 29 = .ok (.iload_n 3, 1) := by decide +kernel
theorem dX0_raceOf_30 : decode cX0_raceOf 30 = .ok (.imul, 1) := by decide +kernel
theorem dX0_raceOf_31 : decode cX0_raceOf 31 = .ok (.iload_n 2, 1) := by decide +kernel
theorem dX0_raceOf_32 : decode cX0_raceOf 32 = .ok (.iadd, 1) := by decide +kernel
theorem dX0_raceOf_33 : decode cX0_raceOf 33 = .ok (.goto 4, 3) := by decide +kernel
theorem dX0_raceOf_36 : decode cX0_raceOf 36 = .ok (.iconst (-1), 1) := by decide +kernel
theorem dX0_raceOf_37 : decode cX0_raceOf 37 = .ok (.ireturn, 1) := by decide +kernel
theorem dX0_firstRace_0 : decode cX0_firstRace 0 = .ok (.aload_n 0, 1) := by decide +kernel
theorem dX0_firstRace_1 : decode cX0_firstRace 1 = .ok (.getfield 21, 3) := by decide +kernel
theorem dX0_firstRace_4 : decode cX0_firstRace 4 = .ok (.ifCond .ne 5, 3) := by decide +kernel
theorem dX0_firstRace_7 : decode cX0_firstRace 7 = .ok (.iconst (-1), 1) := by decide +kernel
theorem dX0_firstRace_8 : decode cX0_firstRace 8 = .ok (.ireturn, 1) := by decide +kernel
theorem dX0_firstRace_9 : decode cX0_firstRace 9 = .ok (.aload_n 0, 1) := by decide +kernel
theorem dX0_firstRace_10 : decode cX0_firstRace 10 = .ok (.getfield 41, 3) := by decide +kernel
theorem dX0_firstRace_13 : decode cX0_firstRace 13 = .ok (.aload_n 0, 1) := by decide +kernel
theorem dX0_firstRace_14 : decode cX0_firstRace 14 = .ok (.getfield 50, 3) := by decide +kernel
theorem dX0_firstRace_17 : decode cX0_firstRace 17 = .ok (.ixor, 1) := by decide +kernel
theorem dX0_firstRace_18 : decode cX0_firstRace 18 = .ok (.istore_n 2, 1) := by decide +kernel
theorem dX0_firstRace_19 : decode cX0_firstRace 19 = .ok (.iconst 0, 1) := by decide +kernel
theorem dX0_firstRace_20 : decode cX0_firstRace 20 = .ok (.istore_n 3, 1) := by decide +kernel
theorem dX0_firstRace_21 : decode cX0_firstRace 21 = .ok (.iload_n 3, 1) := by decide +kernel
theorem dX0_firstRace_22 : decode cX0_firstRace 22 = .ok (.aload_n 1, 1) := by decide +kernel
theorem dX0_firstRace_23 : decode cX0_firstRace 23 = .ok (.getfield 60, 3) := by decide +kernel
theorem dX0_firstRace_26 : decode cX0_firstRace 26 = .ok (.if_icmp .ge 67, 3) := by decide +kernel
theorem dX0_firstRace_29 : decode cX0_firstRace 29 = .ok (.iload_n 3, 1) := by decide +kernel
theorem dX0_firstRace_30 : decode cX0_firstRace 30 = .ok (.iconst 1, 1) := by decide +kernel
theorem dX0_firstRace_31 : decode cX0_firstRace 31 = .ok (.iadd, 1) := by decide +kernel
theorem dX0_firstRace_32 : decode cX0_firstRace 32 = .ok (.istore 4, 2) := by decide +kernel
theorem dX0_firstRace_34 : decode cX0_firstRace 34 = .ok (.iload 4, 2) := by decide +kernel
theorem dX0_firstRace_36 : decode cX0_firstRace 36 = .ok (.aload_n 1, 1) := by decide +kernel
theorem dX0_firstRace_37 : decode cX0_firstRace 37 = .ok (.getfield 60, 3) := by decide +kernel
theorem dX0_firstRace_40 : decode cX0_firstRace 40 = .ok (.if_icmp .ge 47, 3) := by decide +kernel
theorem dX0_firstRace_43 : decode cX0_firstRace 43 = .ok (.iconst 1, 1) := by decide +kernel
theorem dX0_firstRace_44 : decode cX0_firstRace 44 = .ok (.iload_n 3, 1) := by decide +kernel
theorem dX0_firstRace_45 : decode cX0_firstRace 45 = .ok (.ishl, 1) := by decide +kernel
theorem dX0_firstRace_46 : decode cX0_firstRace 46 = .ok (.iconst 1, 1) := by decide +kernel
theorem dX0_firstRace_47 : decode cX0_firstRace 47 = .ok (.iload 4, 2) := by decide +kernel
theorem dX0_firstRace_49 : decode cX0_firstRace 49 = .ok (.ishl, 1) := by decide +kernel
theorem dX0_firstRace_50 : decode cX0_firstRace 50 = .ok (.ior, 1) := by decide +kernel
theorem dX0_firstRace_51 : decode cX0_firstRace 51 = .ok (.istore 5, 2) := by decide +kernel
theorem dX0_firstRace_53 : decode cX0_firstRace 53 = .ok (.iload_n 2, 1) := by decide +kernel
theorem dX0_firstRace_54 : decode cX0_firstRace 54 = .ok (.iload 5, 2) := by decide +kernel
theorem dX0_firstRace_56 : decode cX0_firstRace 56 = .ok (.iand, 1) := by decide +kernel
theorem dX0_firstRace_57 : decode cX0_firstRace 57 = .ok (.iload 5, 2) := by decide +kernel
theorem dX0_firstRace_59 : decode cX0_firstRace 59 = .ok (.if_icmp .ne 22, 3) := by decide +kernel
theorem dX0_firstRace_62 : decode cX0_firstRace 62 = .ok (.aload_n 0, 1) := by decide +kernel
theorem dX0_firstRace_63 : decode cX0_firstRace 63 = .ok (.aload_n 1, 1) := by decide +kernel
theorem dX0_firstRace_64 : decode cX0_firstRace 64 = .ok (.iload_n 3, 1) := by decide +kernel
theorem dX0_firstRace_65 : decode cX0_firstRace 65 = .ok (.iload 4, 2) := by decide +kernel
theorem dX0_firstRace_67 : decode cX0_firstRace 67 = .ok (.invokevirtual 63, 3) := by decide +kernel
theorem dX0_firstRace_70 : decode cX0_firstRace 70 = .ok (.istore 6, 2) := by decide +kernel
theorem dX0_firstRace_72 : decode cX0_firstRace 72 = .ok (.iload 6, 2) := by decide +kernel
theorem dX0_firstRace_74 : decode cX0_firstRace 74 = .ok (.iconst (-1), 1) := by decide +kernel
theorem dX0_firstRace_75 : decode cX0_firstRace 75 = .ok (.if_icmp .eq 6, 3) := by decide +kernel
theorem dX0_firstRace_78 : decode cX0_firstRace 78 = .ok (.iload 6, 2) := by decide +kernel
theorem dX0_firstRace_80 : decode cX0_firstRace 80 = .ok (.ireturn, 1) := by decide +kernel
theorem dX0_firstRace_81 : decode cX0_firstRace 81 = .ok (.iinc 4 1, 3) := by decide +kernel
theorem dX0_firstRace_84 : decode cX0_firstRace 84 = .ok (.goto (-50), 3) := by decide +kernel
theorem dX0_firstRace_87 : decode cX0_firstRace 87 = .ok (.iinc 3 1, 3) := by decide +kernel
theorem dX0_firstRace_90 : decode cX0_firstRace 90 = .ok (.goto (-69), 3) := by decide +kernel
theorem dX0_firstRace_93 : decode cX0_firstRace 93 = .ok (.iconst (-1), 1) := by decide +kernel
theorem dX0_firstRace_94 : decode cX0_firstRace 94 = .ok (.ireturn, 1) := by decide +kernel
theorem dX10_race_0 : decode cX10_race 0 = .ok (.aload_n 0, 1) := by decide +kernel
theorem dX10_race_1 : decode cX10_race 1 = .ok (.getfield 63, 3) := by decide +kernel
theorem dX10_race_4 : decode cX10_race 4 = .ok (.aload_n 0, 1) := by decide +kernel
theorem dX10_race_5 : decode cX10_race 5 = .ok (.getfield 42, 3) := by decide +kernel
theorem dX10_race_8 : decode cX10_race 8 = .ok (.invokevirtual 264, 3) := by decide +kernel
theorem dX10_race_11 : decode cX10_race 11 = .ok (.ireturn, 1) := by decide +kernel
theorem dX0_free_0 : decode cX0_free 0 = .ok (.iconst 1, 1) := by decide +kernel
theorem dX0_free_1 : decode cX0_free 1 = .ok (.iload_n 1, 1) := by decide +kernel
theorem dX0_free_2 : decode cX0_free 2 = .ok (.ishl, 1) := by decide +kernel
theorem dX0_free_3 : decode cX0_free 3 = .ok (.iconst (-1), 1) := by decide +kernel
theorem dX0_free_4 : decode cX0_free 4 = .ok (.ixor, 1) := by decide +kernel
theorem dX0_free_5 : decode cX0_free 5 = .ok (.istore_n 2, 1) := by decide +kernel
theorem dX0_free_6 : decode cX0_free 6 = .ok (.aload_n 0, 1) := by decide +kernel
theorem dX0_free_7 : decode cX0_free 7 = .ok (.dup, 1) := by decide +kernel
theorem dX0_free_8 : decode cX0_free 8 = .ok (.getfield 9, 3) := by decide +kernel
theorem dX0_free_11 : decode cX0_free 11 = .ok (.iload_n 2, 1) := by decide +kernel
theorem dX0_free_12 : decode cX0_free 12 = .ok (.iand, 1) := by decide +kernel
theorem dX0_free_13 : decode cX0_free 13 = .ok (.putfield 9, 3) := by decide +kernel
theorem dX0_free_16 : decode cX0_free 16 = .ok (.aload_n 0, 1) := by decide +kernel
theorem dX0_free_17 : decode cX0_free 17 = .ok (.dup, 1) := by decide +kernel
theorem dX0_free_18 : decode cX0_free 18 = .ok (.getfield 15, 3) := by decide +kernel
theorem dX0_free_21 : decode cX0_free 21 = .ok (.iload_n 2, 1) := by decide +kernel
theorem dX0_free_22 : decode cX0_free 22 = .ok (.iand, 1) := by decide +kernel
theorem dX0_free_23 : decode cX0_free 23 = .ok (.putfield 15, 3) := by decide +kernel
theorem dX0_free_26 : decode cX0_free 26 = .ok (.return_, 1) := by decide +kernel
theorem dX0_jam_0 : decode cX0_jam 0 = .ok (.iconst 1, 1) := by decide +kernel
theorem dX0_jam_1 : decode cX0_jam 1 = .ok (.iload_n 1, 1) := by decide +kernel
theorem dX0_jam_2 : decode cX0_jam 2 = .ok (.ishl, 1) := by decide +kernel
theorem dX0_jam_3 : decode cX0_jam 3 = .ok (.istore_n 3, 1) := by decide +kernel
theorem dX0_jam_4 : decode cX0_jam 4 = .ok (.aload_n 0, 1) := by decide +kernel
theorem dX0_jam_5 : decode cX0_jam 5 = .ok (.dup, 1) := by decide +kernel
theorem dX0_jam_6 : decode cX0_jam 6 = .ok (.getfield 9, 3) := by decide +kernel
theorem dX0_jam_9 : decode cX0_jam 9 = .ok (.iload_n 3, 1) := by decide +kernel
theorem dX0_jam_10 : decode cX0_jam 10 = .ok (.ior, 1) := by decide +kernel
theorem dX0_jam_11 : decode cX0_jam 11 = .ok (.putfield 9, 3) := by decide +kernel
theorem dX0_jam_14 : decode cX0_jam 14 = .ok (.aload_n 0, 1) := by decide +kernel
theorem dX0_jam_15 : decode cX0_jam 15 = .ok (.iload_n 2, 1) := by decide +kernel
theorem dX0_jam_16 : decode cX0_jam 16 = .ok (.ifCond .eq 12, 3) := by decide +kernel
theorem dX0_jam_19 : decode cX0_jam 19 = .ok (.aload_n 0, 1) := by decide +kernel
theorem dX0_jam_20 : decode cX0_jam 20 = .ok (.getfield 15, 3) := by decide +kernel
theorem dX0_jam_23 : decode cX0_jam 23 = .ok (.iload_n 3, 1) := by decide +kernel
theorem dX0_jam_24 : decode cX0_jam 24 = .ok (.ior, 1) := by decide +kernel
theorem dX0_jam_25 : decode cX0_jam 25 = .ok (.goto 11, 3) := by decide +kernel
theorem dX0_jam_28 : decode cX0_jam 28 = .ok (.aload_n 0, 1) := by decide +kernel
theorem dX0_jam_29 : decode cX0_jam 29 = .ok (.getfield 15, 3) := by decide +kernel
theorem dX0_jam_32 : decode cX0_jam 32 = .ok (.iload_n 3, 1) := by decide +kernel
theorem dX0_jam_33 : decode cX0_jam 33 = .ok (.iconst (-1), 1) := by decide +kernel
theorem dX0_jam_34 : decode cX0_jam 34 = .ok (.ixor, 1) := by decide +kernel
theorem dX0_jam_35 : decode cX0_jam 35 = .ok (.iand, 1) := by decide +kernel
theorem dX0_jam_36 : decode cX0_jam 36 = .ok (.putfield 15, 3) := by decide +kernel
theorem dX0_jam_39 : decode cX0_jam 39 = .ok (.aload_n 0, 1) := by decide +kernel
theorem dX0_jam_40 : decode cX0_jam 40 = .ok (.aload_n 0, 1) := by decide +kernel
theorem dX0_jam_41 : decode cX0_jam 41 = .ok (.getfield 18, 3) := by decide +kernel
theorem dX0_jam_44 : decode cX0_jam 44 = .ok (.invokevirtual 25, 3) := by decide +kernel
theorem dX0_jam_47 : decode cX0_jam 47 = .ok (.return_, 1) := by decide +kernel
theorem dX10_stick_0 : decode cX10_stick 0 = .ok (.iload_n 1, 1) := by decide +kernel
theorem dX10_stick_1 : decode cX10_stick 1 = .ok (.ifCond .lt 23, 3) := by decide +kernel
theorem dX10_stick_4 : decode cX10_stick 4 = .ok (.iload_n 1, 1) := by decide +kernel
theorem dX10_stick_5 : decode cX10_stick 5 = .ok (.aload_n 0, 1) := by decide +kernel
theorem dX10_stick_6 : decode cX10_stick 6 = .ok (.getfield 42, 3) := by decide +kernel
theorem dX10_stick_9 : decode cX10_stick 9 = .ok (.getfield 134, 3) := by decide +kernel
theorem dX10_stick_12 : decode cX10_stick 12 = .ok (.if_icmp .ge 12, 3) := by decide +kernel
theorem dX10_stick_15 : decode cX10_stick 15 = .ok (.iload_n 2, 1) := by decide +kernel
theorem dX10_stick_16 : decode cX10_stick 16 = .ok (.ifCond .lt 8, 3) := by decide +kernel
theorem dX10_stick_19 : decode cX10_stick 19 = .ok (.iload_n 2, 1) := by decide +kernel
theorem dX10_stick_20 : decode cX10_stick 20 = .ok (.iconst 2, 1) := by decide +kernel
theorem dX10_stick_21 : decode cX10_stick 21 = .ok (.if_icmp .le 5, 3) := by decide +kernel
theorem dX10_stick_24 : decode cX10_stick 24 = .ok (.iconst 0, 1) := by decide +kernel
theorem dX10_stick_25 : decode cX10_stick 25 = .ok (.ireturn, 1) := by decide +kernel
theorem dX10_stick_26 : decode cX10_stick 26 = .ok (.iload_n 2, 1) := by decide +kernel
theorem dX10_stick_27 : decode cX10_stick 27 = .ok (.iconst 2, 1) := by decide +kernel
theorem dX10_stick_28 : decode cX10_stick 28 = .ok (.if_icmp .ne 14, 3) := by decide +kernel
theorem dX10_stick_31 : decode cX10_stick 31 = .ok (.aload_n 0, 1) := by decide +kernel
theorem dX10_stick_32 : decode cX10_stick 32 = .ok (.getfield 63, 3) := by decide +kernel
theorem dX10_stick_35 : decode cX10_stick 35 = .ok (.iload_n 1, 1) := by decide +kernel
theorem dX10_stick_36 : decode cX10_stick 36 = .ok (.invokevirtual 268, 3) := by decide +kernel
theorem dX10_stick_39 : decode cX10_stick 39 = .ok (.goto 21, 3) := by decide +kernel
theorem dX10_stick_42 : decode cX10_stick 42 = .ok (.aload_n 0, 1) := by decide +kernel
theorem dX10_stick_43 : decode cX10_stick 43 = .ok (.getfield 63, 3) := by decide +kernel
theorem dX10_stick_46 : decode cX10_stick 46 = .ok (.iload_n 1, 1) := by decide +kernel
theorem dX10_stick_47 : decode cX10_stick 47 = .ok (.iload_n 2, 1) := by decide +kernel
theorem dX10_stick_48 : decode cX10_stick 48 = .ok (.iconst 1, 1) := by decide +kernel
theorem dX10_stick_49 : decode cX10_stick 49 = .ok (.if_icmp .ne 7, 3) := by decide +kernel
theorem dX10_stick_52 : decode cX10_stick 52 = .ok (.iconst 1, 1) := by decide +kernel
theorem dX10_stick_53 : decode cX10_stick 53 = .ok (.goto 4, 3) := by decide +kernel
theorem dX10_stick_56 : decode cX10_stick 56 = .ok (.iconst 0, 1) := by decide +kernel
theorem dX10_stick_57 : decode cX10_stick 57 = .ok (.invokevirtual 271, 3) := by decide +kernel
theorem dX10_stick_60 : decode cX10_stick 60 = .ok (.iconst 1, 1) := by decide +kernel
theorem dX10_stick_61 : decode cX10_stick 61 = .ok (.ireturn, 1) := by decide +kernel
theorem dX10_stuck_0 : decode cX10_stuck 0 = .ok (.aload_n 0, 1) := by decide +kernel
theorem dX10_stuck_1 : decode cX10_stuck 1 = .ok (.getfield 63, 3) := by decide +kernel
theorem dX10_stuck_4 : decode cX10_stuck 4 = .ok (.getfield 275, 3) := by decide +kernel
theorem dX10_stuck_7 : decode cX10_stuck 7 = .ok (.ireturn, 1) := by decide +kernel
theorem dX2_isLength_0 : decode cX2_isLength 0 = .ok (.iload_n 0, 1) := by decide +kernel
theorem dX2_isLength_1 : decode cX2_isLength 1 = .ok (.iconst 1, 1) := by decide +kernel
theorem dX2_isLength_2 : decode cX2_isLength 2 = .ok (.if_icmp .lt 14, 3) := by decide +kernel
theorem dX2_isLength_5 : decode cX2_isLength 5 = .ok (.iload_n 0, 1) := by decide +kernel
