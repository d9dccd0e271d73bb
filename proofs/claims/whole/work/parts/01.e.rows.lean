theorem dX7_init_0 : decode cX7_init 0 = .ok (.aload_n 0, 1) := by decide +kernel
theorem dX7_init_1 : decode cX7_init 1 = .ok (.invokespecial 1, 3) := by decide +kernel
theorem dX7_init_4 : decode cX7_init 4 = .ok (.aload_n 0, 1) := by decide +kernel
theorem dX7_init_5 : decode cX7_init 5 = .ok (.bipush 30, 2) := by decide +kernel
theorem dX7_init_7 : decode cX7_init 7 = .ok (.newarray .int, 2) := by decide +kernel
theorem dX7_init_9 : decode cX7_init 9 = .ok (.putfield 7, 3) := by decide +kernel
theorem dX7_init_12 : decode cX7_init 12 = .ok (.aload_n 0, 1) := by decide +kernel
theorem dX7_init_13 : decode cX7_init 13 = .ok (.bipush 30, 2) := by decide +kernel
theorem dX7_init_15 : decode cX7_init 15 = .ok (.newarray .int, 2) := by decide +kernel
theorem dX7_init_17 : decode cX7_init 17 = .ok (.putfield 13, 3) := by decide +kernel
theorem dX7_init_20 : decode cX7_init 20 = .ok (.aload_n 0, 1) := by decide +kernel
theorem dX7_init_21 : decode cX7_init 21 = .ok (.bipush 30, 2) := by decide +kernel
theorem dX7_init_23 : decode cX7_init 23 = .ok (.newarray .int, 2) := by decide +kernel
theorem dX7_init_25 : decode cX7_init 25 = .ok (.putfield 16, 3) := by decide +kernel
theorem dX7_init_28 : decode cX7_init 28 = .ok (.aload_n 0, 1) := by decide +kernel
theorem dX7_init_29 : decode cX7_init 29 = .ok (.sipush 240, 3) := by decide +kernel
theorem dX7_init_32 : decode cX7_init 32 = .ok (.newarray .int, 2) := by decide +kernel
theorem dX7_init_34 : decode cX7_init 34 = .ok (.putfield 19, 3) := by decide +kernel
theorem dX7_init_37 : decode cX7_init 37 = .ok (.aload_n 0, 1) := by decide +kernel
theorem dX7_init_38 : decode cX7_init 38 = .ok (.bipush 60, 2) := by decide +kernel
theorem dX7_init_40 : decode cX7_init 40 = .ok (.newarray .int, 2) := by decide +kernel
theorem dX7_init_42 : decode cX7_init 42 = .ok (.putfield 22, 3) := by decide +kernel
theorem dX7_init_45 : decode cX7_init 45 = .ok (.aload_n 0, 1) := by decide +kernel
theorem dX7_init_46 : decode cX7_init 46 = .ok (.sipush 200, 3) := by decide +kernel
theorem dX7_init_49 : decode cX7_init 49 = .ok (.newarray .int, 2) := by decide +kernel
theorem dX7_init_51 : decode cX7_init 51 = .ok (.putfield 25, 3) := by decide +kernel
theorem dX7_init_54 : decode cX7_init 54 = .ok (.aload_n 0, 1) := by decide +kernel
theorem dX7_init_55 : decode cX7_init 55 = .ok (.sipush 240, 3) := by decide +kernel
theorem dX7_init_58 : decode cX7_init 58 = .ok (.newarray .int, 2) := by decide +kernel
theorem dX7_init_60 : decode cX7_init 60 = .ok (.putfield 28, 3) := by decide +kernel
theorem dX7_init_63 : decode cX7_init 63 = .ok (.aload_n 0, 1) := by decide +kernel
theorem dX7_init_64 : decode cX7_init 64 = .ok (.sipush 897, 3) := by decide +kernel
theorem dX7_init_67 : decode cX7_init 67 = .ok (.newarray .int, 2) := by decide +kernel
theorem dX7_init_69 : decode cX7_init 69 = .ok (.putfield 31, 3) := by decide +kernel
theorem dX7_init_72 : decode cX7_init 72 = .ok (.aload_n 0, 1) := by decide +kernel
theorem dX7_init_73 : decode cX7_init 73 = .ok (.sipush 448, 3) := by decide +kernel
theorem dX7_init_76 : decode cX7_init 76 = .ok (.newarray .int, 2) := by decide +kernel
theorem dX7_init_78 : decode cX7_init 78 = .ok (.putfield 34, 3) := by decide +kernel
theorem dX7_init_81 : decode cX7_init 81 = .ok (.aload_n 0, 1) := by decide +kernel
theorem dX7_init_82 : decode cX7_init 82 = .ok (.bipush 21, 2) := by decide +kernel
theorem dX7_init_84 : decode cX7_init 84 = .ok (.newarray .int, 2) := by decide +kernel
theorem dX7_init_86 : decode cX7_init 86 = .ok (.putfield 37, 3) := by decide +kernel
theorem dX7_init_89 : decode cX7_init 89 = .ok (.aload_n 0, 1) := by decide +kernel
theorem dX7_init_90 : decode cX7_init 90 = .ok (.sipush 16384, 3) := by decide +kernel
theorem dX7_init_93 : decode cX7_init 93 = .ok (.newarray .int, 2) := by decide +kernel
theorem dX7_init_95 : decode cX7_init 95 = .ok (.putfield 40, 3) := by decide +kernel
theorem dX7_init_98 : decode cX7_init 98 = .ok (.aload_n 0, 1) := by decide +kernel
theorem dX7_init_99 : decode cX7_init 99 = .ok (.sipush 448, 3) := by decide +kernel
theorem dX7_init_102 : decode cX7_init 102 = .ok (.newarray .int, 2) := by decide +kernel
theorem dX7_init_104 : decode cX7_init 104 = .ok (.putfield 43, 3) := by decide +kernel
theorem dX7_init_107 : decode cX7_init 107 = .ok (.aload_n 0, 1) := by decide +kernel
theorem dX7_init_108 : decode cX7_init 108 = .ok (.invokevirtual 46, 3) := by decide +kernel
theorem dX7_init_111 : decode cX7_init 111 = .ok (.aload_n 0, 1) := by decide +kernel
theorem dX7_init_112 : decode cX7_init 112 = .ok (.getfield 13, 3) := by decide +kernel
theorem dX7_init_115 : decode cX7_init 115 = .ok (.iconst 0, 1) := by decide +kernel
theorem dX7_init_116 : decode cX7_init 116 = .ok (.aload_n 0, 1) := by decide +kernel
theorem dX7_init_117 : decode cX7_init 117 = .ok (.getfield 7, 3) := by decide +kernel
theorem dX7_init_120 : decode cX7_init 120 = .ok (.iconst 0, 1) := by decide +kernel
theorem dX7_init_121 : decode cX7_init 121 = .ok (.invokestatic 49, 3) := by decide +kernel
theorem dX7_init_124 : decode cX7_init 124 = .ok (.return_, 1) := by decide +kernel
theorem dX7_begins_0 : decode cX7_begins 0 = .ok (.aload_n 0, 1) := by decide +kernel
theorem dX7_begins_1 : decode cX7_begins 1 = .ok (.getfield 13, 3) := by decide +kernel
theorem dX7_begins_4 : decode cX7_begins 4 = .ok (.iconst 0, 1) := by decide +kernel
theorem dX7_begins_5 : decode cX7_begins 5 = .ok (.iconst 2, 1) := by decide +kernel
theorem dX7_begins_6 : decode cX7_begins 6 = .ok (.invokestatic 53, 3) := by decide +kernel
theorem dX7_begins_9 : decode cX7_begins 9 = .ok (.pop, 1) := by decide +kernel
theorem dX7_begins_10 : decode cX7_begins 10 = .ok (.aload_n 0, 1) := by decide +kernel
theorem dX7_begins_11 : decode cX7_begins 11 = .ok (.getfield 13, 3) := by decide +kernel
theorem dX7_begins_14 : decode cX7_begins 14 = .ok (.iconst 1, 1) := by decide +kernel
theorem dX7_begins_15 : decode cX7_begins 15 = .ok (.iconst 4, 1) := by decide +kernel
theorem dX7_begins_16 : decode cX7_begins 16 = .ok (.invokestatic 53, 3) := by decide +kernel
theorem dX7_begins_19 : decode cX7_begins 19 = .ok (.pop, 1) := by decide +kernel
theorem dX7_begins_20 : decode cX7_begins 20 = .ok (.aload_n 0, 1) := by decide +kernel
theorem dX7_begins_21 : decode cX7_begins 21 = .ok (.getfield 13, 3) := by decide +kernel
theorem dX7_begins_24 : decode cX7_begins 24 = .ok (.iconst 2, 1) := by decide +kernel
theorem dX7_begins_25 : decode cX7_begins 25 = .ok (.iconst 5, 1) := by decide +kernel
theorem dX7_begins_26 : decode cX7_begins 26 = .ok (.invokestatic 53, 3) := by decide +kernel
theorem dX7_begins_29 : decode cX7_begins 29 = .ok (.pop, 1) := by decide +kernel
theorem dX7_begins_30 : decode cX7_begins 30 = .ok (.aload_n 0, 1) := by decide +kernel
theorem dX7_begins_31 : decode cX7_begins 31 = .ok (.getfield 13, 3) := by decide +kernel
theorem dX7_begins_34 : decode cX7_begins 34 = .ok (.iconst 4, 1) := by decide +kernel
theorem dX7_begins_35 : decode cX7_begins 35 = .ok (.iconst 4, 1) := by decide +kernel
theorem dX7_begins_36 : decode cX7_begins 36 = .ok (.invokestatic 53, 3) := by decide +kernel
theorem dX7_begins_39 : decode cX7_begins 39 = .ok (.pop, 1) := by decide +kernel
theorem dX7_begins_40 : decode cX7_begins 40 = .ok (.aload_n 0, 1) := by decide +kernel
theorem dX7_begins_41 : decode cX7_begins 41 = .ok (.getfield 13, 3) := by decide +kernel
theorem dX7_begins_44 : decode cX7_begins 44 = .ok (.iconst 5, 1) := by decide +kernel
theorem dX7_begins_45 : decode cX7_begins 45 = .ok (.bipush 6, 2) := by decide +kernel
theorem dX7_begins_47 : decode cX7_begins 47 = .ok (.invokestatic 53, 3) := by decide +kernel
theorem dX7_begins_50 : decode cX7_begins 50 = .ok (.pop, 1) := by decide +kernel
theorem dX7_begins_51 : decode cX7_begins 51 = .ok (.aload_n 0, 1) := by decide +kernel
theorem dX7_begins_52 : decode cX7_begins 52 = .ok (.getfield 13, 3) := by decide +kernel
theorem dX7_begins_55 : decode cX7_begins 55 = .ok (.bipush 6, 2) := by decide +kernel
theorem dX7_begins_57 : decode cX7_begins 57 = .ok (.bipush 7, 2) := by decide +kernel
theorem dX7_begins_59 : decode cX7_begins 59 = .ok (.invokestatic 53, 3) := by decide +kernel
theorem dX7_begins_62 : decode cX7_begins 62 = .ok (.pop, 1) := by decide +kernel
theorem dX7_begins_63 : decode cX7_begins 63 = .ok (.aload_n 0, 1) := by decide +kernel
theorem dX7_begins_64 : decode cX7_begins 64 = .ok (.getfield 13, 3) := by decide +kernel
theorem dX7_begins_67 : decode cX7_begins 67 = .ok (.bipush 8, 2) := by decide +kernel
theorem dX7_begins_69 : decode cX7_begins 69 = .ok (.iconst 2, 1) := by decide +kernel
theorem dX7_begins_70 : decode cX7_begins 70 = .ok (.invokestatic 53, 3) := by decide +kernel
theorem dX7_begins_73 : decode cX7_begins 73 = .ok (.pop, 1) := by decide +kernel
theorem dX7_begins_74 : decode cX7_begins 74 = .ok (.aload_n 0, 1) := by decide +kernel
theorem dX7_begins_75 : decode cX7_begins 75 = .ok (.getfield 13, 3) := by decide +kernel
theorem dX7_begins_78 : decode cX7_begins 78 = .ok (.bipush 9, 2) := by decide +kernel
theorem dX7_begins_80 : decode cX7_begins 80 = .ok (.iconst 4, 1) := by decide +kernel
theorem dX7_begins_81 : decode cX7_begins 81 = .ok (.invokestatic 53, 3) := by decide +kernel
theorem dX7_begins_84 : decode cX7_begins 84 = .ok (.pop, 1) := by decide +kernel
theorem dX7_begins_85 : decode cX7_begins 85 = .ok (.aload_n 0, 1) := by decide +kernel
theorem dX7_begins_86 : decode cX7_begins 86 = .ok (.getfield 13, 3) := by decide +kernel
theorem dX7_begins_89 : decode cX7_begins 89 = .ok (.bipush 10, 2) := by decide +kernel
theorem dX7_begins_91 : decode cX7_begins 91 = .ok (.bipush 6, 2) := by decide +kernel
theorem dX7_begins_93 : decode cX7_begins 93 = .ok (.invokestatic 53, 3) := by decide +kernel
theorem dX7_begins_96 : decode cX7_begins 96 = .ok (.pop, 1) := by decide +kernel
theorem dX7_begins_97 : decode cX7_begins 97 = .ok (.aload_n 0, 1) := by decide +kernel
theorem dX7_begins_98 : decode cX7_begins 98 = .ok (.getfield 13, 3) := by decide +kernel
theorem dX7_begins_101 : decode cX7_begins 101 = .ok (.bipush 12, 2) := by decide +kernel
theorem dX7_begins_103 : decode cX7_begins 103 = .ok (.iconst 0, 1) := by decide +kernel
theorem dX7_begins_104 : decode cX7_begins 104 = .ok (.invokestatic 53, 3) := by decide +kernel
theorem dX7_begins_107 : decode cX7_begins 107 = .ok (.pop, 1) := by decide +kernel
theorem dX7_begins_108 : decode cX7_begins 108 = .ok (.aload_n 0, 1) := by decide +kernel
theorem dX7_begins_109 : decode cX7_begins 109 = .ok (.getfield 13, 3) := by decide +kernel
theorem dX7_begins_112 : decode cX7_begins 112 = .ok (.bipush 13, 2) := by decide +kernel
theorem dX7_begins_114 : decode cX7_begins 114 = .ok (.iconst 2, 1) := by decide +kernel
theorem dX7_begins_115 : decode cX7_begins 115 = .ok (.invokestatic 53, 3) := by decide +kernel
theorem dX7_begins_118 : decode cX7_begins 118 = .ok (.pop, 1) := by decide +kernel
theorem dX7_begins_119 : decode cX7_begins 119 = .ok (.aload_n 0, 1) := by decide +kernel
theorem dX7_begins_120 : decode cX7_begins 120 = .ok (.getfield 13, 3) := by decide +kernel
theorem dX7_begins_123 : decode cX7_begins 123 = .ok (.bipush 14, 2) := by decide +kernel
theorem dX7_begins_125 : decode cX7_begins 125 = .ok (.iconst 3, 1) := by decide +kernel
theorem dX7_begins_126 : decode cX7_begins 126 = .ok (.invokestatic 53, 3) := by decide +kernel
theorem dX7_begins_129 : decode cX7_begins 129 = .ok (.pop, 1) := by decide +kernel
theorem dX7_begins_130 : decode cX7_begins 130 = .ok (.aload_n 0, 1) := by decide +kernel
theorem dX7_begins_131 : decode cX7_begins 131 = .ok (.getfield 13, 3) := by decide +kernel
theorem dX7_begins_134 : decode cX7_begins 134 = .ok (.bipush 15, 2) := by decide +kernel
theorem dX7_begins_136 : decode cX7_begins 136 = .ok (.bipush 11, 2) := by decide +kernel
theorem dX7_begins_138 : decode cX7_begins 138 = .ok (.invokestatic 53, 3) := by decide +kernel
theorem dX7_begins_141 : decode cX7_begins 141 = .ok (.pop, 1) := by decide +kernel
theorem dX7_begins_142 : decode cX7_begins 142 = .ok (.return_, 1) := by decide +kernel
theorem dX7_in_0 : decode cX7_in 0 = .ok (.iload_n 0, 1) := by decide +kernel
theorem dX7_in_1 : decode cX7_in 1 = .ok (.iload_n 1, 1) := by decide +kernel
theorem dX7_in_2 : decode cX7_in 2 = .ok (.if_icmp .lt 12, 3) := by decide +kernel
theorem dX7_in_5 : decode cX7_in 5 = .ok (.iload_n 0, 1) := by decide +kernel
theorem dX7_in_6 : decode cX7_in 6 = .ok (.iload_n 2, 1) := by decide +kernel
theorem dX7_in_7 : decode cX7_in 7 = .ok (.if_icmp .gt 7, 3) := by decide +kernel
theorem dX7_in_10 : decode cX7_in 10 = .ok (.iconst 1, 1) := by decide +kernel
theorem dX7_in_11 : decode cX7_in 11 = .ok (.goto 4, 3) := by decide +kernel
theorem dX7_in_14 : decode cX7_in 14 = .ok (.iconst 0, 1) := by decide +kernel
theorem dX7_in_15 : decode cX7_in 15 = .ok (.ireturn, 1) := by decide +kernel
theorem dX7_has_0 : decode cX7_has 0 = .ok (.iload_n 0, 1) := by decide +kernel
theorem dX7_has_1 : decode cX7_has 1 = .ok (.iload_n 1, 1) := by decide +kernel
theorem dX7_has_2 : decode cX7_has 2 = .ok (.ishr, 1) := by decide +kernel
theorem dX7_has_3 : decode cX7_has 3 = .ok (.iconst 1, 1) := by decide +kernel
theorem dX7_has_4 : decode cX7_has 4 = .ok (.iand, 1) := by decide +kernel
theorem dX7_has_5 : decode cX7_has 5 = .ok (.iconst 1, 1) := by decide +kernel
theorem dX7_has_6 : decode cX7_has 6 = .ok (.if_icmp .ne 7, 3) := by decide +kernel
theorem dX7_has_9 : decode cX7_has 9 = .ok (.iconst 1, 1) := by decide +kernel
theorem dX7_has_10 : decode cX7_has 10 = .ok (.goto 4, 3) := by decide +kernel
theorem dX7_has_13 : decode cX7_has 13 = .ok (.iconst 0, 1) := by decide +kernel
theorem dX7_has_14 : decode cX7_has 14 = .ok (.ireturn, 1) := by decide +kernel
theorem dX7_bits_0 : decode cX7_bits 0 = .ok (.iconst 0, 1) := by decide +kernel
theorem dX7_bits_1 : decode cX7_bits 1 = .ok (.istore_n 1, 1) := by decide +kernel
theorem dX7_bits_2 : decode cX7_bits 2 = .ok (.iload_n 0, 1) := by decide +kernel
theorem dX7_bits_3 : decode cX7_bits 3 = .ok (.istore_n 2, 1) := by decide +kernel
theorem dX7_bits_4 : decode cX7_bits 4 = .ok (.iload_n 2, 1) := by decide +kernel
theorem dX7_bits_5 : decode cX7_bits 5 = .ok (.ifCond .eq 15, 3) := by decide +kernel
theorem dX7_bits_8 : decode cX7_bits 8 = .ok (.iinc 1 1, 3) := by decide +kernel
theorem dX7_bits_11 : decode cX7_bits 11 = .ok (.iload_n 2, 1) := by decide +kernel
theorem dX7_bits_12 : decode cX7_bits 12 = .ok (.iload_n 2, 1) := by decide +kernel
theorem dX7_bits_13 : decode cX7_bits 13 = .ok (.iconst 1, 1) := by decide +kernel
theorem dX7_bits_14 : decode cX7_bits 14 = .ok (.isub, 1) := by decide +kernel
theorem dX7_bits_15 : decode cX7_bits 15 = .ok (.iand, 1) := by decide +kernel
theorem dX7_bits_16 : decode cX7_bits 16 = .ok (.istore_n 2, 1) := by decide +kernel
theorem dX7_bits_17 : decode cX7_bits 17 = .ok (.goto (-13), 3) := by decide +kernel
theorem dX7_bits_20 : decode cX7_bits 20 = .ok (.iload_n 1, 1) := by decide +kernel
theorem dX7_bits_21 : decode cX7_bits 21 = .ok (.ireturn, 1) := by decide +kernel
theorem dX7_copies_0 : decode cX7_copies 0 = .ok (.iconst 0, 1) := by decide +kernel
theorem dX7_copies_1 : decode cX7_copies 1 = .ok (.istore 4, 2) := by decide +kernel
theorem dX7_copies_3 : decode cX7_copies 3 = .ok (.iload 4, 2) := by decide +kernel
theorem dX7_copies_5 : decode cX7_copies 5 = .ok (.bipush 30, 2) := by decide +kernel
theorem dX7_copies_7 : decode cX7_copies 7 = .ok (.if_icmp .ge 21, 3) := by decide +kernel
theorem dX7_copies_10 : decode cX7_copies 10 = .ok (.aload_n 2, 1) := by decide +kernel
theorem dX7_copies_11 : decode cX7_copies 11 = .ok (.iload_n 3, 1) := by decide +kernel
theorem dX7_copies_12 : decode cX7_copies 12 = .ok (.iload 4, 2) := by decide +kernel
theorem dX7_copies_14 : decode cX7_copies 14 = .ok (.iadd, 1) := by decide +kernel
theorem dX7_copies_15 : decode cX7_copies 15 = .ok (.aload_n 0, 1) := by decide +kernel
theorem dX7_copies_16 : decode cX7_copies 16 = .ok (.iload_n 1, 1) := by decide +kernel
theorem dX7_copies_17 : decode cX7_copies 17 = .ok (.iload 4, 2) := by decide +kernel
theorem dX7_copies_19 : decode cX7_copies 19 = .ok (.iadd, 1) := by decide +kernel
theorem dX7_copies_20 : decode cX7_copies 20 = .ok (.iaload, 1) := by decide +kernel
theorem dX7_copies_21 : decode cX7_copies 21 = .ok (.iastore, 1) := by decide +kernel
theorem dX7_copies_22 : decode cX7_copies 22 = .ok (.iinc 4 1, 3) := by decide +kernel
theorem dX7_copies_25 : decode cX7_copies 25 = .ok (.goto (-22), 3) := by decide +kernel
theorem dX7_copies_28 : decode cX7_copies 28 = .ok (.return_, 1) := by decide +kernel
theorem dX7_numberOf_0 : decode cX7_numberOf 0 = .ok (.iconst 0, 1) := by decide +kernel
theorem dX7_numberOf_1 : decode cX7_numberOf 1 = .ok (.istore_n 3, 1) := by decide +kernel
theorem dX7_numberOf_2 : decode cX7_numberOf 2 = .ok (.iload_n 3, 1) := by decide +kernel
theorem dX7_numberOf_3 : decode cX7_numberOf 3 = .ok (.aload_n 0, 1) := by decide +kernel
theorem dX7_numberOf_4 : decode cX7_numberOf 4 = .ok (.iconst 0, 1) := by decide +kernel
theorem dX7_numberOf_5 : decode cX7_numberOf 5 = .ok (.iaload, 1) := by decide +kernel
theorem dX7_numberOf_6 : decode cX7_numberOf 6 = .ok (.if_icmp .ge 30, 3) := by decide +kernel
theorem dX7_numberOf_9 : decode cX7_numberOf 9 = .ok (.aload_n 0, 1) := by decide +kernel
theorem dX7_numberOf_10 : decode cX7_numberOf 10 = .ok (.iconst 2, 1) := by decide +kernel
theorem dX7_numberOf_11 : decode cX7_numberOf 11 = .ok (.iload_n 3, 1) := by decide +kernel
theorem dX7_numberOf_12 : decode cX7_numberOf 12 = .ok (.iadd, 1) := by decide +kernel
theorem dX7_numberOf_13 : decode cX7_numberOf 13 = .ok (.iaload, 1) := by decide +kernel
theorem dX7_numberOf_14 : decode cX7_numberOf 14 = .ok (.iload_n 1, 1) := by decide +kernel
theorem dX7_numberOf_15 : decode cX7_numberOf 15 = .ok (.if_icmp .ne 15, 3) := by decide +kernel
theorem dX7_numberOf_18 : decode cX7_numberOf 18 = .ok (.aload_n 0, 1) := by decide +kernel
theorem dX7_numberOf_19 : decode cX7_numberOf 19 = .ok (.bipush 16, 2) := by decide +kernel
theorem dX7_numberOf_21 : decode cX7_numberOf 21 = .ok (.iload_n 3, 1) := by decide +kernel
theorem dX7_numberOf_22 : decode cX7_numberOf 22 = .ok (.iadd, 1) := by decide +kernel
theorem dX7_numberOf_23 : decode cX7_numberOf 23 = .ok (.iaload, 1) := by decide +kernel
theorem dX7_numberOf_24 : decode cX7_numberOf 24 = .ok (.iload_n 2, 1) := by decide +kernel
theorem dX7_numberOf_25 : decode cX7_numberOf 25 = .ok (.if_icmp .ne 5, 3) := by decide +kernel
theorem dX7_numberOf_28 : decode cX7_numberOf 28 = .ok (.iload_n 3, 1) := by decide +kernel
theorem dX7_numberOf_29 : decode cX7_numberOf 29 = .ok (.ireturn, 1) := by decide +kernel
theorem dX7_numberOf_30 : decode cX7_numberOf 30 = .ok (.iinc 3 1, 3) := by decide +kernel
theorem dX7_numberOf_33 : decode cX7_numberOf 33 = .ok (.goto (-31), 3) := by decide +kernel
theorem dX7_numberOf_36 : decode cX7_numberOf 36 = .ok (.bipush (-4), 2) := by decide +kernel
theorem dX7_numberOf_38 : decode cX7_numberOf 38 = .ok (.ireturn, 1) := by decide +kernel
theorem dX7_puts_0 : decode cX7_puts 0 = .ok (.aload_n 0, 1) := by decide +kernel
theorem dX7_puts_1 : decode cX7_puts 1 = .ok (.iconst 0, 1) := by decide +kernel
theorem dX7_puts_2 : decode cX7_puts 2 = .ok (.iaload, 1) := by decide +kernel
theorem dX7_puts_3 : decode cX7_puts 3 = .ok (.istore_n 3, 1) := by decide +kernel
theorem dX7_puts_4 : decode cX7_puts 4 = .ok (.iload_n 3, 1) := by decide +kernel
theorem dX7_puts_5 : decode cX7_puts 5 = .ok (.ifCond .le 69, 3) := by decide +kernel
theorem dX7_puts_8 : decode cX7_puts 8 = .ok (.aload_n 0, 1) := by decide +kernel
theorem dX7_puts_9 : decode cX7_puts 9 = .ok (.iconst 2, 1) := by decide +kernel
theorem dX7_puts_10 : decode cX7_puts 10 = .ok (.iload_n 3, 1) := by decide +kernel
theorem dX7_puts_11 : decode cX7_puts 11 = .ok (.iadd, 1) := by decide +kernel
theorem dX7_puts_12 : decode cX7_puts 12 = .ok (.iconst 1, 1) := by decide +kernel
theorem dX7_puts_13 : decode cX7_puts 13 = .ok (.isub, 1) := by decide +kernel
theorem dX7_puts_14 : decode cX7_puts 14 = .ok (.iaload, 1) := by decide +kernel
theorem dX7_puts_15 : decode cX7_puts 15 = .ok (.iload_n 1, 1) := by decide +kernel
theorem dX7_puts_16 : decode cX7_puts 16 = .ok (.if_icmp .gt 26, 3) := by decide +kernel
theorem dX7_puts_19 : decode cX7_puts 19 = .ok (.aload_n 0, 1) := by decide +kernel
theorem dX7_puts_20 : decode cX7_puts 20 = .ok (.iconst 2, 1) := by decide +kernel
theorem dX7_puts_21 : decode cX7_puts 21 = .ok (.iload_n 3, 1) := by decide +kernel
theorem dX7_puts_22 : decode cX7_puts 22 = .ok (.iadd, 1) := by decide +kernel
theorem dX7_puts_23 : decode cX7_puts 23 = .ok (.iconst 1, 1) := by decide +kernel
theorem dX7_puts_24 : decode cX7_puts 24 = .ok (.isub, 1) := by decide +kernel
theorem dX7_puts_25 : decode cX7_puts 25 = .ok (.iaload, 1) := by decide +kernel
theorem dX7_puts_26 : decode cX7_puts 26 = .ok (.iload_n 1, 1) := by decide +kernel
theorem dX7_puts_27 : decode cX7_puts 27 = .ok (.if_icmp .ne 47, 3) := by decide +kernel
theorem dX7_puts_30 : decode cX7_puts 30 = .ok (.aload_n 0, 1) := by decide +kernel
theorem dX7_puts_31 : decode cX7_puts 31 = .ok (.bipush 16, 2) := by decide +kernel
theorem dX7_puts_33 : decode cX7_puts 33 = .ok (.iload_n 3, 1) := by decide +kernel
theorem dX7_puts_34 : decode cX7_puts 34 = .ok (.iadd, 1) := by decide +kernel
theorem dX7_puts_35 : decode cX7_puts 35 = .ok (.iconst 1, 1) := by decide +kernel
theorem dX7_puts_36 : decode cX7_puts 36 = .ok (.isub, 1) := by decide +kernel
theorem dX7_puts_37 : decode cX7_puts 37 = .ok (.iaload, 1) := by decide +kernel
theorem dX7_puts_38 : decode cX7_puts 38 = .ok (.iload_n 2, 1) := by decide +kernel
theorem dX7_puts_39 : decode cX7_puts 39 = .ok (.if_icmp .le 35, 3) := by decide +kernel
theorem dX7_puts_42 : decode cX7_puts 42 = .ok (.aload_n 0, 1) := by decide +kernel
theorem dX7_puts_43 : decode cX7_puts 43 = .ok (.iconst 2, 1) := by decide +kernel
theorem dX7_puts_44 : decode cX7_puts 44 = .ok (.iload_n 3, 1) := by decide +kernel
theorem dX7_puts_45 : decode cX7_puts 45 = .ok (.iadd, 1) := by decide +kernel
theorem dX7_puts_46 : decode cX7_puts 46 = .ok (.aload_n 0, 1) := by decide +kernel
theorem dX7_puts_47 : decode cX7_puts 47 = .ok (.iconst 2, 1) := by decide +kernel
theorem dX7_puts_48 : decode cX7_puts 48 = .ok (.iload_n 3, 1) := by decide +kernel
theorem dX7_puts_49 : decode cX7_puts 49 = .ok (.iadd, 1) := by decide +kernel
theorem dX7_puts_50 : decode cX7_puts 50 = .ok (.iconst 1, 1) := by decide +kernel
theorem dX7_puts_51 : decode cX7_puts 51 = .ok (.isub, 1) := by decide +kernel
theorem dX7_puts_52 : decode cX7_puts 52 = .ok (.iaload, 1) := by decide +kernel
theorem dX7_puts_53 : decode cX7_puts 53 = .ok (.iastore, 1) := by decide +kernel
theorem dX7_puts_54 : decode cX7_puts 54 = .ok (.aload_n 0, 1) := by decide +kernel
theorem dX7_puts_55 : decode cX7_puts 55 = .ok (.bipush 16, 2) := by decide +kernel
theorem dX7_puts_57 : decode cX7_puts 57 = .ok (.iload_n 3, 1) := by decide +kernel
theorem dX7_puts_58 : decode cX7_puts 58 = .ok (.iadd, 1) := by decide +kernel
theorem dX7_puts_59 : decode cX7_puts 59 = .ok (.aload_n 0, 1) := by decide +kernel
theorem dX7_puts_60 : decode cX7_puts 60 = .ok (.bipush 16, 2) := by decide +kernel
theorem dX7_puts_62 : decode cX7_puts 62 = .ok (.iload_n 3, 1) := by decide +kernel
theorem dX7_puts_63 : decode cX7_puts 63 = .ok (.iadd, 1) := by decide +kernel
theorem dX7_puts_64 : decode cX7_puts 64 = .ok (.iconst 1, 1) := by decide +kernel
theorem dX7_puts_65 : decode cX7_puts 65 = .ok (.isub, 1) := by decide +kernel
theorem dX7_puts_66 : decode cX7_puts 66 = .ok (.iaload, 1) := by decide +kernel
theorem dX7_puts_67 : decode cX7_puts 67 = .ok (.iastore, 1) := by decide +kernel
theorem dX7_puts_68 : decode cX7_puts 68 = .ok (.iinc 3 (-1), 3) := by decide +kernel
theorem dX7_puts_71 : decode cX7_puts 71 = .ok (.goto (-67), 3) := by decide +kernel
theorem dX7_puts_74 : decode cX7_puts 74 = .ok (.aload_n 0, 1) := by decide +kernel
theorem dX7_puts_75 : decode cX7_puts 75 = .ok (.iconst 2, 1) := by decide +kernel
theorem dX7_puts_76 : decode cX7_puts 76 = .ok (.iload_n 3, 1) := by decide +kernel
theorem dX7_puts_77 : decode cX7_puts 77 = .ok (.iadd, 1) := by decide +kernel
theorem dX7_puts_78 : decode cX7_puts 78 = .ok (.iload_n 1, 1) := by decide +kernel
theorem dX7_puts_79 : decode cX7_puts 79 = .ok (.iastore, 1) := by decide +kernel
theorem dX7_puts_80 : decode cX7_puts 80 = .ok (.aload_n 0, 1) := by decide +kernel
theorem dX7_puts_81 : decode cX7_puts 81 = .ok (.bipush 16, 2) := by decide +kernel
theorem dX7_puts_83 : decode cX7_puts 83 = .ok (.iload_n 3, 1) := by decide +kernel
theorem dX7_puts_84 : decode cX7_puts 84 = .ok (.iadd, 1) := by decide +kernel
theorem dX7_puts_85 : decode cX7_puts 85 = .ok (.iload_n 2, 1) := by decide +kernel
theorem dX7_puts_86 : decode cX7_puts 86 = .ok (.iastore, 1) := by decide +kernel
theorem dX7_puts_87 : decode cX7_puts 87 = .ok (.aload_n 0, 1) := by decide +kernel
theorem dX7_puts_88 : decode cX7_puts 88 = .ok (.iconst 0, 1) := by decide +kernel
theorem dX7_puts_89 : decode cX7_puts 89 = .ok (.dup2, 1) := by decide +kernel
theorem dX7_puts_90 : decode cX7_puts 90 = .ok (.iaload, 1) := by decide +kernel
theorem dX7_puts_91 : decode cX7_puts 91 = .ok (.iconst 1, 1) := by decide +kernel
theorem dX7_puts_92 : decode cX7_puts 92 = .ok (.iadd, 1) := by decide +kernel
theorem dX7_puts_93 : decode cX7_puts 93 = .ok (.iastore, 1) := by decide +kernel
theorem dX7_puts_94 : decode cX7_puts 94 = .ok (.iload_n 3, 1) := by decide +kernel
theorem dX7_puts_95 : decode cX7_puts 95 = .ok (.ireturn, 1) := by decide +kernel
theorem dX7_leaves_0 : decode cX7_leaves 0 = .ok (.iload_n 1, 1) := by decide +kernel
theorem dX7_leaves_1 : decode cX7_leaves 1 = .ok (.istore_n 2, 1) := by decide +kernel
theorem dX7_leaves_2 : decode cX7_leaves 2 = .ok (.iload_n 2, 1) := by decide +kernel
theorem dX7_leaves_3 : decode cX7_leaves 3 = .ok (.iconst 1, 1) := by decide +kernel
theorem dX7_leaves_4 : decode cX7_leaves 4 = .ok (.iadd, 1) := by decide +kernel
theorem dX7_leaves_5 : decode cX7_leaves 5 = .ok (.aload_n 0, 1) := by decide +kernel
theorem dX7_leaves_6 : decode cX7_leaves 6 = .ok (.iconst 0, 1) := by decide +kernel
theorem dX7_leaves_7 : decode cX7_leaves 7 = .ok (.iaload, 1) := by decide +kernel
theorem dX7_leaves_8 : decode cX7_leaves 8 = .ok (.if_icmp .ge 35, 3) := by decide +kernel
theorem dX7_leaves_11 : decode cX7_leaves 11 = .ok (.aload_n 0, 1) := by decide +kernel
theorem dX7_leaves_12 : decode cX7_leaves 12 = .ok (.iconst 2, 1) := by decide +kernel
theorem dX7_leaves_13 : decode cX7_leaves 13 = .ok (.iload_n 2, 1) := by decide +kernel
theorem dX7_leaves_14 : decode cX7_leaves 14 = .ok (.iadd, 1) := by decide +kernel
theorem dX7_leaves_15 : decode cX7_leaves 15 = .ok (.aload_n 0, 1) := by decide +kernel
theorem dX7_leaves_16 : decode cX7_leaves 16 = .ok (.iconst 2, 1) := by decide +kernel
theorem dX7_leaves_17 : decode cX7_leaves 17 = .ok (.iload_n 2, 1) := by decide +kernel
theorem dX7_leaves_18 : decode cX7_leaves 18 = .ok (.iadd, 1) := by decide +kernel
theorem dX7_leaves_19 : decode cX7_leaves 19 = .ok (.iconst 1, 1) := by decide +kernel
theorem dX7_leaves_20 : decode cX7_leaves 20 = .ok (.iadd, 1) := by decide +kernel
theorem dX7_leaves_21 : decode cX7_leaves 21 = .ok (.iaload, 1) := by decide +kernel
theorem dX7_leaves_22 : decode cX7_leaves 22 = .ok (.iastore, 1) := by decide +kernel
theorem dX7_leaves_23 : decode cX7_leaves 23 = .ok (.aload_n 0, 1) := by decide +kernel
theorem dX7_leaves_24 : decode cX7_leaves 24 = .ok (.bipush 16, 2) := by decide +kernel
theorem dX7_leaves_26 : decode cX7_leaves 26 = .ok (.iload_n 2, 1) := by decide +kernel
theorem dX7_leaves_27 : decode cX7_leaves 27 = .ok (.iadd, 1) := by decide +kernel
theorem dX7_leaves_28 : decode cX7_leaves 28 = .ok (.aload_n 0, 1) := by decide +kernel
theorem dX7_leaves_29 : decode cX7_leaves 29 = .ok (.bipush 16, 2) := by decide +kernel
theorem dX7_leaves_31 : decode cX7_leaves 31 = .ok (.iload_n 2, 1) := by decide +kernel
theorem dX7_leaves_32 : decode cX7_leaves 32 = .ok (.iadd, 1) := by decide +kernel
theorem dX7_leaves_33 : decode cX7_leaves 33 = .ok (.iconst 1, 1) := by decide +kernel
theorem dX7_leaves_34 : decode cX7_leaves 34 = .ok (.iadd, 1) := by decide +kernel
theorem dX7_leaves_35 : decode cX7_leaves 35 = .ok (.iaload, 1) := by decide +kernel
theorem dX7_leaves_36 : decode cX7_leaves 36 = .ok (.iastore, 1) := by decide +kernel
theorem dX7_leaves_37 : decode cX7_leaves 37 = .ok (.iinc 2 1, 3) := by decide +kernel
theorem dX7_leaves_40 : decode cX7_leaves 40 = .ok (.goto (-38), 3) := by decide +kernel
theorem dX7_leaves_43 : decode cX7_leaves 43 = .ok (.aload_n 0, 1) := by decide +kernel
theorem dX7_leaves_44 : decode cX7_leaves 44 = .ok (.iconst 0, 1) := by decide +kernel
theorem dX7_leaves_45 : decode cX7_leaves 45 = .ok (.dup2, 1) := by decide +kernel
theorem dX7_leaves_46 : decode cX7_leaves 46 = .ok (.iaload, 1) := by decide +kernel
theorem dX7_leaves_47 : decode cX7_leaves 47 = .ok (.iconst 1, 1) := by decide +kernel
theorem dX7_leaves_48 : decode cX7_leaves 48 = .ok (.isub, 1) := by decide +kernel
theorem dX7_leaves_49 : decode cX7_leaves 49 = .ok (.iastore, 1) := by decide +kernel
theorem dX7_leaves_50 : decode cX7_leaves 50 = .ok (.return_, 1) := by decide +kernel
theorem dX7_here_0 : decode cX7_here 0 = .ok (.aload_n 0, 1) := by decide +kernel
theorem dX7_here_1 : decode cX7_here 1 = .ok (.getfield 57, 3) := by decide +kernel
theorem dX7_here_4 : decode cX7_here 4 = .ok (.aload_n 0, 1) := by decide +kernel
theorem dX7_here_5 : decode cX7_here 5 = .ok (.getfield 61, 3) := by decide +kernel
theorem dX7_here_8 : decode cX7_here 8 = .ok (.if_icmp .ge 15, 3) := by decide +kernel
theorem dX7_here_11 : decode cX7_here 11 = .ok (.aload_n 0, 1) := by decide +kernel
theorem dX7_here_12 : decode cX7_here 12 = .ok (.getfield 25, 3) := by decide +kernel
theorem dX7_here_15 : decode cX7_here 15 = .ok (.aload_n 0, 1) := by decide +kernel
theorem dX7_here_16 : decode cX7_here 16 = .ok (.getfield 57, 3) := by decide +kernel
theorem dX7_here_19 : decode cX7_here 19 = .ok (.iaload, 1) := by decide +kernel
theorem dX7_here_20 : decode cX7_here 20 = .ok (.goto 4, 3) := by decide +kernel
theorem dX7_here_23 : decode cX7_here 23 = .ok (.iconst (-1), 1) := by decide +kernel
theorem dX7_here_24 : decode cX7_here 24 = .ok (.ireturn, 1) := by decide +kernel
theorem dX7_number_0 : decode cX7_number 0 = .ok (.iconst 0, 1) := by decide +kernel
theorem dX7_number_1 : decode cX7_number 1 = .ok (.istore_n 3, 1) := by decide +kernel
theorem dX7_number_2 : decode cX7_number 2 = .ok (.iconst 0, 1) := by decide +kernel
theorem dX7_number_3 : decode cX7_number 3 = .ok (.istore 4, 2) := by decide +kernel
theorem dX7_number_5 : decode cX7_number 5 = .ok (.aload_n 0, 1) := by decide +kernel
theorem dX7_number_6 : decode cX7_number 6 = .ok (.invokevirtual 64, 3) := by decide +kernel
theorem dX7_number_9 : decode cX7_number 9 = .ok (.bipush 48, 2) := by decide +kernel
theorem dX7_number_11 : decode cX7_number 11 = .ok (.bipush 57, 2) := by decide +kernel
theorem dX7_number_13 : decode cX7_number 13 = .ok (.invokestatic 68, 3) := by decide +kernel
theorem dX7_number_16 : decode cX7_number 16 = .ok (.ifCond .eq 38, 3) := by decide +kernel
theorem dX7_number_19 : decode cX7_number 19 = .ok (.iload 4, 2) := by decide +kernel
theorem dX7_number_21 : decode cX7_number 21 = .ok (.iconst 3, 1) := by decide +kernel
theorem dX7_number_22 : decode cX7_number 22 = .ok (.if_icmp .ge 32, 3) := by decide +kernel
theorem dX7_number_25 : decode cX7_number 25 = .ok (.bipush 10, 2) := by decide +kernel
theorem dX7_number_27 : decode cX7_number 27 = .ok (.iload_n 3, 1) := by decide +kernel
theorem dX7_number_28 : decode cX7_number 28 = .ok (.imul, 1) := by decide +kernel
theorem dX7_number_29 : decode cX7_number 29 = .ok (.aload_n 0, 1) := by decide +kernel
theorem dX7_number_30 : decode cX7_number 30 = .ok (.invokevirtual 64, 3) := by decide +kernel
theorem dX7_number_33 : decode cX7_number 33 = .ok (.iadd, 1) := by decide +kernel
theorem dX7_number_34 : decode cX7_number 34 = .ok (.bipush 48, 2) := by decide +kernel
theorem dX7_number_36 : decode cX7_number 36 = .ok (.isub, 1) := by decide +kernel
theorem dX7_number_37 : decode cX7_number 37 = .ok (.istore_n 3, 1) := by decide +kernel
theorem dX7_number_38 : decode cX7_number 38 = .ok (.iinc 4 1, 3) := by decide +kernel
theorem dX7_number_41 : decode cX7_number 41 = .ok (.aload_n 0, 1) := by decide +kernel
theorem dX7_number_42 : decode cX7_number 42 = .ok (.dup, 1) := by decide +kernel
theorem dX7_number_43 : decode cX7_number 43 = .ok (.getfield 57, 3) := by decide +kernel
theorem dX7_number_46 : decode cX7_number 46 = .ok (.iconst 1, 1) := by decide +kernel
theorem dX7_number_47 : decode cX7_number 47 = .ok (.iadd, 1) := by decide +kernel
theorem dX7_number_48 : decode cX7_number 48 = .ok (.putfield 57, 3) := by decide +kernel
theorem dX7_number_51 : decode cX7_number 51 = .ok (.goto (-46), 3) := by decide +kernel
theorem dX7_number_54 : decode cX7_number 54 = .ok (.iload 4, 2) := by decide +kernel
theorem dX7_number_56 : decode cX7_number 56 = .ok (.iconst 1, 1) := by decide +kernel
theorem dX7_number_57 : decode cX7_number 57 = .ok (.iconst 2, 1) := by decide +kernel
theorem dX7_number_58 : decode cX7_number 58 = .ok (.invokestatic 68, 3) := by decide +kernel
theorem dX7_number_61 : decode cX7_number 61 = .ok (.ifCond .eq 16, 3) := by decide +kernel
theorem dX7_number_64 : decode cX7_number 64 = .ok (.iload_n 3, 1) := by decide +kernel
theorem dX7_number_65 : decode cX7_number 65 = .ok (.iload_n 1, 1) := by decide +kernel
theorem dX7_number_66 : decode cX7_number 66 = .ok (.if_icmp .gt 11, 3) := by decide +kernel
theorem dX7_number_69 : decode cX7_number 69 = .ok (.aload_n 0, 1) := by decide +kernel
theorem dX7_number_70 : decode cX7_number 70 = .ok (.invokevirtual 64, 3) := by decide +kernel
theorem dX7_number_73 : decode cX7_number 73 = .ok (.iload_n 2, 1) := by decide +kernel
theorem dX7_number_74 : decode cX7_number 74 = .ok (.if_icmp .eq 5, 3) := by decide +kernel
theorem dX7_number_77 : decode cX7_number 77 = .ok (.iconst (-1), 1) := by decide +kernel
theorem dX7_number_78 : decode cX7_number 78 = .ok (.ireturn, 1) := by decide +kernel
theorem dX7_number_79 : decode cX7_number 79 = .ok (.aload_n 0, 1) := by decide +kernel
theorem dX7_number_80 : decode cX7_number 80 = .ok (.dup, 1) := by decide +kernel
theorem dX7_number_81 : decode cX7_number 81 = .ok (.getfield 57, 3) := by decide +kernel
theorem dX7_number_84 : decode cX7_number 84 = .ok (.iconst 1, 1) := by decide +kernel
theorem dX7_number_85 : decode cX7_number 85 = .ok (.iadd, 1) := by decide +kernel
theorem dX7_number_86 : decode cX7_number 86 = .ok (.putfield 57, 3) := by decide +kernel
theorem dX7_number_89 : decode cX7_number 89 = .ok (.iload_n 3, 1) := by decide +kernel
theorem dX7_number_90 : decode cX7_number 90 = .ok (.ireturn, 1) := by decide +kernel
theorem dX7_readsItem_0 : decode cX7_readsItem 0 = .ok (.aload_n 0, 1) := by decide +kernel
theorem dX7_readsItem_1 : decode cX7_readsItem 1 = .ok (.invokevirtual 64, 3) := by decide +kernel
theorem dX7_readsItem_4 : decode cX7_readsItem 4 = .ok (.istore_n 1, 1) := by decide +kernel
theorem dX7_readsItem_5 : decode cX7_readsItem 5 = .ok (.aload_n 0, 1) := by decide +kernel
theorem dX7_readsItem_6 : decode cX7_readsItem 6 = .ok (.dup, 1) := by decide +kernel
theorem dX7_readsItem_7 : decode cX7_readsItem 7 = .ok (.getfield 57, 3) := by decide +kernel
theorem dX7_readsItem_10 : decode cX7_readsItem 10 = .ok (.iconst 1, 1) := by decide +kernel
theorem dX7_readsItem_11 : decode cX7_readsItem 11 = .ok (.iadd, 1) := by decide +kernel
theorem dX7_readsItem_12 : decode cX7_readsItem 12 = .ok (.putfield 57, 3) := by decide +kernel
theorem dX7_readsItem_15 : decode cX7_readsItem 15 = .ok (.iload_n 1, 1) := by decide +kernel
theorem dX7_readsItem_16 : decode cX7_readsItem 16 = .ok (.bipush 110, 2) := by decide +kernel
theorem dX7_readsItem_18 : decode cX7_readsItem 18 = .ok (.if_icmp .ne 78, 3) := by decide +kernel
theorem dX7_readsItem_21 : decode cX7_readsItem 21 = .ok (.aload_n 0, 1) := by decide +kernel
theorem dX7_readsItem_22 : decode cX7_readsItem 22 = .ok (.bipush 19, 2) := by decide +kernel
theorem dX7_readsItem_24 : decode cX7_readsItem 24 = .ok (.bipush 44, 2) := by decide +kernel
theorem dX7_readsItem_26 : decode cX7_readsItem 26 = .ok (.invokevirtual 72, 3) := by decide +kernel
theorem dX7_readsItem_29 : decode cX7_readsItem 29 = .ok (.istore_n 2, 1) := by decide +kernel
theorem dX7_readsItem_30 : decode cX7_readsItem 30 = .ok (.iload_n 2, 1) := by decide +kernel
theorem dX7_readsItem_31 : decode cX7_readsItem 31 = .ok (.ifCond .ge 7, 3) := by decide +kernel
theorem dX7_readsItem_34 : decode cX7_readsItem 34 = .ok (.iconst (-1), 1) := by decide +kernel
theorem dX7_readsItem_35 : decode cX7_readsItem 35 = .ok (.goto 11, 3) := by decide +kernel
theorem dX7_readsItem_38 : decode cX7_readsItem 38 = .ok (.aload_n 0, 1) := by decide +kernel
theorem dX7_readsItem_39 : decode cX7_readsItem 39 = .ok (.bipush 11, 2) := by decide +kernel
theorem dX7_readsItem_41 : decode cX7_readsItem 41 = .ok (.bipush 59, 2) := by decide +kernel
theorem dX7_readsItem_43 : decode cX7_readsItem 43 = .ok (.invokevirtual 72, 3) := by decide +kernel
theorem dX7_readsItem_46 : decode cX7_readsItem 46 = .ok (.istore_n 3, 1) := by decide +kernel
theorem dX7_readsItem_47 : decode cX7_readsItem 47 = .ok (.iload_n 3, 1) := by decide +kernel
theorem dX7_readsItem_48 : decode cX7_readsItem 48 = .ok (.ifCond .lt 28, 3) := by decide +kernel
theorem dX7_readsItem_51 : decode cX7_readsItem 51 = .ok (.aload_n 0, 1) := by decide +kernel
theorem dX7_readsItem_52 : decode cX7_readsItem 52 = .ok (.getfield 13, 3) := by decide +kernel
theorem dX7_readsItem_55 : decode cX7_readsItem 55 = .ok (.iconst 0, 1) := by decide +kernel
theorem dX7_readsItem_56 : decode cX7_readsItem 56 = .ok (.iaload, 1) := by decide +kernel
theorem dX7_readsItem_57 : decode cX7_readsItem 57 = .ok (.bipush 14, 2) := by decide +kernel
theorem dX7_readsItem_59 : decode cX7_readsItem 59 = .ok (.if_icmp .eq 17, 3) := by decide +kernel
theorem dX7_readsItem_62 : decode cX7_readsItem 62 = .ok (.aload_n 0, 1) := by decide +kernel
theorem dX7_readsItem_63 : decode cX7_readsItem 63 = .ok (.getfield 13, 3) := by decide +kernel
theorem dX7_readsItem_66 : decode cX7_readsItem 66 = .ok (.iload_n 2, 1) := by decide +kernel
theorem dX7_readsItem_67 : decode cX7_readsItem 67 = .ok (.iload_n 3, 1) := by decide +kernel
theorem dX7_readsItem_68 : decode cX7_readsItem 68 = .ok (.invokestatic 76, 3) := by decide +kernel
theorem dX7_readsItem_71 : decode cX7_readsItem 71 = .ok (.bipush (-4), 2) := by decide +kernel
theorem dX7_readsItem_73 : decode cX7_readsItem 73 = .ok (.if_icmp .eq 5, 3) := by decide +kernel
theorem dX7_readsItem_76 : decode cX7_readsItem 76 = .ok (.iconst 0, 1) := by decide +kernel
theorem dX7_readsItem_77 : decode cX7_readsItem 77 = .ok (.ireturn, 1) := by decide +kernel
theorem dX7_readsItem_78 : decode cX7_readsItem 78 = .ok (.aload_n 0, 1) := by decide +kernel
theorem dX7_readsItem_79 : decode cX7_readsItem 79 = .ok (.getfield 13, 3) := by decide +kernel
theorem dX7_readsItem_82 : decode cX7_readsItem 82 = .ok (.iload_n 2, 1) := by decide +kernel
theorem dX7_readsItem_83 : decode cX7_readsItem 83 = .ok (.iload_n 3, 1) := by decide +kernel
theorem dX7_readsItem_84 : decode cX7_readsItem 84 = .ok (.invokestatic 53, 3) := by decide +kernel
theorem dX7_readsItem_87 : decode cX7_readsItem 87 = .ok (.ifCond .lt 7, 3) := by decide +kernel
theorem dX7_readsItem_90 : decode cX7_readsItem 90 = .ok (.iconst 1, 1) := by decide +kernel
theorem dX7_readsItem_91 : decode cX7_readsItem 91 = .ok (.goto 4, 3) := by decide +kernel
theorem dX7_readsItem_94 : decode cX7_readsItem 94 = .ok (.iconst 0, 1) := by decide +kernel
theorem dX7_readsItem_95 : decode cX7_readsItem 95 = .ok (.ireturn, 1) := by decide +kernel
theorem dX7_readsItem_96 : decode cX7_readsItem 96 = .ok (.iload_n 1, 1) := by decide +kernel
theorem dX7_readsItem_97 : decode cX7_readsItem 97 = .ok (.bipush 109, 2) := by decide +kernel
theorem dX7_readsItem_99 : decode cX7_readsItem 99 = .ok (.if_icmp .ne 13, 3) := by decide +kernel
theorem dX7_readsItem_102 : decode cX7_readsItem 102 = .ok (.aload_n 0, 1) := by decide +kernel
theorem dX7_readsItem_103 : decode cX7_readsItem 103 = .ok (.iconst 2, 1) := by decide +kernel
theorem dX7_readsItem_104 : decode cX7_readsItem 104 = .ok (.bipush 59, 2) := by decide +kernel
theorem dX7_readsItem_106 : decode cX7_readsItem 106 = .ok (.invokevirtual 72, 3) := by decide +kernel
theorem dX7_readsItem_109 : decode cX7_readsItem 109 = .ok (.goto 4, 3) := by decide +kernel
theorem dX7_readsItem_112 : decode cX7_readsItem 112 = .ok (.iconst (-1), 1) := by decide +kernel
theorem dX7_readsItem_113 : decode cX7_readsItem 113 = .ok (.istore_n 2, 1) := by decide +kernel
theorem dX7_readsItem_114 : decode cX7_readsItem 114 = .ok (.iload_n 2, 1) := by decide +kernel
theorem dX7_readsItem_115 : decode cX7_readsItem 115 = .ok (.ifCond .lt 10, 3) := by decide +kernel
theorem dX7_readsItem_118 : decode cX7_readsItem 118 = .ok (.aload_n 0, 1) := by decide +kernel
theorem dX7_readsItem_119 : decode cX7_readsItem 119 = .ok (.getfield 13, 3) := by decide +kernel
theorem dX7_readsItem_122 : decode cX7_readsItem 122 = .ok (.iconst 1, 1) := by decide +kernel
theorem dX7_readsItem_123 : decode cX7_readsItem 123 = .ok (.iload_n 2, 1) := by decide +kernel
theorem dX7_readsItem_124 : decode cX7_readsItem 124 = .ok (.iastore, 1) := by decide +kernel
theorem dX7_readsItem_125 : decode cX7_readsItem 125 = .ok (.iload_n 2, 1) := by decide +kernel
theorem dX7_readsItem_126 : decode cX7_readsItem 126 = .ok (.ifCond .lt 7, 3) := by decide +kernel
theorem dX7_readsItem_129 : decode cX7_readsItem 129 = .ok (.iconst 1, 1) := by decide +kernel
theorem dX7_readsItem_130 : decode cX7_readsItem 130 = .ok (.goto 4, 3) := by decide +kernel
theorem dX7_readsItem_133 : decode cX7_readsItem 133 = .ok (.iconst 0, 1) := by decide +kernel
theorem dX7_readsItem_134 : decode cX7_readsItem 134 = .ok (.ireturn, 1) := by decide +kernel
theorem dX7_reading_0 : decode cX7_reading 0 = .ok (.aload_n 0, 1) := by decide +kernel
theorem dX7_reading_1 : decode cX7_reading 1 = .ok (.getfield 13, 3) := by decide +kernel
theorem dX7_reading_4 : decode cX7_reading 4 = .ok (.iconst 0, 1) := by decide +kernel
theorem dX7_reading_5 : decode cX7_reading 5 = .ok (.iconst 0, 1) := by decide +kernel
theorem dX7_reading_6 : decode cX7_reading 6 = .ok (.iastore, 1) := by decide +kernel
theorem dX7_reading_7 : decode cX7_reading 7 = .ok (.aload_n 0, 1) := by decide +kernel
theorem dX7_reading_8 : decode cX7_reading 8 = .ok (.getfield 13, 3) := by decide +kernel
theorem dX7_reading_11 : decode cX7_reading 11 = .ok (.iconst 1, 1) := by decide +kernel
theorem dX7_reading_12 : decode cX7_reading 12 = .ok (.iconst 0, 1) := by decide +kernel
theorem dX7_reading_13 : decode cX7_reading 13 = .ok (.iastore, 1) := by decide +kernel
theorem dX7_reading_14 : decode cX7_reading 14 = .ok (.aload_n 0, 1) := by decide +kernel
theorem dX7_reading_15 : decode cX7_reading 15 = .ok (.iconst 0, 1) := by decide +kernel
theorem dX7_reading_16 : decode cX7_reading 16 = .ok (.putfield 57, 3) := by decide +kernel
theorem dX7_reading_19 : decode cX7_reading 19 = .ok (.aload_n 0, 1) := by decide +kernel
theorem dX7_reading_20 : decode cX7_reading 20 = .ok (.getfield 57, 3) := by decide +kernel
theorem dX7_reading_23 : decode cX7_reading 23 = .ok (.aload_n 0, 1) := by decide +kernel
theorem dX7_reading_24 : decode cX7_reading 24 = .ok (.getfield 61, 3) := by decide +kernel
theorem dX7_reading_27 : decode cX7_reading 27 = .ok (.if_icmp .ge 20, 3) := by decide +kernel
theorem dX7_reading_30 : decode cX7_reading 30 = .ok (.aload_n 0, 1) := by decide +kernel
theorem dX7_reading_31 : decode cX7_reading 31 = .ok (.getfield 57, 3) := by decide +kernel
theorem dX7_reading_34 : decode cX7_reading 34 = .ok (.istore_n 1, 1) := by decide +kernel
theorem dX7_reading_35 : decode cX7_reading 35 = .ok (.aload_n 0, 1) := by decide +kernel
theorem dX7_reading_36 : decode cX7_reading 36 = .ok (.invokevirtual 79, 3) := by decide +kernel
theorem dX7_reading_39 : decode cX7_reading 39 = .ok (.ifCond .ne 5, 3) := by decide +kernel
theorem dX7_reading_42 : decode cX7_reading 42 = .ok (.iload_n 1, 1) := by decide +kernel
theorem dX7_reading_43 : decode cX7_reading 43 = .ok (.ireturn, 1) := by decide +kernel
theorem dX7_reading_44 : decode cX7_reading 44 = .ok (.goto (-25), 3) := by decide +kernel
theorem dX7_reading_47 : decode cX7_reading 47 = .ok (.bipush (-4), 2) := by decide +kernel
theorem dX7_reading_49 : decode cX7_reading 49 = .ok (.ireturn, 1) := by decide +kernel
theorem dX7_write_0 : decode cX7_write 0 = .ok (.iload_n 1, 1) := by decide +kernel
theorem dX7_write_1 : decode cX7_write 1 = .ok (.bipush 32, 2) := by decide +kernel
theorem dX7_write_3 : decode cX7_write 3 = .ok (.bipush 126, 2) := by decide +kernel
theorem dX7_write_5 : decode cX7_write 5 = .ok (.invokestatic 68, 3) := by decide +kernel
theorem dX7_write_8 : decode cX7_write 8 = .ok (.ifCond .ne 5, 3) := by decide +kernel
theorem dX7_write_11 : decode cX7_write 11 = .ok (.iconst (-1), 1) := by decide +kernel
theorem dX7_write_12 : decode cX7_write 12 = .ok (.ireturn, 1) := by decide +kernel
theorem dX7_write_13 : decode cX7_write 13 = .ok (.aload_n 0, 1) := by decide +kernel
theorem dX7_write_14 : decode cX7_write 14 = .ok (.getfield 61, 3) := by decide +kernel
theorem dX7_write_17 : decode cX7_write 17 = .ok (.sipush 200, 3) := by decide +kernel
theorem dX7_write_20 : decode cX7_write 20 = .ok (.if_icmp .ne 6, 3) := by decide +kernel
theorem dX7_write_23 : decode cX7_write 23 = .ok (.bipush (-3), 2) := by decide +kernel
theorem dX7_write_25 : decode cX7_write 25 = .ok (.ireturn, 1) := by decide +kernel
theorem dX7_write_26 : decode cX7_write 26 = .ok (.aload_n 0, 1) := by decide +kernel
theorem dX7_write_27 : decode cX7_write 27 = .ok (.getfield 25, 3) := by decide +kernel
theorem dX7_write_30 : decode cX7_write 30 = .ok (.aload_n 0, 1) := by decide +kernel
theorem dX7_write_31 : decode cX7_write 31 = .ok (.getfield 61, 3) := by decide +kernel
theorem dX7_write_34 : decode cX7_write 34 = .ok (.iload_n 1, 1) := by decide +kernel
theorem dX7_write_35 : decode cX7_write 35 = .ok (.iastore, 1) := by decide +kernel
theorem dX7_write_36 : decode cX7_write 36 = .ok (.aload_n 0, 1) := by decide +kernel
theorem dX7_write_37 : decode cX7_write 37 = .ok (.dup, 1) := by decide +kernel
theorem dX7_write_38 : decode cX7_write 38 = .ok (.getfield 61, 3) := by decide +kernel
theorem dX7_write_41 : decode cX7_write 41 = .ok (.iconst 1, 1) := by decide +kernel
theorem dX7_write_42 : decode cX7_write 42 = .ok (.iadd, 1) := by decide +kernel
theorem dX7_write_43 : decode cX7_write 43 = .ok (.putfield 61, 3) := by decide +kernel
theorem dX7_write_46 : decode cX7_write 46 = .ok (.aload_n 0, 1) := by decide +kernel
theorem dX7_write_47 : decode cX7_write 47 = .ok (.getfield 61, 3) := by decide +kernel
theorem dX7_write_50 : decode cX7_write 50 = .ok (.ireturn, 1) := by decide +kernel
theorem dX7_wipe_0 : decode cX7_wipe 0 = .ok (.aload_n 0, 1) := by decide +kernel
theorem dX7_wipe_1 : decode cX7_wipe 1 = .ok (.getfield 61, 3) := by decide +kernel
theorem dX7_wipe_4 : decode cX7_wipe 4 = .ok (.istore_n 1, 1) := by decide +kernel
theorem dX7_wipe_5 : decode cX7_wipe 5 = .ok (.aload_n 0, 1) := by decide +kernel
theorem dX7_wipe_6 : decode cX7_wipe 6 = .ok (.iconst 0, 1) := by decide +kernel
theorem dX7_wipe_7 : decode cX7_wipe 7 = .ok (.putfield 61, 3) := by decide +kernel
theorem dX7_wipe_10 : decode cX7_wipe 10 = .ok (.iload_n 1, 1) := by decide +kernel
theorem dX7_wipe_11 : decode cX7_wipe 11 = .ok (.ireturn, 1) := by decide +kernel
theorem dX7_fault_0 : decode cX7_fault 0 = .ok (.aload_n 0, 1) := by decide +kernel
theorem dX7_fault_1 : decode cX7_fault 1 = .ok (.invokevirtual 83, 3) := by decide +kernel
theorem dX7_fault_4 : decode cX7_fault 4 = .ok (.ireturn, 1) := by decide +kernel
theorem dX7_lay_0 : decode cX7_lay 0 = .ok (.aload_n 0, 1) := by decide +kernel
theorem dX7_lay_1 : decode cX7_lay 1 = .ok (.invokevirtual 83, 3) := by decide +kernel
theorem dX7_lay_4 : decode cX7_lay 4 = .ok (.bipush (-4), 2) := by decide +kernel
theorem dX7_lay_6 : decode cX7_lay 6 = .ok (.if_icmp .ne 12, 3) := by decide +kernel
theorem dX7_lay_9 : decode cX7_lay 9 = .ok (.aload_n 0, 1) := by decide +kernel
theorem dX7_lay_10 : decode cX7_lay 10 = .ok (.getfield 13, 3) := by decide +kernel
theorem dX7_lay_13 : decode cX7_lay 13 = .ok (.iconst 0, 1) := by decide +kernel
theorem dX7_lay_14 : decode cX7_lay 14 = .ok (.iaload, 1) := by decide +kernel
theorem dX7_lay_15 : decode cX7_lay 15 = .ok (.ifCond .ne 6, 3) := by decide +kernel
theorem dX7_lay_18 : decode cX7_lay 18 = .ok (.bipush (-2), 2) := by decide +kernel
theorem dX7_lay_20 : decode cX7_lay 20 = .ok (.ireturn, 1) := by decide +kernel
theorem dX7_lay_21 : decode cX7_lay 21 = .ok (.aload_n 0, 1) := by decide +kernel
theorem dX7_lay_22 : decode cX7_lay 22 = .ok (.getfield 13, 3) := by decide +kernel
theorem dX7_lay_25 : decode cX7_lay 25 = .ok (.iconst 0, 1) := by decide +kernel
theorem dX7_lay_26 : decode cX7_lay 26 = .ok (.aload_n 0, 1) := by decide +kernel
theorem dX7_lay_27 : decode cX7_lay 27 = .ok (.getfield 7, 3) := by decide +kernel
theorem dX7_lay_30 : decode cX7_lay 30 = .ok (.iconst 0, 1) := by decide +kernel
theorem dX7_lay_31 : decode cX7_lay 31 = .ok (.invokestatic 49, 3) := by decide +kernel
theorem dX7_lay_34 : decode cX7_lay 34 = .ok (.aload_n 0, 1) := by decide +kernel
theorem dX7_lay_35 : decode cX7_lay 35 = .ok (.iconst 0, 1) := by decide +kernel
theorem dX7_lay_36 : decode cX7_lay 36 = .ok (.putfield 86, 3) := by decide +kernel
theorem dX7_lay_39 : decode cX7_lay 39 = .ok (.aload_n 0, 1) := by decide +kernel
theorem dX7_lay_40 : decode cX7_lay 40 = .ok (.iconst 0, 1) := by decide +kernel
theorem dX7_lay_41 : decode cX7_lay 41 = .ok (.putfield 89, 3) := by decide +kernel
theorem dX7_lay_44 : decode cX7_lay 44 = .ok (.aload_n 0, 1) := by decide +kernel
theorem dX7_lay_45 : decode cX7_lay 45 = .ok (.getfield 7, 3) := by decide +kernel
theorem dX7_lay_48 : decode cX7_lay 48 = .ok (.iconst 0, 1) := by decide +kernel
theorem dX7_lay_49 : decode cX7_lay 49 = .ok (.iaload, 1) := by decide +kernel
theorem dX7_lay_50 : decode cX7_lay 50 = .ok (.ireturn, 1) := by decide +kernel
theorem dX7_isNote_0 : decode cX7_isNote 0 = .ok (.iload_n 1, 1) := by decide +kernel
theorem dX7_isNote_1 : decode cX7_isNote 1 = .ok (.iconst 0, 1) := by decide +kernel
theorem dX7_isNote_2 : decode cX7_isNote 2 = .ok (.aload_n 0, 1) := by decide +kernel
theorem dX7_isNote_3 : decode cX7_isNote 3 = .ok (.getfield 7, 3) := by decide +kernel
theorem dX7_isNote_6 : decode cX7_isNote 6 = .ok (.iconst 0, 1) := by decide +kernel
theorem dX7_isNote_7 : decode cX7_isNote 7 = .ok (.iaload, 1) := by decide +kernel
theorem dX7_isNote_8 : decode cX7_isNote 8 = .ok (.iconst 1, 1) := by decide +kernel
theorem dX7_isNote_9 : decode cX7_isNote 9 = .ok (.isub, 1) := by decide +kernel
theorem dX7_isNote_10 : decode cX7_isNote 10 = .ok (.invokestatic 68, 3) := by decide +kernel
theorem dX7_isNote_13 : decode cX7_isNote 13 = .ok (.ireturn, 1) := by decide +kernel
theorem dX7_note_0 : decode cX7_note 0 = .ok (.aload_n 0, 1) := by decide +kernel
theorem dX7_note_1 : decode cX7_note 1 = .ok (.iload_n 1, 1) := by decide +kernel
theorem dX7_note_2 : decode cX7_note 2 = .ok (.invokevirtual 92, 3) := by decide +kernel
theorem dX7_note_5 : decode cX7_note 5 = .ok (.ifCond .eq 32, 3) := by decide +kernel
theorem dX7_note_8 : decode cX7_note 8 = .ok (.iload_n 2, 1) := by decide +kernel
theorem dX7_note_9 : decode cX7_note 9 = .ok (.iconst 0, 1) := by decide +kernel
theorem dX7_note_10 : decode cX7_note 10 = .ok (.iconst 1, 1) := by decide +kernel
theorem dX7_note_11 : decode cX7_note 11 = .ok (.invokestatic 68, 3) := by decide +kernel
theorem dX7_note_14 : decode cX7_note 14 = .ok (.ifCond .eq 23, 3) := by decide +kernel
theorem dX7_note_17 : decode cX7_note 17 = .ok (.aload_n 0, 1) := by decide +kernel
theorem dX7_note_18 : decode cX7_note 18 = .ok (.getfield 7, 3) := by decide +kernel
theorem dX7_note_21 : decode cX7_note 21 = .ok (.iload_n 2, 1) := by decide +kernel
theorem dX7_note_22 : decode cX7_note 22 = .ok (.ifCond .ne 7, 3) := by decide +kernel
theorem dX7_note_25 : decode cX7_note 25 = .ok (.iconst 2, 1) := by decide +kernel
theorem dX7_note_26 : decode cX7_note 26 = .ok (.goto 5, 3) := by decide +kernel
theorem dX7_note_29 : decode cX7_note 29 = .ok (.bipush 16, 2) := by decide +kernel
theorem dX7_note_31 : decode cX7_note 31 = .ok (.iload_n 1, 1) := by decide +kernel
theorem dX7_note_32 : decode cX7_note 32 = .ok (.iadd, 1) := by decide +kernel
theorem dX7_note_33 : decode cX7_note 33 = .ok (.iaload, 1) := by decide +kernel
theorem dX7_note_34 : decode cX7_note 34 = .ok (.goto 4, 3) := by decide +kernel
theorem dX7_note_37 : decode cX7_note 37 = .ok (.iconst (-1), 1) := by decide +kernel
theorem dX7_note_38 : decode cX7_note 38 = .ok (.ireturn, 1) := by decide +kernel
theorem dX7_notes_0 : decode cX7_notes 0 = .ok (.aload_n 0, 1) := by decide +kernel
theorem dX7_notes_1 : decode cX7_notes 1 = .ok (.getfield 86, 3) := by decide +kernel
theorem dX7_notes_4 : decode cX7_notes 4 = .ok (.bipush 8, 2) := by decide +kernel
theorem dX7_notes_6 : decode cX7_notes 6 = .ok (.if_icmp .ne 43, 3) := by decide +kernel
theorem dX7_notes_9 : decode cX7_notes 9 = .ok (.iconst 0, 1) := by decide +kernel
theorem dX7_notes_10 : decode cX7_notes 10 = .ok (.istore_n 1, 1) := by decide +kernel
theorem dX7_notes_11 : decode cX7_notes 11 = .ok (.iload_n 1, 1) := by decide +kernel
theorem dX7_notes_12 : decode cX7_notes 12 = .ok (.sipush 210, 3) := by decide +kernel
theorem dX7_notes_15 : decode cX7_notes 15 = .ok (.if_icmp .ge 24, 3) := by decide +kernel
theorem dX7_notes_18 : decode cX7_notes 18 = .ok (.aload_n 0, 1) := by decide +kernel
theorem dX7_notes_19 : decode cX7_notes 19 = .ok (.getfield 19, 3) := by decide +kernel
theorem dX7_notes_22 : decode cX7_notes 22 = .ok (.iload_n 1, 1) := by decide +kernel
theorem dX7_notes_23 : decode cX7_notes 23 = .ok (.aload_n 0, 1) := by decide +kernel
theorem dX7_notes_24 : decode cX7_notes 24 = .ok (.getfield 19, 3) := by decide +kernel
theorem dX7_notes_27 : decode cX7_notes 27 = .ok (.iload_n 1, 1) := by decide +kernel
theorem dX7_notes_28 : decode cX7_notes 28 = .ok (.bipush 30, 2) := by decide +kernel
theorem dX7_notes_30 : decode cX7_notes 30 = .ok (.iadd, 1) := by decide +kernel
theorem dX7_notes_31 : decode cX7_notes 31 = .ok (.iaload, 1) := by decide +kernel
theorem dX7_notes_32 : decode cX7_notes 32 = .ok (.iastore, 1) := by decide +kernel
theorem dX7_notes_33 : decode cX7_notes 33 = .ok (.iinc 1 1, 3) := by decide +kernel
theorem dX7_notes_36 : decode cX7_notes 36 = .ok (.goto (-25), 3) := by decide +kernel
theorem dX7_notes_39 : decode cX7_notes 39 = .ok (.aload_n 0, 1) := by decide +kernel
theorem dX7_notes_40 : decode cX7_notes 40 = .ok (.dup, 1) := by decide +kernel
theorem dX7_notes_41 : decode cX7_notes 41 = .ok (.getfield 86, 3) := by decide +kernel
theorem dX7_notes_44 : decode cX7_notes 44 = .ok (.iconst 1, 1) := by decide +kernel
theorem dX7_notes_45 : decode cX7_notes 45 = .ok (.isub, 1) := by decide +kernel
theorem dX7_notes_46 : decode cX7_notes 46 = .ok (.putfield 86, 3) := by decide +kernel
theorem dX7_notes_49 : decode cX7_notes 49 = .ok (.aload_n 0, 1) := by decide +kernel
theorem dX7_notes_50 : decode cX7_notes 50 = .ok (.getfield 7, 3) := by decide +kernel
theorem dX7_notes_53 : decode cX7_notes 53 = .ok (.iconst 0, 1) := by decide +kernel
theorem dX7_notes_54 : decode cX7_notes 54 = .ok (.aload_n 0, 1) := by decide +kernel
theorem dX7_notes_55 : decode cX7_notes 55 = .ok (.getfield 19, 3) := by decide +kernel
theorem dX7_notes_58 : decode cX7_notes 58 = .ok (.bipush 30, 2) := by decide +kernel
theorem dX7_notes_60 : decode cX7_notes 60 = .ok (.aload_n 0, 1) := by decide +kernel
theorem dX7_notes_61 : decode cX7_notes 61 = .ok (.getfield 86, 3) := by decide +kernel
theorem dX7_notes_64 : decode cX7_notes 64 = .ok (.imul, 1) := by decide +kernel
theorem dX7_notes_65 : decode cX7_notes 65 = .ok (.invokestatic 49, 3) := by decide +kernel
theorem dX7_notes_68 : decode cX7_notes 68 = .ok (.aload_n 0, 1) := by decide +kernel
theorem dX7_notes_69 : decode cX7_notes 69 = .ok (.dup, 1) := by decide +kernel
theorem dX7_notes_70 : decode cX7_notes 70 = .ok (.getfield 86, 3) := by decide +kernel
theorem dX7_notes_73 : decode cX7_notes 73 = .ok (.iconst 1, 1) := by decide +kernel
theorem dX7_notes_74 : decode cX7_notes 74 = .ok (.iadd, 1) := by decide +kernel
theorem dX7_notes_75 : decode cX7_notes 75 = .ok (.putfield 86, 3) := by decide +kernel
theorem dX7_notes_78 : decode cX7_notes 78 = .ok (.return_, 1) := by decide +kernel
theorem dX7_isThere_0 : decode cX7_isThere 0 = .ok (.iload_n 0, 1) := by decide +kernel
theorem dX7_isThere_1 : decode cX7_isThere 1 = .ok (.iconst 0, 1) := by decide +kernel
theorem dX7_isThere_2 : decode cX7_isThere 2 = .ok (.bipush 19, 2) := by decide +kernel
theorem dX7_isThere_4 : decode cX7_isThere 4 = .ok (.invokestatic 68, 3) := by decide +kernel
theorem dX7_isThere_7 : decode cX7_isThere 7 = .ok (.ifCond .eq 17, 3) := by decide +kernel
theorem dX7_isThere_10 : decode cX7_isThere 10 = .ok (.iload_n 1, 1) := by decide +kernel
theorem dX7_isThere_11 : decode cX7_isThere 11 = .ok (.iconst 0, 1) := by decide +kernel
theorem dX7_isThere_12 : decode cX7_isThere 12 = .ok (.bipush 11, 2) := by decide +kernel
theorem dX7_isThere_14 : decode cX7_isThere 14 = .ok (.invokestatic 68, 3) := by decide +kernel
theorem dX7_isThere_17 : decode cX7_isThere 17 = .ok (.ifCond .eq 7, 3) := by decide +kernel
theorem dX7_isThere_20 : decode cX7_isThere 20 = .ok (.iconst 1, 1) := by decide +kernel
theorem dX7_isThere_21 : decode cX7_isThere 21 = .ok (.goto 4, 3) := by decide +kernel
theorem dX7_isThere_24 : decode cX7_isThere 24 = .ok (.iconst 0, 1) := by decide +kernel
theorem dX7_isThere_25 : decode cX7_isThere 25 = .ok (.ireturn, 1) := by decide +kernel
theorem dX7_put_0 : decode cX7_put 0 = .ok (.iload_n 1, 1) := by decide +kernel
theorem dX7_put_1 : decode cX7_put 1 = .ok (.iload_n 2, 1) := by decide +kernel
theorem dX7_put_2 : decode cX7_put 2 = .ok (.invokestatic 96, 3) := by decide +kernel
theorem dX7_put_5 : decode cX7_put 5 = .ok (.ifCond .ne 5, 3) := by decide +kernel
theorem dX7_put_8 : decode cX7_put 8 = .ok (.iconst (-1), 1) := by decide +kernel
theorem dX7_put_9 : decode cX7_put 9 = .ok (.ireturn, 1) := by decide +kernel
theorem dX7_put_10 : decode cX7_put 10 = .ok (.aload_n 0, 1) := by decide +kernel
theorem dX7_put_11 : decode cX7_put 11 = .ok (.getfield 7, 3) := by decide +kernel
theorem dX7_put_14 : decode cX7_put 14 = .ok (.iload_n 1, 1) := by decide +kernel
theorem dX7_put_15 : decode cX7_put 15 = .ok (.iload_n 2, 1) := by decide +kernel
theorem dX7_put_16 : decode cX7_put 16 = .ok (.invokestatic 76, 3) := by decide +kernel
theorem dX7_put_19 : decode cX7_put 19 = .ok (.bipush (-4), 2) := by decide +kernel
theorem dX7_put_21 : decode cX7_put 21 = .ok (.if_icmp .eq 6, 3) := by decide +kernel
theorem dX7_put_24 : decode cX7_put 24 = .ok (.bipush (-2), 2) := by decide +kernel
theorem dX7_put_26 : decode cX7_put 26 = .ok (.ireturn, 1) := by decide +kernel
theorem dX7_put_27 : decode cX7_put 27 = .ok (.aload_n 0, 1) := by decide +kernel
theorem dX7_put_28 : decode cX7_put 28 = .ok (.getfield 7, 3) := by decide +kernel
theorem dX7_put_31 : decode cX7_put 31 = .ok (.iconst 0, 1) := by decide +kernel
theorem dX7_put_32 : decode cX7_put 32 = .ok (.iaload, 1) := by decide +kernel
theorem dX7_put_33 : decode cX7_put 33 = .ok (.bipush 14, 2) := by decide +kernel
theorem dX7_put_35 : decode cX7_put 35 = .ok (.if_icmp .ne 6, 3) := by decide +kernel
theorem dX7_put_38 : decode cX7_put 38 = .ok (.bipush (-3), 2) := by decide +kernel
theorem dX7_put_40 : decode cX7_put 40 = .ok (.ireturn, 1) := by decide +kernel
theorem dX7_put_41 : decode cX7_put 41 = .ok (.aload_n 0, 1) := by decide +kernel
theorem dX7_put_42 : decode cX7_put 42 = .ok (.invokevirtual 100, 3) := by decide +kernel
theorem dX7_put_45 : decode cX7_put 45 = .ok (.aload_n 0, 1) := by decide +kernel
theorem dX7_put_46 : decode cX7_put 46 = .ok (.getfield 7, 3) := by decide +kernel
theorem dX7_put_49 : decode cX7_put 49 = .ok (.iload_n 1, 1) := by decide +kernel
theorem dX7_put_50 : decode cX7_put 50 = .ok (.iload_n 2, 1) := by decide +kernel
theorem dX7_put_51 : decode cX7_put 51 = .ok (.invokestatic 53, 3) := by decide +kernel
theorem dX7_put_54 : decode cX7_put 54 = .ok (.ireturn, 1) := by decide +kernel
theorem dX7_take_0 : decode cX7_take 0 = .ok (.aload_n 0, 1) := by decide +kernel
theorem dX7_take_1 : decode cX7_take 1 = .ok (.iload_n 1, 1) := by decide +kernel
theorem dX7_take_2 : decode cX7_take 2 = .ok (.invokevirtual 92, 3) := by decide +kernel
theorem dX7_take_5 : decode cX7_take 5 = .ok (.ifCond .ne 5, 3) := by decide +kernel
theorem dX7_take_8 : decode cX7_take 8 = .ok (.iconst (-1), 1) := by decide +kernel
theorem dX7_take_9 : decode cX7_take 9 = .ok (.ireturn, 1) := by decide +kernel
theorem dX7_take_10 : decode cX7_take 10 = .ok (.aload_n 0, 1) := by decide +kernel
theorem dX7_take_11 : decode cX7_take 11 = .ok (.getfield 7, 3) := by decide +kernel
theorem dX7_take_14 : decode cX7_take 14 = .ok (.iconst 0, 1) := by decide +kernel
theorem dX7_take_15 : decode cX7_take 15 = .ok (.iaload, 1) := by decide +kernel
theorem dX7_take_16 : decode cX7_take 16 = .ok (.iconst 1, 1) := by decide +kernel
theorem dX7_take_17 : decode cX7_take 17 = .ok (.if_icmp .ne 6, 3) := by decide +kernel
theorem dX7_take_20 : decode cX7_take 20 = .ok (.bipush (-2), 2) := by decide +kernel
theorem dX7_take_22 : decode cX7_take 22 = .ok (.ireturn, 1) := by decide +kernel
theorem dX7_take_23 : decode cX7_take 23 = .ok (.aload_n 0, 1) := by decide +kernel
theorem dX7_take_24 : decode cX7_take 24 = .ok (.invokevirtual 100, 3) := by decide +kernel
theorem dX7_take_27 : decode cX7_take 27 = .ok (.aload_n 0, 1) := by decide +kernel
theorem dX7_take_28 : decode cX7_take 28 = .ok (.getfield 7, 3) := by decide +kernel
theorem dX7_take_31 : decode cX7_take 31 = .ok (.iload_n 1, 1) := by decide +kernel
theorem dX7_take_32 : decode cX7_take 32 = .ok (.invokestatic 103, 3) := by decide +kernel
theorem dX7_take_35 : decode cX7_take 35 = .ok (.aload_n 0, 1) := by decide +kernel
theorem dX7_take_36 : decode cX7_take 36 = .ok (.getfield 7, 3) := by decide +kernel
theorem dX7_take_39 : decode cX7_take 39 = .ok (.iconst 0, 1) := by decide +kernel
theorem dX7_take_40 : decode cX7_take 40 = .ok (.iaload, 1) := by decide +kernel
theorem dX7_take_41 : decode cX7_take 41 = .ok (.ireturn, 1) := by decide +kernel
theorem dX7_isShift_0 : decode cX7_isShift 0 = .ok (.iload_n 1, 1) := by decide +kernel
theorem dX7_isShift_1 : decode cX7_isShift 1 = .ok (.bipush (-19), 2) := by decide +kernel
theorem dX7_isShift_3 : decode cX7_isShift 3 = .ok (.bipush 19, 2) := by decide +kernel
theorem dX7_isShift_5 : decode cX7_isShift 5 = .ok (.invokestatic 68, 3) := by decide +kernel
theorem dX7_isShift_8 : decode cX7_isShift 8 = .ok (.ifCond .eq 32, 3) := by decide +kernel
theorem dX7_isShift_11 : decode cX7_isShift 11 = .ok (.iload_n 2, 1) := by decide +kernel
theorem dX7_isShift_12 : decode cX7_isShift 12 = .ok (.aload_n 0, 1) := by decide +kernel
theorem dX7_isShift_13 : decode cX7_isShift 13 = .ok (.getfield 7, 3) := by decide +kernel
theorem dX7_isShift_16 : decode cX7_isShift 16 = .ok (.iconst 1, 1) := by decide +kernel
theorem dX7_isShift_17 : decode cX7_isShift 17 = .ok (.iaload, 1) := by decide +kernel
theorem dX7_isShift_18 : decode cX7_isShift 18 = .ok (.iconst 1, 1) := by decide +kernel
theorem dX7_isShift_19 : decode cX7_isShift 19 = .ok (.if_icmp .ne 7, 3) := by decide +kernel
theorem dX7_isShift_22 : decode cX7_isShift 22 = .ok (.iconst 0, 1) := by decide +kernel
theorem dX7_isShift_23 : decode cX7_isShift 23 = .ok (.goto 5, 3) := by decide +kernel
theorem dX7_isShift_26 : decode cX7_isShift 26 = .ok (.bipush (-11), 2) := by decide +kernel
theorem dX7_isShift_28 : decode cX7_isShift 28 = .ok (.bipush 11, 2) := by decide +kernel
theorem dX7_isShift_30 : decode cX7_isShift 30 = .ok (.invokestatic 68, 3) := by decide +kernel
theorem dX7_isShift_33 : decode cX7_isShift 33 = .ok (.ifCond .eq 7, 3) := by decide +kernel
theorem dX7_isShift_36 : decode cX7_isShift 36 = .ok (.iconst 1, 1) := by decide +kernel
theorem dX7_isShift_37 : decode cX7_isShift 37 = .ok (.goto 4, 3) := by decide +kernel
theorem dX7_isShift_40 : decode cX7_isShift 40 = .ok (.iconst 0, 1) := by decide +kernel
theorem dX7_isShift_41 : decode cX7_isShift 41 = .ok (.ireturn, 1) := by decide +kernel
theorem dX7_shift_0 : decode cX7_shift 0 = .ok (.aload_n 0, 1) := by decide +kernel
theorem dX7_shift_1 : decode cX7_shift 1 = .ok (.iload_n 1, 1) := by decide +kernel
theorem dX7_shift_2 : decode cX7_shift 2 = .ok (.invokevirtual 92, 3) := by decide +kernel
theorem dX7_shift_5 : decode cX7_shift 5 = .ok (.ifCond .eq 20, 3) := by decide +kernel
theorem dX7_shift_8 : decode cX7_shift 8 = .ok (.aload_n 0, 1) := by decide +kernel
theorem dX7_shift_9 : decode cX7_shift 9 = .ok (.iload_n 2, 1) := by decide +kernel
theorem dX7_shift_10 : decode cX7_shift 10 = .ok (.iload_n 3, 1) := by decide +kernel
theorem dX7_shift_11 : decode cX7_shift 11 = .ok (.invokevirtual 107, 3) := by decide +kernel
theorem dX7_shift_14 : decode cX7_shift 14 = .ok (.ifCond .eq 11, 3) := by decide +kernel
theorem dX7_shift_17 : decode cX7_shift 17 = .ok (.iload_n 2, 1) := by decide +kernel
theorem dX7_shift_18 : decode cX7_shift 18 = .ok (.ifCond .ne 9, 3) := by decide +kernel
theorem dX7_shift_21 : decode cX7_shift 21 = .ok (.iload_n 3, 1) := by decide +kernel
theorem dX7_shift_22 : decode cX7_shift 22 = .ok (.ifCond .ne 5, 3) := by decide +kernel
theorem dX7_shift_25 : decode cX7_shift 25 = .ok (.iconst (-1), 1) := by decide +kernel
theorem dX7_shift_26 : decode cX7_shift 26 = .ok (.ireturn, 1) := by decide +kernel
theorem dX7_shift_27 : decode cX7_shift 27 = .ok (.aload_n 0, 1) := by decide +kernel
theorem dX7_shift_28 : decode cX7_shift 28 = .ok (.getfield 7, 3) := by decide +kernel
theorem dX7_shift_31 : decode cX7_shift 31 = .ok (.iconst 2, 1) := by decide +kernel
theorem dX7_shift_32 : decode cX7_shift 32 = .ok (.iload_n 1, 1) := by decide +kernel
theorem dX7_shift_33 : decode cX7_shift 33 = .ok (.iadd, 1) := by decide +kernel
theorem dX7_shift_34 : decode cX7_shift 34 = .ok (.iaload, 1) := by decide +kernel
theorem dX7_shift_35 : decode cX7_shift 35 = .ok (.iload_n 2, 1) := by decide +kernel
theorem dX7_shift_36 : decode cX7_shift 36 = .ok (.iadd, 1) := by decide +kernel
theorem dX7_shift_37 : decode cX7_shift 37 = .ok (.istore 4, 2) := by decide +kernel
theorem dX7_shift_39 : decode cX7_shift 39 = .ok (.aload_n 0, 1) := by decide +kernel
theorem dX7_shift_40 : decode cX7_shift 40 = .ok (.getfield 7, 3) := by decide +kernel
theorem dX7_shift_43 : decode cX7_shift 43 = .ok (.bipush 16, 2) := by decide +kernel
theorem dX7_shift_45 : decode cX7_shift 45 = .ok (.iload_n 1, 1) := by decide +kernel
theorem dX7_shift_46 : decode cX7_shift 46 = .ok (.iadd, 1) := by decide +kernel
theorem dX7_shift_47 : decode cX7_shift 47 = .ok (.iaload, 1) := by decide +kernel
theorem dX7_shift_48 : decode cX7_shift 48 = .ok (.iload_n 3, 1) := by decide +kernel
theorem dX7_shift_49 : decode cX7_shift 49 = .ok (.iadd, 1) := by decide +kernel
theorem dX7_shift_50 : decode cX7_shift 50 = .ok (.istore 5, 2) := by decide +kernel
theorem dX7_shift_52 : decode cX7_shift 52 = .ok (.iload 4, 2) := by decide +kernel
theorem dX7_shift_54 : decode cX7_shift 54 = .ok (.iload 5, 2) := by decide +kernel
theorem dX7_shift_56 : decode cX7_shift 56 = .ok (.invokestatic 96, 3) := by decide +kernel
theorem dX7_shift_59 : decode cX7_shift 59 = .ok (.ifCond .ne 5, 3) := by decide +kernel
theorem dX7_shift_62 : decode cX7_shift 62 = .ok (.iconst (-1), 1) := by decide +kernel
theorem dX7_shift_63 : decode cX7_shift 63 = .ok (.ireturn, 1) := by decide +kernel
theorem dX7_shift_64 : decode cX7_shift 64 = .ok (.aload_n 0, 1) := by decide +kernel
theorem dX7_shift_65 : decode cX7_shift 65 = .ok (.getfield 7, 3) := by decide +kernel
theorem dX7_shift_68 : decode cX7_shift 68 = .ok (.iload 4, 2) := by decide +kernel
theorem dX7_shift_70 : decode cX7_shift 70 = .ok (.iload 5, 2) := by decide +kernel
theorem dX7_shift_72 : decode cX7_shift 72 = .ok (.invokestatic 76, 3) := by decide +kernel
theorem dX7_shift_75 : decode cX7_shift 75 = .ok (.bipush (-4), 2) := by decide +kernel
theorem dX7_shift_77 : decode cX7_shift 77 = .ok (.if_icmp .eq 6, 3) := by decide +kernel
theorem dX7_shift_80 : decode cX7_shift 80 = .ok (.bipush (-2), 2) := by decide +kernel
theorem dX7_shift_82 : decode cX7_shift 82 = .ok (.ireturn, 1) := by decide +kernel
theorem dX7_shift_83 : decode cX7_shift 83 = .ok (.aload_n 0, 1) := by decide +kernel
theorem dX7_shift_84 : decode cX7_shift 84 = .ok (.invokevirtual 100, 3) := by decide +kernel
theorem dX7_shift_87 : decode cX7_shift 87 = .ok (.aload_n 0, 1) := by decide +kernel
theorem dX7_shift_88 : decode cX7_shift 88 = .ok (.getfield 7, 3) := by decide +kernel
theorem dX7_shift_91 : decode cX7_shift 91 = .ok (.iload_n 1, 1) := by decide +kernel
theorem dX7_shift_92 : decode cX7_shift 92 = .ok (.invokestatic 103, 3) := by decide +kernel
theorem dX7_shift_95 : decode cX7_shift 95 = .ok (.aload_n 0, 1) := by decide +kernel
theorem dX7_shift_96 : decode cX7_shift 96 = .ok (.getfield 7, 3) := by decide +kernel
theorem dX7_shift_99 : decode cX7_shift 99 = .ok (.iload 4, 2) := by decide +kernel
theorem dX7_shift_101 : decode cX7_shift 101 = .ok (.iload 5, 2) := by decide +kernel
theorem dX7_shift_103 : decode cX7_shift 103 = .ok (.invokestatic 53, 3) := by decide +kernel
theorem dX7_shift_106 : decode cX7_shift 106 = .ok (.ireturn, 1) := by decide +kernel
theorem dX7_shiftAll_0 : decode cX7_shiftAll 0 = .ok (.aload_n 0, 1) := by decide +kernel
theorem dX7_shiftAll_1 : decode cX7_shiftAll 1 = .ok (.iload_n 1, 1) := by decide +kernel
theorem dX7_shiftAll_2 : decode cX7_shiftAll 2 = .ok (.iload_n 2, 1) := by decide +kernel
theorem dX7_shiftAll_3 : decode cX7_shiftAll 3 = .ok (.invokevirtual 107, 3) := by decide +kernel
theorem dX7_shiftAll_6 : decode cX7_shiftAll 6 = .ok (.ifCond .eq 11, 3) := by decide +kernel
theorem dX7_shiftAll_9 : decode cX7_shiftAll 9 = .ok (.iload_n 1, 1) := by decide +kernel
theorem dX7_shiftAll_10 : decode cX7_shiftAll 10 = .ok (.ifCond .ne 9, 3) := by decide +kernel
theorem dX7_shiftAll_13 : decode cX7_shiftAll 13 = .ok (.iload_n 2, 1) := by decide +kernel
theorem dX7_shiftAll_14 : decode cX7_shiftAll 14 = .ok (.ifCond .ne 5, 3) := by decide +kernel
theorem dX7_shiftAll_17 : decode cX7_shiftAll 17 = .ok (.iconst (-1), 1) := by decide +kernel
theorem dX7_shiftAll_18 : decode cX7_shiftAll 18 = .ok (.ireturn, 1) := by decide +kernel
theorem dX7_shiftAll_19 : decode cX7_shiftAll 19 = .ok (.iconst 0, 1) := by decide +kernel
theorem dX7_shiftAll_20 : decode cX7_shiftAll 20 = .ok (.istore_n 3, 1) := by decide +kernel
theorem dX7_shiftAll_21 : decode cX7_shiftAll 21 = .ok (.iload_n 3, 1) := by decide +kernel
theorem dX7_shiftAll_22 : decode cX7_shiftAll 22 = .ok (.aload_n 0, 1) := by decide +kernel
theorem dX7_shiftAll_23 : decode cX7_shiftAll 23 = .ok (.getfield 7, 3) := by decide +kernel
theorem dX7_shiftAll_26 : decode cX7_shiftAll 26 = .ok (.iconst 0, 1) := by decide +kernel
theorem dX7_shiftAll_27 : decode cX7_shiftAll 27 = .ok (.iaload, 1) := by decide +kernel
theorem dX7_shiftAll_28 : decode cX7_shiftAll 28 = .ok (.if_icmp .ge 38, 3) := by decide +kernel
theorem dX7_shiftAll_31 : decode cX7_shiftAll 31 = .ok (.aload_n 0, 1) := by decide +kernel
theorem dX7_shiftAll_32 : decode cX7_shiftAll 32 = .ok (.getfield 7, 3) := by decide +kernel
theorem dX7_shiftAll_35 : decode cX7_shiftAll 35 = .ok (.iconst 2, 1) := by decide +kernel
theorem dX7_shiftAll_36 : decode cX7_shiftAll 36 = .ok (.iload_n 3, 1) := by decide +kernel
theorem dX7_shiftAll_37 : decode cX7_shiftAll 37 = .ok (.iadd, 1) := by decide +kernel
theorem dX7_shiftAll_38 : decode cX7_shiftAll 38 = .ok (.iaload, 1) := by decide +kernel
theorem dX7_shiftAll_39 : decode cX7_shiftAll 39 = .ok (.iload_n 1, 1) := by decide +kernel
theorem dX7_shiftAll_40 : decode cX7_shiftAll 40 = .ok (.iadd, 1) := by decide +kernel
theorem dX7_shiftAll_41 : decode cX7_shiftAll 41 = .ok (.aload_n 0, 1) := by decide +kernel
theorem dX7_shiftAll_42 : decode cX7_shiftAll 42 = .ok (.getfield 7, 3) := by decide +kernel
theorem dX7_shiftAll_45 : decode cX7_shiftAll 45 = .ok (.bipush 16, 2) := by decide +kernel
theorem dX7_shiftAll_47 : decode cX7_shiftAll 47 = .ok (.iload_n 3, 1) := by decide +kernel
theorem dX7_shiftAll_48 : decode cX7_shiftAll 48 = .ok (.iadd, 1) := by decide +kernel
theorem dX7_shiftAll_49 : decode cX7_shiftAll 49 = .ok (.iaload, 1) := by decide +kernel
theorem dX7_shiftAll_50 : decode cX7_shiftAll 50 = .ok (.iload_n 2, 1) := by decide +kernel
theorem dX7_shiftAll_51 : decode cX7_shiftAll 51 = .ok (.iadd, 1) := by decide +kernel
theorem dX7_shiftAll_52 : decode cX7_shiftAll 52 = .ok (.invokestatic 96, 3) := by decide +kernel
theorem dX7_shiftAll_55 : decode cX7_shiftAll 55 = .ok (.ifCond .ne 5, 3) := by decide +kernel
theorem dX7_shiftAll_58 : decode cX7_shiftAll 58 = .ok (.iconst (-1), 1) := by decide +kernel
theorem dX7_shiftAll_59 : decode cX7_shiftAll 59 = .ok (.ireturn, 1) := by decide +kernel
theorem dX7_shiftAll_60 : decode cX7_shiftAll 60 = .ok (.iinc 3 1, 3) := by decide +kernel
theorem dX7_shiftAll_63 : decode cX7_shiftAll 63 = .ok (.goto (-42), 3) := by decide +kernel
theorem dX7_shiftAll_66 : decode cX7_shiftAll 66 = .ok (.aload_n 0, 1) := by decide +kernel
theorem dX7_shiftAll_67 : decode cX7_shiftAll 67 = .ok (.invokevirtual 100, 3) := by decide +kernel
theorem dX7_shiftAll_70 : decode cX7_shiftAll 70 = .ok (.iconst 0, 1) := by decide +kernel
theorem dX7_shiftAll_71 : decode cX7_shiftAll 71 = .ok (.istore_n 3, 1) := by decide +kernel
theorem dX7_shiftAll_72 : decode cX7_shiftAll 72 = .ok (.iload_n 3, 1) := by decide +kernel
theorem dX7_shiftAll_73 : decode cX7_shiftAll 73 = .ok (.aload_n 0, 1) := by decide +kernel
theorem dX7_shiftAll_74 : decode cX7_shiftAll 74 = .ok (.getfield 7, 3) := by decide +kernel
theorem dX7_shiftAll_77 : decode cX7_shiftAll 77 = .ok (.iconst 0, 1) := by decide +kernel
theorem dX7_shiftAll_78 : decode cX7_shiftAll 78 = .ok (.iaload, 1) := by decide +kernel
theorem dX7_shiftAll_79 : decode cX7_shiftAll 79 = .ok (.if_icmp .ge 34, 3) := by decide +kernel
theorem dX7_shiftAll_82 : decode cX7_shiftAll 82 = .ok (.aload_n 0, 1) := by decide +kernel
theorem dX7_shiftAll_83 : decode cX7_shiftAll 83 = .ok (.getfield 7, 3) := by decide +kernel
theorem dX7_shiftAll_86 : decode cX7_shiftAll 86 = .ok (.iconst 2, 1) := by decide +kernel
theorem dX7_shiftAll_87 : decode cX7_shiftAll 87 = .ok (.iload_n 3, 1) := by decide +kernel
theorem dX7_shiftAll_88 : decode cX7_shiftAll 88 = .ok (.iadd, 1) := by decide +kernel
theorem dX7_shiftAll_89 : decode cX7_shiftAll 89 = .ok (.dup2, 1) := by decide +kernel
theorem dX7_shiftAll_90 : decode cX7_shiftAll 90 = .ok (.iaload, 1) := by decide +kernel
theorem dX7_shiftAll_91 : decode cX7_shiftAll 91 = .ok (.iload_n 1, 1) := by decide +kernel
theorem dX7_shiftAll_92 : decode cX7_shiftAll 92 = .ok (.iadd, 1) := by decide +kernel
theorem dX7_shiftAll_93 : decode cX7_shiftAll 93 = .ok (.iastore, 1) := by decide +kernel
theorem dX7_shiftAll_94 : decode cX7_shiftAll 94 = .ok (.aload_n 0, 1) := by decide +kernel
theorem dX7_shiftAll_95 : decode cX7_shiftAll 95 = .ok (.getfield 7, 3) := by decide +kernel
theorem dX7_shiftAll_98 : decode cX7_shiftAll 98 = .ok (.bipush 16, 2) := by decide +kernel
theorem dX7_shiftAll_100 : decode cX7_shiftAll 100 = .ok (.iload_n 3, 1) := by decide +kernel
theorem dX7_shiftAll_101 : decode cX7_shiftAll 101 = .ok (.iadd, 1) := by decide +kernel
theorem dX7_shiftAll_102 : decode cX7_shiftAll 102 = .ok (.dup2, 1) := by decide +kernel
theorem dX7_shiftAll_103 : decode cX7_shiftAll 103 = .ok (.iaload, 1) := by decide +kernel
theorem dX7_shiftAll_104 : decode cX7_shiftAll 104 = .ok (.iload_n 2, 1) := by decide +kernel
theorem dX7_shiftAll_105 : decode cX7_shiftAll 105 = .ok (.iadd, 1) := by decide +kernel
theorem dX7_shiftAll_106 : decode cX7_shiftAll 106 = .ok (.iastore, 1) := by decide +kernel
theorem dX7_shiftAll_107 : decode cX7_shiftAll 107 = .ok (.iinc 3 1, 3) := by decide +kernel
theorem dX7_shiftAll_110 : decode cX7_shiftAll 110 = .ok (.goto (-38), 3) := by decide +kernel
theorem dX7_shiftAll_113 : decode cX7_shiftAll 113 = .ok (.aload_n 0, 1) := by decide +kernel
theorem dX7_shiftAll_114 : decode cX7_shiftAll 114 = .ok (.getfield 7, 3) := by decide +kernel
theorem dX7_shiftAll_117 : decode cX7_shiftAll 117 = .ok (.iconst 0, 1) := by decide +kernel
theorem dX7_shiftAll_118 : decode cX7_shiftAll 118 = .ok (.iaload, 1) := by decide +kernel
theorem dX7_shiftAll_119 : decode cX7_shiftAll 119 = .ok (.ireturn, 1) := by decide +kernel
theorem dX7_mode_0 : decode cX7_mode 0 = .ok (.iload_n 1, 1) := by decide +kernel
theorem dX7_mode_1 : decode cX7_mode 1 = .ok (.iconst 0, 1) := by decide +kernel
theorem dX7_mode_2 : decode cX7_mode 2 = .ok (.iconst 2, 1) := by decide +kernel
theorem dX7_mode_3 : decode cX7_mode 3 = .ok (.invokestatic 68, 3) := by decide +kernel
theorem dX7_mode_6 : decode cX7_mode 6 = .ok (.ifCond .ne 5, 3) := by decide +kernel
theorem dX7_mode_9 : decode cX7_mode 9 = .ok (.iconst (-1), 1) := by decide +kernel
theorem dX7_mode_10 : decode cX7_mode 10 = .ok (.ireturn, 1) := by decide +kernel
theorem dX7_mode_11 : decode cX7_mode 11 = .ok (.aload_n 0, 1) := by decide +kernel
theorem dX7_mode_12 : decode cX7_mode 12 = .ok (.getfield 7, 3) := by decide +kernel
theorem dX7_mode_15 : decode cX7_mode 15 = .ok (.iconst 1, 1) := by decide +kernel
theorem dX7_mode_16 : decode cX7_mode 16 = .ok (.iaload, 1) := by decide +kernel
theorem dX7_mode_17 : decode cX7_mode 17 = .ok (.istore_n 2, 1) := by decide +kernel
theorem dX7_mode_18 : decode cX7_mode 18 = .ok (.iload_n 2, 1) := by decide +kernel
theorem dX7_mode_19 : decode cX7_mode 19 = .ok (.iload_n 1, 1) := by decide +kernel
theorem dX7_mode_20 : decode cX7_mode 20 = .ok (.if_icmp .ne 6, 3) := by decide +kernel
theorem dX7_mode_23 : decode cX7_mode 23 = .ok (.bipush (-2), 2) := by decide +kernel
theorem dX7_mode_25 : decode cX7_mode 25 = .ok (.ireturn, 1) := by decide +kernel
theorem dX7_mode_26 : decode cX7_mode 26 = .ok (.aload_n 0, 1) := by decide +kernel
theorem dX7_mode_27 : decode cX7_mode 27 = .ok (.invokevirtual 100, 3) := by decide +kernel
theorem dX7_mode_30 : decode cX7_mode 30 = .ok (.aload_n 0, 1) := by decide +kernel
theorem dX7_mode_31 : decode cX7_mode 31 = .ok (.getfield 7, 3) := by decide +kernel
theorem dX7_mode_34 : decode cX7_mode 34 = .ok (.iconst 1, 1) := by decide +kernel
theorem dX7_mode_35 : decode cX7_mode 35 = .ok (.iload_n 1, 1) := by decide +kernel
theorem dX7_mode_36 : decode cX7_mode 36 = .ok (.iastore, 1) := by decide +kernel
theorem dX7_mode_37 : decode cX7_mode 37 = .ok (.iload_n 2, 1) := by decide +kernel
theorem dX7_mode_38 : decode cX7_mode 38 = .ok (.ireturn, 1) := by decide +kernel
theorem dX7_undo_0 : decode cX7_undo 0 = .ok (.aload_n 0, 1) := by decide +kernel
theorem dX7_undo_1 : decode cX7_undo 1 = .ok (.getfield 86, 3) := by decide +kernel
theorem dX7_undo_4 : decode cX7_undo 4 = .ok (.ifCond .ne 6, 3) := by decide +kernel
theorem dX7_undo_7 : decode cX7_undo 7 = .ok (.bipush (-2), 2) := by decide +kernel
theorem dX7_undo_9 : decode cX7_undo 9 = .ok (.ireturn, 1) := by decide +kernel
theorem dX7_undo_10 : decode cX7_undo 10 = .ok (.aload_n 0, 1) := by decide +kernel
theorem dX7_undo_11 : decode cX7_undo 11 = .ok (.dup, 1) := by decide +kernel
theorem dX7_undo_12 : decode cX7_undo 12 = .ok (.getfield 86, 3) := by decide +kernel
theorem dX7_undo_15 : decode cX7_undo 15 = .ok (.iconst 1, 1) := by decide +kernel
theorem dX7_undo_16 : decode cX7_undo 16 = .ok (.isub, 1) := by decide +kernel
theorem dX7_undo_17 : decode cX7_undo 17 = .ok (.putfield 86, 3) := by decide +kernel
theorem dX7_undo_20 : decode cX7_undo 20 = .ok (.aload_n 0, 1) := by decide +kernel
theorem dX7_undo_21 : decode cX7_undo 21 = .ok (.getfield 19, 3) := by decide +kernel
theorem dX7_undo_24 : decode cX7_undo 24 = .ok (.bipush 30, 2) := by decide +kernel
theorem dX7_undo_26 : decode cX7_undo 26 = .ok (.aload_n 0, 1) := by decide +kernel
theorem dX7_undo_27 : decode cX7_undo 27 = .ok (.getfield 86, 3) := by decide +kernel
theorem dX7_undo_30 : decode cX7_undo 30 = .ok (.imul, 1) := by decide +kernel
theorem dX7_undo_31 : decode cX7_undo 31 = .ok (.aload_n 0, 1) := by decide +kernel
theorem dX7_undo_32 : decode cX7_undo 32 = .ok (.getfield 7, 3) := by decide +kernel
theorem dX7_undo_35 : decode cX7_undo 35 = .ok (.iconst 0, 1) := by decide +kernel
theorem dX7_undo_36 : decode cX7_undo 36 = .ok (.invokestatic 49, 3) := by decide +kernel
theorem dX7_undo_39 : decode cX7_undo 39 = .ok (.aload_n 0, 1) := by decide +kernel
theorem dX7_undo_40 : decode cX7_undo 40 = .ok (.getfield 86, 3) := by decide +kernel
theorem dX7_undo_43 : decode cX7_undo 43 = .ok (.ireturn, 1) := by decide +kernel
theorem dX7_standsAt_0 : decode cX7_standsAt 0 = .ok (.iload_n 1, 1) := by decide +kernel
theorem dX7_standsAt_1 : decode cX7_standsAt 1 = .ok (.iload_n 2, 1) := by decide +kernel
theorem dX7_standsAt_2 : decode cX7_standsAt 2 = .ok (.invokestatic 96, 3) := by decide +kernel
theorem dX7_standsAt_5 : decode cX7_standsAt 5 = .ok (.ifCond .eq 17, 3) := by decide +kernel
theorem dX7_standsAt_8 : decode cX7_standsAt 8 = .ok (.aload_n 0, 1) := by decide +kernel
theorem dX7_standsAt_9 : decode cX7_standsAt 9 = .ok (.getfield 28, 3) := by decide +kernel
theorem dX7_standsAt_12 : decode cX7_standsAt 12 = .ok (.bipush 12, 2) := by decide +kernel
theorem dX7_standsAt_14 : decode cX7_standsAt 14 = .ok (.iload_n 1, 1) := by decide +kernel
theorem dX7_standsAt_15 : decode cX7_standsAt 15 = .ok (.imul, 1) := by decide +kernel
theorem dX7_standsAt_16 : decode cX7_standsAt 16 = .ok (.iload_n 2, 1) := by decide +kernel
theorem dX7_standsAt_17 : decode cX7_standsAt 17 = .ok (.iadd, 1) := by decide +kernel
theorem dX7_standsAt_18 : decode cX7_standsAt 18 = .ok (.iaload, 1) := by decide +kernel
theorem dX7_standsAt_19 : decode cX7_standsAt 19 = .ok (.goto 5, 3) := by decide +kernel
theorem dX7_standsAt_22 : decode cX7_standsAt 22 = .ok (.bipush (-4), 2) := by decide +kernel
theorem dX7_standsAt_24 : decode cX7_standsAt 24 = .ok (.ireturn, 1) := by decide +kernel
theorem dX7_metBy_0 : decode cX7_metBy 0 = .ok (.aload_n 1, 1) := by decide +kernel
theorem dX7_metBy_1 : decode cX7_metBy 1 = .ok (.iconst 2, 1) := by decide +kernel
theorem dX7_metBy_2 : decode cX7_metBy 2 = .ok (.iload_n 2, 1) := by decide +kernel
theorem dX7_metBy_3 : decode cX7_metBy 3 = .ok (.iadd, 1) := by decide +kernel
theorem dX7_metBy_4 : decode cX7_metBy 4 = .ok (.iaload, 1) := by decide +kernel
theorem dX7_metBy_5 : decode cX7_metBy 5 = .ok (.iload_n 3, 1) := by decide +kernel
theorem dX7_metBy_6 : decode cX7_metBy 6 = .ok (.iadd, 1) := by decide +kernel
theorem dX7_metBy_7 : decode cX7_metBy 7 = .ok (.istore 5, 2) := by decide +kernel
theorem dX7_metBy_9 : decode cX7_metBy 9 = .ok (.aload_n 1, 1) := by decide +kernel
theorem dX7_metBy_10 : decode cX7_metBy 10 = .ok (.bipush 16, 2) := by decide +kernel
theorem dX7_metBy_12 : decode cX7_metBy 12 = .ok (.iload_n 2, 1) := by decide +kernel
theorem dX7_metBy_13 : decode cX7_metBy 13 = .ok (.iadd, 1) := by decide +kernel
theorem dX7_metBy_14 : decode cX7_metBy 14 = .ok (.iaload, 1) := by decide +kernel
theorem dX7_metBy_15 : decode cX7_metBy 15 = .ok (.iload 4, 2) := by decide +kernel
theorem dX7_metBy_17 : decode cX7_metBy 17 = .ok (.iadd, 1) := by decide +kernel
theorem dX7_metBy_18 : decode cX7_metBy 18 = .ok (.istore 6, 2) := by decide +kernel
theorem dX7_metBy_20 : decode cX7_metBy 20 = .ok (.aload_n 0, 1) := by decide +kernel
theorem dX7_metBy_21 : decode cX7_metBy 21 = .ok (.getfield 110, 3) := by decide +kernel
theorem dX7_metBy_24 : decode cX7_metBy 24 = .ok (.iconst 1, 1) := by decide +kernel
theorem dX7_metBy_25 : decode cX7_metBy 25 = .ok (.if_icmp .ne 18, 3) := by decide +kernel
theorem dX7_metBy_28 : decode cX7_metBy 28 = .ok (.aload_n 0, 1) := by decide +kernel
theorem dX7_metBy_29 : decode cX7_metBy 29 = .ok (.iload 5, 2) := by decide +kernel
theorem dX7_metBy_31 : decode cX7_metBy 31 = .ok (.iload 6, 2) := by decide +kernel
theorem dX7_metBy_33 : decode cX7_metBy 33 = .ok (.bipush 12, 2) := by decide +kernel
theorem dX7_metBy_35 : decode cX7_metBy 35 = .ok (.iadd, 1) := by decide +kernel
theorem dX7_metBy_36 : decode cX7_metBy 36 = .ok (.bipush 12, 2) := by decide +kernel
theorem dX7_metBy_38 : decode cX7_metBy 38 = .ok (.irem, 1) := by decide +kernel
theorem dX7_metBy_39 : decode cX7_metBy 39 = .ok (.invokevirtual 113, 3) := by decide +kernel
theorem dX7_metBy_42 : decode cX7_metBy 42 = .ok (.ireturn, 1) := by decide +kernel
theorem dX7_metBy_43 : decode cX7_metBy 43 = .ok (.aload_n 0, 1) := by decide +kernel
theorem dX7_metBy_44 : decode cX7_metBy 44 = .ok (.iload 5, 2) := by decide +kernel
theorem dX7_metBy_46 : decode cX7_metBy 46 = .ok (.iload 6, 2) := by decide +kernel
theorem dX7_metBy_48 : decode cX7_metBy 48 = .ok (.invokevirtual 113, 3) := by decide +kernel
theorem dX7_metBy_51 : decode cX7_metBy 51 = .ok (.istore 7, 2) := by decide +kernel
theorem dX7_metBy_53 : decode cX7_metBy 53 = .ok (.iload 7, 2) := by decide +kernel
theorem dX7_metBy_55 : decode cX7_metBy 55 = .ok (.bipush (-4), 2) := by decide +kernel
theorem dX7_metBy_57 : decode cX7_metBy 57 = .ok (.if_icmp .ne 47, 3) := by decide +kernel
theorem dX7_metBy_60 : decode cX7_metBy 60 = .ok (.aload_n 0, 1) := by decide +kernel
theorem dX7_metBy_61 : decode cX7_metBy 61 = .ok (.getfield 110, 3) := by decide +kernel
theorem dX7_metBy_64 : decode cX7_metBy 64 = .ok (.iconst 2, 1) := by decide +kernel
theorem dX7_metBy_65 : decode cX7_metBy 65 = .ok (.if_icmp .ne 39, 3) := by decide +kernel
theorem dX7_metBy_68 : decode cX7_metBy 68 = .ok (.aload_n 0, 1) := by decide +kernel
theorem dX7_metBy_69 : decode cX7_metBy 69 = .ok (.iload 5, 2) := by decide +kernel
theorem dX7_metBy_71 : decode cX7_metBy 71 = .ok (.iload 6, 2) := by decide +kernel
theorem dX7_metBy_73 : decode cX7_metBy 73 = .ok (.iconst 1, 1) := by decide +kernel
theorem dX7_metBy_74 : decode cX7_metBy 74 = .ok (.isub, 1) := by decide +kernel
theorem dX7_metBy_75 : decode cX7_metBy 75 = .ok (.invokevirtual 113, 3) := by decide +kernel
theorem dX7_metBy_78 : decode cX7_metBy 78 = .ok (.istore 7, 2) := by decide +kernel
theorem dX7_metBy_80 : decode cX7_metBy 80 = .ok (.iload 7, 2) := by decide +kernel
theorem dX7_metBy_82 : decode cX7_metBy 82 = .ok (.bipush (-4), 2) := by decide +kernel
theorem dX7_metBy_84 : decode cX7_metBy 84 = .ok (.if_icmp .ne 16, 3) := by decide +kernel
theorem dX7_metBy_87 : decode cX7_metBy 87 = .ok (.aload_n 0, 1) := by decide +kernel
theorem dX7_metBy_88 : decode cX7_metBy 88 = .ok (.iload 5, 2) := by decide +kernel
theorem dX7_metBy_90 : decode cX7_metBy 90 = .ok (.iload 6, 2) := by decide +kernel
theorem dX7_metBy_92 : decode cX7_metBy 92 = .ok (.iconst 1, 1) := by decide +kernel
theorem dX7_metBy_93 : decode cX7_metBy 93 = .ok (.iadd, 1) := by decide +kernel
theorem dX7_metBy_94 : decode cX7_metBy 94 = .ok (.invokevirtual 113, 3) := by decide +kernel
theorem dX7_metBy_97 : decode cX7_metBy 97 = .ok (.goto 5, 3) := by decide +kernel
theorem dX7_metBy_100 : decode cX7_metBy 100 = .ok (.iload 7, 2) := by decide +kernel
theorem dX7_metBy_102 : decode cX7_metBy 102 = .ok (.istore 7, 2) := by decide +kernel
theorem dX7_metBy_104 : decode cX7_metBy 104 = .ok (.iload 7, 2) := by decide +kernel
theorem dX7_metBy_106 : decode cX7_metBy 106 = .ok (.ireturn, 1) := by decide +kernel
theorem dX7_firstPitch_0 : decode cX7_firstPitch 0 = .ok (.aload_n 0, 1) := by decide +kernel
theorem dX7_firstPitch_1 : decode cX7_firstPitch 1 = .ok (.getfield 110, 3) := by decide +kernel
theorem dX7_firstPitch_4 : decode cX7_firstPitch 4 = .ok (.iconst 1, 1) := by decide +kernel
theorem dX7_firstPitch_5 : decode cX7_firstPitch 5 = .ok (.if_icmp .ne 7, 3) := by decide +kernel
theorem dX7_firstPitch_8 : decode cX7_firstPitch 8 = .ok (.iconst 0, 1) := by decide +kernel
theorem dX7_firstPitch_9 : decode cX7_firstPitch 9 = .ok (.goto 5, 3) := by decide +kernel
theorem dX7_firstPitch_12 : decode cX7_firstPitch 12 = .ok (.bipush (-11), 2) := by decide +kernel
theorem dX7_firstPitch_14 : decode cX7_firstPitch 14 = .ok (.ireturn, 1) := by decide +kernel
theorem dX7_lays_0 : decode cX7_lays 0 = .ok (.aload_n 0, 1) := by decide +kernel
theorem dX7_lays_1 : decode cX7_lays 1 = .ok (.aload_n 1, 1) := by decide +kernel
theorem dX7_lays_2 : decode cX7_lays 2 = .ok (.iconst 1, 1) := by decide +kernel
theorem dX7_lays_3 : decode cX7_lays 3 = .ok (.iaload, 1) := by decide +kernel
theorem dX7_lays_4 : decode cX7_lays 4 = .ok (.putfield 110, 3) := by decide +kernel
theorem dX7_lays_7 : decode cX7_lays 7 = .ok (.iconst 0, 1) := by decide +kernel
theorem dX7_lays_8 : decode cX7_lays 8 = .ok (.istore_n 3, 1) := by decide +kernel
theorem dX7_lays_9 : decode cX7_lays 9 = .ok (.iload_n 3, 1) := by decide +kernel
theorem dX7_lays_10 : decode cX7_lays 10 = .ok (.sipush 240, 3) := by decide +kernel
theorem dX7_lays_13 : decode cX7_lays 13 = .ok (.if_icmp .ge 17, 3) := by decide +kernel
theorem dX7_lays_16 : decode cX7_lays 16 = .ok (.aload_n 0, 1) := by decide +kernel
theorem dX7_lays_17 : decode cX7_lays 17 = .ok (.getfield 28, 3) := by decide +kernel
theorem dX7_lays_20 : decode cX7_lays 20 = .ok (.iload_n 3, 1) := by decide +kernel
theorem dX7_lays_21 : decode cX7_lays 21 = .ok (.bipush (-4), 2) := by decide +kernel
theorem dX7_lays_23 : decode cX7_lays 23 = .ok (.iastore, 1) := by decide +kernel
theorem dX7_lays_24 : decode cX7_lays 24 = .ok (.iinc 3 1, 3) := by decide +kernel
theorem dX7_lays_27 : decode cX7_lays 27 = .ok (.goto (-18), 3) := by decide +kernel
theorem dX7_lays_30 : decode cX7_lays 30 = .ok (.iconst 0, 1) := by decide +kernel
theorem dX7_lays_31 : decode cX7_lays 31 = .ok (.istore_n 3, 1) := by decide +kernel
theorem dX7_lays_32 : decode cX7_lays 32 = .ok (.iload_n 3, 1) := by decide +kernel
theorem dX7_lays_33 : decode cX7_lays 33 = .ok (.aload_n 1, 1) := by decide +kernel
theorem dX7_lays_34 : decode cX7_lays 34 = .ok (.iconst 0, 1) := by decide +kernel
theorem dX7_lays_35 : decode cX7_lays 35 = .ok (.iaload, 1) := by decide +kernel
theorem dX7_lays_36 : decode cX7_lays 36 = .ok (.if_icmp .ge 38, 3) := by decide +kernel
theorem dX7_lays_39 : decode cX7_lays 39 = .ok (.iload_n 2, 1) := by decide +kernel
theorem dX7_lays_40 : decode cX7_lays 40 = .ok (.iload_n 3, 1) := by decide +kernel
theorem dX7_lays_41 : decode cX7_lays 41 = .ok (.invokestatic 116, 3) := by decide +kernel
theorem dX7_lays_44 : decode cX7_lays 44 = .ok (.ifCond .eq 24, 3) := by decide +kernel
theorem dX7_lays_47 : decode cX7_lays 47 = .ok (.aload_n 0, 1) := by decide +kernel
theorem dX7_lays_48 : decode cX7_lays 48 = .ok (.getfield 28, 3) := by decide +kernel
theorem dX7_lays_51 : decode cX7_lays 51 = .ok (.bipush 12, 2) := by decide +kernel
theorem dX7_lays_53 : decode cX7_lays 53 = .ok (.aload_n 1, 1) := by decide +kernel
theorem dX7_lays_54 : decode cX7_lays 54 = .ok (.iconst 2, 1) := by decide +kernel
theorem dX7_lays_55 : decode cX7_lays 55 = .ok (.iload_n 3, 1) := by decide +kernel
theorem dX7_lays_56 : decode cX7_lays 56 = .ok (.iadd, 1) := by decide +kernel
theorem dX7_lays_57 : decode cX7_lays 57 = .ok (.iaload, 1) := by decide +kernel
theorem dX7_lays_58 : decode cX7_lays 58 = .ok (.imul, 1) := by decide +kernel
theorem dX7_lays_59 : decode cX7_lays 59 = .ok (.aload_n 1, 1) := by decide +kernel
theorem dX7_lays_60 : decode cX7_lays 60 = .ok (.bipush 16, 2) := by decide +kernel
theorem dX7_lays_62 : decode cX7_lays 62 = .ok (.iload_n 3, 1) := by decide +kernel
theorem dX7_lays_63 : decode cX7_lays 63 = .ok (.iadd, 1) := by decide +kernel
theorem dX7_lays_64 : decode cX7_lays 64 = .ok (.iaload, 1) := by decide +kernel
theorem dX7_lays_65 : decode cX7_lays 65 = .ok (.iadd, 1) := by decide +kernel
theorem dX7_lays_66 : decode cX7_lays 66 = .ok (.iload_n 3, 1) := by decide +kernel
theorem dX7_lays_67 : decode cX7_lays 67 = .ok (.iastore, 1) := by decide +kernel
theorem dX7_lays_68 : decode cX7_lays 68 = .ok (.iinc 3 1, 3) := by decide +kernel
theorem dX7_lays_71 : decode cX7_lays 71 = .ok (.goto (-39), 3) := by decide +kernel
theorem dX7_lays_74 : decode cX7_lays 74 = .ok (.bipush (-19), 2) := by decide +kernel
theorem dX7_lays_76 : decode cX7_lays 76 = .ok (.istore_n 3, 1) := by decide +kernel
theorem dX7_lays_77 : decode cX7_lays 77 = .ok (.iload_n 3, 1) := by decide +kernel
theorem dX7_lays_78 : decode cX7_lays 78 = .ok (.bipush 20, 2) := by decide +kernel
theorem dX7_lays_80 : decode cX7_lays 80 = .ok (.if_icmp .ge 112, 3) := by decide +kernel
theorem dX7_lays_83 : decode cX7_lays 83 = .ok (.bipush (-11), 2) := by decide +kernel
theorem dX7_lays_85 : decode cX7_lays 85 = .ok (.istore 4, 2) := by decide +kernel
theorem dX7_lays_87 : decode cX7_lays 87 = .ok (.iload 4, 2) := by decide +kernel
theorem dX7_lays_89 : decode cX7_lays 89 = .ok (.bipush 12, 2) := by decide +kernel
theorem dX7_lays_91 : decode cX7_lays 91 = .ok (.if_icmp .ge 95, 3) := by decide +kernel
theorem dX7_lays_94 : decode cX7_lays 94 = .ok (.iconst 0, 1) := by decide +kernel
theorem dX7_lays_95 : decode cX7_lays 95 = .ok (.istore 5, 2) := by decide +kernel
theorem dX7_lays_97 : decode cX7_lays 97 = .ok (.iconst 0, 1) := by decide +kernel
theorem dX7_lays_98 : decode cX7_lays 98 = .ok (.istore 6, 2) := by decide +kernel
theorem dX7_lays_100 : decode cX7_lays 100 = .ok (.iload 6, 2) := by decide +kernel
theorem dX7_lays_102 : decode cX7_lays 102 = .ok (.aload_n 1, 1) := by decide +kernel
theorem dX7_lays_103 : decode cX7_lays 103 = .ok (.iconst 0, 1) := by decide +kernel
theorem dX7_lays_104 : decode cX7_lays 104 = .ok (.iaload, 1) := by decide +kernel
theorem dX7_lays_105 : decode cX7_lays 105 = .ok (.if_icmp .ge 55, 3) := by decide +kernel
theorem dX7_lays_108 : decode cX7_lays 108 = .ok (.iload 4, 2) := by decide +kernel
theorem dX7_lays_110 : decode cX7_lays 110 = .ok (.aload_n 0, 1) := by decide +kernel
theorem dX7_lays_111 : decode cX7_lays 111 = .ok (.invokevirtual 119, 3) := by decide +kernel
theorem dX7_lays_114 : decode cX7_lays 114 = .ok (.if_icmp .lt 46, 3) := by decide +kernel
theorem dX7_lays_117 : decode cX7_lays 117 = .ok (.iload 5, 2) := by decide +kernel
theorem dX7_lays_119 : decode cX7_lays 119 = .ok (.iload_n 2, 1) := by decide +kernel
theorem dX7_lays_120 : decode cX7_lays 120 = .ok (.iload 6, 2) := by decide +kernel
theorem dX7_lays_122 : decode cX7_lays 122 = .ok (.invokestatic 116, 3) := by decide +kernel
theorem dX7_lays_125 : decode cX7_lays 125 = .ok (.ifCond .eq 25, 3) := by decide +kernel
theorem dX7_lays_128 : decode cX7_lays 128 = .ok (.aload_n 0, 1) := by decide +kernel
theorem dX7_lays_129 : decode cX7_lays 129 = .ok (.aload_n 1, 1) := by decide +kernel
theorem dX7_lays_130 : decode cX7_lays 130 = .ok (.iload 6, 2) := by decide +kernel
theorem dX7_lays_132 : decode cX7_lays 132 = .ok (.iload_n 3, 1) := by decide +kernel
theorem dX7_lays_133 : decode cX7_lays 133 = .ok (.iload 4, 2) := by decide +kernel
theorem dX7_lays_135 : decode cX7_lays 135 = .ok (.invokevirtual 122, 3) := by decide +kernel
theorem dX7_lays_138 : decode cX7_lays 138 = .ok (.bipush (-4), 2) := by decide +kernel
theorem dX7_lays_140 : decode cX7_lays 140 = .ok (.if_icmp .eq 10, 3) := by decide +kernel
theorem dX7_lays_143 : decode cX7_lays 143 = .ok (.iconst 1, 1) := by decide +kernel
theorem dX7_lays_144 : decode cX7_lays 144 = .ok (.iload 6, 2) := by decide +kernel
theorem dX7_lays_146 : decode cX7_lays 146 = .ok (.ishl, 1) := by decide +kernel
theorem dX7_lays_147 : decode cX7_lays 147 = .ok (.goto 4, 3) := by decide +kernel
theorem dX7_lays_150 : decode cX7_lays 150 = .ok (.iconst 0, 1) := by decide +kernel
theorem dX7_lays_151 : decode cX7_lays 151 = .ok (.ior, 1) := by decide +kernel
theorem dX7_lays_152 : decode cX7_lays 152 = .ok (.istore 5, 2) := by decide +kernel
theorem dX7_lays_154 : decode cX7_lays 154 = .ok (.iinc 6 1, 3) := by decide +kernel
theorem dX7_lays_157 : decode cX7_lays 157 = .ok (.goto (-57), 3) := by decide +kernel
theorem dX7_lays_160 : decode cX7_lays 160 = .ok (.aload_n 0, 1) := by decide +kernel
theorem dX7_lays_161 : decode cX7_lays 161 = .ok (.getfield 31, 3) := by decide +kernel
theorem dX7_lays_164 : decode cX7_lays 164 = .ok (.bipush 23, 2) := by decide +kernel
theorem dX7_lays_166 : decode cX7_lays 166 = .ok (.iload_n 3, 1) := by decide +kernel
theorem dX7_lays_167 : decode cX7_lays 167 = .ok (.bipush 19, 2) := by decide +kernel
theorem dX7_lays_169 : decode cX7_lays 169 = .ok (.iadd, 1) := by decide +kernel
theorem dX7_lays_170 : decode cX7_lays 170 = .ok (.imul, 1) := by decide +kernel
theorem dX7_lays_171 : decode cX7_lays 171 = .ok (.iload 4, 2) := by decide +kernel
theorem dX7_lays_173 : decode cX7_lays 173 = .ok (.iadd, 1) := by decide +kernel
theorem dX7_lays_174 : decode cX7_lays 174 = .ok (.bipush 11, 2) := by decide +kernel
theorem dX7_lays_176 : decode cX7_lays 176 = .ok (.iadd, 1) := by decide +kernel
theorem dX7_lays_177 : decode cX7_lays 177 = .ok (.iload 5, 2) := by decide +kernel
theorem dX7_lays_179 : decode cX7_lays 179 = .ok (.iastore, 1) := by decide +kernel
theorem dX7_lays_180 : decode cX7_lays 180 = .ok (.iinc 4 1, 3) := by decide +kernel
theorem dX7_lays_183 : decode cX7_lays 183 = .ok (.goto (-96), 3) := by decide +kernel
theorem dX7_lays_186 : decode cX7_lays 186 = .ok (.iinc 3 1, 3) := by decide +kernel
theorem dX7_lays_189 : decode cX7_lays 189 = .ok (.goto (-112), 3) := by decide +kernel
theorem dX7_lays_192 : decode cX7_lays 192 = .ok (.return_, 1) := by decide +kernel
theorem dX7_looksAt_0 : decode cX7_looksAt 0 = .ok (.aload_n 0, 1) := by decide +kernel
theorem dX7_looksAt_1 : decode cX7_looksAt 1 = .ok (.iconst 0, 1) := by decide +kernel
theorem dX7_looksAt_2 : decode cX7_looksAt 2 = .ok (.putfield 126, 3) := by decide +kernel
theorem dX7_looksAt_5 : decode cX7_looksAt 5 = .ok (.aload_n 0, 1) := by decide +kernel
theorem dX7_looksAt_6 : decode cX7_looksAt 6 = .ok (.iconst 0, 1) := by decide +kernel
theorem dX7_looksAt_7 : decode cX7_looksAt 7 = .ok (.putfield 129, 3) := by decide +kernel
theorem dX7_looksAt_10 : decode cX7_looksAt 10 = .ok (.iconst 0, 1) := by decide +kernel
theorem dX7_looksAt_11 : decode cX7_looksAt 11 = .ok (.istore_n 3, 1) := by decide +kernel
theorem dX7_looksAt_12 : decode cX7_looksAt 12 = .ok (.iload_n 3, 1) := by decide +kernel
theorem dX7_looksAt_13 : decode cX7_looksAt 13 = .ok (.sipush 897, 3) := by decide +kernel
theorem dX7_looksAt_16 : decode cX7_looksAt 16 = .ok (.if_icmp .ge 93, 3) := by decide +kernel
theorem dX7_looksAt_19 : decode cX7_looksAt 19 = .ok (.aload_n 0, 1) := by decide +kernel
theorem dX7_looksAt_20 : decode cX7_looksAt 20 = .ok (.getfield 31, 3) := by decide +kernel
theorem dX7_looksAt_23 : decode cX7_looksAt 23 = .ok (.iload_n 3, 1) := by decide +kernel
theorem dX7_looksAt_24 : decode cX7_looksAt 24 = .ok (.iaload, 1) := by decide +kernel
theorem dX7_looksAt_25 : decode cX7_looksAt 25 = .ok (.iload_n 2, 1) := by decide +kernel
theorem dX7_looksAt_26 : decode cX7_looksAt 26 = .ok (.iand, 1) := by decide +kernel
theorem dX7_looksAt_27 : decode cX7_looksAt 27 = .ok (.iload_n 2, 1) := by decide +kernel
theorem dX7_looksAt_28 : decode cX7_looksAt 28 = .ok (.if_icmp .ne 75, 3) := by decide +kernel
theorem dX7_looksAt_31 : decode cX7_looksAt 31 = .ok (.aload_n 0, 1) := by decide +kernel
theorem dX7_looksAt_32 : decode cX7_looksAt 32 = .ok (.dup, 1) := by decide +kernel
theorem dX7_looksAt_33 : decode cX7_looksAt 33 = .ok (.getfield 126, 3) := by decide +kernel
theorem dX7_looksAt_36 : decode cX7_looksAt 36 = .ok (.iconst 1, 1) := by decide +kernel
theorem dX7_looksAt_37 : decode cX7_looksAt 37 = .ok (.iadd, 1) := by decide +kernel
theorem dX7_looksAt_38 : decode cX7_looksAt 38 = .ok (.putfield 126, 3) := by decide +kernel
theorem dX7_looksAt_41 : decode cX7_looksAt 41 = .ok (.iconst 0, 1) := by decide +kernel
theorem dX7_looksAt_42 : decode cX7_looksAt 42 = .ok (.istore 4, 2) := by decide +kernel
theorem dX7_looksAt_44 : decode cX7_looksAt 44 = .ok (.iload 4, 2) := by decide +kernel
theorem dX7_looksAt_46 : decode cX7_looksAt 46 = .ok (.aload_n 1, 1) := by decide +kernel
theorem dX7_looksAt_47 : decode cX7_looksAt 47 = .ok (.iconst 0, 1) := by decide +kernel
theorem dX7_looksAt_48 : decode cX7_looksAt 48 = .ok (.iaload, 1) := by decide +kernel
theorem dX7_looksAt_49 : decode cX7_looksAt 49 = .ok (.if_icmp .ge 54, 3) := by decide +kernel
theorem dX7_looksAt_52 : decode cX7_looksAt 52 = .ok (.aload_n 0, 1) := by decide +kernel
theorem dX7_looksAt_53 : decode cX7_looksAt 53 = .ok (.dup, 1) := by decide +kernel
theorem dX7_looksAt_54 : decode cX7_looksAt 54 = .ok (.getfield 129, 3) := by decide +kernel
theorem dX7_looksAt_57 : decode cX7_looksAt 57 = .ok (.iload_n 2, 1) := by decide +kernel
theorem dX7_looksAt_58 : decode cX7_looksAt 58 = .ok (.iload 4, 2) := by decide +kernel
theorem dX7_looksAt_60 : decode cX7_looksAt 60 = .ok (.invokestatic 116, 3) := by decide +kernel
theorem dX7_looksAt_63 : decode cX7_looksAt 63 = .ok (.ifCond .eq 29, 3) := by decide +kernel
theorem dX7_looksAt_66 : decode cX7_looksAt 66 = .ok (.iconst 1, 1) := by decide +kernel
theorem dX7_looksAt_67 : decode cX7_looksAt 67 = .ok (.aload_n 0, 1) := by decide +kernel
theorem dX7_looksAt_68 : decode cX7_looksAt 68 = .ok (.aload_n 1, 1) := by decide +kernel
theorem dX7_looksAt_69 : decode cX7_looksAt 69 = .ok (.iload 4, 2) := by decide +kernel
theorem dX7_looksAt_71 : decode cX7_looksAt 71 = .ok (.iload_n 3, 1) := by decide +kernel
theorem dX7_looksAt_72 : decode cX7_looksAt 72 = .ok (.bipush 23, 2) := by decide +kernel
theorem dX7_looksAt_74 : decode cX7_looksAt 74 = .ok (.idiv, 1) := by decide +kernel
theorem dX7_looksAt_75 : decode cX7_looksAt 75 = .ok (.bipush 19, 2) := by decide +kernel
theorem dX7_looksAt_77 : decode cX7_looksAt 77 = .ok (.isub, 1) := by decide +kernel
theorem dX7_looksAt_78 : decode cX7_looksAt 78 = .ok (.iload_n 3, 1) := by decide +kernel
theorem dX7_looksAt_79 : decode cX7_looksAt 79 = .ok (.bipush 23, 2) := by decide +kernel
theorem dX7_looksAt_81 : decode cX7_looksAt 81 = .ok (.irem, 1) := by decide +kernel
theorem dX7_looksAt_82 : decode cX7_looksAt 82 = .ok (.bipush 11, 2) := by decide +kernel
theorem dX7_looksAt_84 : decode cX7_looksAt 84 = .ok (.isub, 1) := by decide +kernel
theorem dX7_looksAt_85 : decode cX7_looksAt 85 = .ok (.invokevirtual 122, 3) := by decide +kernel
theorem dX7_looksAt_88 : decode cX7_looksAt 88 = .ok (.ishl, 1) := by decide +kernel
theorem dX7_looksAt_89 : decode cX7_looksAt 89 = .ok (.goto 4, 3) := by decide +kernel
theorem dX7_looksAt_92 : decode cX7_looksAt 92 = .ok (.iconst 0, 1) := by decide +kernel
theorem dX7_looksAt_93 : decode cX7_looksAt 93 = .ok (.ior, 1) := by decide +kernel
theorem dX7_looksAt_94 : decode cX7_looksAt 94 = .ok (.putfield 129, 3) := by decide +kernel
theorem dX7_looksAt_97 : decode cX7_looksAt 97 = .ok (.iinc 4 1, 3) := by decide +kernel
theorem dX7_looksAt_100 : decode cX7_looksAt 100 = .ok (.goto (-56), 3) := by decide +kernel
theorem dX7_looksAt_103 : decode cX7_looksAt 103 = .ok (.iinc 3 1, 3) := by decide +kernel
theorem dX7_looksAt_106 : decode cX7_looksAt 106 = .ok (.goto (-94), 3) := by decide +kernel
theorem dX7_looksAt_109 : decode cX7_looksAt 109 = .ok (.return_, 1) := by decide +kernel
theorem dX7_gainOf_0 : decode cX7_gainOf 0 = .ok (.aload_n 0, 1) := by decide +kernel
theorem dX7_gainOf_1 : decode cX7_gainOf 1 = .ok (.getfield 129, 3) := by decide +kernel
theorem dX7_gainOf_4 : decode cX7_gainOf 4 = .ok (.invokestatic 132, 3) := by decide +kernel
theorem dX7_gainOf_7 : decode cX7_gainOf 7 = .ok (.iload_n 1, 1) := by decide +kernel
theorem dX7_gainOf_8 : decode cX7_gainOf 8 = .ok (.invokestatic 132, 3) := by decide +kernel
theorem dX7_gainOf_11 : decode cX7_gainOf 11 = .ok (.isub, 1) := by decide +kernel
theorem dX7_gainOf_12 : decode cX7_gainOf 12 = .ok (.aload_n 0, 1) := by decide +kernel
theorem dX7_gainOf_13 : decode cX7_gainOf 13 = .ok (.getfield 126, 3) := by decide +kernel
theorem dX7_gainOf_16 : decode cX7_gainOf 16 = .ok (.isub, 1) := by decide +kernel
theorem dX7_gainOf_17 : decode cX7_gainOf 17 = .ok (.iconst 1, 1) := by decide +kernel
theorem dX7_gainOf_18 : decode cX7_gainOf 18 = .ok (.iadd, 1) := by decide +kernel
theorem dX7_gainOf_19 : decode cX7_gainOf 19 = .ok (.ireturn, 1) := by decide +kernel
theorem dX7_isNew_0 : decode cX7_isNew 0 = .ok (.iconst 0, 1) := by decide +kernel
theorem dX7_isNew_1 : decode cX7_isNew 1 = .ok (.istore_n 2, 1) := by decide +kernel
theorem dX7_isNew_2 : decode cX7_isNew 2 = .ok (.iload_n 2, 1) := by decide +kernel
theorem dX7_isNew_3 : decode cX7_isNew 3 = .ok (.aload_n 0, 1) := by decide +kernel
theorem dX7_isNew_4 : decode cX7_isNew 4 = .ok (.getfield 136, 3) := by decide +kernel
theorem dX7_isNew_7 : decode cX7_isNew 7 = .ok (.if_icmp .ge 21, 3) := by decide +kernel
theorem dX7_isNew_10 : decode cX7_isNew 10 = .ok (.aload_n 0, 1) := by decide +kernel
theorem dX7_isNew_11 : decode cX7_isNew 11 = .ok (.getfield 34, 3) := by decide +kernel
theorem dX7_isNew_14 : decode cX7_isNew 14 = .ok (.iload_n 2, 1) := by decide +kernel
theorem dX7_isNew_15 : decode cX7_isNew 15 = .ok (.iaload, 1) := by decide +kernel
theorem dX7_isNew_16 : decode cX7_isNew 16 = .ok (.iload_n 1, 1) := by decide +kernel
theorem dX7_isNew_17 : decode cX7_isNew 17 = .ok (.if_icmp .ne 5, 3) := by decide +kernel
theorem dX7_isNew_20 : decode cX7_isNew 20 = .ok (.iconst 0, 1) := by decide +kernel
theorem dX7_isNew_21 : decode cX7_isNew 21 = .ok (.ireturn, 1) := by decide +kernel
theorem dX7_isNew_22 : decode cX7_isNew 22 = .ok (.iinc 2 1, 3) := by decide +kernel
theorem dX7_isNew_25 : decode cX7_isNew 25 = .ok (.goto (-23), 3) := by decide +kernel
theorem dX7_isNew_28 : decode cX7_isNew 28 = .ok (.iconst 1, 1) := by decide +kernel
theorem dX7_isNew_29 : decode cX7_isNew 29 = .ok (.ireturn, 1) := by decide +kernel
theorem dX7_findsShapes_0 : decode cX7_findsShapes 0 = .ok (.aload_n 0, 1) := by decide +kernel
theorem dX7_findsShapes_1 : decode cX7_findsShapes 1 = .ok (.aload_n 1, 1) := by decide +kernel
theorem dX7_findsShapes_2 : decode cX7_findsShapes 2 = .ok (.iload_n 2, 1) := by decide +kernel
theorem dX7_findsShapes_3 : decode cX7_findsShapes 3 = .ok (.invokevirtual 139, 3) := by decide +kernel
theorem dX7_findsShapes_6 : decode cX7_findsShapes 6 = .ok (.aload_n 0, 1) := by decide +kernel
theorem dX7_findsShapes_7 : decode cX7_findsShapes 7 = .ok (.iconst 0, 1) := by decide +kernel
theorem dX7_findsShapes_8 : decode cX7_findsShapes 8 = .ok (.putfield 136, 3) := by decide +kernel
theorem dX7_findsShapes_11 : decode cX7_findsShapes 11 = .ok (.sipush 449, 3) := by decide +kernel
theorem dX7_findsShapes_14 : decode cX7_findsShapes 14 = .ok (.istore_n 3, 1) := by decide +kernel
theorem dX7_findsShapes_15 : decode cX7_findsShapes 15 = .ok (.iload_n 3, 1) := by decide +kernel
theorem dX7_findsShapes_16 : decode cX7_findsShapes 16 = .ok (.sipush 897, 3) := by decide +kernel
theorem dX7_findsShapes_19 : decode cX7_findsShapes 19 = .ok (.if_icmp .ge 60, 3) := by decide +kernel
theorem dX7_findsShapes_22 : decode cX7_findsShapes 22 = .ok (.aload_n 0, 1) := by decide +kernel
theorem dX7_findsShapes_23 : decode cX7_findsShapes 23 = .ok (.getfield 31, 3) := by decide +kernel
theorem dX7_findsShapes_26 : decode cX7_findsShapes 26 = .ok (.iload_n 3, 1) := by decide +kernel
theorem dX7_findsShapes_27 : decode cX7_findsShapes 27 = .ok (.iaload, 1) := by decide +kernel
theorem dX7_findsShapes_28 : decode cX7_findsShapes 28 = .ok (.invokestatic 132, 3) := by decide +kernel
theorem dX7_findsShapes_31 : decode cX7_findsShapes 31 = .ok (.iconst 1, 1) := by decide +kernel
theorem dX7_findsShapes_32 : decode cX7_findsShapes 32 = .ok (.if_icmp .le 41, 3) := by decide +kernel
theorem dX7_findsShapes_35 : decode cX7_findsShapes 35 = .ok (.aload_n 0, 1) := by decide +kernel
theorem dX7_findsShapes_36 : decode cX7_findsShapes 36 = .ok (.aload_n 0, 1) := by decide +kernel
theorem dX7_findsShapes_37 : decode cX7_findsShapes 37 = .ok (.getfield 31, 3) := by decide +kernel
theorem dX7_findsShapes_40 : decode cX7_findsShapes 40 = .ok (.iload_n 3, 1) := by decide +kernel
theorem dX7_findsShapes_41 : decode cX7_findsShapes 41 = .ok (.iaload, 1) := by decide +kernel
theorem dX7_findsShapes_42 : decode cX7_findsShapes 42 = .ok (.invokevirtual 142, 3) := by decide +kernel
theorem dX7_findsShapes_45 : decode cX7_findsShapes 45 = .ok (.ifCond .eq 28, 3) := by decide +kernel
theorem dX7_findsShapes_48 : decode cX7_findsShapes 48 = .ok (.aload_n 0, 1) := by decide +kernel
theorem dX7_findsShapes_49 : decode cX7_findsShapes 49 = .ok (.getfield 34, 3) := by decide +kernel
theorem dX7_findsShapes_52 : decode cX7_findsShapes 52 = .ok (.aload_n 0, 1) := by decide +kernel
theorem dX7_findsShapes_53 : decode cX7_findsShapes 53 = .ok (.getfield 136, 3) := by decide +kernel
theorem dX7_findsShapes_56 : decode cX7_findsShapes 56 = .ok (.aload_n 0, 1) := by decide +kernel
theorem dX7_findsShapes_57 : decode cX7_findsShapes 57 = .ok (.getfield 31, 3) := by decide +kernel
theorem dX7_findsShapes_60 : decode cX7_findsShapes 60 = .ok (.iload_n 3, 1) := by decide +kernel
theorem dX7_findsShapes_61 : decode cX7_findsShapes 61 = .ok (.iaload, 1) := by decide +kernel
theorem dX7_findsShapes_62 : decode cX7_findsShapes 62 = .ok (.iastore, 1) := by decide +kernel
theorem dX7_findsShapes_63 : decode cX7_findsShapes 63 = .ok (.aload_n 0, 1) := by decide +kernel
theorem dX7_findsShapes_64 : decode cX7_findsShapes 64 = .ok (.dup, 1) := by decide +kernel
theorem dX7_findsShapes_65 : decode cX7_findsShapes 65 = .ok (.getfield 136, 3) := by decide +kernel
theorem dX7_findsShapes_68 : decode cX7_findsShapes 68 = .ok (.iconst 1, 1) := by decide +kernel
theorem dX7_findsShapes_69 : decode cX7_findsShapes 69 = .ok (.iadd, 1) := by decide +kernel
theorem dX7_findsShapes_70 : decode cX7_findsShapes 70 = .ok (.putfield 136, 3) := by decide +kernel
theorem dX7_findsShapes_73 : decode cX7_findsShapes 73 = .ok (.iinc 3 1, 3) := by decide +kernel
theorem dX7_findsShapes_76 : decode cX7_findsShapes 76 = .ok (.goto (-61), 3) := by decide +kernel
theorem dX7_findsShapes_79 : decode cX7_findsShapes 79 = .ok (.return_, 1) := by decide +kernel
theorem dX7_findsBest_0 : decode cX7_findsBest 0 = .ok (.aload_n 0, 1) := by decide +kernel
theorem dX7_findsBest_1 : decode cX7_findsBest 1 = .ok (.aload_n 1, 1) := by decide +kernel
theorem dX7_findsBest_2 : decode cX7_findsBest 2 = .ok (.iload_n 2, 1) := by decide +kernel
theorem dX7_findsBest_3 : decode cX7_findsBest 3 = .ok (.invokevirtual 145, 3) := by decide +kernel
theorem dX7_findsBest_6 : decode cX7_findsBest 6 = .ok (.aload_n 0, 1) := by decide +kernel
theorem dX7_findsBest_7 : decode cX7_findsBest 7 = .ok (.bipush (-4), 2) := by decide +kernel
theorem dX7_findsBest_9 : decode cX7_findsBest 9 = .ok (.putfield 148, 3) := by decide +kernel
theorem dX7_findsBest_12 : decode cX7_findsBest 12 = .ok (.aload_n 0, 1) := by decide +kernel
theorem dX7_findsBest_13 : decode cX7_findsBest 13 = .ok (.iconst 0, 1) := by decide +kernel
theorem dX7_findsBest_14 : decode cX7_findsBest 14 = .ok (.putfield 151, 3) := by decide +kernel
theorem dX7_findsBest_17 : decode cX7_findsBest 17 = .ok (.aload_n 0, 1) := by decide +kernel
theorem dX7_findsBest_18 : decode cX7_findsBest 18 = .ok (.iconst 0, 1) := by decide +kernel
theorem dX7_findsBest_19 : decode cX7_findsBest 19 = .ok (.putfield 154, 3) := by decide +kernel
theorem dX7_findsBest_22 : decode cX7_findsBest 22 = .ok (.iconst 0, 1) := by decide +kernel
theorem dX7_findsBest_23 : decode cX7_findsBest 23 = .ok (.istore_n 3, 1) := by decide +kernel
theorem dX7_findsBest_24 : decode cX7_findsBest 24 = .ok (.iload_n 3, 1) := by decide +kernel
theorem dX7_findsBest_25 : decode cX7_findsBest 25 = .ok (.aload_n 0, 1) := by decide +kernel
theorem dX7_findsBest_26 : decode cX7_findsBest 26 = .ok (.getfield 136, 3) := by decide +kernel
theorem dX7_findsBest_29 : decode cX7_findsBest 29 = .ok (.if_icmp .ge 103, 3) := by decide +kernel
theorem dX7_findsBest_32 : decode cX7_findsBest 32 = .ok (.aload_n 0, 1) := by decide +kernel
theorem dX7_findsBest_33 : decode cX7_findsBest 33 = .ok (.aload_n 1, 1) := by decide +kernel
theorem dX7_findsBest_34 : decode cX7_findsBest 34 = .ok (.aload_n 0, 1) := by decide +kernel
theorem dX7_findsBest_35 : decode cX7_findsBest 35 = .ok (.getfield 34, 3) := by decide +kernel
theorem dX7_findsBest_38 : decode cX7_findsBest 38 = .ok (.iload_n 3, 1) := by decide +kernel
theorem dX7_findsBest_39 : decode cX7_findsBest 39 = .ok (.iaload, 1) := by decide +kernel
theorem dX7_findsBest_40 : decode cX7_findsBest 40 = .ok (.invokevirtual 157, 3) := by decide +kernel
theorem dX7_findsBest_43 : decode cX7_findsBest 43 = .ok (.aload_n 0, 1) := by decide +kernel
theorem dX7_findsBest_44 : decode cX7_findsBest 44 = .ok (.aload_n 0, 1) := by decide +kernel
theorem dX7_findsBest_45 : decode cX7_findsBest 45 = .ok (.getfield 34, 3) := by decide +kernel
theorem dX7_findsBest_48 : decode cX7_findsBest 48 = .ok (.iload_n 3, 1) := by decide +kernel
theorem dX7_findsBest_49 : decode cX7_findsBest 49 = .ok (.iaload, 1) := by decide +kernel
theorem dX7_findsBest_50 : decode cX7_findsBest 50 = .ok (.invokevirtual 160, 3) := by decide +kernel
theorem dX7_findsBest_53 : decode cX7_findsBest 53 = .ok (.istore 4, 2) := by decide +kernel
theorem dX7_findsBest_55 : decode cX7_findsBest 55 = .ok (.aload_n 0, 1) := by decide +kernel
theorem dX7_findsBest_56 : decode cX7_findsBest 56 = .ok (.getfield 148, 3) := by decide +kernel
theorem dX7_findsBest_59 : decode cX7_findsBest 59 = .ok (.bipush (-4), 2) := by decide +kernel
theorem dX7_findsBest_61 : decode cX7_findsBest 61 = .ok (.if_icmp .eq 38, 3) := by decide +kernel
theorem dX7_findsBest_64 : decode cX7_findsBest 64 = .ok (.iload 4, 2) := by decide +kernel
theorem dX7_findsBest_66 : decode cX7_findsBest 66 = .ok (.aload_n 0, 1) := by decide +kernel
theorem dX7_findsBest_67 : decode cX7_findsBest 67 = .ok (.getfield 151, 3) := by decide +kernel
theorem dX7_findsBest_70 : decode cX7_findsBest 70 = .ok (.if_icmp .gt 29, 3) := by decide +kernel
theorem dX7_findsBest_73 : decode cX7_findsBest 73 = .ok (.iload 4, 2) := by decide +kernel
theorem dX7_findsBest_75 : decode cX7_findsBest 75 = .ok (.aload_n 0, 1) := by decide +kernel
theorem dX7_findsBest_76 : decode cX7_findsBest 76 = .ok (.getfield 151, 3) := by decide +kernel
theorem dX7_findsBest_79 : decode cX7_findsBest 79 = .ok (.if_icmp .ne 47, 3) := by decide +kernel
theorem dX7_findsBest_82 : decode cX7_findsBest 82 = .ok (.aload_n 0, 1) := by decide +kernel
theorem dX7_findsBest_83 : decode cX7_findsBest 83 = .ok (.getfield 129, 3) := by decide +kernel
theorem dX7_findsBest_86 : decode cX7_findsBest 86 = .ok (.invokestatic 132, 3) := by decide +kernel
theorem dX7_findsBest_89 : decode cX7_findsBest 89 = .ok (.aload_n 0, 1) := by decide +kernel
theorem dX7_findsBest_90 : decode cX7_findsBest 90 = .ok (.getfield 154, 3) := by decide +kernel
theorem dX7_findsBest_93 : decode cX7_findsBest 93 = .ok (.invokestatic 132, 3) := by decide +kernel
theorem dX7_findsBest_96 : decode cX7_findsBest 96 = .ok (.if_icmp .le 30, 3) := by decide +kernel
theorem dX7_findsBest_99 : decode cX7_findsBest 99 = .ok (.aload_n 0, 1) := by decide +kernel
theorem dX7_findsBest_100 : decode cX7_findsBest 100 = .ok (.iload_n 3, 1) := by decide +kernel
theorem dX7_findsBest_101 : decode cX7_findsBest 101 = .ok (.putfield 148, 3) := by decide +kernel
theorem dX7_findsBest_104 : decode cX7_findsBest 104 = .ok (.aload_n 0, 1) := by decide +kernel
theorem dX7_findsBest_105 : decode cX7_findsBest 105 = .ok (.iload 4, 2) := by decide +kernel
theorem dX7_findsBest_107 : decode cX7_findsBest 107 = .ok (.putfield 151, 3) := by decide +kernel
theorem dX7_findsBest_110 : decode cX7_findsBest 110 = .ok (.aload_n 0, 1) := by decide +kernel
theorem dX7_findsBest_111 : decode cX7_findsBest 111 = .ok (.aload_n 0, 1) := by decide +kernel
theorem dX7_findsBest_112 : decode cX7_findsBest 112 = .ok (.getfield 129, 3) := by decide +kernel
theorem dX7_findsBest_115 : decode cX7_findsBest 115 = .ok (.putfield 154, 3) := by decide +kernel
theorem dX7_findsBest_118 : decode cX7_findsBest 118 = .ok (.aload_n 0, 1) := by decide +kernel
theorem dX7_findsBest_119 : decode cX7_findsBest 119 = .ok (.aload_n 0, 1) := by decide +kernel
theorem dX7_findsBest_120 : decode cX7_findsBest 120 = .ok (.getfield 126, 3) := by decide +kernel
theorem dX7_findsBest_123 : decode cX7_findsBest 123 = .ok (.putfield 163, 3) := by decide +kernel
theorem dX7_findsBest_126 : decode cX7_findsBest 126 = .ok (.iinc 3 1, 3) := by decide +kernel
theorem dX7_findsBest_129 : decode cX7_findsBest 129 = .ok (.goto (-105), 3) := by decide +kernel
theorem dX7_findsBest_132 : decode cX7_findsBest 132 = .ok (.return_, 1) := by decide +kernel
theorem dX7_allOf_0 : decode cX7_allOf 0 = .ok (.iconst 1, 1) := by decide +kernel
theorem dX7_allOf_1 : decode cX7_allOf 1 = .ok (.aload_n 0, 1) := by decide +kernel
theorem dX7_allOf_2 : decode cX7_allOf 2 = .ok (.iconst 0, 1) := by decide +kernel
theorem dX7_allOf_3 : decode cX7_allOf 3 = .ok (.iaload, 1) := by decide +kernel
theorem dX7_allOf_4 : decode cX7_allOf 4 = .ok (.ishl, 1) := by decide +kernel
theorem dX7_allOf_5 : decode cX7_allOf 5 = .ok (.iconst 1, 1) := by decide +kernel
theorem dX7_allOf_6 : decode cX7_allOf 6 = .ok (.isub, 1) := by decide +kernel
theorem dX7_allOf_7 : decode cX7_allOf 7 = .ok (.ireturn, 1) := by decide +kernel
theorem dX7_largest_0 : decode cX7_largest 0 = .ok (.aload_n 0, 1) := by decide +kernel
theorem dX7_largest_1 : decode cX7_largest 1 = .ok (.iload_n 1, 1) := by decide +kernel
theorem dX7_largest_2 : decode cX7_largest 2 = .ok (.iload_n 2, 1) := by decide +kernel
theorem dX7_largest_3 : decode cX7_largest 3 = .ok (.invokevirtual 107, 3) := by decide +kernel
theorem dX7_largest_6 : decode cX7_largest 6 = .ok (.ifCond .ne 5, 3) := by decide +kernel
theorem dX7_largest_9 : decode cX7_largest 9 = .ok (.iconst (-1), 1) := by decide +kernel
theorem dX7_largest_10 : decode cX7_largest 10 = .ok (.ireturn, 1) := by decide +kernel
theorem dX7_largest_11 : decode cX7_largest 11 = .ok (.aload_n 0, 1) := by decide +kernel
theorem dX7_largest_12 : decode cX7_largest 12 = .ok (.aload_n 0, 1) := by decide +kernel
theorem dX7_largest_13 : decode cX7_largest 13 = .ok (.getfield 7, 3) := by decide +kernel
theorem dX7_largest_16 : decode cX7_largest 16 = .ok (.aload_n 0, 1) := by decide +kernel
theorem dX7_largest_17 : decode cX7_largest 17 = .ok (.getfield 7, 3) := by decide +kernel
theorem dX7_largest_20 : decode cX7_largest 20 = .ok (.invokestatic 166, 3) := by decide +kernel
theorem dX7_largest_23 : decode cX7_largest 23 = .ok (.invokevirtual 139, 3) := by decide +kernel
theorem dX7_largest_26 : decode cX7_largest 26 = .ok (.aload_n 0, 1) := by decide +kernel
theorem dX7_largest_27 : decode cX7_largest 27 = .ok (.getfield 31, 3) := by decide +kernel
theorem dX7_largest_30 : decode cX7_largest 30 = .ok (.bipush 23, 2) := by decide +kernel
theorem dX7_largest_32 : decode cX7_largest 32 = .ok (.iload_n 1, 1) := by decide +kernel
theorem dX7_largest_33 : decode cX7_largest 33 = .ok (.bipush 19, 2) := by decide +kernel
theorem dX7_largest_35 : decode cX7_largest 35 = .ok (.iadd, 1) := by decide +kernel
theorem dX7_largest_36 : decode cX7_largest 36 = .ok (.imul, 1) := by decide +kernel
theorem dX7_largest_37 : decode cX7_largest 37 = .ok (.iload_n 2, 1) := by decide +kernel
theorem dX7_largest_38 : decode cX7_largest 38 = .ok (.iadd, 1) := by decide +kernel
theorem dX7_largest_39 : decode cX7_largest 39 = .ok (.bipush 11, 2) := by decide +kernel
theorem dX7_largest_41 : decode cX7_largest 41 = .ok (.iadd, 1) := by decide +kernel
theorem dX7_largest_42 : decode cX7_largest 42 = .ok (.iaload, 1) := by decide +kernel
theorem dX7_largest_43 : decode cX7_largest 43 = .ok (.ireturn, 1) := by decide +kernel
theorem dX7_meets_0 : decode cX7_meets 0 = .ok (.aload_n 0, 1) := by decide +kernel
theorem dX7_meets_1 : decode cX7_meets 1 = .ok (.iload_n 1, 1) := by decide +kernel
theorem dX7_meets_2 : decode cX7_meets 2 = .ok (.invokevirtual 92, 3) := by decide +kernel
theorem dX7_meets_5 : decode cX7_meets 5 = .ok (.ifCond .eq 12, 3) := by decide +kernel
theorem dX7_meets_8 : decode cX7_meets 8 = .ok (.aload_n 0, 1) := by decide +kernel
theorem dX7_meets_9 : decode cX7_meets 9 = .ok (.iload_n 2, 1) := by decide +kernel
theorem dX7_meets_10 : decode cX7_meets 10 = .ok (.iload_n 3, 1) := by decide +kernel
theorem dX7_meets_11 : decode cX7_meets 11 = .ok (.invokevirtual 107, 3) := by decide +kernel
theorem dX7_meets_14 : decode cX7_meets 14 = .ok (.ifCond .ne 5, 3) := by decide +kernel
theorem dX7_meets_17 : decode cX7_meets 17 = .ok (.iconst (-1), 1) := by decide +kernel
theorem dX7_meets_18 : decode cX7_meets 18 = .ok (.ireturn, 1) := by decide +kernel
theorem dX7_meets_19 : decode cX7_meets 19 = .ok (.aload_n 0, 1) := by decide +kernel
theorem dX7_meets_20 : decode cX7_meets 20 = .ok (.aload_n 0, 1) := by decide +kernel
theorem dX7_meets_21 : decode cX7_meets 21 = .ok (.getfield 7, 3) := by decide +kernel
theorem dX7_meets_24 : decode cX7_meets 24 = .ok (.aload_n 0, 1) := by decide +kernel
theorem dX7_meets_25 : decode cX7_meets 25 = .ok (.getfield 7, 3) := by decide +kernel
theorem dX7_meets_28 : decode cX7_meets 28 = .ok (.invokestatic 166, 3) := by decide +kernel
theorem dX7_meets_31 : decode cX7_meets 31 = .ok (.invokevirtual 139, 3) := by decide +kernel
theorem dX7_meets_34 : decode cX7_meets 34 = .ok (.aload_n 0, 1) := by decide +kernel
theorem dX7_meets_35 : decode cX7_meets 35 = .ok (.aload_n 0, 1) := by decide +kernel
theorem dX7_meets_36 : decode cX7_meets 36 = .ok (.getfield 7, 3) := by decide +kernel
theorem dX7_meets_39 : decode cX7_meets 39 = .ok (.iload_n 1, 1) := by decide +kernel
theorem dX7_meets_40 : decode cX7_meets 40 = .ok (.iload_n 2, 1) := by decide +kernel
theorem dX7_meets_41 : decode cX7_meets 41 = .ok (.iload_n 3, 1) := by decide +kernel
theorem dX7_meets_42 : decode cX7_meets 42 = .ok (.invokevirtual 122, 3) := by decide +kernel
theorem dX7_meets_45 : decode cX7_meets 45 = .ok (.ireturn, 1) := by decide +kernel
theorem dX7_shape_0 : decode cX7_shape 0 = .ok (.aload_n 0, 1) := by decide +kernel
theorem dX7_shape_1 : decode cX7_shape 1 = .ok (.aload_n 0, 1) := by decide +kernel
theorem dX7_shape_2 : decode cX7_shape 2 = .ok (.getfield 7, 3) := by decide +kernel
theorem dX7_shape_5 : decode cX7_shape 5 = .ok (.aload_n 0, 1) := by decide +kernel
theorem dX7_shape_6 : decode cX7_shape 6 = .ok (.getfield 7, 3) := by decide +kernel
theorem dX7_shape_9 : decode cX7_shape 9 = .ok (.invokestatic 166, 3) := by decide +kernel
theorem dX7_shape_12 : decode cX7_shape 12 = .ok (.invokevirtual 145, 3) := by decide +kernel
theorem dX7_shape_15 : decode cX7_shape 15 = .ok (.iload_n 1, 1) := by decide +kernel
theorem dX7_shape_16 : decode cX7_shape 16 = .ok (.iconst 0, 1) := by decide +kernel
theorem dX7_shape_17 : decode cX7_shape 17 = .ok (.aload_n 0, 1) := by decide +kernel
theorem dX7_shape_18 : decode cX7_shape 18 = .ok (.getfield 136, 3) := by decide +kernel
theorem dX7_shape_21 : decode cX7_shape 21 = .ok (.iconst 1, 1) := by decide +kernel
theorem dX7_shape_22 : decode cX7_shape 22 = .ok (.isub, 1) := by decide +kernel
theorem dX7_shape_23 : decode cX7_shape 23 = .ok (.invokestatic 68, 3) := by decide +kernel
theorem dX7_shape_26 : decode cX7_shape 26 = .ok (.ifCond .eq 12, 3) := by decide +kernel
theorem dX7_shape_29 : decode cX7_shape 29 = .ok (.iload_n 2, 1) := by decide +kernel
theorem dX7_shape_30 : decode cX7_shape 30 = .ok (.iconst 0, 1) := by decide +kernel
theorem dX7_shape_31 : decode cX7_shape 31 = .ok (.iconst 3, 1) := by decide +kernel
theorem dX7_shape_32 : decode cX7_shape 32 = .ok (.invokestatic 68, 3) := by decide +kernel
theorem dX7_shape_35 : decode cX7_shape 35 = .ok (.ifCond .ne 5, 3) := by decide +kernel
theorem dX7_shape_38 : decode cX7_shape 38 = .ok (.iconst (-1), 1) := by decide +kernel
theorem dX7_shape_39 : decode cX7_shape 39 = .ok (.ireturn, 1) := by decide +kernel
theorem dX7_shape_40 : decode cX7_shape 40 = .ok (.aload_n 0, 1) := by decide +kernel
theorem dX7_shape_41 : decode cX7_shape 41 = .ok (.getfield 34, 3) := by decide +kernel
theorem dX7_shape_44 : decode cX7_shape 44 = .ok (.iload_n 1, 1) := by decide +kernel
theorem dX7_shape_45 : decode cX7_shape 45 = .ok (.iaload, 1) := by decide +kernel
theorem dX7_shape_46 : decode cX7_shape 46 = .ok (.istore_n 3, 1) := by decide +kernel
theorem dX7_shape_47 : decode cX7_shape 47 = .ok (.aload_n 0, 1) := by decide +kernel
theorem dX7_shape_48 : decode cX7_shape 48 = .ok (.aload_n 0, 1) := by decide +kernel
theorem dX7_shape_49 : decode cX7_shape 49 = .ok (.getfield 7, 3) := by decide +kernel
theorem dX7_shape_52 : decode cX7_shape 52 = .ok (.iload_n 3, 1) := by decide +kernel
theorem dX7_shape_53 : decode cX7_shape 53 = .ok (.invokevirtual 157, 3) := by decide +kernel
theorem dX7_shape_56 : decode cX7_shape 56 = .ok (.iload_n 2, 1) := by decide +kernel
theorem dX7_shape_57 : decode cX7_shape 57 = .ok (.ifCond .ne 7, 3) := by decide +kernel
theorem dX7_shape_60 : decode cX7_shape 60 = .ok (.iload_n 3, 1) := by decide +kernel
theorem dX7_shape_61 : decode cX7_shape 61 = .ok (.goto 35, 3) := by decide +kernel
theorem dX7_shape_64 : decode cX7_shape 64 = .ok (.iload_n 2, 1) := by decide +kernel
theorem dX7_shape_65 : decode cX7_shape 65 = .ok (.iconst 1, 1) := by decide +kernel
theorem dX7_shape_66 : decode cX7_shape 66 = .ok (.if_icmp .ne 10, 3) := by decide +kernel
theorem dX7_shape_69 : decode cX7_shape 69 = .ok (.aload_n 0, 1) := by decide +kernel
theorem dX7_shape_70 : decode cX7_shape 70 = .ok (.getfield 126, 3) := by decide +kernel
theorem dX7_shape_73 : decode cX7_shape 73 = .ok (.goto 23, 3) := by decide +kernel
theorem dX7_shape_76 : decode cX7_shape 76 = .ok (.iload_n 2, 1) := by decide +kernel
theorem dX7_shape_77 : decode cX7_shape 77 = .ok (.iconst 2, 1) := by decide +kernel
theorem dX7_shape_78 : decode cX7_shape 78 = .ok (.if_icmp .ne 10, 3) := by decide +kernel
theorem dX7_shape_81 : decode cX7_shape 81 = .ok (.aload_n 0, 1) := by decide +kernel
theorem dX7_shape_82 : decode cX7_shape 82 = .ok (.getfield 129, 3) := by decide +kernel
theorem dX7_shape_85 : decode cX7_shape 85 = .ok (.goto 11, 3) := by decide +kernel
theorem dX7_shape_88 : decode cX7_shape 88 = .ok (.aload_n 0, 1) := by decide +kernel
theorem dX7_shape_89 : decode cX7_shape 89 = .ok (.iload_n 3, 1) := by decide +kernel
theorem dX7_shape_90 : decode cX7_shape 90 = .ok (.invokevirtual 160, 3) := by decide +kernel
theorem dX7_shape_93 : decode cX7_shape 93 = .ok (.bipush 100, 2) := by decide +kernel
theorem dX7_shape_95 : decode cX7_shape 95 = .ok (.iadd, 1) := by decide +kernel
theorem dX7_shape_96 : decode cX7_shape 96 = .ok (.ireturn, 1) := by decide +kernel
theorem dX7_place_0 : decode cX7_place 0 = .ok (.iload_n 1, 1) := by decide +kernel
theorem dX7_place_1 : decode cX7_place 1 = .ok (.iconst 1, 1) := by decide +kernel
theorem dX7_place_2 : decode cX7_place 2 = .ok (.aload_n 0, 1) := by decide +kernel
theorem dX7_place_3 : decode cX7_place 3 = .ok (.getfield 7, 3) := by decide +kernel
theorem dX7_place_6 : decode cX7_place 6 = .ok (.invokestatic 166, 3) := by decide +kernel
theorem dX7_place_9 : decode cX7_place 9 = .ok (.invokestatic 68, 3) := by decide +kernel
theorem dX7_place_12 : decode cX7_place 12 = .ok (.ifCond .eq 8, 3) := by decide +kernel
theorem dX7_place_15 : decode cX7_place 15 = .ok (.iload_n 2, 1) := by decide +kernel
theorem dX7_place_16 : decode cX7_place 16 = .ok (.iconst (-1), 1) := by decide +kernel
theorem dX7_place_17 : decode cX7_place 17 = .ok (.if_icmp .ge 5, 3) := by decide +kernel
theorem dX7_place_20 : decode cX7_place 20 = .ok (.iconst (-1), 1) := by decide +kernel
theorem dX7_place_21 : decode cX7_place 21 = .ok (.ireturn, 1) := by decide +kernel
theorem dX7_place_22 : decode cX7_place 22 = .ok (.aload_n 0, 1) := by decide +kernel
theorem dX7_place_23 : decode cX7_place 23 = .ok (.aload_n 0, 1) := by decide +kernel
theorem dX7_place_24 : decode cX7_place 24 = .ok (.getfield 7, 3) := by decide +kernel
theorem dX7_place_27 : decode cX7_place 27 = .ok (.aload_n 0, 1) := by decide +kernel
theorem dX7_place_28 : decode cX7_place 28 = .ok (.getfield 7, 3) := by decide +kernel
theorem dX7_place_31 : decode cX7_place 31 = .ok (.invokestatic 166, 3) := by decide +kernel
theorem dX7_place_34 : decode cX7_place 34 = .ok (.invokevirtual 139, 3) := by decide +kernel
theorem dX7_place_37 : decode cX7_place 37 = .ok (.iconst 0, 1) := by decide +kernel
theorem dX7_place_38 : decode cX7_place 38 = .ok (.istore_n 3, 1) := by decide +kernel
theorem dX7_place_39 : decode cX7_place 39 = .ok (.iconst 0, 1) := by decide +kernel
theorem dX7_place_40 : decode cX7_place 40 = .ok (.istore 4, 2) := by decide +kernel
theorem dX7_place_42 : decode cX7_place 42 = .ok (.iload 4, 2) := by decide +kernel
theorem dX7_place_44 : decode cX7_place 44 = .ok (.sipush 897, 3) := by decide +kernel
theorem dX7_place_47 : decode cX7_place 47 = .ok (.if_icmp .ge 51, 3) := by decide +kernel
theorem dX7_place_50 : decode cX7_place 50 = .ok (.aload_n 0, 1) := by decide +kernel
theorem dX7_place_51 : decode cX7_place 51 = .ok (.getfield 31, 3) := by decide +kernel
theorem dX7_place_54 : decode cX7_place 54 = .ok (.iload 4, 2) := by decide +kernel
theorem dX7_place_56 : decode cX7_place 56 = .ok (.iaload, 1) := by decide +kernel
theorem dX7_place_57 : decode cX7_place 57 = .ok (.iload_n 1, 1) := by decide +kernel
theorem dX7_place_58 : decode cX7_place 58 = .ok (.iand, 1) := by decide +kernel
theorem dX7_place_59 : decode cX7_place 59 = .ok (.iload_n 1, 1) := by decide +kernel
theorem dX7_place_60 : decode cX7_place 60 = .ok (.if_icmp .ne 32, 3) := by decide +kernel
theorem dX7_place_63 : decode cX7_place 63 = .ok (.iload_n 3, 1) := by decide +kernel
theorem dX7_place_64 : decode cX7_place 64 = .ok (.iload_n 2, 1) := by decide +kernel
theorem dX7_place_65 : decode cX7_place 65 = .ok (.if_icmp .ne 24, 3) := by decide +kernel
theorem dX7_place_68 : decode cX7_place 68 = .ok (.bipush 100, 2) := by decide +kernel
theorem dX7_place_70 : decode cX7_place 70 = .ok (.iload 4, 2) := by decide +kernel
theorem dX7_place_72 : decode cX7_place 72 = .ok (.bipush 23, 2) := by decide +kernel
theorem dX7_place_74 : decode cX7_place 74 = .ok (.idiv, 1) := by decide +kernel
theorem dX7_place_75 : decode cX7_place 75 = .ok (.bipush 31, 2) := by decide +kernel
theorem dX7_place_77 : decode cX7_place 77 = .ok (.iadd, 1) := by decide +kernel
theorem dX7_place_78 : decode cX7_place 78 = .ok (.imul, 1) := by decide +kernel
theorem dX7_place_79 : decode cX7_place 79 = .ok (.iload 4, 2) := by decide +kernel
theorem dX7_place_81 : decode cX7_place 81 = .ok (.bipush 23, 2) := by decide +kernel
theorem dX7_place_83 : decode cX7_place 83 = .ok (.irem, 1) := by decide +kernel
theorem dX7_place_84 : decode cX7_place 84 = .ok (.iadd, 1) := by decide +kernel
theorem dX7_place_85 : decode cX7_place 85 = .ok (.bipush 39, 2) := by decide +kernel
theorem dX7_place_87 : decode cX7_place 87 = .ok (.iadd, 1) := by decide +kernel
theorem dX7_place_88 : decode cX7_place 88 = .ok (.ireturn, 1) := by decide +kernel
theorem dX7_place_89 : decode cX7_place 89 = .ok (.iinc 3 1, 3) := by decide +kernel
theorem dX7_place_92 : decode cX7_place 92 = .ok (.iinc 4 1, 3) := by decide +kernel
theorem dX7_place_95 : decode cX7_place 95 = .ok (.goto (-53), 3) := by decide +kernel
theorem dX7_place_98 : decode cX7_place 98 = .ok (.iload_n 2, 1) := by decide +kernel
theorem dX7_place_99 : decode cX7_place 99 = .ok (.iconst (-1), 1) := by decide +kernel
theorem dX7_place_100 : decode cX7_place 100 = .ok (.if_icmp .ne 7, 3) := by decide +kernel
theorem dX7_place_103 : decode cX7_place 103 = .ok (.iload_n 3, 1) := by decide +kernel
theorem dX7_place_104 : decode cX7_place 104 = .ok (.goto 5, 3) := by decide +kernel
theorem dX7_place_107 : decode cX7_place 107 = .ok (.bipush (-4), 2) := by decide +kernel
theorem dX7_place_109 : decode cX7_place 109 = .ok (.ireturn, 1) := by decide +kernel
theorem dX7_best_0 : decode cX7_best 0 = .ok (.iload_n 1, 1) := by decide +kernel
theorem dX7_best_1 : decode cX7_best 1 = .ok (.iconst 0, 1) := by decide +kernel
theorem dX7_best_2 : decode cX7_best 2 = .ok (.iconst 1, 1) := by decide +kernel
theorem dX7_best_3 : decode cX7_best 3 = .ok (.invokestatic 68, 3) := by decide +kernel
theorem dX7_best_6 : decode cX7_best 6 = .ok (.ifCond .ne 5, 3) := by decide +kernel
theorem dX7_best_9 : decode cX7_best 9 = .ok (.iconst (-1), 1) := by decide +kernel
theorem dX7_best_10 : decode cX7_best 10 = .ok (.ireturn, 1) := by decide +kernel
theorem dX7_best_11 : decode cX7_best 11 = .ok (.aload_n 0, 1) := by decide +kernel
theorem dX7_best_12 : decode cX7_best 12 = .ok (.aload_n 0, 1) := by decide +kernel
theorem dX7_best_13 : decode cX7_best 13 = .ok (.getfield 7, 3) := by decide +kernel
theorem dX7_best_16 : decode cX7_best 16 = .ok (.aload_n 0, 1) := by decide +kernel
theorem dX7_best_17 : decode cX7_best 17 = .ok (.getfield 7, 3) := by decide +kernel
theorem dX7_best_20 : decode cX7_best 20 = .ok (.invokestatic 166, 3) := by decide +kernel
theorem dX7_best_23 : decode cX7_best 23 = .ok (.invokevirtual 170, 3) := by decide +kernel
theorem dX7_best_26 : decode cX7_best 26 = .ok (.aload_n 0, 1) := by decide +kernel
theorem dX7_best_27 : decode cX7_best 27 = .ok (.getfield 148, 3) := by decide +kernel
theorem dX7_best_30 : decode cX7_best 30 = .ok (.bipush (-4), 2) := by decide +kernel
theorem dX7_best_32 : decode cX7_best 32 = .ok (.if_icmp .ne 8, 3) := by decide +kernel
theorem dX7_best_35 : decode cX7_best 35 = .ok (.bipush (-4), 2) := by decide +kernel
theorem dX7_best_37 : decode cX7_best 37 = .ok (.goto 21, 3) := by decide +kernel
theorem dX7_best_40 : decode cX7_best 40 = .ok (.iload_n 1, 1) := by decide +kernel
theorem dX7_best_41 : decode cX7_best 41 = .ok (.ifCond .ne 10, 3) := by decide +kernel
theorem dX7_best_44 : decode cX7_best 44 = .ok (.aload_n 0, 1) := by decide +kernel
theorem dX7_best_45 : decode cX7_best 45 = .ok (.getfield 148, 3) := by decide +kernel
theorem dX7_best_48 : decode cX7_best 48 = .ok (.goto 10, 3) := by decide +kernel
theorem dX7_best_51 : decode cX7_best 51 = .ok (.aload_n 0, 1) := by decide +kernel
theorem dX7_best_52 : decode cX7_best 52 = .ok (.getfield 151, 3) := by decide +kernel
theorem dX7_best_55 : decode cX7_best 55 = .ok (.bipush 100, 2) := by decide +kernel
theorem dX7_best_57 : decode cX7_best 57 = .ok (.iadd, 1) := by decide +kernel
theorem dX7_best_58 : decode cX7_best 58 = .ok (.ireturn, 1) := by decide +kernel
theorem dX7_isParted_0 : decode cX7_isParted 0 = .ok (.aload_n 0, 1) := by decide +kernel
theorem dX7_isParted_1 : decode cX7_isParted 1 = .ok (.iconst 0, 1) := by decide +kernel
theorem dX7_isParted_2 : decode cX7_isParted 2 = .ok (.putfield 173, 3) := by decide +kernel
theorem dX7_isParted_5 : decode cX7_isParted 5 = .ok (.aload_n 0, 1) := by decide +kernel
theorem dX7_isParted_6 : decode cX7_isParted 6 = .ok (.aload_n 1, 1) := by decide +kernel
theorem dX7_isParted_7 : decode cX7_isParted 7 = .ok (.invokestatic 166, 3) := by decide +kernel
theorem dX7_isParted_10 : decode cX7_isParted 10 = .ok (.putfield 176, 3) := by decide +kernel
theorem dX7_isParted_13 : decode cX7_isParted 13 = .ok (.aload_n 0, 1) := by decide +kernel
theorem dX7_isParted_14 : decode cX7_isParted 14 = .ok (.iconst 0, 1) := by decide +kernel
theorem dX7_isParted_15 : decode cX7_isParted 15 = .ok (.putfield 179, 3) := by decide +kernel
theorem dX7_isParted_18 : decode cX7_isParted 18 = .ok (.aload_n 0, 1) := by decide +kernel
theorem dX7_isParted_19 : decode cX7_isParted 19 = .ok (.aload_n 1, 1) := by decide +kernel
theorem dX7_isParted_20 : decode cX7_isParted 20 = .ok (.aload_n 0, 1) := by decide +kernel
theorem dX7_isParted_21 : decode cX7_isParted 21 = .ok (.getfield 176, 3) := by decide +kernel
theorem dX7_isParted_24 : decode cX7_isParted 24 = .ok (.invokevirtual 170, 3) := by decide +kernel
theorem dX7_isParted_27 : decode cX7_isParted 27 = .ok (.aload_n 0, 1) := by decide +kernel
theorem dX7_isParted_28 : decode cX7_isParted 28 = .ok (.getfield 148, 3) := by decide +kernel
theorem dX7_isParted_31 : decode cX7_isParted 31 = .ok (.bipush (-4), 2) := by decide +kernel
theorem dX7_isParted_33 : decode cX7_isParted 33 = .ok (.if_icmp .eq 138, 3) := by decide +kernel
theorem dX7_isParted_36 : decode cX7_isParted 36 = .ok (.aload_n 0, 1) := by decide +kernel
theorem dX7_isParted_37 : decode cX7_isParted 37 = .ok (.getfield 151, 3) := by decide +kernel
theorem dX7_isParted_40 : decode cX7_isParted 40 = .ok (.ifCond .le 131, 3) := by decide +kernel
theorem dX7_isParted_43 : decode cX7_isParted 43 = .ok (.aload_n 0, 1) := by decide +kernel
theorem dX7_isParted_44 : decode cX7_isParted 44 = .ok (.getfield 37, 3) := by decide +kernel
theorem dX7_isParted_47 : decode cX7_isParted 47 = .ok (.iconst 3, 1) := by decide +kernel
theorem dX7_isParted_48 : decode cX7_isParted 48 = .ok (.aload_n 0, 1) := by decide +kernel
theorem dX7_isParted_49 : decode cX7_isParted 49 = .ok (.getfield 173, 3) := by decide +kernel
theorem dX7_isParted_52 : decode cX7_isParted 52 = .ok (.imul, 1) := by decide +kernel
theorem dX7_isParted_53 : decode cX7_isParted 53 = .ok (.aload_n 0, 1) := by decide +kernel
theorem dX7_isParted_54 : decode cX7_isParted 54 = .ok (.getfield 34, 3) := by decide +kernel
theorem dX7_isParted_57 : decode cX7_isParted 57 = .ok (.aload_n 0, 1) := by decide +kernel
theorem dX7_isParted_58 : decode cX7_isParted 58 = .ok (.getfield 148, 3) := by decide +kernel
theorem dX7_isParted_61 : decode cX7_isParted 61 = .ok (.iaload, 1) := by decide +kernel
theorem dX7_isParted_62 : decode cX7_isParted 62 = .ok (.iastore, 1) := by decide +kernel
theorem dX7_isParted_63 : decode cX7_isParted 63 = .ok (.aload_n 0, 1) := by decide +kernel
theorem dX7_isParted_64 : decode cX7_isParted 64 = .ok (.getfield 37, 3) := by decide +kernel
theorem dX7_isParted_67 : decode cX7_isParted 67 = .ok (.iconst 3, 1) := by decide +kernel
theorem dX7_isParted_68 : decode cX7_isParted 68 = .ok (.aload_n 0, 1) := by decide +kernel
theorem dX7_isParted_69 : decode cX7_isParted 69 = .ok (.getfield 173, 3) := by decide +kernel
theorem dX7_isParted_72 : decode cX7_isParted 72 = .ok (.imul, 1) := by decide +kernel
theorem dX7_isParted_73 : decode cX7_isParted 73 = .ok (.iconst 1, 1) := by decide +kernel
theorem dX7_isParted_74 : decode cX7_isParted 74 = .ok (.iadd, 1) := by decide +kernel
theorem dX7_isParted_75 : decode cX7_isParted 75 = .ok (.aload_n 0, 1) := by decide +kernel
theorem dX7_isParted_76 : decode cX7_isParted 76 = .ok (.getfield 163, 3) := by decide +kernel
theorem dX7_isParted_79 : decode cX7_isParted 79 = .ok (.iastore, 1) := by decide +kernel
theorem dX7_isParted_80 : decode cX7_isParted 80 = .ok (.aload_n 0, 1) := by decide +kernel
theorem dX7_isParted_81 : decode cX7_isParted 81 = .ok (.getfield 37, 3) := by decide +kernel
theorem dX7_isParted_84 : decode cX7_isParted 84 = .ok (.iconst 3, 1) := by decide +kernel
theorem dX7_isParted_85 : decode cX7_isParted 85 = .ok (.aload_n 0, 1) := by decide +kernel
theorem dX7_isParted_86 : decode cX7_isParted 86 = .ok (.getfield 173, 3) := by decide +kernel
theorem dX7_isParted_89 : decode cX7_isParted 89 = .ok (.imul, 1) := by decide +kernel
theorem dX7_isParted_90 : decode cX7_isParted 90 = .ok (.iconst 2, 1) := by decide +kernel
theorem dX7_isParted_91 : decode cX7_isParted 91 = .ok (.iadd, 1) := by decide +kernel
theorem dX7_isParted_92 : decode cX7_isParted 92 = .ok (.aload_n 0, 1) := by decide +kernel
theorem dX7_isParted_93 : decode cX7_isParted 93 = .ok (.getfield 154, 3) := by decide +kernel
theorem dX7_isParted_96 : decode cX7_isParted 96 = .ok (.iastore, 1) := by decide +kernel
theorem dX7_isParted_97 : decode cX7_isParted 97 = .ok (.aload_n 0, 1) := by decide +kernel
theorem dX7_isParted_98 : decode cX7_isParted 98 = .ok (.dup, 1) := by decide +kernel
theorem dX7_isParted_99 : decode cX7_isParted 99 = .ok (.getfield 179, 3) := by decide +kernel
theorem dX7_isParted_102 : decode cX7_isParted 102 = .ok (.aload_n 0, 1) := by decide +kernel
theorem dX7_isParted_103 : decode cX7_isParted 103 = .ok (.getfield 34, 3) := by decide +kernel
theorem dX7_isParted_106 : decode cX7_isParted 106 = .ok (.aload_n 0, 1) := by decide +kernel
theorem dX7_isParted_107 : decode cX7_isParted 107 = .ok (.getfield 148, 3) := by decide +kernel
theorem dX7_isParted_110 : decode cX7_isParted 110 = .ok (.iaload, 1) := by decide +kernel
theorem dX7_isParted_111 : decode cX7_isParted 111 = .ok (.invokestatic 132, 3) := by decide +kernel
theorem dX7_isParted_114 : decode cX7_isParted 114 = .ok (.aload_n 0, 1) := by decide +kernel
theorem dX7_isParted_115 : decode cX7_isParted 115 = .ok (.getfield 37, 3) := by decide +kernel
theorem dX7_isParted_118 : decode cX7_isParted 118 = .ok (.iconst 3, 1) := by decide +kernel
theorem dX7_isParted_119 : decode cX7_isParted 119 = .ok (.aload_n 0, 1) := by decide +kernel
theorem dX7_isParted_120 : decode cX7_isParted 120 = .ok (.getfield 173, 3) := by decide +kernel
theorem dX7_isParted_123 : decode cX7_isParted 123 = .ok (.imul, 1) := by decide +kernel
theorem dX7_isParted_124 : decode cX7_isParted 124 = .ok (.iconst 1, 1) := by decide +kernel
theorem dX7_isParted_125 : decode cX7_isParted 125 = .ok (.iadd, 1) := by decide +kernel
theorem dX7_isParted_126 : decode cX7_isParted 126 = .ok (.iaload, 1) := by decide +kernel
theorem dX7_isParted_127 : decode cX7_isParted 127 = .ok (.iadd, 1) := by decide +kernel
theorem dX7_isParted_128 : decode cX7_isParted 128 = .ok (.iconst 1, 1) := by decide +kernel
theorem dX7_isParted_129 : decode cX7_isParted 129 = .ok (.isub, 1) := by decide +kernel
theorem dX7_isParted_130 : decode cX7_isParted 130 = .ok (.iadd, 1) := by decide +kernel
theorem dX7_isParted_131 : decode cX7_isParted 131 = .ok (.putfield 179, 3) := by decide +kernel
theorem dX7_isParted_134 : decode cX7_isParted 134 = .ok (.aload_n 0, 1) := by decide +kernel
theorem dX7_isParted_135 : decode cX7_isParted 135 = .ok (.dup, 1) := by decide +kernel
theorem dX7_isParted_136 : decode cX7_isParted 136 = .ok (.getfield 173, 3) := by decide +kernel
theorem dX7_isParted_139 : decode cX7_isParted 139 = .ok (.iconst 1, 1) := by decide +kernel
theorem dX7_isParted_140 : decode cX7_isParted 140 = .ok (.iadd, 1) := by decide +kernel
theorem dX7_isParted_141 : decode cX7_isParted 141 = .ok (.putfield 173, 3) := by decide +kernel
theorem dX7_isParted_144 : decode cX7_isParted 144 = .ok (.aload_n 0, 1) := by decide +kernel
theorem dX7_isParted_145 : decode cX7_isParted 145 = .ok (.dup, 1) := by decide +kernel
theorem dX7_isParted_146 : decode cX7_isParted 146 = .ok (.getfield 176, 3) := by decide +kernel
theorem dX7_isParted_149 : decode cX7_isParted 149 = .ok (.aload_n 0, 1) := by decide +kernel
theorem dX7_isParted_150 : decode cX7_isParted 150 = .ok (.getfield 154, 3) := by decide +kernel
theorem dX7_isParted_153 : decode cX7_isParted 153 = .ok (.iconst (-1), 1) := by decide +kernel
theorem dX7_isParted_154 : decode cX7_isParted 154 = .ok (.ixor, 1) := by decide +kernel
theorem dX7_isParted_155 : decode cX7_isParted 155 = .ok (.iand, 1) := by decide +kernel
theorem dX7_isParted_156 : decode cX7_isParted 156 = .ok (.putfield 176, 3) := by decide +kernel
theorem dX7_isParted_159 : decode cX7_isParted 159 = .ok (.aload_n 0, 1) := by decide +kernel
theorem dX7_isParted_160 : decode cX7_isParted 160 = .ok (.aload_n 1, 1) := by decide +kernel
theorem dX7_isParted_161 : decode cX7_isParted 161 = .ok (.aload_n 0, 1) := by decide +kernel
theorem dX7_isParted_162 : decode cX7_isParted 162 = .ok (.getfield 176, 3) := by decide +kernel
theorem dX7_isParted_165 : decode cX7_isParted 165 = .ok (.invokevirtual 170, 3) := by decide +kernel
theorem dX7_isParted_168 : decode cX7_isParted 168 = .ok (.goto (-141), 3) := by decide +kernel
theorem dX7_isParted_171 : decode cX7_isParted 171 = .ok (.aload_n 0, 1) := by decide +kernel
theorem dX7_isParted_172 : decode cX7_isParted 172 = .ok (.dup, 1) := by decide +kernel
theorem dX7_isParted_173 : decode cX7_isParted 173 = .ok (.getfield 179, 3) := by decide +kernel
theorem dX7_isParted_176 : decode cX7_isParted 176 = .ok (.aload_n 0, 1) := by decide +kernel
theorem dX7_isParted_177 : decode cX7_isParted 177 = .ok (.getfield 176, 3) := by decide +kernel
theorem dX7_isParted_180 : decode cX7_isParted 180 = .ok (.invokestatic 132, 3) := by decide +kernel
theorem dX7_isParted_183 : decode cX7_isParted 183 = .ok (.iadd, 1) := by decide +kernel
theorem dX7_isParted_184 : decode cX7_isParted 184 = .ok (.putfield 179, 3) := by decide +kernel
theorem dX7_isParted_187 : decode cX7_isParted 187 = .ok (.return_, 1) := by decide +kernel
theorem dX7_parted_0 : decode cX7_parted 0 = .ok (.iload_n 1, 1) := by decide +kernel
theorem dX7_parted_1 : decode cX7_parted 1 = .ok (.ifCond .lt 12, 3) := by decide +kernel
theorem dX7_parted_4 : decode cX7_parted 4 = .ok (.iload_n 2, 1) := by decide +kernel
theorem dX7_parted_5 : decode cX7_parted 5 = .ok (.iconst 0, 1) := by decide +kernel
theorem dX7_parted_6 : decode cX7_parted 6 = .ok (.iconst 2, 1) := by decide +kernel
theorem dX7_parted_7 : decode cX7_parted 7 = .ok (.invokestatic 68, 3) := by decide +kernel
theorem dX7_parted_10 : decode cX7_parted 10 = .ok (.ifCond .ne 5, 3) := by decide +kernel
theorem dX7_parted_13 : decode cX7_parted 13 = .ok (.iconst (-1), 1) := by decide +kernel
theorem dX7_parted_14 : decode cX7_parted 14 = .ok (.ireturn, 1) := by decide +kernel
theorem dX7_parted_15 : decode cX7_parted 15 = .ok (.aload_n 0, 1) := by decide +kernel
theorem dX7_parted_16 : decode cX7_parted 16 = .ok (.aload_n 0, 1) := by decide +kernel
theorem dX7_parted_17 : decode cX7_parted 17 = .ok (.getfield 7, 3) := by decide +kernel
theorem dX7_parted_20 : decode cX7_parted 20 = .ok (.invokevirtual 182, 3) := by decide +kernel
theorem dX7_parted_23 : decode cX7_parted 23 = .ok (.iload_n 1, 1) := by decide +kernel
theorem dX7_parted_24 : decode cX7_parted 24 = .ok (.aload_n 0, 1) := by decide +kernel
theorem dX7_parted_25 : decode cX7_parted 25 = .ok (.getfield 173, 3) := by decide +kernel
theorem dX7_parted_28 : decode cX7_parted 28 = .ok (.if_icmp .ge 16, 3) := by decide +kernel
theorem dX7_parted_31 : decode cX7_parted 31 = .ok (.aload_n 0, 1) := by decide +kernel
theorem dX7_parted_32 : decode cX7_parted 32 = .ok (.getfield 37, 3) := by decide +kernel
theorem dX7_parted_35 : decode cX7_parted 35 = .ok (.iconst 3, 1) := by decide +kernel
theorem dX7_parted_36 : decode cX7_parted 36 = .ok (.iload_n 1, 1) := by decide +kernel
theorem dX7_parted_37 : decode cX7_parted 37 = .ok (.imul, 1) := by decide +kernel
theorem dX7_parted_38 : decode cX7_parted 38 = .ok (.iload_n 2, 1) := by decide +kernel
theorem dX7_parted_39 : decode cX7_parted 39 = .ok (.iadd, 1) := by decide +kernel
theorem dX7_parted_40 : decode cX7_parted 40 = .ok (.iaload, 1) := by decide +kernel
theorem dX7_parted_41 : decode cX7_parted 41 = .ok (.goto 5, 3) := by decide +kernel
theorem dX7_parted_44 : decode cX7_parted 44 = .ok (.bipush (-4), 2) := by decide +kernel
theorem dX7_parted_46 : decode cX7_parted 46 = .ok (.ireturn, 1) := by decide +kernel
theorem dX7_parting_0 : decode cX7_parting 0 = .ok (.iload_n 1, 1) := by decide +kernel
theorem dX7_parting_1 : decode cX7_parting 1 = .ok (.iconst 0, 1) := by decide +kernel
theorem dX7_parting_2 : decode cX7_parting 2 = .ok (.iconst 2, 1) := by decide +kernel
theorem dX7_parting_3 : decode cX7_parting 3 = .ok (.invokestatic 68, 3) := by decide +kernel
theorem dX7_parting_6 : decode cX7_parting 6 = .ok (.ifCond .ne 5, 3) := by decide +kernel
theorem dX7_parting_9 : decode cX7_parting 9 = .ok (.iconst (-1), 1) := by decide +kernel
theorem dX7_parting_10 : decode cX7_parting 10 = .ok (.ireturn, 1) := by decide +kernel
theorem dX7_parting_11 : decode cX7_parting 11 = .ok (.aload_n 0, 1) := by decide +kernel
theorem dX7_parting_12 : decode cX7_parting 12 = .ok (.aload_n 0, 1) := by decide +kernel
theorem dX7_parting_13 : decode cX7_parting 13 = .ok (.getfield 7, 3) := by decide +kernel
theorem dX7_parting_16 : decode cX7_parting 16 = .ok (.invokevirtual 182, 3) := by decide +kernel
theorem dX7_parting_19 : decode cX7_parting 19 = .ok (.iload_n 1, 1) := by decide +kernel
theorem dX7_parting_20 : decode cX7_parting 20 = .ok (.ifCond .ne 10, 3) := by decide +kernel
theorem dX7_parting_23 : decode cX7_parting 23 = .ok (.aload_n 0, 1) := by decide +kernel
theorem dX7_parting_24 : decode cX7_parting 24 = .ok (.getfield 173, 3) := by decide +kernel
theorem dX7_parting_27 : decode cX7_parting 27 = .ok (.goto 19, 3) := by decide +kernel
theorem dX7_parting_30 : decode cX7_parting 30 = .ok (.iload_n 1, 1) := by decide +kernel
theorem dX7_parting_31 : decode cX7_parting 31 = .ok (.iconst 1, 1) := by decide +kernel
theorem dX7_parting_32 : decode cX7_parting 32 = .ok (.if_icmp .ne 10, 3) := by decide +kernel
theorem dX7_parting_35 : decode cX7_parting 35 = .ok (.aload_n 0, 1) := by decide +kernel
theorem dX7_parting_36 : decode cX7_parting 36 = .ok (.getfield 176, 3) := by decide +kernel
theorem dX7_parting_39 : decode cX7_parting 39 = .ok (.goto 7, 3) := by decide +kernel
theorem dX7_parting_42 : decode cX7_parting 42 = .ok (.aload_n 0, 1) := by decide +kernel
theorem dX7_parting_43 : decode cX7_parting 43 = .ok (.getfield 179, 3) := by decide +kernel
theorem dX7_parting_46 : decode cX7_parting 46 = .ok (.ireturn, 1) := by decide +kernel
theorem dX7_fewest_0 : decode cX7_fewest 0 = .ok (.iconst 0, 1) := by decide +kernel
theorem dX7_fewest_1 : decode cX7_fewest 1 = .ok (.istore_n 2, 1) := by decide +kernel
theorem dX7_fewest_2 : decode cX7_fewest 2 = .ok (.iload_n 2, 1) := by decide +kernel
theorem dX7_fewest_3 : decode cX7_fewest 3 = .ok (.sipush 16384, 3) := by decide +kernel
theorem dX7_fewest_6 : decode cX7_fewest 6 = .ok (.if_icmp .ge 16, 3) := by decide +kernel
theorem dX7_fewest_9 : decode cX7_fewest 9 = .ok (.aload_n 0, 1) := by decide +kernel
theorem dX7_fewest_10 : decode cX7_fewest 10 = .ok (.getfield 40, 3) := by decide +kernel
theorem dX7_fewest_13 : decode cX7_fewest 13 = .ok (.iload_n 2, 1) := by decide +kernel
theorem dX7_fewest_14 : decode cX7_fewest 14 = .ok (.iconst (-1), 1) := by decide +kernel
theorem dX7_fewest_15 : decode cX7_fewest 15 = .ok (.iastore, 1) := by decide +kernel
theorem dX7_fewest_16 : decode cX7_fewest 16 = .ok (.iinc 2 1, 3) := by decide +kernel
theorem dX7_fewest_19 : decode cX7_fewest 19 = .ok (.goto (-17), 3) := by decide +kernel
theorem dX7_fewest_22 : decode cX7_fewest 22 = .ok (.aload_n 0, 1) := by decide +kernel
theorem dX7_fewest_23 : decode cX7_fewest 23 = .ok (.getfield 40, 3) := by decide +kernel
theorem dX7_fewest_26 : decode cX7_fewest 26 = .ok (.iconst 0, 1) := by decide +kernel
theorem dX7_fewest_27 : decode cX7_fewest 27 = .ok (.iconst 0, 1) := by decide +kernel
theorem dX7_fewest_28 : decode cX7_fewest 28 = .ok (.iastore, 1) := by decide +kernel
theorem dX7_fewest_29 : decode cX7_fewest 29 = .ok (.iconst 0, 1) := by decide +kernel
theorem dX7_fewest_30 : decode cX7_fewest 30 = .ok (.istore_n 2, 1) := by decide +kernel
theorem dX7_fewest_31 : decode cX7_fewest 31 = .ok (.aload_n 0, 1) := by decide +kernel
theorem dX7_fewest_32 : decode cX7_fewest 32 = .ok (.getfield 40, 3) := by decide +kernel
theorem dX7_fewest_35 : decode cX7_fewest 35 = .ok (.iload_n 1, 1) := by decide +kernel
theorem dX7_fewest_36 : decode cX7_fewest 36 = .ok (.iaload, 1) := by decide +kernel
theorem dX7_fewest_37 : decode cX7_fewest 37 = .ok (.ifCond .ge 93, 3) := by decide +kernel
theorem dX7_fewest_40 : decode cX7_fewest 40 = .ok (.iconst 0, 1) := by decide +kernel
theorem dX7_fewest_41 : decode cX7_fewest 41 = .ok (.istore_n 3, 1) := by decide +kernel
theorem dX7_fewest_42 : decode cX7_fewest 42 = .ok (.iload_n 3, 1) := by decide +kernel
theorem dX7_fewest_43 : decode cX7_fewest 43 = .ok (.sipush 16384, 3) := by decide +kernel
theorem dX7_fewest_46 : decode cX7_fewest 46 = .ok (.if_icmp .ge 78, 3) := by decide +kernel
theorem dX7_fewest_49 : decode cX7_fewest 49 = .ok (.aload_n 0, 1) := by decide +kernel
theorem dX7_fewest_50 : decode cX7_fewest 50 = .ok (.getfield 40, 3) := by decide +kernel
theorem dX7_fewest_53 : decode cX7_fewest 53 = .ok (.iload_n 3, 1) := by decide +kernel
theorem dX7_fewest_54 : decode cX7_fewest 54 = .ok (.iaload, 1) := by decide +kernel
theorem dX7_fewest_55 : decode cX7_fewest 55 = .ok (.iload_n 2, 1) := by decide +kernel
theorem dX7_fewest_56 : decode cX7_fewest 56 = .ok (.if_icmp .ne 62, 3) := by decide +kernel
theorem dX7_fewest_59 : decode cX7_fewest 59 = .ok (.iconst 0, 1) := by decide +kernel
theorem dX7_fewest_60 : decode cX7_fewest 60 = .ok (.istore 4, 2) := by decide +kernel
theorem dX7_fewest_62 : decode cX7_fewest 62 = .ok (.iload 4, 2) := by decide +kernel
theorem dX7_fewest_64 : decode cX7_fewest 64 = .ok (.aload_n 0, 1) := by decide +kernel
theorem dX7_fewest_65 : decode cX7_fewest 65 = .ok (.getfield 136, 3) := by decide +kernel
theorem dX7_fewest_68 : decode cX7_fewest 68 = .ok (.if_icmp .ge 50, 3) := by decide +kernel
theorem dX7_fewest_71 : decode cX7_fewest 71 = .ok (.iload_n 3, 1) := by decide +kernel
theorem dX7_fewest_72 : decode cX7_fewest 72 = .ok (.aload_n 0, 1) := by decide +kernel
theorem dX7_fewest_73 : decode cX7_fewest 73 = .ok (.getfield 43, 3) := by decide +kernel
theorem dX7_fewest_76 : decode cX7_fewest 76 = .ok (.iload 4, 2) := by decide +kernel
theorem dX7_fewest_78 : decode cX7_fewest 78 = .ok (.iaload, 1) := by decide +kernel
theorem dX7_fewest_79 : decode cX7_fewest 79 = .ok (.ior, 1) := by decide +kernel
theorem dX7_fewest_80 : decode cX7_fewest 80 = .ok (.istore 5, 2) := by decide +kernel
theorem dX7_fewest_82 : decode cX7_fewest 82 = .ok (.aload_n 0, 1) := by decide +kernel
theorem dX7_fewest_83 : decode cX7_fewest 83 = .ok (.getfield 40, 3) := by decide +kernel
theorem dX7_fewest_86 : decode cX7_fewest 86 = .ok (.iload 5, 2) := by decide +kernel
theorem dX7_fewest_88 : decode cX7_fewest 88 = .ok (.aload_n 0, 1) := by decide +kernel
theorem dX7_fewest_89 : decode cX7_fewest 89 = .ok (.getfield 40, 3) := by decide +kernel
theorem dX7_fewest_92 : decode cX7_fewest 92 = .ok (.iload 5, 2) := by decide +kernel
theorem dX7_fewest_94 : decode cX7_fewest 94 = .ok (.iaload, 1) := by decide +kernel
theorem dX7_fewest_95 : decode cX7_fewest 95 = .ok (.ifCond .ge 9, 3) := by decide +kernel
theorem dX7_fewest_98 : decode cX7_fewest 98 = .ok (.iload_n 2, 1) := by decide +kernel
theorem dX7_fewest_99 : decode cX7_fewest 99 = .ok (.iconst 1, 1) := by decide +kernel
theorem dX7_fewest_100 : decode cX7_fewest 100 = .ok (.iadd, 1) := by decide +kernel
theorem dX7_fewest_101 : decode cX7_fewest 101 = .ok (.goto 10, 3) := by decide +kernel
theorem dX7_fewest_104 : decode cX7_fewest 104 = .ok (.aload_n 0, 1) := by decide +kernel
theorem dX7_fewest_105 : decode cX7_fewest 105 = .ok (.getfield 40, 3) := by decide +kernel
theorem dX7_fewest_108 : decode cX7_fewest 108 = .ok (.iload 5, 2) := by decide +kernel
theorem dX7_fewest_110 : decode cX7_fewest 110 = .ok (.iaload, 1) := by decide +kernel
theorem dX7_fewest_111 : decode cX7_fewest 111 = .ok (.iastore, 1) := by decide +kernel
theorem dX7_fewest_112 : decode cX7_fewest 112 = .ok (.iinc 4 1, 3) := by decide +kernel
theorem dX7_fewest_115 : decode cX7_fewest 115 = .ok (.goto (-53), 3) := by decide +kernel
theorem dX7_fewest_118 : decode cX7_fewest 118 = .ok (.iinc 3 1, 3) := by decide +kernel
theorem dX7_fewest_121 : decode cX7_fewest 121 = .ok (.goto (-79), 3) := by decide +kernel
theorem dX7_fewest_124 : decode cX7_fewest 124 = .ok (.iinc 2 1, 3) := by decide +kernel
theorem dX7_fewest_127 : decode cX7_fewest 127 = .ok (.goto (-96), 3) := by decide +kernel
theorem dX7_fewest_130 : decode cX7_fewest 130 = .ok (.aload_n 0, 1) := by decide +kernel
theorem dX7_fewest_131 : decode cX7_fewest 131 = .ok (.getfield 40, 3) := by decide +kernel
theorem dX7_fewest_134 : decode cX7_fewest 134 = .ok (.iload_n 1, 1) := by decide +kernel
theorem dX7_fewest_135 : decode cX7_fewest 135 = .ok (.iaload, 1) := by decide +kernel
theorem dX7_fewest_136 : decode cX7_fewest 136 = .ok (.ireturn, 1) := by decide +kernel
theorem dX7_shapes_0 : decode cX7_shapes 0 = .ok (.iload_n 1, 1) := by decide +kernel
theorem dX7_shapes_1 : decode cX7_shapes 1 = .ok (.iconst 0, 1) := by decide +kernel
theorem dX7_shapes_2 : decode cX7_shapes 2 = .ok (.iconst 2, 1) := by decide +kernel
theorem dX7_shapes_3 : decode cX7_shapes 3 = .ok (.invokestatic 68, 3) := by decide +kernel
theorem dX7_shapes_6 : decode cX7_shapes 6 = .ok (.ifCond .ne 5, 3) := by decide +kernel
theorem dX7_shapes_9 : decode cX7_shapes 9 = .ok (.iconst (-1), 1) := by decide +kernel
theorem dX7_shapes_10 : decode cX7_shapes 10 = .ok (.ireturn, 1) := by decide +kernel
theorem dX7_shapes_11 : decode cX7_shapes 11 = .ok (.aload_n 0, 1) := by decide +kernel
theorem dX7_shapes_12 : decode cX7_shapes 12 = .ok (.aload_n 0, 1) := by decide +kernel
theorem dX7_shapes_13 : decode cX7_shapes 13 = .ok (.getfield 7, 3) := by decide +kernel
theorem dX7_shapes_16 : decode cX7_shapes 16 = .ok (.aload_n 0, 1) := by decide +kernel
theorem dX7_shapes_17 : decode cX7_shapes 17 = .ok (.getfield 7, 3) := by decide +kernel
theorem dX7_shapes_20 : decode cX7_shapes 20 = .ok (.invokestatic 166, 3) := by decide +kernel
theorem dX7_shapes_23 : decode cX7_shapes 23 = .ok (.invokevirtual 145, 3) := by decide +kernel
theorem dX7_shapes_26 : decode cX7_shapes 26 = .ok (.iconst 0, 1) := by decide +kernel
theorem dX7_shapes_27 : decode cX7_shapes 27 = .ok (.istore_n 2, 1) := by decide +kernel
theorem dX7_shapes_28 : decode cX7_shapes 28 = .ok (.iconst 0, 1) := by decide +kernel
theorem dX7_shapes_29 : decode cX7_shapes 29 = .ok (.istore_n 3, 1) := by decide +kernel
theorem dX7_shapes_30 : decode cX7_shapes 30 = .ok (.iload_n 3, 1) := by decide +kernel
theorem dX7_shapes_31 : decode cX7_shapes 31 = .ok (.aload_n 0, 1) := by decide +kernel
theorem dX7_shapes_32 : decode cX7_shapes 32 = .ok (.getfield 136, 3) := by decide +kernel
theorem dX7_shapes_35 : decode cX7_shapes 35 = .ok (.if_icmp .ge 42, 3) := by decide +kernel
theorem dX7_shapes_38 : decode cX7_shapes 38 = .ok (.aload_n 0, 1) := by decide +kernel
theorem dX7_shapes_39 : decode cX7_shapes 39 = .ok (.aload_n 0, 1) := by decide +kernel
theorem dX7_shapes_40 : decode cX7_shapes 40 = .ok (.getfield 7, 3) := by decide +kernel
theorem dX7_shapes_43 : decode cX7_shapes 43 = .ok (.aload_n 0, 1) := by decide +kernel
theorem dX7_shapes_44 : decode cX7_shapes 44 = .ok (.getfield 34, 3) := by decide +kernel
theorem dX7_shapes_47 : decode cX7_shapes 47 = .ok (.iload_n 3, 1) := by decide +kernel
theorem dX7_shapes_48 : decode cX7_shapes 48 = .ok (.iaload, 1) := by decide +kernel
theorem dX7_shapes_49 : decode cX7_shapes 49 = .ok (.invokevirtual 157, 3) := by decide +kernel
theorem dX7_shapes_52 : decode cX7_shapes 52 = .ok (.aload_n 0, 1) := by decide +kernel
theorem dX7_shapes_53 : decode cX7_shapes 53 = .ok (.getfield 43, 3) := by decide +kernel
theorem dX7_shapes_56 : decode cX7_shapes 56 = .ok (.iload_n 3, 1) := by decide +kernel
theorem dX7_shapes_57 : decode cX7_shapes 57 = .ok (.aload_n 0, 1) := by decide +kernel
theorem dX7_shapes_58 : decode cX7_shapes 58 = .ok (.getfield 129, 3) := by decide +kernel
theorem dX7_shapes_61 : decode cX7_shapes 61 = .ok (.iastore, 1) := by decide +kernel
theorem dX7_shapes_62 : decode cX7_shapes 62 = .ok (.iload_n 2, 1) := by decide +kernel
theorem dX7_shapes_63 : decode cX7_shapes 63 = .ok (.aload_n 0, 1) := by decide +kernel
theorem dX7_shapes_64 : decode cX7_shapes 64 = .ok (.getfield 43, 3) := by decide +kernel
theorem dX7_shapes_67 : decode cX7_shapes 67 = .ok (.iload_n 3, 1) := by decide +kernel
theorem dX7_shapes_68 : decode cX7_shapes 68 = .ok (.iaload, 1) := by decide +kernel
theorem dX7_shapes_69 : decode cX7_shapes 69 = .ok (.ior, 1) := by decide +kernel
theorem dX7_shapes_70 : decode cX7_shapes 70 = .ok (.istore_n 2, 1) := by decide +kernel
theorem dX7_shapes_71 : decode cX7_shapes 71 = .ok (.iinc 3 1, 3) := by decide +kernel
theorem dX7_shapes_74 : decode cX7_shapes 74 = .ok (.goto (-44), 3) := by decide +kernel
theorem dX7_shapes_77 : decode cX7_shapes 77 = .ok (.iload_n 1, 1) := by decide +kernel
theorem dX7_shapes_78 : decode cX7_shapes 78 = .ok (.ifCond .ne 10, 3) := by decide +kernel
theorem dX7_shapes_81 : decode cX7_shapes 81 = .ok (.aload_n 0, 1) := by decide +kernel
theorem dX7_shapes_82 : decode cX7_shapes 82 = .ok (.getfield 136, 3) := by decide +kernel
theorem dX7_shapes_85 : decode cX7_shapes 85 = .ok (.goto 27, 3) := by decide +kernel
theorem dX7_shapes_88 : decode cX7_shapes 88 = .ok (.iload_n 1, 1) := by decide +kernel
theorem dX7_shapes_89 : decode cX7_shapes 89 = .ok (.iconst 1, 1) := by decide +kernel
theorem dX7_shapes_90 : decode cX7_shapes 90 = .ok (.if_icmp .ne 11, 3) := by decide +kernel
theorem dX7_shapes_93 : decode cX7_shapes 93 = .ok (.aload_n 0, 1) := by decide +kernel
theorem dX7_shapes_94 : decode cX7_shapes 94 = .ok (.iload_n 2, 1) := by decide +kernel
theorem dX7_shapes_95 : decode cX7_shapes 95 = .ok (.invokevirtual 186, 3) := by decide +kernel
theorem dX7_shapes_98 : decode cX7_shapes 98 = .ok (.goto 14, 3) := by decide +kernel
theorem dX7_shapes_101 : decode cX7_shapes 101 = .ok (.aload_n 0, 1) := by decide +kernel
theorem dX7_shapes_102 : decode cX7_shapes 102 = .ok (.getfield 7, 3) := by decide +kernel
theorem dX7_shapes_105 : decode cX7_shapes 105 = .ok (.invokestatic 166, 3) := by decide +kernel
theorem dX7_shapes_108 : decode cX7_shapes 108 = .ok (.iload_n 2, 1) := by decide +kernel
theorem dX7_shapes_109 : decode cX7_shapes 109 = .ok (.iconst (-1), 1) := by decide +kernel
theorem dX7_shapes_110 : decode cX7_shapes 110 = .ok (.ixor, 1) := by decide +kernel
theorem dX7_shapes_111 : decode cX7_shapes 111 = .ok (.iand, 1) := by decide +kernel
theorem dX7_shapes_112 : decode cX7_shapes 112 = .ok (.ireturn, 1) := by decide +kernel
theorem dX7_link_0 : decode cX7_link 0 = .ok (.aload_n 0, 1) := by decide +kernel
theorem dX7_link_1 : decode cX7_link 1 = .ok (.iload_n 1, 1) := by decide +kernel
theorem dX7_link_2 : decode cX7_link 2 = .ok (.invokevirtual 92, 3) := by decide +kernel
theorem dX7_link_5 : decode cX7_link 5 = .ok (.ifCond .eq 25, 3) := by decide +kernel
theorem dX7_link_8 : decode cX7_link 8 = .ok (.aload_n 0, 1) := by decide +kernel
theorem dX7_link_9 : decode cX7_link 9 = .ok (.iload_n 2, 1) := by decide +kernel
theorem dX7_link_10 : decode cX7_link 10 = .ok (.invokevirtual 92, 3) := by decide +kernel
theorem dX7_link_13 : decode cX7_link 13 = .ok (.ifCond .eq 17, 3) := by decide +kernel
theorem dX7_link_16 : decode cX7_link 16 = .ok (.iload_n 1, 1) := by decide +kernel
theorem dX7_link_17 : decode cX7_link 17 = .ok (.iload_n 2, 1) := by decide +kernel
theorem dX7_link_18 : decode cX7_link 18 = .ok (.if_icmp .eq 12, 3) := by decide +kernel
theorem dX7_link_21 : decode cX7_link 21 = .ok (.iload_n 3, 1) := by decide +kernel
theorem dX7_link_22 : decode cX7_link 22 = .ok (.iconst 0, 1) := by decide +kernel
theorem dX7_link_23 : decode cX7_link 23 = .ok (.iconst 2, 1) := by decide +kernel
theorem dX7_link_24 : decode cX7_link 24 = .ok (.invokestatic 68, 3) := by decide +kernel
theorem dX7_link_27 : decode cX7_link 27 = .ok (.ifCond .ne 5, 3) := by decide +kernel
theorem dX7_link_30 : decode cX7_link 30 = .ok (.iconst (-1), 1) := by decide +kernel
theorem dX7_link_31 : decode cX7_link 31 = .ok (.ireturn, 1) := by decide +kernel
theorem dX7_link_32 : decode cX7_link 32 = .ok (.aload_n 0, 1) := by decide +kernel
theorem dX7_link_33 : decode cX7_link 33 = .ok (.getfield 7, 3) := by decide +kernel
theorem dX7_link_36 : decode cX7_link 36 = .ok (.iconst 2, 1) := by decide +kernel
theorem dX7_link_37 : decode cX7_link 37 = .ok (.iload_n 2, 1) := by decide +kernel
theorem dX7_link_38 : decode cX7_link 38 = .ok (.iadd, 1) := by decide +kernel
theorem dX7_link_39 : decode cX7_link 39 = .ok (.iaload, 1) := by decide +kernel
theorem dX7_link_40 : decode cX7_link 40 = .ok (.aload_n 0, 1) := by decide +kernel
theorem dX7_link_41 : decode cX7_link 41 = .ok (.getfield 7, 3) := by decide +kernel
theorem dX7_link_44 : decode cX7_link 44 = .ok (.iconst 2, 1) := by decide +kernel
theorem dX7_link_45 : decode cX7_link 45 = .ok (.iload_n 1, 1) := by decide +kernel
theorem dX7_link_46 : decode cX7_link 46 = .ok (.iadd, 1) := by decide +kernel
theorem dX7_link_47 : decode cX7_link 47 = .ok (.iaload, 1) := by decide +kernel
theorem dX7_link_48 : decode cX7_link 48 = .ok (.isub, 1) := by decide +kernel
theorem dX7_link_49 : decode cX7_link 49 = .ok (.istore 4, 2) := by decide +kernel
theorem dX7_link_51 : decode cX7_link 51 = .ok (.aload_n 0, 1) := by decide +kernel
theorem dX7_link_52 : decode cX7_link 52 = .ok (.getfield 7, 3) := by decide +kernel
theorem dX7_link_55 : decode cX7_link 55 = .ok (.bipush 16, 2) := by decide +kernel
theorem dX7_link_57 : decode cX7_link 57 = .ok (.iload_n 2, 1) := by decide +kernel
theorem dX7_link_58 : decode cX7_link 58 = .ok (.iadd, 1) := by decide +kernel
theorem dX7_link_59 : decode cX7_link 59 = .ok (.iaload, 1) := by decide +kernel
theorem dX7_link_60 : decode cX7_link 60 = .ok (.aload_n 0, 1) := by decide +kernel
theorem dX7_link_61 : decode cX7_link 61 = .ok (.getfield 7, 3) := by decide +kernel
theorem dX7_link_64 : decode cX7_link 64 = .ok (.bipush 16, 2) := by decide +kernel
theorem dX7_link_66 : decode cX7_link 66 = .ok (.iload_n 1, 1) := by decide +kernel
theorem dX7_link_67 : decode cX7_link 67 = .ok (.iadd, 1) := by decide +kernel
theorem dX7_link_68 : decode cX7_link 68 = .ok (.iaload, 1) := by decide +kernel
theorem dX7_link_69 : decode cX7_link 69 = .ok (.isub, 1) := by decide +kernel
theorem dX7_link_70 : decode cX7_link 70 = .ok (.istore 5, 2) := by decide +kernel
theorem dX7_link_72 : decode cX7_link 72 = .ok (.aload_n 0, 1) := by decide +kernel
theorem dX7_link_73 : decode cX7_link 73 = .ok (.getfield 7, 3) := by decide +kernel
theorem dX7_link_76 : decode cX7_link 76 = .ok (.iconst 1, 1) := by decide +kernel
theorem dX7_link_77 : decode cX7_link 77 = .ok (.iaload, 1) := by decide +kernel
theorem dX7_link_78 : decode cX7_link 78 = .ok (.iconst 1, 1) := by decide +kernel
theorem dX7_link_79 : decode cX7_link 79 = .ok (.if_icmp .ne 14, 3) := by decide +kernel
theorem dX7_link_82 : decode cX7_link 82 = .ok (.iload 5, 2) := by decide +kernel
theorem dX7_link_84 : decode cX7_link 84 = .ok (.bipush 12, 2) := by decide +kernel
theorem dX7_link_86 : decode cX7_link 86 = .ok (.iadd, 1) := by decide +kernel
theorem dX7_link_87 : decode cX7_link 87 = .ok (.bipush 12, 2) := by decide +kernel
theorem dX7_link_89 : decode cX7_link 89 = .ok (.irem, 1) := by decide +kernel
theorem dX7_link_90 : decode cX7_link 90 = .ok (.goto 5, 3) := by decide +kernel
theorem dX7_link_93 : decode cX7_link 93 = .ok (.iload 5, 2) := by decide +kernel
theorem dX7_link_95 : decode cX7_link 95 = .ok (.istore 5, 2) := by decide +kernel
theorem dX7_link_97 : decode cX7_link 97 = .ok (.iload_n 3, 1) := by decide +kernel
theorem dX7_link_98 : decode cX7_link 98 = .ok (.iconst 2, 1) := by decide +kernel
theorem dX7_link_99 : decode cX7_link 99 = .ok (.if_icmp .ge 18, 3) := by decide +kernel
theorem dX7_link_102 : decode cX7_link 102 = .ok (.iload_n 3, 1) := by decide +kernel
theorem dX7_link_103 : decode cX7_link 103 = .ok (.ifCond .ne 8, 3) := by decide +kernel
theorem dX7_link_106 : decode cX7_link 106 = .ok (.iload 4, 2) := by decide +kernel
theorem dX7_link_108 : decode cX7_link 108 = .ok (.goto 5, 3) := by decide +kernel
theorem dX7_link_111 : decode cX7_link 111 = .ok (.iload 5, 2) := by decide +kernel
theorem dX7_link_113 : decode cX7_link 113 = .ok (.bipush 50, 2) := by decide +kernel
theorem dX7_link_115 : decode cX7_link 115 = .ok (.iadd, 1) := by decide +kernel
theorem dX7_link_116 : decode cX7_link 116 = .ok (.ireturn, 1) := by decide +kernel
theorem dX7_link_117 : decode cX7_link 117 = .ok (.aload_n 0, 1) := by decide +kernel
theorem dX7_link_118 : decode cX7_link 118 = .ok (.aload_n 0, 1) := by decide +kernel
theorem dX7_link_119 : decode cX7_link 119 = .ok (.getfield 7, 3) := by decide +kernel
theorem dX7_link_122 : decode cX7_link 122 = .ok (.aload_n 0, 1) := by decide +kernel
theorem dX7_link_123 : decode cX7_link 123 = .ok (.getfield 7, 3) := by decide +kernel
theorem dX7_link_126 : decode cX7_link 126 = .ok (.invokestatic 166, 3) := by decide +kernel
theorem dX7_link_129 : decode cX7_link 129 = .ok (.invokevirtual 139, 3) := by decide +kernel
theorem dX7_link_132 : decode cX7_link 132 = .ok (.aload_n 0, 1) := by decide +kernel
theorem dX7_link_133 : decode cX7_link 133 = .ok (.getfield 31, 3) := by decide +kernel
theorem dX7_link_136 : decode cX7_link 136 = .ok (.bipush 23, 2) := by decide +kernel
theorem dX7_link_138 : decode cX7_link 138 = .ok (.iload 4, 2) := by decide +kernel
theorem dX7_link_140 : decode cX7_link 140 = .ok (.bipush 19, 2) := by decide +kernel
theorem dX7_link_142 : decode cX7_link 142 = .ok (.iadd, 1) := by decide +kernel
theorem dX7_link_143 : decode cX7_link 143 = .ok (.imul, 1) := by decide +kernel
theorem dX7_link_144 : decode cX7_link 144 = .ok (.iload 5, 2) := by decide +kernel
theorem dX7_link_146 : decode cX7_link 146 = .ok (.iadd, 1) := by decide +kernel
theorem dX7_link_147 : decode cX7_link 147 = .ok (.bipush 11, 2) := by decide +kernel
theorem dX7_link_149 : decode cX7_link 149 = .ok (.iadd, 1) := by decide +kernel
theorem dX7_link_150 : decode cX7_link 150 = .ok (.iaload, 1) := by decide +kernel
theorem dX7_link_151 : decode cX7_link 151 = .ok (.invokestatic 132, 3) := by decide +kernel
theorem dX7_link_154 : decode cX7_link 154 = .ok (.ireturn, 1) := by decide +kernel
theorem dX7_better_0 : decode cX7_better 0 = .ok (.iload_n 1, 1) := by decide +kernel
theorem dX7_better_1 : decode cX7_better 1 = .ok (.iconst 0, 1) := by decide +kernel
theorem dX7_better_2 : decode cX7_better 2 = .ok (.iconst 1, 1) := by decide +kernel
theorem dX7_better_3 : decode cX7_better 3 = .ok (.invokestatic 68, 3) := by decide +kernel
theorem dX7_better_6 : decode cX7_better 6 = .ok (.ifCond .ne 5, 3) := by decide +kernel
theorem dX7_better_9 : decode cX7_better 9 = .ok (.iconst (-1), 1) := by decide +kernel
theorem dX7_better_10 : decode cX7_better 10 = .ok (.ireturn, 1) := by decide +kernel
theorem dX7_better_11 : decode cX7_better 11 = .ok (.aload_n 0, 1) := by decide +kernel
theorem dX7_better_12 : decode cX7_better 12 = .ok (.getfield 7, 3) := by decide +kernel
theorem dX7_better_15 : decode cX7_better 15 = .ok (.iconst 0, 1) := by decide +kernel
theorem dX7_better_16 : decode cX7_better 16 = .ok (.iaload, 1) := by decide +kernel
theorem dX7_better_17 : decode cX7_better 17 = .ok (.bipush 14, 2) := by decide +kernel
theorem dX7_better_19 : decode cX7_better 19 = .ok (.if_icmp .ne 6, 3) := by decide +kernel
theorem dX7_better_22 : decode cX7_better 22 = .ok (.bipush (-4), 2) := by decide +kernel
theorem dX7_better_24 : decode cX7_better 24 = .ok (.ireturn, 1) := by decide +kernel
theorem dX7_better_25 : decode cX7_better 25 = .ok (.bipush (-4), 2) := by decide +kernel
theorem dX7_better_27 : decode cX7_better 27 = .ok (.istore_n 2, 1) := by decide +kernel
theorem dX7_better_28 : decode cX7_better 28 = .ok (.bipush (-4), 2) := by decide +kernel
theorem dX7_better_30 : decode cX7_better 30 = .ok (.istore_n 3, 1) := by decide +kernel
theorem dX7_better_31 : decode cX7_better 31 = .ok (.iconst 0, 1) := by decide +kernel
theorem dX7_better_32 : decode cX7_better 32 = .ok (.istore 4, 2) := by decide +kernel
theorem dX7_better_34 : decode cX7_better 34 = .ok (.iconst 0, 1) := by decide +kernel
theorem dX7_better_35 : decode cX7_better 35 = .ok (.istore 5, 2) := by decide +kernel
theorem dX7_better_37 : decode cX7_better 37 = .ok (.iload 5, 2) := by decide +kernel
theorem dX7_better_39 : decode cX7_better 39 = .ok (.sipush 240, 3) := by decide +kernel
theorem dX7_better_42 : decode cX7_better 42 = .ok (.if_icmp .ge 184, 3) := by decide +kernel
theorem dX7_better_45 : decode cX7_better 45 = .ok (.aload_n 0, 1) := by decide +kernel
theorem dX7_better_46 : decode cX7_better 46 = .ok (.getfield 7, 3) := by decide +kernel
theorem dX7_better_49 : decode cX7_better 49 = .ok (.iload 5, 2) := by decide +kernel
theorem dX7_better_51 : decode cX7_better 51 = .ok (.bipush 12, 2) := by decide +kernel
theorem dX7_better_53 : decode cX7_better 53 = .ok (.idiv, 1) := by decide +kernel
theorem dX7_better_54 : decode cX7_better 54 = .ok (.iload 5, 2) := by decide +kernel
theorem dX7_better_56 : decode cX7_better 56 = .ok (.bipush 12, 2) := by decide +kernel
theorem dX7_better_58 : decode cX7_better 58 = .ok (.irem, 1) := by decide +kernel
theorem dX7_better_59 : decode cX7_better 59 = .ok (.invokestatic 76, 3) := by decide +kernel
theorem dX7_better_62 : decode cX7_better 62 = .ok (.bipush (-4), 2) := by decide +kernel
theorem dX7_better_64 : decode cX7_better 64 = .ok (.if_icmp .ne 156, 3) := by decide +kernel
theorem dX7_better_67 : decode cX7_better 67 = .ok (.aload_n 0, 1) := by decide +kernel
theorem dX7_better_68 : decode cX7_better 68 = .ok (.getfield 7, 3) := by decide +kernel
theorem dX7_better_71 : decode cX7_better 71 = .ok (.iconst 0, 1) := by decide +kernel
theorem dX7_better_72 : decode cX7_better 72 = .ok (.aload_n 0, 1) := by decide +kernel
theorem dX7_better_73 : decode cX7_better 73 = .ok (.getfield 16, 3) := by decide +kernel
theorem dX7_better_76 : decode cX7_better 76 = .ok (.iconst 0, 1) := by decide +kernel
theorem dX7_better_77 : decode cX7_better 77 = .ok (.invokestatic 49, 3) := by decide +kernel
theorem dX7_better_80 : decode cX7_better 80 = .ok (.aload_n 0, 1) := by decide +kernel
theorem dX7_better_81 : decode cX7_better 81 = .ok (.getfield 16, 3) := by decide +kernel
theorem dX7_better_84 : decode cX7_better 84 = .ok (.iload 5, 2) := by decide +kernel
theorem dX7_better_86 : decode cX7_better 86 = .ok (.bipush 12, 2) := by decide +kernel
theorem dX7_better_88 : decode cX7_better 88 = .ok (.idiv, 1) := by decide +kernel
theorem dX7_better_89 : decode cX7_better 89 = .ok (.iload 5, 2) := by decide +kernel
theorem dX7_better_91 : decode cX7_better 91 = .ok (.bipush 12, 2) := by decide +kernel
theorem dX7_better_93 : decode cX7_better 93 = .ok (.irem, 1) := by decide +kernel
theorem dX7_better_94 : decode cX7_better 94 = .ok (.invokestatic 53, 3) := by decide +kernel
theorem dX7_better_97 : decode cX7_better 97 = .ok (.istore 6, 2) := by decide +kernel
theorem dX7_better_99 : decode cX7_better 99 = .ok (.aload_n 0, 1) := by decide +kernel
theorem dX7_better_100 : decode cX7_better 100 = .ok (.aload_n 0, 1) := by decide +kernel
theorem dX7_better_101 : decode cX7_better 101 = .ok (.getfield 16, 3) := by decide +kernel
theorem dX7_better_104 : decode cX7_better 104 = .ok (.aload_n 0, 1) := by decide +kernel
theorem dX7_better_105 : decode cX7_better 105 = .ok (.getfield 16, 3) := by decide +kernel
theorem dX7_better_108 : decode cX7_better 108 = .ok (.invokestatic 166, 3) := by decide +kernel
theorem dX7_better_111 : decode cX7_better 111 = .ok (.invokevirtual 170, 3) := by decide +kernel
theorem dX7_better_114 : decode cX7_better 114 = .ok (.aload_n 0, 1) := by decide +kernel
theorem dX7_better_115 : decode cX7_better 115 = .ok (.getfield 148, 3) := by decide +kernel
theorem dX7_better_118 : decode cX7_better 118 = .ok (.bipush (-4), 2) := by decide +kernel
theorem dX7_better_120 : decode cX7_better 120 = .ok (.if_icmp .eq 28, 3) := by decide +kernel
theorem dX7_better_123 : decode cX7_better 123 = .ok (.iload 6, 2) := by decide +kernel
theorem dX7_better_125 : decode cX7_better 125 = .ok (.ifCond .lt 23, 3) := by decide +kernel
theorem dX7_better_128 : decode cX7_better 128 = .ok (.iload 4, 2) := by decide +kernel
theorem dX7_better_130 : decode cX7_better 130 = .ok (.ifCond .eq 14, 3) := by decide +kernel
theorem dX7_better_133 : decode cX7_better 133 = .ok (.aload_n 0, 1) := by decide +kernel
theorem dX7_better_134 : decode cX7_better 134 = .ok (.getfield 151, 3) := by decide +kernel
theorem dX7_better_137 : decode cX7_better 137 = .ok (.bipush 100, 2) := by decide +kernel
theorem dX7_better_139 : decode cX7_better 139 = .ok (.iadd, 1) := by decide +kernel
theorem dX7_better_140 : decode cX7_better 140 = .ok (.iload_n 3, 1) := by decide +kernel
theorem dX7_better_141 : decode cX7_better 141 = .ok (.if_icmp .le 7, 3) := by decide +kernel
theorem dX7_better_144 : decode cX7_better 144 = .ok (.iconst 1, 1) := by decide +kernel
theorem dX7_better_145 : decode cX7_better 145 = .ok (.goto 4, 3) := by decide +kernel
theorem dX7_better_148 : decode cX7_better 148 = .ok (.iconst 0, 1) := by decide +kernel
theorem dX7_better_149 : decode cX7_better 149 = .ok (.istore 7, 2) := by decide +kernel
theorem dX7_better_151 : decode cX7_better 151 = .ok (.iload_n 2, 1) := by decide +kernel
theorem dX7_better_152 : decode cX7_better 152 = .ok (.bipush (-4), 2) := by decide +kernel
theorem dX7_better_154 : decode cX7_better 154 = .ok (.if_icmp .eq 8, 3) := by decide +kernel
theorem dX7_better_157 : decode cX7_better 157 = .ok (.iload 7, 2) := by decide +kernel
theorem dX7_better_159 : decode cX7_better 159 = .ok (.ifCond .eq 40, 3) := by decide +kernel
theorem dX7_better_162 : decode cX7_better 162 = .ok (.bipush 100, 2) := by decide +kernel
theorem dX7_better_164 : decode cX7_better 164 = .ok (.iload 5, 2) := by decide +kernel
theorem dX7_better_166 : decode cX7_better 166 = .ok (.bipush 12, 2) := by decide +kernel
theorem dX7_better_168 : decode cX7_better 168 = .ok (.idiv, 1) := by decide +kernel
theorem dX7_better_169 : decode cX7_better 169 = .ok (.imul, 1) := by decide +kernel
theorem dX7_better_170 : decode cX7_better 170 = .ok (.iload 5, 2) := by decide +kernel
theorem dX7_better_172 : decode cX7_better 172 = .ok (.bipush 12, 2) := by decide +kernel
theorem dX7_better_174 : decode cX7_better 174 = .ok (.irem, 1) := by decide +kernel
theorem dX7_better_175 : decode cX7_better 175 = .ok (.iadd, 1) := by decide +kernel
theorem dX7_better_176 : decode cX7_better 176 = .ok (.istore_n 2, 1) := by decide +kernel
theorem dX7_better_177 : decode cX7_better 177 = .ok (.aload_n 0, 1) := by decide +kernel
theorem dX7_better_178 : decode cX7_better 178 = .ok (.getfield 148, 3) := by decide +kernel
theorem dX7_better_181 : decode cX7_better 181 = .ok (.bipush (-4), 2) := by decide +kernel
theorem dX7_better_183 : decode cX7_better 183 = .ok (.if_icmp .ne 8, 3) := by decide +kernel
theorem dX7_better_186 : decode cX7_better 186 = .ok (.bipush (-4), 2) := by decide +kernel
theorem dX7_better_188 : decode cX7_better 188 = .ok (.goto 10, 3) := by decide +kernel
theorem dX7_better_191 : decode cX7_better 191 = .ok (.aload_n 0, 1) := by decide +kernel
theorem dX7_better_192 : decode cX7_better 192 = .ok (.getfield 151, 3) := by decide +kernel
theorem dX7_better_195 : decode cX7_better 195 = .ok (.bipush 100, 2) := by decide +kernel
theorem dX7_better_197 : decode cX7_better 197 = .ok (.iadd, 1) := by decide +kernel
theorem dX7_better_198 : decode cX7_better 198 = .ok (.istore_n 3, 1) := by decide +kernel
theorem dX7_better_199 : decode cX7_better 199 = .ok (.iload 4, 2) := by decide +kernel
theorem dX7_better_201 : decode cX7_better 201 = .ok (.ifCond .ne 12, 3) := by decide +kernel
theorem dX7_better_204 : decode cX7_better 204 = .ok (.aload_n 0, 1) := by decide +kernel
theorem dX7_better_205 : decode cX7_better 205 = .ok (.getfield 148, 3) := by decide +kernel
theorem dX7_better_208 : decode cX7_better 208 = .ok (.bipush (-4), 2) := by decide +kernel
theorem dX7_better_210 : decode cX7_better 210 = .ok (.if_icmp .eq 7, 3) := by decide +kernel
theorem dX7_better_213 : decode cX7_better 213 = .ok (.iconst 1, 1) := by decide +kernel
theorem dX7_better_214 : decode cX7_better 214 = .ok (.goto 4, 3) := by decide +kernel
theorem dX7_better_217 : decode cX7_better 217 = .ok (.iconst 0, 1) := by decide +kernel
theorem dX7_better_218 : decode cX7_better 218 = .ok (.istore 4, 2) := by decide +kernel
theorem dX7_better_220 : decode cX7_better 220 = .ok (.iinc 5 1, 3) := by decide +kernel
theorem dX7_better_223 : decode cX7_better 223 = .ok (.goto (-186), 3) := by decide +kernel
theorem dX7_better_226 : decode cX7_better 226 = .ok (.iload_n 1, 1) := by decide +kernel
theorem dX7_better_227 : decode cX7_better 227 = .ok (.ifCond .ne 7, 3) := by decide +kernel
theorem dX7_better_230 : decode cX7_better 230 = .ok (.iload_n 2, 1) := by decide +kernel
theorem dX7_better_231 : decode cX7_better 231 = .ok (.goto 4, 3) := by decide +kernel
theorem dX7_better_234 : decode cX7_better 234 = .ok (.iload_n 3, 1) := by decide +kernel
theorem dX7_better_235 : decode cX7_better 235 = .ok (.ireturn, 1) := by decide +kernel
theorem dX7_happens_0 : decode cX7_happens 0 = .ok (.iload_n 1, 1) := by decide +kernel
theorem dX7_happens_1 : decode cX7_happens 1 = .ok (.bipush 8, 2) := by decide +kernel
theorem dX7_happens_3 : decode cX7_happens 3 = .ok (.idiv, 1) := by decide +kernel
theorem dX7_happens_4 : decode cX7_happens 4 = .ok (.bipush 20, 2) := by decide +kernel
theorem dX7_happens_6 : decode cX7_happens 6 = .ok (.irem, 1) := by decide +kernel
theorem dX7_happens_7 : decode cX7_happens 7 = .ok (.istore_n 2, 1) := by decide +kernel
theorem dX7_happens_8 : decode cX7_happens 8 = .ok (.iload_n 1, 1) := by decide +kernel
theorem dX7_happens_9 : decode cX7_happens 9 = .ok (.sipush 256, 3) := by decide +kernel
theorem dX7_happens_12 : decode cX7_happens 12 = .ok (.idiv, 1) := by decide +kernel
theorem dX7_happens_13 : decode cX7_happens 13 = .ok (.bipush 12, 2) := by decide +kernel
theorem dX7_happens_15 : decode cX7_happens 15 = .ok (.irem, 1) := by decide +kernel
theorem dX7_happens_16 : decode cX7_happens 16 = .ok (.istore_n 3, 1) := by decide +kernel
theorem dX7_happens_17 : decode cX7_happens 17 = .ok (.aload_n 0, 1) := by decide +kernel
theorem dX7_happens_18 : decode cX7_happens 18 = .ok (.getfield 16, 3) := by decide +kernel
theorem dX7_happens_21 : decode cX7_happens 21 = .ok (.iload_n 2, 1) := by decide +kernel
theorem dX7_happens_22 : decode cX7_happens 22 = .ok (.iload_n 3, 1) := by decide +kernel
theorem dX7_happens_23 : decode cX7_happens 23 = .ok (.invokestatic 76, 3) := by decide +kernel
theorem dX7_happens_26 : decode cX7_happens 26 = .ok (.istore 4, 2) := by decide +kernel
theorem dX7_happens_28 : decode cX7_happens 28 = .ok (.iload 4, 2) := by decide +kernel
theorem dX7_happens_30 : decode cX7_happens 30 = .ok (.bipush (-4), 2) := by decide +kernel
theorem dX7_happens_32 : decode cX7_happens 32 = .ok (.if_icmp .ne 28, 3) := by decide +kernel
theorem dX7_happens_35 : decode cX7_happens 35 = .ok (.aload_n 0, 1) := by decide +kernel
theorem dX7_happens_36 : decode cX7_happens 36 = .ok (.getfield 16, 3) := by decide +kernel
theorem dX7_happens_39 : decode cX7_happens 39 = .ok (.iconst 0, 1) := by decide +kernel
theorem dX7_happens_40 : decode cX7_happens 40 = .ok (.iaload, 1) := by decide +kernel
theorem dX7_happens_41 : decode cX7_happens 41 = .ok (.bipush 14, 2) := by decide +kernel
theorem dX7_happens_43 : decode cX7_happens 43 = .ok (.if_icmp .ge 17, 3) := by decide +kernel
theorem dX7_happens_46 : decode cX7_happens 46 = .ok (.aload_n 0, 1) := by decide +kernel
theorem dX7_happens_47 : decode cX7_happens 47 = .ok (.getfield 16, 3) := by decide +kernel
theorem dX7_happens_50 : decode cX7_happens 50 = .ok (.iload_n 2, 1) := by decide +kernel
theorem dX7_happens_51 : decode cX7_happens 51 = .ok (.iload_n 3, 1) := by decide +kernel
theorem dX7_happens_52 : decode cX7_happens 52 = .ok (.invokestatic 53, 3) := by decide +kernel
theorem dX7_happens_55 : decode cX7_happens 55 = .ok (.istore 4, 2) := by decide +kernel
theorem dX7_happens_57 : decode cX7_happens 57 = .ok (.goto 29, 3) := by decide +kernel
theorem dX7_happens_60 : decode cX7_happens 60 = .ok (.iload 4, 2) := by decide +kernel
theorem dX7_happens_62 : decode cX7_happens 62 = .ok (.bipush (-4), 2) := by decide +kernel
theorem dX7_happens_64 : decode cX7_happens 64 = .ok (.if_icmp .eq 22, 3) := by decide +kernel
theorem dX7_happens_67 : decode cX7_happens 67 = .ok (.aload_n 0, 1) := by decide +kernel
theorem dX7_happens_68 : decode cX7_happens 68 = .ok (.getfield 16, 3) := by decide +kernel
theorem dX7_happens_71 : decode cX7_happens 71 = .ok (.iconst 0, 1) := by decide +kernel
theorem dX7_happens_72 : decode cX7_happens 72 = .ok (.iaload, 1) := by decide +kernel
theorem dX7_happens_73 : decode cX7_happens 73 = .ok (.iconst 1, 1) := by decide +kernel
theorem dX7_happens_74 : decode cX7_happens 74 = .ok (.if_icmp .le 12, 3) := by decide +kernel
theorem dX7_happens_77 : decode cX7_happens 77 = .ok (.aload_n 0, 1) := by decide +kernel
theorem dX7_happens_78 : decode cX7_happens 78 = .ok (.getfield 16, 3) := by decide +kernel
theorem dX7_happens_81 : decode cX7_happens 81 = .ok (.iload 4, 2) := by decide +kernel
theorem dX7_happens_83 : decode cX7_happens 83 = .ok (.invokestatic 103, 3) := by decide +kernel
theorem dX7_happens_86 : decode cX7_happens 86 = .ok (.return_, 1) := by decide +kernel
theorem dX7_day_0 : decode cX7_day 0 = .ok (.iload_n 1, 1) := by decide +kernel
theorem dX7_day_1 : decode cX7_day 1 = .ok (.iconst 0, 1) := by decide +kernel
theorem dX7_day_2 : decode cX7_day 2 = .ok (.sipush 9999, 3) := by decide +kernel
theorem dX7_day_5 : decode cX7_day 5 = .ok (.invokestatic 68, 3) := by decide +kernel
theorem dX7_day_8 : decode cX7_day 8 = .ok (.ifCond .eq 22, 3) := by decide +kernel
theorem dX7_day_11 : decode cX7_day 11 = .ok (.iload_n 2, 1) := by decide +kernel
theorem dX7_day_12 : decode cX7_day 12 = .ok (.iconst 1, 1) := by decide +kernel
theorem dX7_day_13 : decode cX7_day 13 = .ok (.bipush 20, 2) := by decide +kernel
theorem dX7_day_15 : decode cX7_day 15 = .ok (.invokestatic 68, 3) := by decide +kernel
theorem dX7_day_18 : decode cX7_day 18 = .ok (.ifCond .eq 12, 3) := by decide +kernel
theorem dX7_day_21 : decode cX7_day 21 = .ok (.iload_n 3, 1) := by decide +kernel
theorem dX7_day_22 : decode cX7_day 22 = .ok (.iconst 0, 1) := by decide +kernel
theorem dX7_day_23 : decode cX7_day 23 = .ok (.iconst 2, 1) := by decide +kernel
theorem dX7_day_24 : decode cX7_day 24 = .ok (.invokestatic 68, 3) := by decide +kernel
theorem dX7_day_27 : decode cX7_day 27 = .ok (.ifCond .ne 5, 3) := by decide +kernel
theorem dX7_day_30 : decode cX7_day 30 = .ok (.iconst (-1), 1) := by decide +kernel
theorem dX7_day_31 : decode cX7_day 31 = .ok (.ireturn, 1) := by decide +kernel
theorem dX7_day_32 : decode cX7_day 32 = .ok (.aload_n 0, 1) := by decide +kernel
theorem dX7_day_33 : decode cX7_day 33 = .ok (.getfield 7, 3) := by decide +kernel
theorem dX7_day_36 : decode cX7_day 36 = .ok (.iconst 0, 1) := by decide +kernel
theorem dX7_day_37 : decode cX7_day 37 = .ok (.aload_n 0, 1) := by decide +kernel
theorem dX7_day_38 : decode cX7_day 38 = .ok (.getfield 16, 3) := by decide +kernel
theorem dX7_day_41 : decode cX7_day 41 = .ok (.iconst 0, 1) := by decide +kernel
theorem dX7_day_42 : decode cX7_day 42 = .ok (.invokestatic 49, 3) := by decide +kernel
theorem dX7_day_45 : decode cX7_day 45 = .ok (.iconst 0, 1) := by decide +kernel
theorem dX7_day_46 : decode cX7_day 46 = .ok (.istore 4, 2) := by decide +kernel
theorem dX7_day_48 : decode cX7_day 48 = .ok (.iload 4, 2) := by decide +kernel
theorem dX7_day_50 : decode cX7_day 50 = .ok (.iload_n 2, 1) := by decide +kernel
theorem dX7_day_51 : decode cX7_day 51 = .ok (.if_icmp .ge 41, 3) := by decide +kernel
theorem dX7_day_54 : decode cX7_day 54 = .ok (.ldc2_w 189, 3) := by decide +kernel
theorem dX7_day_57 : decode cX7_day 57 = .ok (.iload_n 1, 1) := by decide +kernel
theorem dX7_day_58 : decode cX7_day 58 = .ok (.i2l, 1) := by decide +kernel
theorem dX7_day_59 : decode cX7_day 59 = .ok (.lmul, 1) := by decide +kernel
theorem dX7_day_60 : decode cX7_day 60 = .ok (.ldc2_w 191, 3) := by decide +kernel
theorem dX7_day_63 : decode cX7_day 63 = .ok (.iload 4, 2) := by decide +kernel
theorem dX7_day_65 : decode cX7_day 65 = .ok (.i2l, 1) := by decide +kernel
theorem dX7_day_66 : decode cX7_day 66 = .ok (.lmul, 1) := by decide +kernel
theorem dX7_day_67 : decode cX7_day 67 = .ok (.ladd, 1) := by decide +kernel
theorem dX7_day_68 : decode cX7_day 68 = .ok (.lconst 1, 1) := by decide +kernel
theorem dX7_day_69 : decode cX7_day 69 = .ok (.ladd, 1) := by decide +kernel
theorem dX7_day_70 : decode cX7_day 70 = .ok (.lstore 5, 2) := by decide +kernel
theorem dX7_day_72 : decode cX7_day 72 = .ok (.aload_n 0, 1) := by decide +kernel
theorem dX7_day_73 : decode cX7_day 73 = .ok (.lload 5, 2) := by decide +kernel
theorem dX7_day_75 : decode cX7_day 75 = .ok (.lload 5, 2) := by decide +kernel
theorem dX7_day_77 : decode cX7_day 77 = .ok (.lmul, 1) := by decide +kernel
theorem dX7_day_78 : decode cX7_day 78 = .ok (.ldc2_w 193, 3) := by decide +kernel
theorem dX7_day_81 : decode cX7_day 81 = .ok (.lrem, 1) := by decide +kernel
theorem dX7_day_82 : decode cX7_day 82 = .ok (.l2i, 1) := by decide +kernel
theorem dX7_day_83 : decode cX7_day 83 = .ok (.invokevirtual 195, 3) := by decide +kernel
theorem dX7_day_86 : decode cX7_day 86 = .ok (.iinc 4 1, 3) := by decide +kernel
theorem dX7_day_89 : decode cX7_day 89 = .ok (.goto (-41), 3) := by decide +kernel
theorem dX7_day_92 : decode cX7_day 92 = .ok (.iload_n 3, 1) := by decide +kernel
theorem dX7_day_93 : decode cX7_day 93 = .ok (.ifCond .ne 10, 3) := by decide +kernel
theorem dX7_day_96 : decode cX7_day 96 = .ok (.aload_n 0, 1) := by decide +kernel
theorem dX7_day_97 : decode cX7_day 97 = .ok (.getfield 16, 3) := by decide +kernel
theorem dX7_day_100 : decode cX7_day 100 = .ok (.iconst 0, 1) := by decide +kernel
theorem dX7_day_101 : decode cX7_day 101 = .ok (.iaload, 1) := by decide +kernel
theorem dX7_day_102 : decode cX7_day 102 = .ok (.ireturn, 1) := by decide +kernel
theorem dX7_day_103 : decode cX7_day 103 = .ok (.iload_n 3, 1) := by decide +kernel
theorem dX7_day_104 : decode cX7_day 104 = .ok (.iconst 1, 1) := by decide +kernel
theorem dX7_day_105 : decode cX7_day 105 = .ok (.if_icmp .ne 23, 3) := by decide +kernel
theorem dX7_day_108 : decode cX7_day 108 = .ok (.aload_n 0, 1) := by decide +kernel
theorem dX7_day_109 : decode cX7_day 109 = .ok (.aload_n 0, 1) := by decide +kernel
theorem dX7_day_110 : decode cX7_day 110 = .ok (.getfield 16, 3) := by decide +kernel
theorem dX7_day_113 : decode cX7_day 113 = .ok (.aload_n 0, 1) := by decide +kernel
theorem dX7_day_114 : decode cX7_day 114 = .ok (.getfield 16, 3) := by decide +kernel
theorem dX7_day_117 : decode cX7_day 117 = .ok (.invokestatic 166, 3) := by decide +kernel
theorem dX7_day_120 : decode cX7_day 120 = .ok (.invokevirtual 145, 3) := by decide +kernel
theorem dX7_day_123 : decode cX7_day 123 = .ok (.aload_n 0, 1) := by decide +kernel
theorem dX7_day_124 : decode cX7_day 124 = .ok (.getfield 136, 3) := by decide +kernel
theorem dX7_day_127 : decode cX7_day 127 = .ok (.ireturn, 1) := by decide +kernel
theorem dX7_day_128 : decode cX7_day 128 = .ok (.aload_n 0, 1) := by decide +kernel
theorem dX7_day_129 : decode cX7_day 129 = .ok (.aload_n 0, 1) := by decide +kernel
theorem dX7_day_130 : decode cX7_day 130 = .ok (.getfield 16, 3) := by decide +kernel
theorem dX7_day_133 : decode cX7_day 133 = .ok (.invokevirtual 182, 3) := by decide +kernel
theorem dX7_day_136 : decode cX7_day 136 = .ok (.aload_n 0, 1) := by decide +kernel
theorem dX7_day_137 : decode cX7_day 137 = .ok (.getfield 179, 3) := by decide +kernel
theorem dX7_day_140 : decode cX7_day 140 = .ok (.ireturn, 1) := by decide +kernel
theorem dX7_keep_0 : decode cX7_keep 0 = .ok (.aload_n 0, 1) := by decide +kernel
theorem dX7_keep_1 : decode cX7_keep 1 = .ok (.getfield 89, 3) := by decide +kernel
theorem dX7_keep_4 : decode cX7_keep 4 = .ok (.iconst 2, 1) := by decide +kernel
theorem dX7_keep_5 : decode cX7_keep 5 = .ok (.if_icmp .ne 6, 3) := by decide +kernel
theorem dX7_keep_8 : decode cX7_keep 8 = .ok (.bipush (-3), 2) := by decide +kernel
theorem dX7_keep_10 : decode cX7_keep 10 = .ok (.ireturn, 1) := by decide +kernel
theorem dX7_keep_11 : decode cX7_keep 11 = .ok (.aload_n 0, 1) := by decide +kernel
theorem dX7_keep_12 : decode cX7_keep 12 = .ok (.getfield 7, 3) := by decide +kernel
theorem dX7_keep_15 : decode cX7_keep 15 = .ok (.iconst 0, 1) := by decide +kernel
theorem dX7_keep_16 : decode cX7_keep 16 = .ok (.aload_n 0, 1) := by decide +kernel
theorem dX7_keep_17 : decode cX7_keep 17 = .ok (.getfield 22, 3) := by decide +kernel
theorem dX7_keep_20 : decode cX7_keep 20 = .ok (.bipush 30, 2) := by decide +kernel
theorem dX7_keep_22 : decode cX7_keep 22 = .ok (.aload_n 0, 1) := by decide +kernel
theorem dX7_keep_23 : decode cX7_keep 23 = .ok (.getfield 89, 3) := by decide +kernel
theorem dX7_keep_26 : decode cX7_keep 26 = .ok (.imul, 1) := by decide +kernel
theorem dX7_keep_27 : decode cX7_keep 27 = .ok (.invokestatic 49, 3) := by decide +kernel
theorem dX7_keep_30 : decode cX7_keep 30 = .ok (.aload_n 0, 1) := by decide +kernel
theorem dX7_keep_31 : decode cX7_keep 31 = .ok (.dup, 1) := by decide +kernel
theorem dX7_keep_32 : decode cX7_keep 32 = .ok (.getfield 89, 3) := by decide +kernel
theorem dX7_keep_35 : decode cX7_keep 35 = .ok (.iconst 1, 1) := by decide +kernel
theorem dX7_keep_36 : decode cX7_keep 36 = .ok (.iadd, 1) := by decide +kernel
theorem dX7_keep_37 : decode cX7_keep 37 = .ok (.putfield 89, 3) := by decide +kernel
theorem dX7_keep_40 : decode cX7_keep 40 = .ok (.aload_n 0, 1) := by decide +kernel
theorem dX7_keep_41 : decode cX7_keep 41 = .ok (.getfield 89, 3) := by decide +kernel
theorem dX7_keep_44 : decode cX7_keep 44 = .ok (.ireturn, 1) := by decide +kernel
theorem dX7_back_0 : decode cX7_back 0 = .ok (.aload_n 0, 1) := by decide +kernel
theorem dX7_back_1 : decode cX7_back 1 = .ok (.getfield 89, 3) := by decide +kernel
theorem dX7_back_4 : decode cX7_back 4 = .ok (.ifCond .ne 6, 3) := by decide +kernel
theorem dX7_back_7 : decode cX7_back 7 = .ok (.bipush (-2), 2) := by decide +kernel
theorem dX7_back_9 : decode cX7_back 9 = .ok (.ireturn, 1) := by decide +kernel
theorem dX7_back_10 : decode cX7_back 10 = .ok (.aload_n 0, 1) := by decide +kernel
theorem dX7_back_11 : decode cX7_back 11 = .ok (.dup, 1) := by decide +kernel
theorem dX7_back_12 : decode cX7_back 12 = .ok (.getfield 89, 3) := by decide +kernel
theorem dX7_back_15 : decode cX7_back 15 = .ok (.iconst 1, 1) := by decide +kernel
theorem dX7_back_16 : decode cX7_back 16 = .ok (.isub, 1) := by decide +kernel
theorem dX7_back_17 : decode cX7_back 17 = .ok (.putfield 89, 3) := by decide +kernel
theorem dX7_back_20 : decode cX7_back 20 = .ok (.aload_n 0, 1) := by decide +kernel
theorem dX7_back_21 : decode cX7_back 21 = .ok (.getfield 22, 3) := by decide +kernel
theorem dX7_back_24 : decode cX7_back 24 = .ok (.bipush 30, 2) := by decide +kernel
theorem dX7_back_26 : decode cX7_back 26 = .ok (.aload_n 0, 1) := by decide +kernel
theorem dX7_back_27 : decode cX7_back 27 = .ok (.getfield 89, 3) := by decide +kernel
theorem dX7_back_30 : decode cX7_back 30 = .ok (.imul, 1) := by decide +kernel
theorem dX7_back_31 : decode cX7_back 31 = .ok (.aload_n 0, 1) := by decide +kernel
theorem dX7_back_32 : decode cX7_back 32 = .ok (.getfield 7, 3) := by decide +kernel
theorem dX7_back_35 : decode cX7_back 35 = .ok (.iconst 0, 1) := by decide +kernel
theorem dX7_back_36 : decode cX7_back 36 = .ok (.invokestatic 49, 3) := by decide +kernel
theorem dX7_back_39 : decode cX7_back 39 = .ok (.aload_n 0, 1) := by decide +kernel
theorem dX7_back_40 : decode cX7_back 40 = .ok (.iconst 0, 1) := by decide +kernel
theorem dX7_back_41 : decode cX7_back 41 = .ok (.putfield 86, 3) := by decide +kernel
theorem dX7_back_44 : decode cX7_back 44 = .ok (.aload_n 0, 1) := by decide +kernel
theorem dX7_back_45 : decode cX7_back 45 = .ok (.getfield 89, 3) := by decide +kernel
theorem dX7_back_48 : decode cX7_back 48 = .ok (.ireturn, 1) := by decide +kernel
theorem dX7_count_0 : decode cX7_count 0 = .ok (.iload_n 1, 1) := by decide +kernel
theorem dX7_count_1 : decode cX7_count 1 = .ok (.tableswitch 64 0 4 #[35, 42, 49, 54, 59], 35) := by decide +kernel
theorem dX7_count_36 : decode cX7_count 36 = .ok (.aload_n 0, 1) := by decide +kernel
theorem dX7_count_37 : decode cX7_count 37 = .ok (.getfield 7, 3) := by decide +kernel
theorem dX7_count_40 : decode cX7_count 40 = .ok (.iconst 0, 1) := by decide +kernel
theorem dX7_count_41 : decode cX7_count 41 = .ok (.iaload, 1) := by decide +kernel
theorem dX7_count_42 : decode cX7_count 42 = .ok (.ireturn, 1) := by decide +kernel
theorem dX7_count_43 : decode cX7_count 43 = .ok (.aload_n 0, 1) := by decide +kernel
theorem dX7_count_44 : decode cX7_count 44 = .ok (.getfield 7, 3) := by decide +kernel
theorem dX7_count_47 : decode cX7_count 47 = .ok (.iconst 1, 1) := by decide +kernel
theorem dX7_count_48 : decode cX7_count 48 = .ok (.iaload, 1) := by decide +kernel
theorem dX7_count_49 : decode cX7_count 49 = .ok (.ireturn, 1) := by decide +kernel
theorem dX7_count_50 : decode cX7_count 50 = .ok (.aload_n 0, 1) := by decide +kernel
theorem dX7_count_51 : decode cX7_count 51 = .ok (.getfield 86, 3) := by decide +kernel
theorem dX7_count_54 : decode cX7_count 54 = .ok (.ireturn, 1) := by decide +kernel
theorem dX7_count_55 : decode cX7_count 55 = .ok (.aload_n 0, 1) := by decide +kernel
theorem dX7_count_56 : decode cX7_count 56 = .ok (.getfield 89, 3) := by decide +kernel
theorem dX7_count_59 : decode cX7_count 59 = .ok (.ireturn, 1) := by decide +kernel
theorem dX7_count_60 : decode cX7_count 60 = .ok (.aload_n 0, 1) := by decide +kernel
theorem dX7_count_61 : decode cX7_count 61 = .ok (.getfield 61, 3) := by decide +kernel
theorem dX7_count_64 : decode cX7_count 64 = .ok (.ireturn, 1) := by decide +kernel
theorem dX7_count_65 : decode cX7_count 65 = .ok (.iconst (-1), 1) := by decide +kernel
theorem dX7_count_66 : decode cX7_count 66 = .ok (.ireturn, 1) := by decide +kernel
