theorem dJ6_bitCount_0f7a4_0 : decode cJ6_bitCount_0f7a4 0 = .ok (.iload_n 0, 1) := by decide +kernel
theorem dJ6_bitCount_0f7a4_1 : decode cJ6_bitCount_0f7a4 1 = .ok (.iload_n 0, 1) := by decide +kernel
theorem dJ6_bitCount_0f7a4_2 : decode cJ6_bitCount_0f7a4 2 = .ok (.iconst 1, 1) := by decide +kernel
theorem dJ6_bitCount_0f7a4_3 : decode cJ6_bitCount_0f7a4 3 = .ok (.iushr, 1) := by decide +kernel
theorem dJ6_bitCount_0f7a4_4 : decode cJ6_bitCount_0f7a4 4 = .ok (.ldc_w 265, 3) := by decide +kernel
theorem dJ6_bitCount_0f7a4_7 : decode cJ6_bitCount_0f7a4 7 = .ok (.iand, 1) := by decide +kernel
theorem dJ6_bitCount_0f7a4_8 : decode cJ6_bitCount_0f7a4 8 = .ok (.isub, 1) := by decide +kernel
theorem dJ6_bitCount_0f7a4_9 : decode cJ6_bitCount_0f7a4 9 = .ok (.istore_n 0, 1) := by decide +kernel
theorem dJ6_bitCount_0f7a4_10 : decode cJ6_bitCount_0f7a4 10 = .ok (.iload_n 0, 1) := by decide +kernel
theorem dJ6_bitCount_0f7a4_11 : decode cJ6_bitCount_0f7a4 11 = .ok (.ldc_w 266, 3) := by decide +kernel
theorem dJ6_bitCount_0f7a4_14 : decode cJ6_bitCount_0f7a4 14 = .ok (.iand, 1) := by decide +kernel
theorem dJ6_bitCount_0f7a4_15 : decode cJ6_bitCount_0f7a4 15 = .ok (.iload_n 0, 1) := by decide +kernel
theorem dJ6_bitCount_0f7a4_16 : decode cJ6_bitCount_0f7a4 16 = .ok (.iconst 2, 1) := by decide +kernel
theorem dJ6_bitCount_0f7a4_17 : decode cJ6_bitCount_0f7a4 17 = .ok (.iushr, 1) := by decide +kernel
theorem dJ6_bitCount_0f7a4_18 : decode cJ6_bitCount_0f7a4 18 = .ok (.ldc_w 266, 3) := by decide +kernel
theorem dJ6_bitCount_0f7a4_21 : decode cJ6_bitCount_0f7a4 21 = .ok (.iand, 1) := by decide +kernel
theorem dJ6_bitCount_0f7a4_22 : decode cJ6_bitCount_0f7a4 22 = .ok (.iadd, 1) := by decide +kernel
theorem dJ6_bitCount_0f7a4_23 : decode cJ6_bitCount_0f7a4 23 = .ok (.istore_n 0, 1) := by decide +kernel
theorem dJ6_bitCount_0f7a4_24 : decode cJ6_bitCount_0f7a4 24 = .ok (.iload_n 0, 1) := by decide +kernel
theorem dJ6_bitCount_0f7a4_25 : decode cJ6_bitCount_0f7a4 25 = .ok (.iload_n 0, 1) := by decide +kernel
theorem dJ6_bitCount_0f7a4_26 : decode cJ6_bitCount_0f7a4 26 = .ok (.iconst 4, 1) := by decide +kernel
theorem dJ6_bitCount_0f7a4_27 : decode cJ6_bitCount_0f7a4 27 = .ok (.iushr, 1) := by decide +kernel
theorem dJ6_bitCount_0f7a4_28 : decode cJ6_bitCount_0f7a4 28 = .ok (.iadd, 1) := by decide +kernel
theorem dJ6_bitCount_0f7a4_29 : decode cJ6_bitCount_0f7a4 29 = .ok (.ldc_w 267, 3) := by decide +kernel
theorem dJ6_bitCount_0f7a4_32 : decode cJ6_bitCount_0f7a4 32 = .ok (.iand, 1) := by decide +kernel
theorem dJ6_bitCount_0f7a4_33 : decode cJ6_bitCount_0f7a4 33 = .ok (.istore_n 0, 1) := by decide +kernel
theorem dJ6_bitCount_0f7a4_34 : decode cJ6_bitCount_0f7a4 34 = .ok (.iload_n 0, 1) := by decide +kernel
theorem dJ6_bitCount_0f7a4_35 : decode cJ6_bitCount_0f7a4 35 = .ok (.iload_n 0, 1) := by decide +kernel
theorem dJ6_bitCount_0f7a4_36 : decode cJ6_bitCount_0f7a4 36 = .ok (.bipush 8, 2) := by decide +kernel
theorem dJ6_bitCount_0f7a4_38 : decode cJ6_bitCount_0f7a4 38 = .ok (.iushr, 1) := by decide +kernel
theorem dJ6_bitCount_0f7a4_39 : decode cJ6_bitCount_0f7a4 39 = .ok (.iadd, 1) := by decide +kernel
theorem dJ6_bitCount_0f7a4_40 : decode cJ6_bitCount_0f7a4 40 = .ok (.istore_n 0, 1) := by decide +kernel
theorem dJ6_bitCount_0f7a4_41 : decode cJ6_bitCount_0f7a4 41 = .ok (.iload_n 0, 1) := by decide +kernel
theorem dJ6_bitCount_0f7a4_42 : decode cJ6_bitCount_0f7a4 42 = .ok (.iload_n 0, 1) := by decide +kernel
theorem dJ6_bitCount_0f7a4_43 : decode cJ6_bitCount_0f7a4 43 = .ok (.bipush 16, 2) := by decide +kernel
theorem dJ6_bitCount_0f7a4_45 : decode cJ6_bitCount_0f7a4 45 = .ok (.iushr, 1) := by decide +kernel
theorem dJ6_bitCount_0f7a4_46 : decode cJ6_bitCount_0f7a4 46 = .ok (.iadd, 1) := by decide +kernel
theorem dJ6_bitCount_0f7a4_47 : decode cJ6_bitCount_0f7a4 47 = .ok (.istore_n 0, 1) := by decide +kernel
theorem dJ6_bitCount_0f7a4_48 : decode cJ6_bitCount_0f7a4 48 = .ok (.iload_n 0, 1) := by decide +kernel
theorem dJ6_bitCount_0f7a4_49 : decode cJ6_bitCount_0f7a4 49 = .ok (.bipush 63, 2) := by decide +kernel
theorem dJ6_bitCount_0f7a4_51 : decode cJ6_bitCount_0f7a4 51 = .ok (.iand, 1) := by decide +kernel
theorem dJ6_bitCount_0f7a4_52 : decode cJ6_bitCount_0f7a4 52 = .ok (.ireturn, 1) := by decide +kernel
theorem dJ9_floorMod_7cf53_0 : decode cJ9_floorMod_7cf53 0 = .ok (.iload_n 0, 1) := by decide +kernel
theorem dJ9_floorMod_7cf53_1 : decode cJ9_floorMod_7cf53 1 = .ok (.iload_n 1, 1) := by decide +kernel
theorem dJ9_floorMod_7cf53_2 : decode cJ9_floorMod_7cf53 2 = .ok (.irem, 1) := by decide +kernel
theorem dJ9_floorMod_7cf53_3 : decode cJ9_floorMod_7cf53 3 = .ok (.istore_n 2, 1) := by decide +kernel
theorem dJ9_floorMod_7cf53_4 : decode cJ9_floorMod_7cf53 4 = .ok (.iload_n 0, 1) := by decide +kernel
theorem dJ9_floorMod_7cf53_5 : decode cJ9_floorMod_7cf53 5 = .ok (.iload_n 1, 1) := by decide +kernel
theorem dJ9_floorMod_7cf53_6 : decode cJ9_floorMod_7cf53 6 = .ok (.ixor, 1) := by decide +kernel
theorem dJ9_floorMod_7cf53_7 : decode cJ9_floorMod_7cf53 7 = .ok (.ifCond .ge 11, 3) := by decide +kernel
theorem dJ9_floorMod_7cf53_10 : decode cJ9_floorMod_7cf53 10 = .ok (.iload_n 2, 1) := by decide +kernel
theorem dJ9_floorMod_7cf53_11 : decode cJ9_floorMod_7cf53 11 = .ok (.ifCond .eq 7, 3) := by decide +kernel
theorem dJ9_floorMod_7cf53_14 : decode cJ9_floorMod_7cf53 14 = .ok (.iload_n 2, 1) := by decide +kernel
theorem dJ9_floorMod_7cf53_15 : decode cJ9_floorMod_7cf53 15 = .ok (.iload_n 1, 1) := by decide +kernel
theorem dJ9_floorMod_7cf53_16 : decode cJ9_floorMod_7cf53 16 = .ok (.iadd, 1) := by decide +kernel
theorem dJ9_floorMod_7cf53_17 : decode cJ9_floorMod_7cf53 17 = .ok (.ireturn, 1) := by decide +kernel
theorem dJ9_floorMod_7cf53_18 : decode cJ9_floorMod_7cf53 18 = .ok (.iload_n 2, 1) := by decide +kernel
theorem dJ9_floorMod_7cf53_19 : decode cJ9_floorMod_7cf53 19 = .ok (.ireturn, 1) := by decide +kernel
theorem dJ9_max_7cf53_0 : decode cJ9_max_7cf53 0 = .ok (.iload_n 0, 1) := by decide +kernel
theorem dJ9_max_7cf53_1 : decode cJ9_max_7cf53 1 = .ok (.iload_n 1, 1) := by decide +kernel
theorem dJ9_max_7cf53_2 : decode cJ9_max_7cf53 2 = .ok (.if_icmp .lt 7, 3) := by decide +kernel
theorem dJ9_max_7cf53_5 : decode cJ9_max_7cf53 5 = .ok (.iload_n 0, 1) := by decide +kernel
theorem dJ9_max_7cf53_6 : decode cJ9_max_7cf53 6 = .ok (.goto 4, 3) := by decide +kernel
theorem dJ9_max_7cf53_9 : decode cJ9_max_7cf53 9 = .ok (.iload_n 1, 1) := by decide +kernel
theorem dJ9_max_7cf53_10 : decode cJ9_max_7cf53 10 = .ok (.ireturn, 1) := by decide +kernel
theorem dJ7_fill_53178_0 : decode cJ7_fill_53178 0 = .ok (.iconst 0, 1) := by decide +kernel
theorem dJ7_fill_53178_1 : decode cJ7_fill_53178 1 = .ok (.istore_n 2, 1) := by decide +kernel
theorem dJ7_fill_53178_2 : decode cJ7_fill_53178 2 = .ok (.aload_n 0, 1) := by decide +kernel
theorem dJ7_fill_53178_3 : decode cJ7_fill_53178 3 = .ok (.arraylength, 1) := by decide +kernel
theorem dJ7_fill_53178_4 : decode cJ7_fill_53178 4 = .ok (.istore_n 3, 1) := by decide +kernel
theorem dJ7_fill_53178_5 : decode cJ7_fill_53178 5 = .ok (.iload_n 2, 1) := by decide +kernel
theorem dJ7_fill_53178_6 : decode cJ7_fill_53178 6 = .ok (.iload_n 3, 1) := by decide +kernel
theorem dJ7_fill_53178_7 : decode cJ7_fill_53178 7 = .ok (.if_icmp .ge 13, 3) := by decide +kernel
theorem dJ7_fill_53178_10 : decode cJ7_fill_53178 10 = .ok (.aload_n 0, 1) := by decide +kernel
theorem dJ7_fill_53178_11 : decode cJ7_fill_53178 11 = .ok (.iload_n 2, 1) := by decide +kernel
theorem dJ7_fill_53178_12 : decode cJ7_fill_53178 12 = .ok (.iload_n 1, 1) := by decide +kernel
theorem dJ7_fill_53178_13 : decode cJ7_fill_53178 13 = .ok (.iastore, 1) := by decide +kernel
theorem dJ7_fill_53178_14 : decode cJ7_fill_53178 14 = .ok (.iinc 2 1, 3) := by decide +kernel
theorem dJ7_fill_53178_17 : decode cJ7_fill_53178 17 = .ok (.goto (-12), 3) := by decide +kernel
theorem dJ7_fill_53178_20 : decode cJ7_fill_53178 20 = .ok (.return_, 1) := by decide +kernel
theorem dX0_init_0 : decode cX0_init 0 = .ok (.aload_n 0, 1) := by decide +kernel
theorem dX0_init_1 : decode cX0_init 1 = .ok (.invokespecial 3, 3) := by decide +kernel
theorem dX0_init_4 : decode cX0_init 4 = .ok (.aload_n 0, 1) := by decide +kernel
theorem dX0_init_5 : decode cX0_init 5 = .ok (.sipush 448, 3) := by decide +kernel
theorem dX0_init_8 : decode cX0_init 8 = .ok (.newarray .int, 2) := by decide +kernel
theorem dX0_init_10 : decode cX0_init 10 = .ok (.putfield 9, 3) := by decide +kernel
theorem dX0_init_13 : decode cX0_init 13 = .ok (.return_, 1) := by decide +kernel
theorem dX0_fewestOf_0 : decode cX0_fewestOf 0 = .ok (.aload_n 0, 1) := by decide +kernel
theorem dX0_fewestOf_1 : decode cX0_fewestOf 1 = .ok (.aload_n 1, 1) := by decide +kernel
theorem dX0_fewestOf_2 : decode cX0_fewestOf 2 = .ok (.invokevirtual 15, 3) := by decide +kernel
theorem dX0_fewestOf_5 : decode cX0_fewestOf 5 = .ok (.aload_n 1, 1) := by decide +kernel
theorem dX0_fewestOf_6 : decode cX0_fewestOf 6 = .ok (.invokevirtual 19, 3) := by decide +kernel
theorem dX0_fewestOf_9 : decode cX0_fewestOf 9 = .ok (.istore_n 2, 1) := by decide +kernel
theorem dX0_fewestOf_10 : decode cX0_fewestOf 10 = .ok (.iconst 0, 1) := by decide +kernel
theorem dX0_fewestOf_11 : decode cX0_fewestOf 11 = .ok (.istore_n 3, 1) := by decide +kernel
theorem dX0_fewestOf_12 : decode cX0_fewestOf 12 = .ok (.iload_n 3, 1) := by decide +kernel
theorem dX0_fewestOf_13 : decode cX0_fewestOf 13 = .ok (.bipush 14, 2) := by decide +kernel
theorem dX0_fewestOf_15 : decode cX0_fewestOf 15 = .ok (.if_icmp .ge 27, 3) := by decide +kernel
theorem dX0_fewestOf_18 : decode cX0_fewestOf 18 = .ok (.aload_n 0, 1) := by decide +kernel
theorem dX0_fewestOf_19 : decode cX0_fewestOf 19 = .ok (.getfield 9, 3) := by decide +kernel
theorem dX0_fewestOf_22 : decode cX0_fewestOf 22 = .ok (.aload_n 0, 1) := by decide +kernel
theorem dX0_fewestOf_23 : decode cX0_fewestOf 23 = .ok (.getfield 25, 3) := by decide +kernel
theorem dX0_fewestOf_26 : decode cX0_fewestOf 26 = .ok (.iload_n 2, 1) := by decide +kernel
theorem dX0_fewestOf_27 : decode cX0_fewestOf 27 = .ok (.iload_n 3, 1) := by decide +kernel
theorem dX0_fewestOf_28 : decode cX0_fewestOf 28 = .ok (.invokestatic 29, 3) := by decide +kernel
theorem dX0_fewestOf_31 : decode cX0_fewestOf 31 = .ok (.ifCond .eq 5, 3) := by decide +kernel
theorem dX0_fewestOf_34 : decode cX0_fewestOf 34 = .ok (.iload_n 3, 1) := by decide +kernel
theorem dX0_fewestOf_35 : decode cX0_fewestOf 35 = .ok (.ireturn, 1) := by decide +kernel
theorem dX0_fewestOf_36 : decode cX0_fewestOf 36 = .ok (.iinc 3 1, 3) := by decide +kernel
theorem dX0_fewestOf_39 : decode cX0_fewestOf 39 = .ok (.goto (-27), 3) := by decide +kernel
theorem dX0_fewestOf_42 : decode cX0_fewestOf 42 = .ok (.bipush 14, 2) := by decide +kernel
theorem dX0_fewestOf_44 : decode cX0_fewestOf 44 = .ok (.ireturn, 1) := by decide +kernel
theorem dX0_gather_0 : decode cX0_gather 0 = .ok (.aload_n 0, 1) := by decide +kernel
theorem dX0_gather_1 : decode cX0_gather 1 = .ok (.iconst 0, 1) := by decide +kernel
theorem dX0_gather_2 : decode cX0_gather 2 = .ok (.putfield 25, 3) := by decide +kernel
theorem dX0_gather_5 : decode cX0_gather 5 = .ok (.iconst 0, 1) := by decide +kernel
theorem dX0_gather_6 : decode cX0_gather 6 = .ok (.istore_n 2, 1) := by decide +kernel
theorem dX0_gather_7 : decode cX0_gather 7 = .ok (.iload_n 2, 1) := by decide +kernel
theorem dX0_gather_8 : decode cX0_gather 8 = .ok (.aload_n 1, 1) := by decide +kernel
theorem dX0_gather_9 : decode cX0_gather 9 = .ok (.getfield 33, 3) := by decide +kernel
theorem dX0_gather_12 : decode cX0_gather 12 = .ok (.if_icmp .ge 42, 3) := by decide +kernel
theorem dX0_gather_15 : decode cX0_gather 15 = .ok (.aload_n 1, 1) := by decide +kernel
theorem dX0_gather_16 : decode cX0_gather 16 = .ok (.iload_n 2, 1) := by decide +kernel
theorem dX0_gather_17 : decode cX0_gather 17 = .ok (.invokestatic 36, 3) := by decide +kernel
theorem dX0_gather_20 : decode cX0_gather 20 = .ok (.ifCond .ne 28, 3) := by decide +kernel
theorem dX0_gather_23 : decode cX0_gather 23 = .ok (.aload_n 0, 1) := by decide +kernel
theorem dX0_gather_24 : decode cX0_gather 24 = .ok (.getfield 9, 3) := by decide +kernel
theorem dX0_gather_27 : decode cX0_gather 27 = .ok (.aload_n 0, 1) := by decide +kernel
theorem dX0_gather_28 : decode cX0_gather 28 = .ok (.getfield 25, 3) := by decide +kernel
theorem dX0_gather_31 : decode cX0_gather 31 = .ok (.aload_n 1, 1) := by decide +kernel
theorem dX0_gather_32 : decode cX0_gather 32 = .ok (.getfield 40, 3) := by decide +kernel
theorem dX0_gather_35 : decode cX0_gather 35 = .ok (.iload_n 2, 1) := by decide +kernel
theorem dX0_gather_36 : decode cX0_gather 36 = .ok (.iaload, 1) := by decide +kernel
theorem dX0_gather_37 : decode cX0_gather 37 = .ok (.iastore, 1) := by decide +kernel
theorem dX0_gather_38 : decode cX0_gather 38 = .ok (.aload_n 0, 1) := by decide +kernel
theorem dX0_gather_39 : decode cX0_gather 39 = .ok (.dup, 1) := by decide +kernel
theorem dX0_gather_40 : decode cX0_gather 40 = .ok (.getfield 25, 3) := by decide +kernel
theorem dX0_gather_43 : decode cX0_gather 43 = .ok (.iconst 1, 1) := by decide +kernel
theorem dX0_gather_44 : decode cX0_gather 44 = .ok (.iadd, 1) := by decide +kernel
theorem dX0_gather_45 : decode cX0_gather 45 = .ok (.putfield 25, 3) := by decide +kernel
theorem dX0_gather_48 : decode cX0_gather 48 = .ok (.iinc 2 1, 3) := by decide +kernel
theorem dX0_gather_51 : decode cX0_gather 51 = .ok (.goto (-44), 3) := by decide +kernel
theorem dX0_gather_54 : decode cX0_gather 54 = .ok (.return_, 1) := by decide +kernel
theorem dX0_isWithinAnother_0 : decode cX0_isWithinAnother 0 = .ok (.aload_n 0, 1) := by decide +kernel
theorem dX0_isWithinAnother_1 : decode cX0_isWithinAnother 1 = .ok (.getfield 40, 3) := by decide +kernel
theorem dX0_isWithinAnother_4 : decode cX0_isWithinAnother 4 = .ok (.iload_n 1, 1) := by decide +kernel
theorem dX0_isWithinAnother_5 : decode cX0_isWithinAnother 5 = .ok (.iaload, 1) := by decide +kernel
theorem dX0_isWithinAnother_6 : decode cX0_isWithinAnother 6 = .ok (.istore_n 2, 1) := by decide +kernel
theorem dX0_isWithinAnother_7 : decode cX0_isWithinAnother 7 = .ok (.iconst 0, 1) := by decide +kernel
theorem dX0_isWithinAnother_8 : decode cX0_isWithinAnother 8 = .ok (.istore_n 3, 1) := by decide +kernel
theorem dX0_isWithinAnother_9 : decode cX0_isWithinAnother 9 = .ok (.iload_n 3, 1) := by decide +kernel
theorem dX0_isWithinAnother_10 : decode cX0_isWithinAnother 10 = .ok (.aload_n 0, 1) := by decide +kernel
theorem dX0_isWithinAnother_11 : decode cX0_isWithinAnother 11 = .ok (.getfield 33, 3) := by decide +kernel
theorem dX0_isWithinAnother_14 : decode cX0_isWithinAnother 14 = .ok (.if_icmp .ge 51, 3) := by decide +kernel
theorem dX0_isWithinAnother_17 : decode cX0_isWithinAnother 17 = .ok (.aload_n 0, 1) := by decide +kernel
theorem dX0_isWithinAnother_18 : decode cX0_isWithinAnother 18 = .ok (.getfield 40, 3) := by decide +kernel
theorem dX0_isWithinAnother_21 : decode cX0_isWithinAnother 21 = .ok (.iload_n 3, 1) := by decide +kernel
theorem dX0_isWithinAnother_22 : decode cX0_isWithinAnother 22 = .ok (.iaload, 1) := by decide +kernel
theorem dX0_isWithinAnother_23 : decode cX0_isWithinAnother 23 = .ok (.istore 4, 2) := by decide +kernel
theorem dX0_isWithinAnother_25 : decode cX0_isWithinAnother 25 = .ok (.iload_n 2, 1) := by decide +kernel
theorem dX0_isWithinAnother_26 : decode cX0_isWithinAnother 26 = .ok (.iload 4, 2) := by decide +kernel
theorem dX0_isWithinAnother_28 : decode cX0_isWithinAnother 28 = .ok (.iconst (-1), 1) := by decide +kernel
theorem dX0_isWithinAnother_29 : decode cX0_isWithinAnother 29 = .ok (.ixor, 1) := by decide +kernel
theorem dX0_isWithinAnother_30 : decode cX0_isWithinAnother 30 = .ok (.iand, 1) := by decide +kernel
theorem dX0_isWithinAnother_31 : decode cX0_isWithinAnother 31 = .ok (.ifCond .ne 7, 3) := by decide +kernel
theorem dX0_isWithinAnother_34 : decode cX0_isWithinAnother 34 = .ok (.iconst 1, 1) := by decide +kernel
theorem dX0_isWithinAnother_35 : decode cX0_isWithinAnother 35 = .ok (.goto 4, 3) := by decide +kernel
theorem dX0_isWithinAnother_38 : decode cX0_isWithinAnother 38 = .ok (.iconst 0, 1) := by decide +kernel
theorem dX0_isWithinAnother_39 : decode cX0_isWithinAnother 39 = .ok (.istore 5, 2) := by decide +kernel
theorem dX0_isWithinAnother_41 : decode cX0_isWithinAnother 41 = .ok (.iload 5, 2) := by decide +kernel
theorem dX0_isWithinAnother_43 : decode cX0_isWithinAnother 43 = .ok (.ifCond .eq 16, 3) := by decide +kernel
theorem dX0_isWithinAnother_46 : decode cX0_isWithinAnother 46 = .ok (.iload 4, 2) := by decide +kernel
theorem dX0_isWithinAnother_48 : decode cX0_isWithinAnother 48 = .ok (.iload_n 2, 1) := by decide +kernel
theorem dX0_isWithinAnother_49 : decode cX0_isWithinAnother 49 = .ok (.if_icmp .ne 8, 3) := by decide +kernel
theorem dX0_isWithinAnother_52 : decode cX0_isWithinAnother 52 = .ok (.iload_n 3, 1) := by decide +kernel
theorem dX0_isWithinAnother_53 : decode cX0_isWithinAnother 53 = .ok (.iload_n 1, 1) := by decide +kernel
theorem dX0_isWithinAnother_54 : decode cX0_isWithinAnother 54 = .ok (.if_icmp .ge 5, 3) := by decide +kernel
theorem dX0_isWithinAnother_57 : decode cX0_isWithinAnother 57 = .ok (.iconst 1, 1) := by decide +kernel
theorem dX0_isWithinAnother_58 : decode cX0_isWithinAnother 58 = .ok (.ireturn, 1) := by decide +kernel
theorem dX0_isWithinAnother_59 : decode cX0_isWithinAnother 59 = .ok (.iinc 3 1, 3) := by decide +kernel
theorem dX0_isWithinAnother_62 : decode cX0_isWithinAnother 62 = .ok (.goto (-53), 3) := by decide +kernel
theorem dX0_isWithinAnother_65 : decode cX0_isWithinAnother 65 = .ok (.iconst 0, 1) := by decide +kernel
theorem dX0_isWithinAnother_66 : decode cX0_isWithinAnother 66 = .ok (.ireturn, 1) := by decide +kernel
theorem dX0_isReached_0 : decode cX0_isReached 0 = .ok (.iload_n 2, 1) := by decide +kernel
theorem dX0_isReached_1 : decode cX0_isReached 1 = .ok (.ifCond .ne 5, 3) := by decide +kernel
theorem dX0_isReached_4 : decode cX0_isReached 4 = .ok (.iconst 1, 1) := by decide +kernel
theorem dX0_isReached_5 : decode cX0_isReached 5 = .ok (.ireturn, 1) := by decide +kernel
theorem dX0_isReached_6 : decode cX0_isReached 6 = .ok (.iload_n 3, 1) := by decide +kernel
theorem dX0_isReached_7 : decode cX0_isReached 7 = .ok (.ifCond .gt 5, 3) := by decide +kernel
theorem dX0_isReached_10 : decode cX0_isReached 10 = .ok (.iconst 0, 1) := by decide +kernel
theorem dX0_isReached_11 : decode cX0_isReached 11 = .ok (.ireturn, 1) := by decide +kernel
theorem dX0_isReached_12 : decode cX0_isReached 12 = .ok (.iload_n 2, 1) := by decide +kernel
theorem dX0_isReached_13 : decode cX0_isReached 13 = .ok (.iload_n 2, 1) := by decide +kernel
theorem dX0_isReached_14 : decode cX0_isReached 14 = .ok (.ineg, 1) := by decide +kernel
theorem dX0_isReached_15 : decode cX0_isReached 15 = .ok (.iand, 1) := by decide +kernel
theorem dX0_isReached_16 : decode cX0_isReached 16 = .ok (.istore 4, 2) := by decide +kernel
theorem dX0_isReached_18 : decode cX0_isReached 18 = .ok (.iconst 0, 1) := by decide +kernel
theorem dX0_isReached_19 : decode cX0_isReached 19 = .ok (.istore 5, 2) := by decide +kernel
theorem dX0_isReached_21 : decode cX0_isReached 21 = .ok (.iload 5, 2) := by decide +kernel
theorem dX0_isReached_23 : decode cX0_isReached 23 = .ok (.iload_n 1, 1) := by decide +kernel
theorem dX0_isReached_24 : decode cX0_isReached 24 = .ok (.if_icmp .ge 40, 3) := by decide +kernel
theorem dX0_isReached_27 : decode cX0_isReached 27 = .ok (.aload_n 0, 1) := by decide +kernel
theorem dX0_isReached_28 : decode cX0_isReached 28 = .ok (.iload 5, 2) := by decide +kernel
theorem dX0_isReached_30 : decode cX0_isReached 30 = .ok (.iaload, 1) := by decide +kernel
theorem dX0_isReached_31 : decode cX0_isReached 31 = .ok (.iload 4, 2) := by decide +kernel
theorem dX0_isReached_33 : decode cX0_isReached 33 = .ok (.iand, 1) := by decide +kernel
theorem dX0_isReached_34 : decode cX0_isReached 34 = .ok (.ifCond .eq 24, 3) := by decide +kernel
theorem dX0_isReached_37 : decode cX0_isReached 37 = .ok (.aload_n 0, 1) := by decide +kernel
theorem dX0_isReached_38 : decode cX0_isReached 38 = .ok (.iload_n 1, 1) := by decide +kernel
theorem dX0_isReached_39 : decode cX0_isReached 39 = .ok (.iload_n 2, 1) := by decide +kernel
theorem dX0_isReached_40 : decode cX0_isReached 40 = .ok (.aload_n 0, 1) := by decide +kernel
theorem dX0_isReached_41 : decode cX0_isReached 41 = .ok (.iload 5, 2) := by decide +kernel
theorem dX0_isReached_43 : decode cX0_isReached 43 = .ok (.iaload, 1) := by decide +kernel
theorem dX0_isReached_44 : decode cX0_isReached 44 = .ok (.iconst (-1), 1) := by decide +kernel
theorem dX0_isReached_45 : decode cX0_isReached 45 = .ok (.ixor, 1) := by decide +kernel
theorem dX0_isReached_46 : decode cX0_isReached 46 = .ok (.iand, 1) := by decide +kernel
theorem dX0_isReached_47 : decode cX0_isReached 47 = .ok (.iload_n 3, 1) := by decide +kernel
theorem dX0_isReached_48 : decode cX0_isReached 48 = .ok (.iconst 1, 1) := by decide +kernel
theorem dX0_isReached_49 : decode cX0_isReached 49 = .ok (.isub, 1) := by decide +kernel
theorem dX0_isReached_50 : decode cX0_isReached 50 = .ok (.invokestatic 29, 3) := by decide +kernel
theorem dX0_isReached_53 : decode cX0_isReached 53 = .ok (.ifCond .eq 5, 3) := by decide +kernel
theorem dX0_isReached_56 : decode cX0_isReached 56 = .ok (.iconst 1, 1) := by decide +kernel
theorem dX0_isReached_57 : decode cX0_isReached 57 = .ok (.ireturn, 1) := by decide +kernel
theorem dX0_isReached_58 : decode cX0_isReached 58 = .ok (.iinc 5 1, 3) := by decide +kernel
theorem dX0_isReached_61 : decode cX0_isReached 61 = .ok (.goto (-40), 3) := by decide +kernel
theorem dX0_isReached_64 : decode cX0_isReached 64 = .ok (.iconst 0, 1) := by decide +kernel
theorem dX0_isReached_65 : decode cX0_isReached 65 = .ok (.ireturn, 1) := by decide +kernel
theorem dX1_init_0 : decode cX1_init 0 = .ok (.aload_n 0, 1) := by decide +kernel
theorem dX1_init_1 : decode cX1_init 1 = .ok (.invokespecial 3, 3) := by decide +kernel
theorem dX1_init_4 : decode cX1_init 4 = .ok (.aload_n 0, 1) := by decide +kernel
theorem dX1_init_5 : decode cX1_init 5 = .ok (.bipush 14, 2) := by decide +kernel
theorem dX1_init_7 : decode cX1_init 7 = .ok (.newarray .int, 2) := by decide +kernel
theorem dX1_init_9 : decode cX1_init 9 = .ok (.putfield 9, 3) := by decide +kernel
theorem dX1_init_12 : decode cX1_init 12 = .ok (.aload_n 0, 1) := by decide +kernel
theorem dX1_init_13 : decode cX1_init 13 = .ok (.bipush 14, 2) := by decide +kernel
theorem dX1_init_15 : decode cX1_init 15 = .ok (.newarray .int, 2) := by decide +kernel
theorem dX1_init_17 : decode cX1_init 17 = .ok (.putfield 15, 3) := by decide +kernel
theorem dX1_init_20 : decode cX1_init 20 = .ok (.aload_n 0, 1) := by decide +kernel
theorem dX1_init_21 : decode cX1_init 21 = .ok (.bipush 14, 2) := by decide +kernel
theorem dX1_init_23 : decode cX1_init 23 = .ok (.newarray .int, 2) := by decide +kernel
theorem dX1_init_25 : decode cX1_init 25 = .ok (.putfield 18, 3) := by decide +kernel
theorem dX1_init_28 : decode cX1_init 28 = .ok (.return_, 1) := by decide +kernel
theorem dX1_takeApart_0 : decode cX1_takeApart 0 = .ok (.aload_n 0, 1) := by decide +kernel
theorem dX1_takeApart_1 : decode cX1_takeApart 1 = .ok (.iconst 0, 1) := by decide +kernel
theorem dX1_takeApart_2 : decode cX1_takeApart 2 = .ok (.putfield 21, 3) := by decide +kernel
theorem dX1_takeApart_5 : decode cX1_takeApart 5 = .ok (.aload_n 0, 1) := by decide +kernel
theorem dX1_takeApart_6 : decode cX1_takeApart 6 = .ok (.iconst 0, 1) := by decide +kernel
theorem dX1_takeApart_7 : decode cX1_takeApart 7 = .ok (.putfield 25, 3) := by decide +kernel
theorem dX1_takeApart_10 : decode cX1_takeApart 10 = .ok (.aload_n 0, 1) := by decide +kernel
theorem dX1_takeApart_11 : decode cX1_takeApart 11 = .ok (.aload_n 1, 1) := by decide +kernel
theorem dX1_takeApart_12 : decode cX1_takeApart 12 = .ok (.invokevirtual 28, 3) := by decide +kernel
theorem dX1_takeApart_15 : decode cX1_takeApart 15 = .ok (.putfield 34, 3) := by decide +kernel
theorem dX1_takeApart_18 : decode cX1_takeApart 18 = .ok (.iconst 1, 1) := by decide +kernel
theorem dX1_takeApart_19 : decode cX1_takeApart 19 = .ok (.istore_n 3, 1) := by decide +kernel
theorem dX1_takeApart_20 : decode cX1_takeApart 20 = .ok (.iconst 0, 1) := by decide +kernel
theorem dX1_takeApart_21 : decode cX1_takeApart 21 = .ok (.istore 4, 2) := by decide +kernel
theorem dX1_takeApart_23 : decode cX1_takeApart 23 = .ok (.iload 4, 2) := by decide +kernel
theorem dX1_takeApart_25 : decode cX1_takeApart 25 = .ok (.bipush 14, 2) := by decide +kernel
theorem dX1_takeApart_27 : decode cX1_takeApart 27 = .ok (.if_icmp .ge 59, 3) := by decide +kernel
theorem dX1_takeApart_30 : decode cX1_takeApart 30 = .ok (.iload_n 3, 1) := by decide +kernel
theorem dX1_takeApart_31 : decode cX1_takeApart 31 = .ok (.ifCond .eq 55, 3) := by decide +kernel
theorem dX1_takeApart_34 : decode cX1_takeApart 34 = .ok (.aload_n 2, 1) := by decide +kernel
theorem dX1_takeApart_35 : decode cX1_takeApart 35 = .ok (.aload_n 1, 1) := by decide +kernel
theorem dX1_takeApart_36 : decode cX1_takeApart 36 = .ok (.aload_n 0, 1) := by decide +kernel
theorem dX1_takeApart_37 : decode cX1_takeApart 37 = .ok (.getfield 34, 3) := by decide +kernel
theorem dX1_takeApart_40 : decode cX1_takeApart 40 = .ok (.invokevirtual 37, 3) := by decide +kernel
theorem dX1_takeApart_43 : decode cX1_takeApart 43 = .ok (.aload_n 2, 1) := by decide +kernel
theorem dX1_takeApart_44 : decode cX1_takeApart 44 = .ok (.invokevirtual 43, 3) := by decide +kernel
theorem dX1_takeApart_47 : decode cX1_takeApart 47 = .ok (.istore 5, 2) := by decide +kernel
theorem dX1_takeApart_49 : decode cX1_takeApart 49 = .ok (.iload 5, 2) := by decide +kernel
theorem dX1_takeApart_51 : decode cX1_takeApart 51 = .ok (.ifCond .lt 16, 3) := by decide +kernel
theorem dX1_takeApart_54 : decode cX1_takeApart 54 = .ok (.aload_n 2, 1) := by decide +kernel
theorem dX1_takeApart_55 : decode cX1_takeApart 55 = .ok (.iload 5, 2) := by decide +kernel
theorem dX1_takeApart_57 : decode cX1_takeApart 57 = .ok (.invokevirtual 46, 3) := by decide +kernel
theorem dX1_takeApart_60 : decode cX1_takeApart 60 = .ok (.ifCond .le 7, 3) := by decide +kernel
theorem dX1_takeApart_63 : decode cX1_takeApart 63 = .ok (.iconst 1, 1) := by decide +kernel
theorem dX1_takeApart_64 : decode cX1_takeApart 64 = .ok (.goto 4, 3) := by decide +kernel
theorem dX1_takeApart_67 : decode cX1_takeApart 67 = .ok (.iconst 0, 1) := by decide +kernel
theorem dX1_takeApart_68 : decode cX1_takeApart 68 = .ok (.istore_n 3, 1) := by decide +kernel
theorem dX1_takeApart_69 : decode cX1_takeApart 69 = .ok (.iload_n 3, 1) := by decide +kernel
theorem dX1_takeApart_70 : decode cX1_takeApart 70 = .ok (.ifCond .eq 10, 3) := by decide +kernel
theorem dX1_takeApart_73 : decode cX1_takeApart 73 = .ok (.aload_n 0, 1) := by decide +kernel
theorem dX1_takeApart_74 : decode cX1_takeApart 74 = .ok (.aload_n 2, 1) := by decide +kernel
theorem dX1_takeApart_75 : decode cX1_takeApart 75 = .ok (.iload 5, 2) := by decide +kernel
theorem dX1_takeApart_77 : decode cX1_takeApart 77 = .ok (.invokevirtual 50, 3) := by decide +kernel
theorem dX1_takeApart_80 : decode cX1_takeApart 80 = .ok (.iinc 4 1, 3) := by decide +kernel
theorem dX1_takeApart_83 : decode cX1_takeApart 83 = .ok (.goto (-60), 3) := by decide +kernel
theorem dX1_takeApart_86 : decode cX1_takeApart 86 = .ok (.aload_n 0, 1) := by decide +kernel
theorem dX1_takeApart_87 : decode cX1_takeApart 87 = .ok (.dup, 1) := by decide +kernel
theorem dX1_takeApart_88 : decode cX1_takeApart 88 = .ok (.getfield 25, 3) := by decide +kernel
theorem dX1_takeApart_91 : decode cX1_takeApart 91 = .ok (.aload_n 0, 1) := by decide +kernel
theorem dX1_takeApart_92 : decode cX1_takeApart 92 = .ok (.getfield 34, 3) := by decide +kernel
theorem dX1_takeApart_95 : decode cX1_takeApart 95 = .ok (.invokestatic 54, 3) := by decide +kernel
theorem dX1_takeApart_98 : decode cX1_takeApart 98 = .ok (.iadd, 1) := by decide +kernel
theorem dX1_takeApart_99 : decode cX1_takeApart 99 = .ok (.putfield 25, 3) := by decide +kernel
theorem dX1_takeApart_102 : decode cX1_takeApart 102 = .ok (.return_, 1) := by decide +kernel
theorem dX1_setAside_0 : decode cX1_setAside 0 = .ok (.aload_n 0, 1) := by decide +kernel
theorem dX1_setAside_1 : decode cX1_setAside 1 = .ok (.getfield 21, 3) := by decide +kernel
theorem dX1_setAside_4 : decode cX1_setAside 4 = .ok (.bipush 14, 2) := by decide +kernel
theorem dX1_setAside_6 : decode cX1_setAside 6 = .ok (.if_icmp .ge 15, 3) := by decide +kernel
theorem dX1_setAside_9 : decode cX1_setAside 9 = .ok (.iload_n 2, 1) := by decide +kernel
theorem dX1_setAside_10 : decode cX1_setAside 10 = .ok (.ifCond .lt 11, 3) := by decide +kernel
theorem dX1_setAside_13 : decode cX1_setAside 13 = .ok (.iload_n 2, 1) := by decide +kernel
theorem dX1_setAside_14 : decode cX1_setAside 14 = .ok (.aload_n 1, 1) := by decide +kernel
theorem dX1_setAside_15 : decode cX1_setAside 15 = .ok (.getfield 59, 3) := by decide +kernel
theorem dX1_setAside_18 : decode cX1_setAside 18 = .ok (.if_icmp .lt 4, 3) := by decide +kernel
theorem dX1_setAside_21 : decode cX1_setAside 21 = .ok (.return_, 1) := by decide +kernel
theorem dX1_setAside_22 : decode cX1_setAside 22 = .ok (.aload_n 0, 1) := by decide +kernel
theorem dX1_setAside_23 : decode cX1_setAside 23 = .ok (.getfield 9, 3) := by decide +kernel
theorem dX1_setAside_26 : decode cX1_setAside 26 = .ok (.aload_n 0, 1) := by decide +kernel
theorem dX1_setAside_27 : decode cX1_setAside 27 = .ok (.getfield 21, 3) := by decide +kernel
theorem dX1_setAside_30 : decode cX1_setAside 30 = .ok (.aload_n 1, 1) := by decide +kernel
theorem dX1_setAside_31 : decode cX1_setAside 31 = .ok (.getfield 62, 3) := by decide +kernel
theorem dX1_setAside_34 : decode cX1_setAside 34 = .ok (.iload_n 2, 1) := by decide +kernel
theorem dX1_setAside_35 : decode cX1_setAside 35 = .ok (.iaload, 1) := by decide +kernel
theorem dX1_setAside_36 : decode cX1_setAside 36 = .ok (.iastore, 1) := by decide +kernel
theorem dX1_setAside_37 : decode cX1_setAside 37 = .ok (.aload_n 0, 1) := by decide +kernel
theorem dX1_setAside_38 : decode cX1_setAside 38 = .ok (.getfield 15, 3) := by decide +kernel
theorem dX1_setAside_41 : decode cX1_setAside 41 = .ok (.aload_n 0, 1) := by decide +kernel
theorem dX1_setAside_42 : decode cX1_setAside 42 = .ok (.getfield 21, 3) := by decide +kernel
theorem dX1_setAside_45 : decode cX1_setAside 45 = .ok (.aload_n 1, 1) := by decide +kernel
theorem dX1_setAside_46 : decode cX1_setAside 46 = .ok (.getfield 65, 3) := by decide +kernel
theorem dX1_setAside_49 : decode cX1_setAside 49 = .ok (.iload_n 2, 1) := by decide +kernel
theorem dX1_setAside_50 : decode cX1_setAside 50 = .ok (.iaload, 1) := by decide +kernel
theorem dX1_setAside_51 : decode cX1_setAside 51 = .ok (.iastore, 1) := by decide +kernel
theorem dX1_setAside_52 : decode cX1_setAside 52 = .ok (.aload_n 0, 1) := by decide +kernel
theorem dX1_setAside_53 : decode cX1_setAside 53 = .ok (.getfield 18, 3) := by decide +kernel
theorem dX1_setAside_56 : decode cX1_setAside 56 = .ok (.aload_n 0, 1) := by decide +kernel
theorem dX1_setAside_57 : decode cX1_setAside 57 = .ok (.getfield 21, 3) := by decide +kernel
theorem dX1_setAside_60 : decode cX1_setAside 60 = .ok (.aload_n 1, 1) := by decide +kernel
theorem dX1_setAside_61 : decode cX1_setAside 61 = .ok (.getfield 68, 3) := by decide +kernel
theorem dX1_setAside_64 : decode cX1_setAside 64 = .ok (.iload_n 2, 1) := by decide +kernel
theorem dX1_setAside_65 : decode cX1_setAside 65 = .ok (.iaload, 1) := by decide +kernel
theorem dX1_setAside_66 : decode cX1_setAside 66 = .ok (.iastore, 1) := by decide +kernel
theorem dX1_setAside_67 : decode cX1_setAside 67 = .ok (.aload_n 0, 1) := by decide +kernel
theorem dX1_setAside_68 : decode cX1_setAside 68 = .ok (.dup, 1) := by decide +kernel
theorem dX1_setAside_69 : decode cX1_setAside 69 = .ok (.getfield 25, 3) := by decide +kernel
theorem dX1_setAside_72 : decode cX1_setAside 72 = .ok (.aload_n 0, 1) := by decide +kernel
theorem dX1_setAside_73 : decode cX1_setAside 73 = .ok (.getfield 9, 3) := by decide +kernel
theorem dX1_setAside_76 : decode cX1_setAside 76 = .ok (.aload_n 0, 1) := by decide +kernel
theorem dX1_setAside_77 : decode cX1_setAside 77 = .ok (.getfield 21, 3) := by decide +kernel
theorem dX1_setAside_80 : decode cX1_setAside 80 = .ok (.iaload, 1) := by decide +kernel
theorem dX1_setAside_81 : decode cX1_setAside 81 = .ok (.invokestatic 54, 3) := by decide +kernel
theorem dX1_setAside_84 : decode cX1_setAside 84 = .ok (.aload_n 0, 1) := by decide +kernel
theorem dX1_setAside_85 : decode cX1_setAside 85 = .ok (.getfield 15, 3) := by decide +kernel
theorem dX1_setAside_88 : decode cX1_setAside 88 = .ok (.aload_n 0, 1) := by decide +kernel
theorem dX1_setAside_89 : decode cX1_setAside 89 = .ok (.getfield 21, 3) := by decide +kernel
theorem dX1_setAside_92 : decode cX1_setAside 92 = .ok (.iaload, 1) := by decide +kernel
theorem dX1_setAside_93 : decode cX1_setAside 93 = .ok (.iadd, 1) := by decide +kernel
theorem dX1_setAside_94 : decode cX1_setAside 94 = .ok (.iconst 1, 1) := by decide +kernel
theorem dX1_setAside_95 : decode cX1_setAside 95 = .ok (.isub, 1) := by decide +kernel
theorem dX1_setAside_96 : decode cX1_setAside 96 = .ok (.iadd, 1) := by decide +kernel
theorem dX1_setAside_97 : decode cX1_setAside 97 = .ok (.putfield 25, 3) := by decide +kernel
theorem dX1_setAside_100 : decode cX1_setAside 100 = .ok (.aload_n 0, 1) := by decide +kernel
theorem dX1_setAside_101 : decode cX1_setAside 101 = .ok (.dup, 1) := by decide +kernel
theorem dX1_setAside_102 : decode cX1_setAside 102 = .ok (.getfield 34, 3) := by decide +kernel
theorem dX1_setAside_105 : decode cX1_setAside 105 = .ok (.aload_n 0, 1) := by decide +kernel
theorem dX1_setAside_106 : decode cX1_setAside 106 = .ok (.getfield 18, 3) := by decide +kernel
theorem dX1_setAside_109 : decode cX1_setAside 109 = .ok (.aload_n 0, 1) := by decide +kernel
theorem dX1_setAside_110 : decode cX1_setAside 110 = .ok (.getfield 21, 3) := by decide +kernel
theorem dX1_setAside_113 : decode cX1_setAside 113 = .ok (.iaload, 1) := by decide +kernel
theorem dX1_setAside_114 : decode cX1_setAside 114 = .ok (.iconst (-1), 1) := by decide +kernel
theorem dX1_setAside_115 : decode cX1_setAside 115 = .ok (.ixor, 1) := by decide +kernel
theorem dX1_setAside_116 : decode cX1_setAside 116 = .ok (.iand, 1) := by decide +kernel
theorem dX1_setAside_117 : decode cX1_setAside 117 = .ok (.putfield 34, 3) := by decide +kernel
theorem dX1_setAside_120 : decode cX1_setAside 120 = .ok (.aload_n 0, 1) := by decide +kernel
theorem dX1_setAside_121 : decode cX1_setAside 121 = .ok (.dup, 1) := by decide +kernel
theorem dX1_setAside_122 : decode cX1_setAside 122 = .ok (.getfield 21, 3) := by decide +kernel
theorem dX1_setAside_125 : decode cX1_setAside 125 = .ok (.iconst 1, 1) := by decide +kernel
theorem dX1_setAside_126 : decode cX1_setAside 126 = .ok (.iadd, 1) := by decide +kernel
theorem dX1_setAside_127 : decode cX1_setAside 127 = .ok (.putfield 21, 3) := by decide +kernel
theorem dX1_setAside_130 : decode cX1_setAside 130 = .ok (.return_, 1) := by decide +kernel
theorem dX2_init_0 : decode cX2_init 0 = .ok (.aload_n 0, 1) := by decide +kernel
theorem dX2_init_1 : decode cX2_init 1 = .ok (.invokespecial 3, 3) := by decide +kernel
theorem dX2_init_4 : decode cX2_init 4 = .ok (.aload_n 0, 1) := by decide +kernel
theorem dX2_init_5 : decode cX2_init 5 = .ok (.bipush 14, 2) := by decide +kernel
theorem dX2_init_7 : decode cX2_init 7 = .ok (.newarray .int, 2) := by decide +kernel
theorem dX2_init_9 : decode cX2_init 9 = .ok (.putfield 9, 3) := by decide +kernel
theorem dX2_init_12 : decode cX2_init 12 = .ok (.return_, 1) := by decide +kernel
theorem dX2_timeOf_0 : decode cX2_timeOf 0 = .ok (.iload_n 1, 1) := by decide +kernel
theorem dX2_timeOf_1 : decode cX2_timeOf 1 = .ok (.ifCond .lt 23, 3) := by decide +kernel
theorem dX2_timeOf_4 : decode cX2_timeOf 4 = .ok (.iload_n 1, 1) := by decide +kernel
theorem dX2_timeOf_5 : decode cX2_timeOf 5 = .ok (.aload_n 0, 1) := by decide +kernel
theorem dX2_timeOf_6 : decode cX2_timeOf 6 = .ok (.getfield 15, 3) := by decide +kernel
theorem dX2_timeOf_9 : decode cX2_timeOf 9 = .ok (.if_icmp .ge 15, 3) := by decide +kernel
theorem dX2_timeOf_12 : decode cX2_timeOf 12 = .ok (.aload_n 0, 1) := by decide +kernel
theorem dX2_timeOf_13 : decode cX2_timeOf 13 = .ok (.getfield 9, 3) := by decide +kernel
theorem dX2_timeOf_16 : decode cX2_timeOf 16 = .ok (.iload_n 1, 1) := by decide +kernel
theorem dX2_timeOf_17 : decode cX2_timeOf 17 = .ok (.iaload, 1) := by decide +kernel
theorem dX2_timeOf_18 : decode cX2_timeOf 18 = .ok (.bipush 12, 2) := by decide +kernel
theorem dX2_timeOf_20 : decode cX2_timeOf 20 = .ok (.idiv, 1) := by decide +kernel
theorem dX2_timeOf_21 : decode cX2_timeOf 21 = .ok (.goto 5, 3) := by decide +kernel
theorem dX2_timeOf_24 : decode cX2_timeOf 24 = .ok (.bipush (-4), 2) := by decide +kernel
theorem dX2_timeOf_26 : decode cX2_timeOf 26 = .ok (.ireturn, 1) := by decide +kernel
theorem dX2_pitchOf_0 : decode cX2_pitchOf 0 = .ok (.iload_n 1, 1) := by decide +kernel
theorem dX2_pitchOf_1 : decode cX2_pitchOf 1 = .ok (.ifCond .lt 23, 3) := by decide +kernel
theorem dX2_pitchOf_4 : decode cX2_pitchOf 4 = .ok (.iload_n 1, 1) := by decide +kernel
theorem dX2_pitchOf_5 : decode cX2_pitchOf 5 = .ok (.aload_n 0, 1) := by decide +kernel
theorem dX2_pitchOf_6 : decode cX2_pitchOf 6 = .ok (.getfield 15, 3) := by decide +kernel
theorem dX2_pitchOf_9 : decode cX2_pitchOf 9 = .ok (.if_icmp .ge 15, 3) := by decide +kernel
theorem dX2_pitchOf_12 : decode cX2_pitchOf 12 = .ok (.aload_n 0, 1) := by decide +kernel
theorem dX2_pitchOf_13 : decode cX2_pitchOf 13 = .ok (.getfield 9, 3) := by decide +kernel
theorem dX2_pitchOf_16 : decode cX2_pitchOf 16 = .ok (.iload_n 1, 1) := by decide +kernel
theorem dX2_pitchOf_17 : decode cX2_pitchOf 17 = .ok (.iaload, 1) := by decide +kernel
theorem dX2_pitchOf_18 : decode cX2_pitchOf 18 = .ok (.bipush 12, 2) := by decide +kernel
theorem dX2_pitchOf_20 : decode cX2_pitchOf 20 = .ok (.irem, 1) := by decide +kernel
theorem dX2_pitchOf_21 : decode cX2_pitchOf 21 = .ok (.goto 5, 3) := by decide +kernel
theorem dX2_pitchOf_24 : decode cX2_pitchOf 24 = .ok (.bipush (-4), 2) := by decide +kernel
theorem dX2_pitchOf_26 : decode cX2_pitchOf 26 = .ok (.ireturn, 1) := by decide +kernel
theorem dX2_allNotes_0 : decode cX2_allNotes 0 = .ok (.iconst 1, 1) := by decide +kernel
theorem dX2_allNotes_1 : decode cX2_allNotes 1 = .ok (.aload_n 0, 1) := by decide +kernel
theorem dX2_allNotes_2 : decode cX2_allNotes 2 = .ok (.getfield 15, 3) := by decide +kernel
theorem dX2_allNotes_5 : decode cX2_allNotes 5 = .ok (.ishl, 1) := by decide +kernel
theorem dX2_allNotes_6 : decode cX2_allNotes 6 = .ok (.iconst 1, 1) := by decide +kernel
theorem dX2_allNotes_7 : decode cX2_allNotes 7 = .ok (.isub, 1) := by decide +kernel
theorem dX2_allNotes_8 : decode cX2_allNotes 8 = .ok (.ireturn, 1) := by decide +kernel
theorem dX2_numberOf_0 : decode cX2_numberOf 0 = .ok (.iconst 0, 1) := by decide +kernel
theorem dX2_numberOf_1 : decode cX2_numberOf 1 = .ok (.istore_n 2, 1) := by decide +kernel
theorem dX2_numberOf_2 : decode cX2_numberOf 2 = .ok (.iload_n 2, 1) := by decide +kernel
theorem dX2_numberOf_3 : decode cX2_numberOf 3 = .ok (.aload_n 0, 1) := by decide +kernel
theorem dX2_numberOf_4 : decode cX2_numberOf 4 = .ok (.getfield 15, 3) := by decide +kernel
theorem dX2_numberOf_7 : decode cX2_numberOf 7 = .ok (.if_icmp .ge 21, 3) := by decide +kernel
theorem dX2_numberOf_10 : decode cX2_numberOf 10 = .ok (.aload_n 0, 1) := by decide +kernel
theorem dX2_numberOf_11 : decode cX2_numberOf 11 = .ok (.getfield 9, 3) := by decide +kernel
theorem dX2_numberOf_14 : decode cX2_numberOf 14 = .ok (.iload_n 2, 1) := by decide +kernel
theorem dX2_numberOf_15 : decode cX2_numberOf 15 = .ok (.iaload, 1) := by decide +kernel
theorem dX2_numberOf_16 : decode cX2_numberOf 16 = .ok (.iload_n 1, 1) := by decide +kernel
theorem dX2_numberOf_17 : decode cX2_numberOf 17 = .ok (.if_icmp .ne 5, 3) := by decide +kernel
theorem dX2_numberOf_20 : decode cX2_numberOf 20 = .ok (.iload_n 2, 1) := by decide +kernel
theorem dX2_numberOf_21 : decode cX2_numberOf 21 = .ok (.ireturn, 1) := by decide +kernel
theorem dX2_numberOf_22 : decode cX2_numberOf 22 = .ok (.iinc 2 1, 3) := by decide +kernel
theorem dX2_numberOf_25 : decode cX2_numberOf 25 = .ok (.goto (-23), 3) := by decide +kernel
theorem dX2_numberOf_28 : decode cX2_numberOf 28 = .ok (.bipush (-4), 2) := by decide +kernel
theorem dX2_numberOf_30 : decode cX2_numberOf 30 = .ok (.ireturn, 1) := by decide +kernel
theorem dX2_insert_0 : decode cX2_insert 0 = .ok (.aload_n 0, 1) := by decide +kernel
theorem dX2_insert_1 : decode cX2_insert 1 = .ok (.getfield 15, 3) := by decide +kernel
theorem dX2_insert_4 : decode cX2_insert 4 = .ok (.bipush 14, 2) := by decide +kernel
theorem dX2_insert_6 : decode cX2_insert 6 = .ok (.if_icmp .lt 6, 3) := by decide +kernel
theorem dX2_insert_9 : decode cX2_insert 9 = .ok (.bipush (-3), 2) := by decide +kernel
theorem dX2_insert_11 : decode cX2_insert 11 = .ok (.ireturn, 1) := by decide +kernel
theorem dX2_insert_12 : decode cX2_insert 12 = .ok (.aload_n 0, 1) := by decide +kernel
theorem dX2_insert_13 : decode cX2_insert 13 = .ok (.getfield 15, 3) := by decide +kernel
theorem dX2_insert_16 : decode cX2_insert 16 = .ok (.istore_n 2, 1) := by decide +kernel
theorem dX2_insert_17 : decode cX2_insert 17 = .ok (.iload_n 2, 1) := by decide +kernel
theorem dX2_insert_18 : decode cX2_insert 18 = .ok (.ifCond .le 35, 3) := by decide +kernel
theorem dX2_insert_21 : decode cX2_insert 21 = .ok (.aload_n 0, 1) := by decide +kernel
theorem dX2_insert_22 : decode cX2_insert 22 = .ok (.getfield 9, 3) := by decide +kernel
theorem dX2_insert_25 : decode cX2_insert 25 = .ok (.iload_n 2, 1) := by decide +kernel
theorem dX2_insert_26 : decode cX2_insert 26 = .ok (.iconst 1, 1) := by decide +kernel
theorem dX2_insert_27 : decode cX2_insert 27 = .ok (.isub, 1) := by decide +kernel
theorem dX2_insert_28 : decode cX2_insert 28 = .ok (.iaload, 1) := by decide +kernel
theorem dX2_insert_29 : decode cX2_insert 29 = .ok (.iload_n 1, 1) := by decide +kernel
theorem dX2_insert_30 : decode cX2_insert 30 = .ok (.if_icmp .le 23, 3) := by decide +kernel
theorem dX2_insert_33 : decode cX2_insert 33 = .ok (.aload_n 0, 1) := by decide +kernel
theorem dX2_insert_34 : decode cX2_insert 34 = .ok (.getfield 9, 3) := by decide +kernel
theorem dX2_insert_37 : decode cX2_insert 37 = .ok (.iload_n 2, 1) := by decide +kernel
theorem dX2_insert_38 : decode cX2_insert 38 = .ok (.aload_n 0, 1) := by decide +kernel
theorem dX2_insert_39 : decode cX2_insert 39 = .ok (.getfield 9, 3) := by decide +kernel
theorem dX2_insert_42 : decode cX2_insert 42 = .ok (.iload_n 2, 1) := by decide +kernel
theorem dX2_insert_43 : decode cX2_insert 43 = .ok (.iconst 1, 1) := by decide +kernel
theorem dX2_insert_44 : decode cX2_insert 44 = .ok (.isub, 1) := by decide +kernel
theorem dX2_insert_45 : decode cX2_insert 45 = .ok (.iaload, 1) := by decide +kernel
theorem dX2_insert_46 : decode cX2_insert 46 = .ok (.iastore, 1) := by decide +kernel
theorem dX2_insert_47 : decode cX2_insert 47 = .ok (.iinc 2 (-1), 3) := by decide +kernel
theorem dX2_insert_50 : decode cX2_insert 50 = .ok (.goto (-33), 3) := by decide +kernel
theorem dX2_insert_53 : decode cX2_insert 53 = .ok (.aload_n 0, 1) := by decide +kernel
theorem dX2_insert_54 : decode cX2_insert 54 = .ok (.getfield 9, 3) := by decide +kernel
theorem dX2_insert_57 : decode cX2_insert 57 = .ok (.iload_n 2, 1) := by decide +kernel
theorem dX2_insert_58 : decode cX2_insert 58 = .ok (.iload_n 1, 1) := by decide +kernel
theorem dX2_insert_59 : decode cX2_insert 59 = .ok (.iastore, 1) := by decide +kernel
theorem dX2_insert_60 : decode cX2_insert 60 = .ok (.aload_n 0, 1) := by decide +kernel
theorem dX2_insert_61 : decode cX2_insert 61 = .ok (.dup, 1) := by decide +kernel
theorem dX2_insert_62 : decode cX2_insert 62 = .ok (.getfield 15, 3) := by decide +kernel
theorem dX2_insert_65 : decode cX2_insert 65 = .ok (.iconst 1, 1) := by decide +kernel
theorem dX2_insert_66 : decode cX2_insert 66 = .ok (.iadd, 1) := by decide +kernel
theorem dX2_insert_67 : decode cX2_insert 67 = .ok (.putfield 15, 3) := by decide +kernel
theorem dX2_insert_70 : decode cX2_insert 70 = .ok (.iload_n 2, 1) := by decide +kernel
theorem dX2_insert_71 : decode cX2_insert 71 = .ok (.ireturn, 1) := by decide +kernel
theorem dX2_remove_0 : decode cX2_remove 0 = .ok (.iload_n 1, 1) := by decide +kernel
theorem dX2_remove_1 : decode cX2_remove 1 = .ok (.ifCond .lt 11, 3) := by decide +kernel
theorem dX2_remove_4 : decode cX2_remove 4 = .ok (.iload_n 1, 1) := by decide +kernel
theorem dX2_remove_5 : decode cX2_remove 5 = .ok (.aload_n 0, 1) := by decide +kernel
theorem dX2_remove_6 : decode cX2_remove 6 = .ok (.getfield 15, 3) := by decide +kernel
theorem dX2_remove_9 : decode cX2_remove 9 = .ok (.if_icmp .lt 4, 3) := by decide +kernel
theorem dX2_remove_12 : decode cX2_remove 12 = .ok (.return_, 1) := by decide +kernel
theorem dX2_remove_13 : decode cX2_remove 13 = .ok (.aload_n 0, 1) := by decide +kernel
theorem dX2_remove_14 : decode cX2_remove 14 = .ok (.dup, 1) := by decide +kernel
theorem dX2_remove_15 : decode cX2_remove 15 = .ok (.getfield 15, 3) := by decide +kernel
theorem dX2_remove_18 : decode cX2_remove 18 = .ok (.iconst 1, 1) := by decide +kernel
theorem dX2_remove_19 : decode cX2_remove 19 = .ok (.isub, 1) := by decide +kernel
theorem dX2_remove_20 : decode cX2_remove 20 = .ok (.putfield 15, 3) := by decide +kernel
theorem dX2_remove_23 : decode cX2_remove 23 = .ok (.iload_n 1, 1) := by decide +kernel
theorem dX2_remove_24 : decode cX2_remove 24 = .ok (.istore_n 2, 1) := by decide +kernel
theorem dX2_remove_25 : decode cX2_remove 25 = .ok (.iload_n 2, 1) := by decide +kernel
theorem dX2_remove_26 : decode cX2_remove 26 = .ok (.aload_n 0, 1) := by decide +kernel
theorem dX2_remove_27 : decode cX2_remove 27 = .ok (.getfield 15, 3) := by decide +kernel
theorem dX2_remove_30 : decode cX2_remove 30 = .ok (.if_icmp .ge 23, 3) := by decide +kernel
theorem dX2_remove_33 : decode cX2_remove 33 = .ok (.aload_n 0, 1) := by decide +kernel
theorem dX2_remove_34 : decode cX2_remove 34 = .ok (.getfield 9, 3) := by decide +kernel
theorem dX2_remove_37 : decode cX2_remove 37 = .ok (.iload_n 2, 1) := by decide +kernel
theorem dX2_remove_38 : decode cX2_remove 38 = .ok (.aload_n 0, 1) := by decide +kernel
theorem dX2_remove_39 : decode cX2_remove 39 = .ok (.getfield 9, 3) := by decide +kernel
theorem dX2_remove_42 : decode cX2_remove 42 = .ok (.iload_n 2, 1) := by decide +kernel
theorem dX2_remove_43 : decode cX2_remove 43 = .ok (.iconst 1, 1) := by decide +kernel
theorem dX2_remove_44 : decode cX2_remove 44 = .ok (.iadd, 1) := by decide +kernel
theorem dX2_remove_45 : decode cX2_remove 45 = .ok (.iaload, 1) := by decide +kernel
theorem dX2_remove_46 : decode cX2_remove 46 = .ok (.iastore, 1) := by decide +kernel
theorem dX2_remove_47 : decode cX2_remove 47 = .ok (.iinc 2 1, 3) := by decide +kernel
theorem dX2_remove_50 : decode cX2_remove 50 = .ok (.goto (-25), 3) := by decide +kernel
theorem dX2_remove_53 : decode cX2_remove 53 = .ok (.return_, 1) := by decide +kernel
theorem dX2_moveAll_0 : decode cX2_moveAll 0 = .ok (.iconst 0, 1) := by decide +kernel
theorem dX2_moveAll_1 : decode cX2_moveAll 1 = .ok (.istore_n 2, 1) := by decide +kernel
theorem dX2_moveAll_2 : decode cX2_moveAll 2 = .ok (.iload_n 2, 1) := by decide +kernel
theorem dX2_moveAll_3 : decode cX2_moveAll 3 = .ok (.aload_n 0, 1) := by decide +kernel
theorem dX2_moveAll_4 : decode cX2_moveAll 4 = .ok (.getfield 15, 3) := by decide +kernel
theorem dX2_moveAll_7 : decode cX2_moveAll 7 = .ok (.if_icmp .ge 19, 3) := by decide +kernel
theorem dX2_moveAll_10 : decode cX2_moveAll 10 = .ok (.aload_n 0, 1) := by decide +kernel
theorem dX2_moveAll_11 : decode cX2_moveAll 11 = .ok (.getfield 9, 3) := by decide +kernel
theorem dX2_moveAll_14 : decode cX2_moveAll 14 = .ok (.iload_n 2, 1) := by decide +kernel
theorem dX2_moveAll_15 : decode cX2_moveAll 15 = .ok (.dup2, 1) := by decide +kernel
theorem dX2_moveAll_16 : decode cX2_moveAll 16 = .ok (.iaload, 1) := by decide +kernel
theorem dX2_moveAll_17 : decode cX2_moveAll 17 = .ok (.iload_n 1, 1) := by decide +kernel
theorem dX2_moveAll_18 : decode cX2_moveAll 18 = .ok (.iadd, 1) := by decide +kernel
theorem dX2_moveAll_19 : decode cX2_moveAll 19 = .ok (.iastore, 1) := by decide +kernel
theorem dX2_moveAll_20 : decode cX2_moveAll 20 = .ok (.iinc 2 1, 3) := by decide +kernel
theorem dX2_moveAll_23 : decode cX2_moveAll 23 = .ok (.goto (-21), 3) := by decide +kernel
theorem dX2_moveAll_26 : decode cX2_moveAll 26 = .ok (.return_, 1) := by decide +kernel
theorem dX2_copyFrom_0 : decode cX2_copyFrom 0 = .ok (.aload_n 1, 1) := by decide +kernel
theorem dX2_copyFrom_1 : decode cX2_copyFrom 1 = .ok (.getfield 9, 3) := by decide +kernel
theorem dX2_copyFrom_4 : decode cX2_copyFrom 4 = .ok (.iconst 0, 1) := by decide +kernel
theorem dX2_copyFrom_5 : decode cX2_copyFrom 5 = .ok (.aload_n 0, 1) := by decide +kernel
theorem dX2_copyFrom_6 : decode cX2_copyFrom 6 = .ok (.getfield 9, 3) := by decide +kernel
theorem dX2_copyFrom_9 : decode cX2_copyFrom 9 = .ok (.iconst 0, 1) := by decide +kernel
theorem dX2_copyFrom_10 : decode cX2_copyFrom 10 = .ok (.bipush 14, 2) := by decide +kernel
theorem dX2_copyFrom_12 : decode cX2_copyFrom 12 = .ok (.invokestatic 19, 3) := by decide +kernel
theorem dX2_copyFrom_15 : decode cX2_copyFrom 15 = .ok (.aload_n 0, 1) := by decide +kernel
theorem dX2_copyFrom_16 : decode cX2_copyFrom 16 = .ok (.aload_n 1, 1) := by decide +kernel
theorem dX2_copyFrom_17 : decode cX2_copyFrom 17 = .ok (.getfield 15, 3) := by decide +kernel
theorem dX2_copyFrom_20 : decode cX2_copyFrom 20 = .ok (.putfield 15, 3) := by decide +kernel
theorem dX2_copyFrom_23 : decode cX2_copyFrom 23 = .ok (.aload_n 0, 1) := by decide +kernel
theorem dX2_copyFrom_24 : decode cX2_copyFrom 24 = .ok (.aload_n 1, 1) := by decide +kernel
theorem dX2_copyFrom_25 : decode cX2_copyFrom 25 = .ok (.getfield 25, 3) := by decide +kernel
theorem dX2_copyFrom_28 : decode cX2_copyFrom 28 = .ok (.putfield 25, 3) := by decide +kernel
theorem dX2_copyFrom_31 : decode cX2_copyFrom 31 = .ok (.return_, 1) := by decide +kernel
theorem dX3_init_0 : decode cX3_init 0 = .ok (.aload_n 0, 1) := by decide +kernel
theorem dX3_init_1 : decode cX3_init 1 = .ok (.invokespecial 1, 3) := by decide +kernel
theorem dX3_init_4 : decode cX3_init 4 = .ok (.aload_n 0, 1) := by decide +kernel
theorem dX3_init_5 : decode cX3_init 5 = .ok (.iload_n 1, 1) := by decide +kernel
theorem dX3_init_6 : decode cX3_init 6 = .ok (.iconst 1, 1) := by decide +kernel
theorem dX3_init_7 : decode cX3_init 7 = .ok (.invokestatic 7, 3) := by decide +kernel
theorem dX3_init_10 : decode cX3_init 10 = .ok (.anewarray 13, 3) := by decide +kernel
theorem dX3_init_13 : decode cX3_init 13 = .ok (.putfield 15, 3) := by decide +kernel
theorem dX3_init_16 : decode cX3_init 16 = .ok (.iconst 0, 1) := by decide +kernel
theorem dX3_init_17 : decode cX3_init 17 = .ok (.istore_n 2, 1) := by decide +kernel
theorem dX3_init_18 : decode cX3_init 18 = .ok (.iload_n 2, 1) := by decide +kernel
theorem dX3_init_19 : decode cX3_init 19 = .ok (.aload_n 0, 1) := by decide +kernel
theorem dX3_init_20 : decode cX3_init 20 = .ok (.getfield 15, 3) := by decide +kernel
theorem dX3_init_23 : decode cX3_init 23 = .ok (.arraylength, 1) := by decide +kernel
theorem dX3_init_24 : decode cX3_init 24 = .ok (.if_icmp .ge 22, 3) := by decide +kernel
theorem dX3_init_27 : decode cX3_init 27 = .ok (.aload_n 0, 1) := by decide +kernel
theorem dX3_init_28 : decode cX3_init 28 = .ok (.getfield 15, 3) := by decide +kernel
theorem dX3_init_31 : decode cX3_init 31 = .ok (.iload_n 2, 1) := by decide +kernel
theorem dX3_init_32 : decode cX3_init 32 = .ok (.new 13, 3) := by decide +kernel
theorem dX3_init_35 : decode cX3_init 35 = .ok (.dup, 1) := by decide +kernel
theorem dX3_init_36 : decode cX3_init 36 = .ok (.invokespecial 21, 3) := by decide +kernel
theorem dX3_init_39 : decode cX3_init 39 = .ok (.aastore, 1) := by decide +kernel
theorem dX3_init_40 : decode cX3_init 40 = .ok (.iinc 2 1, 3) := by decide +kernel
theorem dX3_init_43 : decode cX3_init 43 = .ok (.goto (-25), 3) := by decide +kernel
theorem dX3_init_46 : decode cX3_init 46 = .ok (.return_, 1) := by decide +kernel
theorem dX3_push_0 : decode cX3_push 0 = .ok (.aload_n 0, 1) := by decide +kernel
theorem dX3_push_1 : decode cX3_push 1 = .ok (.getfield 22, 3) := by decide +kernel
theorem dX3_push_4 : decode cX3_push 4 = .ok (.aload_n 0, 1) := by decide +kernel
theorem dX3_push_5 : decode cX3_push 5 = .ok (.getfield 15, 3) := by decide +kernel
theorem dX3_push_8 : decode cX3_push 8 = .ok (.arraylength, 1) := by decide +kernel
theorem dX3_push_9 : decode cX3_push 9 = .ok (.if_icmp .lt 7, 3) := by decide +kernel
theorem dX3_push_12 : decode cX3_push 12 = .ok (.aload_n 0, 1) := by decide +kernel
theorem dX3_push_13 : decode cX3_push 13 = .ok (.invokevirtual 26, 3) := by decide +kernel
theorem dX3_push_16 : decode cX3_push 16 = .ok (.aload_n 0, 1) := by decide +kernel
theorem dX3_push_17 : decode cX3_push 17 = .ok (.getfield 15, 3) := by decide +kernel
theorem dX3_push_20 : decode cX3_push 20 = .ok (.aload_n 0, 1) := by decide +kernel
theorem dX3_push_21 : decode cX3_push 21 = .ok (.getfield 22, 3) := by decide +kernel
theorem dX3_push_24 : decode cX3_push 24 = .ok (.aaload, 1) := by decide +kernel
theorem dX3_push_25 : decode cX3_push 25 = .ok (.aload_n 1, 1) := by decide +kernel
theorem dX3_push_26 : decode cX3_push 26 = .ok (.invokevirtual 29, 3) := by decide +kernel
theorem dX3_push_29 : decode cX3_push 29 = .ok (.aload_n 0, 1) := by decide +kernel
theorem dX3_push_30 : decode cX3_push 30 = .ok (.dup, 1) := by decide +kernel
theorem dX3_push_31 : decode cX3_push 31 = .ok (.getfield 22, 3) := by decide +kernel
theorem dX3_push_34 : decode cX3_push 34 = .ok (.iconst 1, 1) := by decide +kernel
theorem dX3_push_35 : decode cX3_push 35 = .ok (.iadd, 1) := by decide +kernel
theorem dX3_push_36 : decode cX3_push 36 = .ok (.putfield 22, 3) := by decide +kernel
theorem dX3_push_39 : decode cX3_push 39 = .ok (.return_, 1) := by decide +kernel
theorem dX3_popInto_0 : decode cX3_popInto 0 = .ok (.aload_n 0, 1) := by decide +kernel
theorem dX3_popInto_1 : decode cX3_popInto 1 = .ok (.getfield 22, 3) := by decide +kernel
theorem dX3_popInto_4 : decode cX3_popInto 4 = .ok (.ifCond .le 26, 3) := by decide +kernel
theorem dX3_popInto_7 : decode cX3_popInto 7 = .ok (.aload_n 0, 1) := by decide +kernel
theorem dX3_popInto_8 : decode cX3_popInto 8 = .ok (.dup, 1) := by decide +kernel
theorem dX3_popInto_9 : decode cX3_popInto 9 = .ok (.getfield 22, 3) := by decide +kernel
theorem dX3_popInto_12 : decode cX3_popInto 12 = .ok (.iconst 1, 1) := by decide +kernel
theorem dX3_popInto_13 : decode cX3_popInto 13 = .ok (.isub, 1) := by decide +kernel
theorem dX3_popInto_14 : decode cX3_popInto 14 = .ok (.putfield 22, 3) := by decide +kernel
theorem dX3_popInto_17 : decode cX3_popInto 17 = .ok (.aload_n 1, 1) := by decide +kernel
theorem dX3_popInto_18 : decode cX3_popInto 18 = .ok (.aload_n 0, 1) := by decide +kernel
theorem dX3_popInto_19 : decode cX3_popInto 19 = .ok (.getfield 15, 3) := by decide +kernel
theorem dX3_popInto_22 : decode cX3_popInto 22 = .ok (.aload_n 0, 1) := by decide +kernel
theorem dX3_popInto_23 : decode cX3_popInto 23 = .ok (.getfield 22, 3) := by decide +kernel
theorem dX3_popInto_26 : decode cX3_popInto 26 = .ok (.aaload, 1) := by decide +kernel
theorem dX3_popInto_27 : decode cX3_popInto 27 = .ok (.invokevirtual 29, 3) := by decide +kernel
theorem dX3_popInto_30 : decode cX3_popInto 30 = .ok (.return_, 1) := by decide +kernel
theorem dX3_dropOldest_0 : decode cX3_dropOldest 0 = .ok (.aload_n 0, 1) := by decide +kernel
theorem dX3_dropOldest_1 : decode cX3_dropOldest 1 = .ok (.getfield 15, 3) := by decide +kernel
theorem dX3_dropOldest_4 : decode cX3_dropOldest 4 = .ok (.iconst 0, 1) := by decide +kernel
theorem dX3_dropOldest_5 : decode cX3_dropOldest 5 = .ok (.aaload, 1) := by decide +kernel
theorem dX3_dropOldest_6 : decode cX3_dropOldest 6 = .ok (.astore_n 1, 1) := by decide +kernel
theorem dX3_dropOldest_7 : decode cX3_dropOldest 7 = .ok (.iconst 1, 1) := by decide +kernel
theorem dX3_dropOldest_8 : decode cX3_dropOldest 8 = .ok (.istore_n 2, 1) := by decide +kernel
theorem dX3_dropOldest_9 : decode cX3_dropOldest 9 = .ok (.iload_n 2, 1) := by decide +kernel
theorem dX3_dropOldest_10 : decode cX3_dropOldest 10 = .ok (.aload_n 0, 1) := by decide +kernel
theorem dX3_dropOldest_11 : decode cX3_dropOldest 11 = .ok (.getfield 15, 3) := by decide +kernel
theorem dX3_dropOldest_14 : decode cX3_dropOldest 14 = .ok (.arraylength, 1) := by decide +kernel
theorem dX3_dropOldest_15 : decode cX3_dropOldest 15 = .ok (.if_icmp .ge 23, 3) := by decide +kernel
theorem dX3_dropOldest_18 : decode cX3_dropOldest 18 = .ok (.aload_n 0, 1) := by decide +kernel
theorem dX3_dropOldest_19 : decode cX3_dropOldest 19 = .ok (.getfield 15, 3) := by decide +kernel
theorem dX3_dropOldest_22 : decode cX3_dropOldest 22 = .ok (.iload_n 2, 1) := by decide +kernel
theorem dX3_dropOldest_23 : decode cX3_dropOldest 23 = .ok (.iconst 1, 1) := by decide +kernel
theorem dX3_dropOldest_24 : decode cX3_dropOldest 24 = .ok (.isub, 1) := by decide +kernel
theorem dX3_dropOldest_25 : decode cX3_dropOldest 25 = .ok (.aload_n 0, 1) := by decide +kernel
theorem dX3_dropOldest_26 : decode cX3_dropOldest 26 = .ok (.getfield 15, 3) := by decide +kernel
theorem dX3_dropOldest_29 : decode cX3_dropOldest 29 = .ok (.iload_n 2, 1) := by decide +kernel
theorem dX3_dropOldest_30 : decode cX3_dropOldest 30 = .ok (.aaload, 1) := by decide +kernel
theorem dX3_dropOldest_31 : decode cX3_dropOldest 31 = .ok (.aastore, 1) := by decide +kernel
theorem dX3_dropOldest_32 : decode cX3_dropOldest 32 = .ok (.iinc 2 1, 3) := by decide +kernel
theorem dX3_dropOldest_35 : decode cX3_dropOldest 35 = .ok (.goto (-26), 3) := by decide +kernel
theorem dX3_dropOldest_38 : decode cX3_dropOldest 38 = .ok (.aload_n 0, 1) := by decide +kernel
theorem dX3_dropOldest_39 : decode cX3_dropOldest 39 = .ok (.getfield 15, 3) := by decide +kernel
theorem dX3_dropOldest_42 : decode cX3_dropOldest 42 = .ok (.aload_n 0, 1) := by decide +kernel
theorem dX3_dropOldest_43 : decode cX3_dropOldest 43 = .ok (.getfield 15, 3) := by decide +kernel
theorem dX3_dropOldest_46 : decode cX3_dropOldest 46 = .ok (.arraylength, 1) := by decide +kernel
theorem dX3_dropOldest_47 : decode cX3_dropOldest 47 = .ok (.iconst 1, 1) := by decide +kernel
theorem dX3_dropOldest_48 : decode cX3_dropOldest 48 = .ok (.isub, 1) := by decide +kernel
theorem dX3_dropOldest_49 : decode cX3_dropOldest 49 = .ok (.aload_n 1, 1) := by decide +kernel
theorem dX3_dropOldest_50 : decode cX3_dropOldest 50 = .ok (.aastore, 1) := by decide +kernel
theorem dX3_dropOldest_51 : decode cX3_dropOldest 51 = .ok (.aload_n 0, 1) := by decide +kernel
theorem dX3_dropOldest_52 : decode cX3_dropOldest 52 = .ok (.aload_n 0, 1) := by decide +kernel
theorem dX3_dropOldest_53 : decode cX3_dropOldest 53 = .ok (.getfield 15, 3) := by decide +kernel
theorem dX3_dropOldest_56 : decode cX3_dropOldest 56 = .ok (.arraylength, 1) := by decide +kernel
theorem dX3_dropOldest_57 : decode cX3_dropOldest 57 = .ok (.iconst 1, 1) := by decide +kernel
theorem dX3_dropOldest_58 : decode cX3_dropOldest 58 = .ok (.isub, 1) := by decide +kernel
theorem dX3_dropOldest_59 : decode cX3_dropOldest 59 = .ok (.putfield 22, 3) := by decide +kernel
theorem dX3_dropOldest_62 : decode cX3_dropOldest 62 = .ok (.return_, 1) := by decide +kernel
theorem dX4_init_0 : decode cX4_init 0 = .ok (.aload_n 0, 1) := by decide +kernel
theorem dX4_init_1 : decode cX4_init 1 = .ok (.invokespecial 3, 3) := by decide +kernel
theorem dX4_init_4 : decode cX4_init 4 = .ok (.aload_n 0, 1) := by decide +kernel
theorem dX4_init_5 : decode cX4_init 5 = .ok (.sipush 200, 3) := by decide +kernel
theorem dX4_init_8 : decode cX4_init 8 = .ok (.newarray .int, 2) := by decide +kernel
theorem dX4_init_10 : decode cX4_init 10 = .ok (.putfield 9, 3) := by decide +kernel
theorem dX4_init_13 : decode cX4_init 13 = .ok (.return_, 1) := by decide +kernel
theorem dX4_append_0 : decode cX4_append 0 = .ok (.aload_n 0, 1) := by decide +kernel
theorem dX4_append_1 : decode cX4_append 1 = .ok (.getfield 15, 3) := by decide +kernel
theorem dX4_append_4 : decode cX4_append 4 = .ok (.sipush 200, 3) := by decide +kernel
theorem dX4_append_7 : decode cX4_append 7 = .ok (.if_icmp .lt 5, 3) := by decide +kernel
theorem dX4_append_10 : decode cX4_append 10 = .ok (.iconst 0, 1) := by decide +kernel
theorem dX4_append_11 : decode cX4_append 11 = .ok (.ireturn, 1) := by decide +kernel
theorem dX4_append_12 : decode cX4_append 12 = .ok (.aload_n 0, 1) := by decide +kernel
theorem dX4_append_13 : decode cX4_append 13 = .ok (.getfield 9, 3) := by decide +kernel
theorem dX4_append_16 : decode cX4_append 16 = .ok (.aload_n 0, 1) := by decide +kernel
theorem dX4_append_17 : decode cX4_append 17 = .ok (.getfield 15, 3) := by decide +kernel
theorem dX4_append_20 : decode cX4_append 20 = .ok (.iload_n 1, 1) := by decide +kernel
theorem dX4_append_21 : decode cX4_append 21 = .ok (.iastore, 1) := by decide +kernel
theorem dX4_append_22 : decode cX4_append 22 = .ok (.aload_n 0, 1) := by decide +kernel
theorem dX4_append_23 : decode cX4_append 23 = .ok (.dup, 1) := by decide +kernel
theorem dX4_append_24 : decode cX4_append 24 = .ok (.getfield 15, 3) := by decide +kernel
theorem dX4_append_27 : decode cX4_append 27 = .ok (.iconst 1, 1) := by decide +kernel
theorem dX4_append_28 : decode cX4_append 28 = .ok (.iadd, 1) := by decide +kernel
theorem dX4_append_29 : decode cX4_append 29 = .ok (.putfield 15, 3) := by decide +kernel
theorem dX4_append_32 : decode cX4_append 32 = .ok (.iconst 1, 1) := by decide +kernel
theorem dX4_append_33 : decode cX4_append 33 = .ok (.ireturn, 1) := by decide +kernel
theorem dX4_readInto_0 : decode cX4_readInto 0 = .ok (.aload_n 1, 1) := by decide +kernel
theorem dX4_readInto_1 : decode cX4_readInto 1 = .ok (.iconst 0, 1) := by decide +kernel
theorem dX4_readInto_2 : decode cX4_readInto 2 = .ok (.putfield 19, 3) := by decide +kernel
theorem dX4_readInto_5 : decode cX4_readInto 5 = .ok (.aload_n 1, 1) := by decide +kernel
theorem dX4_readInto_6 : decode cX4_readInto 6 = .ok (.iconst 0, 1) := by decide +kernel
theorem dX4_readInto_7 : decode cX4_readInto 7 = .ok (.putfield 24, 3) := by decide +kernel
theorem dX4_readInto_10 : decode cX4_readInto 10 = .ok (.aload_n 0, 1) := by decide +kernel
theorem dX4_readInto_11 : decode cX4_readInto 11 = .ok (.iconst 0, 1) := by decide +kernel
theorem dX4_readInto_12 : decode cX4_readInto 12 = .ok (.putfield 27, 3) := by decide +kernel
theorem dX4_readInto_15 : decode cX4_readInto 15 = .ok (.iconst 0, 1) := by decide +kernel
theorem dX4_readInto_16 : decode cX4_readInto 16 = .ok (.istore_n 2, 1) := by decide +kernel
theorem dX4_readInto_17 : decode cX4_readInto 17 = .ok (.iload_n 2, 1) := by decide +kernel
theorem dX4_readInto_18 : decode cX4_readInto 18 = .ok (.sipush 200, 3) := by decide +kernel
theorem dX4_readInto_21 : decode cX4_readInto 21 = .ok (.if_icmp .ge 35, 3) := by decide +kernel
theorem dX4_readInto_24 : decode cX4_readInto 24 = .ok (.aload_n 0, 1) := by decide +kernel
theorem dX4_readInto_25 : decode cX4_readInto 25 = .ok (.getfield 27, 3) := by decide +kernel
theorem dX4_readInto_28 : decode cX4_readInto 28 = .ok (.aload_n 0, 1) := by decide +kernel
theorem dX4_readInto_29 : decode cX4_readInto 29 = .ok (.getfield 15, 3) := by decide +kernel
theorem dX4_readInto_32 : decode cX4_readInto 32 = .ok (.if_icmp .ge 24, 3) := by decide +kernel
theorem dX4_readInto_35 : decode cX4_readInto 35 = .ok (.aload_n 0, 1) := by decide +kernel
theorem dX4_readInto_36 : decode cX4_readInto 36 = .ok (.getfield 27, 3) := by decide +kernel
theorem dX4_readInto_39 : decode cX4_readInto 39 = .ok (.istore_n 3, 1) := by decide +kernel
theorem dX4_readInto_40 : decode cX4_readInto 40 = .ok (.aload_n 0, 1) := by decide +kernel
theorem dX4_readInto_41 : decode cX4_readInto 41 = .ok (.aload_n 1, 1) := by decide +kernel
theorem dX4_readInto_42 : decode cX4_readInto 42 = .ok (.invokevirtual 30, 3) := by decide +kernel
theorem dX4_readInto_45 : decode cX4_readInto 45 = .ok (.ifCond .ne 5, 3) := by decide +kernel
theorem dX4_readInto_48 : decode cX4_readInto 48 = .ok (.iload_n 3, 1) := by decide +kernel
theorem dX4_readInto_49 : decode cX4_readInto 49 = .ok (.ireturn, 1) := by decide +kernel
theorem dX4_readInto_50 : decode cX4_readInto 50 = .ok (.iinc 2 1, 3) := by decide +kernel
theorem dX4_readInto_53 : decode cX4_readInto 53 = .ok (.goto (-36), 3) := by decide +kernel
theorem dX4_readInto_56 : decode cX4_readInto 56 = .ok (.bipush (-4), 2) := by decide +kernel
theorem dX4_readInto_58 : decode cX4_readInto 58 = .ok (.ireturn, 1) := by decide +kernel
theorem dX4_readItem_0 : decode cX4_readItem 0 = .ok (.aload_n 0, 1) := by decide +kernel
theorem dX4_readItem_1 : decode cX4_readItem 1 = .ok (.bipush 110, 2) := by decide +kernel
theorem dX4_readItem_3 : decode cX4_readItem 3 = .ok (.invokevirtual 34, 3) := by decide +kernel
theorem dX4_readItem_6 : decode cX4_readItem 6 = .ok (.ifCond .eq 9, 3) := by decide +kernel
theorem dX4_readItem_9 : decode cX4_readItem 9 = .ok (.aload_n 0, 1) := by decide +kernel
theorem dX4_readItem_10 : decode cX4_readItem 10 = .ok (.aload_n 1, 1) := by decide +kernel
theorem dX4_readItem_11 : decode cX4_readItem 11 = .ok (.invokevirtual 38, 3) := by decide +kernel
theorem dX4_readItem_14 : decode cX4_readItem 14 = .ok (.ireturn, 1) := by decide +kernel
theorem dX4_readItem_15 : decode cX4_readItem 15 = .ok (.aload_n 0, 1) := by decide +kernel
theorem dX4_readItem_16 : decode cX4_readItem 16 = .ok (.bipush 109, 2) := by decide +kernel
theorem dX4_readItem_18 : decode cX4_readItem 18 = .ok (.invokevirtual 34, 3) := by decide +kernel
theorem dX4_readItem_21 : decode cX4_readItem 21 = .ok (.ifCond .eq 15, 3) := by decide +kernel
theorem dX4_readItem_24 : decode cX4_readItem 24 = .ok (.aload_n 0, 1) := by decide +kernel
theorem dX4_readItem_25 : decode cX4_readItem 25 = .ok (.aload_n 1, 1) := by decide +kernel
theorem dX4_readItem_26 : decode cX4_readItem 26 = .ok (.invokevirtual 41, 3) := by decide +kernel
theorem dX4_readItem_29 : decode cX4_readItem 29 = .ok (.ifCond .eq 7, 3) := by decide +kernel
theorem dX4_readItem_32 : decode cX4_readItem 32 = .ok (.iconst 1, 1) := by decide +kernel
theorem dX4_readItem_33 : decode cX4_readItem 33 = .ok (.goto 4, 3) := by decide +kernel
theorem dX4_readItem_36 : decode cX4_readItem 36 = .ok (.iconst 0, 1) := by decide +kernel
theorem dX4_readItem_37 : decode cX4_readItem 37 = .ok (.ireturn, 1) := by decide +kernel
theorem dX4_readNote_0 : decode cX4_readNote 0 = .ok (.aload_n 0, 1) := by decide +kernel
theorem dX4_readNote_1 : decode cX4_readNote 1 = .ok (.invokevirtual 44, 3) := by decide +kernel
theorem dX4_readNote_4 : decode cX4_readNote 4 = .ok (.istore_n 2, 1) := by decide +kernel
theorem dX4_readNote_5 : decode cX4_readNote 5 = .ok (.aload_n 0, 1) := by decide +kernel
theorem dX4_readNote_6 : decode cX4_readNote 6 = .ok (.bipush 44, 2) := by decide +kernel
theorem dX4_readNote_8 : decode cX4_readNote 8 = .ok (.invokevirtual 34, 3) := by decide +kernel
theorem dX4_readNote_11 : decode cX4_readNote 11 = .ok (.ifCond .ne 5, 3) := by decide +kernel
theorem dX4_readNote_14 : decode cX4_readNote 14 = .ok (.iconst 0, 1) := by decide +kernel
theorem dX4_readNote_15 : decode cX4_readNote 15 = .ok (.ireturn, 1) := by decide +kernel
theorem dX4_readNote_16 : decode cX4_readNote 16 = .ok (.aload_n 0, 1) := by decide +kernel
theorem dX4_readNote_17 : decode cX4_readNote 17 = .ok (.invokevirtual 44, 3) := by decide +kernel
theorem dX4_readNote_20 : decode cX4_readNote 20 = .ok (.istore_n 3, 1) := by decide +kernel
theorem dX4_readNote_21 : decode cX4_readNote 21 = .ok (.aload_n 0, 1) := by decide +kernel
theorem dX4_readNote_22 : decode cX4_readNote 22 = .ok (.bipush 59, 2) := by decide +kernel
theorem dX4_readNote_24 : decode cX4_readNote 24 = .ok (.invokevirtual 34, 3) := by decide +kernel
theorem dX4_readNote_27 : decode cX4_readNote 27 = .ok (.ifCond .eq 23, 3) := by decide +kernel
theorem dX4_readNote_30 : decode cX4_readNote 30 = .ok (.iload_n 2, 1) := by decide +kernel
theorem dX4_readNote_31 : decode cX4_readNote 31 = .ok (.iload_n 3, 1) := by decide +kernel
theorem dX4_readNote_32 : decode cX4_readNote 32 = .ok (.invokestatic 48, 3) := by decide +kernel
theorem dX4_readNote_35 : decode cX4_readNote 35 = .ok (.ifCond .eq 15, 3) := by decide +kernel
theorem dX4_readNote_38 : decode cX4_readNote 38 = .ok (.aload_n 1, 1) := by decide +kernel
theorem dX4_readNote_39 : decode cX4_readNote 39 = .ok (.iload_n 2, 1) := by decide +kernel
theorem dX4_readNote_40 : decode cX4_readNote 40 = .ok (.iload_n 3, 1) := by decide +kernel
theorem dX4_readNote_41 : decode cX4_readNote 41 = .ok (.invokestatic 52, 3) := by decide +kernel
theorem dX4_readNote_44 : decode cX4_readNote 44 = .ok (.invokevirtual 56, 3) := by decide +kernel
theorem dX4_readNote_47 : decode cX4_readNote 47 = .ok (.ifCond .lt 5, 3) := by decide +kernel
theorem dX4_readNote_50 : decode cX4_readNote 50 = .ok (.iconst 0, 1) := by decide +kernel
theorem dX4_readNote_51 : decode cX4_readNote 51 = .ok (.ireturn, 1) := by decide +kernel
theorem dX4_readNote_52 : decode cX4_readNote 52 = .ok (.aload_n 1, 1) := by decide +kernel
theorem dX4_readNote_53 : decode cX4_readNote 53 = .ok (.iload_n 2, 1) := by decide +kernel
theorem dX4_readNote_54 : decode cX4_readNote 54 = .ok (.iload_n 3, 1) := by decide +kernel
theorem dX4_readNote_55 : decode cX4_readNote 55 = .ok (.invokestatic 52, 3) := by decide +kernel
theorem dX4_readNote_58 : decode cX4_readNote 58 = .ok (.invokevirtual 60, 3) := by decide +kernel
theorem dX4_readNote_61 : decode cX4_readNote 61 = .ok (.ifCond .lt 7, 3) := by decide +kernel
theorem dX4_readNote_64 : decode cX4_readNote 64 = .ok (.iconst 1, 1) := by decide +kernel
theorem dX4_readNote_65 : decode cX4_readNote 65 = .ok (.goto 4, 3) := by decide +kernel
theorem dX4_readNote_68 : decode cX4_readNote 68 = .ok (.iconst 0, 1) := by decide +kernel
theorem dX4_readNote_69 : decode cX4_readNote 69 = .ok (.ireturn, 1) := by decide +kernel
theorem dX4_readManner_0 : decode cX4_readManner 0 = .ok (.aload_n 0, 1) := by decide +kernel
theorem dX4_readManner_1 : decode cX4_readManner 1 = .ok (.invokevirtual 44, 3) := by decide +kernel
theorem dX4_readManner_4 : decode cX4_readManner 4 = .ok (.istore_n 2, 1) := by decide +kernel
theorem dX4_readManner_5 : decode cX4_readManner 5 = .ok (.aload_n 0, 1) := by decide +kernel
theorem dX4_readManner_6 : decode cX4_readManner 6 = .ok (.bipush 59, 2) := by decide +kernel
theorem dX4_readManner_8 : decode cX4_readManner 8 = .ok (.invokevirtual 34, 3) := by decide +kernel
theorem dX4_readManner_11 : decode cX4_readManner 11 = .ok (.ifCond .eq 12, 3) := by decide +kernel
theorem dX4_readManner_14 : decode cX4_readManner 14 = .ok (.iload_n 2, 1) := by decide +kernel
theorem dX4_readManner_15 : decode cX4_readManner 15 = .ok (.ifCond .lt 8, 3) := by decide +kernel
theorem dX4_readManner_18 : decode cX4_readManner 18 = .ok (.iload_n 2, 1) := by decide +kernel
theorem dX4_readManner_19 : decode cX4_readManner 19 = .ok (.iconst 2, 1) := by decide +kernel
theorem dX4_readManner_20 : decode cX4_readManner 20 = .ok (.if_icmp .le 5, 3) := by decide +kernel
theorem dX4_readManner_23 : decode cX4_readManner 23 = .ok (.iconst 0, 1) := by decide +kernel
theorem dX4_readManner_24 : decode cX4_readManner 24 = .ok (.ireturn, 1) := by decide +kernel
theorem dX4_readManner_25 : decode cX4_readManner 25 = .ok (.aload_n 1, 1) := by decide +kernel
theorem dX4_readManner_26 : decode cX4_readManner 26 = .ok (.iload_n 2, 1) := by decide +kernel
theorem dX4_readManner_27 : decode cX4_readManner 27 = .ok (.putfield 24, 3) := by decide +kernel
theorem dX4_readManner_30 : decode cX4_readManner 30 = .ok (.iconst 1, 1) := by decide +kernel
theorem dX4_readManner_31 : decode cX4_readManner 31 = .ok (.ireturn, 1) := by decide +kernel
theorem dX4_readNumber_0 : decode cX4_readNumber 0 = .ok (.bipush (-4), 2) := by decide +kernel
theorem dX4_readNumber_2 : decode cX4_readNumber 2 = .ok (.istore_n 1, 1) := by decide +kernel
theorem dX4_readNumber_3 : decode cX4_readNumber 3 = .ok (.iconst 0, 1) := by decide +kernel
theorem dX4_readNumber_4 : decode cX4_readNumber 4 = .ok (.istore_n 2, 1) := by decide +kernel
theorem dX4_readNumber_5 : decode cX4_readNumber 5 = .ok (.iload_n 2, 1) := by decide +kernel
theorem dX4_readNumber_6 : decode cX4_readNumber 6 = .ok (.iconst 2, 1) := by decide +kernel
theorem dX4_readNumber_7 : decode cX4_readNumber 7 = .ok (.if_icmp .ge 48, 3) := by decide +kernel
theorem dX4_readNumber_10 : decode cX4_readNumber 10 = .ok (.aload_n 0, 1) := by decide +kernel
theorem dX4_readNumber_11 : decode cX4_readNumber 11 = .ok (.invokevirtual 63, 3) := by decide +kernel
theorem dX4_readNumber_14 : decode cX4_readNumber 14 = .ok (.ifCond .eq 41, 3) := by decide +kernel
theorem dX4_readNumber_17 : decode cX4_readNumber 17 = .ok (.iload_n 1, 1) := by decide +kernel
theorem dX4_readNumber_18 : decode cX4_readNumber 18 = .ok (.iconst 0, 1) := by decide +kernel
theorem dX4_readNumber_19 : decode cX4_readNumber 19 = .ok (.invokestatic 67, 3) := by decide +kernel
theorem dX4_readNumber_22 : decode cX4_readNumber 22 = .ok (.bipush 10, 2) := by decide +kernel
theorem dX4_readNumber_24 : decode cX4_readNumber 24 = .ok (.imul, 1) := by decide +kernel
theorem dX4_readNumber_25 : decode cX4_readNumber 25 = .ok (.aload_n 0, 1) := by decide +kernel
theorem dX4_readNumber_26 : decode cX4_readNumber 26 = .ok (.getfield 9, 3) := by decide +kernel
theorem dX4_readNumber_29 : decode cX4_readNumber 29 = .ok (.aload_n 0, 1) := by decide +kernel
theorem dX4_readNumber_30 : decode cX4_readNumber 30 = .ok (.getfield 27, 3) := by decide +kernel
theorem dX4_readNumber_33 : decode cX4_readNumber 33 = .ok (.iaload, 1) := by decide +kernel
theorem dX4_readNumber_34 : decode cX4_readNumber 34 = .ok (.iadd, 1) := by decide +kernel
theorem dX4_readNumber_35 : decode cX4_readNumber 35 = .ok (.bipush 48, 2) := by decide +kernel
theorem dX4_readNumber_37 : decode cX4_readNumber 37 = .ok (.isub, 1) := by decide +kernel
theorem dX4_readNumber_38 : decode cX4_readNumber 38 = .ok (.istore_n 1, 1) := by decide +kernel
theorem dX4_readNumber_39 : decode cX4_readNumber 39 = .ok (.aload_n 0, 1) := by decide +kernel
theorem dX4_readNumber_40 : decode cX4_readNumber 40 = .ok (.dup, 1) := by decide +kernel
theorem dX4_readNumber_41 : decode cX4_readNumber 41 = .ok (.getfield 27, 3) := by decide +kernel
theorem dX4_readNumber_44 : decode cX4_readNumber 44 = .ok (.iconst 1, 1) := by decide +kernel
theorem dX4_readNumber_45 : decode cX4_readNumber 45 = .ok (.iadd, 1) := by decide +kernel
theorem dX4_readNumber_46 : decode cX4_readNumber 46 = .ok (.putfield 27, 3) := by decide +kernel
theorem dX4_readNumber_49 : decode cX4_readNumber 49 = .ok (.iinc 2 1, 3) := by decide +kernel
theorem dX4_readNumber_52 : decode cX4_readNumber 52 = .ok (.goto (-47), 3) := by decide +kernel
theorem dX4_readNumber_55 : decode cX4_readNumber 55 = .ok (.iload_n 1, 1) := by decide +kernel
theorem dX4_readNumber_56 : decode cX4_readNumber 56 = .ok (.ireturn, 1) := by decide +kernel
theorem dX4_isFigure_0 : decode cX4_isFigure 0 = .ok (.aload_n 0, 1) := by decide +kernel
theorem dX4_isFigure_1 : decode cX4_isFigure 1 = .ok (.getfield 27, 3) := by decide +kernel
theorem dX4_isFigure_4 : decode cX4_isFigure 4 = .ok (.aload_n 0, 1) := by decide +kernel
theorem dX4_isFigure_5 : decode cX4_isFigure 5 = .ok (.getfield 15, 3) := by decide +kernel
theorem dX4_isFigure_8 : decode cX4_isFigure 8 = .ok (.if_icmp .ge 35, 3) := by decide +kernel
theorem dX4_isFigure_11 : decode cX4_isFigure 11 = .ok (.aload_n 0, 1) := by decide +kernel
theorem dX4_isFigure_12 : decode cX4_isFigure 12 = .ok (.getfield 9, 3) := by decide +kernel
theorem dX4_isFigure_15 : decode cX4_isFigure 15 = .ok (.aload_n 0, 1) := by decide +kernel
theorem dX4_isFigure_16 : decode cX4_isFigure 16 = .ok (.getfield 27, 3) := by decide +kernel
theorem dX4_isFigure_19 : decode cX4_isFigure 19 = .ok (.iaload, 1) := by decide +kernel
theorem dX4_isFigure_20 : decode cX4_isFigure 20 = .ok (.bipush 48, 2) := by decide +kernel
theorem dX4_isFigure_22 : decode cX4_isFigure 22 = .ok (.if_icmp .lt 21, 3) := by decide +kernel
theorem dX4_isFigure_25 : decode cX4_isFigure 25 = .ok (.aload_n 0, 1) := by decide +kernel
theorem dX4_isFigure_26 : decode cX4_isFigure 26 = .ok (.getfield 9, 3) := by decide +kernel
theorem dX4_isFigure_29 : decode cX4_isFigure 29 = .ok (.aload_n 0, 1) := by decide +kernel
theorem dX4_isFigure_30 : decode cX4_isFigure 30 = .ok (.getfield 27, 3) := by decide +kernel
theorem dX4_isFigure_33 : decode cX4_isFigure 33 = .ok (.iaload, 1) := by decide +kernel
theorem dX4_isFigure_34 : decode cX4_isFigure 34 = .ok (.bipush 57, 2) := by decide +kernel
theorem dX4_isFigure_36 : decode cX4_isFigure 36 = .ok (.if_icmp .gt 7, 3) := by decide +kernel
theorem dX4_isFigure_39 : decode cX4_isFigure 39 = .ok (.iconst 1, 1) := by decide +kernel
theorem dX4_isFigure_40 : decode cX4_isFigure 40 = .ok (.goto 4, 3) := by decide +kernel
theorem dX4_isFigure_43 : decode cX4_isFigure 43 = .ok (.iconst 0, 1) := by decide +kernel
theorem dX4_isFigure_44 : decode cX4_isFigure 44 = .ok (.ireturn, 1) := by decide +kernel
theorem dX4_skip_0 : decode cX4_skip 0 = .ok (.aload_n 0, 1) := by decide +kernel
theorem dX4_skip_1 : decode cX4_skip 1 = .ok (.getfield 27, 3) := by decide +kernel
theorem dX4_skip_4 : decode cX4_skip 4 = .ok (.aload_n 0, 1) := by decide +kernel
theorem dX4_skip_5 : decode cX4_skip 5 = .ok (.getfield 15, 3) := by decide +kernel
theorem dX4_skip_8 : decode cX4_skip 8 = .ok (.if_icmp .ge 16, 3) := by decide +kernel
theorem dX4_skip_11 : decode cX4_skip 11 = .ok (.aload_n 0, 1) := by decide +kernel
theorem dX4_skip_12 : decode cX4_skip 12 = .ok (.getfield 9, 3) := by decide +kernel
theorem dX4_skip_15 : decode cX4_skip 15 = .ok (.aload_n 0, 1) := by decide +kernel
theorem dX4_skip_16 : decode cX4_skip 16 = .ok (.getfield 27, 3) := by decide +kernel
theorem dX4_skip_19 : decode cX4_skip 19 = .ok (.iaload, 1) := by decide +kernel
theorem dX4_skip_20 : decode cX4_skip 20 = .ok (.iload_n 1, 1) := by decide +kernel
theorem dX4_skip_21 : decode cX4_skip 21 = .ok (.if_icmp .eq 5, 3) := by decide +kernel
theorem dX4_skip_24 : decode cX4_skip 24 = .ok (.iconst 0, 1) := by decide +kernel
theorem dX4_skip_25 : decode cX4_skip 25 = .ok (.ireturn, 1) := by decide +kernel
theorem dX4_skip_26 : decode cX4_skip 26 = .ok (.aload_n 0, 1) := by decide +kernel
theorem dX4_skip_27 : decode cX4_skip 27 = .ok (.dup, 1) := by decide +kernel
theorem dX4_skip_28 : decode cX4_skip 28 = .ok (.getfield 27, 3) := by decide +kernel
theorem dX4_skip_31 : decode cX4_skip 31 = .ok (.iconst 1, 1) := by decide +kernel
theorem dX4_skip_32 : decode cX4_skip 32 = .ok (.iadd, 1) := by decide +kernel
theorem dX4_skip_33 : decode cX4_skip 33 = .ok (.putfield 27, 3) := by decide +kernel
theorem dX4_skip_36 : decode cX4_skip 36 = .ok (.iconst 1, 1) := by decide +kernel
theorem dX4_skip_37 : decode cX4_skip 37 = .ok (.ireturn, 1) := by decide +kernel
theorem dX5_init_0 : decode cX5_init 0 = .ok (.aload_n 0, 1) := by decide +kernel
theorem dX5_init_1 : decode cX5_init 1 = .ok (.invokespecial 3, 3) := by decide +kernel
theorem dX5_init_4 : decode cX5_init 4 = .ok (.aload_n 0, 1) := by decide +kernel
theorem dX5_init_5 : decode cX5_init 5 = .ok (.bipush 14, 2) := by decide +kernel
theorem dX5_init_7 : decode cX5_init 7 = .ok (.newarray .int, 2) := by decide +kernel
theorem dX5_init_9 : decode cX5_init 9 = .ok (.putfield 9, 3) := by decide +kernel
theorem dX5_init_12 : decode cX5_init 12 = .ok (.aload_n 0, 1) := by decide +kernel
theorem dX5_init_13 : decode cX5_init 13 = .ok (.bipush 14, 2) := by decide +kernel
theorem dX5_init_15 : decode cX5_init 15 = .ok (.newarray .int, 2) := by decide +kernel
theorem dX5_init_17 : decode cX5_init 17 = .ok (.putfield 15, 3) := by decide +kernel
theorem dX5_init_20 : decode cX5_init 20 = .ok (.aload_n 0, 1) := by decide +kernel
theorem dX5_init_21 : decode cX5_init 21 = .ok (.sipush 240, 3) := by decide +kernel
theorem dX5_init_24 : decode cX5_init 24 = .ok (.newarray .int, 2) := by decide +kernel
theorem dX5_init_26 : decode cX5_init 26 = .ok (.putfield 18, 3) := by decide +kernel
theorem dX5_init_29 : decode cX5_init 29 = .ok (.aload_n 0, 1) := by decide +kernel
theorem dX5_init_30 : decode cX5_init 30 = .ok (.sipush 897, 3) := by decide +kernel
theorem dX5_init_33 : decode cX5_init 33 = .ok (.newarray .int, 2) := by decide +kernel
theorem dX5_init_35 : decode cX5_init 35 = .ok (.putfield 21, 3) := by decide +kernel
theorem dX5_init_38 : decode cX5_init 38 = .ok (.aload_n 0, 1) := by decide +kernel
theorem dX5_init_39 : decode cX5_init 39 = .ok (.sipush 897, 3) := by decide +kernel
theorem dX5_init_42 : decode cX5_init 42 = .ok (.newarray .int, 2) := by decide +kernel
theorem dX5_init_44 : decode cX5_init 44 = .ok (.putfield 24, 3) := by decide +kernel
theorem dX5_init_47 : decode cX5_init 47 = .ok (.aload_n 0, 1) := by decide +kernel
theorem dX5_init_48 : decode cX5_init 48 = .ok (.sipush 448, 3) := by decide +kernel
theorem dX5_init_51 : decode cX5_init 51 = .ok (.newarray .int, 2) := by decide +kernel
theorem dX5_init_53 : decode cX5_init 53 = .ok (.putfield 27, 3) := by decide +kernel
theorem dX5_init_56 : decode cX5_init 56 = .ok (.aload_n 0, 1) := by decide +kernel
theorem dX5_init_57 : decode cX5_init 57 = .ok (.sipush 448, 3) := by decide +kernel
theorem dX5_init_60 : decode cX5_init 60 = .ok (.newarray .int, 2) := by decide +kernel
theorem dX5_init_62 : decode cX5_init 62 = .ok (.putfield 30, 3) := by decide +kernel
theorem dX5_init_65 : decode cX5_init 65 = .ok (.aload_n 0, 1) := by decide +kernel
theorem dX5_init_66 : decode cX5_init 66 = .ok (.sipush 448, 3) := by decide +kernel
theorem dX5_init_69 : decode cX5_init 69 = .ok (.newarray .int, 2) := by decide +kernel
theorem dX5_init_71 : decode cX5_init 71 = .ok (.putfield 33, 3) := by decide +kernel
theorem dX5_init_74 : decode cX5_init 74 = .ok (.return_, 1) := by decide +kernel
theorem dX5_lookOver_0 : decode cX5_lookOver 0 = .ok (.aload_n 0, 1) := by decide +kernel
theorem dX5_lookOver_1 : decode cX5_lookOver 1 = .ok (.aload_n 1, 1) := by decide +kernel
theorem dX5_lookOver_2 : decode cX5_lookOver 2 = .ok (.getfield 36, 3) := by decide +kernel
theorem dX5_lookOver_5 : decode cX5_lookOver 5 = .ok (.putfield 42, 3) := by decide +kernel
theorem dX5_lookOver_8 : decode cX5_lookOver 8 = .ok (.aload_n 0, 1) := by decide +kernel
theorem dX5_lookOver_9 : decode cX5_lookOver 9 = .ok (.iload_n 2, 1) := by decide +kernel
theorem dX5_lookOver_10 : decode cX5_lookOver 10 = .ok (.aload_n 1, 1) := by decide +kernel
theorem dX5_lookOver_11 : decode cX5_lookOver 11 = .ok (.invokevirtual 43, 3) := by decide +kernel
theorem dX5_lookOver_14 : decode cX5_lookOver 14 = .ok (.iand, 1) := by decide +kernel
theorem dX5_lookOver_15 : decode cX5_lookOver 15 = .ok (.putfield 47, 3) := by decide +kernel
theorem dX5_lookOver_18 : decode cX5_lookOver 18 = .ok (.aload_n 0, 1) := by decide +kernel
theorem dX5_lookOver_19 : decode cX5_lookOver 19 = .ok (.getfield 18, 3) := by decide +kernel
theorem dX5_lookOver_22 : decode cX5_lookOver 22 = .ok (.bipush (-4), 2) := by decide +kernel
theorem dX5_lookOver_24 : decode cX5_lookOver 24 = .ok (.invokestatic 50, 3) := by decide +kernel
theorem dX5_lookOver_27 : decode cX5_lookOver 27 = .ok (.iconst 0, 1) := by decide +kernel
theorem dX5_lookOver_28 : decode cX5_lookOver 28 = .ok (.istore_n 3, 1) := by decide +kernel
theorem dX5_lookOver_29 : decode cX5_lookOver 29 = .ok (.iload_n 3, 1) := by decide +kernel
theorem dX5_lookOver_30 : decode cX5_lookOver 30 = .ok (.aload_n 1, 1) := by decide +kernel
theorem dX5_lookOver_31 : decode cX5_lookOver 31 = .ok (.getfield 56, 3) := by decide +kernel
theorem dX5_lookOver_34 : decode cX5_lookOver 34 = .ok (.if_icmp .ge 63, 3) := by decide +kernel
theorem dX5_lookOver_37 : decode cX5_lookOver 37 = .ok (.aload_n 0, 1) := by decide +kernel
theorem dX5_lookOver_38 : decode cX5_lookOver 38 = .ok (.getfield 9, 3) := by decide +kernel
theorem dX5_lookOver_41 : decode cX5_lookOver 41 = .ok (.iload_n 3, 1) := by decide +kernel
theorem dX5_lookOver_42 : decode cX5_lookOver 42 = .ok (.aload_n 1, 1) := by decide +kernel
theorem dX5_lookOver_43 : decode cX5_lookOver 43 = .ok (.iload_n 3, 1) := by decide +kernel
theorem dX5_lookOver_44 : decode cX5_lookOver 44 = .ok (.invokevirtual 59, 3) := by decide +kernel
theorem dX5_lookOver_47 : decode cX5_lookOver 47 = .ok (.iastore, 1) := by decide +kernel
theorem dX5_lookOver_48 : decode cX5_lookOver 48 = .ok (.aload_n 0, 1) := by decide +kernel
theorem dX5_lookOver_49 : decode cX5_lookOver 49 = .ok (.getfield 15, 3) := by decide +kernel
theorem dX5_lookOver_52 : decode cX5_lookOver 52 = .ok (.iload_n 3, 1) := by decide +kernel
theorem dX5_lookOver_53 : decode cX5_lookOver 53 = .ok (.aload_n 1, 1) := by decide +kernel
theorem dX5_lookOver_54 : decode cX5_lookOver 54 = .ok (.iload_n 3, 1) := by decide +kernel
theorem dX5_lookOver_55 : decode cX5_lookOver 55 = .ok (.invokevirtual 63, 3) := by decide +kernel
theorem dX5_lookOver_58 : decode cX5_lookOver 58 = .ok (.iastore, 1) := by decide +kernel
theorem dX5_lookOver_59 : decode cX5_lookOver 59 = .ok (.aload_n 0, 1) := by decide +kernel
theorem dX5_lookOver_60 : decode cX5_lookOver 60 = .ok (.getfield 47, 3) := by decide +kernel
theorem dX5_lookOver_63 : decode cX5_lookOver 63 = .ok (.iload_n 3, 1) := by decide +kernel
theorem dX5_lookOver_64 : decode cX5_lookOver 64 = .ok (.invokestatic 66, 3) := by decide +kernel
theorem dX5_lookOver_67 : decode cX5_lookOver 67 = .ok (.ifCond .eq 24, 3) := by decide +kernel
theorem dX5_lookOver_70 : decode cX5_lookOver 70 = .ok (.aload_n 0, 1) := by decide +kernel
theorem dX5_lookOver_71 : decode cX5_lookOver 71 = .ok (.getfield 18, 3) := by decide +kernel
theorem dX5_lookOver_74 : decode cX5_lookOver 74 = .ok (.aload_n 0, 1) := by decide +kernel
theorem dX5_lookOver_75 : decode cX5_lookOver 75 = .ok (.getfield 9, 3) := by decide +kernel
theorem dX5_lookOver_78 : decode cX5_lookOver 78 = .ok (.iload_n 3, 1) := by decide +kernel
theorem dX5_lookOver_79 : decode cX5_lookOver 79 = .ok (.iaload, 1) := by decide +kernel
theorem dX5_lookOver_80 : decode cX5_lookOver 80 = .ok (.aload_n 0, 1) := by decide +kernel
theorem dX5_lookOver_81 : decode cX5_lookOver 81 = .ok (.getfield 15, 3) := by decide +kernel
theorem dX5_lookOver_84 : decode cX5_lookOver 84 = .ok (.iload_n 3, 1) := by decide +kernel
theorem dX5_lookOver_85 : decode cX5_lookOver 85 = .ok (.iaload, 1) := by decide +kernel
theorem dX5_lookOver_86 : decode cX5_lookOver 86 = .ok (.invokestatic 70, 3) := by decide +kernel
theorem dX5_lookOver_89 : decode cX5_lookOver 89 = .ok (.iload_n 3, 1) := by decide +kernel
theorem dX5_lookOver_90 : decode cX5_lookOver 90 = .ok (.iastore, 1) := by decide +kernel
theorem dX5_lookOver_91 : decode cX5_lookOver 91 = .ok (.iinc 3 1, 3) := by decide +kernel
theorem dX5_lookOver_94 : decode cX5_lookOver 94 = .ok (.goto (-65), 3) := by decide +kernel
theorem dX5_lookOver_97 : decode cX5_lookOver 97 = .ok (.aload_n 0, 1) := by decide +kernel
theorem dX5_lookOver_98 : decode cX5_lookOver 98 = .ok (.invokevirtual 74, 3) := by decide +kernel
theorem dX5_lookOver_101 : decode cX5_lookOver 101 = .ok (.aload_n 0, 1) := by decide +kernel
theorem dX5_lookOver_102 : decode cX5_lookOver 102 = .ok (.invokevirtual 77, 3) := by decide +kernel
theorem dX5_lookOver_105 : decode cX5_lookOver 105 = .ok (.aload_n 0, 1) := by decide +kernel
theorem dX5_lookOver_106 : decode cX5_lookOver 106 = .ok (.invokevirtual 80, 3) := by decide +kernel
theorem dX5_lookOver_109 : decode cX5_lookOver 109 = .ok (.return_, 1) := by decide +kernel
theorem dX5_has_0 : decode cX5_has 0 = .ok (.iload_n 0, 1) := by decide +kernel
theorem dX5_has_1 : decode cX5_has 1 = .ok (.iload_n 1, 1) := by decide +kernel
theorem dX5_has_2 : decode cX5_has 2 = .ok (.ishr, 1) := by decide +kernel
theorem dX5_has_3 : decode cX5_has 3 = .ok (.iconst 1, 1) := by decide +kernel
theorem dX5_has_4 : decode cX5_has 4 = .ok (.iand, 1) := by decide +kernel
theorem dX5_has_5 : decode cX5_has 5 = .ok (.ifCond .eq 7, 3) := by decide +kernel
theorem dX5_has_8 : decode cX5_has 8 = .ok (.iconst 1, 1) := by decide +kernel
theorem dX5_has_9 : decode cX5_has 9 = .ok (.goto 4, 3) := by decide +kernel
theorem dX5_has_12 : decode cX5_has 12 = .ok (.iconst 0, 1) := by decide +kernel
theorem dX5_has_13 : decode cX5_has 13 = .ok (.ireturn, 1) := by decide +kernel
theorem dX5_hasTwo_0 : decode cX5_hasTwo 0 = .ok (.iload_n 0, 1) := by decide +kernel
theorem dX5_hasTwo_1 : decode cX5_hasTwo 1 = .ok (.iload_n 0, 1) := by decide +kernel
theorem dX5_hasTwo_2 : decode cX5_hasTwo 2 = .ok (.iconst 1, 1) := by decide +kernel
theorem dX5_hasTwo_3 : decode cX5_hasTwo 3 = .ok (.isub, 1) := by decide +kernel
theorem dX5_hasTwo_4 : decode cX5_hasTwo 4 = .ok (.iand, 1) := by decide +kernel
theorem dX5_hasTwo_5 : decode cX5_hasTwo 5 = .ok (.ifCond .eq 7, 3) := by decide +kernel
theorem dX5_hasTwo_8 : decode cX5_hasTwo 8 = .ok (.iconst 1, 1) := by decide +kernel
theorem dX5_hasTwo_9 : decode cX5_hasTwo 9 = .ok (.goto 4, 3) := by decide +kernel
theorem dX5_hasTwo_12 : decode cX5_hasTwo 12 = .ok (.iconst 0, 1) := by decide +kernel
theorem dX5_hasTwo_13 : decode cX5_hasTwo 13 = .ok (.ireturn, 1) := by decide +kernel
theorem dX5_shiftOf_0 : decode cX5_shiftOf 0 = .ok (.iload_n 0, 1) := by decide +kernel
theorem dX5_shiftOf_1 : decode cX5_shiftOf 1 = .ok (.bipush 19, 2) := by decide +kernel
theorem dX5_shiftOf_3 : decode cX5_shiftOf 3 = .ok (.iadd, 1) := by decide +kernel
theorem dX5_shiftOf_4 : decode cX5_shiftOf 4 = .ok (.bipush 23, 2) := by decide +kernel
theorem dX5_shiftOf_6 : decode cX5_shiftOf 6 = .ok (.imul, 1) := by decide +kernel
theorem dX5_shiftOf_7 : decode cX5_shiftOf 7 = .ok (.iload_n 1, 1) := by decide +kernel
theorem dX5_shiftOf_8 : decode cX5_shiftOf 8 = .ok (.iadd, 1) := by decide +kernel
theorem dX5_shiftOf_9 : decode cX5_shiftOf 9 = .ok (.bipush 11, 2) := by decide +kernel
theorem dX5_shiftOf_11 : decode cX5_shiftOf 11 = .ok (.iadd, 1) := by decide +kernel
theorem dX5_shiftOf_12 : decode cX5_shiftOf 12 = .ok (.ireturn, 1) := by decide +kernel
theorem dX5_timePart_0 : decode cX5_timePart 0 = .ok (.iload_n 0, 1) := by decide +kernel
theorem dX5_timePart_1 : decode cX5_timePart 1 = .ok (.bipush 23, 2) := by decide +kernel
theorem dX5_timePart_3 : decode cX5_timePart 3 = .ok (.idiv, 1) := by decide +kernel
theorem dX5_timePart_4 : decode cX5_timePart 4 = .ok (.bipush 19, 2) := by decide +kernel
theorem dX5_timePart_6 : decode cX5_timePart 6 = .ok (.isub, 1) := by decide +kernel
theorem dX5_timePart_7 : decode cX5_timePart 7 = .ok (.ireturn, 1) := by decide +kernel
theorem dX5_pitchPart_0 : decode cX5_pitchPart 0 = .ok (.iload_n 0, 1) := by decide +kernel
theorem dX5_pitchPart_1 : decode cX5_pitchPart 1 = .ok (.bipush 23, 2) := by decide +kernel
theorem dX5_pitchPart_3 : decode cX5_pitchPart 3 = .ok (.irem, 1) := by decide +kernel
theorem dX5_pitchPart_4 : decode cX5_pitchPart 4 = .ok (.bipush 11, 2) := by decide +kernel
theorem dX5_pitchPart_6 : decode cX5_pitchPart 6 = .ok (.isub, 1) := by decide +kernel
theorem dX5_pitchPart_7 : decode cX5_pitchPart 7 = .ok (.ireturn, 1) := by decide +kernel
theorem dX5_findLargests_0 : decode cX5_findLargests 0 = .ok (.aload_n 0, 1) := by decide +kernel
theorem dX5_findLargests_1 : decode cX5_findLargests 1 = .ok (.getfield 21, 3) := by decide +kernel
theorem dX5_findLargests_4 : decode cX5_findLargests 4 = .ok (.iconst 0, 1) := by decide +kernel
theorem dX5_findLargests_5 : decode cX5_findLargests 5 = .ok (.invokestatic 50, 3) := by decide +kernel
theorem dX5_findLargests_8 : decode cX5_findLargests 8 = .ok (.iconst 0, 1) := by decide +kernel
theorem dX5_findLargests_9 : decode cX5_findLargests 9 = .ok (.istore_n 1, 1) := by decide +kernel
theorem dX5_findLargests_10 : decode cX5_findLargests 10 = .ok (.iload_n 1, 1) := by decide +kernel
theorem dX5_findLargests_11 : decode cX5_findLargests 11 = .ok (.bipush 14, 2) := by decide +kernel
theorem dX5_findLargests_13 : decode cX5_findLargests 13 = .ok (.if_icmp .ge 51, 3) := by decide +kernel
theorem dX5_findLargests_16 : decode cX5_findLargests 16 = .ok (.iconst 0, 1) := by decide +kernel
theorem dX5_findLargests_17 : decode cX5_findLargests 17 = .ok (.istore_n 2, 1) := by decide +kernel
theorem dX5_findLargests_18 : decode cX5_findLargests 18 = .ok (.iload_n 2, 1) := by decide +kernel
theorem dX5_findLargests_19 : decode cX5_findLargests 19 = .ok (.bipush 14, 2) := by decide +kernel
theorem dX5_findLargests_21 : decode cX5_findLargests 21 = .ok (.if_icmp .ge 37, 3) := by decide +kernel
theorem dX5_findLargests_24 : decode cX5_findLargests 24 = .ok (.aload_n 0, 1) := by decide +kernel
theorem dX5_findLargests_25 : decode cX5_findLargests 25 = .ok (.getfield 47, 3) := by decide +kernel
theorem dX5_findLargests_28 : decode cX5_findLargests 28 = .ok (.iload_n 1, 1) := by decide +kernel
theorem dX5_findLargests_29 : decode cX5_findLargests 29 = .ok (.invokestatic 66, 3) := by decide +kernel
theorem dX5_findLargests_32 : decode cX5_findLargests 32 = .ok (.ifCond .eq 26, 3) := by decide +kernel
theorem dX5_findLargests_35 : decode cX5_findLargests 35 = .ok (.aload_n 0, 1) := by decide +kernel
theorem dX5_findLargests_36 : decode cX5_findLargests 36 = .ok (.getfield 47, 3) := by decide +kernel
theorem dX5_findLargests_39 : decode cX5_findLargests 39 = .ok (.iload_n 2, 1) := by decide +kernel
theorem dX5_findLargests_40 : decode cX5_findLargests 40 = .ok (.invokestatic 66, 3) := by decide +kernel
theorem dX5_findLargests_43 : decode cX5_findLargests 43 = .ok (.ifCond .eq 9, 3) := by decide +kernel
theorem dX5_findLargests_46 : decode cX5_findLargests 46 = .ok (.aload_n 0, 1) := by decide +kernel
theorem dX5_findLargests_47 : decode cX5_findLargests 47 = .ok (.iload_n 1, 1) := by decide +kernel
theorem dX5_findLargests_48 : decode cX5_findLargests 48 = .ok (.iload_n 2, 1) := by decide +kernel
theorem dX5_findLargests_49 : decode cX5_findLargests 49 = .ok (.invokevirtual 83, 3) := by decide +kernel
theorem dX5_findLargests_52 : decode cX5_findLargests 52 = .ok (.iinc 2 1, 3) := by decide +kernel
theorem dX5_findLargests_55 : decode cX5_findLargests 55 = .ok (.goto (-37), 3) := by decide +kernel
theorem dX5_findLargests_58 : decode cX5_findLargests 58 = .ok (.iinc 1 1, 3) := by decide +kernel
theorem dX5_findLargests_61 : decode cX5_findLargests 61 = .ok (.goto (-51), 3) := by decide +kernel
theorem dX5_findLargests_64 : decode cX5_findLargests 64 = .ok (.return_, 1) := by decide +kernel
theorem dX5_enterPair_0 : decode cX5_enterPair 0 = .ok (.aload_n 0, 1) := by decide +kernel
theorem dX5_enterPair_1 : decode cX5_enterPair 1 = .ok (.getfield 9, 3) := by decide +kernel
theorem dX5_enterPair_4 : decode cX5_enterPair 4 = .ok (.iload_n 2, 1) := by decide +kernel
theorem dX5_enterPair_5 : decode cX5_enterPair 5 = .ok (.iaload, 1) := by decide +kernel
theorem dX5_enterPair_6 : decode cX5_enterPair 6 = .ok (.aload_n 0, 1) := by decide +kernel
theorem dX5_enterPair_7 : decode cX5_enterPair 7 = .ok (.getfield 9, 3) := by decide +kernel
theorem dX5_enterPair_10 : decode cX5_enterPair 10 = .ok (.iload_n 1, 1) := by decide +kernel
theorem dX5_enterPair_11 : decode cX5_enterPair 11 = .ok (.iaload, 1) := by decide +kernel
theorem dX5_enterPair_12 : decode cX5_enterPair 12 = .ok (.isub, 1) := by decide +kernel
theorem dX5_enterPair_13 : decode cX5_enterPair 13 = .ok (.istore_n 3, 1) := by decide +kernel
theorem dX5_enterPair_14 : decode cX5_enterPair 14 = .ok (.aload_n 0, 1) := by decide +kernel
theorem dX5_enterPair_15 : decode cX5_enterPair 15 = .ok (.getfield 15, 3) := by decide +kernel
theorem dX5_enterPair_18 : decode cX5_enterPair 18 = .ok (.iload_n 2, 1) := by decide +kernel
theorem dX5_enterPair_19 : decode cX5_enterPair 19 = .ok (.iaload, 1) := by decide +kernel
theorem dX5_enterPair_20 : decode cX5_enterPair 20 = .ok (.aload_n 0, 1) := by decide +kernel
theorem dX5_enterPair_21 : decode cX5_enterPair 21 = .ok (.getfield 15, 3) := by decide +kernel
theorem dX5_enterPair_24 : decode cX5_enterPair 24 = .ok (.iload_n 1, 1) := by decide +kernel
theorem dX5_enterPair_25 : decode cX5_enterPair 25 = .ok (.iaload, 1) := by decide +kernel
theorem dX5_enterPair_26 : decode cX5_enterPair 26 = .ok (.isub, 1) := by decide +kernel
theorem dX5_enterPair_27 : decode cX5_enterPair 27 = .ok (.istore 4, 2) := by decide +kernel
theorem dX5_enterPair_29 : decode cX5_enterPair 29 = .ok (.aload_n 0, 1) := by decide +kernel
theorem dX5_enterPair_30 : decode cX5_enterPair 30 = .ok (.getfield 42, 3) := by decide +kernel
theorem dX5_enterPair_33 : decode cX5_enterPair 33 = .ok (.iconst 1, 1) := by decide +kernel
theorem dX5_enterPair_34 : decode cX5_enterPair 34 = .ok (.if_icmp .ne 17, 3) := by decide +kernel
theorem dX5_enterPair_37 : decode cX5_enterPair 37 = .ok (.aload_n 0, 1) := by decide +kernel
theorem dX5_enterPair_38 : decode cX5_enterPair 38 = .ok (.iload_n 1, 1) := by decide +kernel
theorem dX5_enterPair_39 : decode cX5_enterPair 39 = .ok (.iload_n 3, 1) := by decide +kernel
theorem dX5_enterPair_40 : decode cX5_enterPair 40 = .ok (.iload 4, 2) := by decide +kernel
theorem dX5_enterPair_42 : decode cX5_enterPair 42 = .ok (.bipush 12, 2) := by decide +kernel
theorem dX5_enterPair_44 : decode cX5_enterPair 44 = .ok (.invokestatic 87, 3) := by decide +kernel
theorem dX5_enterPair_47 : decode cX5_enterPair 47 = .ok (.invokevirtual 92, 3) := by decide +kernel
theorem dX5_enterPair_50 : decode cX5_enterPair 50 = .ok (.return_, 1) := by decide +kernel
theorem dX5_enterPair_51 : decode cX5_enterPair 51 = .ok (.aload_n 0, 1) := by decide +kernel
theorem dX5_enterPair_52 : decode cX5_enterPair 52 = .ok (.iload_n 1, 1) := by decide +kernel
theorem dX5_enterPair_53 : decode cX5_enterPair 53 = .ok (.iload_n 3, 1) := by decide +kernel
theorem dX5_enterPair_54 : decode cX5_enterPair 54 = .ok (.iload 4, 2) := by decide +kernel
theorem dX5_enterPair_56 : decode cX5_enterPair 56 = .ok (.invokevirtual 92, 3) := by decide +kernel
theorem dX5_enterPair_59 : decode cX5_enterPair 59 = .ok (.aload_n 0, 1) := by decide +kernel
theorem dX5_enterPair_60 : decode cX5_enterPair 60 = .ok (.getfield 42, 3) := by decide +kernel
theorem dX5_enterPair_63 : decode cX5_enterPair 63 = .ok (.iconst 2, 1) := by decide +kernel
theorem dX5_enterPair_64 : decode cX5_enterPair 64 = .ok (.if_icmp .ne 23, 3) := by decide +kernel
theorem dX5_enterPair_67 : decode cX5_enterPair 67 = .ok (.aload_n 0, 1) := by decide +kernel
theorem dX5_enterPair_68 : decode cX5_enterPair 68 = .ok (.iload_n 1, 1) := by decide +kernel
theorem dX5_enterPair_69 : decode cX5_enterPair 69 = .ok (.iload_n 3, 1) := by decide +kernel
theorem dX5_enterPair_70 : decode cX5_enterPair 70 = .ok (.iload 4, 2) := by decide +kernel
theorem dX5_enterPair_72 : decode cX5_enterPair 72 = .ok (.iconst 1, 1) := by decide +kernel
theorem dX5_enterPair_73 : decode cX5_enterPair 73 = .ok (.isub, 1) := by decide +kernel
theorem dX5_enterPair_74 : decode cX5_enterPair 74 = .ok (.invokevirtual 92, 3) := by decide +kernel
theorem dX5_enterPair_77 : decode cX5_enterPair 77 = .ok (.aload_n 0, 1) := by decide +kernel
theorem dX5_enterPair_78 : decode cX5_enterPair 78 = .ok (.iload_n 1, 1) := by decide +kernel
theorem dX5_enterPair_79 : decode cX5_enterPair 79 = .ok (.iload_n 3, 1) := by decide +kernel
theorem dX5_enterPair_80 : decode cX5_enterPair 80 = .ok (.iload 4, 2) := by decide +kernel
theorem dX5_enterPair_82 : decode cX5_enterPair 82 = .ok (.iconst 1, 1) := by decide +kernel
theorem dX5_enterPair_83 : decode cX5_enterPair 83 = .ok (.iadd, 1) := by decide +kernel
theorem dX5_enterPair_84 : decode cX5_enterPair 84 = .ok (.invokevirtual 92, 3) := by decide +kernel
theorem dX5_enterPair_87 : decode cX5_enterPair 87 = .ok (.return_, 1) := by decide +kernel
theorem dX5_enter_0 : decode cX5_enter 0 = .ok (.iload_n 2, 1) := by decide +kernel
theorem dX5_enter_1 : decode cX5_enter 1 = .ok (.iload_n 3, 1) := by decide +kernel
theorem dX5_enter_2 : decode cX5_enter 2 = .ok (.invokestatic 96, 3) := by decide +kernel
theorem dX5_enter_5 : decode cX5_enter 5 = .ok (.ifCond .eq 19, 3) := by decide +kernel
theorem dX5_enter_8 : decode cX5_enter 8 = .ok (.aload_n 0, 1) := by decide +kernel
theorem dX5_enter_9 : decode cX5_enter 9 = .ok (.getfield 21, 3) := by decide +kernel
theorem dX5_enter_12 : decode cX5_enter 12 = .ok (.iload_n 2, 1) := by decide +kernel
theorem dX5_enter_13 : decode cX5_enter 13 = .ok (.iload_n 3, 1) := by decide +kernel
theorem dX5_enter_14 : decode cX5_enter 14 = .ok (.invokestatic 99, 3) := by decide +kernel
theorem dX5_enter_17 : decode cX5_enter 17 = .ok (.dup2, 1) := by decide +kernel
theorem dX5_enter_18 : decode cX5_enter 18 = .ok (.iaload, 1) := by decide +kernel
theorem dX5_enter_19 : decode cX5_enter 19 = .ok (.iconst 1, 1) := by decide +kernel
theorem dX5_enter_20 : decode cX5_enter 20 = .ok (.iload_n 1, 1) := by decide +kernel
theorem dX5_enter_21 : decode cX5_enter 21 = .ok (.ishl, 1) := by decide +kernel
theorem dX5_enter_22 : decode cX5_enter 22 = .ok (.ior, 1) := by decide +kernel
theorem dX5_enter_23 : decode cX5_enter 23 = .ok (.iastore, 1) := by decide +kernel
theorem dX5_enter_24 : decode cX5_enter 24 = .ok (.return_, 1) := by decide +kernel
theorem dX5_isHeld_0 : decode cX5_isHeld 0 = .ok (.iload_n 0, 1) := by decide +kernel
theorem dX5_isHeld_1 : decode cX5_isHeld 1 = .ok (.bipush (-19), 2) := by decide +kernel
theorem dX5_isHeld_3 : decode cX5_isHeld 3 = .ok (.if_icmp .lt 25, 3) := by decide +kernel
theorem dX5_isHeld_6 : decode cX5_isHeld 6 = .ok (.iload_n 0, 1) := by decide +kernel
theorem dX5_isHeld_7 : decode cX5_isHeld 7 = .ok (.bipush 19, 2) := by decide +kernel
theorem dX5_isHeld_9 : decode cX5_isHeld 9 = .ok (.if_icmp .gt 19, 3) := by decide +kernel
theorem dX5_isHeld_12 : decode cX5_isHeld 12 = .ok (.iload_n 1, 1) := by decide +kernel
theorem dX5_isHeld_13 : decode cX5_isHeld 13 = .ok (.bipush (-11), 2) := by decide +kernel
theorem dX5_isHeld_15 : decode cX5_isHeld 15 = .ok (.if_icmp .lt 13, 3) := by decide +kernel
theorem dX5_isHeld_18 : decode cX5_isHeld 18 = .ok (.iload_n 1, 1) := by decide +kernel
theorem dX5_isHeld_19 : decode cX5_isHeld 19 = .ok (.bipush 11, 2) := by decide +kernel
theorem dX5_isHeld_21 : decode cX5_isHeld 21 = .ok (.if_icmp .gt 7, 3) := by decide +kernel
theorem dX5_isHeld_24 : decode cX5_isHeld 24 = .ok (.iconst 1, 1) := by decide +kernel
theorem dX5_isHeld_25 : decode cX5_isHeld 25 = .ok (.goto 4, 3) := by decide +kernel
theorem dX5_isHeld_28 : decode cX5_isHeld 28 = .ok (.iconst 0, 1) := by decide +kernel
theorem dX5_isHeld_29 : decode cX5_isHeld 29 = .ok (.ireturn, 1) := by decide +kernel
theorem dX5_findWideShifts_0 : decode cX5_findWideShifts 0 = .ok (.aload_n 0, 1) := by decide +kernel
theorem dX5_findWideShifts_1 : decode cX5_findWideShifts 1 = .ok (.iconst 0, 1) := by decide +kernel
theorem dX5_findWideShifts_2 : decode cX5_findWideShifts 2 = .ok (.putfield 102, 3) := by decide +kernel
theorem dX5_findWideShifts_5 : decode cX5_findWideShifts 5 = .ok (.iconst 0, 1) := by decide +kernel
theorem dX5_findWideShifts_6 : decode cX5_findWideShifts 6 = .ok (.istore_n 1, 1) := by decide +kernel
theorem dX5_findWideShifts_7 : decode cX5_findWideShifts 7 = .ok (.iload_n 1, 1) := by decide +kernel
theorem dX5_findWideShifts_8 : decode cX5_findWideShifts 8 = .ok (.sipush 897, 3) := by decide +kernel
theorem dX5_findWideShifts_11 : decode cX5_findWideShifts 11 = .ok (.if_icmp .ge 41, 3) := by decide +kernel
theorem dX5_findWideShifts_14 : decode cX5_findWideShifts 14 = .ok (.aload_n 0, 1) := by decide +kernel
theorem dX5_findWideShifts_15 : decode cX5_findWideShifts 15 = .ok (.getfield 21, 3) := by decide +kernel
theorem dX5_findWideShifts_18 : decode cX5_findWideShifts 18 = .ok (.iload_n 1, 1) := by decide +kernel
theorem dX5_findWideShifts_19 : decode cX5_findWideShifts 19 = .ok (.iaload, 1) := by decide +kernel
theorem dX5_findWideShifts_20 : decode cX5_findWideShifts 20 = .ok (.invokestatic 105, 3) := by decide +kernel
theorem dX5_findWideShifts_23 : decode cX5_findWideShifts 23 = .ok (.ifCond .eq 23, 3) := by decide +kernel
theorem dX5_findWideShifts_26 : decode cX5_findWideShifts 26 = .ok (.aload_n 0, 1) := by decide +kernel
theorem dX5_findWideShifts_27 : decode cX5_findWideShifts 27 = .ok (.getfield 24, 3) := by decide +kernel
theorem dX5_findWideShifts_30 : decode cX5_findWideShifts 30 = .ok (.aload_n 0, 1) := by decide +kernel
theorem dX5_findWideShifts_31 : decode cX5_findWideShifts 31 = .ok (.getfield 102, 3) := by decide +kernel
theorem dX5_findWideShifts_34 : decode cX5_findWideShifts 34 = .ok (.iload_n 1, 1) := by decide +kernel
theorem dX5_findWideShifts_35 : decode cX5_findWideShifts 35 = .ok (.iastore, 1) := by decide +kernel
theorem dX5_findWideShifts_36 : decode cX5_findWideShifts 36 = .ok (.aload_n 0, 1) := by decide +kernel
theorem dX5_findWideShifts_37 : decode cX5_findWideShifts 37 = .ok (.dup, 1) := by decide +kernel
theorem dX5_findWideShifts_38 : decode cX5_findWideShifts 38 = .ok (.getfield 102, 3) := by decide +kernel
theorem dX5_findWideShifts_41 : decode cX5_findWideShifts 41 = .ok (.iconst 1, 1) := by decide +kernel
theorem dX5_findWideShifts_42 : decode cX5_findWideShifts 42 = .ok (.iadd, 1) := by decide +kernel
theorem dX5_findWideShifts_43 : decode cX5_findWideShifts 43 = .ok (.putfield 102, 3) := by decide +kernel
theorem dX5_findWideShifts_46 : decode cX5_findWideShifts 46 = .ok (.iinc 1 1, 3) := by decide +kernel
theorem dX5_findWideShifts_49 : decode cX5_findWideShifts 49 = .ok (.goto (-42), 3) := by decide +kernel
theorem dX5_findWideShifts_52 : decode cX5_findWideShifts 52 = .ok (.return_, 1) := by decide +kernel
theorem dX5_findShapes_0 : decode cX5_findShapes 0 = .ok (.aload_n 0, 1) := by decide +kernel
theorem dX5_findShapes_1 : decode cX5_findShapes 1 = .ok (.iconst 0, 1) := by decide +kernel
theorem dX5_findShapes_2 : decode cX5_findShapes 2 = .ok (.putfield 109, 3) := by decide +kernel
theorem dX5_findShapes_5 : decode cX5_findShapes 5 = .ok (.iconst 0, 1) := by decide +kernel
theorem dX5_findShapes_6 : decode cX5_findShapes 6 = .ok (.istore_n 1, 1) := by decide +kernel
theorem dX5_findShapes_7 : decode cX5_findShapes 7 = .ok (.iload_n 1, 1) := by decide +kernel
theorem dX5_findShapes_8 : decode cX5_findShapes 8 = .ok (.aload_n 0, 1) := by decide +kernel
theorem dX5_findShapes_9 : decode cX5_findShapes 9 = .ok (.getfield 102, 3) := by decide +kernel
theorem dX5_findShapes_12 : decode cX5_findShapes 12 = .ok (.if_icmp .ge 79, 3) := by decide +kernel
theorem dX5_findShapes_15 : decode cX5_findShapes 15 = .ok (.aload_n 0, 1) := by decide +kernel
theorem dX5_findShapes_16 : decode cX5_findShapes 16 = .ok (.getfield 24, 3) := by decide +kernel
theorem dX5_findShapes_19 : decode cX5_findShapes 19 = .ok (.iload_n 1, 1) := by decide +kernel
theorem dX5_findShapes_20 : decode cX5_findShapes 20 = .ok (.iaload, 1) := by decide +kernel
theorem dX5_findShapes_21 : decode cX5_findShapes 21 = .ok (.istore_n 2, 1) := by decide +kernel
theorem dX5_findShapes_22 : decode cX5_findShapes 22 = .ok (.iload_n 2, 1) := by decide +kernel
theorem dX5_findShapes_23 : decode cX5_findShapes 23 = .ok (.sipush 448, 3) := by decide +kernel
theorem dX5_findShapes_26 : decode cX5_findShapes 26 = .ok (.if_icmp .le 59, 3) := by decide +kernel
theorem dX5_findShapes_29 : decode cX5_findShapes 29 = .ok (.aload_n 0, 1) := by decide +kernel
theorem dX5_findShapes_30 : decode cX5_findShapes 30 = .ok (.getfield 109, 3) := by decide +kernel
theorem dX5_findShapes_33 : decode cX5_findShapes 33 = .ok (.sipush 448, 3) := by decide +kernel
theorem dX5_findShapes_36 : decode cX5_findShapes 36 = .ok (.if_icmp .ge 49, 3) := by decide +kernel
theorem dX5_findShapes_39 : decode cX5_findShapes 39 = .ok (.aload_n 0, 1) := by decide +kernel
theorem dX5_findShapes_40 : decode cX5_findShapes 40 = .ok (.aload_n 0, 1) := by decide +kernel
theorem dX5_findShapes_41 : decode cX5_findShapes 41 = .ok (.getfield 21, 3) := by decide +kernel
theorem dX5_findShapes_44 : decode cX5_findShapes 44 = .ok (.iload_n 2, 1) := by decide +kernel
theorem dX5_findShapes_45 : decode cX5_findShapes 45 = .ok (.iaload, 1) := by decide +kernel
theorem dX5_findShapes_46 : decode cX5_findShapes 46 = .ok (.invokevirtual 112, 3) := by decide +kernel
theorem dX5_findShapes_49 : decode cX5_findShapes 49 = .ok (.ifCond .ne 36, 3) := by decide +kernel
theorem dX5_findShapes_52 : decode cX5_findShapes 52 = .ok (.aload_n 0, 1) := by decide +kernel
theorem dX5_findShapes_53 : decode cX5_findShapes 53 = .ok (.getfield 27, 3) := by decide +kernel
theorem dX5_findShapes_56 : decode cX5_findShapes 56 = .ok (.aload_n 0, 1) := by decide +kernel
theorem dX5_findShapes_57 : decode cX5_findShapes 57 = .ok (.getfield 109, 3) := by decide +kernel
theorem dX5_findShapes_60 : decode cX5_findShapes 60 = .ok (.aload_n 0, 1) := by decide +kernel
theorem dX5_findShapes_61 : decode cX5_findShapes 61 = .ok (.getfield 21, 3) := by decide +kernel
theorem dX5_findShapes_64 : decode cX5_findShapes 64 = .ok (.iload_n 2, 1) := by decide +kernel
theorem dX5_findShapes_65 : decode cX5_findShapes 65 = .ok (.iaload, 1) := by decide +kernel
theorem dX5_findShapes_66 : decode cX5_findShapes 66 = .ok (.iastore, 1) := by decide +kernel
theorem dX5_findShapes_67 : decode cX5_findShapes 67 = .ok (.aload_n 0, 1) := by decide +kernel
theorem dX5_findShapes_68 : decode cX5_findShapes 68 = .ok (.aload_n 0, 1) := by decide +kernel
theorem dX5_findShapes_69 : decode cX5_findShapes 69 = .ok (.getfield 109, 3) := by decide +kernel
theorem dX5_findShapes_72 : decode cX5_findShapes 72 = .ok (.invokevirtual 115, 3) := by decide +kernel
theorem dX5_findShapes_75 : decode cX5_findShapes 75 = .ok (.aload_n 0, 1) := by decide +kernel
theorem dX5_findShapes_76 : decode cX5_findShapes 76 = .ok (.dup, 1) := by decide +kernel
theorem dX5_findShapes_77 : decode cX5_findShapes 77 = .ok (.getfield 109, 3) := by decide +kernel
theorem dX5_findShapes_80 : decode cX5_findShapes 80 = .ok (.iconst 1, 1) := by decide +kernel
theorem dX5_findShapes_81 : decode cX5_findShapes 81 = .ok (.iadd, 1) := by decide +kernel
theorem dX5_findShapes_82 : decode cX5_findShapes 82 = .ok (.putfield 109, 3) := by decide +kernel
theorem dX5_findShapes_85 : decode cX5_findShapes 85 = .ok (.iinc 1 1, 3) := by decide +kernel
theorem dX5_findShapes_88 : decode cX5_findShapes 88 = .ok (.goto (-81), 3) := by decide +kernel
theorem dX5_findShapes_91 : decode cX5_findShapes 91 = .ok (.return_, 1) := by decide +kernel
theorem dX5_isShape_0 : decode cX5_isShape 0 = .ok (.iconst 0, 1) := by decide +kernel
theorem dX5_isShape_1 : decode cX5_isShape 1 = .ok (.istore_n 2, 1) := by decide +kernel
theorem dX5_isShape_2 : decode cX5_isShape 2 = .ok (.iload_n 2, 1) := by decide +kernel
theorem dX5_isShape_3 : decode cX5_isShape 3 = .ok (.aload_n 0, 1) := by decide +kernel
theorem dX5_isShape_4 : decode cX5_isShape 4 = .ok (.getfield 109, 3) := by decide +kernel
theorem dX5_isShape_7 : decode cX5_isShape 7 = .ok (.if_icmp .ge 21, 3) := by decide +kernel
theorem dX5_isShape_10 : decode cX5_isShape 10 = .ok (.aload_n 0, 1) := by decide +kernel
theorem dX5_isShape_11 : decode cX5_isShape 11 = .ok (.getfield 27, 3) := by decide +kernel
theorem dX5_isShape_14 : decode cX5_isShape 14 = .ok (.iload_n 2, 1) := by decide +kernel
theorem dX5_isShape_15 : decode cX5_isShape 15 = .ok (.iaload, 1) := by decide +kernel
theorem dX5_isShape_16 : decode cX5_isShape 16 = .ok (.iload_n 1, 1) := by decide +kernel
theorem dX5_isShape_17 : decode cX5_isShape 17 = .ok (.if_icmp .ne 5, 3) := by decide +kernel
theorem dX5_isShape_20 : decode cX5_isShape 20 = .ok (.iconst 1, 1) := by decide +kernel
theorem dX5_isShape_21 : decode cX5_isShape 21 = .ok (.ireturn, 1) := by decide +kernel
theorem dX5_isShape_22 : decode cX5_isShape 22 = .ok (.iinc 2 1, 3) := by decide +kernel
theorem dX5_isShape_25 : decode cX5_isShape 25 = .ok (.goto (-23), 3) := by decide +kernel
theorem dX5_isShape_28 : decode cX5_isShape 28 = .ok (.iconst 0, 1) := by decide +kernel
theorem dX5_isShape_29 : decode cX5_isShape 29 = .ok (.ireturn, 1) := by decide +kernel
theorem dX5_measureShape_0 : decode cX5_measureShape 0 = .ok (.aload_n 0, 1) := by decide +kernel
theorem dX5_measureShape_1 : decode cX5_measureShape 1 = .ok (.getfield 27, 3) := by decide +kernel
theorem dX5_measureShape_4 : decode cX5_measureShape 4 = .ok (.iload_n 1, 1) := by decide +kernel
theorem dX5_measureShape_5 : decode cX5_measureShape 5 = .ok (.iaload, 1) := by decide +kernel
theorem dX5_measureShape_6 : decode cX5_measureShape 6 = .ok (.istore_n 2, 1) := by decide +kernel
theorem dX5_measureShape_7 : decode cX5_measureShape 7 = .ok (.iconst 0, 1) := by decide +kernel
theorem dX5_measureShape_8 : decode cX5_measureShape 8 = .ok (.istore_n 3, 1) := by decide +kernel
theorem dX5_measureShape_9 : decode cX5_measureShape 9 = .ok (.iconst 0, 1) := by decide +kernel
theorem dX5_measureShape_10 : decode cX5_measureShape 10 = .ok (.istore 4, 2) := by decide +kernel
theorem dX5_measureShape_12 : decode cX5_measureShape 12 = .ok (.iconst 0, 1) := by decide +kernel
theorem dX5_measureShape_13 : decode cX5_measureShape 13 = .ok (.istore 5, 2) := by decide +kernel
theorem dX5_measureShape_15 : decode cX5_measureShape 15 = .ok (.iload 5, 2) := by decide +kernel
theorem dX5_measureShape_17 : decode cX5_measureShape 17 = .ok (.aload_n 0, 1) := by decide +kernel
theorem dX5_measureShape_18 : decode cX5_measureShape 18 = .ok (.getfield 102, 3) := by decide +kernel
theorem dX5_measureShape_21 : decode cX5_measureShape 21 = .ok (.if_icmp .ge 99, 3) := by decide +kernel
theorem dX5_measureShape_24 : decode cX5_measureShape 24 = .ok (.aload_n 0, 1) := by decide +kernel
theorem dX5_measureShape_25 : decode cX5_measureShape 25 = .ok (.getfield 24, 3) := by decide +kernel
theorem dX5_measureShape_28 : decode cX5_measureShape 28 = .ok (.iload 5, 2) := by decide +kernel
theorem dX5_measureShape_30 : decode cX5_measureShape 30 = .ok (.iaload, 1) := by decide +kernel
theorem dX5_measureShape_31 : decode cX5_measureShape 31 = .ok (.istore 6, 2) := by decide +kernel
theorem dX5_measureShape_33 : decode cX5_measureShape 33 = .ok (.aload_n 0, 1) := by decide +kernel
theorem dX5_measureShape_34 : decode cX5_measureShape 34 = .ok (.getfield 21, 3) := by decide +kernel
theorem dX5_measureShape_37 : decode cX5_measureShape 37 = .ok (.iload 6, 2) := by decide +kernel
theorem dX5_measureShape_39 : decode cX5_measureShape 39 = .ok (.iaload, 1) := by decide +kernel
theorem dX5_measureShape_40 : decode cX5_measureShape 40 = .ok (.iload_n 2, 1) := by decide +kernel
theorem dX5_measureShape_41 : decode cX5_measureShape 41 = .ok (.iand, 1) := by decide +kernel
theorem dX5_measureShape_42 : decode cX5_measureShape 42 = .ok (.iload_n 2, 1) := by decide +kernel
theorem dX5_measureShape_43 : decode cX5_measureShape 43 = .ok (.if_icmp .eq 6, 3) := by decide +kernel
theorem dX5_measureShape_46 : decode cX5_measureShape 46 = .ok (.goto 68, 3) := by decide +kernel
theorem dX5_measureShape_49 : decode cX5_measureShape 49 = .ok (.iinc 3 1, 3) := by decide +kernel
theorem dX5_measureShape_52 : decode cX5_measureShape 52 = .ok (.iconst 0, 1) := by decide +kernel
theorem dX5_measureShape_53 : decode cX5_measureShape 53 = .ok (.istore 7, 2) := by decide +kernel
theorem dX5_measureShape_55 : decode cX5_measureShape 55 = .ok (.iload 7, 2) := by decide +kernel
theorem dX5_measureShape_57 : decode cX5_measureShape 57 = .ok (.bipush 14, 2) := by decide +kernel
theorem dX5_measureShape_59 : decode cX5_measureShape 59 = .ok (.if_icmp .ge 55, 3) := by decide +kernel
theorem dX5_measureShape_62 : decode cX5_measureShape 62 = .ok (.iload_n 2, 1) := by decide +kernel
theorem dX5_measureShape_63 : decode cX5_measureShape 63 = .ok (.iload 7, 2) := by decide +kernel
theorem dX5_measureShape_65 : decode cX5_measureShape 65 = .ok (.invokestatic 66, 3) := by decide +kernel
theorem dX5_measureShape_68 : decode cX5_measureShape 68 = .ok (.ifCond .eq 22, 3) := by decide +kernel
theorem dX5_measureShape_71 : decode cX5_measureShape 71 = .ok (.aload_n 0, 1) := by decide +kernel
theorem dX5_measureShape_72 : decode cX5_measureShape 72 = .ok (.iload 7, 2) := by decide +kernel
theorem dX5_measureShape_74 : decode cX5_measureShape 74 = .ok (.iload 6, 2) := by decide +kernel
theorem dX5_measureShape_76 : decode cX5_measureShape 76 = .ok (.invokestatic 119, 3) := by decide +kernel
theorem dX5_measureShape_79 : decode cX5_measureShape 79 = .ok (.iload 6, 2) := by decide +kernel
theorem dX5_measureShape_81 : decode cX5_measureShape 81 = .ok (.invokestatic 122, 3) := by decide +kernel
theorem dX5_measureShape_84 : decode cX5_measureShape 84 = .ok (.invokevirtual 125, 3) := by decide +kernel
theorem dX5_measureShape_87 : decode cX5_measureShape 87 = .ok (.goto 5, 3) := by decide +kernel
theorem dX5_measureShape_90 : decode cX5_measureShape 90 = .ok (.bipush (-4), 2) := by decide +kernel
theorem dX5_measureShape_92 : decode cX5_measureShape 92 = .ok (.istore 8, 2) := by decide +kernel
theorem dX5_measureShape_94 : decode cX5_measureShape 94 = .ok (.iload 8, 2) := by decide +kernel
theorem dX5_measureShape_96 : decode cX5_measureShape 96 = .ok (.ifCond .lt 12, 3) := by decide +kernel
theorem dX5_measureShape_99 : decode cX5_measureShape 99 = .ok (.iload 4, 2) := by decide +kernel
theorem dX5_measureShape_101 : decode cX5_measureShape 101 = .ok (.iconst 1, 1) := by decide +kernel
theorem dX5_measureShape_102 : decode cX5_measureShape 102 = .ok (.iload 8, 2) := by decide +kernel
theorem dX5_measureShape_104 : decode cX5_measureShape 104 = .ok (.ishl, 1) := by decide +kernel
theorem dX5_measureShape_105 : decode cX5_measureShape 105 = .ok (.ior, 1) := by decide +kernel
theorem dX5_measureShape_106 : decode cX5_measureShape 106 = .ok (.istore 4, 2) := by decide +kernel
theorem dX5_measureShape_108 : decode cX5_measureShape 108 = .ok (.iinc 7 1, 3) := by decide +kernel
theorem dX5_measureShape_111 : decode cX5_measureShape 111 = .ok (.goto (-56), 3) := by decide +kernel
theorem dX5_measureShape_114 : decode cX5_measureShape 114 = .ok (.iinc 5 1, 3) := by decide +kernel
theorem dX5_measureShape_117 : decode cX5_measureShape 117 = .ok (.goto (-102), 3) := by decide +kernel
theorem dX5_measureShape_120 : decode cX5_measureShape 120 = .ok (.aload_n 0, 1) := by decide +kernel
theorem dX5_measureShape_121 : decode cX5_measureShape 121 = .ok (.getfield 30, 3) := by decide +kernel
theorem dX5_measureShape_124 : decode cX5_measureShape 124 = .ok (.iload_n 1, 1) := by decide +kernel
theorem dX5_measureShape_125 : decode cX5_measureShape 125 = .ok (.iload_n 3, 1) := by decide +kernel
theorem dX5_measureShape_126 : decode cX5_measureShape 126 = .ok (.iastore, 1) := by decide +kernel
theorem dX5_measureShape_127 : decode cX5_measureShape 127 = .ok (.aload_n 0, 1) := by decide +kernel
theorem dX5_measureShape_128 : decode cX5_measureShape 128 = .ok (.getfield 33, 3) := by decide +kernel
theorem dX5_measureShape_131 : decode cX5_measureShape 131 = .ok (.iload_n 1, 1) := by decide +kernel
theorem dX5_measureShape_132 : decode cX5_measureShape 132 = .ok (.iload 4, 2) := by decide +kernel
theorem dX5_measureShape_134 : decode cX5_measureShape 134 = .ok (.iastore, 1) := by decide +kernel
theorem dX5_measureShape_135 : decode cX5_measureShape 135 = .ok (.return_, 1) := by decide +kernel
theorem dX5_met_0 : decode cX5_met 0 = .ok (.iload_n 1, 1) := by decide +kernel
theorem dX5_met_1 : decode cX5_met 1 = .ok (.ifCond .lt 9, 3) := by decide +kernel
theorem dX5_met_4 : decode cX5_met 4 = .ok (.iload_n 1, 1) := by decide +kernel
theorem dX5_met_5 : decode cX5_met 5 = .ok (.bipush 14, 2) := by decide +kernel
theorem dX5_met_7 : decode cX5_met 7 = .ok (.if_icmp .lt 6, 3) := by decide +kernel
theorem dX5_met_10 : decode cX5_met 10 = .ok (.bipush (-4), 2) := by decide +kernel
theorem dX5_met_12 : decode cX5_met 12 = .ok (.ireturn, 1) := by decide +kernel
theorem dX5_met_13 : decode cX5_met 13 = .ok (.aload_n 0, 1) := by decide +kernel
theorem dX5_met_14 : decode cX5_met 14 = .ok (.getfield 9, 3) := by decide +kernel
theorem dX5_met_17 : decode cX5_met 17 = .ok (.iload_n 1, 1) := by decide +kernel
theorem dX5_met_18 : decode cX5_met 18 = .ok (.iaload, 1) := by decide +kernel
theorem dX5_met_19 : decode cX5_met 19 = .ok (.iload_n 2, 1) := by decide +kernel
theorem dX5_met_20 : decode cX5_met 20 = .ok (.iadd, 1) := by decide +kernel
theorem dX5_met_21 : decode cX5_met 21 = .ok (.istore 4, 2) := by decide +kernel
theorem dX5_met_23 : decode cX5_met 23 = .ok (.aload_n 0, 1) := by decide +kernel
theorem dX5_met_24 : decode cX5_met 24 = .ok (.getfield 15, 3) := by decide +kernel
theorem dX5_met_27 : decode cX5_met 27 = .ok (.iload_n 1, 1) := by decide +kernel
theorem dX5_met_28 : decode cX5_met 28 = .ok (.iaload, 1) := by decide +kernel
theorem dX5_met_29 : decode cX5_met 29 = .ok (.iload_n 3, 1) := by decide +kernel
theorem dX5_met_30 : decode cX5_met 30 = .ok (.iadd, 1) := by decide +kernel
theorem dX5_met_31 : decode cX5_met 31 = .ok (.istore 5, 2) := by decide +kernel
theorem dX5_met_33 : decode cX5_met 33 = .ok (.aload_n 0, 1) := by decide +kernel
theorem dX5_met_34 : decode cX5_met 34 = .ok (.getfield 42, 3) := by decide +kernel
theorem dX5_met_37 : decode cX5_met 37 = .ok (.iconst 1, 1) := by decide +kernel
theorem dX5_met_38 : decode cX5_met 38 = .ok (.if_icmp .ne 17, 3) := by decide +kernel
theorem dX5_met_41 : decode cX5_met 41 = .ok (.aload_n 0, 1) := by decide +kernel
theorem dX5_met_42 : decode cX5_met 42 = .ok (.iload 4, 2) := by decide +kernel
theorem dX5_met_44 : decode cX5_met 44 = .ok (.iload 5, 2) := by decide +kernel
theorem dX5_met_46 : decode cX5_met 46 = .ok (.bipush 12, 2) := by decide +kernel
theorem dX5_met_48 : decode cX5_met 48 = .ok (.invokestatic 87, 3) := by decide +kernel
theorem dX5_met_51 : decode cX5_met 51 = .ok (.invokevirtual 129, 3) := by decide +kernel
theorem dX5_met_54 : decode cX5_met 54 = .ok (.ireturn, 1) := by decide +kernel
theorem dX5_met_55 : decode cX5_met 55 = .ok (.aload_n 0, 1) := by decide +kernel
theorem dX5_met_56 : decode cX5_met 56 = .ok (.iload 4, 2) := by decide +kernel
theorem dX5_met_58 : decode cX5_met 58 = .ok (.iload 5, 2) := by decide +kernel
theorem dX5_met_60 : decode cX5_met 60 = .ok (.invokevirtual 129, 3) := by decide +kernel
theorem dX5_met_63 : decode cX5_met 63 = .ok (.istore 6, 2) := by decide +kernel
theorem dX5_met_65 : decode cX5_met 65 = .ok (.iload 6, 2) := by decide +kernel
theorem dX5_met_67 : decode cX5_met 67 = .ok (.ifCond .ge 40, 3) := by decide +kernel
theorem dX5_met_70 : decode cX5_met 70 = .ok (.aload_n 0, 1) := by decide +kernel
theorem dX5_met_71 : decode cX5_met 71 = .ok (.getfield 42, 3) := by decide +kernel
theorem dX5_met_74 : decode cX5_met 74 = .ok (.iconst 2, 1) := by decide +kernel
theorem dX5_met_75 : decode cX5_met 75 = .ok (.if_icmp .ne 32, 3) := by decide +kernel
theorem dX5_met_78 : decode cX5_met 78 = .ok (.aload_n 0, 1) := by decide +kernel
theorem dX5_met_79 : decode cX5_met 79 = .ok (.iload 4, 2) := by decide +kernel
theorem dX5_met_81 : decode cX5_met 81 = .ok (.iload 5, 2) := by decide +kernel
theorem dX5_met_83 : decode cX5_met 83 = .ok (.iconst 1, 1) := by decide +kernel
theorem dX5_met_84 : decode cX5_met 84 = .ok (.isub, 1) := by decide +kernel
theorem dX5_met_85 : decode cX5_met 85 = .ok (.invokevirtual 129, 3) := by decide +kernel
theorem dX5_met_88 : decode cX5_met 88 = .ok (.istore 6, 2) := by decide +kernel
theorem dX5_met_90 : decode cX5_met 90 = .ok (.iload 6, 2) := by decide +kernel
theorem dX5_met_92 : decode cX5_met 92 = .ok (.ifCond .ge 15, 3) := by decide +kernel
theorem dX5_met_95 : decode cX5_met 95 = .ok (.aload_n 0, 1) := by decide +kernel
theorem dX5_met_96 : decode cX5_met 96 = .ok (.iload 4, 2) := by decide +kernel
theorem dX5_met_98 : decode cX5_met 98 = .ok (.iload 5, 2) := by decide +kernel
theorem dX5_met_100 : decode cX5_met 100 = .ok (.iconst 1, 1) := by decide +kernel
theorem dX5_met_101 : decode cX5_met 101 = .ok (.iadd, 1) := by decide +kernel
theorem dX5_met_102 : decode cX5_met 102 = .ok (.invokevirtual 129, 3) := by decide +kernel
theorem dX5_met_105 : decode cX5_met 105 = .ok (.istore 6, 2) := by decide +kernel
theorem dX5_met_107 : decode cX5_met 107 = .ok (.iload 6, 2) := by decide +kernel
theorem dX5_met_109 : decode cX5_met 109 = .ok (.ireturn, 1) := by decide +kernel
theorem dX5_numberAt_0 : decode cX5_numberAt 0 = .ok (.iload_n 1, 1) := by decide +kernel
theorem dX5_numberAt_1 : decode cX5_numberAt 1 = .ok (.ifCond .lt 19, 3) := by decide +kernel
theorem dX5_numberAt_4 : decode cX5_numberAt 4 = .ok (.iload_n 1, 1) := by decide +kernel
theorem dX5_numberAt_5 : decode cX5_numberAt 5 = .ok (.bipush 20, 2) := by decide +kernel
theorem dX5_numberAt_7 : decode cX5_numberAt 7 = .ok (.if_icmp .ge 13, 3) := by decide +kernel
theorem dX5_numberAt_10 : decode cX5_numberAt 10 = .ok (.iload_n 2, 1) := by decide +kernel
theorem dX5_numberAt_11 : decode cX5_numberAt 11 = .ok (.ifCond .lt 9, 3) := by decide +kernel
theorem dX5_numberAt_14 : decode cX5_numberAt 14 = .ok (.iload_n 2, 1) := by decide +kernel
theorem dX5_numberAt_15 : decode cX5_numberAt 15 = .ok (.bipush 12, 2) := by decide +kernel
theorem dX5_numberAt_17 : decode cX5_numberAt 17 = .ok (.if_icmp .lt 6, 3) := by decide +kernel
theorem dX5_numberAt_20 : decode cX5_numberAt 20 = .ok (.bipush (-4), 2) := by decide +kernel
theorem dX5_numberAt_22 : decode cX5_numberAt 22 = .ok (.ireturn, 1) := by decide +kernel
theorem dX5_numberAt_23 : decode cX5_numberAt 23 = .ok (.aload_n 0, 1) := by decide +kernel
theorem dX5_numberAt_24 : decode cX5_numberAt 24 = .ok (.getfield 18, 3) := by decide +kernel
theorem dX5_numberAt_27 : decode cX5_numberAt 27 = .ok (.iload_n 1, 1) := by decide +kernel
theorem dX5_numberAt_28 : decode cX5_numberAt 28 = .ok (.bipush 12, 2) := by decide +kernel
theorem dX5_numberAt_30 : decode cX5_numberAt 30 = .ok (.imul, 1) := by decide +kernel
theorem dX5_numberAt_31 : decode cX5_numberAt 31 = .ok (.iload_n 2, 1) := by decide +kernel
theorem dX5_numberAt_32 : decode cX5_numberAt 32 = .ok (.iadd, 1) := by decide +kernel
theorem dX5_numberAt_33 : decode cX5_numberAt 33 = .ok (.iaload, 1) := by decide +kernel
theorem dX5_numberAt_34 : decode cX5_numberAt 34 = .ok (.ireturn, 1) := by decide +kernel
theorem dX5_largestOf_0 : decode cX5_largestOf 0 = .ok (.iload_n 1, 1) := by decide +kernel
theorem dX5_largestOf_1 : decode cX5_largestOf 1 = .ok (.iload_n 2, 1) := by decide +kernel
theorem dX5_largestOf_2 : decode cX5_largestOf 2 = .ok (.invokestatic 96, 3) := by decide +kernel
theorem dX5_largestOf_5 : decode cX5_largestOf 5 = .ok (.ifCond .eq 16, 3) := by decide +kernel
theorem dX5_largestOf_8 : decode cX5_largestOf 8 = .ok (.aload_n 0, 1) := by decide +kernel
theorem dX5_largestOf_9 : decode cX5_largestOf 9 = .ok (.getfield 21, 3) := by decide +kernel
theorem dX5_largestOf_12 : decode cX5_largestOf 12 = .ok (.iload_n 1, 1) := by decide +kernel
theorem dX5_largestOf_13 : decode cX5_largestOf 13 = .ok (.iload_n 2, 1) := by decide +kernel
theorem dX5_largestOf_14 : decode cX5_largestOf 14 = .ok (.invokestatic 99, 3) := by decide +kernel
theorem dX5_largestOf_17 : decode cX5_largestOf 17 = .ok (.iaload, 1) := by decide +kernel
theorem dX5_largestOf_18 : decode cX5_largestOf 18 = .ok (.goto 4, 3) := by decide +kernel
theorem dX5_largestOf_21 : decode cX5_largestOf 21 = .ok (.iconst 0, 1) := by decide +kernel
theorem dX5_largestOf_22 : decode cX5_largestOf 22 = .ok (.ireturn, 1) := by decide +kernel
theorem dX5_placesOf_0 : decode cX5_placesOf 0 = .ok (.iconst 0, 1) := by decide +kernel
theorem dX5_placesOf_1 : decode cX5_placesOf 1 = .ok (.istore_n 2, 1) := by decide +kernel
theorem dX5_placesOf_2 : decode cX5_placesOf 2 = .ok (.iconst 0, 1) := by decide +kernel
theorem dX5_placesOf_3 : decode cX5_placesOf 3 = .ok (.istore_n 3, 1) := by decide +kernel
theorem dX5_placesOf_4 : decode cX5_placesOf 4 = .ok (.iload_n 3, 1) := by decide +kernel
theorem dX5_placesOf_5 : decode cX5_placesOf 5 = .ok (.sipush 897, 3) := by decide +kernel
theorem dX5_placesOf_8 : decode cX5_placesOf 8 = .ok (.if_icmp .ge 24, 3) := by decide +kernel
theorem dX5_placesOf_11 : decode cX5_placesOf 11 = .ok (.aload_n 0, 1) := by decide +kernel
theorem dX5_placesOf_12 : decode cX5_placesOf 12 = .ok (.getfield 21, 3) := by decide +kernel
theorem dX5_placesOf_15 : decode cX5_placesOf 15 = .ok (.iload_n 3, 1) := by decide +kernel
theorem dX5_placesOf_16 : decode cX5_placesOf 16 = .ok (.iaload, 1) := by decide +kernel
theorem dX5_placesOf_17 : decode cX5_placesOf 17 = .ok (.iload_n 1, 1) := by decide +kernel
theorem dX5_placesOf_18 : decode cX5_placesOf 18 = .ok (.iand, 1) := by decide +kernel
theorem dX5_placesOf_19 : decode cX5_placesOf 19 = .ok (.iload_n 1, 1) := by decide +kernel
theorem dX5_placesOf_20 : decode cX5_placesOf 20 = .ok (.if_icmp .ne 6, 3) := by decide +kernel
theorem dX5_placesOf_23 : decode cX5_placesOf 23 = .ok (.iinc 2 1, 3) := by decide +kernel
theorem dX5_placesOf_26 : decode cX5_placesOf 26 = .ok (.iinc 3 1, 3) := by decide +kernel
theorem dX5_placesOf_29 : decode cX5_placesOf 29 = .ok (.goto (-25), 3) := by decide +kernel
theorem dX5_placesOf_32 : decode cX5_placesOf 32 = .ok (.iload_n 2, 1) := by decide +kernel
theorem dX5_placesOf_33 : decode cX5_placesOf 33 = .ok (.ireturn, 1) := by decide +kernel
theorem dX5_placeOf_0 : decode cX5_placeOf 0 = .ok (.iconst 0, 1) := by decide +kernel
theorem dX5_placeOf_1 : decode cX5_placeOf 1 = .ok (.istore_n 3, 1) := by decide +kernel
theorem dX5_placeOf_2 : decode cX5_placeOf 2 = .ok (.iconst 0, 1) := by decide +kernel
theorem dX5_placeOf_3 : decode cX5_placeOf 3 = .ok (.istore 4, 2) := by decide +kernel
theorem dX5_placeOf_5 : decode cX5_placeOf 5 = .ok (.iload 4, 2) := by decide +kernel
theorem dX5_placeOf_7 : decode cX5_placeOf 7 = .ok (.sipush 897, 3) := by decide +kernel
theorem dX5_placeOf_10 : decode cX5_placeOf 10 = .ok (.if_icmp .ge 51, 3) := by decide +kernel
theorem dX5_placeOf_13 : decode cX5_placeOf 13 = .ok (.aload_n 0, 1) := by decide +kernel
theorem dX5_placeOf_14 : decode cX5_placeOf 14 = .ok (.getfield 21, 3) := by decide +kernel
theorem dX5_placeOf_17 : decode cX5_placeOf 17 = .ok (.iload 4, 2) := by decide +kernel
theorem dX5_placeOf_19 : decode cX5_placeOf 19 = .ok (.iaload, 1) := by decide +kernel
theorem dX5_placeOf_20 : decode cX5_placeOf 20 = .ok (.iload_n 1, 1) := by decide +kernel
theorem dX5_placeOf_21 : decode cX5_placeOf 21 = .ok (.iand, 1) := by decide +kernel
theorem dX5_placeOf_22 : decode cX5_placeOf 22 = .ok (.iload_n 1, 1) := by decide +kernel
theorem dX5_placeOf_23 : decode cX5_placeOf 23 = .ok (.if_icmp .ne 32, 3) := by decide +kernel
theorem dX5_placeOf_26 : decode cX5_placeOf 26 = .ok (.iload_n 3, 1) := by decide +kernel
theorem dX5_placeOf_27 : decode cX5_placeOf 27 = .ok (.iload_n 2, 1) := by decide +kernel
theorem dX5_placeOf_28 : decode cX5_placeOf 28 = .ok (.if_icmp .ne 24, 3) := by decide +kernel
theorem dX5_placeOf_31 : decode cX5_placeOf 31 = .ok (.bipush 100, 2) := by decide +kernel
theorem dX5_placeOf_33 : decode cX5_placeOf 33 = .ok (.iload 4, 2) := by decide +kernel
theorem dX5_placeOf_35 : decode cX5_placeOf 35 = .ok (.invokestatic 119, 3) := by decide +kernel
theorem dX5_placeOf_38 : decode cX5_placeOf 38 = .ok (.bipush 50, 2) := by decide +kernel
theorem dX5_placeOf_40 : decode cX5_placeOf 40 = .ok (.iadd, 1) := by decide +kernel
theorem dX5_placeOf_41 : decode cX5_placeOf 41 = .ok (.imul, 1) := by decide +kernel
theorem dX5_placeOf_42 : decode cX5_placeOf 42 = .ok (.iload 4, 2) := by decide +kernel
theorem dX5_placeOf_44 : decode cX5_placeOf 44 = .ok (.invokestatic 122, 3) := by decide +kernel
theorem dX5_placeOf_47 : decode cX5_placeOf 47 = .ok (.iadd, 1) := by decide +kernel
theorem dX5_placeOf_48 : decode cX5_placeOf 48 = .ok (.bipush 50, 2) := by decide +kernel
theorem dX5_placeOf_50 : decode cX5_placeOf 50 = .ok (.iadd, 1) := by decide +kernel
theorem dX5_placeOf_51 : decode cX5_placeOf 51 = .ok (.ireturn, 1) := by decide +kernel
theorem dX5_placeOf_52 : decode cX5_placeOf 52 = .ok (.iinc 3 1, 3) := by decide +kernel
theorem dX5_placeOf_55 : decode cX5_placeOf 55 = .ok (.iinc 4 1, 3) := by decide +kernel
theorem dX5_placeOf_58 : decode cX5_placeOf 58 = .ok (.goto (-53), 3) := by decide +kernel
theorem dX5_placeOf_61 : decode cX5_placeOf 61 = .ok (.bipush (-4), 2) := by decide +kernel
theorem dX5_placeOf_63 : decode cX5_placeOf 63 = .ok (.ireturn, 1) := by decide +kernel
theorem dX5_gainOf_0 : decode cX5_gainOf 0 = .ok (.iload_n 1, 1) := by decide +kernel
theorem dX5_gainOf_1 : decode cX5_gainOf 1 = .ok (.ifCond .lt 11, 3) := by decide +kernel
theorem dX5_gainOf_4 : decode cX5_gainOf 4 = .ok (.iload_n 1, 1) := by decide +kernel
theorem dX5_gainOf_5 : decode cX5_gainOf 5 = .ok (.aload_n 0, 1) := by decide +kernel
theorem dX5_gainOf_6 : decode cX5_gainOf 6 = .ok (.getfield 109, 3) := by decide +kernel
theorem dX5_gainOf_9 : decode cX5_gainOf 9 = .ok (.if_icmp .lt 7, 3) := by decide +kernel
theorem dX5_gainOf_12 : decode cX5_gainOf 12 = .ok (.sipush (-10000), 3) := by decide +kernel
theorem dX5_gainOf_15 : decode cX5_gainOf 15 = .ok (.ireturn, 1) := by decide +kernel
theorem dX5_gainOf_16 : decode cX5_gainOf 16 = .ok (.aload_n 0, 1) := by decide +kernel
theorem dX5_gainOf_17 : decode cX5_gainOf 17 = .ok (.getfield 33, 3) := by decide +kernel
theorem dX5_gainOf_20 : decode cX5_gainOf 20 = .ok (.iload_n 1, 1) := by decide +kernel
theorem dX5_gainOf_21 : decode cX5_gainOf 21 = .ok (.iaload, 1) := by decide +kernel
theorem dX5_gainOf_22 : decode cX5_gainOf 22 = .ok (.invokestatic 132, 3) := by decide +kernel
theorem dX5_gainOf_25 : decode cX5_gainOf 25 = .ok (.aload_n 0, 1) := by decide +kernel
theorem dX5_gainOf_26 : decode cX5_gainOf 26 = .ok (.getfield 27, 3) := by decide +kernel
theorem dX5_gainOf_29 : decode cX5_gainOf 29 = .ok (.iload_n 1, 1) := by decide +kernel
theorem dX5_gainOf_30 : decode cX5_gainOf 30 = .ok (.iaload, 1) := by decide +kernel
theorem dX5_gainOf_31 : decode cX5_gainOf 31 = .ok (.invokestatic 132, 3) := by decide +kernel
theorem dX5_gainOf_34 : decode cX5_gainOf 34 = .ok (.isub, 1) := by decide +kernel
theorem dX5_gainOf_35 : decode cX5_gainOf 35 = .ok (.aload_n 0, 1) := by decide +kernel
theorem dX5_gainOf_36 : decode cX5_gainOf 36 = .ok (.getfield 30, 3) := by decide +kernel
theorem dX5_gainOf_39 : decode cX5_gainOf 39 = .ok (.iload_n 1, 1) := by decide +kernel
theorem dX5_gainOf_40 : decode cX5_gainOf 40 = .ok (.iaload, 1) := by decide +kernel
theorem dX5_gainOf_41 : decode cX5_gainOf 41 = .ok (.isub, 1) := by decide +kernel
theorem dX5_gainOf_42 : decode cX5_gainOf 42 = .ok (.iconst 1, 1) := by decide +kernel
theorem dX5_gainOf_43 : decode cX5_gainOf 43 = .ok (.iadd, 1) := by decide +kernel
theorem dX5_gainOf_44 : decode cX5_gainOf 44 = .ok (.ireturn, 1) := by decide +kernel
theorem dX5_bestShape_0 : decode cX5_bestShape 0 = .ok (.aload_n 0, 1) := by decide +kernel
theorem dX5_bestShape_1 : decode cX5_bestShape 1 = .ok (.getfield 109, 3) := by decide +kernel
theorem dX5_bestShape_4 : decode cX5_bestShape 4 = .ok (.ifCond .le 7, 3) := by decide +kernel
theorem dX5_bestShape_7 : decode cX5_bestShape 7 = .ok (.iconst 0, 1) := by decide +kernel
theorem dX5_bestShape_8 : decode cX5_bestShape 8 = .ok (.goto 5, 3) := by decide +kernel
theorem dX5_bestShape_11 : decode cX5_bestShape 11 = .ok (.bipush (-4), 2) := by decide +kernel
theorem dX5_bestShape_13 : decode cX5_bestShape 13 = .ok (.istore_n 1, 1) := by decide +kernel
theorem dX5_bestShape_14 : decode cX5_bestShape 14 = .ok (.iconst 1, 1) := by decide +kernel
theorem dX5_bestShape_15 : decode cX5_bestShape 15 = .ok (.istore_n 2, 1) := by decide +kernel
theorem dX5_bestShape_16 : decode cX5_bestShape 16 = .ok (.iload_n 2, 1) := by decide +kernel
theorem dX5_bestShape_17 : decode cX5_bestShape 17 = .ok (.aload_n 0, 1) := by decide +kernel
theorem dX5_bestShape_18 : decode cX5_bestShape 18 = .ok (.getfield 109, 3) := by decide +kernel
theorem dX5_bestShape_21 : decode cX5_bestShape 21 = .ok (.if_icmp .ge 20, 3) := by decide +kernel
theorem dX5_bestShape_24 : decode cX5_bestShape 24 = .ok (.aload_n 0, 1) := by decide +kernel
theorem dX5_bestShape_25 : decode cX5_bestShape 25 = .ok (.iload_n 2, 1) := by decide +kernel
theorem dX5_bestShape_26 : decode cX5_bestShape 26 = .ok (.iload_n 1, 1) := by decide +kernel
theorem dX5_bestShape_27 : decode cX5_bestShape 27 = .ok (.invokevirtual 137, 3) := by decide +kernel
theorem dX5_bestShape_30 : decode cX5_bestShape 30 = .ok (.ifCond .eq 5, 3) := by decide +kernel
theorem dX5_bestShape_33 : decode cX5_bestShape 33 = .ok (.iload_n 2, 1) := by decide +kernel
theorem dX5_bestShape_34 : decode cX5_bestShape 34 = .ok (.istore_n 1, 1) := by decide +kernel
theorem dX5_bestShape_35 : decode cX5_bestShape 35 = .ok (.iinc 2 1, 3) := by decide +kernel
theorem dX5_bestShape_38 : decode cX5_bestShape 38 = .ok (.goto (-22), 3) := by decide +kernel
theorem dX5_bestShape_41 : decode cX5_bestShape 41 = .ok (.iload_n 1, 1) := by decide +kernel
theorem dX5_bestShape_42 : decode cX5_bestShape 42 = .ok (.ireturn, 1) := by decide +kernel
theorem dX5_isBetter_0 : decode cX5_isBetter 0 = .ok (.aload_n 0, 1) := by decide +kernel
theorem dX5_isBetter_1 : decode cX5_isBetter 1 = .ok (.iload_n 1, 1) := by decide +kernel
theorem dX5_isBetter_2 : decode cX5_isBetter 2 = .ok (.invokevirtual 140, 3) := by decide +kernel
theorem dX5_isBetter_5 : decode cX5_isBetter 5 = .ok (.istore_n 3, 1) := by decide +kernel
theorem dX5_isBetter_6 : decode cX5_isBetter 6 = .ok (.aload_n 0, 1) := by decide +kernel
theorem dX5_isBetter_7 : decode cX5_isBetter 7 = .ok (.iload_n 2, 1) := by decide +kernel
theorem dX5_isBetter_8 : decode cX5_isBetter 8 = .ok (.invokevirtual 140, 3) := by decide +kernel
theorem dX5_isBetter_11 : decode cX5_isBetter 11 = .ok (.istore 4, 2) := by decide +kernel
theorem dX5_isBetter_13 : decode cX5_isBetter 13 = .ok (.iload_n 3, 1) := by decide +kernel
theorem dX5_isBetter_14 : decode cX5_isBetter 14 = .ok (.iload 4, 2) := by decide +kernel
theorem dX5_isBetter_16 : decode cX5_isBetter 16 = .ok (.if_icmp .eq 15, 3) := by decide +kernel
theorem dX5_isBetter_19 : decode cX5_isBetter 19 = .ok (.iload_n 3, 1) := by decide +kernel
theorem dX5_isBetter_20 : decode cX5_isBetter 20 = .ok (.iload 4, 2) := by decide +kernel
theorem dX5_isBetter_22 : decode cX5_isBetter 22 = .ok (.if_icmp .le 7, 3) := by decide +kernel
theorem dX5_isBetter_25 : decode cX5_isBetter 25 = .ok (.iconst 1, 1) := by decide +kernel
theorem dX5_isBetter_26 : decode cX5_isBetter 26 = .ok (.goto 4, 3) := by decide +kernel
theorem dX5_isBetter_29 : decode cX5_isBetter 29 = .ok (.iconst 0, 1) := by decide +kernel
theorem dX5_isBetter_30 : decode cX5_isBetter 30 = .ok (.ireturn, 1) := by decide +kernel
theorem dX5_isBetter_31 : decode cX5_isBetter 31 = .ok (.aload_n 0, 1) := by decide +kernel
theorem dX5_isBetter_32 : decode cX5_isBetter 32 = .ok (.getfield 33, 3) := by decide +kernel
theorem dX5_isBetter_35 : decode cX5_isBetter 35 = .ok (.iload_n 1, 1) := by decide +kernel
theorem dX5_isBetter_36 : decode cX5_isBetter 36 = .ok (.iaload, 1) := by decide +kernel
theorem dX5_isBetter_37 : decode cX5_isBetter 37 = .ok (.invokestatic 132, 3) := by decide +kernel
theorem dX5_isBetter_40 : decode cX5_isBetter 40 = .ok (.aload_n 0, 1) := by decide +kernel
theorem dX5_isBetter_41 : decode cX5_isBetter 41 = .ok (.getfield 33, 3) := by decide +kernel
theorem dX5_isBetter_44 : decode cX5_isBetter 44 = .ok (.iload_n 2, 1) := by decide +kernel
theorem dX5_isBetter_45 : decode cX5_isBetter 45 = .ok (.iaload, 1) := by decide +kernel
theorem dX5_isBetter_46 : decode cX5_isBetter 46 = .ok (.invokestatic 132, 3) := by decide +kernel
theorem dX5_isBetter_49 : decode cX5_isBetter 49 = .ok (.if_icmp .le 7, 3) := by decide +kernel
theorem dX5_isBetter_52 : decode cX5_isBetter 52 = .ok (.iconst 1, 1) := by decide +kernel
theorem dX5_isBetter_53 : decode cX5_isBetter 53 = .ok (.goto 4, 3) := by decide +kernel
theorem dX5_isBetter_56 : decode cX5_isBetter 56 = .ok (.iconst 0, 1) := by decide +kernel
theorem dX5_isBetter_57 : decode cX5_isBetter 57 = .ok (.ireturn, 1) := by decide +kernel
theorem dX5_covered_0 : decode cX5_covered 0 = .ok (.iconst 0, 1) := by decide +kernel
theorem dX5_covered_1 : decode cX5_covered 1 = .ok (.istore_n 1, 1) := by decide +kernel
theorem dX5_covered_2 : decode cX5_covered 2 = .ok (.iconst 0, 1) := by decide +kernel
theorem dX5_covered_3 : decode cX5_covered 3 = .ok (.istore_n 2, 1) := by decide +kernel
theorem dX5_covered_4 : decode cX5_covered 4 = .ok (.iload_n 2, 1) := by decide +kernel
theorem dX5_covered_5 : decode cX5_covered 5 = .ok (.aload_n 0, 1) := by decide +kernel
theorem dX5_covered_6 : decode cX5_covered 6 = .ok (.getfield 109, 3) := by decide +kernel
theorem dX5_covered_9 : decode cX5_covered 9 = .ok (.if_icmp .ge 18, 3) := by decide +kernel
theorem dX5_covered_12 : decode cX5_covered 12 = .ok (.iload_n 1, 1) := by decide +kernel
theorem dX5_covered_13 : decode cX5_covered 13 = .ok (.aload_n 0, 1) := by decide +kernel
theorem dX5_covered_14 : decode cX5_covered 14 = .ok (.getfield 33, 3) := by decide +kernel
theorem dX5_covered_17 : decode cX5_covered 17 = .ok (.iload_n 2, 1) := by decide +kernel
theorem dX5_covered_18 : decode cX5_covered 18 = .ok (.iaload, 1) := by decide +kernel
theorem dX5_covered_19 : decode cX5_covered 19 = .ok (.ior, 1) := by decide +kernel
theorem dX5_covered_20 : decode cX5_covered 20 = .ok (.istore_n 1, 1) := by decide +kernel
theorem dX5_covered_21 : decode cX5_covered 21 = .ok (.iinc 2 1, 3) := by decide +kernel
theorem dX5_covered_24 : decode cX5_covered 24 = .ok (.goto (-20), 3) := by decide +kernel
theorem dX5_covered_27 : decode cX5_covered 27 = .ok (.iload_n 1, 1) := by decide +kernel
theorem dX5_covered_28 : decode cX5_covered 28 = .ok (.ireturn, 1) := by decide +kernel
