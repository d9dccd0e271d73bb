theorem dX6_init_0 : decode cX6_init 0 = .ok (.aload_n 0, 1) := by decide +kernel
theorem dX6_init_1 : decode cX6_init 1 = .ok (.invokespecial 3, 3) := by decide +kernel
theorem dX6_init_4 : decode cX6_init 4 = .ok (.aload_n 0, 1) := by decide +kernel
theorem dX6_init_5 : decode cX6_init 5 = .ok (.new 9, 3) := by decide +kernel
theorem dX6_init_8 : decode cX6_init 8 = .ok (.dup, 1) := by decide +kernel
theorem dX6_init_9 : decode cX6_init 9 = .ok (.invokespecial 11, 3) := by decide +kernel
theorem dX6_init_12 : decode cX6_init 12 = .ok (.putfield 12, 3) := by decide +kernel
theorem dX6_init_15 : decode cX6_init 15 = .ok (.aload_n 0, 1) := by decide +kernel
theorem dX6_init_16 : decode cX6_init 16 = .ok (.new 16, 3) := by decide +kernel
theorem dX6_init_19 : decode cX6_init 19 = .ok (.dup, 1) := by decide +kernel
theorem dX6_init_20 : decode cX6_init 20 = .ok (.invokespecial 18, 3) := by decide +kernel
theorem dX6_init_23 : decode cX6_init 23 = .ok (.putfield 19, 3) := by decide +kernel
theorem dX6_init_26 : decode cX6_init 26 = .ok (.aload_n 0, 1) := by decide +kernel
theorem dX6_init_27 : decode cX6_init 27 = .ok (.new 16, 3) := by decide +kernel
theorem dX6_init_30 : decode cX6_init 30 = .ok (.dup, 1) := by decide +kernel
theorem dX6_init_31 : decode cX6_init 31 = .ok (.invokespecial 18, 3) := by decide +kernel
theorem dX6_init_34 : decode cX6_init 34 = .ok (.putfield 23, 3) := by decide +kernel
theorem dX6_init_37 : decode cX6_init 37 = .ok (.aload_n 0, 1) := by decide +kernel
theorem dX6_init_38 : decode cX6_init 38 = .ok (.new 26, 3) := by decide +kernel
theorem dX6_init_41 : decode cX6_init 41 = .ok (.dup, 1) := by decide +kernel
theorem dX6_init_42 : decode cX6_init 42 = .ok (.bipush 8, 2) := by decide +kernel
theorem dX6_init_44 : decode cX6_init 44 = .ok (.invokespecial 28, 3) := by decide +kernel
theorem dX6_init_47 : decode cX6_init 47 = .ok (.putfield 31, 3) := by decide +kernel
theorem dX6_init_50 : decode cX6_init 50 = .ok (.aload_n 0, 1) := by decide +kernel
theorem dX6_init_51 : decode cX6_init 51 = .ok (.new 26, 3) := by decide +kernel
theorem dX6_init_54 : decode cX6_init 54 = .ok (.dup, 1) := by decide +kernel
theorem dX6_init_55 : decode cX6_init 55 = .ok (.iconst 2, 1) := by decide +kernel
theorem dX6_init_56 : decode cX6_init 56 = .ok (.invokespecial 28, 3) := by decide +kernel
theorem dX6_init_59 : decode cX6_init 59 = .ok (.putfield 35, 3) := by decide +kernel
theorem dX6_init_62 : decode cX6_init 62 = .ok (.aload_n 0, 1) := by decide +kernel
theorem dX6_init_63 : decode cX6_init 63 = .ok (.new 38, 3) := by decide +kernel
theorem dX6_init_66 : decode cX6_init 66 = .ok (.dup, 1) := by decide +kernel
theorem dX6_init_67 : decode cX6_init 67 = .ok (.invokespecial 40, 3) := by decide +kernel
theorem dX6_init_70 : decode cX6_init 70 = .ok (.putfield 41, 3) := by decide +kernel
theorem dX6_init_73 : decode cX6_init 73 = .ok (.aload_n 0, 1) := by decide +kernel
theorem dX6_init_74 : decode cX6_init 74 = .ok (.new 38, 3) := by decide +kernel
theorem dX6_init_77 : decode cX6_init 77 = .ok (.dup, 1) := by decide +kernel
theorem dX6_init_78 : decode cX6_init 78 = .ok (.invokespecial 40, 3) := by decide +kernel
theorem dX6_init_81 : decode cX6_init 81 = .ok (.putfield 45, 3) := by decide +kernel
theorem dX6_init_84 : decode cX6_init 84 = .ok (.aload_n 0, 1) := by decide +kernel
theorem dX6_init_85 : decode cX6_init 85 = .ok (.new 48, 3) := by decide +kernel
theorem dX6_init_88 : decode cX6_init 88 = .ok (.dup, 1) := by decide +kernel
theorem dX6_init_89 : decode cX6_init 89 = .ok (.invokespecial 50, 3) := by decide +kernel
theorem dX6_init_92 : decode cX6_init 92 = .ok (.putfield 51, 3) := by decide +kernel
theorem dX6_init_95 : decode cX6_init 95 = .ok (.aload_n 0, 1) := by decide +kernel
theorem dX6_init_96 : decode cX6_init 96 = .ok (.new 55, 3) := by decide +kernel
theorem dX6_init_99 : decode cX6_init 99 = .ok (.dup, 1) := by decide +kernel
theorem dX6_init_100 : decode cX6_init 100 = .ok (.invokespecial 57, 3) := by decide +kernel
theorem dX6_init_103 : decode cX6_init 103 = .ok (.putfield 58, 3) := by decide +kernel
theorem dX6_init_106 : decode cX6_init 106 = .ok (.iconst 0, 1) := by decide +kernel
theorem dX6_init_107 : decode cX6_init 107 = .ok (.istore_n 1, 1) := by decide +kernel
theorem dX6_init_108 : decode cX6_init 108 = .ok (.iload_n 1, 1) := by decide +kernel
theorem dX6_init_109 : decode cX6_init 109 = .ok (.getstatic 62, 3) := by decide +kernel
theorem dX6_init_112 : decode cX6_init 112 = .ok (.arraylength, 1) := by decide +kernel
theorem dX6_init_113 : decode cX6_init 113 = .ok (.if_icmp .ge 38, 3) := by decide +kernel
theorem dX6_init_116 : decode cX6_init 116 = .ok (.iload_n 1, 1) := by decide +kernel
theorem dX6_init_117 : decode cX6_init 117 = .ok (.getstatic 66, 3) := by decide +kernel
theorem dX6_init_120 : decode cX6_init 120 = .ok (.arraylength, 1) := by decide +kernel
theorem dX6_init_121 : decode cX6_init 121 = .ok (.if_icmp .ge 30, 3) := by decide +kernel
theorem dX6_init_124 : decode cX6_init 124 = .ok (.aload_n 0, 1) := by decide +kernel
theorem dX6_init_125 : decode cX6_init 125 = .ok (.getfield 19, 3) := by decide +kernel
theorem dX6_init_128 : decode cX6_init 128 = .ok (.getstatic 62, 3) := by decide +kernel
theorem dX6_init_131 : decode cX6_init 131 = .ok (.iload_n 1, 1) := by decide +kernel
theorem dX6_init_132 : decode cX6_init 132 = .ok (.iaload, 1) := by decide +kernel
theorem dX6_init_133 : decode cX6_init 133 = .ok (.getstatic 66, 3) := by decide +kernel
theorem dX6_init_136 : decode cX6_init 136 = .ok (.iload_n 1, 1) := by decide +kernel
theorem dX6_init_137 : decode cX6_init 137 = .ok (.iaload, 1) := by decide +kernel
theorem dX6_init_138 : decode cX6_init 138 = .ok (.invokestatic 69, 3) := by decide +kernel
theorem dX6_init_141 : decode cX6_init 141 = .ok (.invokevirtual 73, 3) := by decide +kernel
theorem dX6_init_144 : decode cX6_init 144 = .ok (.pop, 1) := by decide +kernel
theorem dX6_init_145 : decode cX6_init 145 = .ok (.iinc 1 1, 3) := by decide +kernel
theorem dX6_init_148 : decode cX6_init 148 = .ok (.goto (-40), 3) := by decide +kernel
theorem dX6_init_151 : decode cX6_init 151 = .ok (.return_, 1) := by decide +kernel
theorem dX6_write_0 : decode cX6_write 0 = .ok (.iload_n 1, 1) := by decide +kernel
theorem dX6_write_1 : decode cX6_write 1 = .ok (.bipush 32, 2) := by decide +kernel
theorem dX6_write_3 : decode cX6_write 3 = .ok (.if_icmp .lt 9, 3) := by decide +kernel
theorem dX6_write_6 : decode cX6_write 6 = .ok (.iload_n 1, 1) := by decide +kernel
theorem dX6_write_7 : decode cX6_write 7 = .ok (.bipush 126, 2) := by decide +kernel
theorem dX6_write_9 : decode cX6_write 9 = .ok (.if_icmp .le 5, 3) := by decide +kernel
theorem dX6_write_12 : decode cX6_write 12 = .ok (.iconst (-1), 1) := by decide +kernel
theorem dX6_write_13 : decode cX6_write 13 = .ok (.ireturn, 1) := by decide +kernel
theorem dX6_write_14 : decode cX6_write 14 = .ok (.aload_n 0, 1) := by decide +kernel
theorem dX6_write_15 : decode cX6_write 15 = .ok (.getfield 12, 3) := by decide +kernel
theorem dX6_write_18 : decode cX6_write 18 = .ok (.iload_n 1, 1) := by decide +kernel
theorem dX6_write_19 : decode cX6_write 19 = .ok (.invokevirtual 77, 3) := by decide +kernel
theorem dX6_write_22 : decode cX6_write 22 = .ok (.ifCond .eq 13, 3) := by decide +kernel
theorem dX6_write_25 : decode cX6_write 25 = .ok (.aload_n 0, 1) := by decide +kernel
theorem dX6_write_26 : decode cX6_write 26 = .ok (.getfield 12, 3) := by decide +kernel
theorem dX6_write_29 : decode cX6_write 29 = .ok (.getfield 81, 3) := by decide +kernel
theorem dX6_write_32 : decode cX6_write 32 = .ok (.goto 5, 3) := by decide +kernel
theorem dX6_write_35 : decode cX6_write 35 = .ok (.bipush (-3), 2) := by decide +kernel
theorem dX6_write_37 : decode cX6_write 37 = .ok (.ireturn, 1) := by decide +kernel
theorem dX6_wipe_0 : decode cX6_wipe 0 = .ok (.aload_n 0, 1) := by decide +kernel
theorem dX6_wipe_1 : decode cX6_wipe 1 = .ok (.getfield 12, 3) := by decide +kernel
theorem dX6_wipe_4 : decode cX6_wipe 4 = .ok (.getfield 81, 3) := by decide +kernel
theorem dX6_wipe_7 : decode cX6_wipe 7 = .ok (.istore_n 1, 1) := by decide +kernel
theorem dX6_wipe_8 : decode cX6_wipe 8 = .ok (.aload_n 0, 1) := by decide +kernel
theorem dX6_wipe_9 : decode cX6_wipe 9 = .ok (.getfield 12, 3) := by decide +kernel
theorem dX6_wipe_12 : decode cX6_wipe 12 = .ok (.iconst 0, 1) := by decide +kernel
theorem dX6_wipe_13 : decode cX6_wipe 13 = .ok (.putfield 81, 3) := by decide +kernel
theorem dX6_wipe_16 : decode cX6_wipe 16 = .ok (.iload_n 1, 1) := by decide +kernel
theorem dX6_wipe_17 : decode cX6_wipe 17 = .ok (.ireturn, 1) := by decide +kernel
theorem dX6_fault_0 : decode cX6_fault 0 = .ok (.aload_n 0, 1) := by decide +kernel
theorem dX6_fault_1 : decode cX6_fault 1 = .ok (.getfield 12, 3) := by decide +kernel
theorem dX6_fault_4 : decode cX6_fault 4 = .ok (.aload_n 0, 1) := by decide +kernel
theorem dX6_fault_5 : decode cX6_fault 5 = .ok (.getfield 23, 3) := by decide +kernel
theorem dX6_fault_8 : decode cX6_fault 8 = .ok (.invokevirtual 85, 3) := by decide +kernel
theorem dX6_fault_11 : decode cX6_fault 11 = .ok (.ireturn, 1) := by decide +kernel
theorem dX6_lay_0 : decode cX6_lay 0 = .ok (.aload_n 0, 1) := by decide +kernel
theorem dX6_lay_1 : decode cX6_lay 1 = .ok (.getfield 12, 3) := by decide +kernel
theorem dX6_lay_4 : decode cX6_lay 4 = .ok (.aload_n 0, 1) := by decide +kernel
theorem dX6_lay_5 : decode cX6_lay 5 = .ok (.getfield 23, 3) := by decide +kernel
theorem dX6_lay_8 : decode cX6_lay 8 = .ok (.invokevirtual 85, 3) := by decide +kernel
theorem dX6_lay_11 : decode cX6_lay 11 = .ok (.bipush (-4), 2) := by decide +kernel
theorem dX6_lay_13 : decode cX6_lay 13 = .ok (.if_icmp .ne 13, 3) := by decide +kernel
theorem dX6_lay_16 : decode cX6_lay 16 = .ok (.aload_n 0, 1) := by decide +kernel
theorem dX6_lay_17 : decode cX6_lay 17 = .ok (.getfield 23, 3) := by decide +kernel
theorem dX6_lay_20 : decode cX6_lay 20 = .ok (.getfield 89, 3) := by decide +kernel
theorem dX6_lay_23 : decode cX6_lay 23 = .ok (.ifCond .ne 6, 3) := by decide +kernel
theorem dX6_lay_26 : decode cX6_lay 26 = .ok (.bipush (-2), 2) := by decide +kernel
theorem dX6_lay_28 : decode cX6_lay 28 = .ok (.ireturn, 1) := by decide +kernel
theorem dX6_lay_29 : decode cX6_lay 29 = .ok (.aload_n 0, 1) := by decide +kernel
theorem dX6_lay_30 : decode cX6_lay 30 = .ok (.getfield 19, 3) := by decide +kernel
theorem dX6_lay_33 : decode cX6_lay 33 = .ok (.aload_n 0, 1) := by decide +kernel
theorem dX6_lay_34 : decode cX6_lay 34 = .ok (.getfield 23, 3) := by decide +kernel
theorem dX6_lay_37 : decode cX6_lay 37 = .ok (.invokevirtual 92, 3) := by decide +kernel
theorem dX6_lay_40 : decode cX6_lay 40 = .ok (.aload_n 0, 1) := by decide +kernel
theorem dX6_lay_41 : decode cX6_lay 41 = .ok (.getfield 31, 3) := by decide +kernel
theorem dX6_lay_44 : decode cX6_lay 44 = .ok (.iconst 0, 1) := by decide +kernel
theorem dX6_lay_45 : decode cX6_lay 45 = .ok (.putfield 96, 3) := by decide +kernel
theorem dX6_lay_48 : decode cX6_lay 48 = .ok (.aload_n 0, 1) := by decide +kernel
theorem dX6_lay_49 : decode cX6_lay 49 = .ok (.getfield 35, 3) := by decide +kernel
theorem dX6_lay_52 : decode cX6_lay 52 = .ok (.iconst 0, 1) := by decide +kernel
theorem dX6_lay_53 : decode cX6_lay 53 = .ok (.putfield 96, 3) := by decide +kernel
theorem dX6_lay_56 : decode cX6_lay 56 = .ok (.aload_n 0, 1) := by decide +kernel
theorem dX6_lay_57 : decode cX6_lay 57 = .ok (.invokevirtual 97, 3) := by decide +kernel
theorem dX6_lay_60 : decode cX6_lay 60 = .ok (.aload_n 0, 1) := by decide +kernel
theorem dX6_lay_61 : decode cX6_lay 61 = .ok (.getfield 19, 3) := by decide +kernel
theorem dX6_lay_64 : decode cX6_lay 64 = .ok (.getfield 89, 3) := by decide +kernel
theorem dX6_lay_67 : decode cX6_lay 67 = .ok (.ireturn, 1) := by decide +kernel
theorem dX6_note_0 : decode cX6_note 0 = .ok (.aload_n 0, 1) := by decide +kernel
theorem dX6_note_1 : decode cX6_note 1 = .ok (.iload_n 1, 1) := by decide +kernel
theorem dX6_note_2 : decode cX6_note 2 = .ok (.invokevirtual 100, 3) := by decide +kernel
theorem dX6_note_5 : decode cX6_note 5 = .ok (.ifCond .ne 5, 3) := by decide +kernel
theorem dX6_note_8 : decode cX6_note 8 = .ok (.iconst (-1), 1) := by decide +kernel
theorem dX6_note_9 : decode cX6_note 9 = .ok (.ireturn, 1) := by decide +kernel
theorem dX6_note_10 : decode cX6_note 10 = .ok (.iload_n 2, 1) := by decide +kernel
theorem dX6_note_11 : decode cX6_note 11 = .ok (.ifCond .ne 12, 3) := by decide +kernel
theorem dX6_note_14 : decode cX6_note 14 = .ok (.aload_n 0, 1) := by decide +kernel
theorem dX6_note_15 : decode cX6_note 15 = .ok (.getfield 19, 3) := by decide +kernel
theorem dX6_note_18 : decode cX6_note 18 = .ok (.iload_n 1, 1) := by decide +kernel
theorem dX6_note_19 : decode cX6_note 19 = .ok (.invokevirtual 103, 3) := by decide +kernel
theorem dX6_note_22 : decode cX6_note 22 = .ok (.ireturn, 1) := by decide +kernel
theorem dX6_note_23 : decode cX6_note 23 = .ok (.iload_n 2, 1) := by decide +kernel
theorem dX6_note_24 : decode cX6_note 24 = .ok (.iconst 1, 1) := by decide +kernel
theorem dX6_note_25 : decode cX6_note 25 = .ok (.if_icmp .ne 14, 3) := by decide +kernel
theorem dX6_note_28 : decode cX6_note 28 = .ok (.aload_n 0, 1) := by decide +kernel
theorem dX6_note_29 : decode cX6_note 29 = .ok (.getfield 19, 3) := by decide +kernel
theorem dX6_note_32 : decode cX6_note 32 = .ok (.iload_n 1, 1) := by decide +kernel
theorem dX6_note_33 : decode cX6_note 33 = .ok (.invokevirtual 106, 3) := by decide +kernel
theorem dX6_note_36 : decode cX6_note 36 = .ok (.goto 4, 3) := by decide +kernel
theorem dX6_note_39 : decode cX6_note 39 = .ok (.iconst (-1), 1) := by decide +kernel
theorem dX6_note_40 : decode cX6_note 40 = .ok (.ireturn, 1) := by decide +kernel
theorem dX6_put_0 : decode cX6_put 0 = .ok (.iload_n 1, 1) := by decide +kernel
theorem dX6_put_1 : decode cX6_put 1 = .ok (.iload_n 2, 1) := by decide +kernel
theorem dX6_put_2 : decode cX6_put 2 = .ok (.invokestatic 109, 3) := by decide +kernel
theorem dX6_put_5 : decode cX6_put 5 = .ok (.ifCond .ne 5, 3) := by decide +kernel
theorem dX6_put_8 : decode cX6_put 8 = .ok (.iconst (-1), 1) := by decide +kernel
theorem dX6_put_9 : decode cX6_put 9 = .ok (.ireturn, 1) := by decide +kernel
theorem dX6_put_10 : decode cX6_put 10 = .ok (.aload_n 0, 1) := by decide +kernel
theorem dX6_put_11 : decode cX6_put 11 = .ok (.getfield 19, 3) := by decide +kernel
theorem dX6_put_14 : decode cX6_put 14 = .ok (.iload_n 1, 1) := by decide +kernel
theorem dX6_put_15 : decode cX6_put 15 = .ok (.iload_n 2, 1) := by decide +kernel
theorem dX6_put_16 : decode cX6_put 16 = .ok (.invokestatic 69, 3) := by decide +kernel
theorem dX6_put_19 : decode cX6_put 19 = .ok (.invokevirtual 113, 3) := by decide +kernel
theorem dX6_put_22 : decode cX6_put 22 = .ok (.ifCond .lt 6, 3) := by decide +kernel
theorem dX6_put_25 : decode cX6_put 25 = .ok (.bipush (-2), 2) := by decide +kernel
theorem dX6_put_27 : decode cX6_put 27 = .ok (.ireturn, 1) := by decide +kernel
theorem dX6_put_28 : decode cX6_put 28 = .ok (.aload_n 0, 1) := by decide +kernel
theorem dX6_put_29 : decode cX6_put 29 = .ok (.getfield 19, 3) := by decide +kernel
theorem dX6_put_32 : decode cX6_put 32 = .ok (.getfield 89, 3) := by decide +kernel
theorem dX6_put_35 : decode cX6_put 35 = .ok (.bipush 14, 2) := by decide +kernel
theorem dX6_put_37 : decode cX6_put 37 = .ok (.if_icmp .lt 6, 3) := by decide +kernel
theorem dX6_put_40 : decode cX6_put 40 = .ok (.bipush (-3), 2) := by decide +kernel
theorem dX6_put_42 : decode cX6_put 42 = .ok (.ireturn, 1) := by decide +kernel
theorem dX6_put_43 : decode cX6_put 43 = .ok (.aload_n 0, 1) := by decide +kernel
theorem dX6_put_44 : decode cX6_put 44 = .ok (.invokevirtual 116, 3) := by decide +kernel
theorem dX6_put_47 : decode cX6_put 47 = .ok (.aload_n 0, 1) := by decide +kernel
theorem dX6_put_48 : decode cX6_put 48 = .ok (.getfield 19, 3) := by decide +kernel
theorem dX6_put_51 : decode cX6_put 51 = .ok (.iload_n 1, 1) := by decide +kernel
theorem dX6_put_52 : decode cX6_put 52 = .ok (.iload_n 2, 1) := by decide +kernel
theorem dX6_put_53 : decode cX6_put 53 = .ok (.invokestatic 69, 3) := by decide +kernel
theorem dX6_put_56 : decode cX6_put 56 = .ok (.invokevirtual 73, 3) := by decide +kernel
theorem dX6_put_59 : decode cX6_put 59 = .ok (.ireturn, 1) := by decide +kernel
theorem dX6_take_0 : decode cX6_take 0 = .ok (.aload_n 0, 1) := by decide +kernel
theorem dX6_take_1 : decode cX6_take 1 = .ok (.iload_n 1, 1) := by decide +kernel
theorem dX6_take_2 : decode cX6_take 2 = .ok (.invokevirtual 100, 3) := by decide +kernel
theorem dX6_take_5 : decode cX6_take 5 = .ok (.ifCond .ne 5, 3) := by decide +kernel
theorem dX6_take_8 : decode cX6_take 8 = .ok (.iconst (-1), 1) := by decide +kernel
theorem dX6_take_9 : decode cX6_take 9 = .ok (.ireturn, 1) := by decide +kernel
theorem dX6_take_10 : decode cX6_take 10 = .ok (.aload_n 0, 1) := by decide +kernel
theorem dX6_take_11 : decode cX6_take 11 = .ok (.getfield 19, 3) := by decide +kernel
theorem dX6_take_14 : decode cX6_take 14 = .ok (.getfield 89, 3) := by decide +kernel
theorem dX6_take_17 : decode cX6_take 17 = .ok (.iconst 1, 1) := by decide +kernel
theorem dX6_take_18 : decode cX6_take 18 = .ok (.if_icmp .ne 6, 3) := by decide +kernel
theorem dX6_take_21 : decode cX6_take 21 = .ok (.bipush (-2), 2) := by decide +kernel
theorem dX6_take_23 : decode cX6_take 23 = .ok (.ireturn, 1) := by decide +kernel
theorem dX6_take_24 : decode cX6_take 24 = .ok (.aload_n 0, 1) := by decide +kernel
theorem dX6_take_25 : decode cX6_take 25 = .ok (.invokevirtual 116, 3) := by decide +kernel
theorem dX6_take_28 : decode cX6_take 28 = .ok (.aload_n 0, 1) := by decide +kernel
theorem dX6_take_29 : decode cX6_take 29 = .ok (.getfield 19, 3) := by decide +kernel
theorem dX6_take_32 : decode cX6_take 32 = .ok (.iload_n 1, 1) := by decide +kernel
theorem dX6_take_33 : decode cX6_take 33 = .ok (.invokevirtual 119, 3) := by decide +kernel
theorem dX6_take_36 : decode cX6_take 36 = .ok (.aload_n 0, 1) := by decide +kernel
theorem dX6_take_37 : decode cX6_take 37 = .ok (.getfield 19, 3) := by decide +kernel
theorem dX6_take_40 : decode cX6_take 40 = .ok (.getfield 89, 3) := by decide +kernel
theorem dX6_take_43 : decode cX6_take 43 = .ok (.ireturn, 1) := by decide +kernel
theorem dX6_shift_0 : decode cX6_shift 0 = .ok (.aload_n 0, 1) := by decide +kernel
theorem dX6_shift_1 : decode cX6_shift 1 = .ok (.iload_n 1, 1) := by decide +kernel
theorem dX6_shift_2 : decode cX6_shift 2 = .ok (.invokevirtual 100, 3) := by decide +kernel
theorem dX6_shift_5 : decode cX6_shift 5 = .ok (.ifCond .eq 22, 3) := by decide +kernel
theorem dX6_shift_8 : decode cX6_shift 8 = .ok (.aload_n 0, 1) := by decide +kernel
theorem dX6_shift_9 : decode cX6_shift 9 = .ok (.iload_n 2, 1) := by decide +kernel
theorem dX6_shift_10 : decode cX6_shift 10 = .ok (.iload_n 3, 1) := by decide +kernel
theorem dX6_shift_11 : decode cX6_shift 11 = .ok (.invokevirtual 122, 3) := by decide +kernel
theorem dX6_shift_14 : decode cX6_shift 14 = .ok (.ifCond .eq 13, 3) := by decide +kernel
theorem dX6_shift_17 : decode cX6_shift 17 = .ok (.aload_n 0, 1) := by decide +kernel
theorem dX6_shift_18 : decode cX6_shift 18 = .ok (.iload_n 1, 1) := by decide +kernel
theorem dX6_shift_19 : decode cX6_shift 19 = .ok (.iload_n 2, 1) := by decide +kernel
theorem dX6_shift_20 : decode cX6_shift 20 = .ok (.iload_n 3, 1) := by decide +kernel
theorem dX6_shift_21 : decode cX6_shift 21 = .ok (.invokevirtual 125, 3) := by decide +kernel
theorem dX6_shift_24 : decode cX6_shift 24 = .ok (.ifCond .ne 5, 3) := by decide +kernel
theorem dX6_shift_27 : decode cX6_shift 27 = .ok (.iconst (-1), 1) := by decide +kernel
theorem dX6_shift_28 : decode cX6_shift 28 = .ok (.ireturn, 1) := by decide +kernel
theorem dX6_shift_29 : decode cX6_shift 29 = .ok (.aload_n 0, 1) := by decide +kernel
theorem dX6_shift_30 : decode cX6_shift 30 = .ok (.getfield 19, 3) := by decide +kernel
theorem dX6_shift_33 : decode cX6_shift 33 = .ok (.iload_n 1, 1) := by decide +kernel
theorem dX6_shift_34 : decode cX6_shift 34 = .ok (.invokevirtual 103, 3) := by decide +kernel
theorem dX6_shift_37 : decode cX6_shift 37 = .ok (.iload_n 2, 1) := by decide +kernel
theorem dX6_shift_38 : decode cX6_shift 38 = .ok (.iadd, 1) := by decide +kernel
theorem dX6_shift_39 : decode cX6_shift 39 = .ok (.aload_n 0, 1) := by decide +kernel
theorem dX6_shift_40 : decode cX6_shift 40 = .ok (.getfield 19, 3) := by decide +kernel
theorem dX6_shift_43 : decode cX6_shift 43 = .ok (.iload_n 1, 1) := by decide +kernel
theorem dX6_shift_44 : decode cX6_shift 44 = .ok (.invokevirtual 106, 3) := by decide +kernel
theorem dX6_shift_47 : decode cX6_shift 47 = .ok (.iload_n 3, 1) := by decide +kernel
theorem dX6_shift_48 : decode cX6_shift 48 = .ok (.iadd, 1) := by decide +kernel
theorem dX6_shift_49 : decode cX6_shift 49 = .ok (.invokestatic 69, 3) := by decide +kernel
theorem dX6_shift_52 : decode cX6_shift 52 = .ok (.istore 4, 2) := by decide +kernel
theorem dX6_shift_54 : decode cX6_shift 54 = .ok (.aload_n 0, 1) := by decide +kernel
theorem dX6_shift_55 : decode cX6_shift 55 = .ok (.getfield 19, 3) := by decide +kernel
theorem dX6_shift_58 : decode cX6_shift 58 = .ok (.iload 4, 2) := by decide +kernel
theorem dX6_shift_60 : decode cX6_shift 60 = .ok (.invokevirtual 113, 3) := by decide +kernel
theorem dX6_shift_63 : decode cX6_shift 63 = .ok (.ifCond .lt 6, 3) := by decide +kernel
theorem dX6_shift_66 : decode cX6_shift 66 = .ok (.bipush (-2), 2) := by decide +kernel
theorem dX6_shift_68 : decode cX6_shift 68 = .ok (.ireturn, 1) := by decide +kernel
theorem dX6_shift_69 : decode cX6_shift 69 = .ok (.aload_n 0, 1) := by decide +kernel
theorem dX6_shift_70 : decode cX6_shift 70 = .ok (.invokevirtual 116, 3) := by decide +kernel
theorem dX6_shift_73 : decode cX6_shift 73 = .ok (.aload_n 0, 1) := by decide +kernel
theorem dX6_shift_74 : decode cX6_shift 74 = .ok (.getfield 19, 3) := by decide +kernel
theorem dX6_shift_77 : decode cX6_shift 77 = .ok (.iload_n 1, 1) := by decide +kernel
theorem dX6_shift_78 : decode cX6_shift 78 = .ok (.invokevirtual 119, 3) := by decide +kernel
theorem dX6_shift_81 : decode cX6_shift 81 = .ok (.aload_n 0, 1) := by decide +kernel
theorem dX6_shift_82 : decode cX6_shift 82 = .ok (.getfield 19, 3) := by decide +kernel
theorem dX6_shift_85 : decode cX6_shift 85 = .ok (.iload 4, 2) := by decide +kernel
theorem dX6_shift_87 : decode cX6_shift 87 = .ok (.invokevirtual 73, 3) := by decide +kernel
theorem dX6_shift_90 : decode cX6_shift 90 = .ok (.ireturn, 1) := by decide +kernel
theorem dX6_shiftAll_0 : decode cX6_shiftAll 0 = .ok (.aload_n 0, 1) := by decide +kernel
theorem dX6_shiftAll_1 : decode cX6_shiftAll 1 = .ok (.iload_n 1, 1) := by decide +kernel
theorem dX6_shiftAll_2 : decode cX6_shiftAll 2 = .ok (.iload_n 2, 1) := by decide +kernel
theorem dX6_shiftAll_3 : decode cX6_shiftAll 3 = .ok (.invokevirtual 122, 3) := by decide +kernel
theorem dX6_shiftAll_6 : decode cX6_shiftAll 6 = .ok (.ifCond .ne 5, 3) := by decide +kernel
theorem dX6_shiftAll_9 : decode cX6_shiftAll 9 = .ok (.iconst (-1), 1) := by decide +kernel
theorem dX6_shiftAll_10 : decode cX6_shiftAll 10 = .ok (.ireturn, 1) := by decide +kernel
theorem dX6_shiftAll_11 : decode cX6_shiftAll 11 = .ok (.iconst 0, 1) := by decide +kernel
theorem dX6_shiftAll_12 : decode cX6_shiftAll 12 = .ok (.istore_n 3, 1) := by decide +kernel
theorem dX6_shiftAll_13 : decode cX6_shiftAll 13 = .ok (.iload_n 3, 1) := by decide +kernel
theorem dX6_shiftAll_14 : decode cX6_shiftAll 14 = .ok (.aload_n 0, 1) := by decide +kernel
theorem dX6_shiftAll_15 : decode cX6_shiftAll 15 = .ok (.getfield 19, 3) := by decide +kernel
theorem dX6_shiftAll_18 : decode cX6_shiftAll 18 = .ok (.getfield 89, 3) := by decide +kernel
theorem dX6_shiftAll_21 : decode cX6_shiftAll 21 = .ok (.if_icmp .ge 21, 3) := by decide +kernel
theorem dX6_shiftAll_24 : decode cX6_shiftAll 24 = .ok (.aload_n 0, 1) := by decide +kernel
theorem dX6_shiftAll_25 : decode cX6_shiftAll 25 = .ok (.iload_n 3, 1) := by decide +kernel
theorem dX6_shiftAll_26 : decode cX6_shiftAll 26 = .ok (.iload_n 1, 1) := by decide +kernel
theorem dX6_shiftAll_27 : decode cX6_shiftAll 27 = .ok (.iload_n 2, 1) := by decide +kernel
theorem dX6_shiftAll_28 : decode cX6_shiftAll 28 = .ok (.invokevirtual 125, 3) := by decide +kernel
theorem dX6_shiftAll_31 : decode cX6_shiftAll 31 = .ok (.ifCond .ne 5, 3) := by decide +kernel
theorem dX6_shiftAll_34 : decode cX6_shiftAll 34 = .ok (.iconst (-1), 1) := by decide +kernel
theorem dX6_shiftAll_35 : decode cX6_shiftAll 35 = .ok (.ireturn, 1) := by decide +kernel
theorem dX6_shiftAll_36 : decode cX6_shiftAll 36 = .ok (.iinc 3 1, 3) := by decide +kernel
theorem dX6_shiftAll_39 : decode cX6_shiftAll 39 = .ok (.goto (-26), 3) := by decide +kernel
theorem dX6_shiftAll_42 : decode cX6_shiftAll 42 = .ok (.aload_n 0, 1) := by decide +kernel
theorem dX6_shiftAll_43 : decode cX6_shiftAll 43 = .ok (.invokevirtual 116, 3) := by decide +kernel
theorem dX6_shiftAll_46 : decode cX6_shiftAll 46 = .ok (.aload_n 0, 1) := by decide +kernel
theorem dX6_shiftAll_47 : decode cX6_shiftAll 47 = .ok (.getfield 19, 3) := by decide +kernel
theorem dX6_shiftAll_50 : decode cX6_shiftAll 50 = .ok (.iload_n 1, 1) := by decide +kernel
theorem dX6_shiftAll_51 : decode cX6_shiftAll 51 = .ok (.iload_n 2, 1) := by decide +kernel
theorem dX6_shiftAll_52 : decode cX6_shiftAll 52 = .ok (.invokestatic 69, 3) := by decide +kernel
theorem dX6_shiftAll_55 : decode cX6_shiftAll 55 = .ok (.invokevirtual 129, 3) := by decide +kernel
theorem dX6_shiftAll_58 : decode cX6_shiftAll 58 = .ok (.aload_n 0, 1) := by decide +kernel
theorem dX6_shiftAll_59 : decode cX6_shiftAll 59 = .ok (.getfield 19, 3) := by decide +kernel
theorem dX6_shiftAll_62 : decode cX6_shiftAll 62 = .ok (.getfield 89, 3) := by decide +kernel
theorem dX6_shiftAll_65 : decode cX6_shiftAll 65 = .ok (.ireturn, 1) := by decide +kernel
theorem dX6_mode_0 : decode cX6_mode 0 = .ok (.iload_n 1, 1) := by decide +kernel
theorem dX6_mode_1 : decode cX6_mode 1 = .ok (.ifCond .lt 8, 3) := by decide +kernel
theorem dX6_mode_4 : decode cX6_mode 4 = .ok (.iload_n 1, 1) := by decide +kernel
theorem dX6_mode_5 : decode cX6_mode 5 = .ok (.iconst 2, 1) := by decide +kernel
theorem dX6_mode_6 : decode cX6_mode 6 = .ok (.if_icmp .le 5, 3) := by decide +kernel
theorem dX6_mode_9 : decode cX6_mode 9 = .ok (.iconst (-1), 1) := by decide +kernel
theorem dX6_mode_10 : decode cX6_mode 10 = .ok (.ireturn, 1) := by decide +kernel
theorem dX6_mode_11 : decode cX6_mode 11 = .ok (.iload_n 1, 1) := by decide +kernel
theorem dX6_mode_12 : decode cX6_mode 12 = .ok (.aload_n 0, 1) := by decide +kernel
theorem dX6_mode_13 : decode cX6_mode 13 = .ok (.getfield 19, 3) := by decide +kernel
theorem dX6_mode_16 : decode cX6_mode 16 = .ok (.getfield 132, 3) := by decide +kernel
theorem dX6_mode_19 : decode cX6_mode 19 = .ok (.if_icmp .ne 6, 3) := by decide +kernel
theorem dX6_mode_22 : decode cX6_mode 22 = .ok (.bipush (-2), 2) := by decide +kernel
theorem dX6_mode_24 : decode cX6_mode 24 = .ok (.ireturn, 1) := by decide +kernel
theorem dX6_mode_25 : decode cX6_mode 25 = .ok (.aload_n 0, 1) := by decide +kernel
theorem dX6_mode_26 : decode cX6_mode 26 = .ok (.invokevirtual 116, 3) := by decide +kernel
theorem dX6_mode_29 : decode cX6_mode 29 = .ok (.aload_n 0, 1) := by decide +kernel
theorem dX6_mode_30 : decode cX6_mode 30 = .ok (.getfield 19, 3) := by decide +kernel
theorem dX6_mode_33 : decode cX6_mode 33 = .ok (.getfield 132, 3) := by decide +kernel
theorem dX6_mode_36 : decode cX6_mode 36 = .ok (.istore_n 2, 1) := by decide +kernel
theorem dX6_mode_37 : decode cX6_mode 37 = .ok (.aload_n 0, 1) := by decide +kernel
theorem dX6_mode_38 : decode cX6_mode 38 = .ok (.getfield 19, 3) := by decide +kernel
theorem dX6_mode_41 : decode cX6_mode 41 = .ok (.iload_n 1, 1) := by decide +kernel
theorem dX6_mode_42 : decode cX6_mode 42 = .ok (.putfield 132, 3) := by decide +kernel
theorem dX6_mode_45 : decode cX6_mode 45 = .ok (.iload_n 2, 1) := by decide +kernel
theorem dX6_mode_46 : decode cX6_mode 46 = .ok (.ireturn, 1) := by decide +kernel
theorem dX6_undo_0 : decode cX6_undo 0 = .ok (.aload_n 0, 1) := by decide +kernel
theorem dX6_undo_1 : decode cX6_undo 1 = .ok (.getfield 31, 3) := by decide +kernel
theorem dX6_undo_4 : decode cX6_undo 4 = .ok (.getfield 96, 3) := by decide +kernel
theorem dX6_undo_7 : decode cX6_undo 7 = .ok (.ifCond .ne 6, 3) := by decide +kernel
theorem dX6_undo_10 : decode cX6_undo 10 = .ok (.bipush (-2), 2) := by decide +kernel
theorem dX6_undo_12 : decode cX6_undo 12 = .ok (.ireturn, 1) := by decide +kernel
theorem dX6_undo_13 : decode cX6_undo 13 = .ok (.aload_n 0, 1) := by decide +kernel
theorem dX6_undo_14 : decode cX6_undo 14 = .ok (.getfield 31, 3) := by decide +kernel
theorem dX6_undo_17 : decode cX6_undo 17 = .ok (.aload_n 0, 1) := by decide +kernel
theorem dX6_undo_18 : decode cX6_undo 18 = .ok (.getfield 19, 3) := by decide +kernel
theorem dX6_undo_21 : decode cX6_undo 21 = .ok (.invokevirtual 135, 3) := by decide +kernel
theorem dX6_undo_24 : decode cX6_undo 24 = .ok (.aload_n 0, 1) := by decide +kernel
theorem dX6_undo_25 : decode cX6_undo 25 = .ok (.invokevirtual 97, 3) := by decide +kernel
theorem dX6_undo_28 : decode cX6_undo 28 = .ok (.aload_n 0, 1) := by decide +kernel
theorem dX6_undo_29 : decode cX6_undo 29 = .ok (.getfield 31, 3) := by decide +kernel
theorem dX6_undo_32 : decode cX6_undo 32 = .ok (.getfield 96, 3) := by decide +kernel
theorem dX6_undo_35 : decode cX6_undo 35 = .ok (.ireturn, 1) := by decide +kernel
theorem dX6_largest_0 : decode cX6_largest 0 = .ok (.aload_n 0, 1) := by decide +kernel
theorem dX6_largest_1 : decode cX6_largest 1 = .ok (.iload_n 1, 1) := by decide +kernel
theorem dX6_largest_2 : decode cX6_largest 2 = .ok (.iload_n 2, 1) := by decide +kernel
theorem dX6_largest_3 : decode cX6_largest 3 = .ok (.invokevirtual 138, 3) := by decide +kernel
theorem dX6_largest_6 : decode cX6_largest 6 = .ok (.ifCond .eq 15, 3) := by decide +kernel
theorem dX6_largest_9 : decode cX6_largest 9 = .ok (.aload_n 0, 1) := by decide +kernel
theorem dX6_largest_10 : decode cX6_largest 10 = .ok (.invokevirtual 141, 3) := by decide +kernel
theorem dX6_largest_13 : decode cX6_largest 13 = .ok (.iload_n 1, 1) := by decide +kernel
theorem dX6_largest_14 : decode cX6_largest 14 = .ok (.iload_n 2, 1) := by decide +kernel
theorem dX6_largest_15 : decode cX6_largest 15 = .ok (.invokevirtual 145, 3) := by decide +kernel
theorem dX6_largest_18 : decode cX6_largest 18 = .ok (.goto 4, 3) := by decide +kernel
theorem dX6_largest_21 : decode cX6_largest 21 = .ok (.iconst (-1), 1) := by decide +kernel
theorem dX6_largest_22 : decode cX6_largest 22 = .ok (.ireturn, 1) := by decide +kernel
theorem dX6_meets_0 : decode cX6_meets 0 = .ok (.aload_n 0, 1) := by decide +kernel
theorem dX6_meets_1 : decode cX6_meets 1 = .ok (.iload_n 1, 1) := by decide +kernel
theorem dX6_meets_2 : decode cX6_meets 2 = .ok (.invokevirtual 100, 3) := by decide +kernel
theorem dX6_meets_5 : decode cX6_meets 5 = .ok (.ifCond .eq 12, 3) := by decide +kernel
theorem dX6_meets_8 : decode cX6_meets 8 = .ok (.aload_n 0, 1) := by decide +kernel
theorem dX6_meets_9 : decode cX6_meets 9 = .ok (.iload_n 2, 1) := by decide +kernel
theorem dX6_meets_10 : decode cX6_meets 10 = .ok (.iload_n 3, 1) := by decide +kernel
theorem dX6_meets_11 : decode cX6_meets 11 = .ok (.invokevirtual 138, 3) := by decide +kernel
theorem dX6_meets_14 : decode cX6_meets 14 = .ok (.ifCond .ne 5, 3) := by decide +kernel
theorem dX6_meets_17 : decode cX6_meets 17 = .ok (.iconst (-1), 1) := by decide +kernel
theorem dX6_meets_18 : decode cX6_meets 18 = .ok (.ireturn, 1) := by decide +kernel
theorem dX6_meets_19 : decode cX6_meets 19 = .ok (.aload_n 0, 1) := by decide +kernel
theorem dX6_meets_20 : decode cX6_meets 20 = .ok (.invokevirtual 141, 3) := by decide +kernel
theorem dX6_meets_23 : decode cX6_meets 23 = .ok (.iload_n 1, 1) := by decide +kernel
theorem dX6_meets_24 : decode cX6_meets 24 = .ok (.iload_n 2, 1) := by decide +kernel
theorem dX6_meets_25 : decode cX6_meets 25 = .ok (.iload_n 3, 1) := by decide +kernel
theorem dX6_meets_26 : decode cX6_meets 26 = .ok (.invokevirtual 148, 3) := by decide +kernel
theorem dX6_meets_29 : decode cX6_meets 29 = .ok (.ireturn, 1) := by decide +kernel
theorem dX6_shape_0 : decode cX6_shape 0 = .ok (.aload_n 0, 1) := by decide +kernel
theorem dX6_shape_1 : decode cX6_shape 1 = .ok (.invokevirtual 141, 3) := by decide +kernel
theorem dX6_shape_4 : decode cX6_shape 4 = .ok (.astore_n 3, 1) := by decide +kernel
theorem dX6_shape_5 : decode cX6_shape 5 = .ok (.iload_n 1, 1) := by decide +kernel
theorem dX6_shape_6 : decode cX6_shape 6 = .ok (.ifCond .lt 11, 3) := by decide +kernel
theorem dX6_shape_9 : decode cX6_shape 9 = .ok (.iload_n 1, 1) := by decide +kernel
theorem dX6_shape_10 : decode cX6_shape 10 = .ok (.aload_n 3, 1) := by decide +kernel
theorem dX6_shape_11 : decode cX6_shape 11 = .ok (.getfield 152, 3) := by decide +kernel
theorem dX6_shape_14 : decode cX6_shape 14 = .ok (.if_icmp .lt 5, 3) := by decide +kernel
theorem dX6_shape_17 : decode cX6_shape 17 = .ok (.iconst (-1), 1) := by decide +kernel
theorem dX6_shape_18 : decode cX6_shape 18 = .ok (.ireturn, 1) := by decide +kernel
theorem dX6_shape_19 : decode cX6_shape 19 = .ok (.iload_n 2, 1) := by decide +kernel
theorem dX6_shape_20 : decode cX6_shape 20 = .ok (.tableswitch 62 0 3 #[32, 39, 46, 53], 32) := by decide +kernel
theorem dX6_shape_52 : decode cX6_shape 52 = .ok (.aload_n 3, 1) := by decide +kernel
theorem dX6_shape_53 : decode cX6_shape 53 = .ok (.getfield 155, 3) := by decide +kernel
theorem dX6_shape_56 : decode cX6_shape 56 = .ok (.iload_n 1, 1) := by decide +kernel
theorem dX6_shape_57 : decode cX6_shape 57 = .ok (.iaload, 1) := by decide +kernel
theorem dX6_shape_58 : decode cX6_shape 58 = .ok (.ireturn, 1) := by decide +kernel
theorem dX6_shape_59 : decode cX6_shape 59 = .ok (.aload_n 3, 1) := by decide +kernel
theorem dX6_shape_60 : decode cX6_shape 60 = .ok (.getfield 158, 3) := by decide +kernel
theorem dX6_shape_63 : decode cX6_shape 63 = .ok (.iload_n 1, 1) := by decide +kernel
theorem dX6_shape_64 : decode cX6_shape 64 = .ok (.iaload, 1) := by decide +kernel
theorem dX6_shape_65 : decode cX6_shape 65 = .ok (.ireturn, 1) := by decide +kernel
theorem dX6_shape_66 : decode cX6_shape 66 = .ok (.aload_n 3, 1) := by decide +kernel
theorem dX6_shape_67 : decode cX6_shape 67 = .ok (.getfield 161, 3) := by decide +kernel
theorem dX6_shape_70 : decode cX6_shape 70 = .ok (.iload_n 1, 1) := by decide +kernel
theorem dX6_shape_71 : decode cX6_shape 71 = .ok (.iaload, 1) := by decide +kernel
theorem dX6_shape_72 : decode cX6_shape 72 = .ok (.ireturn, 1) := by decide +kernel
theorem dX6_shape_73 : decode cX6_shape 73 = .ok (.aload_n 3, 1) := by decide +kernel
theorem dX6_shape_74 : decode cX6_shape 74 = .ok (.iload_n 1, 1) := by decide +kernel
theorem dX6_shape_75 : decode cX6_shape 75 = .ok (.invokevirtual 164, 3) := by decide +kernel
theorem dX6_shape_78 : decode cX6_shape 78 = .ok (.bipush 100, 2) := by decide +kernel
theorem dX6_shape_80 : decode cX6_shape 80 = .ok (.iadd, 1) := by decide +kernel
theorem dX6_shape_81 : decode cX6_shape 81 = .ok (.ireturn, 1) := by decide +kernel
theorem dX6_shape_82 : decode cX6_shape 82 = .ok (.iconst (-1), 1) := by decide +kernel
theorem dX6_shape_83 : decode cX6_shape 83 = .ok (.ireturn, 1) := by decide +kernel
theorem dX6_place_0 : decode cX6_place 0 = .ok (.iload_n 1, 1) := by decide +kernel
theorem dX6_place_1 : decode cX6_place 1 = .ok (.iconst 1, 1) := by decide +kernel
theorem dX6_place_2 : decode cX6_place 2 = .ok (.if_icmp .lt 19, 3) := by decide +kernel
theorem dX6_place_5 : decode cX6_place 5 = .ok (.iload_n 1, 1) := by decide +kernel
theorem dX6_place_6 : decode cX6_place 6 = .ok (.aload_n 0, 1) := by decide +kernel
theorem dX6_place_7 : decode cX6_place 7 = .ok (.getfield 19, 3) := by decide +kernel
theorem dX6_place_10 : decode cX6_place 10 = .ok (.invokevirtual 167, 3) := by decide +kernel
theorem dX6_place_13 : decode cX6_place 13 = .ok (.if_icmp .gt 8, 3) := by decide +kernel
theorem dX6_place_16 : decode cX6_place 16 = .ok (.iload_n 2, 1) := by decide +kernel
theorem dX6_place_17 : decode cX6_place 17 = .ok (.iconst (-1), 1) := by decide +kernel
theorem dX6_place_18 : decode cX6_place 18 = .ok (.if_icmp .ge 5, 3) := by decide +kernel
theorem dX6_place_21 : decode cX6_place 21 = .ok (.iconst (-1), 1) := by decide +kernel
theorem dX6_place_22 : decode cX6_place 22 = .ok (.ireturn, 1) := by decide +kernel
theorem dX6_place_23 : decode cX6_place 23 = .ok (.iload_n 2, 1) := by decide +kernel
theorem dX6_place_24 : decode cX6_place 24 = .ok (.iconst (-1), 1) := by decide +kernel
theorem dX6_place_25 : decode cX6_place 25 = .ok (.if_icmp .ne 14, 3) := by decide +kernel
theorem dX6_place_28 : decode cX6_place 28 = .ok (.aload_n 0, 1) := by decide +kernel
theorem dX6_place_29 : decode cX6_place 29 = .ok (.invokevirtual 141, 3) := by decide +kernel
theorem dX6_place_32 : decode cX6_place 32 = .ok (.iload_n 1, 1) := by decide +kernel
theorem dX6_place_33 : decode cX6_place 33 = .ok (.invokevirtual 171, 3) := by decide +kernel
theorem dX6_place_36 : decode cX6_place 36 = .ok (.goto 12, 3) := by decide +kernel
theorem dX6_place_39 : decode cX6_place 39 = .ok (.aload_n 0, 1) := by decide +kernel
theorem dX6_place_40 : decode cX6_place 40 = .ok (.invokevirtual 141, 3) := by decide +kernel
theorem dX6_place_43 : decode cX6_place 43 = .ok (.iload_n 1, 1) := by decide +kernel
theorem dX6_place_44 : decode cX6_place 44 = .ok (.iload_n 2, 1) := by decide +kernel
theorem dX6_place_45 : decode cX6_place 45 = .ok (.invokevirtual 174, 3) := by decide +kernel
theorem dX6_place_48 : decode cX6_place 48 = .ok (.ireturn, 1) := by decide +kernel
theorem dX6_best_0 : decode cX6_best 0 = .ok (.iload_n 1, 1) := by decide +kernel
theorem dX6_best_1 : decode cX6_best 1 = .ok (.ifCond .lt 8, 3) := by decide +kernel
theorem dX6_best_4 : decode cX6_best 4 = .ok (.iload_n 1, 1) := by decide +kernel
theorem dX6_best_5 : decode cX6_best 5 = .ok (.iconst 1, 1) := by decide +kernel
theorem dX6_best_6 : decode cX6_best 6 = .ok (.if_icmp .le 5, 3) := by decide +kernel
theorem dX6_best_9 : decode cX6_best 9 = .ok (.iconst (-1), 1) := by decide +kernel
theorem dX6_best_10 : decode cX6_best 10 = .ok (.ireturn, 1) := by decide +kernel
theorem dX6_best_11 : decode cX6_best 11 = .ok (.aload_n 0, 1) := by decide +kernel
theorem dX6_best_12 : decode cX6_best 12 = .ok (.invokevirtual 141, 3) := by decide +kernel
theorem dX6_best_15 : decode cX6_best 15 = .ok (.invokevirtual 177, 3) := by decide +kernel
theorem dX6_best_18 : decode cX6_best 18 = .ok (.istore_n 2, 1) := by decide +kernel
theorem dX6_best_19 : decode cX6_best 19 = .ok (.iload_n 2, 1) := by decide +kernel
theorem dX6_best_20 : decode cX6_best 20 = .ok (.ifCond .ge 6, 3) := by decide +kernel
theorem dX6_best_23 : decode cX6_best 23 = .ok (.bipush (-4), 2) := by decide +kernel
theorem dX6_best_25 : decode cX6_best 25 = .ok (.ireturn, 1) := by decide +kernel
theorem dX6_best_26 : decode cX6_best 26 = .ok (.iload_n 1, 1) := by decide +kernel
theorem dX6_best_27 : decode cX6_best 27 = .ok (.ifCond .ne 7, 3) := by decide +kernel
theorem dX6_best_30 : decode cX6_best 30 = .ok (.iload_n 2, 1) := by decide +kernel
theorem dX6_best_31 : decode cX6_best 31 = .ok (.goto 14, 3) := by decide +kernel
theorem dX6_best_34 : decode cX6_best 34 = .ok (.aload_n 0, 1) := by decide +kernel
theorem dX6_best_35 : decode cX6_best 35 = .ok (.invokevirtual 141, 3) := by decide +kernel
theorem dX6_best_38 : decode cX6_best 38 = .ok (.iload_n 2, 1) := by decide +kernel
theorem dX6_best_39 : decode cX6_best 39 = .ok (.invokevirtual 164, 3) := by decide +kernel
theorem dX6_best_42 : decode cX6_best 42 = .ok (.bipush 100, 2) := by decide +kernel
theorem dX6_best_44 : decode cX6_best 44 = .ok (.iadd, 1) := by decide +kernel
theorem dX6_best_45 : decode cX6_best 45 = .ok (.ireturn, 1) := by decide +kernel
theorem dX6_parted_0 : decode cX6_parted 0 = .ok (.iload_n 1, 1) := by decide +kernel
theorem dX6_parted_1 : decode cX6_parted 1 = .ok (.ifCond .lt 12, 3) := by decide +kernel
theorem dX6_parted_4 : decode cX6_parted 4 = .ok (.iload_n 2, 1) := by decide +kernel
theorem dX6_parted_5 : decode cX6_parted 5 = .ok (.ifCond .lt 8, 3) := by decide +kernel
theorem dX6_parted_8 : decode cX6_parted 8 = .ok (.iload_n 2, 1) := by decide +kernel
theorem dX6_parted_9 : decode cX6_parted 9 = .ok (.iconst 2, 1) := by decide +kernel
theorem dX6_parted_10 : decode cX6_parted 10 = .ok (.if_icmp .le 5, 3) := by decide +kernel
theorem dX6_parted_13 : decode cX6_parted 13 = .ok (.iconst (-1), 1) := by decide +kernel
theorem dX6_parted_14 : decode cX6_parted 14 = .ok (.ireturn, 1) := by decide +kernel
theorem dX6_parted_15 : decode cX6_parted 15 = .ok (.aload_n 0, 1) := by decide +kernel
theorem dX6_parted_16 : decode cX6_parted 16 = .ok (.getfield 51, 3) := by decide +kernel
theorem dX6_parted_19 : decode cX6_parted 19 = .ok (.aload_n 0, 1) := by decide +kernel
theorem dX6_parted_20 : decode cX6_parted 20 = .ok (.getfield 19, 3) := by decide +kernel
theorem dX6_parted_23 : decode cX6_parted 23 = .ok (.aload_n 0, 1) := by decide +kernel
theorem dX6_parted_24 : decode cX6_parted 24 = .ok (.getfield 45, 3) := by decide +kernel
theorem dX6_parted_27 : decode cX6_parted 27 = .ok (.invokevirtual 180, 3) := by decide +kernel
theorem dX6_parted_30 : decode cX6_parted 30 = .ok (.iload_n 1, 1) := by decide +kernel
theorem dX6_parted_31 : decode cX6_parted 31 = .ok (.aload_n 0, 1) := by decide +kernel
theorem dX6_parted_32 : decode cX6_parted 32 = .ok (.getfield 51, 3) := by decide +kernel
theorem dX6_parted_35 : decode cX6_parted 35 = .ok (.getfield 184, 3) := by decide +kernel
theorem dX6_parted_38 : decode cX6_parted 38 = .ok (.if_icmp .lt 6, 3) := by decide +kernel
theorem dX6_parted_41 : decode cX6_parted 41 = .ok (.bipush (-4), 2) := by decide +kernel
theorem dX6_parted_43 : decode cX6_parted 43 = .ok (.ireturn, 1) := by decide +kernel
theorem dX6_parted_44 : decode cX6_parted 44 = .ok (.iload_n 2, 1) := by decide +kernel
theorem dX6_parted_45 : decode cX6_parted 45 = .ok (.ifCond .ne 13, 3) := by decide +kernel
theorem dX6_parted_48 : decode cX6_parted 48 = .ok (.aload_n 0, 1) := by decide +kernel
theorem dX6_parted_49 : decode cX6_parted 49 = .ok (.getfield 51, 3) := by decide +kernel
theorem dX6_parted_52 : decode cX6_parted 52 = .ok (.getfield 185, 3) := by decide +kernel
theorem dX6_parted_55 : decode cX6_parted 55 = .ok (.iload_n 1, 1) := by decide +kernel
theorem dX6_parted_56 : decode cX6_parted 56 = .ok (.iaload, 1) := by decide +kernel
theorem dX6_parted_57 : decode cX6_parted 57 = .ok (.ireturn, 1) := by decide +kernel
theorem dX6_parted_58 : decode cX6_parted 58 = .ok (.iload_n 2, 1) := by decide +kernel
theorem dX6_parted_59 : decode cX6_parted 59 = .ok (.iconst 1, 1) := by decide +kernel
theorem dX6_parted_60 : decode cX6_parted 60 = .ok (.if_icmp .ne 15, 3) := by decide +kernel
theorem dX6_parted_63 : decode cX6_parted 63 = .ok (.aload_n 0, 1) := by decide +kernel
theorem dX6_parted_64 : decode cX6_parted 64 = .ok (.getfield 51, 3) := by decide +kernel
theorem dX6_parted_67 : decode cX6_parted 67 = .ok (.getfield 188, 3) := by decide +kernel
theorem dX6_parted_70 : decode cX6_parted 70 = .ok (.iload_n 1, 1) := by decide +kernel
theorem dX6_parted_71 : decode cX6_parted 71 = .ok (.iaload, 1) := by decide +kernel
theorem dX6_parted_72 : decode cX6_parted 72 = .ok (.goto 12, 3) := by decide +kernel
theorem dX6_parted_75 : decode cX6_parted 75 = .ok (.aload_n 0, 1) := by decide +kernel
theorem dX6_parted_76 : decode cX6_parted 76 = .ok (.getfield 51, 3) := by decide +kernel
theorem dX6_parted_79 : decode cX6_parted 79 = .ok (.getfield 191, 3) := by decide +kernel
theorem dX6_parted_82 : decode cX6_parted 82 = .ok (.iload_n 1, 1) := by decide +kernel
theorem dX6_parted_83 : decode cX6_parted 83 = .ok (.iaload, 1) := by decide +kernel
theorem dX6_parted_84 : decode cX6_parted 84 = .ok (.ireturn, 1) := by decide +kernel
theorem dX6_parting_0 : decode cX6_parting 0 = .ok (.iload_n 1, 1) := by decide +kernel
theorem dX6_parting_1 : decode cX6_parting 1 = .ok (.ifCond .lt 8, 3) := by decide +kernel
theorem dX6_parting_4 : decode cX6_parting 4 = .ok (.iload_n 1, 1) := by decide +kernel
theorem dX6_parting_5 : decode cX6_parting 5 = .ok (.iconst 2, 1) := by decide +kernel
theorem dX6_parting_6 : decode cX6_parting 6 = .ok (.if_icmp .le 5, 3) := by decide +kernel
theorem dX6_parting_9 : decode cX6_parting 9 = .ok (.iconst (-1), 1) := by decide +kernel
theorem dX6_parting_10 : decode cX6_parting 10 = .ok (.ireturn, 1) := by decide +kernel
theorem dX6_parting_11 : decode cX6_parting 11 = .ok (.aload_n 0, 1) := by decide +kernel
theorem dX6_parting_12 : decode cX6_parting 12 = .ok (.getfield 51, 3) := by decide +kernel
theorem dX6_parting_15 : decode cX6_parting 15 = .ok (.aload_n 0, 1) := by decide +kernel
theorem dX6_parting_16 : decode cX6_parting 16 = .ok (.getfield 19, 3) := by decide +kernel
theorem dX6_parting_19 : decode cX6_parting 19 = .ok (.aload_n 0, 1) := by decide +kernel
theorem dX6_parting_20 : decode cX6_parting 20 = .ok (.getfield 45, 3) := by decide +kernel
theorem dX6_parting_23 : decode cX6_parting 23 = .ok (.invokevirtual 180, 3) := by decide +kernel
theorem dX6_parting_26 : decode cX6_parting 26 = .ok (.iload_n 1, 1) := by decide +kernel
theorem dX6_parting_27 : decode cX6_parting 27 = .ok (.ifCond .ne 11, 3) := by decide +kernel
theorem dX6_parting_30 : decode cX6_parting 30 = .ok (.aload_n 0, 1) := by decide +kernel
theorem dX6_parting_31 : decode cX6_parting 31 = .ok (.getfield 51, 3) := by decide +kernel
theorem dX6_parting_34 : decode cX6_parting 34 = .ok (.getfield 184, 3) := by decide +kernel
theorem dX6_parting_37 : decode cX6_parting 37 = .ok (.ireturn, 1) := by decide +kernel
theorem dX6_parting_38 : decode cX6_parting 38 = .ok (.iload_n 1, 1) := by decide +kernel
theorem dX6_parting_39 : decode cX6_parting 39 = .ok (.iconst 1, 1) := by decide +kernel
theorem dX6_parting_40 : decode cX6_parting 40 = .ok (.if_icmp .ne 13, 3) := by decide +kernel
theorem dX6_parting_43 : decode cX6_parting 43 = .ok (.aload_n 0, 1) := by decide +kernel
theorem dX6_parting_44 : decode cX6_parting 44 = .ok (.getfield 51, 3) := by decide +kernel
theorem dX6_parting_47 : decode cX6_parting 47 = .ok (.getfield 194, 3) := by decide +kernel
theorem dX6_parting_50 : decode cX6_parting 50 = .ok (.goto 10, 3) := by decide +kernel
theorem dX6_parting_53 : decode cX6_parting 53 = .ok (.aload_n 0, 1) := by decide +kernel
theorem dX6_parting_54 : decode cX6_parting 54 = .ok (.getfield 51, 3) := by decide +kernel
theorem dX6_parting_57 : decode cX6_parting 57 = .ok (.getfield 197, 3) := by decide +kernel
theorem dX6_parting_60 : decode cX6_parting 60 = .ok (.ireturn, 1) := by decide +kernel
theorem dX6_shapes_0 : decode cX6_shapes 0 = .ok (.iload_n 1, 1) := by decide +kernel
theorem dX6_shapes_1 : decode cX6_shapes 1 = .ok (.tableswitch 65 0 2 #[27, 35, 47], 27) := by decide +kernel
theorem dX6_shapes_28 : decode cX6_shapes 28 = .ok (.aload_n 0, 1) := by decide +kernel
theorem dX6_shapes_29 : decode cX6_shapes 29 = .ok (.invokevirtual 141, 3) := by decide +kernel
theorem dX6_shapes_32 : decode cX6_shapes 32 = .ok (.getfield 152, 3) := by decide +kernel
theorem dX6_shapes_35 : decode cX6_shapes 35 = .ok (.ireturn, 1) := by decide +kernel
theorem dX6_shapes_36 : decode cX6_shapes 36 = .ok (.aload_n 0, 1) := by decide +kernel
theorem dX6_shapes_37 : decode cX6_shapes 37 = .ok (.getfield 58, 3) := by decide +kernel
theorem dX6_shapes_40 : decode cX6_shapes 40 = .ok (.aload_n 0, 1) := by decide +kernel
theorem dX6_shapes_41 : decode cX6_shapes 41 = .ok (.invokevirtual 141, 3) := by decide +kernel
theorem dX6_shapes_44 : decode cX6_shapes 44 = .ok (.invokevirtual 200, 3) := by decide +kernel
theorem dX6_shapes_47 : decode cX6_shapes 47 = .ok (.ireturn, 1) := by decide +kernel
theorem dX6_shapes_48 : decode cX6_shapes 48 = .ok (.aload_n 0, 1) := by decide +kernel
theorem dX6_shapes_49 : decode cX6_shapes 49 = .ok (.getfield 19, 3) := by decide +kernel
theorem dX6_shapes_52 : decode cX6_shapes 52 = .ok (.invokevirtual 167, 3) := by decide +kernel
theorem dX6_shapes_55 : decode cX6_shapes 55 = .ok (.aload_n 0, 1) := by decide +kernel
theorem dX6_shapes_56 : decode cX6_shapes 56 = .ok (.invokevirtual 141, 3) := by decide +kernel
theorem dX6_shapes_59 : decode cX6_shapes 59 = .ok (.invokevirtual 204, 3) := by decide +kernel
theorem dX6_shapes_62 : decode cX6_shapes 62 = .ok (.iconst (-1), 1) := by decide +kernel
theorem dX6_shapes_63 : decode cX6_shapes 63 = .ok (.ixor, 1) := by decide +kernel
theorem dX6_shapes_64 : decode cX6_shapes 64 = .ok (.iand, 1) := by decide +kernel
theorem dX6_shapes_65 : decode cX6_shapes 65 = .ok (.ireturn, 1) := by decide +kernel
theorem dX6_shapes_66 : decode cX6_shapes 66 = .ok (.iconst (-1), 1) := by decide +kernel
theorem dX6_shapes_67 : decode cX6_shapes 67 = .ok (.ireturn, 1) := by decide +kernel
theorem dX6_link_0 : decode cX6_link 0 = .ok (.aload_n 0, 1) := by decide +kernel
theorem dX6_link_1 : decode cX6_link 1 = .ok (.iload_n 1, 1) := by decide +kernel
theorem dX6_link_2 : decode cX6_link 2 = .ok (.invokevirtual 100, 3) := by decide +kernel
theorem dX6_link_5 : decode cX6_link 5 = .ok (.ifCond .eq 16, 3) := by decide +kernel
theorem dX6_link_8 : decode cX6_link 8 = .ok (.aload_n 0, 1) := by decide +kernel
theorem dX6_link_9 : decode cX6_link 9 = .ok (.iload_n 2, 1) := by decide +kernel
theorem dX6_link_10 : decode cX6_link 10 = .ok (.invokevirtual 100, 3) := by decide +kernel
theorem dX6_link_13 : decode cX6_link 13 = .ok (.ifCond .eq 8, 3) := by decide +kernel
theorem dX6_link_16 : decode cX6_link 16 = .ok (.iload_n 1, 1) := by decide +kernel
theorem dX6_link_17 : decode cX6_link 17 = .ok (.iload_n 2, 1) := by decide +kernel
theorem dX6_link_18 : decode cX6_link 18 = .ok (.if_icmp .ne 5, 3) := by decide +kernel
theorem dX6_link_21 : decode cX6_link 21 = .ok (.iconst (-1), 1) := by decide +kernel
theorem dX6_link_22 : decode cX6_link 22 = .ok (.ireturn, 1) := by decide +kernel
theorem dX6_link_23 : decode cX6_link 23 = .ok (.aload_n 0, 1) := by decide +kernel
theorem dX6_link_24 : decode cX6_link 24 = .ok (.getfield 19, 3) := by decide +kernel
theorem dX6_link_27 : decode cX6_link 27 = .ok (.iload_n 2, 1) := by decide +kernel
theorem dX6_link_28 : decode cX6_link 28 = .ok (.invokevirtual 103, 3) := by decide +kernel
theorem dX6_link_31 : decode cX6_link 31 = .ok (.aload_n 0, 1) := by decide +kernel
theorem dX6_link_32 : decode cX6_link 32 = .ok (.getfield 19, 3) := by decide +kernel
theorem dX6_link_35 : decode cX6_link 35 = .ok (.iload_n 1, 1) := by decide +kernel
theorem dX6_link_36 : decode cX6_link 36 = .ok (.invokevirtual 103, 3) := by decide +kernel
theorem dX6_link_39 : decode cX6_link 39 = .ok (.isub, 1) := by decide +kernel
theorem dX6_link_40 : decode cX6_link 40 = .ok (.istore 4, 2) := by decide +kernel
theorem dX6_link_42 : decode cX6_link 42 = .ok (.aload_n 0, 1) := by decide +kernel
theorem dX6_link_43 : decode cX6_link 43 = .ok (.getfield 19, 3) := by decide +kernel
theorem dX6_link_46 : decode cX6_link 46 = .ok (.iload_n 2, 1) := by decide +kernel
theorem dX6_link_47 : decode cX6_link 47 = .ok (.invokevirtual 106, 3) := by decide +kernel
theorem dX6_link_50 : decode cX6_link 50 = .ok (.aload_n 0, 1) := by decide +kernel
theorem dX6_link_51 : decode cX6_link 51 = .ok (.getfield 19, 3) := by decide +kernel
theorem dX6_link_54 : decode cX6_link 54 = .ok (.iload_n 1, 1) := by decide +kernel
theorem dX6_link_55 : decode cX6_link 55 = .ok (.invokevirtual 106, 3) := by decide +kernel
theorem dX6_link_58 : decode cX6_link 58 = .ok (.isub, 1) := by decide +kernel
theorem dX6_link_59 : decode cX6_link 59 = .ok (.istore 5, 2) := by decide +kernel
theorem dX6_link_61 : decode cX6_link 61 = .ok (.aload_n 0, 1) := by decide +kernel
theorem dX6_link_62 : decode cX6_link 62 = .ok (.getfield 19, 3) := by decide +kernel
theorem dX6_link_65 : decode cX6_link 65 = .ok (.getfield 132, 3) := by decide +kernel
theorem dX6_link_68 : decode cX6_link 68 = .ok (.iconst 1, 1) := by decide +kernel
theorem dX6_link_69 : decode cX6_link 69 = .ok (.if_icmp .ne 12, 3) := by decide +kernel
theorem dX6_link_72 : decode cX6_link 72 = .ok (.iload 5, 2) := by decide +kernel
theorem dX6_link_74 : decode cX6_link 74 = .ok (.bipush 12, 2) := by decide +kernel
theorem dX6_link_76 : decode cX6_link 76 = .ok (.invokestatic 207, 3) := by decide +kernel
theorem dX6_link_79 : decode cX6_link 79 = .ok (.istore 5, 2) := by decide +kernel
theorem dX6_link_81 : decode cX6_link 81 = .ok (.iload_n 3, 1) := by decide +kernel
theorem dX6_link_82 : decode cX6_link 82 = .ok (.tableswitch 53 0 2 #[26, 32, 38], 26) := by decide +kernel
theorem dX6_link_108 : decode cX6_link 108 = .ok (.iload 4, 2) := by decide +kernel
theorem dX6_link_110 : decode cX6_link 110 = .ok (.bipush 50, 2) := by decide +kernel
theorem dX6_link_112 : decode cX6_link 112 = .ok (.iadd, 1) := by decide +kernel
theorem dX6_link_113 : decode cX6_link 113 = .ok (.ireturn, 1) := by decide +kernel
theorem dX6_link_114 : decode cX6_link 114 = .ok (.iload 5, 2) := by decide +kernel
theorem dX6_link_116 : decode cX6_link 116 = .ok (.bipush 50, 2) := by decide +kernel
theorem dX6_link_118 : decode cX6_link 118 = .ok (.iadd, 1) := by decide +kernel
theorem dX6_link_119 : decode cX6_link 119 = .ok (.ireturn, 1) := by decide +kernel
theorem dX6_link_120 : decode cX6_link 120 = .ok (.aload_n 0, 1) := by decide +kernel
theorem dX6_link_121 : decode cX6_link 121 = .ok (.invokevirtual 141, 3) := by decide +kernel
theorem dX6_link_124 : decode cX6_link 124 = .ok (.iload 4, 2) := by decide +kernel
theorem dX6_link_126 : decode cX6_link 126 = .ok (.iload 5, 2) := by decide +kernel
theorem dX6_link_128 : decode cX6_link 128 = .ok (.invokevirtual 145, 3) := by decide +kernel
theorem dX6_link_131 : decode cX6_link 131 = .ok (.invokestatic 212, 3) := by decide +kernel
theorem dX6_link_134 : decode cX6_link 134 = .ok (.ireturn, 1) := by decide +kernel
theorem dX6_link_135 : decode cX6_link 135 = .ok (.iconst (-1), 1) := by decide +kernel
theorem dX6_link_136 : decode cX6_link 136 = .ok (.ireturn, 1) := by decide +kernel
theorem dX6_better_0 : decode cX6_better 0 = .ok (.iload_n 1, 1) := by decide +kernel
theorem dX6_better_1 : decode cX6_better 1 = .ok (.ifCond .lt 8, 3) := by decide +kernel
theorem dX6_better_4 : decode cX6_better 4 = .ok (.iload_n 1, 1) := by decide +kernel
theorem dX6_better_5 : decode cX6_better 5 = .ok (.iconst 1, 1) := by decide +kernel
theorem dX6_better_6 : decode cX6_better 6 = .ok (.if_icmp .le 5, 3) := by decide +kernel
theorem dX6_better_9 : decode cX6_better 9 = .ok (.iconst (-1), 1) := by decide +kernel
theorem dX6_better_10 : decode cX6_better 10 = .ok (.ireturn, 1) := by decide +kernel
theorem dX6_better_11 : decode cX6_better 11 = .ok (.aload_n 0, 1) := by decide +kernel
theorem dX6_better_12 : decode cX6_better 12 = .ok (.getfield 19, 3) := by decide +kernel
theorem dX6_better_15 : decode cX6_better 15 = .ok (.getfield 89, 3) := by decide +kernel
theorem dX6_better_18 : decode cX6_better 18 = .ok (.bipush 14, 2) := by decide +kernel
theorem dX6_better_20 : decode cX6_better 20 = .ok (.if_icmp .lt 6, 3) := by decide +kernel
theorem dX6_better_23 : decode cX6_better 23 = .ok (.bipush (-4), 2) := by decide +kernel
theorem dX6_better_25 : decode cX6_better 25 = .ok (.ireturn, 1) := by decide +kernel
theorem dX6_better_26 : decode cX6_better 26 = .ok (.aload_n 0, 1) := by decide +kernel
theorem dX6_better_27 : decode cX6_better 27 = .ok (.getfield 217, 3) := by decide +kernel
theorem dX6_better_30 : decode cX6_better 30 = .ok (.ifCond .ne 7, 3) := by decide +kernel
theorem dX6_better_33 : decode cX6_better 33 = .ok (.aload_n 0, 1) := by decide +kernel
theorem dX6_better_34 : decode cX6_better 34 = .ok (.invokevirtual 221, 3) := by decide +kernel
theorem dX6_better_37 : decode cX6_better 37 = .ok (.iload_n 1, 1) := by decide +kernel
theorem dX6_better_38 : decode cX6_better 38 = .ok (.ifCond .ne 22, 3) := by decide +kernel
theorem dX6_better_41 : decode cX6_better 41 = .ok (.bipush 100, 2) := by decide +kernel
theorem dX6_better_43 : decode cX6_better 43 = .ok (.aload_n 0, 1) := by decide +kernel
theorem dX6_better_44 : decode cX6_better 44 = .ok (.getfield 224, 3) := by decide +kernel
theorem dX6_better_47 : decode cX6_better 47 = .ok (.bipush 12, 2) := by decide +kernel
theorem dX6_better_49 : decode cX6_better 49 = .ok (.idiv, 1) := by decide +kernel
theorem dX6_better_50 : decode cX6_better 50 = .ok (.imul, 1) := by decide +kernel
theorem dX6_better_51 : decode cX6_better 51 = .ok (.aload_n 0, 1) := by decide +kernel
theorem dX6_better_52 : decode cX6_better 52 = .ok (.getfield 224, 3) := by decide +kernel
theorem dX6_better_55 : decode cX6_better 55 = .ok (.bipush 12, 2) := by decide +kernel
theorem dX6_better_57 : decode cX6_better 57 = .ok (.irem, 1) := by decide +kernel
theorem dX6_better_58 : decode cX6_better 58 = .ok (.iadd, 1) := by decide +kernel
theorem dX6_better_59 : decode cX6_better 59 = .ok (.ireturn, 1) := by decide +kernel
theorem dX6_better_60 : decode cX6_better 60 = .ok (.aload_n 0, 1) := by decide +kernel
theorem dX6_better_61 : decode cX6_better 61 = .ok (.getfield 227, 3) := by decide +kernel
theorem dX6_better_64 : decode cX6_better 64 = .ok (.sipush (-10000), 3) := by decide +kernel
theorem dX6_better_67 : decode cX6_better 67 = .ok (.if_icmp .ne 8, 3) := by decide +kernel
theorem dX6_better_70 : decode cX6_better 70 = .ok (.bipush (-4), 2) := by decide +kernel
theorem dX6_better_72 : decode cX6_better 72 = .ok (.goto 10, 3) := by decide +kernel
theorem dX6_better_75 : decode cX6_better 75 = .ok (.aload_n 0, 1) := by decide +kernel
theorem dX6_better_76 : decode cX6_better 76 = .ok (.getfield 227, 3) := by decide +kernel
theorem dX6_better_79 : decode cX6_better 79 = .ok (.bipush 100, 2) := by decide +kernel
theorem dX6_better_81 : decode cX6_better 81 = .ok (.iadd, 1) := by decide +kernel
theorem dX6_better_82 : decode cX6_better 82 = .ok (.ireturn, 1) := by decide +kernel
theorem dX6_day_0 : decode cX6_day 0 = .ok (.iload_n 1, 1) := by decide +kernel
theorem dX6_day_1 : decode cX6_day 1 = .ok (.ifCond .lt 30, 3) := by decide +kernel
theorem dX6_day_4 : decode cX6_day 4 = .ok (.iload_n 1, 1) := by decide +kernel
theorem dX6_day_5 : decode cX6_day 5 = .ok (.sipush 9999, 3) := by decide +kernel
theorem dX6_day_8 : decode cX6_day 8 = .ok (.if_icmp .gt 23, 3) := by decide +kernel
theorem dX6_day_11 : decode cX6_day 11 = .ok (.iload_n 2, 1) := by decide +kernel
theorem dX6_day_12 : decode cX6_day 12 = .ok (.iconst 1, 1) := by decide +kernel
theorem dX6_day_13 : decode cX6_day 13 = .ok (.if_icmp .lt 18, 3) := by decide +kernel
theorem dX6_day_16 : decode cX6_day 16 = .ok (.iload_n 2, 1) := by decide +kernel
theorem dX6_day_17 : decode cX6_day 17 = .ok (.bipush 20, 2) := by decide +kernel
theorem dX6_day_19 : decode cX6_day 19 = .ok (.if_icmp .gt 12, 3) := by decide +kernel
theorem dX6_day_22 : decode cX6_day 22 = .ok (.iload_n 3, 1) := by decide +kernel
theorem dX6_day_23 : decode cX6_day 23 = .ok (.ifCond .lt 8, 3) := by decide +kernel
theorem dX6_day_26 : decode cX6_day 26 = .ok (.iload_n 3, 1) := by decide +kernel
theorem dX6_day_27 : decode cX6_day 27 = .ok (.iconst 2, 1) := by decide +kernel
theorem dX6_day_28 : decode cX6_day 28 = .ok (.if_icmp .le 5, 3) := by decide +kernel
theorem dX6_day_31 : decode cX6_day 31 = .ok (.iconst (-1), 1) := by decide +kernel
theorem dX6_day_32 : decode cX6_day 32 = .ok (.ireturn, 1) := by decide +kernel
theorem dX6_day_33 : decode cX6_day 33 = .ok (.aload_n 0, 1) := by decide +kernel
theorem dX6_day_34 : decode cX6_day 34 = .ok (.getfield 23, 3) := by decide +kernel
theorem dX6_day_37 : decode cX6_day 37 = .ok (.aload_n 0, 1) := by decide +kernel
theorem dX6_day_38 : decode cX6_day 38 = .ok (.getfield 19, 3) := by decide +kernel
theorem dX6_day_41 : decode cX6_day 41 = .ok (.invokevirtual 92, 3) := by decide +kernel
theorem dX6_day_44 : decode cX6_day 44 = .ok (.iconst 0, 1) := by decide +kernel
theorem dX6_day_45 : decode cX6_day 45 = .ok (.istore 4, 2) := by decide +kernel
theorem dX6_day_47 : decode cX6_day 47 = .ok (.iload 4, 2) := by decide +kernel
theorem dX6_day_49 : decode cX6_day 49 = .ok (.iload_n 2, 1) := by decide +kernel
theorem dX6_day_50 : decode cX6_day 50 = .ok (.if_icmp .ge 16, 3) := by decide +kernel
theorem dX6_day_53 : decode cX6_day 53 = .ok (.aload_n 0, 1) := by decide +kernel
theorem dX6_day_54 : decode cX6_day 54 = .ok (.iload_n 1, 1) := by decide +kernel
theorem dX6_day_55 : decode cX6_day 55 = .ok (.iload 4, 2) := by decide +kernel
theorem dX6_day_57 : decode cX6_day 57 = .ok (.invokevirtual 230, 3) := by decide +kernel
theorem dX6_day_60 : decode cX6_day 60 = .ok (.iinc 4 1, 3) := by decide +kernel
theorem dX6_day_63 : decode cX6_day 63 = .ok (.goto (-16), 3) := by decide +kernel
theorem dX6_day_66 : decode cX6_day 66 = .ok (.iload_n 3, 1) := by decide +kernel
theorem dX6_day_67 : decode cX6_day 67 = .ok (.ifCond .ne 11, 3) := by decide +kernel
theorem dX6_day_70 : decode cX6_day 70 = .ok (.aload_n 0, 1) := by decide +kernel
theorem dX6_day_71 : decode cX6_day 71 = .ok (.getfield 23, 3) := by decide +kernel
theorem dX6_day_74 : decode cX6_day 74 = .ok (.getfield 89, 3) := by decide +kernel
theorem dX6_day_77 : decode cX6_day 77 = .ok (.ireturn, 1) := by decide +kernel
theorem dX6_day_78 : decode cX6_day 78 = .ok (.iload_n 3, 1) := by decide +kernel
theorem dX6_day_79 : decode cX6_day 79 = .ok (.iconst 1, 1) := by decide +kernel
theorem dX6_day_80 : decode cX6_day 80 = .ok (.if_icmp .ne 29, 3) := by decide +kernel
theorem dX6_day_83 : decode cX6_day 83 = .ok (.aload_n 0, 1) := by decide +kernel
theorem dX6_day_84 : decode cX6_day 84 = .ok (.getfield 45, 3) := by decide +kernel
theorem dX6_day_87 : decode cX6_day 87 = .ok (.aload_n 0, 1) := by decide +kernel
theorem dX6_day_88 : decode cX6_day 88 = .ok (.getfield 23, 3) := by decide +kernel
theorem dX6_day_91 : decode cX6_day 91 = .ok (.aload_n 0, 1) := by decide +kernel
theorem dX6_day_92 : decode cX6_day 92 = .ok (.getfield 23, 3) := by decide +kernel
theorem dX6_day_95 : decode cX6_day 95 = .ok (.invokevirtual 167, 3) := by decide +kernel
theorem dX6_day_98 : decode cX6_day 98 = .ok (.invokevirtual 234, 3) := by decide +kernel
theorem dX6_day_101 : decode cX6_day 101 = .ok (.aload_n 0, 1) := by decide +kernel
theorem dX6_day_102 : decode cX6_day 102 = .ok (.getfield 45, 3) := by decide +kernel
theorem dX6_day_105 : decode cX6_day 105 = .ok (.getfield 152, 3) := by decide +kernel
theorem dX6_day_108 : decode cX6_day 108 = .ok (.ireturn, 1) := by decide +kernel
theorem dX6_day_109 : decode cX6_day 109 = .ok (.aload_n 0, 1) := by decide +kernel
theorem dX6_day_110 : decode cX6_day 110 = .ok (.getfield 51, 3) := by decide +kernel
theorem dX6_day_113 : decode cX6_day 113 = .ok (.aload_n 0, 1) := by decide +kernel
theorem dX6_day_114 : decode cX6_day 114 = .ok (.getfield 23, 3) := by decide +kernel
theorem dX6_day_117 : decode cX6_day 117 = .ok (.aload_n 0, 1) := by decide +kernel
theorem dX6_day_118 : decode cX6_day 118 = .ok (.getfield 45, 3) := by decide +kernel
theorem dX6_day_121 : decode cX6_day 121 = .ok (.invokevirtual 180, 3) := by decide +kernel
theorem dX6_day_124 : decode cX6_day 124 = .ok (.aload_n 0, 1) := by decide +kernel
theorem dX6_day_125 : decode cX6_day 125 = .ok (.getfield 51, 3) := by decide +kernel
theorem dX6_day_128 : decode cX6_day 128 = .ok (.getfield 197, 3) := by decide +kernel
theorem dX6_day_131 : decode cX6_day 131 = .ok (.ireturn, 1) := by decide +kernel
theorem dX6_keep_0 : decode cX6_keep 0 = .ok (.aload_n 0, 1) := by decide +kernel
theorem dX6_keep_1 : decode cX6_keep 1 = .ok (.getfield 35, 3) := by decide +kernel
theorem dX6_keep_4 : decode cX6_keep 4 = .ok (.getfield 96, 3) := by decide +kernel
theorem dX6_keep_7 : decode cX6_keep 7 = .ok (.iconst 2, 1) := by decide +kernel
theorem dX6_keep_8 : decode cX6_keep 8 = .ok (.if_icmp .lt 6, 3) := by decide +kernel
theorem dX6_keep_11 : decode cX6_keep 11 = .ok (.bipush (-3), 2) := by decide +kernel
theorem dX6_keep_13 : decode cX6_keep 13 = .ok (.ireturn, 1) := by decide +kernel
theorem dX6_keep_14 : decode cX6_keep 14 = .ok (.aload_n 0, 1) := by decide +kernel
theorem dX6_keep_15 : decode cX6_keep 15 = .ok (.getfield 35, 3) := by decide +kernel
theorem dX6_keep_18 : decode cX6_keep 18 = .ok (.aload_n 0, 1) := by decide +kernel
theorem dX6_keep_19 : decode cX6_keep 19 = .ok (.getfield 19, 3) := by decide +kernel
theorem dX6_keep_22 : decode cX6_keep 22 = .ok (.invokevirtual 238, 3) := by decide +kernel
theorem dX6_keep_25 : decode cX6_keep 25 = .ok (.aload_n 0, 1) := by decide +kernel
theorem dX6_keep_26 : decode cX6_keep 26 = .ok (.getfield 35, 3) := by decide +kernel
theorem dX6_keep_29 : decode cX6_keep 29 = .ok (.getfield 96, 3) := by decide +kernel
theorem dX6_keep_32 : decode cX6_keep 32 = .ok (.ireturn, 1) := by decide +kernel
theorem dX6_back_0 : decode cX6_back 0 = .ok (.aload_n 0, 1) := by decide +kernel
theorem dX6_back_1 : decode cX6_back 1 = .ok (.getfield 35, 3) := by decide +kernel
theorem dX6_back_4 : decode cX6_back 4 = .ok (.getfield 96, 3) := by decide +kernel
theorem dX6_back_7 : decode cX6_back 7 = .ok (.ifCond .ne 6, 3) := by decide +kernel
theorem dX6_back_10 : decode cX6_back 10 = .ok (.bipush (-2), 2) := by decide +kernel
theorem dX6_back_12 : decode cX6_back 12 = .ok (.ireturn, 1) := by decide +kernel
theorem dX6_back_13 : decode cX6_back 13 = .ok (.aload_n 0, 1) := by decide +kernel
theorem dX6_back_14 : decode cX6_back 14 = .ok (.getfield 35, 3) := by decide +kernel
theorem dX6_back_17 : decode cX6_back 17 = .ok (.aload_n 0, 1) := by decide +kernel
theorem dX6_back_18 : decode cX6_back 18 = .ok (.getfield 19, 3) := by decide +kernel
theorem dX6_back_21 : decode cX6_back 21 = .ok (.invokevirtual 135, 3) := by decide +kernel
theorem dX6_back_24 : decode cX6_back 24 = .ok (.aload_n 0, 1) := by decide +kernel
theorem dX6_back_25 : decode cX6_back 25 = .ok (.getfield 31, 3) := by decide +kernel
theorem dX6_back_28 : decode cX6_back 28 = .ok (.iconst 0, 1) := by decide +kernel
theorem dX6_back_29 : decode cX6_back 29 = .ok (.putfield 96, 3) := by decide +kernel
theorem dX6_back_32 : decode cX6_back 32 = .ok (.aload_n 0, 1) := by decide +kernel
theorem dX6_back_33 : decode cX6_back 33 = .ok (.invokevirtual 97, 3) := by decide +kernel
theorem dX6_back_36 : decode cX6_back 36 = .ok (.aload_n 0, 1) := by decide +kernel
theorem dX6_back_37 : decode cX6_back 37 = .ok (.getfield 35, 3) := by decide +kernel
theorem dX6_back_40 : decode cX6_back 40 = .ok (.getfield 96, 3) := by decide +kernel
theorem dX6_back_43 : decode cX6_back 43 = .ok (.ireturn, 1) := by decide +kernel
theorem dX6_count_0 : decode cX6_count 0 = .ok (.iload_n 1, 1) := by decide +kernel
theorem dX6_count_1 : decode cX6_count 1 = .ok (.tableswitch 75 0 4 #[35, 43, 51, 59, 67], 35) := by decide +kernel
theorem dX6_count_36 : decode cX6_count 36 = .ok (.aload_n 0, 1) := by decide +kernel
theorem dX6_count_37 : decode cX6_count 37 = .ok (.getfield 19, 3) := by decide +kernel
theorem dX6_count_40 : decode cX6_count 40 = .ok (.getfield 89, 3) := by decide +kernel
theorem dX6_count_43 : decode cX6_count 43 = .ok (.ireturn, 1) := by decide +kernel
theorem dX6_count_44 : decode cX6_count 44 = .ok (.aload_n 0, 1) := by decide +kernel
theorem dX6_count_45 : decode cX6_count 45 = .ok (.getfield 19, 3) := by decide +kernel
theorem dX6_count_48 : decode cX6_count 48 = .ok (.getfield 132, 3) := by decide +kernel
theorem dX6_count_51 : decode cX6_count 51 = .ok (.ireturn, 1) := by decide +kernel
theorem dX6_count_52 : decode cX6_count 52 = .ok (.aload_n 0, 1) := by decide +kernel
theorem dX6_count_53 : decode cX6_count 53 = .ok (.getfield 31, 3) := by decide +kernel
theorem dX6_count_56 : decode cX6_count 56 = .ok (.getfield 96, 3) := by decide +kernel
theorem dX6_count_59 : decode cX6_count 59 = .ok (.ireturn, 1) := by decide +kernel
theorem dX6_count_60 : decode cX6_count 60 = .ok (.aload_n 0, 1) := by decide +kernel
theorem dX6_count_61 : decode cX6_count 61 = .ok (.getfield 35, 3) := by decide +kernel
theorem dX6_count_64 : decode cX6_count 64 = .ok (.getfield 96, 3) := by decide +kernel
theorem dX6_count_67 : decode cX6_count 67 = .ok (.ireturn, 1) := by decide +kernel
theorem dX6_count_68 : decode cX6_count 68 = .ok (.aload_n 0, 1) := by decide +kernel
theorem dX6_count_69 : decode cX6_count 69 = .ok (.getfield 12, 3) := by decide +kernel
theorem dX6_count_72 : decode cX6_count 72 = .ok (.getfield 81, 3) := by decide +kernel
theorem dX6_count_75 : decode cX6_count 75 = .ok (.ireturn, 1) := by decide +kernel
theorem dX6_count_76 : decode cX6_count 76 = .ok (.iconst (-1), 1) := by decide +kernel
theorem dX6_count_77 : decode cX6_count 77 = .ok (.ireturn, 1) := by decide +kernel
theorem dX6_beginAct_0 : decode cX6_beginAct 0 = .ok (.aload_n 0, 1) := by decide +kernel
theorem dX6_beginAct_1 : decode cX6_beginAct 1 = .ok (.getfield 31, 3) := by decide +kernel
theorem dX6_beginAct_4 : decode cX6_beginAct 4 = .ok (.aload_n 0, 1) := by decide +kernel
theorem dX6_beginAct_5 : decode cX6_beginAct 5 = .ok (.getfield 19, 3) := by decide +kernel
theorem dX6_beginAct_8 : decode cX6_beginAct 8 = .ok (.invokevirtual 238, 3) := by decide +kernel
theorem dX6_beginAct_11 : decode cX6_beginAct 11 = .ok (.aload_n 0, 1) := by decide +kernel
theorem dX6_beginAct_12 : decode cX6_beginAct 12 = .ok (.invokevirtual 97, 3) := by decide +kernel
theorem dX6_beginAct_15 : decode cX6_beginAct 15 = .ok (.return_, 1) := by decide +kernel
theorem dX6_forgetFindings_0 : decode cX6_forgetFindings 0 = .ok (.aload_n 0, 1) := by decide +kernel
theorem dX6_forgetFindings_1 : decode cX6_forgetFindings 1 = .ok (.iconst 0, 1) := by decide +kernel
theorem dX6_forgetFindings_2 : decode cX6_forgetFindings 2 = .ok (.putfield 241, 3) := by decide +kernel
theorem dX6_forgetFindings_5 : decode cX6_forgetFindings 5 = .ok (.aload_n 0, 1) := by decide +kernel
theorem dX6_forgetFindings_6 : decode cX6_forgetFindings 6 = .ok (.iconst 0, 1) := by decide +kernel
theorem dX6_forgetFindings_7 : decode cX6_forgetFindings 7 = .ok (.putfield 217, 3) := by decide +kernel
theorem dX6_forgetFindings_10 : decode cX6_forgetFindings 10 = .ok (.return_, 1) := by decide +kernel
theorem dX6_wholeSearch_0 : decode cX6_wholeSearch 0 = .ok (.aload_n 0, 1) := by decide +kernel
theorem dX6_wholeSearch_1 : decode cX6_wholeSearch 1 = .ok (.getfield 241, 3) := by decide +kernel
theorem dX6_wholeSearch_4 : decode cX6_wholeSearch 4 = .ok (.ifCond .ne 26, 3) := by decide +kernel
theorem dX6_wholeSearch_7 : decode cX6_wholeSearch 7 = .ok (.aload_n 0, 1) := by decide +kernel
theorem dX6_wholeSearch_8 : decode cX6_wholeSearch 8 = .ok (.getfield 41, 3) := by decide +kernel
theorem dX6_wholeSearch_11 : decode cX6_wholeSearch 11 = .ok (.aload_n 0, 1) := by decide +kernel
theorem dX6_wholeSearch_12 : decode cX6_wholeSearch 12 = .ok (.getfield 19, 3) := by decide +kernel
theorem dX6_wholeSearch_15 : decode cX6_wholeSearch 15 = .ok (.aload_n 0, 1) := by decide +kernel
theorem dX6_wholeSearch_16 : decode cX6_wholeSearch 16 = .ok (.getfield 19, 3) := by decide +kernel
theorem dX6_wholeSearch_19 : decode cX6_wholeSearch 19 = .ok (.invokevirtual 167, 3) := by decide +kernel
theorem dX6_wholeSearch_22 : decode cX6_wholeSearch 22 = .ok (.invokevirtual 234, 3) := by decide +kernel
theorem dX6_wholeSearch_25 : decode cX6_wholeSearch 25 = .ok (.aload_n 0, 1) := by decide +kernel
theorem dX6_wholeSearch_26 : decode cX6_wholeSearch 26 = .ok (.iconst 1, 1) := by decide +kernel
theorem dX6_wholeSearch_27 : decode cX6_wholeSearch 27 = .ok (.putfield 241, 3) := by decide +kernel
theorem dX6_wholeSearch_30 : decode cX6_wholeSearch 30 = .ok (.aload_n 0, 1) := by decide +kernel
theorem dX6_wholeSearch_31 : decode cX6_wholeSearch 31 = .ok (.getfield 41, 3) := by decide +kernel
theorem dX6_wholeSearch_34 : decode cX6_wholeSearch 34 = .ok (.areturn, 1) := by decide +kernel
theorem dX6_findBetter_0 : decode cX6_findBetter 0 = .ok (.aload_n 0, 1) := by decide +kernel
theorem dX6_findBetter_1 : decode cX6_findBetter 1 = .ok (.iconst (-1), 1) := by decide +kernel
theorem dX6_findBetter_2 : decode cX6_findBetter 2 = .ok (.putfield 224, 3) := by decide +kernel
theorem dX6_findBetter_5 : decode cX6_findBetter 5 = .ok (.aload_n 0, 1) := by decide +kernel
theorem dX6_findBetter_6 : decode cX6_findBetter 6 = .ok (.sipush (-10000), 3) := by decide +kernel
theorem dX6_findBetter_9 : decode cX6_findBetter 9 = .ok (.putfield 227, 3) := by decide +kernel
theorem dX6_findBetter_12 : decode cX6_findBetter 12 = .ok (.aload_n 0, 1) := by decide +kernel
theorem dX6_findBetter_13 : decode cX6_findBetter 13 = .ok (.getfield 23, 3) := by decide +kernel
theorem dX6_findBetter_16 : decode cX6_findBetter 16 = .ok (.aload_n 0, 1) := by decide +kernel
theorem dX6_findBetter_17 : decode cX6_findBetter 17 = .ok (.getfield 19, 3) := by decide +kernel
theorem dX6_findBetter_20 : decode cX6_findBetter 20 = .ok (.invokevirtual 92, 3) := by decide +kernel
theorem dX6_findBetter_23 : decode cX6_findBetter 23 = .ok (.iconst 0, 1) := by decide +kernel
theorem dX6_findBetter_24 : decode cX6_findBetter 24 = .ok (.istore_n 1, 1) := by decide +kernel
theorem dX6_findBetter_25 : decode cX6_findBetter 25 = .ok (.iload_n 1, 1) := by decide +kernel
theorem dX6_findBetter_26 : decode cX6_findBetter 26 = .ok (.sipush 240, 3) := by decide +kernel
theorem dX6_findBetter_29 : decode cX6_findBetter 29 = .ok (.if_icmp .ge 104, 3) := by decide +kernel
theorem dX6_findBetter_32 : decode cX6_findBetter 32 = .ok (.aload_n 0, 1) := by decide +kernel
theorem dX6_findBetter_33 : decode cX6_findBetter 33 = .ok (.getfield 23, 3) := by decide +kernel
theorem dX6_findBetter_36 : decode cX6_findBetter 36 = .ok (.iload_n 1, 1) := by decide +kernel
theorem dX6_findBetter_37 : decode cX6_findBetter 37 = .ok (.invokevirtual 113, 3) := by decide +kernel
theorem dX6_findBetter_40 : decode cX6_findBetter 40 = .ok (.ifCond .ge 14, 3) := by decide +kernel
theorem dX6_findBetter_43 : decode cX6_findBetter 43 = .ok (.aload_n 0, 1) := by decide +kernel
theorem dX6_findBetter_44 : decode cX6_findBetter 44 = .ok (.getfield 23, 3) := by decide +kernel
theorem dX6_findBetter_47 : decode cX6_findBetter 47 = .ok (.iload_n 1, 1) := by decide +kernel
theorem dX6_findBetter_48 : decode cX6_findBetter 48 = .ok (.invokevirtual 73, 3) := by decide +kernel
theorem dX6_findBetter_51 : decode cX6_findBetter 51 = .ok (.goto 5, 3) := by decide +kernel
theorem dX6_findBetter_54 : decode cX6_findBetter 54 = .ok (.bipush (-4), 2) := by decide +kernel
theorem dX6_findBetter_56 : decode cX6_findBetter 56 = .ok (.istore_n 2, 1) := by decide +kernel
theorem dX6_findBetter_57 : decode cX6_findBetter 57 = .ok (.iload_n 2, 1) := by decide +kernel
theorem dX6_findBetter_58 : decode cX6_findBetter 58 = .ok (.ifCond .lt 69, 3) := by decide +kernel
theorem dX6_findBetter_61 : decode cX6_findBetter 61 = .ok (.aload_n 0, 1) := by decide +kernel
theorem dX6_findBetter_62 : decode cX6_findBetter 62 = .ok (.getfield 45, 3) := by decide +kernel
theorem dX6_findBetter_65 : decode cX6_findBetter 65 = .ok (.aload_n 0, 1) := by decide +kernel
theorem dX6_findBetter_66 : decode cX6_findBetter 66 = .ok (.getfield 23, 3) := by decide +kernel
theorem dX6_findBetter_69 : decode cX6_findBetter 69 = .ok (.aload_n 0, 1) := by decide +kernel
theorem dX6_findBetter_70 : decode cX6_findBetter 70 = .ok (.getfield 23, 3) := by decide +kernel
theorem dX6_findBetter_73 : decode cX6_findBetter 73 = .ok (.invokevirtual 167, 3) := by decide +kernel
theorem dX6_findBetter_76 : decode cX6_findBetter 76 = .ok (.invokevirtual 234, 3) := by decide +kernel
theorem dX6_findBetter_79 : decode cX6_findBetter 79 = .ok (.aload_n 0, 1) := by decide +kernel
theorem dX6_findBetter_80 : decode cX6_findBetter 80 = .ok (.getfield 45, 3) := by decide +kernel
theorem dX6_findBetter_83 : decode cX6_findBetter 83 = .ok (.aload_n 0, 1) := by decide +kernel
theorem dX6_findBetter_84 : decode cX6_findBetter 84 = .ok (.getfield 45, 3) := by decide +kernel
theorem dX6_findBetter_87 : decode cX6_findBetter 87 = .ok (.invokevirtual 177, 3) := by decide +kernel
theorem dX6_findBetter_90 : decode cX6_findBetter 90 = .ok (.invokevirtual 164, 3) := by decide +kernel
theorem dX6_findBetter_93 : decode cX6_findBetter 93 = .ok (.istore_n 3, 1) := by decide +kernel
theorem dX6_findBetter_94 : decode cX6_findBetter 94 = .ok (.aload_n 0, 1) := by decide +kernel
theorem dX6_findBetter_95 : decode cX6_findBetter 95 = .ok (.getfield 224, 3) := by decide +kernel
theorem dX6_findBetter_98 : decode cX6_findBetter 98 = .ok (.ifCond .lt 11, 3) := by decide +kernel
theorem dX6_findBetter_101 : decode cX6_findBetter 101 = .ok (.iload_n 3, 1) := by decide +kernel
theorem dX6_findBetter_102 : decode cX6_findBetter 102 = .ok (.aload_n 0, 1) := by decide +kernel
theorem dX6_findBetter_103 : decode cX6_findBetter 103 = .ok (.getfield 227, 3) := by decide +kernel
theorem dX6_findBetter_106 : decode cX6_findBetter 106 = .ok (.if_icmp .le 13, 3) := by decide +kernel
theorem dX6_findBetter_109 : decode cX6_findBetter 109 = .ok (.aload_n 0, 1) := by decide +kernel
theorem dX6_findBetter_110 : decode cX6_findBetter 110 = .ok (.iload_n 1, 1) := by decide +kernel
theorem dX6_findBetter_111 : decode cX6_findBetter 111 = .ok (.putfield 224, 3) := by decide +kernel
theorem dX6_findBetter_114 : decode cX6_findBetter 114 = .ok (.aload_n 0, 1) := by decide +kernel
theorem dX6_findBetter_115 : decode cX6_findBetter 115 = .ok (.iload_n 3, 1) := by decide +kernel
theorem dX6_findBetter_116 : decode cX6_findBetter 116 = .ok (.putfield 227, 3) := by decide +kernel
theorem dX6_findBetter_119 : decode cX6_findBetter 119 = .ok (.aload_n 0, 1) := by decide +kernel
theorem dX6_findBetter_120 : decode cX6_findBetter 120 = .ok (.getfield 23, 3) := by decide +kernel
theorem dX6_findBetter_123 : decode cX6_findBetter 123 = .ok (.iload_n 2, 1) := by decide +kernel
theorem dX6_findBetter_124 : decode cX6_findBetter 124 = .ok (.invokevirtual 119, 3) := by decide +kernel
theorem dX6_findBetter_127 : decode cX6_findBetter 127 = .ok (.iinc 1 1, 3) := by decide +kernel
theorem dX6_findBetter_130 : decode cX6_findBetter 130 = .ok (.goto (-105), 3) := by decide +kernel
theorem dX6_findBetter_133 : decode cX6_findBetter 133 = .ok (.aload_n 0, 1) := by decide +kernel
theorem dX6_findBetter_134 : decode cX6_findBetter 134 = .ok (.iconst 1, 1) := by decide +kernel
theorem dX6_findBetter_135 : decode cX6_findBetter 135 = .ok (.putfield 217, 3) := by decide +kernel
theorem dX6_findBetter_138 : decode cX6_findBetter 138 = .ok (.return_, 1) := by decide +kernel
theorem dX6_drawOnce_0 : decode cX6_drawOnce 0 = .ok (.ldc2_w 244, 3) := by decide +kernel
theorem dX6_drawOnce_3 : decode cX6_drawOnce 3 = .ok (.iload_n 1, 1) := by decide +kernel
theorem dX6_drawOnce_4 : decode cX6_drawOnce 4 = .ok (.i2l, 1) := by decide +kernel
theorem dX6_drawOnce_5 : decode cX6_drawOnce 5 = .ok (.lmul, 1) := by decide +kernel
theorem dX6_drawOnce_6 : decode cX6_drawOnce 6 = .ok (.ldc2_w 246, 3) := by decide +kernel
theorem dX6_drawOnce_9 : decode cX6_drawOnce 9 = .ok (.iload_n 2, 1) := by decide +kernel
theorem dX6_drawOnce_10 : decode cX6_drawOnce 10 = .ok (.i2l, 1) := by decide +kernel
theorem dX6_drawOnce_11 : decode cX6_drawOnce 11 = .ok (.lmul, 1) := by decide +kernel
theorem dX6_drawOnce_12 : decode cX6_drawOnce 12 = .ok (.ladd, 1) := by decide +kernel
theorem dX6_drawOnce_13 : decode cX6_drawOnce 13 = .ok (.lconst 1, 1) := by decide +kernel
theorem dX6_drawOnce_14 : decode cX6_drawOnce 14 = .ok (.ladd, 1) := by decide +kernel
theorem dX6_drawOnce_15 : decode cX6_drawOnce 15 = .ok (.lstore_n 3, 1) := by decide +kernel
theorem dX6_drawOnce_16 : decode cX6_drawOnce 16 = .ok (.lload_n 3, 1) := by decide +kernel
theorem dX6_drawOnce_17 : decode cX6_drawOnce 17 = .ok (.lload_n 3, 1) := by decide +kernel
theorem dX6_drawOnce_18 : decode cX6_drawOnce 18 = .ok (.lmul, 1) := by decide +kernel
theorem dX6_drawOnce_19 : decode cX6_drawOnce 19 = .ok (.ldc2_w 248, 3) := by decide +kernel
theorem dX6_drawOnce_22 : decode cX6_drawOnce 22 = .ok (.lrem, 1) := by decide +kernel
theorem dX6_drawOnce_23 : decode cX6_drawOnce 23 = .ok (.l2i, 1) := by decide +kernel
theorem dX6_drawOnce_24 : decode cX6_drawOnce 24 = .ok (.istore 5, 2) := by decide +kernel
theorem dX6_drawOnce_26 : decode cX6_drawOnce 26 = .ok (.iload 5, 2) := by decide +kernel
theorem dX6_drawOnce_28 : decode cX6_drawOnce 28 = .ok (.bipush 8, 2) := by decide +kernel
theorem dX6_drawOnce_30 : decode cX6_drawOnce 30 = .ok (.idiv, 1) := by decide +kernel
theorem dX6_drawOnce_31 : decode cX6_drawOnce 31 = .ok (.bipush 20, 2) := by decide +kernel
theorem dX6_drawOnce_33 : decode cX6_drawOnce 33 = .ok (.irem, 1) := by decide +kernel
theorem dX6_drawOnce_34 : decode cX6_drawOnce 34 = .ok (.iload 5, 2) := by decide +kernel
theorem dX6_drawOnce_36 : decode cX6_drawOnce 36 = .ok (.sipush 256, 3) := by decide +kernel
theorem dX6_drawOnce_39 : decode cX6_drawOnce 39 = .ok (.idiv, 1) := by decide +kernel
theorem dX6_drawOnce_40 : decode cX6_drawOnce 40 = .ok (.bipush 12, 2) := by decide +kernel
theorem dX6_drawOnce_42 : decode cX6_drawOnce 42 = .ok (.irem, 1) := by decide +kernel
theorem dX6_drawOnce_43 : decode cX6_drawOnce 43 = .ok (.invokestatic 69, 3) := by decide +kernel
theorem dX6_drawOnce_46 : decode cX6_drawOnce 46 = .ok (.istore 6, 2) := by decide +kernel
theorem dX6_drawOnce_48 : decode cX6_drawOnce 48 = .ok (.aload_n 0, 1) := by decide +kernel
theorem dX6_drawOnce_49 : decode cX6_drawOnce 49 = .ok (.getfield 23, 3) := by decide +kernel
theorem dX6_drawOnce_52 : decode cX6_drawOnce 52 = .ok (.iload 6, 2) := by decide +kernel
theorem dX6_drawOnce_54 : decode cX6_drawOnce 54 = .ok (.invokevirtual 113, 3) := by decide +kernel
theorem dX6_drawOnce_57 : decode cX6_drawOnce 57 = .ok (.istore 7, 2) := by decide +kernel
theorem dX6_drawOnce_59 : decode cX6_drawOnce 59 = .ok (.iload 7, 2) := by decide +kernel
theorem dX6_drawOnce_61 : decode cX6_drawOnce 61 = .ok (.ifCond .ge 16, 3) := by decide +kernel
theorem dX6_drawOnce_64 : decode cX6_drawOnce 64 = .ok (.aload_n 0, 1) := by decide +kernel
theorem dX6_drawOnce_65 : decode cX6_drawOnce 65 = .ok (.getfield 23, 3) := by decide +kernel
theorem dX6_drawOnce_68 : decode cX6_drawOnce 68 = .ok (.iload 6, 2) := by decide +kernel
theorem dX6_drawOnce_70 : decode cX6_drawOnce 70 = .ok (.invokevirtual 73, 3) := by decide +kernel
theorem dX6_drawOnce_73 : decode cX6_drawOnce 73 = .ok (.pop, 1) := by decide +kernel
theorem dX6_drawOnce_74 : decode cX6_drawOnce 74 = .ok (.goto 23, 3) := by decide +kernel
theorem dX6_drawOnce_77 : decode cX6_drawOnce 77 = .ok (.aload_n 0, 1) := by decide +kernel
theorem dX6_drawOnce_78 : decode cX6_drawOnce 78 = .ok (.getfield 23, 3) := by decide +kernel
theorem dX6_drawOnce_81 : decode cX6_drawOnce 81 = .ok (.getfield 89, 3) := by decide +kernel
theorem dX6_drawOnce_84 : decode cX6_drawOnce 84 = .ok (.iconst 1, 1) := by decide +kernel
theorem dX6_drawOnce_85 : decode cX6_drawOnce 85 = .ok (.if_icmp .le 12, 3) := by decide +kernel
theorem dX6_drawOnce_88 : decode cX6_drawOnce 88 = .ok (.aload_n 0, 1) := by decide +kernel
theorem dX6_drawOnce_89 : decode cX6_drawOnce 89 = .ok (.getfield 23, 3) := by decide +kernel
theorem dX6_drawOnce_92 : decode cX6_drawOnce 92 = .ok (.iload 7, 2) := by decide +kernel
theorem dX6_drawOnce_94 : decode cX6_drawOnce 94 = .ok (.invokevirtual 119, 3) := by decide +kernel
theorem dX6_drawOnce_97 : decode cX6_drawOnce 97 = .ok (.return_, 1) := by decide +kernel
theorem dX6_isNote_0 : decode cX6_isNote 0 = .ok (.iload_n 1, 1) := by decide +kernel
theorem dX6_isNote_1 : decode cX6_isNote 1 = .ok (.ifCond .lt 18, 3) := by decide +kernel
theorem dX6_isNote_4 : decode cX6_isNote 4 = .ok (.iload_n 1, 1) := by decide +kernel
theorem dX6_isNote_5 : decode cX6_isNote 5 = .ok (.aload_n 0, 1) := by decide +kernel
theorem dX6_isNote_6 : decode cX6_isNote 6 = .ok (.getfield 19, 3) := by decide +kernel
theorem dX6_isNote_9 : decode cX6_isNote 9 = .ok (.getfield 89, 3) := by decide +kernel
theorem dX6_isNote_12 : decode cX6_isNote 12 = .ok (.if_icmp .ge 7, 3) := by decide +kernel
theorem dX6_isNote_15 : decode cX6_isNote 15 = .ok (.iconst 1, 1) := by decide +kernel
theorem dX6_isNote_16 : decode cX6_isNote 16 = .ok (.goto 4, 3) := by decide +kernel
theorem dX6_isNote_19 : decode cX6_isNote 19 = .ok (.iconst 0, 1) := by decide +kernel
theorem dX6_isNote_20 : decode cX6_isNote 20 = .ok (.ireturn, 1) := by decide +kernel
theorem dX6_isShift_0 : decode cX6_isShift 0 = .ok (.aload_n 0, 1) := by decide +kernel
theorem dX6_isShift_1 : decode cX6_isShift 1 = .ok (.getfield 19, 3) := by decide +kernel
theorem dX6_isShift_4 : decode cX6_isShift 4 = .ok (.getfield 132, 3) := by decide +kernel
theorem dX6_isShift_7 : decode cX6_isShift 7 = .ok (.iconst 1, 1) := by decide +kernel
theorem dX6_isShift_8 : decode cX6_isShift 8 = .ok (.if_icmp .ne 7, 3) := by decide +kernel
theorem dX6_isShift_11 : decode cX6_isShift 11 = .ok (.iconst 0, 1) := by decide +kernel
theorem dX6_isShift_12 : decode cX6_isShift 12 = .ok (.goto 5, 3) := by decide +kernel
theorem dX6_isShift_15 : decode cX6_isShift 15 = .ok (.bipush (-11), 2) := by decide +kernel
theorem dX6_isShift_17 : decode cX6_isShift 17 = .ok (.istore_n 3, 1) := by decide +kernel
theorem dX6_isShift_18 : decode cX6_isShift 18 = .ok (.iload_n 1, 1) := by decide +kernel
theorem dX6_isShift_19 : decode cX6_isShift 19 = .ok (.bipush (-19), 2) := by decide +kernel
theorem dX6_isShift_21 : decode cX6_isShift 21 = .ok (.if_icmp .lt 24, 3) := by decide +kernel
theorem dX6_isShift_24 : decode cX6_isShift 24 = .ok (.iload_n 1, 1) := by decide +kernel
theorem dX6_isShift_25 : decode cX6_isShift 25 = .ok (.bipush 19, 2) := by decide +kernel
theorem dX6_isShift_27 : decode cX6_isShift 27 = .ok (.if_icmp .gt 18, 3) := by decide +kernel
theorem dX6_isShift_30 : decode cX6_isShift 30 = .ok (.iload_n 2, 1) := by decide +kernel
theorem dX6_isShift_31 : decode cX6_isShift 31 = .ok (.iload_n 3, 1) := by decide +kernel
theorem dX6_isShift_32 : decode cX6_isShift 32 = .ok (.if_icmp .lt 13, 3) := by decide +kernel
theorem dX6_isShift_35 : decode cX6_isShift 35 = .ok (.iload_n 2, 1) := by decide +kernel
theorem dX6_isShift_36 : decode cX6_isShift 36 = .ok (.bipush 11, 2) := by decide +kernel
theorem dX6_isShift_38 : decode cX6_isShift 38 = .ok (.if_icmp .gt 7, 3) := by decide +kernel
theorem dX6_isShift_41 : decode cX6_isShift 41 = .ok (.iconst 1, 1) := by decide +kernel
theorem dX6_isShift_42 : decode cX6_isShift 42 = .ok (.goto 4, 3) := by decide +kernel
theorem dX6_isShift_45 : decode cX6_isShift 45 = .ok (.iconst 0, 1) := by decide +kernel
theorem dX6_isShift_46 : decode cX6_isShift 46 = .ok (.ireturn, 1) := by decide +kernel
theorem dX6_isMove_0 : decode cX6_isMove 0 = .ok (.aload_n 0, 1) := by decide +kernel
theorem dX6_isMove_1 : decode cX6_isMove 1 = .ok (.iload_n 1, 1) := by decide +kernel
theorem dX6_isMove_2 : decode cX6_isMove 2 = .ok (.iload_n 2, 1) := by decide +kernel
theorem dX6_isMove_3 : decode cX6_isMove 3 = .ok (.invokevirtual 138, 3) := by decide +kernel
theorem dX6_isMove_6 : decode cX6_isMove 6 = .ok (.ifCond .eq 15, 3) := by decide +kernel
theorem dX6_isMove_9 : decode cX6_isMove 9 = .ok (.iload_n 1, 1) := by decide +kernel
theorem dX6_isMove_10 : decode cX6_isMove 10 = .ok (.ifCond .ne 7, 3) := by decide +kernel
theorem dX6_isMove_13 : decode cX6_isMove 13 = .ok (.iload_n 2, 1) := by decide +kernel
theorem dX6_isMove_14 : decode cX6_isMove 14 = .ok (.ifCond .eq 7, 3) := by decide +kernel
theorem dX6_isMove_17 : decode cX6_isMove 17 = .ok (.iconst 1, 1) := by decide +kernel
theorem dX6_isMove_18 : decode cX6_isMove 18 = .ok (.goto 4, 3) := by decide +kernel
theorem dX6_isMove_21 : decode cX6_isMove 21 = .ok (.iconst 0, 1) := by decide +kernel
theorem dX6_isMove_22 : decode cX6_isMove 22 = .ok (.ireturn, 1) := by decide +kernel
theorem dX6_staysWithin_0 : decode cX6_staysWithin 0 = .ok (.aload_n 0, 1) := by decide +kernel
theorem dX6_staysWithin_1 : decode cX6_staysWithin 1 = .ok (.getfield 19, 3) := by decide +kernel
theorem dX6_staysWithin_4 : decode cX6_staysWithin 4 = .ok (.iload_n 1, 1) := by decide +kernel
theorem dX6_staysWithin_5 : decode cX6_staysWithin 5 = .ok (.invokevirtual 103, 3) := by decide +kernel
theorem dX6_staysWithin_8 : decode cX6_staysWithin 8 = .ok (.iload_n 2, 1) := by decide +kernel
theorem dX6_staysWithin_9 : decode cX6_staysWithin 9 = .ok (.iadd, 1) := by decide +kernel
theorem dX6_staysWithin_10 : decode cX6_staysWithin 10 = .ok (.aload_n 0, 1) := by decide +kernel
theorem dX6_staysWithin_11 : decode cX6_staysWithin 11 = .ok (.getfield 19, 3) := by decide +kernel
theorem dX6_staysWithin_14 : decode cX6_staysWithin 14 = .ok (.iload_n 1, 1) := by decide +kernel
theorem dX6_staysWithin_15 : decode cX6_staysWithin 15 = .ok (.invokevirtual 106, 3) := by decide +kernel
theorem dX6_staysWithin_18 : decode cX6_staysWithin 18 = .ok (.iload_n 3, 1) := by decide +kernel
theorem dX6_staysWithin_19 : decode cX6_staysWithin 19 = .ok (.iadd, 1) := by decide +kernel
theorem dX6_staysWithin_20 : decode cX6_staysWithin 20 = .ok (.invokestatic 109, 3) := by decide +kernel
theorem dX6_staysWithin_23 : decode cX6_staysWithin 23 = .ok (.ireturn, 1) := by decide +kernel
theorem dX6_isWithin_0 : decode cX6_isWithin 0 = .ok (.iload_n 0, 1) := by decide +kernel
theorem dX6_isWithin_1 : decode cX6_isWithin 1 = .ok (.ifCond .lt 23, 3) := by decide +kernel
theorem dX6_isWithin_4 : decode cX6_isWithin 4 = .ok (.iload_n 0, 1) := by decide +kernel
theorem dX6_isWithin_5 : decode cX6_isWithin 5 = .ok (.bipush 20, 2) := by decide +kernel
theorem dX6_isWithin_7 : decode cX6_isWithin 7 = .ok (.if_icmp .ge 17, 3) := by decide +kernel
theorem dX6_isWithin_10 : decode cX6_isWithin 10 = .ok (.iload_n 1, 1) := by decide +kernel
theorem dX6_isWithin_11 : decode cX6_isWithin 11 = .ok (.ifCond .lt 13, 3) := by decide +kernel
theorem dX6_isWithin_14 : decode cX6_isWithin 14 = .ok (.iload_n 1, 1) := by decide +kernel
theorem dX6_isWithin_15 : decode cX6_isWithin 15 = .ok (.bipush 12, 2) := by decide +kernel
theorem dX6_isWithin_17 : decode cX6_isWithin 17 = .ok (.if_icmp .ge 7, 3) := by decide +kernel
theorem dX6_isWithin_20 : decode cX6_isWithin 20 = .ok (.iconst 1, 1) := by decide +kernel
theorem dX6_isWithin_21 : decode cX6_isWithin 21 = .ok (.goto 4, 3) := by decide +kernel
theorem dX6_isWithin_24 : decode cX6_isWithin 24 = .ok (.iconst 0, 1) := by decide +kernel
theorem dX6_isWithin_25 : decode cX6_isWithin 25 = .ok (.ireturn, 1) := by decide +kernel
theorem dX6_codeOf_0 : decode cX6_codeOf 0 = .ok (.iload_n 0, 1) := by decide +kernel
theorem dX6_codeOf_1 : decode cX6_codeOf 1 = .ok (.bipush 12, 2) := by decide +kernel
theorem dX6_codeOf_3 : decode cX6_codeOf 3 = .ok (.imul, 1) := by decide +kernel
theorem dX6_codeOf_4 : decode cX6_codeOf 4 = .ok (.iload_n 1, 1) := by decide +kernel
theorem dX6_codeOf_5 : decode cX6_codeOf 5 = .ok (.iadd, 1) := by decide +kernel
theorem dX6_codeOf_6 : decode cX6_codeOf 6 = .ok (.ireturn, 1) := by decide +kernel
