theorem dX3_init_0 : decode cX3_init 0 = .ok (.aload_n 0, 1) := by decide +kernel
theorem dX3_init_1 : decode cX3_init 1 = .ok (.invokespecial 1, 3) := by decide +kernel
theorem dX3_init_4 : decode cX3_init 4 = .ok (.aload_n 0, 1) := by decide +kernel
theorem dX3_init_5 : decode cX3_init 5 = .ok (.sipush 2000, 3) := by decide +kernel
theorem dX3_init_8 : decode cX3_init 8 = .ok (.newarray .int, 2) := by decide +kernel
theorem dX3_init_10 : decode cX3_init 10 = .ok (.putfield 7, 3) := by decide +kernel
theorem dX3_init_13 : decode cX3_init 13 = .ok (.aload_n 0, 1) := by decide +kernel
theorem dX3_init_14 : decode cX3_init 14 = .ok (.sipush 2000, 3) := by decide +kernel
theorem dX3_init_17 : decode cX3_init 17 = .ok (.newarray .long, 2) := by decide +kernel
theorem dX3_init_19 : decode cX3_init 19 = .ok (.putfield 13, 3) := by decide +kernel
theorem dX3_init_22 : decode cX3_init 22 = .ok (.aload_n 0, 1) := by decide +kernel
theorem dX3_init_23 : decode cX3_init 23 = .ok (.sipush 2000, 3) := by decide +kernel
theorem dX3_init_26 : decode cX3_init 26 = .ok (.newarray .int, 2) := by decide +kernel
theorem dX3_init_28 : decode cX3_init 28 = .ok (.putfield 17, 3) := by decide +kernel
theorem dX3_init_31 : decode cX3_init 31 = .ok (.aload_n 0, 1) := by decide +kernel
theorem dX3_init_32 : decode cX3_init 32 = .ok (.sipush 2000, 3) := by decide +kernel
theorem dX3_init_35 : decode cX3_init 35 = .ok (.newarray .int, 2) := by decide +kernel
theorem dX3_init_37 : decode cX3_init 37 = .ok (.putfield 20, 3) := by decide +kernel
theorem dX3_init_40 : decode cX3_init 40 = .ok (.aload_n 0, 1) := by decide +kernel
theorem dX3_init_41 : decode cX3_init 41 = .ok (.sipush 2000, 3) := by decide +kernel
theorem dX3_init_44 : decode cX3_init 44 = .ok (.newarray .int, 2) := by decide +kernel
theorem dX3_init_46 : decode cX3_init 46 = .ok (.putfield 23, 3) := by decide +kernel
theorem dX3_init_49 : decode cX3_init 49 = .ok (.return_, 1) := by decide +kernel
theorem dX3_thrown_0 : decode cX3_thrown 0 = .ok (.aload_n 0, 1) := by decide +kernel
theorem dX3_thrown_1 : decode cX3_thrown 1 = .ok (.getfield 26, 3) := by decide +kernel
theorem dX3_thrown_4 : decode cX3_thrown 4 = .ok (.ireturn, 1) := by decide +kernel
theorem dX3_isBatch_0 : decode cX3_isBatch 0 = .ok (.iload 4, 2) := by decide +kernel
theorem dX3_isBatch_2 : decode cX3_isBatch 2 = .ok (.ifCond .lt 19, 3) := by decide +kernel
theorem dX3_isBatch_5 : decode cX3_isBatch 5 = .ok (.iload 4, 2) := by decide +kernel
theorem dX3_isBatch_7 : decode cX3_isBatch 7 = .ok (.sipush 999, 3) := by decide +kernel
theorem dX3_isBatch_10 : decode cX3_isBatch 10 = .ok (.if_icmp .gt 11, 3) := by decide +kernel
theorem dX3_isBatch_13 : decode cX3_isBatch 13 = .ok (.lload_n 0, 1) := by decide +kernel
theorem dX3_isBatch_14 : decode cX3_isBatch 14 = .ok (.ldc2_w 30, 3) := by decide +kernel
theorem dX3_isBatch_17 : decode cX3_isBatch 17 = .ok (.lcmp, 1) := by decide +kernel
theorem dX3_isBatch_18 : decode cX3_isBatch 18 = .ok (.ifCond .ge 5, 3) := by decide +kernel
theorem dX3_isBatch_21 : decode cX3_isBatch 21 = .ok (.iconst 0, 1) := by decide +kernel
theorem dX3_isBatch_22 : decode cX3_isBatch 22 = .ok (.ireturn, 1) := by decide +kernel
theorem dX3_isBatch_23 : decode cX3_isBatch 23 = .ok (.lload_n 0, 1) := by decide +kernel
theorem dX3_isBatch_24 : decode cX3_isBatch 24 = .ok (.ldc2_w 30, 3) := by decide +kernel
theorem dX3_isBatch_27 : decode cX3_isBatch 27 = .ok (.lcmp, 1) := by decide +kernel
theorem dX3_isBatch_28 : decode cX3_isBatch 28 = .ok (.ifCond .ne 21, 3) := by decide +kernel
theorem dX3_isBatch_31 : decode cX3_isBatch 31 = .ok (.iload_n 2, 1) := by decide +kernel
theorem dX3_isBatch_32 : decode cX3_isBatch 32 = .ok (.iconst (-1), 1) := by decide +kernel
theorem dX3_isBatch_33 : decode cX3_isBatch 33 = .ok (.if_icmp .ne 12, 3) := by decide +kernel
theorem dX3_isBatch_36 : decode cX3_isBatch 36 = .ok (.iload_n 3, 1) := by decide +kernel
theorem dX3_isBatch_37 : decode cX3_isBatch 37 = .ok (.iconst (-1), 1) := by decide +kernel
theorem dX3_isBatch_38 : decode cX3_isBatch 38 = .ok (.if_icmp .ne 7, 3) := by decide +kernel
theorem dX3_isBatch_41 : decode cX3_isBatch 41 = .ok (.iconst 1, 1) := by decide +kernel
theorem dX3_isBatch_42 : decode cX3_isBatch 42 = .ok (.goto 27, 3) := by decide +kernel
theorem dX3_isBatch_45 : decode cX3_isBatch 45 = .ok (.iconst 0, 1) := by decide +kernel
theorem dX3_isBatch_46 : decode cX3_isBatch 46 = .ok (.goto 23, 3) := by decide +kernel
theorem dX3_isBatch_49 : decode cX3_isBatch 49 = .ok (.iload_n 2, 1) := by decide +kernel
theorem dX3_isBatch_50 : decode cX3_isBatch 50 = .ok (.ifCond .lt 18, 3) := by decide +kernel
theorem dX3_isBatch_53 : decode cX3_isBatch 53 = .ok (.iload_n 2, 1) := by decide +kernel
theorem dX3_isBatch_54 : decode cX3_isBatch 54 = .ok (.sipush 32767, 3) := by decide +kernel
theorem dX3_isBatch_57 : decode cX3_isBatch 57 = .ok (.if_icmp .gt 11, 3) := by decide +kernel
theorem dX3_isBatch_60 : decode cX3_isBatch 60 = .ok (.iload_n 3, 1) := by decide +kernel
theorem dX3_isBatch_61 : decode cX3_isBatch 61 = .ok (.ifCond .lt 7, 3) := by decide +kernel
theorem dX3_isBatch_64 : decode cX3_isBatch 64 = .ok (.iconst 1, 1) := by decide +kernel
theorem dX3_isBatch_65 : decode cX3_isBatch 65 = .ok (.goto 4, 3) := by decide +kernel
theorem dX3_isBatch_68 : decode cX3_isBatch 68 = .ok (.iconst 0, 1) := by decide +kernel
theorem dX3_isBatch_69 : decode cX3_isBatch 69 = .ok (.ireturn, 1) := by decide +kernel
theorem dX3_knownOne_0 : decode cX3_knownOne 0 = .ok (.iload_n 3, 1) := by decide +kernel
theorem dX3_knownOne_1 : decode cX3_knownOne 1 = .ok (.istore 4, 2) := by decide +kernel
theorem dX3_knownOne_3 : decode cX3_knownOne 3 = .ok (.aload_n 0, 1) := by decide +kernel
theorem dX3_knownOne_4 : decode cX3_knownOne 4 = .ok (.getfield 32, 3) := by decide +kernel
theorem dX3_knownOne_7 : decode cX3_knownOne 7 = .ok (.iconst 1, 1) := by decide +kernel
theorem dX3_knownOne_8 : decode cX3_knownOne 8 = .ok (.isub, 1) := by decide +kernel
theorem dX3_knownOne_9 : decode cX3_knownOne 9 = .ok (.istore 5, 2) := by decide +kernel
theorem dX3_knownOne_11 : decode cX3_knownOne 11 = .ok (.iload 5, 2) := by decide +kernel
theorem dX3_knownOne_13 : decode cX3_knownOne 13 = .ok (.ifCond .lt 43, 3) := by decide +kernel
theorem dX3_knownOne_16 : decode cX3_knownOne 16 = .ok (.iload_n 3, 1) := by decide +kernel
theorem dX3_knownOne_17 : decode cX3_knownOne 17 = .ok (.iconst 5, 1) := by decide +kernel
theorem dX3_knownOne_18 : decode cX3_knownOne 18 = .ok (.if_icmp .ge 38, 3) := by decide +kernel
theorem dX3_knownOne_21 : decode cX3_knownOne 21 = .ok (.lload_n 1, 1) := by decide +kernel
theorem dX3_knownOne_22 : decode cX3_knownOne 22 = .ok (.lconst 0, 1) := by decide +kernel
theorem dX3_knownOne_23 : decode cX3_knownOne 23 = .ok (.lcmp, 1) := by decide +kernel
theorem dX3_knownOne_24 : decode cX3_knownOne 24 = .ok (.ifCond .lt 32, 3) := by decide +kernel
theorem dX3_knownOne_27 : decode cX3_knownOne 27 = .ok (.aload_n 0, 1) := by decide +kernel
theorem dX3_knownOne_28 : decode cX3_knownOne 28 = .ok (.getfield 13, 3) := by decide +kernel
theorem dX3_knownOne_31 : decode cX3_knownOne 31 = .ok (.iload 5, 2) := by decide +kernel
theorem dX3_knownOne_33 : decode cX3_knownOne 33 = .ok (.laload, 1) := by decide +kernel
theorem dX3_knownOne_34 : decode cX3_knownOne 34 = .ok (.lload_n 1, 1) := by decide +kernel
theorem dX3_knownOne_35 : decode cX3_knownOne 35 = .ok (.lcmp, 1) := by decide +kernel
theorem dX3_knownOne_36 : decode cX3_knownOne 36 = .ok (.ifCond .ne 14, 3) := by decide +kernel
theorem dX3_knownOne_39 : decode cX3_knownOne 39 = .ok (.iload 4, 2) := by decide +kernel
theorem dX3_knownOne_41 : decode cX3_knownOne 41 = .ok (.ifCond .ne 6, 3) := by decide +kernel
theorem dX3_knownOne_44 : decode cX3_knownOne 44 = .ok (.iload 5, 2) := by decide +kernel
theorem dX3_knownOne_46 : decode cX3_knownOne 46 = .ok (.ireturn, 1) := by decide +kernel
theorem dX3_knownOne_47 : decode cX3_knownOne 47 = .ok (.iinc 4 (-1), 3) := by decide +kernel
theorem dX3_knownOne_50 : decode cX3_knownOne 50 = .ok (.iinc 5 (-1), 3) := by decide +kernel
theorem dX3_knownOne_53 : decode cX3_knownOne 53 = .ok (.goto (-42), 3) := by decide +kernel
theorem dX3_knownOne_56 : decode cX3_knownOne 56 = .ok (.iconst (-1), 1) := by decide +kernel
theorem dX3_knownOne_57 : decode cX3_knownOne 57 = .ok (.ireturn, 1) := by decide +kernel
theorem dX3_after_0 : decode cX3_after 0 = .ok (.iload_n 0, 1) := by decide +kernel
theorem dX3_after_1 : decode cX3_after 1 = .ok (.i2l, 1) := by decide +kernel
theorem dX3_after_2 : decode cX3_after 2 = .ok (.iload_n 1, 1) := by decide +kernel
theorem dX3_after_3 : decode cX3_after 3 = .ok (.i2l, 1) := by decide +kernel
theorem dX3_after_4 : decode cX3_after 4 = .ok (.ladd, 1) := by decide +kernel
theorem dX3_after_5 : decode cX3_after 5 = .ok (.lconst 1, 1) := by decide +kernel
theorem dX3_after_6 : decode cX3_after 6 = .ok (.ladd, 1) := by decide +kernel
theorem dX3_after_7 : decode cX3_after 7 = .ok (.lstore_n 2, 1) := by decide +kernel
theorem dX3_after_8 : decode cX3_after 8 = .ok (.lload_n 2, 1) := by decide +kernel
theorem dX3_after_9 : decode cX3_after 9 = .ok (.ldc2_w 35, 3) := by decide +kernel
theorem dX3_after_12 : decode cX3_after 12 = .ok (.lrem, 1) := by decide +kernel
theorem dX3_after_13 : decode cX3_after 13 = .ok (.l2i, 1) := by decide +kernel
theorem dX3_after_14 : decode cX3_after 14 = .ok (.ireturn, 1) := by decide +kernel
theorem dX3_judged_0 : decode cX3_judged 0 = .ok (.aload_n 0, 1) := by decide +kernel
theorem dX3_judged_1 : decode cX3_judged 1 = .ok (.lload_n 1, 1) := by decide +kernel
theorem dX3_judged_2 : decode cX3_judged 2 = .ok (.iconst 0, 1) := by decide +kernel
theorem dX3_judged_3 : decode cX3_judged 3 = .ok (.invokevirtual 37, 3) := by decide +kernel
theorem dX3_judged_6 : decode cX3_judged 6 = .ok (.istore 6, 2) := by decide +kernel
theorem dX3_judged_8 : decode cX3_judged 8 = .ok (.iload 6, 2) := by decide +kernel
theorem dX3_judged_10 : decode cX3_judged 10 = .ok (.ifCond .ge 5, 3) := by decide +kernel
theorem dX3_judged_13 : decode cX3_judged 13 = .ok (.iconst (-1), 1) := by decide +kernel
theorem dX3_judged_14 : decode cX3_judged 14 = .ok (.ireturn, 1) := by decide +kernel
theorem dX3_judged_15 : decode cX3_judged 15 = .ok (.iload_n 3, 1) := by decide +kernel
theorem dX3_judged_16 : decode cX3_judged 16 = .ok (.aload_n 0, 1) := by decide +kernel
theorem dX3_judged_17 : decode cX3_judged 17 = .ok (.getfield 17, 3) := by decide +kernel
theorem dX3_judged_20 : decode cX3_judged 20 = .ok (.iload 6, 2) := by decide +kernel
theorem dX3_judged_22 : decode cX3_judged 22 = .ok (.iaload, 1) := by decide +kernel
theorem dX3_judged_23 : decode cX3_judged 23 = .ok (.if_icmp .ge 6, 3) := by decide +kernel
theorem dX3_judged_26 : decode cX3_judged 26 = .ok (.bipush (-6), 2) := by decide +kernel
theorem dX3_judged_28 : decode cX3_judged 28 = .ok (.ireturn, 1) := by decide +kernel
theorem dX3_judged_29 : decode cX3_judged 29 = .ok (.iconst 0, 1) := by decide +kernel
theorem dX3_judged_30 : decode cX3_judged 30 = .ok (.istore 7, 2) := by decide +kernel
theorem dX3_judged_32 : decode cX3_judged 32 = .ok (.iload 7, 2) := by decide +kernel
theorem dX3_judged_34 : decode cX3_judged 34 = .ok (.iconst 5, 1) := by decide +kernel
theorem dX3_judged_35 : decode cX3_judged 35 = .ok (.if_icmp .ge 66, 3) := by decide +kernel
theorem dX3_judged_38 : decode cX3_judged 38 = .ok (.aload_n 0, 1) := by decide +kernel
theorem dX3_judged_39 : decode cX3_judged 39 = .ok (.lload_n 1, 1) := by decide +kernel
theorem dX3_judged_40 : decode cX3_judged 40 = .ok (.iload 7, 2) := by decide +kernel
theorem dX3_judged_42 : decode cX3_judged 42 = .ok (.invokevirtual 37, 3) := by decide +kernel
theorem dX3_judged_45 : decode cX3_judged 45 = .ok (.istore 8, 2) := by decide +kernel
theorem dX3_judged_47 : decode cX3_judged 47 = .ok (.iload 8, 2) := by decide +kernel
theorem dX3_judged_49 : decode cX3_judged 49 = .ok (.ifCond .lt 46, 3) := by decide +kernel
theorem dX3_judged_52 : decode cX3_judged 52 = .ok (.aload_n 0, 1) := by decide +kernel
theorem dX3_judged_53 : decode cX3_judged 53 = .ok (.getfield 17, 3) := by decide +kernel
theorem dX3_judged_56 : decode cX3_judged 56 = .ok (.iload 8, 2) := by decide +kernel
theorem dX3_judged_58 : decode cX3_judged 58 = .ok (.iaload, 1) := by decide +kernel
theorem dX3_judged_59 : decode cX3_judged 59 = .ok (.iload_n 3, 1) := by decide +kernel
theorem dX3_judged_60 : decode cX3_judged 60 = .ok (.if_icmp .ne 35, 3) := by decide +kernel
theorem dX3_judged_63 : decode cX3_judged 63 = .ok (.aload_n 0, 1) := by decide +kernel
theorem dX3_judged_64 : decode cX3_judged 64 = .ok (.getfield 20, 3) := by decide +kernel
theorem dX3_judged_67 : decode cX3_judged 67 = .ok (.iload 8, 2) := by decide +kernel
theorem dX3_judged_69 : decode cX3_judged 69 = .ok (.iaload, 1) := by decide +kernel
theorem dX3_judged_70 : decode cX3_judged 70 = .ok (.iload 4, 2) := by decide +kernel
theorem dX3_judged_72 : decode cX3_judged 72 = .ok (.if_icmp .ne 23, 3) := by decide +kernel
theorem dX3_judged_75 : decode cX3_judged 75 = .ok (.aload_n 0, 1) := by decide +kernel
theorem dX3_judged_76 : decode cX3_judged 76 = .ok (.getfield 23, 3) := by decide +kernel
theorem dX3_judged_79 : decode cX3_judged 79 = .ok (.iload 8, 2) := by decide +kernel
theorem dX3_judged_81 : decode cX3_judged 81 = .ok (.iaload, 1) := by decide +kernel
theorem dX3_judged_82 : decode cX3_judged 82 = .ok (.iload 5, 2) := by decide +kernel
theorem dX3_judged_84 : decode cX3_judged 84 = .ok (.if_icmp .ne 11, 3) := by decide +kernel
theorem dX3_judged_87 : decode cX3_judged 87 = .ok (.aload_n 0, 1) := by decide +kernel
theorem dX3_judged_88 : decode cX3_judged 88 = .ok (.getfield 7, 3) := by decide +kernel
theorem dX3_judged_91 : decode cX3_judged 91 = .ok (.iload 8, 2) := by decide +kernel
theorem dX3_judged_93 : decode cX3_judged 93 = .ok (.iaload, 1) := by decide +kernel
theorem dX3_judged_94 : decode cX3_judged 94 = .ok (.ireturn, 1) := by decide +kernel
theorem dX3_judged_95 : decode cX3_judged 95 = .ok (.iinc 7 1, 3) := by decide +kernel
theorem dX3_judged_98 : decode cX3_judged 98 = .ok (.goto (-66), 3) := by decide +kernel
theorem dX3_judged_101 : decode cX3_judged 101 = .ok (.iload_n 3, 1) := by decide +kernel
theorem dX3_judged_102 : decode cX3_judged 102 = .ok (.aload_n 0, 1) := by decide +kernel
theorem dX3_judged_103 : decode cX3_judged 103 = .ok (.getfield 17, 3) := by decide +kernel
theorem dX3_judged_106 : decode cX3_judged 106 = .ok (.iload 6, 2) := by decide +kernel
theorem dX3_judged_108 : decode cX3_judged 108 = .ok (.iaload, 1) := by decide +kernel
theorem dX3_judged_109 : decode cX3_judged 109 = .ok (.if_icmp .le 7, 3) := by decide +kernel
theorem dX3_judged_112 : decode cX3_judged 112 = .ok (.iconst 0, 1) := by decide +kernel
theorem dX3_judged_113 : decode cX3_judged 113 = .ok (.goto 20, 3) := by decide +kernel
theorem dX3_judged_116 : decode cX3_judged 116 = .ok (.aload_n 0, 1) := by decide +kernel
theorem dX3_judged_117 : decode cX3_judged 117 = .ok (.getfield 20, 3) := by decide +kernel
theorem dX3_judged_120 : decode cX3_judged 120 = .ok (.iload 6, 2) := by decide +kernel
theorem dX3_judged_122 : decode cX3_judged 122 = .ok (.iaload, 1) := by decide +kernel
theorem dX3_judged_123 : decode cX3_judged 123 = .ok (.aload_n 0, 1) := by decide +kernel
theorem dX3_judged_124 : decode cX3_judged 124 = .ok (.getfield 23, 3) := by decide +kernel
theorem dX3_judged_127 : decode cX3_judged 127 = .ok (.iload 6, 2) := by decide +kernel
theorem dX3_judged_129 : decode cX3_judged 129 = .ok (.iaload, 1) := by decide +kernel
theorem dX3_judged_130 : decode cX3_judged 130 = .ok (.invokestatic 41, 3) := by decide +kernel
theorem dX3_judged_133 : decode cX3_judged 133 = .ok (.istore 7, 2) := by decide +kernel
theorem dX3_judged_135 : decode cX3_judged 135 = .ok (.iload 4, 2) := by decide +kernel
theorem dX3_judged_137 : decode cX3_judged 137 = .ok (.iload 7, 2) := by decide +kernel
theorem dX3_judged_139 : decode cX3_judged 139 = .ok (.if_icmp .ne 7, 3) := by decide +kernel
theorem dX3_judged_142 : decode cX3_judged 142 = .ok (.iconst (-1), 1) := by decide +kernel
theorem dX3_judged_143 : decode cX3_judged 143 = .ok (.goto 5, 3) := by decide +kernel
theorem dX3_judged_146 : decode cX3_judged 146 = .ok (.bipush (-7), 2) := by decide +kernel
theorem dX3_judged_148 : decode cX3_judged 148 = .ok (.ireturn, 1) := by decide +kernel
theorem dX3_come_0 : decode cX3_come 0 = .ok (.aload_n 0, 1) := by decide +kernel
theorem dX3_come_1 : decode cX3_come 1 = .ok (.getfield 7, 3) := by decide +kernel
theorem dX3_come_4 : decode cX3_come 4 = .ok (.aload_n 0, 1) := by decide +kernel
theorem dX3_come_5 : decode cX3_come 5 = .ok (.getfield 32, 3) := by decide +kernel
theorem dX3_come_8 : decode cX3_come 8 = .ok (.aload_n 0, 1) := by decide +kernel
theorem dX3_come_9 : decode cX3_come 9 = .ok (.getfield 45, 3) := by decide +kernel
theorem dX3_come_12 : decode cX3_come 12 = .ok (.iastore, 1) := by decide +kernel
theorem dX3_come_13 : decode cX3_come 13 = .ok (.aload_n 0, 1) := by decide +kernel
theorem dX3_come_14 : decode cX3_come 14 = .ok (.getfield 13, 3) := by decide +kernel
theorem dX3_come_17 : decode cX3_come 17 = .ok (.aload_n 0, 1) := by decide +kernel
theorem dX3_come_18 : decode cX3_come 18 = .ok (.getfield 32, 3) := by decide +kernel
theorem dX3_come_21 : decode cX3_come 21 = .ok (.lload_n 1, 1) := by decide +kernel
theorem dX3_come_22 : decode cX3_come 22 = .ok (.lastore, 1) := by decide +kernel
theorem dX3_come_23 : decode cX3_come 23 = .ok (.aload_n 0, 1) := by decide +kernel
theorem dX3_come_24 : decode cX3_come 24 = .ok (.getfield 17, 3) := by decide +kernel
theorem dX3_come_27 : decode cX3_come 27 = .ok (.aload_n 0, 1) := by decide +kernel
theorem dX3_come_28 : decode cX3_come 28 = .ok (.getfield 32, 3) := by decide +kernel
theorem dX3_come_31 : decode cX3_come 31 = .ok (.iload_n 3, 1) := by decide +kernel
theorem dX3_come_32 : decode cX3_come 32 = .ok (.iastore, 1) := by decide +kernel
theorem dX3_come_33 : decode cX3_come 33 = .ok (.aload_n 0, 1) := by decide +kernel
theorem dX3_come_34 : decode cX3_come 34 = .ok (.getfield 20, 3) := by decide +kernel
theorem dX3_come_37 : decode cX3_come 37 = .ok (.aload_n 0, 1) := by decide +kernel
theorem dX3_come_38 : decode cX3_come 38 = .ok (.getfield 32, 3) := by decide +kernel
theorem dX3_come_41 : decode cX3_come 41 = .ok (.iload 4, 2) := by decide +kernel
theorem dX3_come_43 : decode cX3_come 43 = .ok (.iastore, 1) := by decide +kernel
theorem dX3_come_44 : decode cX3_come 44 = .ok (.aload_n 0, 1) := by decide +kernel
theorem dX3_come_45 : decode cX3_come 45 = .ok (.getfield 23, 3) := by decide +kernel
theorem dX3_come_48 : decode cX3_come 48 = .ok (.aload_n 0, 1) := by decide +kernel
theorem dX3_come_49 : decode cX3_come 49 = .ok (.getfield 32, 3) := by decide +kernel
theorem dX3_come_52 : decode cX3_come 52 = .ok (.iload 5, 2) := by decide +kernel
theorem dX3_come_54 : decode cX3_come 54 = .ok (.iastore, 1) := by decide +kernel
theorem dX3_come_55 : decode cX3_come 55 = .ok (.aload_n 0, 1) := by decide +kernel
theorem dX3_come_56 : decode cX3_come 56 = .ok (.dup, 1) := by decide +kernel
theorem dX3_come_57 : decode cX3_come 57 = .ok (.getfield 32, 3) := by decide +kernel
theorem dX3_come_60 : decode cX3_come 60 = .ok (.iconst 1, 1) := by decide +kernel
theorem dX3_come_61 : decode cX3_come 61 = .ok (.iadd, 1) := by decide +kernel
theorem dX3_come_62 : decode cX3_come 62 = .ok (.putfield 32, 3) := by decide +kernel
theorem dX3_come_65 : decode cX3_come 65 = .ok (.aload_n 0, 1) := by decide +kernel
theorem dX3_come_66 : decode cX3_come 66 = .ok (.dup, 1) := by decide +kernel
theorem dX3_come_67 : decode cX3_come 67 = .ok (.getfield 45, 3) := by decide +kernel
theorem dX3_come_70 : decode cX3_come 70 = .ok (.iload 5, 2) := by decide +kernel
theorem dX3_come_72 : decode cX3_come 72 = .ok (.iconst 1, 1) := by decide +kernel
theorem dX3_come_73 : decode cX3_come 73 = .ok (.iadd, 1) := by decide +kernel
theorem dX3_come_74 : decode cX3_come 74 = .ok (.iadd, 1) := by decide +kernel
theorem dX3_come_75 : decode cX3_come 75 = .ok (.putfield 45, 3) := by decide +kernel
theorem dX3_come_78 : decode cX3_come 78 = .ok (.return_, 1) := by decide +kernel
theorem dX3_offer_0 : decode cX3_offer 0 = .ok (.aload_n 0, 1) := by decide +kernel
theorem dX3_offer_1 : decode cX3_offer 1 = .ok (.lload_n 1, 1) := by decide +kernel
theorem dX3_offer_2 : decode cX3_offer 2 = .ok (.iload_n 3, 1) := by decide +kernel
theorem dX3_offer_3 : decode cX3_offer 3 = .ok (.iload 4, 2) := by decide +kernel
theorem dX3_offer_5 : decode cX3_offer 5 = .ok (.iload 5, 2) := by decide +kernel
theorem dX3_offer_7 : decode cX3_offer 7 = .ok (.invokestatic 48, 3) := by decide +kernel
theorem dX3_offer_10 : decode cX3_offer 10 = .ok (.ifCond .eq 7, 3) := by decide +kernel
theorem dX3_offer_13 : decode cX3_offer 13 = .ok (.iconst 0, 1) := by decide +kernel
theorem dX3_offer_14 : decode cX3_offer 14 = .ok (.goto 4, 3) := by decide +kernel
theorem dX3_offer_17 : decode cX3_offer 17 = .ok (.iconst 1, 1) := by decide +kernel
theorem dX3_offer_18 : decode cX3_offer 18 = .ok (.putfield 26, 3) := by decide +kernel
theorem dX3_offer_21 : decode cX3_offer 21 = .ok (.aload_n 0, 1) := by decide +kernel
theorem dX3_offer_22 : decode cX3_offer 22 = .ok (.getfield 26, 3) := by decide +kernel
theorem dX3_offer_25 : decode cX3_offer 25 = .ok (.ifCond .le 5, 3) := by decide +kernel
theorem dX3_offer_28 : decode cX3_offer 28 = .ok (.iconst 0, 1) := by decide +kernel
theorem dX3_offer_29 : decode cX3_offer 29 = .ok (.ireturn, 1) := by decide +kernel
theorem dX3_offer_30 : decode cX3_offer 30 = .ok (.aload_n 0, 1) := by decide +kernel
theorem dX3_offer_31 : decode cX3_offer 31 = .ok (.lload_n 1, 1) := by decide +kernel
theorem dX3_offer_32 : decode cX3_offer 32 = .ok (.iload_n 3, 1) := by decide +kernel
theorem dX3_offer_33 : decode cX3_offer 33 = .ok (.iload 4, 2) := by decide +kernel
theorem dX3_offer_35 : decode cX3_offer 35 = .ok (.iload 5, 2) := by decide +kernel
theorem dX3_offer_37 : decode cX3_offer 37 = .ok (.invokevirtual 52, 3) := by decide +kernel
theorem dX3_offer_40 : decode cX3_offer 40 = .ok (.istore 6, 2) := by decide +kernel
theorem dX3_offer_42 : decode cX3_offer 42 = .ok (.iload 6, 2) := by decide +kernel
theorem dX3_offer_44 : decode cX3_offer 44 = .ok (.iconst (-1), 1) := by decide +kernel
theorem dX3_offer_45 : decode cX3_offer 45 = .ok (.if_icmp .eq 6, 3) := by decide +kernel
theorem dX3_offer_48 : decode cX3_offer 48 = .ok (.iload 6, 2) := by decide +kernel
theorem dX3_offer_50 : decode cX3_offer 50 = .ok (.ireturn, 1) := by decide +kernel
theorem dX3_offer_51 : decode cX3_offer 51 = .ok (.aload_n 0, 1) := by decide +kernel
theorem dX3_offer_52 : decode cX3_offer 52 = .ok (.aload_n 0, 1) := by decide +kernel
theorem dX3_offer_53 : decode cX3_offer 53 = .ok (.getfield 32, 3) := by decide +kernel
theorem dX3_offer_56 : decode cX3_offer 56 = .ok (.sipush 2000, 3) := by decide +kernel
theorem dX3_offer_59 : decode cX3_offer 59 = .ok (.if_icmp .eq 17, 3) := by decide +kernel
theorem dX3_offer_62 : decode cX3_offer 62 = .ok (.aload_n 0, 1) := by decide +kernel
theorem dX3_offer_63 : decode cX3_offer 63 = .ok (.getfield 45, 3) := by decide +kernel
theorem dX3_offer_66 : decode cX3_offer 66 = .ok (.iload 5, 2) := by decide +kernel
theorem dX3_offer_68 : decode cX3_offer 68 = .ok (.iadd, 1) := by decide +kernel
theorem dX3_offer_69 : decode cX3_offer 69 = .ok (.iconst 1, 1) := by decide +kernel
theorem dX3_offer_70 : decode cX3_offer 70 = .ok (.iadd, 1) := by decide +kernel
theorem dX3_offer_71 : decode cX3_offer 71 = .ok (.ldc 56, 2) := by decide +kernel
theorem dX3_offer_73 : decode cX3_offer 73 = .ok (.if_icmp .le 7, 3) := by decide +kernel
theorem dX3_offer_76 : decode cX3_offer 76 = .ok (.iconst 2, 1) := by decide +kernel
theorem dX3_offer_77 : decode cX3_offer 77 = .ok (.goto 4, 3) := by decide +kernel
theorem dX3_offer_80 : decode cX3_offer 80 = .ok (.iconst 0, 1) := by decide +kernel
theorem dX3_offer_81 : decode cX3_offer 81 = .ok (.putfield 26, 3) := by decide +kernel
theorem dX3_offer_84 : decode cX3_offer 84 = .ok (.aload_n 0, 1) := by decide +kernel
theorem dX3_offer_85 : decode cX3_offer 85 = .ok (.getfield 26, 3) := by decide +kernel
theorem dX3_offer_88 : decode cX3_offer 88 = .ok (.ifCond .le 5, 3) := by decide +kernel
theorem dX3_offer_91 : decode cX3_offer 91 = .ok (.iconst 0, 1) := by decide +kernel
theorem dX3_offer_92 : decode cX3_offer 92 = .ok (.ireturn, 1) := by decide +kernel
theorem dX3_offer_93 : decode cX3_offer 93 = .ok (.aload_n 0, 1) := by decide +kernel
theorem dX3_offer_94 : decode cX3_offer 94 = .ok (.lload_n 1, 1) := by decide +kernel
theorem dX3_offer_95 : decode cX3_offer 95 = .ok (.iload_n 3, 1) := by decide +kernel
theorem dX3_offer_96 : decode cX3_offer 96 = .ok (.iload 4, 2) := by decide +kernel
theorem dX3_offer_98 : decode cX3_offer 98 = .ok (.iload 5, 2) := by decide +kernel
theorem dX3_offer_100 : decode cX3_offer 100 = .ok (.invokevirtual 57, 3) := by decide +kernel
theorem dX3_offer_103 : decode cX3_offer 103 = .ok (.aload_n 0, 1) := by decide +kernel
theorem dX3_offer_104 : decode cX3_offer 104 = .ok (.getfield 7, 3) := by decide +kernel
theorem dX3_offer_107 : decode cX3_offer 107 = .ok (.aload_n 0, 1) := by decide +kernel
theorem dX3_offer_108 : decode cX3_offer 108 = .ok (.getfield 32, 3) := by decide +kernel
theorem dX3_offer_111 : decode cX3_offer 111 = .ok (.iconst 1, 1) := by decide +kernel
theorem dX3_offer_112 : decode cX3_offer 112 = .ok (.isub, 1) := by decide +kernel
theorem dX3_offer_113 : decode cX3_offer 113 = .ok (.iaload, 1) := by decide +kernel
theorem dX3_offer_114 : decode cX3_offer 114 = .ok (.ireturn, 1) := by decide +kernel
theorem dX3_offers_0 : decode cX3_offers 0 = .ok (.aload_n 0, 1) := by decide +kernel
theorem dX3_offers_1 : decode cX3_offers 1 = .ok (.lload_n 2, 1) := by decide +kernel
theorem dX3_offers_2 : decode cX3_offers 2 = .ok (.iload 4, 2) := by decide +kernel
theorem dX3_offers_4 : decode cX3_offers 4 = .ok (.iload 5, 2) := by decide +kernel
theorem dX3_offers_6 : decode cX3_offers 6 = .ok (.iload 6, 2) := by decide +kernel
theorem dX3_offers_8 : decode cX3_offers 8 = .ok (.invokestatic 48, 3) := by decide +kernel
theorem dX3_offers_11 : decode cX3_offers 11 = .ok (.ifCond .eq 15, 3) := by decide +kernel
theorem dX3_offers_14 : decode cX3_offers 14 = .ok (.iload_n 1, 1) := by decide +kernel
theorem dX3_offers_15 : decode cX3_offers 15 = .ok (.iconst 1, 1) := by decide +kernel
theorem dX3_offers_16 : decode cX3_offers 16 = .ok (.if_icmp .lt 10, 3) := by decide +kernel
theorem dX3_offers_19 : decode cX3_offers 19 = .ok (.iload_n 1, 1) := by decide +kernel
theorem dX3_offers_20 : decode cX3_offers 20 = .ok (.sipush 500, 3) := by decide +kernel
theorem dX3_offers_23 : decode cX3_offers 23 = .ok (.if_icmp .le 7, 3) := by decide +kernel
theorem dX3_offers_26 : decode cX3_offers 26 = .ok (.iconst 1, 1) := by decide +kernel
theorem dX3_offers_27 : decode cX3_offers 27 = .ok (.goto 36, 3) := by decide +kernel
theorem dX3_offers_30 : decode cX3_offers 30 = .ok (.aload_n 0, 1) := by decide +kernel
theorem dX3_offers_31 : decode cX3_offers 31 = .ok (.getfield 32, 3) := by decide +kernel
theorem dX3_offers_34 : decode cX3_offers 34 = .ok (.iload_n 1, 1) := by decide +kernel
theorem dX3_offers_35 : decode cX3_offers 35 = .ok (.iadd, 1) := by decide +kernel
theorem dX3_offers_36 : decode cX3_offers 36 = .ok (.sipush 2000, 3) := by decide +kernel
theorem dX3_offers_39 : decode cX3_offers 39 = .ok (.if_icmp .gt 19, 3) := by decide +kernel
theorem dX3_offers_42 : decode cX3_offers 42 = .ok (.aload_n 0, 1) := by decide +kernel
theorem dX3_offers_43 : decode cX3_offers 43 = .ok (.getfield 45, 3) := by decide +kernel
theorem dX3_offers_46 : decode cX3_offers 46 = .ok (.iload_n 1, 1) := by decide +kernel
theorem dX3_offers_47 : decode cX3_offers 47 = .ok (.iload 6, 2) := by decide +kernel
theorem dX3_offers_49 : decode cX3_offers 49 = .ok (.iconst 1, 1) := by decide +kernel
theorem dX3_offers_50 : decode cX3_offers 50 = .ok (.iadd, 1) := by decide +kernel
theorem dX3_offers_51 : decode cX3_offers 51 = .ok (.imul, 1) := by decide +kernel
theorem dX3_offers_52 : decode cX3_offers 52 = .ok (.iadd, 1) := by decide +kernel
theorem dX3_offers_53 : decode cX3_offers 53 = .ok (.ldc 56, 2) := by decide +kernel
theorem dX3_offers_55 : decode cX3_offers 55 = .ok (.if_icmp .le 7, 3) := by decide +kernel
theorem dX3_offers_58 : decode cX3_offers 58 = .ok (.iconst 2, 1) := by decide +kernel
theorem dX3_offers_59 : decode cX3_offers 59 = .ok (.goto 4, 3) := by decide +kernel
theorem dX3_offers_62 : decode cX3_offers 62 = .ok (.iconst 0, 1) := by decide +kernel
theorem dX3_offers_63 : decode cX3_offers 63 = .ok (.putfield 26, 3) := by decide +kernel
theorem dX3_offers_66 : decode cX3_offers 66 = .ok (.aload_n 0, 1) := by decide +kernel
theorem dX3_offers_67 : decode cX3_offers 67 = .ok (.getfield 26, 3) := by decide +kernel
theorem dX3_offers_70 : decode cX3_offers 70 = .ok (.ifCond .le 5, 3) := by decide +kernel
theorem dX3_offers_73 : decode cX3_offers 73 = .ok (.iconst 0, 1) := by decide +kernel
theorem dX3_offers_74 : decode cX3_offers 74 = .ok (.ireturn, 1) := by decide +kernel
theorem dX3_offers_75 : decode cX3_offers 75 = .ok (.aload_n 0, 1) := by decide +kernel
theorem dX3_offers_76 : decode cX3_offers 76 = .ok (.getfield 32, 3) := by decide +kernel
theorem dX3_offers_79 : decode cX3_offers 79 = .ok (.istore 7, 2) := by decide +kernel
theorem dX3_offers_81 : decode cX3_offers 81 = .ok (.iload 5, 2) := by decide +kernel
theorem dX3_offers_83 : decode cX3_offers 83 = .ok (.istore 8, 2) := by decide +kernel
theorem dX3_offers_85 : decode cX3_offers 85 = .ok (.iconst 0, 1) := by decide +kernel
theorem dX3_offers_86 : decode cX3_offers 86 = .ok (.istore 9, 2) := by decide +kernel
theorem dX3_offers_88 : decode cX3_offers 88 = .ok (.iload 9, 2) := by decide +kernel
theorem dX3_offers_90 : decode cX3_offers 90 = .ok (.iload_n 1, 1) := by decide +kernel
theorem dX3_offers_91 : decode cX3_offers 91 = .ok (.if_icmp .ge 54, 3) := by decide +kernel
theorem dX3_offers_94 : decode cX3_offers 94 = .ok (.aload_n 0, 1) := by decide +kernel
theorem dX3_offers_95 : decode cX3_offers 95 = .ok (.lload_n 2, 1) := by decide +kernel
theorem dX3_offers_96 : decode cX3_offers 96 = .ok (.iload 4, 2) := by decide +kernel
theorem dX3_offers_98 : decode cX3_offers 98 = .ok (.iload 8, 2) := by decide +kernel
theorem dX3_offers_100 : decode cX3_offers 100 = .ok (.iload 6, 2) := by decide +kernel
theorem dX3_offers_102 : decode cX3_offers 102 = .ok (.invokevirtual 52, 3) := by decide +kernel
theorem dX3_offers_105 : decode cX3_offers 105 = .ok (.iconst (-1), 1) := by decide +kernel
theorem dX3_offers_106 : decode cX3_offers 106 = .ok (.if_icmp .ne 14, 3) := by decide +kernel
theorem dX3_offers_109 : decode cX3_offers 109 = .ok (.aload_n 0, 1) := by decide +kernel
theorem dX3_offers_110 : decode cX3_offers 110 = .ok (.lload_n 2, 1) := by decide +kernel
theorem dX3_offers_111 : decode cX3_offers 111 = .ok (.iload 4, 2) := by decide +kernel
theorem dX3_offers_113 : decode cX3_offers 113 = .ok (.iload 8, 2) := by decide +kernel
theorem dX3_offers_115 : decode cX3_offers 115 = .ok (.iload 6, 2) := by decide +kernel
theorem dX3_offers_117 : decode cX3_offers 117 = .ok (.invokevirtual 57, 3) := by decide +kernel
theorem dX3_offers_120 : decode cX3_offers 120 = .ok (.lload_n 2, 1) := by decide +kernel
theorem dX3_offers_121 : decode cX3_offers 121 = .ok (.lconst 0, 1) := by decide +kernel
theorem dX3_offers_122 : decode cX3_offers 122 = .ok (.lcmp, 1) := by decide +kernel
theorem dX3_offers_123 : decode cX3_offers 123 = .ok (.ifCond .ge 7, 3) := by decide +kernel
theorem dX3_offers_126 : decode cX3_offers 126 = .ok (.iconst (-1), 1) := by decide +kernel
theorem dX3_offers_127 : decode cX3_offers 127 = .ok (.goto 10, 3) := by decide +kernel
theorem dX3_offers_130 : decode cX3_offers 130 = .ok (.iload 8, 2) := by decide +kernel
theorem dX3_offers_132 : decode cX3_offers 132 = .ok (.iload 6, 2) := by decide +kernel
theorem dX3_offers_134 : decode cX3_offers 134 = .ok (.invokestatic 41, 3) := by decide +kernel
theorem dX3_offers_137 : decode cX3_offers 137 = .ok (.istore 8, 2) := by decide +kernel
theorem dX3_offers_139 : decode cX3_offers 139 = .ok (.iinc 9 1, 3) := by decide +kernel
theorem dX3_offers_142 : decode cX3_offers 142 = .ok (.goto (-54), 3) := by decide +kernel
theorem dX3_offers_145 : decode cX3_offers 145 = .ok (.aload_n 0, 1) := by decide +kernel
theorem dX3_offers_146 : decode cX3_offers 146 = .ok (.getfield 32, 3) := by decide +kernel
theorem dX3_offers_149 : decode cX3_offers 149 = .ok (.iload 7, 2) := by decide +kernel
theorem dX3_offers_151 : decode cX3_offers 151 = .ok (.isub, 1) := by decide +kernel
theorem dX3_offers_152 : decode cX3_offers 152 = .ok (.ireturn, 1) := by decide +kernel
theorem dX3_copy_0 : decode cX3_copy 0 = .ok (.aload_n 0, 1) := by decide +kernel
theorem dX3_copy_1 : decode cX3_copy 1 = .ok (.getfield 7, 3) := by decide +kernel
theorem dX3_copy_4 : decode cX3_copy 4 = .ok (.iload_n 2, 1) := by decide +kernel
theorem dX3_copy_5 : decode cX3_copy 5 = .ok (.aload_n 0, 1) := by decide +kernel
theorem dX3_copy_6 : decode cX3_copy 6 = .ok (.getfield 7, 3) := by decide +kernel
theorem dX3_copy_9 : decode cX3_copy 9 = .ok (.iload_n 1, 1) := by decide +kernel
theorem dX3_copy_10 : decode cX3_copy 10 = .ok (.iaload, 1) := by decide +kernel
theorem dX3_copy_11 : decode cX3_copy 11 = .ok (.iastore, 1) := by decide +kernel
theorem dX3_copy_12 : decode cX3_copy 12 = .ok (.aload_n 0, 1) := by decide +kernel
theorem dX3_copy_13 : decode cX3_copy 13 = .ok (.getfield 13, 3) := by decide +kernel
theorem dX3_copy_16 : decode cX3_copy 16 = .ok (.iload_n 2, 1) := by decide +kernel
theorem dX3_copy_17 : decode cX3_copy 17 = .ok (.aload_n 0, 1) := by decide +kernel
theorem dX3_copy_18 : decode cX3_copy 18 = .ok (.getfield 13, 3) := by decide +kernel
theorem dX3_copy_21 : decode cX3_copy 21 = .ok (.iload_n 1, 1) := by decide +kernel
theorem dX3_copy_22 : decode cX3_copy 22 = .ok (.laload, 1) := by decide +kernel
theorem dX3_copy_23 : decode cX3_copy 23 = .ok (.lastore, 1) := by decide +kernel
theorem dX3_copy_24 : decode cX3_copy 24 = .ok (.aload_n 0, 1) := by decide +kernel
theorem dX3_copy_25 : decode cX3_copy 25 = .ok (.getfield 17, 3) := by decide +kernel
theorem dX3_copy_28 : decode cX3_copy 28 = .ok (.iload_n 2, 1) := by decide +kernel
theorem dX3_copy_29 : decode cX3_copy 29 = .ok (.aload_n 0, 1) := by decide +kernel
theorem dX3_copy_30 : decode cX3_copy 30 = .ok (.getfield 17, 3) := by decide +kernel
theorem dX3_copy_33 : decode cX3_copy 33 = .ok (.iload_n 1, 1) := by decide +kernel
theorem dX3_copy_34 : decode cX3_copy 34 = .ok (.iaload, 1) := by decide +kernel
theorem dX3_copy_35 : decode cX3_copy 35 = .ok (.iastore, 1) := by decide +kernel
theorem dX3_copy_36 : decode cX3_copy 36 = .ok (.aload_n 0, 1) := by decide +kernel
theorem dX3_copy_37 : decode cX3_copy 37 = .ok (.getfield 20, 3) := by decide +kernel
theorem dX3_copy_40 : decode cX3_copy 40 = .ok (.iload_n 2, 1) := by decide +kernel
theorem dX3_copy_41 : decode cX3_copy 41 = .ok (.aload_n 0, 1) := by decide +kernel
theorem dX3_copy_42 : decode cX3_copy 42 = .ok (.getfield 20, 3) := by decide +kernel
theorem dX3_copy_45 : decode cX3_copy 45 = .ok (.iload_n 1, 1) := by decide +kernel
theorem dX3_copy_46 : decode cX3_copy 46 = .ok (.iaload, 1) := by decide +kernel
theorem dX3_copy_47 : decode cX3_copy 47 = .ok (.iastore, 1) := by decide +kernel
theorem dX3_copy_48 : decode cX3_copy 48 = .ok (.aload_n 0, 1) := by decide +kernel
theorem dX3_copy_49 : decode cX3_copy 49 = .ok (.getfield 23, 3) := by decide +kernel
theorem dX3_copy_52 : decode cX3_copy 52 = .ok (.iload_n 2, 1) := by decide +kernel
theorem dX3_copy_53 : decode cX3_copy 53 = .ok (.aload_n 0, 1) := by decide +kernel
theorem dX3_copy_54 : decode cX3_copy 54 = .ok (.getfield 23, 3) := by decide +kernel
theorem dX3_copy_57 : decode cX3_copy 57 = .ok (.iload_n 1, 1) := by decide +kernel
theorem dX3_copy_58 : decode cX3_copy 58 = .ok (.iaload, 1) := by decide +kernel
theorem dX3_copy_59 : decode cX3_copy 59 = .ok (.iastore, 1) := by decide +kernel
theorem dX3_copy_60 : decode cX3_copy 60 = .ok (.return_, 1) := by decide +kernel
theorem dX3_drop_0 : decode cX3_drop 0 = .ok (.aload_n 0, 1) := by decide +kernel
theorem dX3_drop_1 : decode cX3_drop 1 = .ok (.iload_n 1, 1) := by decide +kernel
theorem dX3_drop_2 : decode cX3_drop 2 = .ok (.ifCond .lt 10, 3) := by decide +kernel
theorem dX3_drop_5 : decode cX3_drop 5 = .ok (.iload_n 1, 1) := by decide +kernel
theorem dX3_drop_6 : decode cX3_drop 6 = .ok (.sipush 2000, 3) := by decide +kernel
theorem dX3_drop_9 : decode cX3_drop 9 = .ok (.if_icmp .le 7, 3) := by decide +kernel
theorem dX3_drop_12 : decode cX3_drop 12 = .ok (.iconst 1, 1) := by decide +kernel
theorem dX3_drop_13 : decode cX3_drop 13 = .ok (.goto 4, 3) := by decide +kernel
theorem dX3_drop_16 : decode cX3_drop 16 = .ok (.iconst 0, 1) := by decide +kernel
theorem dX3_drop_17 : decode cX3_drop 17 = .ok (.putfield 26, 3) := by decide +kernel
theorem dX3_drop_20 : decode cX3_drop 20 = .ok (.aload_n 0, 1) := by decide +kernel
theorem dX3_drop_21 : decode cX3_drop 21 = .ok (.getfield 26, 3) := by decide +kernel
theorem dX3_drop_24 : decode cX3_drop 24 = .ok (.ifCond .le 5, 3) := by decide +kernel
theorem dX3_drop_27 : decode cX3_drop 27 = .ok (.iconst 0, 1) := by decide +kernel
theorem dX3_drop_28 : decode cX3_drop 28 = .ok (.ireturn, 1) := by decide +kernel
theorem dX3_drop_29 : decode cX3_drop 29 = .ok (.iload_n 1, 1) := by decide +kernel
theorem dX3_drop_30 : decode cX3_drop 30 = .ok (.aload_n 0, 1) := by decide +kernel
theorem dX3_drop_31 : decode cX3_drop 31 = .ok (.getfield 32, 3) := by decide +kernel
theorem dX3_drop_34 : decode cX3_drop 34 = .ok (.if_icmp .ge 7, 3) := by decide +kernel
theorem dX3_drop_37 : decode cX3_drop 37 = .ok (.iload_n 1, 1) := by decide +kernel
theorem dX3_drop_38 : decode cX3_drop 38 = .ok (.goto 7, 3) := by decide +kernel
theorem dX3_drop_41 : decode cX3_drop 41 = .ok (.aload_n 0, 1) := by decide +kernel
theorem dX3_drop_42 : decode cX3_drop 42 = .ok (.getfield 32, 3) := by decide +kernel
theorem dX3_drop_45 : decode cX3_drop 45 = .ok (.istore_n 2, 1) := by decide +kernel
theorem dX3_drop_46 : decode cX3_drop 46 = .ok (.iload_n 2, 1) := by decide +kernel
theorem dX3_drop_47 : decode cX3_drop 47 = .ok (.istore_n 3, 1) := by decide +kernel
theorem dX3_drop_48 : decode cX3_drop 48 = .ok (.iload_n 3, 1) := by decide +kernel
theorem dX3_drop_49 : decode cX3_drop 49 = .ok (.aload_n 0, 1) := by decide +kernel
theorem dX3_drop_50 : decode cX3_drop 50 = .ok (.getfield 32, 3) := by decide +kernel
theorem dX3_drop_53 : decode cX3_drop 53 = .ok (.if_icmp .ge 17, 3) := by decide +kernel
theorem dX3_drop_56 : decode cX3_drop 56 = .ok (.aload_n 0, 1) := by decide +kernel
theorem dX3_drop_57 : decode cX3_drop 57 = .ok (.iload_n 3, 1) := by decide +kernel
theorem dX3_drop_58 : decode cX3_drop 58 = .ok (.iload_n 3, 1) := by decide +kernel
theorem dX3_drop_59 : decode cX3_drop 59 = .ok (.iload_n 2, 1) := by decide +kernel
theorem dX3_drop_60 : decode cX3_drop 60 = .ok (.isub, 1) := by decide +kernel
theorem dX3_drop_61 : decode cX3_drop 61 = .ok (.invokevirtual 61, 3) := by decide +kernel
theorem dX3_drop_64 : decode cX3_drop 64 = .ok (.iinc 3 1, 3) := by decide +kernel
theorem dX3_drop_67 : decode cX3_drop 67 = .ok (.goto (-19), 3) := by decide +kernel
theorem dX3_drop_70 : decode cX3_drop 70 = .ok (.aload_n 0, 1) := by decide +kernel
theorem dX3_drop_71 : decode cX3_drop 71 = .ok (.dup, 1) := by decide +kernel
theorem dX3_drop_72 : decode cX3_drop 72 = .ok (.getfield 32, 3) := by decide +kernel
theorem dX3_drop_75 : decode cX3_drop 75 = .ok (.iload_n 2, 1) := by decide +kernel
theorem dX3_drop_76 : decode cX3_drop 76 = .ok (.isub, 1) := by decide +kernel
theorem dX3_drop_77 : decode cX3_drop 77 = .ok (.putfield 32, 3) := by decide +kernel
theorem dX3_drop_80 : decode cX3_drop 80 = .ok (.iload_n 2, 1) := by decide +kernel
theorem dX3_drop_81 : decode cX3_drop 81 = .ok (.ireturn, 1) := by decide +kernel
theorem dX3_laterOnes_0 : decode cX3_laterOnes 0 = .ok (.iconst 0, 1) := by decide +kernel
theorem dX3_laterOnes_1 : decode cX3_laterOnes 1 = .ok (.istore_n 2, 1) := by decide +kernel
theorem dX3_laterOnes_2 : decode cX3_laterOnes 2 = .ok (.iload_n 1, 1) := by decide +kernel
theorem dX3_laterOnes_3 : decode cX3_laterOnes 3 = .ok (.iconst 1, 1) := by decide +kernel
theorem dX3_laterOnes_4 : decode cX3_laterOnes 4 = .ok (.iadd, 1) := by decide +kernel
theorem dX3_laterOnes_5 : decode cX3_laterOnes 5 = .ok (.istore_n 3, 1) := by decide +kernel
theorem dX3_laterOnes_6 : decode cX3_laterOnes 6 = .ok (.iload_n 3, 1) := by decide +kernel
theorem dX3_laterOnes_7 : decode cX3_laterOnes 7 = .ok (.aload_n 0, 1) := by decide +kernel
theorem dX3_laterOnes_8 : decode cX3_laterOnes 8 = .ok (.getfield 32, 3) := by decide +kernel
theorem dX3_laterOnes_11 : decode cX3_laterOnes 11 = .ok (.if_icmp .ge 33, 3) := by decide +kernel
theorem dX3_laterOnes_14 : decode cX3_laterOnes 14 = .ok (.iload_n 2, 1) := by decide +kernel
theorem dX3_laterOnes_15 : decode cX3_laterOnes 15 = .ok (.aload_n 0, 1) := by decide +kernel
theorem dX3_laterOnes_16 : decode cX3_laterOnes 16 = .ok (.getfield 13, 3) := by decide +kernel
theorem dX3_laterOnes_19 : decode cX3_laterOnes 19 = .ok (.iload_n 3, 1) := by decide +kernel
theorem dX3_laterOnes_20 : decode cX3_laterOnes 20 = .ok (.laload, 1) := by decide +kernel
theorem dX3_laterOnes_21 : decode cX3_laterOnes 21 = .ok (.aload_n 0, 1) := by decide +kernel
theorem dX3_laterOnes_22 : decode cX3_laterOnes 22 = .ok (.getfield 13, 3) := by decide +kernel
theorem dX3_laterOnes_25 : decode cX3_laterOnes 25 = .ok (.iload_n 1, 1) := by decide +kernel
theorem dX3_laterOnes_26 : decode cX3_laterOnes 26 = .ok (.laload, 1) := by decide +kernel
theorem dX3_laterOnes_27 : decode cX3_laterOnes 27 = .ok (.lcmp, 1) := by decide +kernel
theorem dX3_laterOnes_28 : decode cX3_laterOnes 28 = .ok (.ifCond .ne 7, 3) := by decide +kernel
theorem dX3_laterOnes_31 : decode cX3_laterOnes 31 = .ok (.iconst 1, 1) := by decide +kernel
theorem dX3_laterOnes_32 : decode cX3_laterOnes 32 = .ok (.goto 4, 3) := by decide +kernel
theorem dX3_laterOnes_35 : decode cX3_laterOnes 35 = .ok (.iconst 0, 1) := by decide +kernel
theorem dX3_laterOnes_36 : decode cX3_laterOnes 36 = .ok (.iadd, 1) := by decide +kernel
theorem dX3_laterOnes_37 : decode cX3_laterOnes 37 = .ok (.istore_n 2, 1) := by decide +kernel
theorem dX3_laterOnes_38 : decode cX3_laterOnes 38 = .ok (.iinc 3 1, 3) := by decide +kernel
theorem dX3_laterOnes_41 : decode cX3_laterOnes 41 = .ok (.goto (-35), 3) := by decide +kernel
theorem dX3_laterOnes_44 : decode cX3_laterOnes 44 = .ok (.iload_n 2, 1) := by decide +kernel
theorem dX3_laterOnes_45 : decode cX3_laterOnes 45 = .ok (.ireturn, 1) := by decide +kernel
theorem dX3_isKnown_0 : decode cX3_isKnown 0 = .ok (.aload_n 0, 1) := by decide +kernel
theorem dX3_isKnown_1 : decode cX3_isKnown 1 = .ok (.getfield 13, 3) := by decide +kernel
theorem dX3_isKnown_4 : decode cX3_isKnown 4 = .ok (.iload_n 1, 1) := by decide +kernel
theorem dX3_isKnown_5 : decode cX3_isKnown 5 = .ok (.laload, 1) := by decide +kernel
theorem dX3_isKnown_6 : decode cX3_isKnown 6 = .ok (.lconst 0, 1) := by decide +kernel
theorem dX3_isKnown_7 : decode cX3_isKnown 7 = .ok (.lcmp, 1) := by decide +kernel
theorem dX3_isKnown_8 : decode cX3_isKnown 8 = .ok (.ifCond .lt 16, 3) := by decide +kernel
theorem dX3_isKnown_11 : decode cX3_isKnown 11 = .ok (.aload_n 0, 1) := by decide +kernel
theorem dX3_isKnown_12 : decode cX3_isKnown 12 = .ok (.iload_n 1, 1) := by decide +kernel
theorem dX3_isKnown_13 : decode cX3_isKnown 13 = .ok (.invokevirtual 65, 3) := by decide +kernel
theorem dX3_isKnown_16 : decode cX3_isKnown 16 = .ok (.iconst 5, 1) := by decide +kernel
theorem dX3_isKnown_17 : decode cX3_isKnown 17 = .ok (.if_icmp .ge 7, 3) := by decide +kernel
theorem dX3_isKnown_20 : decode cX3_isKnown 20 = .ok (.iconst 1, 1) := by decide +kernel
theorem dX3_isKnown_21 : decode cX3_isKnown 21 = .ok (.goto 4, 3) := by decide +kernel
theorem dX3_isKnown_24 : decode cX3_isKnown 24 = .ok (.iconst 0, 1) := by decide +kernel
theorem dX3_isKnown_25 : decode cX3_isKnown 25 = .ok (.ireturn, 1) := by decide +kernel
theorem dX3_thin_0 : decode cX3_thin 0 = .ok (.aload_n 0, 1) := by decide +kernel
theorem dX3_thin_1 : decode cX3_thin 1 = .ok (.iconst 0, 1) := by decide +kernel
theorem dX3_thin_2 : decode cX3_thin 2 = .ok (.putfield 26, 3) := by decide +kernel
theorem dX3_thin_5 : decode cX3_thin 5 = .ok (.aload_n 0, 1) := by decide +kernel
theorem dX3_thin_6 : decode cX3_thin 6 = .ok (.getfield 32, 3) := by decide +kernel
theorem dX3_thin_9 : decode cX3_thin 9 = .ok (.istore_n 1, 1) := by decide +kernel
theorem dX3_thin_10 : decode cX3_thin 10 = .ok (.iconst 0, 1) := by decide +kernel
theorem dX3_thin_11 : decode cX3_thin 11 = .ok (.istore_n 2, 1) := by decide +kernel
theorem dX3_thin_12 : decode cX3_thin 12 = .ok (.iconst 0, 1) := by decide +kernel
theorem dX3_thin_13 : decode cX3_thin 13 = .ok (.istore_n 3, 1) := by decide +kernel
theorem dX3_thin_14 : decode cX3_thin 14 = .ok (.iload_n 3, 1) := by decide +kernel
theorem dX3_thin_15 : decode cX3_thin 15 = .ok (.iload_n 1, 1) := by decide +kernel
theorem dX3_thin_16 : decode cX3_thin 16 = .ok (.if_icmp .ge 26, 3) := by decide +kernel
theorem dX3_thin_19 : decode cX3_thin 19 = .ok (.aload_n 0, 1) := by decide +kernel
theorem dX3_thin_20 : decode cX3_thin 20 = .ok (.iload_n 3, 1) := by decide +kernel
theorem dX3_thin_21 : decode cX3_thin 21 = .ok (.invokevirtual 69, 3) := by decide +kernel
theorem dX3_thin_24 : decode cX3_thin 24 = .ok (.ifCond .eq 12, 3) := by decide +kernel
theorem dX3_thin_27 : decode cX3_thin 27 = .ok (.aload_n 0, 1) := by decide +kernel
theorem dX3_thin_28 : decode cX3_thin 28 = .ok (.iload_n 3, 1) := by decide +kernel
theorem dX3_thin_29 : decode cX3_thin 29 = .ok (.iload_n 2, 1) := by decide +kernel
theorem dX3_thin_30 : decode cX3_thin 30 = .ok (.invokevirtual 61, 3) := by decide +kernel
theorem dX3_thin_33 : decode cX3_thin 33 = .ok (.iinc 2 1, 3) := by decide +kernel
theorem dX3_thin_36 : decode cX3_thin 36 = .ok (.iinc 3 1, 3) := by decide +kernel
theorem dX3_thin_39 : decode cX3_thin 39 = .ok (.goto (-25), 3) := by decide +kernel
theorem dX3_thin_42 : decode cX3_thin 42 = .ok (.aload_n 0, 1) := by decide +kernel
theorem dX3_thin_43 : decode cX3_thin 43 = .ok (.iload_n 2, 1) := by decide +kernel
theorem dX3_thin_44 : decode cX3_thin 44 = .ok (.putfield 32, 3) := by decide +kernel
theorem dX3_thin_47 : decode cX3_thin 47 = .ok (.iload_n 1, 1) := by decide +kernel
theorem dX3_thin_48 : decode cX3_thin 48 = .ok (.iload_n 2, 1) := by decide +kernel
theorem dX3_thin_49 : decode cX3_thin 49 = .ok (.isub, 1) := by decide +kernel
theorem dX3_thin_50 : decode cX3_thin 50 = .ok (.ireturn, 1) := by decide +kernel
theorem dX3_known_0 : decode cX3_known 0 = .ok (.aload_n 0, 1) := by decide +kernel
theorem dX3_known_1 : decode cX3_known 1 = .ok (.lload_n 1, 1) := by decide +kernel
theorem dX3_known_2 : decode cX3_known 2 = .ok (.lconst 0, 1) := by decide +kernel
theorem dX3_known_3 : decode cX3_known 3 = .ok (.lcmp, 1) := by decide +kernel
theorem dX3_known_4 : decode cX3_known 4 = .ok (.ifCond .lt 12, 3) := by decide +kernel
theorem dX3_known_7 : decode cX3_known 7 = .ok (.iload_n 3, 1) := by decide +kernel
theorem dX3_known_8 : decode cX3_known 8 = .ok (.ifCond .lt 8, 3) := by decide +kernel
theorem dX3_known_11 : decode cX3_known 11 = .ok (.iload_n 3, 1) := by decide +kernel
theorem dX3_known_12 : decode cX3_known 12 = .ok (.iconst 4, 1) := by decide +kernel
theorem dX3_known_13 : decode cX3_known 13 = .ok (.if_icmp .le 7, 3) := by decide +kernel
theorem dX3_known_16 : decode cX3_known 16 = .ok (.iconst 1, 1) := by decide +kernel
theorem dX3_known_17 : decode cX3_known 17 = .ok (.goto 4, 3) := by decide +kernel
theorem dX3_known_20 : decode cX3_known 20 = .ok (.iconst 0, 1) := by decide +kernel
theorem dX3_known_21 : decode cX3_known 21 = .ok (.putfield 26, 3) := by decide +kernel
theorem dX3_known_24 : decode cX3_known 24 = .ok (.aload_n 0, 1) := by decide +kernel
theorem dX3_known_25 : decode cX3_known 25 = .ok (.getfield 26, 3) := by decide +kernel
theorem dX3_known_28 : decode cX3_known 28 = .ok (.ifCond .le 5, 3) := by decide +kernel
theorem dX3_known_31 : decode cX3_known 31 = .ok (.iconst 0, 1) := by decide +kernel
theorem dX3_known_32 : decode cX3_known 32 = .ok (.ireturn, 1) := by decide +kernel
theorem dX3_known_33 : decode cX3_known 33 = .ok (.iconst 0, 1) := by decide +kernel
theorem dX3_known_34 : decode cX3_known 34 = .ok (.istore 4, 2) := by decide +kernel
theorem dX3_known_36 : decode cX3_known 36 = .ok (.iload 4, 2) := by decide +kernel
theorem dX3_known_38 : decode cX3_known 38 = .ok (.iconst 5, 1) := by decide +kernel
theorem dX3_known_39 : decode cX3_known 39 = .ok (.if_icmp .ge 19, 3) := by decide +kernel
theorem dX3_known_42 : decode cX3_known 42 = .ok (.aload_n 0, 1) := by decide +kernel
theorem dX3_known_43 : decode cX3_known 43 = .ok (.lload_n 1, 1) := by decide +kernel
theorem dX3_known_44 : decode cX3_known 44 = .ok (.iload 4, 2) := by decide +kernel
theorem dX3_known_46 : decode cX3_known 46 = .ok (.invokevirtual 37, 3) := by decide +kernel
theorem dX3_known_49 : decode cX3_known 49 = .ok (.ifCond .lt 9, 3) := by decide +kernel
theorem dX3_known_52 : decode cX3_known 52 = .ok (.iinc 4 1, 3) := by decide +kernel
theorem dX3_known_55 : decode cX3_known 55 = .ok (.goto (-19), 3) := by decide +kernel
theorem dX3_known_58 : decode cX3_known 58 = .ok (.iload_n 3, 1) := by decide +kernel
theorem dX3_known_59 : decode cX3_known 59 = .ok (.ifCond .ne 6, 3) := by decide +kernel
theorem dX3_known_62 : decode cX3_known 62 = .ok (.iload 4, 2) := by decide +kernel
theorem dX3_known_64 : decode cX3_known 64 = .ok (.ireturn, 1) := by decide +kernel
theorem dX3_known_65 : decode cX3_known 65 = .ok (.iload 4, 2) := by decide +kernel
theorem dX3_known_67 : decode cX3_known 67 = .ok (.ifCond .ne 5, 3) := by decide +kernel
theorem dX3_known_70 : decode cX3_known 70 = .ok (.iconst (-1), 1) := by decide +kernel
theorem dX3_known_71 : decode cX3_known 71 = .ok (.ireturn, 1) := by decide +kernel
theorem dX3_known_72 : decode cX3_known 72 = .ok (.aload_n 0, 1) := by decide +kernel
theorem dX3_known_73 : decode cX3_known 73 = .ok (.lload_n 1, 1) := by decide +kernel
theorem dX3_known_74 : decode cX3_known 74 = .ok (.iconst 0, 1) := by decide +kernel
theorem dX3_known_75 : decode cX3_known 75 = .ok (.invokevirtual 37, 3) := by decide +kernel
theorem dX3_known_78 : decode cX3_known 78 = .ok (.istore 5, 2) := by decide +kernel
theorem dX3_known_80 : decode cX3_known 80 = .ok (.iload_n 3, 1) := by decide +kernel
theorem dX3_known_81 : decode cX3_known 81 = .ok (.tableswitch 61 1 3 #[27, 35, 53], 27) := by decide +kernel
theorem dX3_known_108 : decode cX3_known 108 = .ok (.aload_n 0, 1) := by decide +kernel
theorem dX3_known_109 : decode cX3_known 109 = .ok (.getfield 17, 3) := by decide +kernel
theorem dX3_known_112 : decode cX3_known 112 = .ok (.iload 5, 2) := by decide +kernel
theorem dX3_known_114 : decode cX3_known 114 = .ok (.iaload, 1) := by decide +kernel
theorem dX3_known_115 : decode cX3_known 115 = .ok (.ireturn, 1) := by decide +kernel
theorem dX3_known_116 : decode cX3_known 116 = .ok (.aload_n 0, 1) := by decide +kernel
theorem dX3_known_117 : decode cX3_known 117 = .ok (.getfield 20, 3) := by decide +kernel
theorem dX3_known_120 : decode cX3_known 120 = .ok (.iload 5, 2) := by decide +kernel
theorem dX3_known_122 : decode cX3_known 122 = .ok (.iaload, 1) := by decide +kernel
theorem dX3_known_123 : decode cX3_known 123 = .ok (.aload_n 0, 1) := by decide +kernel
theorem dX3_known_124 : decode cX3_known 124 = .ok (.getfield 23, 3) := by decide +kernel
theorem dX3_known_127 : decode cX3_known 127 = .ok (.iload 5, 2) := by decide +kernel
theorem dX3_known_129 : decode cX3_known 129 = .ok (.iaload, 1) := by decide +kernel
theorem dX3_known_130 : decode cX3_known 130 = .ok (.invokestatic 41, 3) := by decide +kernel
theorem dX3_known_133 : decode cX3_known 133 = .ok (.ireturn, 1) := by decide +kernel
theorem dX3_known_134 : decode cX3_known 134 = .ok (.aload_n 0, 1) := by decide +kernel
theorem dX3_known_135 : decode cX3_known 135 = .ok (.getfield 7, 3) := by decide +kernel
theorem dX3_known_138 : decode cX3_known 138 = .ok (.iload 5, 2) := by decide +kernel
theorem dX3_known_140 : decode cX3_known 140 = .ok (.iaload, 1) := by decide +kernel
theorem dX3_known_141 : decode cX3_known 141 = .ok (.ireturn, 1) := by decide +kernel
theorem dX3_known_142 : decode cX3_known 142 = .ok (.aload_n 0, 1) := by decide +kernel
theorem dX3_known_143 : decode cX3_known 143 = .ok (.getfield 7, 3) := by decide +kernel
theorem dX3_known_146 : decode cX3_known 146 = .ok (.aload_n 0, 1) := by decide +kernel
theorem dX3_known_147 : decode cX3_known 147 = .ok (.lload_n 1, 1) := by decide +kernel
theorem dX3_known_148 : decode cX3_known 148 = .ok (.iload 4, 2) := by decide +kernel
theorem dX3_known_150 : decode cX3_known 150 = .ok (.iconst 1, 1) := by decide +kernel
theorem dX3_known_151 : decode cX3_known 151 = .ok (.isub, 1) := by decide +kernel
theorem dX3_known_152 : decode cX3_known 152 = .ok (.invokevirtual 37, 3) := by decide +kernel
theorem dX3_known_155 : decode cX3_known 155 = .ok (.iaload, 1) := by decide +kernel
theorem dX3_known_156 : decode cX3_known 156 = .ok (.ireturn, 1) := by decide +kernel
theorem dX3_batch_0 : decode cX3_batch 0 = .ok (.aload_n 0, 1) := by decide +kernel
theorem dX3_batch_1 : decode cX3_batch 1 = .ok (.iload_n 1, 1) := by decide +kernel
theorem dX3_batch_2 : decode cX3_batch 2 = .ok (.ifCond .lt 20, 3) := by decide +kernel
theorem dX3_batch_5 : decode cX3_batch 5 = .ok (.iload_n 1, 1) := by decide +kernel
theorem dX3_batch_6 : decode cX3_batch 6 = .ok (.aload_n 0, 1) := by decide +kernel
theorem dX3_batch_7 : decode cX3_batch 7 = .ok (.getfield 32, 3) := by decide +kernel
theorem dX3_batch_10 : decode cX3_batch 10 = .ok (.if_icmp .ge 12, 3) := by decide +kernel
theorem dX3_batch_13 : decode cX3_batch 13 = .ok (.iload_n 2, 1) := by decide +kernel
theorem dX3_batch_14 : decode cX3_batch 14 = .ok (.ifCond .lt 8, 3) := by decide +kernel
theorem dX3_batch_17 : decode cX3_batch 17 = .ok (.iload_n 2, 1) := by decide +kernel
theorem dX3_batch_18 : decode cX3_batch 18 = .ok (.iconst 5, 1) := by decide +kernel
theorem dX3_batch_19 : decode cX3_batch 19 = .ok (.if_icmp .le 7, 3) := by decide +kernel
theorem dX3_batch_22 : decode cX3_batch 22 = .ok (.iconst 1, 1) := by decide +kernel
theorem dX3_batch_23 : decode cX3_batch 23 = .ok (.goto 4, 3) := by decide +kernel
theorem dX3_batch_26 : decode cX3_batch 26 = .ok (.iconst 0, 1) := by decide +kernel
theorem dX3_batch_27 : decode cX3_batch 27 = .ok (.putfield 26, 3) := by decide +kernel
theorem dX3_batch_30 : decode cX3_batch 30 = .ok (.aload_n 0, 1) := by decide +kernel
theorem dX3_batch_31 : decode cX3_batch 31 = .ok (.getfield 26, 3) := by decide +kernel
theorem dX3_batch_34 : decode cX3_batch 34 = .ok (.ifCond .le 5, 3) := by decide +kernel
theorem dX3_batch_37 : decode cX3_batch 37 = .ok (.lconst 0, 1) := by decide +kernel
theorem dX3_batch_38 : decode cX3_batch 38 = .ok (.lreturn, 1) := by decide +kernel
theorem dX3_batch_39 : decode cX3_batch 39 = .ok (.iload_n 2, 1) := by decide +kernel
theorem dX3_batch_40 : decode cX3_batch 40 = .ok (.tableswitch 75 0 4 #[36, 44, 51, 59, 67], 36) := by decide +kernel
theorem dX3_batch_76 : decode cX3_batch 76 = .ok (.aload_n 0, 1) := by decide +kernel
theorem dX3_batch_77 : decode cX3_batch 77 = .ok (.getfield 7, 3) := by decide +kernel
theorem dX3_batch_80 : decode cX3_batch 80 = .ok (.iload_n 1, 1) := by decide +kernel
theorem dX3_batch_81 : decode cX3_batch 81 = .ok (.iaload, 1) := by decide +kernel
theorem dX3_batch_82 : decode cX3_batch 82 = .ok (.i2l, 1) := by decide +kernel
theorem dX3_batch_83 : decode cX3_batch 83 = .ok (.lreturn, 1) := by decide +kernel
theorem dX3_batch_84 : decode cX3_batch 84 = .ok (.aload_n 0, 1) := by decide +kernel
theorem dX3_batch_85 : decode cX3_batch 85 = .ok (.getfield 13, 3) := by decide +kernel
theorem dX3_batch_88 : decode cX3_batch 88 = .ok (.iload_n 1, 1) := by decide +kernel
theorem dX3_batch_89 : decode cX3_batch 89 = .ok (.laload, 1) := by decide +kernel
theorem dX3_batch_90 : decode cX3_batch 90 = .ok (.lreturn, 1) := by decide +kernel
theorem dX3_batch_91 : decode cX3_batch 91 = .ok (.aload_n 0, 1) := by decide +kernel
theorem dX3_batch_92 : decode cX3_batch 92 = .ok (.getfield 17, 3) := by decide +kernel
theorem dX3_batch_95 : decode cX3_batch 95 = .ok (.iload_n 1, 1) := by decide +kernel
theorem dX3_batch_96 : decode cX3_batch 96 = .ok (.iaload, 1) := by decide +kernel
theorem dX3_batch_97 : decode cX3_batch 97 = .ok (.i2l, 1) := by decide +kernel
theorem dX3_batch_98 : decode cX3_batch 98 = .ok (.lreturn, 1) := by decide +kernel
theorem dX3_batch_99 : decode cX3_batch 99 = .ok (.aload_n 0, 1) := by decide +kernel
theorem dX3_batch_100 : decode cX3_batch 100 = .ok (.getfield 20, 3) := by decide +kernel
theorem dX3_batch_103 : decode cX3_batch 103 = .ok (.iload_n 1, 1) := by decide +kernel
theorem dX3_batch_104 : decode cX3_batch 104 = .ok (.iaload, 1) := by decide +kernel
theorem dX3_batch_105 : decode cX3_batch 105 = .ok (.i2l, 1) := by decide +kernel
theorem dX3_batch_106 : decode cX3_batch 106 = .ok (.lreturn, 1) := by decide +kernel
theorem dX3_batch_107 : decode cX3_batch 107 = .ok (.aload_n 0, 1) := by decide +kernel
theorem dX3_batch_108 : decode cX3_batch 108 = .ok (.getfield 23, 3) := by decide +kernel
theorem dX3_batch_111 : decode cX3_batch 111 = .ok (.iload_n 1, 1) := by decide +kernel
theorem dX3_batch_112 : decode cX3_batch 112 = .ok (.iaload, 1) := by decide +kernel
theorem dX3_batch_113 : decode cX3_batch 113 = .ok (.i2l, 1) := by decide +kernel
theorem dX3_batch_114 : decode cX3_batch 114 = .ok (.lreturn, 1) := by decide +kernel
theorem dX3_batch_115 : decode cX3_batch 115 = .ok (.aload_n 0, 1) := by decide +kernel
theorem dX3_batch_116 : decode cX3_batch 116 = .ok (.iload_n 1, 1) := by decide +kernel
theorem dX3_batch_117 : decode cX3_batch 117 = .ok (.invokevirtual 69, 3) := by decide +kernel
theorem dX3_batch_120 : decode cX3_batch 120 = .ok (.ifCond .eq 7, 3) := by decide +kernel
theorem dX3_batch_123 : decode cX3_batch 123 = .ok (.lconst 1, 1) := by decide +kernel
theorem dX3_batch_124 : decode cX3_batch 124 = .ok (.goto 4, 3) := by decide +kernel
theorem dX3_batch_127 : decode cX3_batch 127 = .ok (.lconst 0, 1) := by decide +kernel
theorem dX3_batch_128 : decode cX3_batch 128 = .ok (.lreturn, 1) := by decide +kernel
theorem dX3_count_0 : decode cX3_count 0 = .ok (.aload_n 0, 1) := by decide +kernel
theorem dX3_count_1 : decode cX3_count 1 = .ok (.iload_n 1, 1) := by decide +kernel
theorem dX3_count_2 : decode cX3_count 2 = .ok (.ifCond .lt 8, 3) := by decide +kernel
theorem dX3_count_5 : decode cX3_count 5 = .ok (.iload_n 1, 1) := by decide +kernel
theorem dX3_count_6 : decode cX3_count 6 = .ok (.iconst 2, 1) := by decide +kernel
theorem dX3_count_7 : decode cX3_count 7 = .ok (.if_icmp .le 7, 3) := by decide +kernel
theorem dX3_count_10 : decode cX3_count 10 = .ok (.iconst 1, 1) := by decide +kernel
theorem dX3_count_11 : decode cX3_count 11 = .ok (.goto 4, 3) := by decide +kernel
theorem dX3_count_14 : decode cX3_count 14 = .ok (.iconst 0, 1) := by decide +kernel
theorem dX3_count_15 : decode cX3_count 15 = .ok (.putfield 26, 3) := by decide +kernel
theorem dX3_count_18 : decode cX3_count 18 = .ok (.aload_n 0, 1) := by decide +kernel
theorem dX3_count_19 : decode cX3_count 19 = .ok (.getfield 26, 3) := by decide +kernel
theorem dX3_count_22 : decode cX3_count 22 = .ok (.ifCond .le 5, 3) := by decide +kernel
theorem dX3_count_25 : decode cX3_count 25 = .ok (.iconst 0, 1) := by decide +kernel
theorem dX3_count_26 : decode cX3_count 26 = .ok (.ireturn, 1) := by decide +kernel
theorem dX3_count_27 : decode cX3_count 27 = .ok (.iload_n 1, 1) := by decide +kernel
theorem dX3_count_28 : decode cX3_count 28 = .ok (.iconst 1, 1) := by decide +kernel
theorem dX3_count_29 : decode cX3_count 29 = .ok (.if_icmp .eq 19, 3) := by decide +kernel
theorem dX3_count_32 : decode cX3_count 32 = .ok (.iload_n 1, 1) := by decide +kernel
theorem dX3_count_33 : decode cX3_count 33 = .ok (.ifCond .ne 10, 3) := by decide +kernel
theorem dX3_count_36 : decode cX3_count 36 = .ok (.aload_n 0, 1) := by decide +kernel
theorem dX3_count_37 : decode cX3_count 37 = .ok (.getfield 32, 3) := by decide +kernel
theorem dX3_count_40 : decode cX3_count 40 = .ok (.goto 7, 3) := by decide +kernel
theorem dX3_count_43 : decode cX3_count 43 = .ok (.aload_n 0, 1) := by decide +kernel
theorem dX3_count_44 : decode cX3_count 44 = .ok (.getfield 45, 3) := by decide +kernel
theorem dX3_count_47 : decode cX3_count 47 = .ok (.ireturn, 1) := by decide +kernel
theorem dX3_count_48 : decode cX3_count 48 = .ok (.iconst 0, 1) := by decide +kernel
theorem dX3_count_49 : decode cX3_count 49 = .ok (.istore_n 2, 1) := by decide +kernel
theorem dX3_count_50 : decode cX3_count 50 = .ok (.iconst 0, 1) := by decide +kernel
theorem dX3_count_51 : decode cX3_count 51 = .ok (.istore_n 3, 1) := by decide +kernel
theorem dX3_count_52 : decode cX3_count 52 = .ok (.iload_n 3, 1) := by decide +kernel
theorem dX3_count_53 : decode cX3_count 53 = .ok (.aload_n 0, 1) := by decide +kernel
theorem dX3_count_54 : decode cX3_count 54 = .ok (.getfield 32, 3) := by decide +kernel
theorem dX3_count_57 : decode cX3_count 57 = .ok (.if_icmp .ge 36, 3) := by decide +kernel
theorem dX3_count_60 : decode cX3_count 60 = .ok (.iload_n 2, 1) := by decide +kernel
theorem dX3_count_61 : decode cX3_count 61 = .ok (.aload_n 0, 1) := by decide +kernel
theorem dX3_count_62 : decode cX3_count 62 = .ok (.getfield 13, 3) := by decide +kernel
theorem dX3_count_65 : decode cX3_count 65 = .ok (.iload_n 3, 1) := by decide +kernel
theorem dX3_count_66 : decode cX3_count 66 = .ok (.laload, 1) := by decide +kernel
theorem dX3_count_67 : decode cX3_count 67 = .ok (.lconst 0, 1) := by decide +kernel
theorem dX3_count_68 : decode cX3_count 68 = .ok (.lcmp, 1) := by decide +kernel
theorem dX3_count_69 : decode cX3_count 69 = .ok (.ifCond .lt 15, 3) := by decide +kernel
theorem dX3_count_72 : decode cX3_count 72 = .ok (.aload_n 0, 1) := by decide +kernel
theorem dX3_count_73 : decode cX3_count 73 = .ok (.iload_n 3, 1) := by decide +kernel
theorem dX3_count_74 : decode cX3_count 74 = .ok (.invokevirtual 65, 3) := by decide +kernel
theorem dX3_count_77 : decode cX3_count 77 = .ok (.ifCond .ne 7, 3) := by decide +kernel
theorem dX3_count_80 : decode cX3_count 80 = .ok (.iconst 1, 1) := by decide +kernel
theorem dX3_count_81 : decode cX3_count 81 = .ok (.goto 4, 3) := by decide +kernel
theorem dX3_count_84 : decode cX3_count 84 = .ok (.iconst 0, 1) := by decide +kernel
theorem dX3_count_85 : decode cX3_count 85 = .ok (.iadd, 1) := by decide +kernel
theorem dX3_count_86 : decode cX3_count 86 = .ok (.istore_n 2, 1) := by decide +kernel
theorem dX3_count_87 : decode cX3_count 87 = .ok (.iinc 3 1, 3) := by decide +kernel
theorem dX3_count_90 : decode cX3_count 90 = .ok (.goto (-38), 3) := by decide +kernel
theorem dX3_count_93 : decode cX3_count 93 = .ok (.iload_n 2, 1) := by decide +kernel
theorem dX3_count_94 : decode cX3_count 94 = .ok (.ireturn, 1) := by decide +kernel
