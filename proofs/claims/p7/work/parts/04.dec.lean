theorem dX2_init_0 : decode cX2_init 0 = .ok (.aload_n 0, 1) := by decide +kernel
theorem dX2_init_1 : decode cX2_init 1 = .ok (.invokespecial 1, 3) := by decide +kernel
theorem dX2_init_4 : decode cX2_init 4 = .ok (.aload_n 0, 1) := by decide +kernel
theorem dX2_init_5 : decode cX2_init 5 = .ok (.new 7, 3) := by decide +kernel
theorem dX2_init_8 : decode cX2_init 8 = .ok (.dup, 1) := by decide +kernel
theorem dX2_init_9 : decode cX2_init 9 = .ok (.invokespecial 9, 3) := by decide +kernel
theorem dX2_init_12 : decode cX2_init 12 = .ok (.putfield 10, 3) := by decide +kernel
theorem dX2_init_15 : decode cX2_init 15 = .ok (.aload_n 0, 1) := by decide +kernel
theorem dX2_init_16 : decode cX2_init 16 = .ok (.new 16, 3) := by decide +kernel
theorem dX2_init_19 : decode cX2_init 19 = .ok (.dup, 1) := by decide +kernel
theorem dX2_init_20 : decode cX2_init 20 = .ok (.invokespecial 18, 3) := by decide +kernel
theorem dX2_init_23 : decode cX2_init 23 = .ok (.putfield 19, 3) := by decide +kernel
theorem dX2_init_26 : decode cX2_init 26 = .ok (.return_, 1) := by decide +kernel
theorem dX2_offer_0 : decode cX2_offer 0 = .ok (.lload_n 1, 1) := by decide +kernel
theorem dX2_offer_1 : decode cX2_offer 1 = .ok (.iload_n 3, 1) := by decide +kernel
theorem dX2_offer_2 : decode cX2_offer 2 = .ok (.iload 4, 2) := by decide +kernel
theorem dX2_offer_4 : decode cX2_offer 4 = .ok (.iload 5, 2) := by decide +kernel
theorem dX2_offer_6 : decode cX2_offer 6 = .ok (.invokestatic 23, 3) := by decide +kernel
theorem dX2_offer_9 : decode cX2_offer 9 = .ok (.ifCond .ne 13, 3) := by decide +kernel
theorem dX2_offer_12 : decode cX2_offer 12 = .ok (.new 27, 3) := by decide +kernel
theorem dX2_offer_15 : decode cX2_offer 15 = .ok (.dup, 1) := by decide +kernel
theorem dX2_offer_16 : decode cX2_offer 16 = .ok (.ldc 29, 2) := by decide +kernel
theorem dX2_offer_18 : decode cX2_offer 18 = .ok (.invokespecial 31, 3) := by decide +kernel
theorem dX2_offer_21 : decode cX2_offer 21 = .ok (.athrow, 1) := by decide +kernel
theorem dX2_offer_22 : decode cX2_offer 22 = .ok (.aload_n 0, 1) := by decide +kernel
theorem dX2_offer_23 : decode cX2_offer 23 = .ok (.getfield 10, 3) := by decide +kernel
theorem dX2_offer_26 : decode cX2_offer 26 = .ok (.lload_n 1, 1) := by decide +kernel
theorem dX2_offer_27 : decode cX2_offer 27 = .ok (.aload_n 0, 1) := by decide +kernel
theorem dX2_offer_28 : decode cX2_offer 28 = .ok (.getfield 19, 3) := by decide +kernel
theorem dX2_offer_31 : decode cX2_offer 31 = .ok (.invokevirtual 34, 3) := by decide +kernel
theorem dX2_offer_34 : decode cX2_offer 34 = .ok (.aload_n 0, 1) := by decide +kernel
theorem dX2_offer_35 : decode cX2_offer 35 = .ok (.lload_n 1, 1) := by decide +kernel
theorem dX2_offer_36 : decode cX2_offer 36 = .ok (.iload_n 3, 1) := by decide +kernel
theorem dX2_offer_37 : decode cX2_offer 37 = .ok (.iload 4, 2) := by decide +kernel
theorem dX2_offer_39 : decode cX2_offer 39 = .ok (.iload 5, 2) := by decide +kernel
theorem dX2_offer_41 : decode cX2_offer 41 = .ok (.invokevirtual 38, 3) := by decide +kernel
theorem dX2_offer_44 : decode cX2_offer 44 = .ok (.istore 6, 2) := by decide +kernel
theorem dX2_offer_46 : decode cX2_offer 46 = .ok (.iload 6, 2) := by decide +kernel
theorem dX2_offer_48 : decode cX2_offer 48 = .ok (.iconst (-1), 1) := by decide +kernel
theorem dX2_offer_49 : decode cX2_offer 49 = .ok (.if_icmp .ne 13, 3) := by decide +kernel
theorem dX2_offer_52 : decode cX2_offer 52 = .ok (.new 42, 3) := by decide +kernel
theorem dX2_offer_55 : decode cX2_offer 55 = .ok (.dup, 1) := by decide +kernel
theorem dX2_offer_56 : decode cX2_offer 56 = .ok (.ldc 44, 2) := by decide +kernel
theorem dX2_offer_58 : decode cX2_offer 58 = .ok (.invokespecial 46, 3) := by decide +kernel
theorem dX2_offer_61 : decode cX2_offer 61 = .ok (.athrow, 1) := by decide +kernel
theorem dX2_offer_62 : decode cX2_offer 62 = .ok (.iload 6, 2) := by decide +kernel
theorem dX2_offer_64 : decode cX2_offer 64 = .ok (.ireturn, 1) := by decide +kernel
theorem dX2_offers_0 : decode cX2_offers 0 = .ok (.iload_n 1, 1) := by decide +kernel
theorem dX2_offers_1 : decode cX2_offers 1 = .ok (.iconst 1, 1) := by decide +kernel
theorem dX2_offers_2 : decode cX2_offers 2 = .ok (.if_icmp .lt 23, 3) := by decide +kernel
theorem dX2_offers_5 : decode cX2_offers 5 = .ok (.iload_n 1, 1) := by decide +kernel
theorem dX2_offers_6 : decode cX2_offers 6 = .ok (.sipush 500, 3) := by decide +kernel
theorem dX2_offers_9 : decode cX2_offers 9 = .ok (.if_icmp .gt 16, 3) := by decide +kernel
theorem dX2_offers_12 : decode cX2_offers 12 = .ok (.lload_n 2, 1) := by decide +kernel
theorem dX2_offers_13 : decode cX2_offers 13 = .ok (.iload 4, 2) := by decide +kernel
theorem dX2_offers_15 : decode cX2_offers 15 = .ok (.iload 5, 2) := by decide +kernel
theorem dX2_offers_17 : decode cX2_offers 17 = .ok (.iload 6, 2) := by decide +kernel
theorem dX2_offers_19 : decode cX2_offers 19 = .ok (.invokestatic 23, 3) := by decide +kernel
theorem dX2_offers_22 : decode cX2_offers 22 = .ok (.ifCond .ne 13, 3) := by decide +kernel
theorem dX2_offers_25 : decode cX2_offers 25 = .ok (.new 27, 3) := by decide +kernel
theorem dX2_offers_28 : decode cX2_offers 28 = .ok (.dup, 1) := by decide +kernel
theorem dX2_offers_29 : decode cX2_offers 29 = .ok (.ldc 47, 2) := by decide +kernel
theorem dX2_offers_31 : decode cX2_offers 31 = .ok (.invokespecial 31, 3) := by decide +kernel
theorem dX2_offers_34 : decode cX2_offers 34 = .ok (.athrow, 1) := by decide +kernel
theorem dX2_offers_35 : decode cX2_offers 35 = .ok (.aload_n 0, 1) := by decide +kernel
theorem dX2_offers_36 : decode cX2_offers 36 = .ok (.getfield 10, 3) := by decide +kernel
theorem dX2_offers_39 : decode cX2_offers 39 = .ok (.iload_n 1, 1) := by decide +kernel
theorem dX2_offers_40 : decode cX2_offers 40 = .ok (.iload 6, 2) := by decide +kernel
theorem dX2_offers_42 : decode cX2_offers 42 = .ok (.invokevirtual 49, 3) := by decide +kernel
theorem dX2_offers_45 : decode cX2_offers 45 = .ok (.ifCond .ne 13, 3) := by decide +kernel
theorem dX2_offers_48 : decode cX2_offers 48 = .ok (.new 42, 3) := by decide +kernel
theorem dX2_offers_51 : decode cX2_offers 51 = .ok (.dup, 1) := by decide +kernel
theorem dX2_offers_52 : decode cX2_offers 52 = .ok (.ldc 53, 2) := by decide +kernel
theorem dX2_offers_54 : decode cX2_offers 54 = .ok (.invokespecial 46, 3) := by decide +kernel
theorem dX2_offers_57 : decode cX2_offers 57 = .ok (.athrow, 1) := by decide +kernel
theorem dX2_offers_58 : decode cX2_offers 58 = .ok (.aload_n 0, 1) := by decide +kernel
theorem dX2_offers_59 : decode cX2_offers 59 = .ok (.getfield 10, 3) := by decide +kernel
theorem dX2_offers_62 : decode cX2_offers 62 = .ok (.lload_n 2, 1) := by decide +kernel
theorem dX2_offers_63 : decode cX2_offers 63 = .ok (.aload_n 0, 1) := by decide +kernel
theorem dX2_offers_64 : decode cX2_offers 64 = .ok (.getfield 19, 3) := by decide +kernel
theorem dX2_offers_67 : decode cX2_offers 67 = .ok (.invokevirtual 34, 3) := by decide +kernel
theorem dX2_offers_70 : decode cX2_offers 70 = .ok (.aload_n 0, 1) := by decide +kernel
theorem dX2_offers_71 : decode cX2_offers 71 = .ok (.getfield 10, 3) := by decide +kernel
theorem dX2_offers_74 : decode cX2_offers 74 = .ok (.getfield 55, 3) := by decide +kernel
theorem dX2_offers_77 : decode cX2_offers 77 = .ok (.istore 7, 2) := by decide +kernel
theorem dX2_offers_79 : decode cX2_offers 79 = .ok (.iload 5, 2) := by decide +kernel
theorem dX2_offers_81 : decode cX2_offers 81 = .ok (.istore 8, 2) := by decide +kernel
theorem dX2_offers_83 : decode cX2_offers 83 = .ok (.iconst 0, 1) := by decide +kernel
theorem dX2_offers_84 : decode cX2_offers 84 = .ok (.istore 9, 2) := by decide +kernel
theorem dX2_offers_86 : decode cX2_offers 86 = .ok (.iload 9, 2) := by decide +kernel
theorem dX2_offers_88 : decode cX2_offers 88 = .ok (.iload_n 1, 1) := by decide +kernel
theorem dX2_offers_89 : decode cX2_offers 89 = .ok (.if_icmp .ge 30, 3) := by decide +kernel
theorem dX2_offers_92 : decode cX2_offers 92 = .ok (.aload_n 0, 1) := by decide +kernel
theorem dX2_offers_93 : decode cX2_offers 93 = .ok (.lload_n 2, 1) := by decide +kernel
theorem dX2_offers_94 : decode cX2_offers 94 = .ok (.iload 4, 2) := by decide +kernel
theorem dX2_offers_96 : decode cX2_offers 96 = .ok (.iload 8, 2) := by decide +kernel
theorem dX2_offers_98 : decode cX2_offers 98 = .ok (.iload 6, 2) := by decide +kernel
theorem dX2_offers_100 : decode cX2_offers 100 = .ok (.invokevirtual 38, 3) := by decide +kernel
theorem dX2_offers_103 : decode cX2_offers 103 = .ok (.pop, 1) := by decide +kernel
theorem dX2_offers_104 : decode cX2_offers 104 = .ok (.iload 8, 2) := by decide +kernel
theorem dX2_offers_106 : decode cX2_offers 106 = .ok (.iload 6, 2) := by decide +kernel
theorem dX2_offers_108 : decode cX2_offers 108 = .ok (.invokestatic 59, 3) := by decide +kernel
theorem dX2_offers_111 : decode cX2_offers 111 = .ok (.istore 8, 2) := by decide +kernel
theorem dX2_offers_113 : decode cX2_offers 113 = .ok (.iinc 9 1, 3) := by decide +kernel
theorem dX2_offers_116 : decode cX2_offers 116 = .ok (.goto (-30), 3) := by decide +kernel
theorem dX2_offers_119 : decode cX2_offers 119 = .ok (.aload_n 0, 1) := by decide +kernel
theorem dX2_offers_120 : decode cX2_offers 120 = .ok (.getfield 10, 3) := by decide +kernel
theorem dX2_offers_123 : decode cX2_offers 123 = .ok (.getfield 55, 3) := by decide +kernel
theorem dX2_offers_126 : decode cX2_offers 126 = .ok (.iload 7, 2) := by decide +kernel
theorem dX2_offers_128 : decode cX2_offers 128 = .ok (.isub, 1) := by decide +kernel
theorem dX2_offers_129 : decode cX2_offers 129 = .ok (.ireturn, 1) := by decide +kernel
theorem dX2_drop_0 : decode cX2_drop 0 = .ok (.iload_n 1, 1) := by decide +kernel
theorem dX2_drop_1 : decode cX2_drop 1 = .ok (.ifCond .lt 10, 3) := by decide +kernel
theorem dX2_drop_4 : decode cX2_drop 4 = .ok (.iload_n 1, 1) := by decide +kernel
theorem dX2_drop_5 : decode cX2_drop 5 = .ok (.sipush 2000, 3) := by decide +kernel
theorem dX2_drop_8 : decode cX2_drop 8 = .ok (.if_icmp .le 13, 3) := by decide +kernel
theorem dX2_drop_11 : decode cX2_drop 11 = .ok (.new 27, 3) := by decide +kernel
theorem dX2_drop_14 : decode cX2_drop 14 = .ok (.dup, 1) := by decide +kernel
theorem dX2_drop_15 : decode cX2_drop 15 = .ok (.ldc 63, 2) := by decide +kernel
theorem dX2_drop_17 : decode cX2_drop 17 = .ok (.invokespecial 31, 3) := by decide +kernel
theorem dX2_drop_20 : decode cX2_drop 20 = .ok (.athrow, 1) := by decide +kernel
theorem dX2_drop_21 : decode cX2_drop 21 = .ok (.aload_n 0, 1) := by decide +kernel
theorem dX2_drop_22 : decode cX2_drop 22 = .ok (.getfield 10, 3) := by decide +kernel
theorem dX2_drop_25 : decode cX2_drop 25 = .ok (.iload_n 1, 1) := by decide +kernel
theorem dX2_drop_26 : decode cX2_drop 26 = .ok (.invokevirtual 65, 3) := by decide +kernel
theorem dX2_drop_29 : decode cX2_drop 29 = .ok (.ireturn, 1) := by decide +kernel
theorem dX2_thin_0 : decode cX2_thin 0 = .ok (.aload_n 0, 1) := by decide +kernel
theorem dX2_thin_1 : decode cX2_thin 1 = .ok (.getfield 10, 3) := by decide +kernel
theorem dX2_thin_4 : decode cX2_thin 4 = .ok (.invokevirtual 69, 3) := by decide +kernel
theorem dX2_thin_7 : decode cX2_thin 7 = .ok (.ireturn, 1) := by decide +kernel
theorem dX2_known_0 : decode cX2_known 0 = .ok (.lload_n 1, 1) := by decide +kernel
theorem dX2_known_1 : decode cX2_known 1 = .ok (.lconst 0, 1) := by decide +kernel
theorem dX2_known_2 : decode cX2_known 2 = .ok (.lcmp, 1) := by decide +kernel
theorem dX2_known_3 : decode cX2_known 3 = .ok (.ifCond .lt 12, 3) := by decide +kernel
theorem dX2_known_6 : decode cX2_known 6 = .ok (.iload_n 3, 1) := by decide +kernel
theorem dX2_known_7 : decode cX2_known 7 = .ok (.ifCond .lt 8, 3) := by decide +kernel
theorem dX2_known_10 : decode cX2_known 10 = .ok (.iload_n 3, 1) := by decide +kernel
theorem dX2_known_11 : decode cX2_known 11 = .ok (.iconst 4, 1) := by decide +kernel
theorem dX2_known_12 : decode cX2_known 12 = .ok (.if_icmp .le 13, 3) := by decide +kernel
theorem dX2_known_15 : decode cX2_known 15 = .ok (.new 27, 3) := by decide +kernel
theorem dX2_known_18 : decode cX2_known 18 = .ok (.dup, 1) := by decide +kernel
theorem dX2_known_19 : decode cX2_known 19 = .ok (.ldc 73, 2) := by decide +kernel
theorem dX2_known_21 : decode cX2_known 21 = .ok (.invokespecial 31, 3) := by decide +kernel
theorem dX2_known_24 : decode cX2_known 24 = .ok (.athrow, 1) := by decide +kernel
theorem dX2_known_25 : decode cX2_known 25 = .ok (.aload_n 0, 1) := by decide +kernel
theorem dX2_known_26 : decode cX2_known 26 = .ok (.getfield 10, 3) := by decide +kernel
theorem dX2_known_29 : decode cX2_known 29 = .ok (.lload_n 1, 1) := by decide +kernel
theorem dX2_known_30 : decode cX2_known 30 = .ok (.aload_n 0, 1) := by decide +kernel
theorem dX2_known_31 : decode cX2_known 31 = .ok (.getfield 19, 3) := by decide +kernel
theorem dX2_known_34 : decode cX2_known 34 = .ok (.invokevirtual 34, 3) := by decide +kernel
theorem dX2_known_37 : decode cX2_known 37 = .ok (.iload_n 3, 1) := by decide +kernel
theorem dX2_known_38 : decode cX2_known 38 = .ok (.ifCond .ne 11, 3) := by decide +kernel
theorem dX2_known_41 : decode cX2_known 41 = .ok (.aload_n 0, 1) := by decide +kernel
theorem dX2_known_42 : decode cX2_known 42 = .ok (.getfield 19, 3) := by decide +kernel
theorem dX2_known_45 : decode cX2_known 45 = .ok (.getfield 75, 3) := by decide +kernel
theorem dX2_known_48 : decode cX2_known 48 = .ok (.ireturn, 1) := by decide +kernel
theorem dX2_known_49 : decode cX2_known 49 = .ok (.aload_n 0, 1) := by decide +kernel
theorem dX2_known_50 : decode cX2_known 50 = .ok (.getfield 19, 3) := by decide +kernel
theorem dX2_known_53 : decode cX2_known 53 = .ok (.getfield 75, 3) := by decide +kernel
theorem dX2_known_56 : decode cX2_known 56 = .ok (.ifCond .ne 5, 3) := by decide +kernel
theorem dX2_known_59 : decode cX2_known 59 = .ok (.iconst (-1), 1) := by decide +kernel
theorem dX2_known_60 : decode cX2_known 60 = .ok (.ireturn, 1) := by decide +kernel
theorem dX2_known_61 : decode cX2_known 61 = .ok (.aload_n 0, 1) := by decide +kernel
theorem dX2_known_62 : decode cX2_known 62 = .ok (.getfield 19, 3) := by decide +kernel
theorem dX2_known_65 : decode cX2_known 65 = .ok (.invokevirtual 76, 3) := by decide +kernel
theorem dX2_known_68 : decode cX2_known 68 = .ok (.istore 4, 2) := by decide +kernel
theorem dX2_known_70 : decode cX2_known 70 = .ok (.iload_n 3, 1) := by decide +kernel
theorem dX2_known_71 : decode cX2_known 71 = .ok (.tableswitch 71 1 3 #[25, 36, 60], 25) := by decide +kernel
theorem dX2_known_96 : decode cX2_known 96 = .ok (.aload_n 0, 1) := by decide +kernel
theorem dX2_known_97 : decode cX2_known 97 = .ok (.getfield 10, 3) := by decide +kernel
theorem dX2_known_100 : decode cX2_known 100 = .ok (.getfield 79, 3) := by decide +kernel
theorem dX2_known_103 : decode cX2_known 103 = .ok (.iload 4, 2) := by decide +kernel
theorem dX2_known_105 : decode cX2_known 105 = .ok (.iaload, 1) := by decide +kernel
theorem dX2_known_106 : decode cX2_known 106 = .ok (.ireturn, 1) := by decide +kernel
theorem dX2_known_107 : decode cX2_known 107 = .ok (.aload_n 0, 1) := by decide +kernel
theorem dX2_known_108 : decode cX2_known 108 = .ok (.getfield 10, 3) := by decide +kernel
theorem dX2_known_111 : decode cX2_known 111 = .ok (.getfield 83, 3) := by decide +kernel
theorem dX2_known_114 : decode cX2_known 114 = .ok (.iload 4, 2) := by decide +kernel
theorem dX2_known_116 : decode cX2_known 116 = .ok (.iaload, 1) := by decide +kernel
theorem dX2_known_117 : decode cX2_known 117 = .ok (.aload_n 0, 1) := by decide +kernel
theorem dX2_known_118 : decode cX2_known 118 = .ok (.getfield 10, 3) := by decide +kernel
theorem dX2_known_121 : decode cX2_known 121 = .ok (.getfield 86, 3) := by decide +kernel
theorem dX2_known_124 : decode cX2_known 124 = .ok (.iload 4, 2) := by decide +kernel
theorem dX2_known_126 : decode cX2_known 126 = .ok (.iaload, 1) := by decide +kernel
theorem dX2_known_127 : decode cX2_known 127 = .ok (.invokestatic 59, 3) := by decide +kernel
theorem dX2_known_130 : decode cX2_known 130 = .ok (.ireturn, 1) := by decide +kernel
theorem dX2_known_131 : decode cX2_known 131 = .ok (.aload_n 0, 1) := by decide +kernel
theorem dX2_known_132 : decode cX2_known 132 = .ok (.getfield 10, 3) := by decide +kernel
theorem dX2_known_135 : decode cX2_known 135 = .ok (.getfield 89, 3) := by decide +kernel
theorem dX2_known_138 : decode cX2_known 138 = .ok (.iload 4, 2) := by decide +kernel
theorem dX2_known_140 : decode cX2_known 140 = .ok (.iaload, 1) := by decide +kernel
theorem dX2_known_141 : decode cX2_known 141 = .ok (.ireturn, 1) := by decide +kernel
theorem dX2_known_142 : decode cX2_known 142 = .ok (.aload_n 0, 1) := by decide +kernel
theorem dX2_known_143 : decode cX2_known 143 = .ok (.getfield 10, 3) := by decide +kernel
theorem dX2_known_146 : decode cX2_known 146 = .ok (.getfield 89, 3) := by decide +kernel
theorem dX2_known_149 : decode cX2_known 149 = .ok (.aload_n 0, 1) := by decide +kernel
theorem dX2_known_150 : decode cX2_known 150 = .ok (.getfield 19, 3) := by decide +kernel
theorem dX2_known_153 : decode cX2_known 153 = .ok (.invokevirtual 92, 3) := by decide +kernel
theorem dX2_known_156 : decode cX2_known 156 = .ok (.iaload, 1) := by decide +kernel
theorem dX2_known_157 : decode cX2_known 157 = .ok (.ireturn, 1) := by decide +kernel
theorem dX2_batch_0 : decode cX2_batch 0 = .ok (.iload_n 1, 1) := by decide +kernel
theorem dX2_batch_1 : decode cX2_batch 1 = .ok (.ifCond .lt 23, 3) := by decide +kernel
theorem dX2_batch_4 : decode cX2_batch 4 = .ok (.iload_n 1, 1) := by decide +kernel
theorem dX2_batch_5 : decode cX2_batch 5 = .ok (.aload_n 0, 1) := by decide +kernel
theorem dX2_batch_6 : decode cX2_batch 6 = .ok (.getfield 10, 3) := by decide +kernel
theorem dX2_batch_9 : decode cX2_batch 9 = .ok (.getfield 55, 3) := by decide +kernel
theorem dX2_batch_12 : decode cX2_batch 12 = .ok (.if_icmp .ge 12, 3) := by decide +kernel
theorem dX2_batch_15 : decode cX2_batch 15 = .ok (.iload_n 2, 1) := by decide +kernel
theorem dX2_batch_16 : decode cX2_batch 16 = .ok (.ifCond .lt 8, 3) := by decide +kernel
theorem dX2_batch_19 : decode cX2_batch 19 = .ok (.iload_n 2, 1) := by decide +kernel
theorem dX2_batch_20 : decode cX2_batch 20 = .ok (.iconst 5, 1) := by decide +kernel
theorem dX2_batch_21 : decode cX2_batch 21 = .ok (.if_icmp .le 13, 3) := by decide +kernel
theorem dX2_batch_24 : decode cX2_batch 24 = .ok (.new 27, 3) := by decide +kernel
theorem dX2_batch_27 : decode cX2_batch 27 = .ok (.dup, 1) := by decide +kernel
theorem dX2_batch_28 : decode cX2_batch 28 = .ok (.ldc 95, 2) := by decide +kernel
theorem dX2_batch_30 : decode cX2_batch 30 = .ok (.invokespecial 31, 3) := by decide +kernel
theorem dX2_batch_33 : decode cX2_batch 33 = .ok (.athrow, 1) := by decide +kernel
theorem dX2_batch_34 : decode cX2_batch 34 = .ok (.iload_n 2, 1) := by decide +kernel
theorem dX2_batch_35 : decode cX2_batch 35 = .ok (.tableswitch 87 0 4 #[33, 44, 54, 65, 76], 33) := by decide +kernel
theorem dX2_batch_68 : decode cX2_batch 68 = .ok (.aload_n 0, 1) := by decide +kernel
theorem dX2_batch_69 : decode cX2_batch 69 = .ok (.getfield 10, 3) := by decide +kernel
theorem dX2_batch_72 : decode cX2_batch 72 = .ok (.getfield 89, 3) := by decide +kernel
theorem dX2_batch_75 : decode cX2_batch 75 = .ok (.iload_n 1, 1) := by decide +kernel
theorem dX2_batch_76 : decode cX2_batch 76 = .ok (.iaload, 1) := by decide +kernel
theorem dX2_batch_77 : decode cX2_batch 77 = .ok (.i2l, 1) := by decide +kernel
theorem dX2_batch_78 : decode cX2_batch 78 = .ok (.lreturn, 1) := by decide +kernel
theorem dX2_batch_79 : decode cX2_batch 79 = .ok (.aload_n 0, 1) := by decide +kernel
theorem dX2_batch_80 : decode cX2_batch 80 = .ok (.getfield 10, 3) := by decide +kernel
theorem dX2_batch_83 : decode cX2_batch 83 = .ok (.getfield 97, 3) := by decide +kernel
theorem dX2_batch_86 : decode cX2_batch 86 = .ok (.iload_n 1, 1) := by decide +kernel
theorem dX2_batch_87 : decode cX2_batch 87 = .ok (.laload, 1) := by decide +kernel
theorem dX2_batch_88 : decode cX2_batch 88 = .ok (.lreturn, 1) := by decide +kernel
theorem dX2_batch_89 : decode cX2_batch 89 = .ok (.aload_n 0, 1) := by decide +kernel
theorem dX2_batch_90 : decode cX2_batch 90 = .ok (.getfield 10, 3) := by decide +kernel
theorem dX2_batch_93 : decode cX2_batch 93 = .ok (.getfield 79, 3) := by decide +kernel
theorem dX2_batch_96 : decode cX2_batch 96 = .ok (.iload_n 1, 1) := by decide +kernel
theorem dX2_batch_97 : decode cX2_batch 97 = .ok (.iaload, 1) := by decide +kernel
theorem dX2_batch_98 : decode cX2_batch 98 = .ok (.i2l, 1) := by decide +kernel
theorem dX2_batch_99 : decode cX2_batch 99 = .ok (.lreturn, 1) := by decide +kernel
theorem dX2_batch_100 : decode cX2_batch 100 = .ok (.aload_n 0, 1) := by decide +kernel
theorem dX2_batch_101 : decode cX2_batch 101 = .ok (.getfield 10, 3) := by decide +kernel
theorem dX2_batch_104 : decode cX2_batch 104 = .ok (.getfield 83, 3) := by decide +kernel
theorem dX2_batch_107 : decode cX2_batch 107 = .ok (.iload_n 1, 1) := by decide +kernel
theorem dX2_batch_108 : decode cX2_batch 108 = .ok (.iaload, 1) := by decide +kernel
theorem dX2_batch_109 : decode cX2_batch 109 = .ok (.i2l, 1) := by decide +kernel
theorem dX2_batch_110 : decode cX2_batch 110 = .ok (.lreturn, 1) := by decide +kernel
theorem dX2_batch_111 : decode cX2_batch 111 = .ok (.aload_n 0, 1) := by decide +kernel
theorem dX2_batch_112 : decode cX2_batch 112 = .ok (.getfield 10, 3) := by decide +kernel
theorem dX2_batch_115 : decode cX2_batch 115 = .ok (.getfield 86, 3) := by decide +kernel
theorem dX2_batch_118 : decode cX2_batch 118 = .ok (.iload_n 1, 1) := by decide +kernel
theorem dX2_batch_119 : decode cX2_batch 119 = .ok (.iaload, 1) := by decide +kernel
theorem dX2_batch_120 : decode cX2_batch 120 = .ok (.i2l, 1) := by decide +kernel
theorem dX2_batch_121 : decode cX2_batch 121 = .ok (.lreturn, 1) := by decide +kernel
theorem dX2_batch_122 : decode cX2_batch 122 = .ok (.aload_n 0, 1) := by decide +kernel
theorem dX2_batch_123 : decode cX2_batch 123 = .ok (.getfield 10, 3) := by decide +kernel
theorem dX2_batch_126 : decode cX2_batch 126 = .ok (.iload_n 1, 1) := by decide +kernel
theorem dX2_batch_127 : decode cX2_batch 127 = .ok (.invokevirtual 101, 3) := by decide +kernel
theorem dX2_batch_130 : decode cX2_batch 130 = .ok (.ifCond .eq 7, 3) := by decide +kernel
theorem dX2_batch_133 : decode cX2_batch 133 = .ok (.lconst 1, 1) := by decide +kernel
theorem dX2_batch_134 : decode cX2_batch 134 = .ok (.goto 4, 3) := by decide +kernel
theorem dX2_batch_137 : decode cX2_batch 137 = .ok (.lconst 0, 1) := by decide +kernel
theorem dX2_batch_138 : decode cX2_batch 138 = .ok (.lreturn, 1) := by decide +kernel
theorem dX2_count_0 : decode cX2_count 0 = .ok (.iload_n 1, 1) := by decide +kernel
theorem dX2_count_1 : decode cX2_count 1 = .ok (.tableswitch 51 0 2 #[27, 35, 43], 27) := by decide +kernel
theorem dX2_count_28 : decode cX2_count 28 = .ok (.aload_n 0, 1) := by decide +kernel
theorem dX2_count_29 : decode cX2_count 29 = .ok (.getfield 10, 3) := by decide +kernel
theorem dX2_count_32 : decode cX2_count 32 = .ok (.getfield 55, 3) := by decide +kernel
theorem dX2_count_35 : decode cX2_count 35 = .ok (.ireturn, 1) := by decide +kernel
theorem dX2_count_36 : decode cX2_count 36 = .ok (.aload_n 0, 1) := by decide +kernel
theorem dX2_count_37 : decode cX2_count 37 = .ok (.getfield 10, 3) := by decide +kernel
theorem dX2_count_40 : decode cX2_count 40 = .ok (.invokevirtual 105, 3) := by decide +kernel
theorem dX2_count_43 : decode cX2_count 43 = .ok (.ireturn, 1) := by decide +kernel
theorem dX2_count_44 : decode cX2_count 44 = .ok (.aload_n 0, 1) := by decide +kernel
theorem dX2_count_45 : decode cX2_count 45 = .ok (.getfield 10, 3) := by decide +kernel
theorem dX2_count_48 : decode cX2_count 48 = .ok (.getfield 108, 3) := by decide +kernel
theorem dX2_count_51 : decode cX2_count 51 = .ok (.ireturn, 1) := by decide +kernel
theorem dX2_count_52 : decode cX2_count 52 = .ok (.new 27, 3) := by decide +kernel
theorem dX2_count_55 : decode cX2_count 55 = .ok (.dup, 1) := by decide +kernel
theorem dX2_count_56 : decode cX2_count 56 = .ok (.ldc 111, 2) := by decide +kernel
theorem dX2_count_58 : decode cX2_count 58 = .ok (.invokespecial 31, 3) := by decide +kernel
theorem dX2_count_61 : decode cX2_count 61 = .ok (.athrow, 1) := by decide +kernel
theorem dX2_isLegal_0 : decode cX2_isLegal 0 = .ok (.iload 4, 2) := by decide +kernel
theorem dX2_isLegal_2 : decode cX2_isLegal 2 = .ok (.ifCond .lt 11, 3) := by decide +kernel
theorem dX2_isLegal_5 : decode cX2_isLegal 5 = .ok (.iload 4, 2) := by decide +kernel
theorem dX2_isLegal_7 : decode cX2_isLegal 7 = .ok (.sipush 999, 3) := by decide +kernel
theorem dX2_isLegal_10 : decode cX2_isLegal 10 = .ok (.if_icmp .le 5, 3) := by decide +kernel
theorem dX2_isLegal_13 : decode cX2_isLegal 13 = .ok (.iconst 0, 1) := by decide +kernel
theorem dX2_isLegal_14 : decode cX2_isLegal 14 = .ok (.ireturn, 1) := by decide +kernel
theorem dX2_isLegal_15 : decode cX2_isLegal 15 = .ok (.lload_n 0, 1) := by decide +kernel
theorem dX2_isLegal_16 : decode cX2_isLegal 16 = .ok (.ldc2_w 113, 3) := by decide +kernel
theorem dX2_isLegal_19 : decode cX2_isLegal 19 = .ok (.lcmp, 1) := by decide +kernel
theorem dX2_isLegal_20 : decode cX2_isLegal 20 = .ok (.ifCond .ne 19, 3) := by decide +kernel
theorem dX2_isLegal_23 : decode cX2_isLegal 23 = .ok (.iload_n 2, 1) := by decide +kernel
theorem dX2_isLegal_24 : decode cX2_isLegal 24 = .ok (.iconst (-1), 1) := by decide +kernel
theorem dX2_isLegal_25 : decode cX2_isLegal 25 = .ok (.if_icmp .ne 12, 3) := by decide +kernel
theorem dX2_isLegal_28 : decode cX2_isLegal 28 = .ok (.iload_n 3, 1) := by decide +kernel
theorem dX2_isLegal_29 : decode cX2_isLegal 29 = .ok (.iconst (-1), 1) := by decide +kernel
theorem dX2_isLegal_30 : decode cX2_isLegal 30 = .ok (.if_icmp .ne 7, 3) := by decide +kernel
theorem dX2_isLegal_33 : decode cX2_isLegal 33 = .ok (.iconst 1, 1) := by decide +kernel
theorem dX2_isLegal_34 : decode cX2_isLegal 34 = .ok (.goto 4, 3) := by decide +kernel
theorem dX2_isLegal_37 : decode cX2_isLegal 37 = .ok (.iconst 0, 1) := by decide +kernel
theorem dX2_isLegal_38 : decode cX2_isLegal 38 = .ok (.ireturn, 1) := by decide +kernel
theorem dX2_isLegal_39 : decode cX2_isLegal 39 = .ok (.lload_n 0, 1) := by decide +kernel
theorem dX2_isLegal_40 : decode cX2_isLegal 40 = .ok (.lconst 0, 1) := by decide +kernel
theorem dX2_isLegal_41 : decode cX2_isLegal 41 = .ok (.lcmp, 1) := by decide +kernel
theorem dX2_isLegal_42 : decode cX2_isLegal 42 = .ok (.ifCond .lt 22, 3) := by decide +kernel
theorem dX2_isLegal_45 : decode cX2_isLegal 45 = .ok (.iload_n 2, 1) := by decide +kernel
theorem dX2_isLegal_46 : decode cX2_isLegal 46 = .ok (.ifCond .lt 18, 3) := by decide +kernel
theorem dX2_isLegal_49 : decode cX2_isLegal 49 = .ok (.iload_n 2, 1) := by decide +kernel
theorem dX2_isLegal_50 : decode cX2_isLegal 50 = .ok (.sipush 32767, 3) := by decide +kernel
theorem dX2_isLegal_53 : decode cX2_isLegal 53 = .ok (.if_icmp .gt 11, 3) := by decide +kernel
theorem dX2_isLegal_56 : decode cX2_isLegal 56 = .ok (.iload_n 3, 1) := by decide +kernel
theorem dX2_isLegal_57 : decode cX2_isLegal 57 = .ok (.ifCond .lt 7, 3) := by decide +kernel
theorem dX2_isLegal_60 : decode cX2_isLegal 60 = .ok (.iconst 1, 1) := by decide +kernel
theorem dX2_isLegal_61 : decode cX2_isLegal 61 = .ok (.goto 4, 3) := by decide +kernel
theorem dX2_isLegal_64 : decode cX2_isLegal 64 = .ok (.iconst 0, 1) := by decide +kernel
theorem dX2_isLegal_65 : decode cX2_isLegal 65 = .ok (.ireturn, 1) := by decide +kernel
theorem dX2_sequenceBehind_0 : decode cX2_sequenceBehind 0 = .ok (.iload_n 0, 1) := by decide +kernel
theorem dX2_sequenceBehind_1 : decode cX2_sequenceBehind 1 = .ok (.iload_n 1, 1) := by decide +kernel
theorem dX2_sequenceBehind_2 : decode cX2_sequenceBehind 2 = .ok (.iadd, 1) := by decide +kernel
theorem dX2_sequenceBehind_3 : decode cX2_sequenceBehind 3 = .ok (.iconst 1, 1) := by decide +kernel
theorem dX2_sequenceBehind_4 : decode cX2_sequenceBehind 4 = .ok (.iadd, 1) := by decide +kernel
theorem dX2_sequenceBehind_5 : decode cX2_sequenceBehind 5 = .ok (.ldc 115, 2) := by decide +kernel
theorem dX2_sequenceBehind_7 : decode cX2_sequenceBehind 7 = .ok (.iand, 1) := by decide +kernel
theorem dX2_sequenceBehind_8 : decode cX2_sequenceBehind 8 = .ok (.ireturn, 1) := by decide +kernel
theorem dX2_send_0 : decode cX2_send 0 = .ok (.aload_n 0, 1) := by decide +kernel
theorem dX2_send_1 : decode cX2_send 1 = .ok (.iload_n 3, 1) := by decide +kernel
theorem dX2_send_2 : decode cX2_send 2 = .ok (.iload 4, 2) := by decide +kernel
theorem dX2_send_4 : decode cX2_send 4 = .ok (.iload 5, 2) := by decide +kernel
theorem dX2_send_6 : decode cX2_send 6 = .ok (.invokevirtual 116, 3) := by decide +kernel
theorem dX2_send_9 : decode cX2_send 9 = .ok (.istore 6, 2) := by decide +kernel
theorem dX2_send_11 : decode cX2_send 11 = .ok (.iload 6, 2) := by decide +kernel
theorem dX2_send_13 : decode cX2_send 13 = .ok (.iconst (-1), 1) := by decide +kernel
theorem dX2_send_14 : decode cX2_send 14 = .ok (.if_icmp .eq 6, 3) := by decide +kernel
theorem dX2_send_17 : decode cX2_send 17 = .ok (.iload 6, 2) := by decide +kernel
theorem dX2_send_19 : decode cX2_send 19 = .ok (.ireturn, 1) := by decide +kernel
theorem dX2_send_20 : decode cX2_send 20 = .ok (.aload_n 0, 1) := by decide +kernel
theorem dX2_send_21 : decode cX2_send 21 = .ok (.getfield 10, 3) := by decide +kernel
theorem dX2_send_24 : decode cX2_send 24 = .ok (.aload_n 0, 1) := by decide +kernel
theorem dX2_send_25 : decode cX2_send 25 = .ok (.getfield 19, 3) := by decide +kernel
theorem dX2_send_28 : decode cX2_send 28 = .ok (.lload_n 1, 1) := by decide +kernel
theorem dX2_send_29 : decode cX2_send 29 = .ok (.iload_n 3, 1) := by decide +kernel
theorem dX2_send_30 : decode cX2_send 30 = .ok (.iload 4, 2) := by decide +kernel
theorem dX2_send_32 : decode cX2_send 32 = .ok (.iload 5, 2) := by decide +kernel
theorem dX2_send_34 : decode cX2_send 34 = .ok (.invokevirtual 120, 3) := by decide +kernel
theorem dX2_send_37 : decode cX2_send 37 = .ok (.ireturn, 1) := by decide +kernel
theorem dX2_answerOfKnown_0 : decode cX2_answerOfKnown 0 = .ok (.aload_n 0, 1) := by decide +kernel
theorem dX2_answerOfKnown_1 : decode cX2_answerOfKnown 1 = .ok (.getfield 19, 3) := by decide +kernel
theorem dX2_answerOfKnown_4 : decode cX2_answerOfKnown 4 = .ok (.getfield 75, 3) := by decide +kernel
theorem dX2_answerOfKnown_7 : decode cX2_answerOfKnown 7 = .ok (.ifCond .ne 5, 3) := by decide +kernel
theorem dX2_answerOfKnown_10 : decode cX2_answerOfKnown 10 = .ok (.iconst (-1), 1) := by decide +kernel
theorem dX2_answerOfKnown_11 : decode cX2_answerOfKnown 11 = .ok (.ireturn, 1) := by decide +kernel
theorem dX2_answerOfKnown_12 : decode cX2_answerOfKnown 12 = .ok (.aload_n 0, 1) := by decide +kernel
theorem dX2_answerOfKnown_13 : decode cX2_answerOfKnown 13 = .ok (.getfield 19, 3) := by decide +kernel
theorem dX2_answerOfKnown_16 : decode cX2_answerOfKnown 16 = .ok (.invokevirtual 76, 3) := by decide +kernel
theorem dX2_answerOfKnown_19 : decode cX2_answerOfKnown 19 = .ok (.istore 4, 2) := by decide +kernel
theorem dX2_answerOfKnown_21 : decode cX2_answerOfKnown 21 = .ok (.aload_n 0, 1) := by decide +kernel
theorem dX2_answerOfKnown_22 : decode cX2_answerOfKnown 22 = .ok (.getfield 10, 3) := by decide +kernel
theorem dX2_answerOfKnown_25 : decode cX2_answerOfKnown 25 = .ok (.getfield 79, 3) := by decide +kernel
theorem dX2_answerOfKnown_28 : decode cX2_answerOfKnown 28 = .ok (.iload 4, 2) := by decide +kernel
theorem dX2_answerOfKnown_30 : decode cX2_answerOfKnown 30 = .ok (.iaload, 1) := by decide +kernel
theorem dX2_answerOfKnown_31 : decode cX2_answerOfKnown 31 = .ok (.istore 5, 2) := by decide +kernel
theorem dX2_answerOfKnown_33 : decode cX2_answerOfKnown 33 = .ok (.iload_n 1, 1) := by decide +kernel
theorem dX2_answerOfKnown_34 : decode cX2_answerOfKnown 34 = .ok (.iload 5, 2) := by decide +kernel
theorem dX2_answerOfKnown_36 : decode cX2_answerOfKnown 36 = .ok (.if_icmp .ge 6, 3) := by decide +kernel
theorem dX2_answerOfKnown_39 : decode cX2_answerOfKnown 39 = .ok (.bipush (-6), 2) := by decide +kernel
theorem dX2_answerOfKnown_41 : decode cX2_answerOfKnown 41 = .ok (.ireturn, 1) := by decide +kernel
theorem dX2_answerOfKnown_42 : decode cX2_answerOfKnown 42 = .ok (.aload_n 0, 1) := by decide +kernel
theorem dX2_answerOfKnown_43 : decode cX2_answerOfKnown 43 = .ok (.getfield 10, 3) := by decide +kernel
theorem dX2_answerOfKnown_46 : decode cX2_answerOfKnown 46 = .ok (.aload_n 0, 1) := by decide +kernel
theorem dX2_answerOfKnown_47 : decode cX2_answerOfKnown 47 = .ok (.getfield 19, 3) := by decide +kernel
theorem dX2_answerOfKnown_50 : decode cX2_answerOfKnown 50 = .ok (.iload_n 1, 1) := by decide +kernel
theorem dX2_answerOfKnown_51 : decode cX2_answerOfKnown 51 = .ok (.iload_n 2, 1) := by decide +kernel
theorem dX2_answerOfKnown_52 : decode cX2_answerOfKnown 52 = .ok (.iload_n 3, 1) := by decide +kernel
theorem dX2_answerOfKnown_53 : decode cX2_answerOfKnown 53 = .ok (.invokevirtual 124, 3) := by decide +kernel
theorem dX2_answerOfKnown_56 : decode cX2_answerOfKnown 56 = .ok (.istore 6, 2) := by decide +kernel
theorem dX2_answerOfKnown_58 : decode cX2_answerOfKnown 58 = .ok (.iload 6, 2) := by decide +kernel
theorem dX2_answerOfKnown_60 : decode cX2_answerOfKnown 60 = .ok (.iconst (-1), 1) := by decide +kernel
theorem dX2_answerOfKnown_61 : decode cX2_answerOfKnown 61 = .ok (.if_icmp .eq 6, 3) := by decide +kernel
theorem dX2_answerOfKnown_64 : decode cX2_answerOfKnown 64 = .ok (.iload 6, 2) := by decide +kernel
theorem dX2_answerOfKnown_66 : decode cX2_answerOfKnown 66 = .ok (.ireturn, 1) := by decide +kernel
theorem dX2_answerOfKnown_67 : decode cX2_answerOfKnown 67 = .ok (.iload_n 1, 1) := by decide +kernel
theorem dX2_answerOfKnown_68 : decode cX2_answerOfKnown 68 = .ok (.iload 5, 2) := by decide +kernel
theorem dX2_answerOfKnown_70 : decode cX2_answerOfKnown 70 = .ok (.if_icmp .ne 29, 3) := by decide +kernel
theorem dX2_answerOfKnown_73 : decode cX2_answerOfKnown 73 = .ok (.aload_n 0, 1) := by decide +kernel
theorem dX2_answerOfKnown_74 : decode cX2_answerOfKnown 74 = .ok (.getfield 10, 3) := by decide +kernel
theorem dX2_answerOfKnown_77 : decode cX2_answerOfKnown 77 = .ok (.getfield 83, 3) := by decide +kernel
theorem dX2_answerOfKnown_80 : decode cX2_answerOfKnown 80 = .ok (.iload 4, 2) := by decide +kernel
theorem dX2_answerOfKnown_82 : decode cX2_answerOfKnown 82 = .ok (.iaload, 1) := by decide +kernel
theorem dX2_answerOfKnown_83 : decode cX2_answerOfKnown 83 = .ok (.aload_n 0, 1) := by decide +kernel
theorem dX2_answerOfKnown_84 : decode cX2_answerOfKnown 84 = .ok (.getfield 10, 3) := by decide +kernel
theorem dX2_answerOfKnown_87 : decode cX2_answerOfKnown 87 = .ok (.getfield 86, 3) := by decide +kernel
theorem dX2_answerOfKnown_90 : decode cX2_answerOfKnown 90 = .ok (.iload 4, 2) := by decide +kernel
theorem dX2_answerOfKnown_92 : decode cX2_answerOfKnown 92 = .ok (.iaload, 1) := by decide +kernel
theorem dX2_answerOfKnown_93 : decode cX2_answerOfKnown 93 = .ok (.invokestatic 59, 3) := by decide +kernel
theorem dX2_answerOfKnown_96 : decode cX2_answerOfKnown 96 = .ok (.goto 4, 3) := by decide +kernel
theorem dX2_answerOfKnown_99 : decode cX2_answerOfKnown 99 = .ok (.iconst 0, 1) := by decide +kernel
theorem dX2_answerOfKnown_100 : decode cX2_answerOfKnown 100 = .ok (.istore 7, 2) := by decide +kernel
theorem dX2_answerOfKnown_102 : decode cX2_answerOfKnown 102 = .ok (.iload_n 2, 1) := by decide +kernel
theorem dX2_answerOfKnown_103 : decode cX2_answerOfKnown 103 = .ok (.iload 7, 2) := by decide +kernel
theorem dX2_answerOfKnown_105 : decode cX2_answerOfKnown 105 = .ok (.if_icmp .ne 7, 3) := by decide +kernel
theorem dX2_answerOfKnown_108 : decode cX2_answerOfKnown 108 = .ok (.iconst (-1), 1) := by decide +kernel
theorem dX2_answerOfKnown_109 : decode cX2_answerOfKnown 109 = .ok (.goto 5, 3) := by decide +kernel
theorem dX2_answerOfKnown_112 : decode cX2_answerOfKnown 112 = .ok (.bipush (-7), 2) := by decide +kernel
theorem dX2_answerOfKnown_114 : decode cX2_answerOfKnown 114 = .ok (.ireturn, 1) := by decide +kernel
theorem dX0_init_0 : decode cX0_init 0 = .ok (.aload_n 0, 1) := by decide +kernel
theorem dX0_init_1 : decode cX0_init 1 = .ok (.invokespecial 3, 3) := by decide +kernel
theorem dX0_init_4 : decode cX0_init 4 = .ok (.aload_n 0, 1) := by decide +kernel
theorem dX0_init_5 : decode cX0_init 5 = .ok (.iconst 5, 1) := by decide +kernel
theorem dX0_init_6 : decode cX0_init 6 = .ok (.newarray .int, 2) := by decide +kernel
theorem dX0_init_8 : decode cX0_init 8 = .ok (.putfield 9, 3) := by decide +kernel
theorem dX0_init_11 : decode cX0_init 11 = .ok (.aload_n 0, 1) := by decide +kernel
theorem dX0_init_12 : decode cX0_init 12 = .ok (.iconst 0, 1) := by decide +kernel
theorem dX0_init_13 : decode cX0_init 13 = .ok (.putfield 15, 3) := by decide +kernel
theorem dX0_init_16 : decode cX0_init 16 = .ok (.return_, 1) := by decide +kernel
theorem dX0_latest_0 : decode cX0_latest 0 = .ok (.aload_n 0, 1) := by decide +kernel
theorem dX0_latest_1 : decode cX0_latest 1 = .ok (.getfield 9, 3) := by decide +kernel
theorem dX0_latest_4 : decode cX0_latest 4 = .ok (.iconst 0, 1) := by decide +kernel
theorem dX0_latest_5 : decode cX0_latest 5 = .ok (.iaload, 1) := by decide +kernel
theorem dX0_latest_6 : decode cX0_latest 6 = .ok (.ireturn, 1) := by decide +kernel
theorem dX0_first_0 : decode cX0_first 0 = .ok (.aload_n 0, 1) := by decide +kernel
theorem dX0_first_1 : decode cX0_first 1 = .ok (.getfield 15, 3) := by decide +kernel
theorem dX0_first_4 : decode cX0_first 4 = .ok (.ifCond .le 17, 3) := by decide +kernel
theorem dX0_first_7 : decode cX0_first 7 = .ok (.aload_n 0, 1) := by decide +kernel
theorem dX0_first_8 : decode cX0_first 8 = .ok (.getfield 9, 3) := by decide +kernel
theorem dX0_first_11 : decode cX0_first 11 = .ok (.aload_n 0, 1) := by decide +kernel
theorem dX0_first_12 : decode cX0_first 12 = .ok (.getfield 15, 3) := by decide +kernel
theorem dX0_first_15 : decode cX0_first 15 = .ok (.iconst 1, 1) := by decide +kernel
theorem dX0_first_16 : decode cX0_first 16 = .ok (.isub, 1) := by decide +kernel
theorem dX0_first_17 : decode cX0_first 17 = .ok (.iaload, 1) := by decide +kernel
theorem dX0_first_18 : decode cX0_first 18 = .ok (.goto 9, 3) := by decide +kernel
theorem dX0_first_21 : decode cX0_first 21 = .ok (.aload_n 0, 1) := by decide +kernel
theorem dX0_first_22 : decode cX0_first 22 = .ok (.getfield 9, 3) := by decide +kernel
theorem dX0_first_25 : decode cX0_first 25 = .ok (.iconst 0, 1) := by decide +kernel
theorem dX0_first_26 : decode cX0_first 26 = .ok (.iaload, 1) := by decide +kernel
theorem dX0_first_27 : decode cX0_first 27 = .ok (.ireturn, 1) := by decide +kernel
theorem dX0_addOlder_0 : decode cX0_addOlder 0 = .ok (.aload_n 0, 1) := by decide +kernel
theorem dX0_addOlder_1 : decode cX0_addOlder 1 = .ok (.getfield 15, 3) := by decide +kernel
theorem dX0_addOlder_4 : decode cX0_addOlder 4 = .ok (.iconst 5, 1) := by decide +kernel
theorem dX0_addOlder_5 : decode cX0_addOlder 5 = .ok (.if_icmp .ge 23, 3) := by decide +kernel
theorem dX0_addOlder_8 : decode cX0_addOlder 8 = .ok (.aload_n 0, 1) := by decide +kernel
theorem dX0_addOlder_9 : decode cX0_addOlder 9 = .ok (.getfield 9, 3) := by decide +kernel
theorem dX0_addOlder_12 : decode cX0_addOlder 12 = .ok (.aload_n 0, 1) := by decide +kernel
theorem dX0_addOlder_13 : decode cX0_addOlder 13 = .ok (.getfield 15, 3) := by decide +kernel
theorem dX0_addOlder_16 : decode cX0_addOlder 16 = .ok (.iload_n 1, 1) := by decide +kernel
theorem dX0_addOlder_17 : decode cX0_addOlder 17 = .ok (.iastore, 1) := by decide +kernel
theorem dX0_addOlder_18 : decode cX0_addOlder 18 = .ok (.aload_n 0, 1) := by decide +kernel
theorem dX0_addOlder_19 : decode cX0_addOlder 19 = .ok (.dup, 1) := by decide +kernel
theorem dX0_addOlder_20 : decode cX0_addOlder 20 = .ok (.getfield 15, 3) := by decide +kernel
theorem dX0_addOlder_23 : decode cX0_addOlder 23 = .ok (.iconst 1, 1) := by decide +kernel
theorem dX0_addOlder_24 : decode cX0_addOlder 24 = .ok (.iadd, 1) := by decide +kernel
theorem dX0_addOlder_25 : decode cX0_addOlder 25 = .ok (.putfield 15, 3) := by decide +kernel
theorem dX0_addOlder_28 : decode cX0_addOlder 28 = .ok (.return_, 1) := by decide +kernel
theorem dX0_addLatest_0 : decode cX0_addLatest 0 = .ok (.aload_n 0, 1) := by decide +kernel
theorem dX0_addLatest_1 : decode cX0_addLatest 1 = .ok (.getfield 15, 3) := by decide +kernel
theorem dX0_addLatest_4 : decode cX0_addLatest 4 = .ok (.iconst 5, 1) := by decide +kernel
theorem dX0_addLatest_5 : decode cX0_addLatest 5 = .ok (.if_icmp .ge 13, 3) := by decide +kernel
theorem dX0_addLatest_8 : decode cX0_addLatest 8 = .ok (.aload_n 0, 1) := by decide +kernel
theorem dX0_addLatest_9 : decode cX0_addLatest 9 = .ok (.dup, 1) := by decide +kernel
theorem dX0_addLatest_10 : decode cX0_addLatest 10 = .ok (.getfield 15, 3) := by decide +kernel
theorem dX0_addLatest_13 : decode cX0_addLatest 13 = .ok (.iconst 1, 1) := by decide +kernel
theorem dX0_addLatest_14 : decode cX0_addLatest 14 = .ok (.iadd, 1) := by decide +kernel
theorem dX0_addLatest_15 : decode cX0_addLatest 15 = .ok (.putfield 15, 3) := by decide +kernel
theorem dX0_addLatest_18 : decode cX0_addLatest 18 = .ok (.aload_n 0, 1) := by decide +kernel
theorem dX0_addLatest_19 : decode cX0_addLatest 19 = .ok (.getfield 15, 3) := by decide +kernel
theorem dX0_addLatest_22 : decode cX0_addLatest 22 = .ok (.iconst 1, 1) := by decide +kernel
theorem dX0_addLatest_23 : decode cX0_addLatest 23 = .ok (.isub, 1) := by decide +kernel
theorem dX0_addLatest_24 : decode cX0_addLatest 24 = .ok (.istore_n 2, 1) := by decide +kernel
theorem dX0_addLatest_25 : decode cX0_addLatest 25 = .ok (.iload_n 2, 1) := by decide +kernel
theorem dX0_addLatest_26 : decode cX0_addLatest 26 = .ok (.ifCond .le 23, 3) := by decide +kernel
theorem dX0_addLatest_29 : decode cX0_addLatest 29 = .ok (.aload_n 0, 1) := by decide +kernel
theorem dX0_addLatest_30 : decode cX0_addLatest 30 = .ok (.getfield 9, 3) := by decide +kernel
theorem dX0_addLatest_33 : decode cX0_addLatest 33 = .ok (.iload_n 2, 1) := by decide +kernel
theorem dX0_addLatest_34 : decode cX0_addLatest 34 = .ok (.aload_n 0, 1) := by decide +kernel
theorem dX0_addLatest_35 : decode cX0_addLatest 35 = .ok (.getfield 9, 3) := by decide +kernel
theorem dX0_addLatest_38 : decode cX0_addLatest 38 = .ok (.iload_n 2, 1) := by decide +kernel
theorem dX0_addLatest_39 : decode cX0_addLatest 39 = .ok (.iconst 1, 1) := by decide +kernel
theorem dX0_addLatest_40 : decode cX0_addLatest 40 = .ok (.isub, 1) := by decide +kernel
theorem dX0_addLatest_41 : decode cX0_addLatest 41 = .ok (.iaload, 1) := by decide +kernel
theorem dX0_addLatest_42 : decode cX0_addLatest 42 = .ok (.iastore, 1) := by decide +kernel
theorem dX0_addLatest_43 : decode cX0_addLatest 43 = .ok (.iinc 2 (-1), 3) := by decide +kernel
theorem dX0_addLatest_46 : decode cX0_addLatest 46 = .ok (.goto (-21), 3) := by decide +kernel
theorem dX0_addLatest_49 : decode cX0_addLatest 49 = .ok (.aload_n 0, 1) := by decide +kernel
theorem dX0_addLatest_50 : decode cX0_addLatest 50 = .ok (.getfield 9, 3) := by decide +kernel
theorem dX0_addLatest_53 : decode cX0_addLatest 53 = .ok (.iconst 0, 1) := by decide +kernel
theorem dX0_addLatest_54 : decode cX0_addLatest 54 = .ok (.iload_n 1, 1) := by decide +kernel
theorem dX0_addLatest_55 : decode cX0_addLatest 55 = .ok (.iastore, 1) := by decide +kernel
theorem dX0_addLatest_56 : decode cX0_addLatest 56 = .ok (.return_, 1) := by decide +kernel
theorem dX1_init_0 : decode cX1_init 0 = .ok (.aload_n 0, 1) := by decide +kernel
theorem dX1_init_1 : decode cX1_init 1 = .ok (.invokespecial 3, 3) := by decide +kernel
theorem dX1_init_4 : decode cX1_init 4 = .ok (.aload_n 0, 1) := by decide +kernel
theorem dX1_init_5 : decode cX1_init 5 = .ok (.sipush 2000, 3) := by decide +kernel
theorem dX1_init_8 : decode cX1_init 8 = .ok (.newarray .int, 2) := by decide +kernel
theorem dX1_init_10 : decode cX1_init 10 = .ok (.putfield 9, 3) := by decide +kernel
theorem dX1_init_13 : decode cX1_init 13 = .ok (.aload_n 0, 1) := by decide +kernel
theorem dX1_init_14 : decode cX1_init 14 = .ok (.sipush 2000, 3) := by decide +kernel
theorem dX1_init_17 : decode cX1_init 17 = .ok (.newarray .long, 2) := by decide +kernel
theorem dX1_init_19 : decode cX1_init 19 = .ok (.putfield 15, 3) := by decide +kernel
theorem dX1_init_22 : decode cX1_init 22 = .ok (.aload_n 0, 1) := by decide +kernel
theorem dX1_init_23 : decode cX1_init 23 = .ok (.sipush 2000, 3) := by decide +kernel
theorem dX1_init_26 : decode cX1_init 26 = .ok (.newarray .int, 2) := by decide +kernel
theorem dX1_init_28 : decode cX1_init 28 = .ok (.putfield 19, 3) := by decide +kernel
theorem dX1_init_31 : decode cX1_init 31 = .ok (.aload_n 0, 1) := by decide +kernel
theorem dX1_init_32 : decode cX1_init 32 = .ok (.sipush 2000, 3) := by decide +kernel
theorem dX1_init_35 : decode cX1_init 35 = .ok (.newarray .int, 2) := by decide +kernel
theorem dX1_init_37 : decode cX1_init 37 = .ok (.putfield 22, 3) := by decide +kernel
theorem dX1_init_40 : decode cX1_init 40 = .ok (.aload_n 0, 1) := by decide +kernel
theorem dX1_init_41 : decode cX1_init 41 = .ok (.sipush 2000, 3) := by decide +kernel
theorem dX1_init_44 : decode cX1_init 44 = .ok (.newarray .int, 2) := by decide +kernel
theorem dX1_init_46 : decode cX1_init 46 = .ok (.putfield 25, 3) := by decide +kernel
theorem dX1_init_49 : decode cX1_init 49 = .ok (.aload_n 0, 1) := by decide +kernel
theorem dX1_init_50 : decode cX1_init 50 = .ok (.sipush 2000, 3) := by decide +kernel
theorem dX1_init_53 : decode cX1_init 53 = .ok (.newarray .int, 2) := by decide +kernel
theorem dX1_init_55 : decode cX1_init 55 = .ok (.putfield 28, 3) := by decide +kernel
theorem dX1_init_58 : decode cX1_init 58 = .ok (.aload_n 0, 1) := by decide +kernel
theorem dX1_init_59 : decode cX1_init 59 = .ok (.iconst 0, 1) := by decide +kernel
theorem dX1_init_60 : decode cX1_init 60 = .ok (.putfield 31, 3) := by decide +kernel
theorem dX1_init_63 : decode cX1_init 63 = .ok (.aload_n 0, 1) := by decide +kernel
theorem dX1_init_64 : decode cX1_init 64 = .ok (.iconst 0, 1) := by decide +kernel
theorem dX1_init_65 : decode cX1_init 65 = .ok (.putfield 35, 3) := by decide +kernel
theorem dX1_init_68 : decode cX1_init 68 = .ok (.return_, 1) := by decide +kernel
theorem dX1_hasRoom_0 : decode cX1_hasRoom 0 = .ok (.aload_n 0, 1) := by decide +kernel
theorem dX1_hasRoom_1 : decode cX1_hasRoom 1 = .ok (.getfield 31, 3) := by decide +kernel
theorem dX1_hasRoom_4 : decode cX1_hasRoom 4 = .ok (.iload_n 1, 1) := by decide +kernel
theorem dX1_hasRoom_5 : decode cX1_hasRoom 5 = .ok (.iadd, 1) := by decide +kernel
theorem dX1_hasRoom_6 : decode cX1_hasRoom 6 = .ok (.sipush 2000, 3) := by decide +kernel
theorem dX1_hasRoom_9 : decode cX1_hasRoom 9 = .ok (.if_icmp .gt 22, 3) := by decide +kernel
theorem dX1_hasRoom_12 : decode cX1_hasRoom 12 = .ok (.aload_n 0, 1) := by decide +kernel
theorem dX1_hasRoom_13 : decode cX1_hasRoom 13 = .ok (.getfield 35, 3) := by decide +kernel
theorem dX1_hasRoom_16 : decode cX1_hasRoom 16 = .ok (.iload_n 1, 1) := by decide +kernel
theorem dX1_hasRoom_17 : decode cX1_hasRoom 17 = .ok (.iload_n 2, 1) := by decide +kernel
theorem dX1_hasRoom_18 : decode cX1_hasRoom 18 = .ok (.iconst 1, 1) := by decide +kernel
theorem dX1_hasRoom_19 : decode cX1_hasRoom 19 = .ok (.iadd, 1) := by decide +kernel
theorem dX1_hasRoom_20 : decode cX1_hasRoom 20 = .ok (.imul, 1) := by decide +kernel
theorem dX1_hasRoom_21 : decode cX1_hasRoom 21 = .ok (.iadd, 1) := by decide +kernel
theorem dX1_hasRoom_22 : decode cX1_hasRoom 22 = .ok (.ldc 38, 2) := by decide +kernel
theorem dX1_hasRoom_24 : decode cX1_hasRoom 24 = .ok (.if_icmp .gt 7, 3) := by decide +kernel
theorem dX1_hasRoom_27 : decode cX1_hasRoom 27 = .ok (.iconst 1, 1) := by decide +kernel
theorem dX1_hasRoom_28 : decode cX1_hasRoom 28 = .ok (.goto 4, 3) := by decide +kernel
theorem dX1_hasRoom_31 : decode cX1_hasRoom 31 = .ok (.iconst 0, 1) := by decide +kernel
theorem dX1_hasRoom_32 : decode cX1_hasRoom 32 = .ok (.ireturn, 1) := by decide +kernel
theorem dX1_isKnown_0 : decode cX1_isKnown 0 = .ok (.aload_n 0, 1) := by decide +kernel
theorem dX1_isKnown_1 : decode cX1_isKnown 1 = .ok (.getfield 28, 3) := by decide +kernel
theorem dX1_isKnown_4 : decode cX1_isKnown 4 = .ok (.iload_n 1, 1) := by decide +kernel
theorem dX1_isKnown_5 : decode cX1_isKnown 5 = .ok (.iaload, 1) := by decide +kernel
theorem dX1_isKnown_6 : decode cX1_isKnown 6 = .ok (.iconst 5, 1) := by decide +kernel
theorem dX1_isKnown_7 : decode cX1_isKnown 7 = .ok (.if_icmp .ge 7, 3) := by decide +kernel
theorem dX1_isKnown_10 : decode cX1_isKnown 10 = .ok (.iconst 1, 1) := by decide +kernel
theorem dX1_isKnown_11 : decode cX1_isKnown 11 = .ok (.goto 4, 3) := by decide +kernel
theorem dX1_isKnown_14 : decode cX1_isKnown 14 = .ok (.iconst 0, 1) := by decide +kernel
theorem dX1_isKnown_15 : decode cX1_isKnown 15 = .ok (.ireturn, 1) := by decide +kernel
theorem dX1_recall_0 : decode cX1_recall 0 = .ok (.aload_n 3, 1) := by decide +kernel
theorem dX1_recall_1 : decode cX1_recall 1 = .ok (.iconst 0, 1) := by decide +kernel
theorem dX1_recall_2 : decode cX1_recall 2 = .ok (.putfield 39, 3) := by decide +kernel
theorem dX1_recall_5 : decode cX1_recall 5 = .ok (.aload_n 0, 1) := by decide +kernel
theorem dX1_recall_6 : decode cX1_recall 6 = .ok (.getfield 31, 3) := by decide +kernel
theorem dX1_recall_9 : decode cX1_recall 9 = .ok (.iconst 1, 1) := by decide +kernel
theorem dX1_recall_10 : decode cX1_recall 10 = .ok (.isub, 1) := by decide +kernel
theorem dX1_recall_11 : decode cX1_recall 11 = .ok (.istore 4, 2) := by decide +kernel
theorem dX1_recall_13 : decode cX1_recall 13 = .ok (.iload 4, 2) := by decide +kernel
theorem dX1_recall_15 : decode cX1_recall 15 = .ok (.ifCond .lt 44, 3) := by decide +kernel
theorem dX1_recall_18 : decode cX1_recall 18 = .ok (.aload_n 3, 1) := by decide +kernel
theorem dX1_recall_19 : decode cX1_recall 19 = .ok (.getfield 39, 3) := by decide +kernel
theorem dX1_recall_22 : decode cX1_recall 22 = .ok (.iconst 5, 1) := by decide +kernel
theorem dX1_recall_23 : decode cX1_recall 23 = .ok (.if_icmp .ge 36, 3) := by decide +kernel
theorem dX1_recall_26 : decode cX1_recall 26 = .ok (.aload_n 0, 1) := by decide +kernel
theorem dX1_recall_27 : decode cX1_recall 27 = .ok (.getfield 15, 3) := by decide +kernel
theorem dX1_recall_30 : decode cX1_recall 30 = .ok (.iload 4, 2) := by decide +kernel
theorem dX1_recall_32 : decode cX1_recall 32 = .ok (.laload, 1) := by decide +kernel
theorem dX1_recall_33 : decode cX1_recall 33 = .ok (.lload_n 1, 1) := by decide +kernel
theorem dX1_recall_34 : decode cX1_recall 34 = .ok (.lcmp, 1) := by decide +kernel
theorem dX1_recall_35 : decode cX1_recall 35 = .ok (.ifCond .ne 18, 3) := by decide +kernel
theorem dX1_recall_38 : decode cX1_recall 38 = .ok (.aload_n 0, 1) := by decide +kernel
theorem dX1_recall_39 : decode cX1_recall 39 = .ok (.iload 4, 2) := by decide +kernel
theorem dX1_recall_41 : decode cX1_recall 41 = .ok (.invokevirtual 42, 3) := by decide +kernel
theorem dX1_recall_44 : decode cX1_recall 44 = .ok (.ifCond .eq 9, 3) := by decide +kernel
theorem dX1_recall_47 : decode cX1_recall 47 = .ok (.aload_n 3, 1) := by decide +kernel
theorem dX1_recall_48 : decode cX1_recall 48 = .ok (.iload 4, 2) := by decide +kernel
theorem dX1_recall_50 : decode cX1_recall 50 = .ok (.invokevirtual 46, 3) := by decide +kernel
theorem dX1_recall_53 : decode cX1_recall 53 = .ok (.iinc 4 (-1), 3) := by decide +kernel
theorem dX1_recall_56 : decode cX1_recall 56 = .ok (.goto (-43), 3) := by decide +kernel
theorem dX1_recall_59 : decode cX1_recall 59 = .ok (.return_, 1) := by decide +kernel
theorem dX1_baseOfSame_0 : decode cX1_baseOfSame 0 = .ok (.iconst 0, 1) := by decide +kernel
theorem dX1_baseOfSame_1 : decode cX1_baseOfSame 1 = .ok (.istore 5, 2) := by decide +kernel
theorem dX1_baseOfSame_3 : decode cX1_baseOfSame 3 = .ok (.iload 5, 2) := by decide +kernel
theorem dX1_baseOfSame_5 : decode cX1_baseOfSame 5 = .ok (.aload_n 1, 1) := by decide +kernel
theorem dX1_baseOfSame_6 : decode cX1_baseOfSame 6 = .ok (.getfield 39, 3) := by decide +kernel
theorem dX1_baseOfSame_9 : decode cX1_baseOfSame 9 = .ok (.if_icmp .ge 60, 3) := by decide +kernel
theorem dX1_baseOfSame_12 : decode cX1_baseOfSame 12 = .ok (.aload_n 1, 1) := by decide +kernel
theorem dX1_baseOfSame_13 : decode cX1_baseOfSame 13 = .ok (.getfield 50, 3) := by decide +kernel
theorem dX1_baseOfSame_16 : decode cX1_baseOfSame 16 = .ok (.iload 5, 2) := by decide +kernel
theorem dX1_baseOfSame_18 : decode cX1_baseOfSame 18 = .ok (.iaload, 1) := by decide +kernel
theorem dX1_baseOfSame_19 : decode cX1_baseOfSame 19 = .ok (.istore 6, 2) := by decide +kernel
theorem dX1_baseOfSame_21 : decode cX1_baseOfSame 21 = .ok (.aload_n 0, 1) := by decide +kernel
theorem dX1_baseOfSame_22 : decode cX1_baseOfSame 22 = .ok (.getfield 19, 3) := by decide +kernel
theorem dX1_baseOfSame_25 : decode cX1_baseOfSame 25 = .ok (.iload 6, 2) := by decide +kernel
theorem dX1_baseOfSame_27 : decode cX1_baseOfSame 27 = .ok (.iaload, 1) := by decide +kernel
theorem dX1_baseOfSame_28 : decode cX1_baseOfSame 28 = .ok (.iload_n 2, 1) := by decide +kernel
theorem dX1_baseOfSame_29 : decode cX1_baseOfSame 29 = .ok (.if_icmp .ne 34, 3) := by decide +kernel
theorem dX1_baseOfSame_32 : decode cX1_baseOfSame 32 = .ok (.aload_n 0, 1) := by decide +kernel
theorem dX1_baseOfSame_33 : decode cX1_baseOfSame 33 = .ok (.getfield 22, 3) := by decide +kernel
theorem dX1_baseOfSame_36 : decode cX1_baseOfSame 36 = .ok (.iload 6, 2) := by decide +kernel
theorem dX1_baseOfSame_38 : decode cX1_baseOfSame 38 = .ok (.iaload, 1) := by decide +kernel
theorem dX1_baseOfSame_39 : decode cX1_baseOfSame 39 = .ok (.iload_n 3, 1) := by decide +kernel
theorem dX1_baseOfSame_40 : decode cX1_baseOfSame 40 = .ok (.if_icmp .ne 23, 3) := by decide +kernel
theorem dX1_baseOfSame_43 : decode cX1_baseOfSame 43 = .ok (.aload_n 0, 1) := by decide +kernel
theorem dX1_baseOfSame_44 : decode cX1_baseOfSame 44 = .ok (.getfield 25, 3) := by decide +kernel
theorem dX1_baseOfSame_47 : decode cX1_baseOfSame 47 = .ok (.iload 6, 2) := by decide +kernel
theorem dX1_baseOfSame_49 : decode cX1_baseOfSame 49 = .ok (.iaload, 1) := by decide +kernel
theorem dX1_baseOfSame_50 : decode cX1_baseOfSame 50 = .ok (.iload 4, 2) := by decide +kernel
theorem dX1_baseOfSame_52 : decode cX1_baseOfSame 52 = .ok (.if_icmp .ne 11, 3) := by decide +kernel
theorem dX1_baseOfSame_55 : decode cX1_baseOfSame 55 = .ok (.aload_n 0, 1) := by decide +kernel
theorem dX1_baseOfSame_56 : decode cX1_baseOfSame 56 = .ok (.getfield 9, 3) := by decide +kernel
theorem dX1_baseOfSame_59 : decode cX1_baseOfSame 59 = .ok (.iload 6, 2) := by decide +kernel
theorem dX1_baseOfSame_61 : decode cX1_baseOfSame 61 = .ok (.iaload, 1) := by decide +kernel
theorem dX1_baseOfSame_62 : decode cX1_baseOfSame 62 = .ok (.ireturn, 1) := by decide +kernel
theorem dX1_baseOfSame_63 : decode cX1_baseOfSame 63 = .ok (.iinc 5 1, 3) := by decide +kernel
theorem dX1_baseOfSame_66 : decode cX1_baseOfSame 66 = .ok (.goto (-63), 3) := by decide +kernel
theorem dX1_baseOfSame_69 : decode cX1_baseOfSame 69 = .ok (.iconst (-1), 1) := by decide +kernel
theorem dX1_baseOfSame_70 : decode cX1_baseOfSame 70 = .ok (.ireturn, 1) := by decide +kernel
theorem dX1_append_0 : decode cX1_append 0 = .ok (.aload_n 0, 1) := by decide +kernel
theorem dX1_append_1 : decode cX1_append 1 = .ok (.iconst 1, 1) := by decide +kernel
theorem dX1_append_2 : decode cX1_append 2 = .ok (.iload 6, 2) := by decide +kernel
theorem dX1_append_4 : decode cX1_append 4 = .ok (.invokevirtual 53, 3) := by decide +kernel
theorem dX1_append_7 : decode cX1_append 7 = .ok (.ifCond .ne 5, 3) := by decide +kernel
theorem dX1_append_10 : decode cX1_append 10 = .ok (.iconst (-1), 1) := by decide +kernel
theorem dX1_append_11 : decode cX1_append 11 = .ok (.ireturn, 1) := by decide +kernel
theorem dX1_append_12 : decode cX1_append 12 = .ok (.aload_n 0, 1) := by decide +kernel
theorem dX1_append_13 : decode cX1_append 13 = .ok (.getfield 31, 3) := by decide +kernel
theorem dX1_append_16 : decode cX1_append 16 = .ok (.istore 7, 2) := by decide +kernel
theorem dX1_append_18 : decode cX1_append 18 = .ok (.aload_n 0, 1) := by decide +kernel
theorem dX1_append_19 : decode cX1_append 19 = .ok (.getfield 9, 3) := by decide +kernel
theorem dX1_append_22 : decode cX1_append 22 = .ok (.iload 7, 2) := by decide +kernel
theorem dX1_append_24 : decode cX1_append 24 = .ok (.aload_n 0, 1) := by decide +kernel
theorem dX1_append_25 : decode cX1_append 25 = .ok (.getfield 35, 3) := by decide +kernel
theorem dX1_append_28 : decode cX1_append 28 = .ok (.iastore, 1) := by decide +kernel
theorem dX1_append_29 : decode cX1_append 29 = .ok (.aload_n 0, 1) := by decide +kernel
theorem dX1_append_30 : decode cX1_append 30 = .ok (.getfield 15, 3) := by decide +kernel
theorem dX1_append_33 : decode cX1_append 33 = .ok (.iload 7, 2) := by decide +kernel
theorem dX1_append_35 : decode cX1_append 35 = .ok (.lload_n 2, 1) := by decide +kernel
theorem dX1_append_36 : decode cX1_append 36 = .ok (.lastore, 1) := by decide +kernel
theorem dX1_append_37 : decode cX1_append 37 = .ok (.aload_n 0, 1) := by decide +kernel
theorem dX1_append_38 : decode cX1_append 38 = .ok (.getfield 19, 3) := by decide +kernel
theorem dX1_append_41 : decode cX1_append 41 = .ok (.iload 7, 2) := by decide +kernel
theorem dX1_append_43 : decode cX1_append 43 = .ok (.iload 4, 2) := by decide +kernel
theorem dX1_append_45 : decode cX1_append 45 = .ok (.iastore, 1) := by decide +kernel
theorem dX1_append_46 : decode cX1_append 46 = .ok (.aload_n 0, 1) := by decide +kernel
theorem dX1_append_47 : decode cX1_append 47 = .ok (.getfield 22, 3) := by decide +kernel
theorem dX1_append_50 : decode cX1_append 50 = .ok (.iload 7, 2) := by decide +kernel
theorem dX1_append_52 : decode cX1_append 52 = .ok (.iload 5, 2) := by decide +kernel
theorem dX1_append_54 : decode cX1_append 54 = .ok (.iastore, 1) := by decide +kernel
theorem dX1_append_55 : decode cX1_append 55 = .ok (.aload_n 0, 1) := by decide +kernel
theorem dX1_append_56 : decode cX1_append 56 = .ok (.getfield 25, 3) := by decide +kernel
theorem dX1_append_59 : decode cX1_append 59 = .ok (.iload 7, 2) := by decide +kernel
theorem dX1_append_61 : decode cX1_append 61 = .ok (.iload 6, 2) := by decide +kernel
theorem dX1_append_63 : decode cX1_append 63 = .ok (.iastore, 1) := by decide +kernel
theorem dX1_append_64 : decode cX1_append 64 = .ok (.lload_n 2, 1) := by decide +kernel
theorem dX1_append_65 : decode cX1_append 65 = .ok (.ldc2_w 57, 3) := by decide +kernel
theorem dX1_append_68 : decode cX1_append 68 = .ok (.lcmp, 1) := by decide +kernel
theorem dX1_append_69 : decode cX1_append 69 = .ok (.ifCond .ne 14, 3) := by decide +kernel
theorem dX1_append_72 : decode cX1_append 72 = .ok (.aload_n 0, 1) := by decide +kernel
theorem dX1_append_73 : decode cX1_append 73 = .ok (.getfield 28, 3) := by decide +kernel
theorem dX1_append_76 : decode cX1_append 76 = .ok (.iload 7, 2) := by decide +kernel
theorem dX1_append_78 : decode cX1_append 78 = .ok (.iconst 5, 1) := by decide +kernel
theorem dX1_append_79 : decode cX1_append 79 = .ok (.iastore, 1) := by decide +kernel
theorem dX1_append_80 : decode cX1_append 80 = .ok (.goto 10, 3) := by decide +kernel
theorem dX1_append_83 : decode cX1_append 83 = .ok (.aload_n 0, 1) := by decide +kernel
theorem dX1_append_84 : decode cX1_append 84 = .ok (.aload_n 1, 1) := by decide +kernel
theorem dX1_append_85 : decode cX1_append 85 = .ok (.iload 7, 2) := by decide +kernel
theorem dX1_append_87 : decode cX1_append 87 = .ok (.invokevirtual 59, 3) := by decide +kernel
theorem dX1_append_90 : decode cX1_append 90 = .ok (.aload_n 0, 1) := by decide +kernel
theorem dX1_append_91 : decode cX1_append 91 = .ok (.dup, 1) := by decide +kernel
theorem dX1_append_92 : decode cX1_append 92 = .ok (.getfield 31, 3) := by decide +kernel
theorem dX1_append_95 : decode cX1_append 95 = .ok (.iconst 1, 1) := by decide +kernel
theorem dX1_append_96 : decode cX1_append 96 = .ok (.iadd, 1) := by decide +kernel
theorem dX1_append_97 : decode cX1_append 97 = .ok (.putfield 31, 3) := by decide +kernel
theorem dX1_append_100 : decode cX1_append 100 = .ok (.aload_n 0, 1) := by decide +kernel
theorem dX1_append_101 : decode cX1_append 101 = .ok (.dup, 1) := by decide +kernel
theorem dX1_append_102 : decode cX1_append 102 = .ok (.getfield 35, 3) := by decide +kernel
theorem dX1_append_105 : decode cX1_append 105 = .ok (.iload 6, 2) := by decide +kernel
theorem dX1_append_107 : decode cX1_append 107 = .ok (.iconst 1, 1) := by decide +kernel
theorem dX1_append_108 : decode cX1_append 108 = .ok (.iadd, 1) := by decide +kernel
theorem dX1_append_109 : decode cX1_append 109 = .ok (.iadd, 1) := by decide +kernel
theorem dX1_append_110 : decode cX1_append 110 = .ok (.putfield 35, 3) := by decide +kernel
theorem dX1_append_113 : decode cX1_append 113 = .ok (.aload_n 0, 1) := by decide +kernel
theorem dX1_append_114 : decode cX1_append 114 = .ok (.getfield 9, 3) := by decide +kernel
theorem dX1_append_117 : decode cX1_append 117 = .ok (.iload 7, 2) := by decide +kernel
theorem dX1_append_119 : decode cX1_append 119 = .ok (.iaload, 1) := by decide +kernel
theorem dX1_append_120 : decode cX1_append 120 = .ok (.ireturn, 1) := by decide +kernel
theorem dX1_becomeLatest_0 : decode cX1_becomeLatest 0 = .ok (.iconst 0, 1) := by decide +kernel
theorem dX1_becomeLatest_1 : decode cX1_becomeLatest 1 = .ok (.istore_n 3, 1) := by decide +kernel
theorem dX1_becomeLatest_2 : decode cX1_becomeLatest 2 = .ok (.iload_n 3, 1) := by decide +kernel
theorem dX1_becomeLatest_3 : decode cX1_becomeLatest 3 = .ok (.aload_n 1, 1) := by decide +kernel
theorem dX1_becomeLatest_4 : decode cX1_becomeLatest 4 = .ok (.getfield 39, 3) := by decide +kernel
theorem dX1_becomeLatest_7 : decode cX1_becomeLatest 7 = .ok (.if_icmp .ge 24, 3) := by decide +kernel
theorem dX1_becomeLatest_10 : decode cX1_becomeLatest 10 = .ok (.aload_n 0, 1) := by decide +kernel
theorem dX1_becomeLatest_11 : decode cX1_becomeLatest 11 = .ok (.getfield 28, 3) := by decide +kernel
theorem dX1_becomeLatest_14 : decode cX1_becomeLatest 14 = .ok (.aload_n 1, 1) := by decide +kernel
theorem dX1_becomeLatest_15 : decode cX1_becomeLatest 15 = .ok (.getfield 50, 3) := by decide +kernel
theorem dX1_becomeLatest_18 : decode cX1_becomeLatest 18 = .ok (.iload_n 3, 1) := by decide +kernel
theorem dX1_becomeLatest_19 : decode cX1_becomeLatest 19 = .ok (.iaload, 1) := by decide +kernel
theorem dX1_becomeLatest_20 : decode cX1_becomeLatest 20 = .ok (.dup2, 1) := by decide +kernel
theorem dX1_becomeLatest_21 : decode cX1_becomeLatest 21 = .ok (.iaload, 1) := by decide +kernel
theorem dX1_becomeLatest_22 : decode cX1_becomeLatest 22 = .ok (.iconst 1, 1) := by decide +kernel
theorem dX1_becomeLatest_23 : decode cX1_becomeLatest 23 = .ok (.iadd, 1) := by decide +kernel
theorem dX1_becomeLatest_24 : decode cX1_becomeLatest 24 = .ok (.iastore, 1) := by decide +kernel
theorem dX1_becomeLatest_25 : decode cX1_becomeLatest 25 = .ok (.iinc 3 1, 3) := by decide +kernel
theorem dX1_becomeLatest_28 : decode cX1_becomeLatest 28 = .ok (.goto (-26), 3) := by decide +kernel
theorem dX1_becomeLatest_31 : decode cX1_becomeLatest 31 = .ok (.aload_n 0, 1) := by decide +kernel
theorem dX1_becomeLatest_32 : decode cX1_becomeLatest 32 = .ok (.getfield 28, 3) := by decide +kernel
theorem dX1_becomeLatest_35 : decode cX1_becomeLatest 35 = .ok (.iload_n 2, 1) := by decide +kernel
theorem dX1_becomeLatest_36 : decode cX1_becomeLatest 36 = .ok (.iconst 0, 1) := by decide +kernel
theorem dX1_becomeLatest_37 : decode cX1_becomeLatest 37 = .ok (.iastore, 1) := by decide +kernel
theorem dX1_becomeLatest_38 : decode cX1_becomeLatest 38 = .ok (.aload_n 1, 1) := by decide +kernel
theorem dX1_becomeLatest_39 : decode cX1_becomeLatest 39 = .ok (.iload_n 2, 1) := by decide +kernel
theorem dX1_becomeLatest_40 : decode cX1_becomeLatest 40 = .ok (.invokevirtual 63, 3) := by decide +kernel
theorem dX1_becomeLatest_43 : decode cX1_becomeLatest 43 = .ok (.return_, 1) := by decide +kernel
theorem dX1_removeFirst_0 : decode cX1_removeFirst 0 = .ok (.iload_n 1, 1) := by decide +kernel
theorem dX1_removeFirst_1 : decode cX1_removeFirst 1 = .ok (.aload_n 0, 1) := by decide +kernel
theorem dX1_removeFirst_2 : decode cX1_removeFirst 2 = .ok (.getfield 31, 3) := by decide +kernel
theorem dX1_removeFirst_5 : decode cX1_removeFirst 5 = .ok (.invokestatic 66, 3) := by decide +kernel
theorem dX1_removeFirst_8 : decode cX1_removeFirst 8 = .ok (.istore_n 2, 1) := by decide +kernel
theorem dX1_removeFirst_9 : decode cX1_removeFirst 9 = .ok (.iload_n 2, 1) := by decide +kernel
theorem dX1_removeFirst_10 : decode cX1_removeFirst 10 = .ok (.ifCond .le 25, 3) := by decide +kernel
theorem dX1_removeFirst_13 : decode cX1_removeFirst 13 = .ok (.aload_n 0, 1) := by decide +kernel
theorem dX1_removeFirst_14 : decode cX1_removeFirst 14 = .ok (.iload_n 2, 1) := by decide +kernel
theorem dX1_removeFirst_15 : decode cX1_removeFirst 15 = .ok (.iconst 0, 1) := by decide +kernel
theorem dX1_removeFirst_16 : decode cX1_removeFirst 16 = .ok (.aload_n 0, 1) := by decide +kernel
theorem dX1_removeFirst_17 : decode cX1_removeFirst 17 = .ok (.getfield 31, 3) := by decide +kernel
theorem dX1_removeFirst_20 : decode cX1_removeFirst 20 = .ok (.iload_n 2, 1) := by decide +kernel
theorem dX1_removeFirst_21 : decode cX1_removeFirst 21 = .ok (.isub, 1) := by decide +kernel
theorem dX1_removeFirst_22 : decode cX1_removeFirst 22 = .ok (.invokevirtual 72, 3) := by decide +kernel
theorem dX1_removeFirst_25 : decode cX1_removeFirst 25 = .ok (.aload_n 0, 1) := by decide +kernel
theorem dX1_removeFirst_26 : decode cX1_removeFirst 26 = .ok (.dup, 1) := by decide +kernel
theorem dX1_removeFirst_27 : decode cX1_removeFirst 27 = .ok (.getfield 31, 3) := by decide +kernel
theorem dX1_removeFirst_30 : decode cX1_removeFirst 30 = .ok (.iload_n 2, 1) := by decide +kernel
theorem dX1_removeFirst_31 : decode cX1_removeFirst 31 = .ok (.isub, 1) := by decide +kernel
theorem dX1_removeFirst_32 : decode cX1_removeFirst 32 = .ok (.putfield 31, 3) := by decide +kernel
theorem dX1_removeFirst_35 : decode cX1_removeFirst 35 = .ok (.iload_n 2, 1) := by decide +kernel
theorem dX1_removeFirst_36 : decode cX1_removeFirst 36 = .ok (.ireturn, 1) := by decide +kernel
theorem dX1_removeUnknown_0 : decode cX1_removeUnknown 0 = .ok (.iconst 0, 1) := by decide +kernel
theorem dX1_removeUnknown_1 : decode cX1_removeUnknown 1 = .ok (.istore_n 1, 1) := by decide +kernel
theorem dX1_removeUnknown_2 : decode cX1_removeUnknown 2 = .ok (.iconst 0, 1) := by decide +kernel
theorem dX1_removeUnknown_3 : decode cX1_removeUnknown 3 = .ok (.istore_n 2, 1) := by decide +kernel
theorem dX1_removeUnknown_4 : decode cX1_removeUnknown 4 = .ok (.iload_n 2, 1) := by decide +kernel
theorem dX1_removeUnknown_5 : decode cX1_removeUnknown 5 = .ok (.aload_n 0, 1) := by decide +kernel
theorem dX1_removeUnknown_6 : decode cX1_removeUnknown 6 = .ok (.getfield 31, 3) := by decide +kernel
theorem dX1_removeUnknown_9 : decode cX1_removeUnknown 9 = .ok (.if_icmp .ge 32, 3) := by decide +kernel
theorem dX1_removeUnknown_12 : decode cX1_removeUnknown 12 = .ok (.aload_n 0, 1) := by decide +kernel
theorem dX1_removeUnknown_13 : decode cX1_removeUnknown 13 = .ok (.iload_n 2, 1) := by decide +kernel
theorem dX1_removeUnknown_14 : decode cX1_removeUnknown 14 = .ok (.invokevirtual 42, 3) := by decide +kernel
theorem dX1_removeUnknown_17 : decode cX1_removeUnknown 17 = .ok (.ifCond .eq 18, 3) := by decide +kernel
theorem dX1_removeUnknown_20 : decode cX1_removeUnknown 20 = .ok (.iload_n 1, 1) := by decide +kernel
theorem dX1_removeUnknown_21 : decode cX1_removeUnknown 21 = .ok (.iload_n 2, 1) := by decide +kernel
theorem dX1_removeUnknown_22 : decode cX1_removeUnknown 22 = .ok (.if_icmp .ge 10, 3) := by decide +kernel
theorem dX1_removeUnknown_25 : decode cX1_removeUnknown 25 = .ok (.aload_n 0, 1) := by decide +kernel
theorem dX1_removeUnknown_26 : decode cX1_removeUnknown 26 = .ok (.iload_n 2, 1) := by decide +kernel
theorem dX1_removeUnknown_27 : decode cX1_removeUnknown 27 = .ok (.iload_n 1, 1) := by decide +kernel
theorem dX1_removeUnknown_28 : decode cX1_removeUnknown 28 = .ok (.iconst 1, 1) := by decide +kernel
theorem dX1_removeUnknown_29 : decode cX1_removeUnknown 29 = .ok (.invokevirtual 72, 3) := by decide +kernel
theorem dX1_removeUnknown_32 : decode cX1_removeUnknown 32 = .ok (.iinc 1 1, 3) := by decide +kernel
theorem dX1_removeUnknown_35 : decode cX1_removeUnknown 35 = .ok (.iinc 2 1, 3) := by decide +kernel
theorem dX1_removeUnknown_38 : decode cX1_removeUnknown 38 = .ok (.goto (-34), 3) := by decide +kernel
theorem dX1_removeUnknown_41 : decode cX1_removeUnknown 41 = .ok (.aload_n 0, 1) := by decide +kernel
theorem dX1_removeUnknown_42 : decode cX1_removeUnknown 42 = .ok (.getfield 31, 3) := by decide +kernel
theorem dX1_removeUnknown_45 : decode cX1_removeUnknown 45 = .ok (.iload_n 1, 1) := by decide +kernel
theorem dX1_removeUnknown_46 : decode cX1_removeUnknown 46 = .ok (.isub, 1) := by decide +kernel
theorem dX1_removeUnknown_47 : decode cX1_removeUnknown 47 = .ok (.istore_n 2, 1) := by decide +kernel
theorem dX1_removeUnknown_48 : decode cX1_removeUnknown 48 = .ok (.aload_n 0, 1) := by decide +kernel
theorem dX1_removeUnknown_49 : decode cX1_removeUnknown 49 = .ok (.iload_n 1, 1) := by decide +kernel
theorem dX1_removeUnknown_50 : decode cX1_removeUnknown 50 = .ok (.putfield 31, 3) := by decide +kernel
theorem dX1_removeUnknown_53 : decode cX1_removeUnknown 53 = .ok (.iload_n 2, 1) := by decide +kernel
theorem dX1_removeUnknown_54 : decode cX1_removeUnknown 54 = .ok (.ireturn, 1) := by decide +kernel
theorem dX1_countProducers_0 : decode cX1_countProducers 0 = .ok (.iconst 0, 1) := by decide +kernel
theorem dX1_countProducers_1 : decode cX1_countProducers 1 = .ok (.istore_n 1, 1) := by decide +kernel
theorem dX1_countProducers_2 : decode cX1_countProducers 2 = .ok (.iconst 0, 1) := by decide +kernel
theorem dX1_countProducers_3 : decode cX1_countProducers 3 = .ok (.istore_n 2, 1) := by decide +kernel
theorem dX1_countProducers_4 : decode cX1_countProducers 4 = .ok (.iload_n 2, 1) := by decide +kernel
theorem dX1_countProducers_5 : decode cX1_countProducers 5 = .ok (.aload_n 0, 1) := by decide +kernel
theorem dX1_countProducers_6 : decode cX1_countProducers 6 = .ok (.getfield 31, 3) := by decide +kernel
theorem dX1_countProducers_9 : decode cX1_countProducers 9 = .ok (.if_icmp .ge 21, 3) := by decide +kernel
theorem dX1_countProducers_12 : decode cX1_countProducers 12 = .ok (.aload_n 0, 1) := by decide +kernel
theorem dX1_countProducers_13 : decode cX1_countProducers 13 = .ok (.getfield 28, 3) := by decide +kernel
theorem dX1_countProducers_16 : decode cX1_countProducers 16 = .ok (.iload_n 2, 1) := by decide +kernel
theorem dX1_countProducers_17 : decode cX1_countProducers 17 = .ok (.iaload, 1) := by decide +kernel
theorem dX1_countProducers_18 : decode cX1_countProducers 18 = .ok (.ifCond .ne 6, 3) := by decide +kernel
theorem dX1_countProducers_21 : decode cX1_countProducers 21 = .ok (.iinc 1 1, 3) := by decide +kernel
theorem dX1_countProducers_24 : decode cX1_countProducers 24 = .ok (.iinc 2 1, 3) := by decide +kernel
theorem dX1_countProducers_27 : decode cX1_countProducers 27 = .ok (.goto (-23), 3) := by decide +kernel
theorem dX1_countProducers_30 : decode cX1_countProducers 30 = .ok (.iload_n 1, 1) := by decide +kernel
theorem dX1_countProducers_31 : decode cX1_countProducers 31 = .ok (.ireturn, 1) := by decide +kernel
theorem dX1_move_0 : decode cX1_move 0 = .ok (.aload_n 0, 1) := by decide +kernel
theorem dX1_move_1 : decode cX1_move 1 = .ok (.getfield 9, 3) := by decide +kernel
theorem dX1_move_4 : decode cX1_move 4 = .ok (.iload_n 1, 1) := by decide +kernel
theorem dX1_move_5 : decode cX1_move 5 = .ok (.aload_n 0, 1) := by decide +kernel
theorem dX1_move_6 : decode cX1_move 6 = .ok (.getfield 9, 3) := by decide +kernel
theorem dX1_move_9 : decode cX1_move 9 = .ok (.iload_n 2, 1) := by decide +kernel
theorem dX1_move_10 : decode cX1_move 10 = .ok (.iload_n 3, 1) := by decide +kernel
theorem dX1_move_11 : decode cX1_move 11 = .ok (.invokestatic 76, 3) := by decide +kernel
theorem dX1_move_14 : decode cX1_move 14 = .ok (.aload_n 0, 1) := by decide +kernel
theorem dX1_move_15 : decode cX1_move 15 = .ok (.getfield 15, 3) := by decide +kernel
theorem dX1_move_18 : decode cX1_move 18 = .ok (.iload_n 1, 1) := by decide +kernel
theorem dX1_move_19 : decode cX1_move 19 = .ok (.aload_n 0, 1) := by decide +kernel
theorem dX1_move_20 : decode cX1_move 20 = .ok (.getfield 15, 3) := by decide +kernel
theorem dX1_move_23 : decode cX1_move 23 = .ok (.iload_n 2, 1) := by decide +kernel
theorem dX1_move_24 : decode cX1_move 24 = .ok (.iload_n 3, 1) := by decide +kernel
theorem dX1_move_25 : decode cX1_move 25 = .ok (.invokestatic 76, 3) := by decide +kernel
theorem dX1_move_28 : decode cX1_move 28 = .ok (.aload_n 0, 1) := by decide +kernel
theorem dX1_move_29 : decode cX1_move 29 = .ok (.getfield 19, 3) := by decide +kernel
theorem dX1_move_32 : decode cX1_move 32 = .ok (.iload_n 1, 1) := by decide +kernel
theorem dX1_move_33 : decode cX1_move 33 = .ok (.aload_n 0, 1) := by decide +kernel
theorem dX1_move_34 : decode cX1_move 34 = .ok (.getfield 19, 3) := by decide +kernel
theorem dX1_move_37 : decode cX1_move 37 = .ok (.iload_n 2, 1) := by decide +kernel
theorem dX1_move_38 : decode cX1_move 38 = .ok (.iload_n 3, 1) := by decide +kernel
theorem dX1_move_39 : decode cX1_move 39 = .ok (.invokestatic 76, 3) := by decide +kernel
theorem dX1_move_42 : decode cX1_move 42 = .ok (.aload_n 0, 1) := by decide +kernel
theorem dX1_move_43 : decode cX1_move 43 = .ok (.getfield 22, 3) := by decide +kernel
theorem dX1_move_46 : decode cX1_move 46 = .ok (.iload_n 1, 1) := by decide +kernel
theorem dX1_move_47 : decode cX1_move 47 = .ok (.aload_n 0, 1) := by decide +kernel
theorem dX1_move_48 : decode cX1_move 48 = .ok (.getfield 22, 3) := by decide +kernel
theorem dX1_move_51 : decode cX1_move 51 = .ok (.iload_n 2, 1) := by decide +kernel
theorem dX1_move_52 : decode cX1_move 52 = .ok (.iload_n 3, 1) := by decide +kernel
theorem dX1_move_53 : decode cX1_move 53 = .ok (.invokestatic 76, 3) := by decide +kernel
theorem dX1_move_56 : decode cX1_move 56 = .ok (.aload_n 0, 1) := by decide +kernel
theorem dX1_move_57 : decode cX1_move 57 = .ok (.getfield 25, 3) := by decide +kernel
theorem dX1_move_60 : decode cX1_move 60 = .ok (.iload_n 1, 1) := by decide +kernel
theorem dX1_move_61 : decode cX1_move 61 = .ok (.aload_n 0, 1) := by decide +kernel
theorem dX1_move_62 : decode cX1_move 62 = .ok (.getfield 25, 3) := by decide +kernel
theorem dX1_move_65 : decode cX1_move 65 = .ok (.iload_n 2, 1) := by decide +kernel
theorem dX1_move_66 : decode cX1_move 66 = .ok (.iload_n 3, 1) := by decide +kernel
theorem dX1_move_67 : decode cX1_move 67 = .ok (.invokestatic 76, 3) := by decide +kernel
theorem dX1_move_70 : decode cX1_move 70 = .ok (.aload_n 0, 1) := by decide +kernel
theorem dX1_move_71 : decode cX1_move 71 = .ok (.getfield 28, 3) := by decide +kernel
theorem dX1_move_74 : decode cX1_move 74 = .ok (.iload_n 1, 1) := by decide +kernel
theorem dX1_move_75 : decode cX1_move 75 = .ok (.aload_n 0, 1) := by decide +kernel
theorem dX1_move_76 : decode cX1_move 76 = .ok (.getfield 28, 3) := by decide +kernel
theorem dX1_move_79 : decode cX1_move 79 = .ok (.iload_n 2, 1) := by decide +kernel
theorem dX1_move_80 : decode cX1_move 80 = .ok (.iload_n 3, 1) := by decide +kernel
theorem dX1_move_81 : decode cX1_move 81 = .ok (.invokestatic 76, 3) := by decide +kernel
theorem dX1_move_84 : decode cX1_move 84 = .ok (.return_, 1) := by decide +kernel
