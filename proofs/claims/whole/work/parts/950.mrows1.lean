theorem dX12_init_0 : decode cX12_init 0 = .ok (.aload_n 0, 1) := by decide +kernel
theorem dX12_init_1 : decode cX12_init 1 = .ok (.invokespecial 1, 3) := by decide +kernel
theorem dX12_init_4 : decode cX12_init 4 = .ok (.aload_n 0, 1) := by decide +kernel
theorem dX12_init_5 : decode cX12_init 5 = .ok (.sipush 11160, 3) := by decide +kernel
theorem dX12_init_8 : decode cX12_init 8 = .ok (.newarray .int, 2) := by decide +kernel
theorem dX12_init_10 : decode cX12_init 10 = .ok (.putfield 7, 3) := by decide +kernel
theorem dX12_init_13 : decode cX12_init 13 = .ok (.aload_n 0, 1) := by decide +kernel
theorem dX12_init_14 : decode cX12_init 14 = .ok (.iconst 3, 1) := by decide +kernel
theorem dX12_init_15 : decode cX12_init 15 = .ok (.newarray .boolean, 2) := by decide +kernel
theorem dX12_init_17 : decode cX12_init 17 = .ok (.putfield 13, 3) := by decide +kernel
theorem dX12_init_20 : decode cX12_init 20 = .ok (.aload_n 0, 1) := by decide +kernel
theorem dX12_init_21 : decode cX12_init 21 = .ok (.sipush 304, 3) := by decide +kernel
theorem dX12_init_24 : decode cX12_init 24 = .ok (.newarray .int, 2) := by decide +kernel
theorem dX12_init_26 : decode cX12_init 26 = .ok (.putfield 17, 3) := by decide +kernel
theorem dX12_init_29 : decode cX12_init 29 = .ok (.aload_n 0, 1) := by decide +kernel
theorem dX12_init_30 : decode cX12_init 30 = .ok (.iconst 4, 1) := by decide +kernel
theorem dX12_init_31 : decode cX12_init 31 = .ok (.newarray .int, 2) := by decide +kernel
theorem dX12_init_33 : decode cX12_init 33 = .ok (.putfield 20, 3) := by decide +kernel
theorem dX12_init_36 : decode cX12_init 36 = .ok (.aload_n 0, 1) := by decide +kernel
theorem dX12_init_37 : decode cX12_init 37 = .ok (.bipush 8, 2) := by decide +kernel
theorem dX12_init_39 : decode cX12_init 39 = .ok (.newarray .int, 2) := by decide +kernel
theorem dX12_init_41 : decode cX12_init 41 = .ok (.putfield 23, 3) := by decide +kernel
theorem dX12_init_44 : decode cX12_init 44 = .ok (.aload_n 0, 1) := by decide +kernel
theorem dX12_init_45 : decode cX12_init 45 = .ok (.bipush 8, 2) := by decide +kernel
theorem dX12_init_47 : decode cX12_init 47 = .ok (.newarray .int, 2) := by decide +kernel
theorem dX12_init_49 : decode cX12_init 49 = .ok (.putfield 26, 3) := by decide +kernel
theorem dX12_init_52 : decode cX12_init 52 = .ok (.aload_n 0, 1) := by decide +kernel
theorem dX12_init_53 : decode cX12_init 53 = .ok (.bipush 12, 2) := by decide +kernel
theorem dX12_init_55 : decode cX12_init 55 = .ok (.newarray .int, 2) := by decide +kernel
theorem dX12_init_57 : decode cX12_init 57 = .ok (.putfield 29, 3) := by decide +kernel
theorem dX12_init_60 : decode cX12_init 60 = .ok (.aload_n 0, 1) := by decide +kernel
theorem dX12_init_61 : decode cX12_init 61 = .ok (.bipush 12, 2) := by decide +kernel
theorem dX12_init_63 : decode cX12_init 63 = .ok (.newarray .int, 2) := by decide +kernel
theorem dX12_init_65 : decode cX12_init 65 = .ok (.putfield 32, 3) := by decide +kernel
theorem dX12_init_68 : decode cX12_init 68 = .ok (.aload_n 0, 1) := by decide +kernel
theorem dX12_init_69 : decode cX12_init 69 = .ok (.bipush 12, 2) := by decide +kernel
theorem dX12_init_71 : decode cX12_init 71 = .ok (.newarray .int, 2) := by decide +kernel
theorem dX12_init_73 : decode cX12_init 73 = .ok (.putfield 35, 3) := by decide +kernel
theorem dX12_init_76 : decode cX12_init 76 = .ok (.aload_n 0, 1) := by decide +kernel
theorem dX12_init_77 : decode cX12_init 77 = .ok (.bipush 8, 2) := by decide +kernel
theorem dX12_init_79 : decode cX12_init 79 = .ok (.newarray .int, 2) := by decide +kernel
theorem dX12_init_81 : decode cX12_init 81 = .ok (.putfield 38, 3) := by decide +kernel
theorem dX12_init_84 : decode cX12_init 84 = .ok (.aload_n 0, 1) := by decide +kernel
theorem dX12_init_85 : decode cX12_init 85 = .ok (.getfield 7, 3) := by decide +kernel
theorem dX12_init_88 : decode cX12_init 88 = .ok (.bipush 14, 2) := by decide +kernel
theorem dX12_init_90 : decode cX12_init 90 = .ok (.iconst (-1), 1) := by decide +kernel
theorem dX12_init_91 : decode cX12_init 91 = .ok (.iastore, 1) := by decide +kernel
theorem dX12_init_92 : decode cX12_init 92 = .ok (.aload_n 0, 1) := by decide +kernel
theorem dX12_init_93 : decode cX12_init 93 = .ok (.getfield 7, 3) := by decide +kernel
theorem dX12_init_96 : decode cX12_init 96 = .ok (.bipush 8, 2) := by decide +kernel
theorem dX12_init_98 : decode cX12_init 98 = .ok (.bipush 100, 2) := by decide +kernel
theorem dX12_init_100 : decode cX12_init 100 = .ok (.iastore, 1) := by decide +kernel
theorem dX12_init_101 : decode cX12_init 101 = .ok (.aload_n 0, 1) := by decide +kernel
theorem dX12_init_102 : decode cX12_init 102 = .ok (.getfield 7, 3) := by decide +kernel
theorem dX12_init_105 : decode cX12_init 105 = .ok (.bipush 9, 2) := by decide +kernel
theorem dX12_init_107 : decode cX12_init 107 = .ok (.sipush 1000, 3) := by decide +kernel
theorem dX12_init_110 : decode cX12_init 110 = .ok (.iastore, 1) := by decide +kernel
theorem dX12_init_111 : decode cX12_init 111 = .ok (.aload_n 0, 1) := by decide +kernel
theorem dX12_init_112 : decode cX12_init 112 = .ok (.getfield 7, 3) := by decide +kernel
theorem dX12_init_115 : decode cX12_init 115 = .ok (.bipush 10, 2) := by decide +kernel
theorem dX12_init_117 : decode cX12_init 117 = .ok (.sipush 1000, 3) := by decide +kernel
theorem dX12_init_120 : decode cX12_init 120 = .ok (.iastore, 1) := by decide +kernel
theorem dX12_init_121 : decode cX12_init 121 = .ok (.aload_n 0, 1) := by decide +kernel
theorem dX12_init_122 : decode cX12_init 122 = .ok (.getfield 7, 3) := by decide +kernel
theorem dX12_init_125 : decode cX12_init 125 = .ok (.bipush 11, 2) := by decide +kernel
theorem dX12_init_127 : decode cX12_init 127 = .ok (.iconst 1, 1) := by decide +kernel
theorem dX12_init_128 : decode cX12_init 128 = .ok (.iastore, 1) := by decide +kernel
theorem dX12_init_129 : decode cX12_init 129 = .ok (.return_, 1) := by decide +kernel
theorem dX12_isIn_0 : decode cX12_isIn 0 = .ok (.iload_n 0, 1) := by decide +kernel
theorem dX12_isIn_1 : decode cX12_isIn 1 = .ok (.iload_n 1, 1) := by decide +kernel
theorem dX12_isIn_2 : decode cX12_isIn 2 = .ok (.if_icmp .lt 12, 3) := by decide +kernel
theorem dX12_isIn_5 : decode cX12_isIn 5 = .ok (.iload_n 0, 1) := by decide +kernel
theorem dX12_isIn_6 : decode cX12_isIn 6 = .ok (.iload_n 2, 1) := by decide +kernel
theorem dX12_isIn_7 : decode cX12_isIn 7 = .ok (.if_icmp .gt 7, 3) := by decide +kernel
theorem dX12_isIn_10 : decode cX12_isIn 10 = .ok (.iconst 1, 1) := by decide +kernel
theorem dX12_isIn_11 : decode cX12_isIn 11 = .ok (.goto 4, 3) := by decide +kernel
theorem dX12_isIn_14 : decode cX12_isIn 14 = .ok (.iconst 0, 1) := by decide +kernel
theorem dX12_isIn_15 : decode cX12_isIn 15 = .ok (.ireturn, 1) := by decide +kernel
theorem dX12_feed_0 : decode cX12_feed 0 = .ok (.aload_n 0, 1) := by decide +kernel
theorem dX12_feed_1 : decode cX12_feed 1 = .ok (.getfield 7, 3) := by decide +kernel
theorem dX12_feed_4 : decode cX12_feed 4 = .ok (.bipush 12, 2) := by decide +kernel
theorem dX12_feed_6 : decode cX12_feed 6 = .ok (.iaload, 1) := by decide +kernel
theorem dX12_feed_7 : decode cX12_feed 7 = .ok (.bipush 20, 2) := by decide +kernel
theorem dX12_feed_9 : decode cX12_feed 9 = .ok (.iadd, 1) := by decide +kernel
theorem dX12_feed_10 : decode cX12_feed 10 = .ok (.sipush 400, 3) := by decide +kernel
theorem dX12_feed_13 : decode cX12_feed 13 = .ok (.if_icmp .le 5, 3) := by decide +kernel
theorem dX12_feed_16 : decode cX12_feed 16 = .ok (.iconst (-1), 1) := by decide +kernel
theorem dX12_feed_17 : decode cX12_feed 17 = .ok (.ireturn, 1) := by decide +kernel
theorem dX12_feed_18 : decode cX12_feed 18 = .ok (.iconst 0, 1) := by decide +kernel
theorem dX12_feed_19 : decode cX12_feed 19 = .ok (.istore 6, 2) := by decide +kernel
theorem dX12_feed_21 : decode cX12_feed 21 = .ok (.iload 6, 2) := by decide +kernel
theorem dX12_feed_23 : decode cX12_feed 23 = .ok (.bipush 20, 2) := by decide +kernel
theorem dX12_feed_25 : decode cX12_feed 25 = .ok (.if_icmp .ge 101, 3) := by decide +kernel
theorem dX12_feed_28 : decode cX12_feed 28 = .ok (.iload 6, 2) := by decide +kernel
theorem dX12_feed_30 : decode cX12_feed 30 = .ok (.iconst 4, 1) := by decide +kernel
theorem dX12_feed_31 : decode cX12_feed 31 = .ok (.if_icmp .ge 7, 3) := by decide +kernel
theorem dX12_feed_34 : decode cX12_feed 34 = .ok (.iload_n 1, 1) := by decide +kernel
theorem dX12_feed_35 : decode cX12_feed 35 = .ok (.goto 39, 3) := by decide +kernel
theorem dX12_feed_38 : decode cX12_feed 38 = .ok (.iload 6, 2) := by decide +kernel
theorem dX12_feed_40 : decode cX12_feed 40 = .ok (.bipush 8, 2) := by decide +kernel
theorem dX12_feed_42 : decode cX12_feed 42 = .ok (.if_icmp .ge 7, 3) := by decide +kernel
theorem dX12_feed_45 : decode cX12_feed 45 = .ok (.iload_n 2, 1) := by decide +kernel
theorem dX12_feed_46 : decode cX12_feed 46 = .ok (.goto 28, 3) := by decide +kernel
theorem dX12_feed_49 : decode cX12_feed 49 = .ok (.iload 6, 2) := by decide +kernel
theorem dX12_feed_51 : decode cX12_feed 51 = .ok (.bipush 12, 2) := by decide +kernel
theorem dX12_feed_53 : decode cX12_feed 53 = .ok (.if_icmp .ge 7, 3) := by decide +kernel
theorem dX12_feed_56 : decode cX12_feed 56 = .ok (.iload_n 3, 1) := by decide +kernel
theorem dX12_feed_57 : decode cX12_feed 57 = .ok (.goto 17, 3) := by decide +kernel
theorem dX12_feed_60 : decode cX12_feed 60 = .ok (.iload 6, 2) := by decide +kernel
theorem dX12_feed_62 : decode cX12_feed 62 = .ok (.bipush 16, 2) := by decide +kernel
theorem dX12_feed_64 : decode cX12_feed 64 = .ok (.if_icmp .ge 8, 3) := by decide +kernel
theorem dX12_feed_67 : decode cX12_feed 67 = .ok (.iload 4, 2) := by decide +kernel
theorem dX12_feed_69 : decode cX12_feed 69 = .ok (.goto 5, 3) := by decide +kernel
theorem dX12_feed_72 : decode cX12_feed 72 = .ok (.iload 5, 2) := by decide +kernel
theorem dX12_feed_74 : decode cX12_feed 74 = .ok (.istore 7, 2) := by decide +kernel
theorem dX12_feed_76 : decode cX12_feed 76 = .ok (.aload_n 0, 1) := by decide +kernel
theorem dX12_feed_77 : decode cX12_feed 77 = .ok (.getfield 7, 3) := by decide +kernel
theorem dX12_feed_80 : decode cX12_feed 80 = .ok (.sipush 2390, 3) := by decide +kernel
theorem dX12_feed_83 : decode cX12_feed 83 = .ok (.aload_n 0, 1) := by decide +kernel
theorem dX12_feed_84 : decode cX12_feed 84 = .ok (.getfield 7, 3) := by decide +kernel
theorem dX12_feed_87 : decode cX12_feed 87 = .ok (.bipush 12, 2) := by decide +kernel
theorem dX12_feed_89 : decode cX12_feed 89 = .ok (.iaload, 1) := by decide +kernel
theorem dX12_feed_90 : decode cX12_feed 90 = .ok (.iadd, 1) := by decide +kernel
theorem dX12_feed_91 : decode cX12_feed 91 = .ok (.iload 7, 2) := by decide +kernel
theorem dX12_feed_93 : decode cX12_feed 93 = .ok (.bipush 24, 2) := by decide +kernel
theorem dX12_feed_95 : decode cX12_feed 95 = .ok (.bipush 8, 2) := by decide +kernel
theorem dX12_feed_97 : decode cX12_feed 97 = .ok (.iload 6, 2) := by decide +kernel
theorem dX12_feed_99 : decode cX12_feed 99 = .ok (.iconst 4, 1) := by decide +kernel
theorem dX12_feed_100 : decode cX12_feed 100 = .ok (.irem, 1) := by decide +kernel
theorem dX12_feed_101 : decode cX12_feed 101 = .ok (.imul, 1) := by decide +kernel
theorem dX12_feed_102 : decode cX12_feed 102 = .ok (.isub, 1) := by decide +kernel
theorem dX12_feed_103 : decode cX12_feed 103 = .ok (.ishr, 1) := by decide +kernel
theorem dX12_feed_104 : decode cX12_feed 104 = .ok (.sipush 255, 3) := by decide +kernel
theorem dX12_feed_107 : decode cX12_feed 107 = .ok (.iand, 1) := by decide +kernel
theorem dX12_feed_108 : decode cX12_feed 108 = .ok (.iastore, 1) := by decide +kernel
theorem dX12_feed_109 : decode cX12_feed 109 = .ok (.aload_n 0, 1) := by decide +kernel
theorem dX12_feed_110 : decode cX12_feed 110 = .ok (.getfield 7, 3) := by decide +kernel
theorem dX12_feed_113 : decode cX12_feed 113 = .ok (.bipush 12, 2) := by decide +kernel
theorem dX12_feed_115 : decode cX12_feed 115 = .ok (.dup2, 1) := by decide +kernel
theorem dX12_feed_116 : decode cX12_feed 116 = .ok (.iaload, 1) := by decide +kernel
theorem dX12_feed_117 : decode cX12_feed 117 = .ok (.iconst 1, 1) := by decide +kernel
theorem dX12_feed_118 : decode cX12_feed 118 = .ok (.iadd, 1) := by decide +kernel
theorem dX12_feed_119 : decode cX12_feed 119 = .ok (.iastore, 1) := by decide +kernel
theorem dX12_feed_120 : decode cX12_feed 120 = .ok (.iinc 6 1, 3) := by decide +kernel
theorem dX12_feed_123 : decode cX12_feed 123 = .ok (.goto (-102), 3) := by decide +kernel
theorem dX12_feed_126 : decode cX12_feed 126 = .ok (.aload_n 0, 1) := by decide +kernel
theorem dX12_feed_127 : decode cX12_feed 127 = .ok (.getfield 7, 3) := by decide +kernel
theorem dX12_feed_130 : decode cX12_feed 130 = .ok (.bipush 12, 2) := by decide +kernel
theorem dX12_feed_132 : decode cX12_feed 132 = .ok (.iaload, 1) := by decide +kernel
theorem dX12_feed_133 : decode cX12_feed 133 = .ok (.ireturn, 1) := by decide +kernel
theorem dX12_end_0 : decode cX12_end 0 = .ok (.iload_n 1, 1) := by decide +kernel
theorem dX12_end_1 : decode cX12_end 1 = .ok (.ifCond .lt 14, 3) := by decide +kernel
theorem dX12_end_4 : decode cX12_end 4 = .ok (.iload_n 1, 1) := by decide +kernel
theorem dX12_end_5 : decode cX12_end 5 = .ok (.aload_n 0, 1) := by decide +kernel
theorem dX12_end_6 : decode cX12_end 6 = .ok (.getfield 7, 3) := by decide +kernel
theorem dX12_end_9 : decode cX12_end 9 = .ok (.bipush 12, 2) := by decide +kernel
theorem dX12_end_11 : decode cX12_end 11 = .ok (.iaload, 1) := by decide +kernel
theorem dX12_end_12 : decode cX12_end 12 = .ok (.if_icmp .le 5, 3) := by decide +kernel
theorem dX12_end_15 : decode cX12_end 15 = .ok (.iconst (-1), 1) := by decide +kernel
theorem dX12_end_16 : decode cX12_end 16 = .ok (.ireturn, 1) := by decide +kernel
theorem dX12_end_17 : decode cX12_end 17 = .ok (.aload_n 0, 1) := by decide +kernel
theorem dX12_end_18 : decode cX12_end 18 = .ok (.getfield 7, 3) := by decide +kernel
theorem dX12_end_21 : decode cX12_end 21 = .ok (.bipush 12, 2) := by decide +kernel
theorem dX12_end_23 : decode cX12_end 23 = .ok (.iload_n 1, 1) := by decide +kernel
theorem dX12_end_24 : decode cX12_end 24 = .ok (.iastore, 1) := by decide +kernel
theorem dX12_end_25 : decode cX12_end 25 = .ok (.iload_n 1, 1) := by decide +kernel
theorem dX12_end_26 : decode cX12_end 26 = .ok (.ireturn, 1) := by decide +kernel
theorem dX12_byteAt_0 : decode cX12_byteAt 0 = .ok (.iload_n 1, 1) := by decide +kernel
theorem dX12_byteAt_1 : decode cX12_byteAt 1 = .ok (.aload_n 0, 1) := by decide +kernel
theorem dX12_byteAt_2 : decode cX12_byteAt 2 = .ok (.getfield 41, 3) := by decide +kernel
theorem dX12_byteAt_5 : decode cX12_byteAt 5 = .ok (.if_icmp .ge 16, 3) := by decide +kernel
theorem dX12_byteAt_8 : decode cX12_byteAt 8 = .ok (.aload_n 0, 1) := by decide +kernel
theorem dX12_byteAt_9 : decode cX12_byteAt 9 = .ok (.getfield 7, 3) := by decide +kernel
theorem dX12_byteAt_12 : decode cX12_byteAt 12 = .ok (.sipush 2390, 3) := by decide +kernel
theorem dX12_byteAt_15 : decode cX12_byteAt 15 = .ok (.iload_n 1, 1) := by decide +kernel
theorem dX12_byteAt_16 : decode cX12_byteAt 16 = .ok (.iadd, 1) := by decide +kernel
theorem dX12_byteAt_17 : decode cX12_byteAt 17 = .ok (.iaload, 1) := by decide +kernel
theorem dX12_byteAt_18 : decode cX12_byteAt 18 = .ok (.goto 4, 3) := by decide +kernel
theorem dX12_byteAt_21 : decode cX12_byteAt 21 = .ok (.iconst (-1), 1) := by decide +kernel
theorem dX12_byteAt_22 : decode cX12_byteAt 22 = .ok (.ireturn, 1) := by decide +kernel
theorem dX12_isLetter_0 : decode cX12_isLetter 0 = .ok (.iload_n 0, 1) := by decide +kernel
theorem dX12_isLetter_1 : decode cX12_isLetter 1 = .ok (.bipush 97, 2) := by decide +kernel
theorem dX12_isLetter_3 : decode cX12_isLetter 3 = .ok (.if_icmp .lt 13, 3) := by decide +kernel
theorem dX12_isLetter_6 : decode cX12_isLetter 6 = .ok (.iload_n 0, 1) := by decide +kernel
theorem dX12_isLetter_7 : decode cX12_isLetter 7 = .ok (.bipush 122, 2) := by decide +kernel
theorem dX12_isLetter_9 : decode cX12_isLetter 9 = .ok (.if_icmp .gt 7, 3) := by decide +kernel
theorem dX12_isLetter_12 : decode cX12_isLetter 12 = .ok (.iconst 1, 1) := by decide +kernel
theorem dX12_isLetter_13 : decode cX12_isLetter 13 = .ok (.goto 4, 3) := by decide +kernel
theorem dX12_isLetter_16 : decode cX12_isLetter 16 = .ok (.iconst 0, 1) := by decide +kernel
theorem dX12_isLetter_17 : decode cX12_isLetter 17 = .ok (.ireturn, 1) := by decide +kernel
theorem dX12_isDigit_0 : decode cX12_isDigit 0 = .ok (.iload_n 0, 1) := by decide +kernel
theorem dX12_isDigit_1 : decode cX12_isDigit 1 = .ok (.bipush 48, 2) := by decide +kernel
theorem dX12_isDigit_3 : decode cX12_isDigit 3 = .ok (.if_icmp .lt 13, 3) := by decide +kernel
theorem dX12_isDigit_6 : decode cX12_isDigit 6 = .ok (.iload_n 0, 1) := by decide +kernel
theorem dX12_isDigit_7 : decode cX12_isDigit 7 = .ok (.bipush 57, 2) := by decide +kernel
theorem dX12_isDigit_9 : decode cX12_isDigit 9 = .ok (.if_icmp .gt 7, 3) := by decide +kernel
theorem dX12_isDigit_12 : decode cX12_isDigit 12 = .ok (.iconst 1, 1) := by decide +kernel
theorem dX12_isDigit_13 : decode cX12_isDigit 13 = .ok (.goto 4, 3) := by decide +kernel
theorem dX12_isDigit_16 : decode cX12_isDigit 16 = .ok (.iconst 0, 1) := by decide +kernel
theorem dX12_isDigit_17 : decode cX12_isDigit 17 = .ok (.ireturn, 1) := by decide +kernel
theorem dX12_three_0 : decode cX12_three 0 = .ok (.ldc2_w 45, 3) := by decide +kernel
theorem dX12_three_3 : decode cX12_three 3 = .ok (.iload_n 0, 1) := by decide +kernel
theorem dX12_three_4 : decode cX12_three 4 = .ok (.bipush 96, 2) := by decide +kernel
theorem dX12_three_6 : decode cX12_three 6 = .ok (.isub, 1) := by decide +kernel
theorem dX12_three_7 : decode cX12_three 7 = .ok (.i2l, 1) := by decide +kernel
theorem dX12_three_8 : decode cX12_three 8 = .ok (.lmul, 1) := by decide +kernel
theorem dX12_three_9 : decode cX12_three 9 = .ok (.iload_n 1, 1) := by decide +kernel
theorem dX12_three_10 : decode cX12_three 10 = .ok (.i2l, 1) := by decide +kernel
theorem dX12_three_11 : decode cX12_three 11 = .ok (.ladd, 1) := by decide +kernel
theorem dX12_three_12 : decode cX12_three 12 = .ok (.ldc2_w 47, 3) := by decide +kernel
theorem dX12_three_15 : decode cX12_three 15 = .ok (.lsub, 1) := by decide +kernel
theorem dX12_three_16 : decode cX12_three 16 = .ok (.ldc2_w 45, 3) := by decide +kernel
theorem dX12_three_19 : decode cX12_three 19 = .ok (.lmul, 1) := by decide +kernel
theorem dX12_three_20 : decode cX12_three 20 = .ok (.iload_n 2, 1) := by decide +kernel
theorem dX12_three_21 : decode cX12_three 21 = .ok (.i2l, 1) := by decide +kernel
theorem dX12_three_22 : decode cX12_three 22 = .ok (.ladd, 1) := by decide +kernel
theorem dX12_three_23 : decode cX12_three 23 = .ok (.ldc2_w 47, 3) := by decide +kernel
theorem dX12_three_26 : decode cX12_three 26 = .ok (.lsub, 1) := by decide +kernel
theorem dX12_three_27 : decode cX12_three 27 = .ok (.lreturn, 1) := by decide +kernel
set_option maxRecDepth 20000 in
theorem ggX12_four_X12_three : GoodIn wsX12_four wsX12_three := goodIn_r _ [6, 1, 2] (by decide +kernel) (by decide +kernel)
set_option maxRecDepth 20000 in
theorem gX12_four_X12_three : GoodIn wsX12_four (va_wsS RX12 49 yX12_three wsX12_three) := goodIn_app (goodIn_of _ (by decide +kernel)) ggX12_four_X12_three
theorem dX12_four_0 : decode cX12_four 0 = .ok (.iload_n 0, 1) := by decide +kernel
theorem dX12_four_1 : decode cX12_four 1 = .ok (.iload_n 1, 1) := by decide +kernel
theorem dX12_four_2 : decode cX12_four 2 = .ok (.iload_n 2, 1) := by decide +kernel
theorem dX12_four_3 : decode cX12_four 3 = .ok (.invokestatic 49, 3) := by decide +kernel
theorem dX12_four_6 : decode cX12_four 6 = .ok (.ldc2_w 45, 3) := by decide +kernel
theorem dX12_four_9 : decode cX12_four 9 = .ok (.lmul, 1) := by decide +kernel
theorem dX12_four_10 : decode cX12_four 10 = .ok (.iload_n 3, 1) := by decide +kernel
theorem dX12_four_11 : decode cX12_four 11 = .ok (.i2l, 1) := by decide +kernel
theorem dX12_four_12 : decode cX12_four 12 = .ok (.ladd, 1) := by decide +kernel
theorem dX12_four_13 : decode cX12_four 13 = .ok (.ldc2_w 47, 3) := by decide +kernel
theorem dX12_four_16 : decode cX12_four 16 = .ok (.lsub, 1) := by decide +kernel
theorem dX12_four_17 : decode cX12_four 17 = .ok (.lreturn, 1) := by decide +kernel
set_option maxRecDepth 20000 in
theorem ggX12_wordOf_X12_four : GoodIn wsX12_wordOf wsX12_four := goodIn_r _ [10, 1, 3, 11, 12, 9, 13] (by decide +kernel) (by decide +kernel)
set_option maxRecDepth 20000 in
theorem gX12_wordOf_X12_four : GoodIn wsX12_wordOf (va_wsS RX12 53 yX12_four wsX12_four) := goodIn_app (goodIn_of _ (by decide +kernel)) ggX12_wordOf_X12_four
set_option maxRecDepth 20000 in
theorem ggX12_wordOf_X12_three : GoodIn wsX12_wordOf wsX12_three := goodIn_r _ [13, 1, 3] (by decide +kernel) (by decide +kernel)
set_option maxRecDepth 20000 in
theorem gX12_wordOf_X12_three : GoodIn wsX12_wordOf (va_wsS RX12 49 yX12_three wsX12_three) := goodIn_app (goodIn_of _ (by decide +kernel)) ggX12_wordOf_X12_three
theorem dX12_wordOf_0 : decode cX12_wordOf 0 = .ok (.lload_n 0, 1) := by decide +kernel
theorem dX12_wordOf_1 : decode cX12_wordOf 1 = .ok (.bipush 119, 2) := by decide +kernel
theorem dX12_wordOf_3 : decode cX12_wordOf 3 = .ok (.bipush 105, 2) := by decide +kernel
theorem dX12_wordOf_5 : decode cX12_wordOf 5 = .ok (.bipush 100, 2) := by decide +kernel
theorem dX12_wordOf_7 : decode cX12_wordOf 7 = .ok (.bipush 111, 2) := by decide +kernel
theorem dX12_wordOf_9 : decode cX12_wordOf 9 = .ok (.invokestatic 53, 3) := by decide +kernel
theorem dX12_wordOf_12 : decode cX12_wordOf 12 = .ok (.ldc2_w 45, 3) := by decide +kernel
theorem dX12_wordOf_15 : decode cX12_wordOf 15 = .ok (.lmul, 1) := by decide +kernel
theorem dX12_wordOf_16 : decode cX12_wordOf 16 = .ok (.ldc2_w 57, 3) := by decide +kernel
theorem dX12_wordOf_19 : decode cX12_wordOf 19 = .ok (.ladd, 1) := by decide +kernel
theorem dX12_wordOf_20 : decode cX12_wordOf 20 = .ok (.ldc2_w 47, 3) := by decide +kernel
theorem dX12_wordOf_23 : decode cX12_wordOf 23 = .ok (.lsub, 1) := by decide +kernel
theorem dX12_wordOf_24 : decode cX12_wordOf 24 = .ok (.lcmp, 1) := by decide +kernel
theorem dX12_wordOf_25 : decode cX12_wordOf 25 = .ok (.ifCond .ne 5, 3) := by decide +kernel
theorem dX12_wordOf_28 : decode cX12_wordOf 28 = .ok (.iconst 1, 1) := by decide +kernel
theorem dX12_wordOf_29 : decode cX12_wordOf 29 = .ok (.ireturn, 1) := by decide +kernel
theorem dX12_wordOf_30 : decode cX12_wordOf 30 = .ok (.lload_n 0, 1) := by decide +kernel
theorem dX12_wordOf_31 : decode cX12_wordOf 31 = .ok (.bipush 114, 2) := by decide +kernel
theorem dX12_wordOf_33 : decode cX12_wordOf 33 = .ok (.bipush 97, 2) := by decide +kernel
theorem dX12_wordOf_35 : decode cX12_wordOf 35 = .ok (.bipush 110, 2) := by decide +kernel
theorem dX12_wordOf_37 : decode cX12_wordOf 37 = .ok (.bipush 107, 2) := by decide +kernel
theorem dX12_wordOf_39 : decode cX12_wordOf 39 = .ok (.invokestatic 53, 3) := by decide +kernel
theorem dX12_wordOf_42 : decode cX12_wordOf 42 = .ok (.lcmp, 1) := by decide +kernel
theorem dX12_wordOf_43 : decode cX12_wordOf 43 = .ok (.ifCond .ne 5, 3) := by decide +kernel
theorem dX12_wordOf_46 : decode cX12_wordOf 46 = .ok (.iconst 2, 1) := by decide +kernel
theorem dX12_wordOf_47 : decode cX12_wordOf 47 = .ok (.ireturn, 1) := by decide +kernel
theorem dX12_wordOf_48 : decode cX12_wordOf 48 = .ok (.lload_n 0, 1) := by decide +kernel
theorem dX12_wordOf_49 : decode cX12_wordOf 49 = .ok (.bipush 121, 2) := by decide +kernel
theorem dX12_wordOf_51 : decode cX12_wordOf 51 = .ok (.bipush 101, 2) := by decide +kernel
theorem dX12_wordOf_53 : decode cX12_wordOf 53 = .ok (.bipush 97, 2) := by decide +kernel
theorem dX12_wordOf_55 : decode cX12_wordOf 55 = .ok (.bipush 114, 2) := by decide +kernel
theorem dX12_wordOf_57 : decode cX12_wordOf 57 = .ok (.invokestatic 53, 3) := by decide +kernel
theorem dX12_wordOf_60 : decode cX12_wordOf 60 = .ok (.lcmp, 1) := by decide +kernel
theorem dX12_wordOf_61 : decode cX12_wordOf 61 = .ok (.ifCond .ne 5, 3) := by decide +kernel
theorem dX12_wordOf_64 : decode cX12_wordOf 64 = .ok (.iconst 3, 1) := by decide +kernel
theorem dX12_wordOf_65 : decode cX12_wordOf 65 = .ok (.ireturn, 1) := by decide +kernel
theorem dX12_wordOf_66 : decode cX12_wordOf 66 = .ok (.lload_n 0, 1) := by decide +kernel
theorem dX12_wordOf_67 : decode cX12_wordOf 67 = .ok (.bipush 115, 2) := by decide +kernel
theorem dX12_wordOf_69 : decode cX12_wordOf 69 = .ok (.bipush 108, 2) := by decide +kernel
theorem dX12_wordOf_71 : decode cX12_wordOf 71 = .ok (.bipush 105, 2) := by decide +kernel
theorem dX12_wordOf_73 : decode cX12_wordOf 73 = .ok (.bipush 112, 2) := by decide +kernel
theorem dX12_wordOf_75 : decode cX12_wordOf 75 = .ok (.invokestatic 53, 3) := by decide +kernel
theorem dX12_wordOf_78 : decode cX12_wordOf 78 = .ok (.ldc2_w 45, 3) := by decide +kernel
theorem dX12_wordOf_81 : decode cX12_wordOf 81 = .ok (.lmul, 1) := by decide +kernel
theorem dX12_wordOf_82 : decode cX12_wordOf 82 = .ok (.ldc2_w 59, 3) := by decide +kernel
theorem dX12_wordOf_85 : decode cX12_wordOf 85 = .ok (.ladd, 1) := by decide +kernel
theorem dX12_wordOf_86 : decode cX12_wordOf 86 = .ok (.ldc2_w 47, 3) := by decide +kernel
theorem dX12_wordOf_89 : decode cX12_wordOf 89 = .ok (.lsub, 1) := by decide +kernel
theorem dX12_wordOf_90 : decode cX12_wordOf 90 = .ok (.lcmp, 1) := by decide +kernel
theorem dX12_wordOf_91 : decode cX12_wordOf 91 = .ok (.ifCond .ne 5, 3) := by decide +kernel
theorem dX12_wordOf_94 : decode cX12_wordOf 94 = .ok (.iconst 4, 1) := by decide +kernel
theorem dX12_wordOf_95 : decode cX12_wordOf 95 = .ok (.ireturn, 1) := by decide +kernel
theorem dX12_wordOf_96 : decode cX12_wordOf 96 = .ok (.lload_n 0, 1) := by decide +kernel
theorem dX12_wordOf_97 : decode cX12_wordOf 97 = .ok (.bipush 108, 2) := by decide +kernel
theorem dX12_wordOf_99 : decode cX12_wordOf 99 = .ok (.bipush 111, 2) := by decide +kernel
theorem dX12_wordOf_101 : decode cX12_wordOf 101 = .ok (.bipush 115, 2) := by decide +kernel
theorem dX12_wordOf_103 : decode cX12_wordOf 103 = .ok (.bipush 116, 2) := by decide +kernel
theorem dX12_wordOf_105 : decode cX12_wordOf 105 = .ok (.invokestatic 53, 3) := by decide +kernel
theorem dX12_wordOf_108 : decode cX12_wordOf 108 = .ok (.lcmp, 1) := by decide +kernel
theorem dX12_wordOf_109 : decode cX12_wordOf 109 = .ok (.ifCond .ne 5, 3) := by decide +kernel
theorem dX12_wordOf_112 : decode cX12_wordOf 112 = .ok (.iconst 5, 1) := by decide +kernel
theorem dX12_wordOf_113 : decode cX12_wordOf 113 = .ok (.ireturn, 1) := by decide +kernel
theorem dX12_wordOf_114 : decode cX12_wordOf 114 = .ok (.lload_n 0, 1) := by decide +kernel
theorem dX12_wordOf_115 : decode cX12_wordOf 115 = .ok (.bipush 115, 2) := by decide +kernel
theorem dX12_wordOf_117 : decode cX12_wordOf 117 = .ok (.bipush 104, 2) := by decide +kernel
theorem dX12_wordOf_119 : decode cX12_wordOf 119 = .ok (.bipush 97, 2) := by decide +kernel
theorem dX12_wordOf_121 : decode cX12_wordOf 121 = .ok (.bipush 114, 2) := by decide +kernel
theorem dX12_wordOf_123 : decode cX12_wordOf 123 = .ok (.invokestatic 53, 3) := by decide +kernel
theorem dX12_wordOf_126 : decode cX12_wordOf 126 = .ok (.ldc2_w 45, 3) := by decide +kernel
theorem dX12_wordOf_129 : decode cX12_wordOf 129 = .ok (.lmul, 1) := by decide +kernel
theorem dX12_wordOf_130 : decode cX12_wordOf 130 = .ok (.ldc2_w 61, 3) := by decide +kernel
theorem dX12_wordOf_133 : decode cX12_wordOf 133 = .ok (.ladd, 1) := by decide +kernel
theorem dX12_wordOf_134 : decode cX12_wordOf 134 = .ok (.ldc2_w 47, 3) := by decide +kernel
theorem dX12_wordOf_137 : decode cX12_wordOf 137 = .ok (.lsub, 1) := by decide +kernel
theorem dX12_wordOf_138 : decode cX12_wordOf 138 = .ok (.lcmp, 1) := by decide +kernel
theorem dX12_wordOf_139 : decode cX12_wordOf 139 = .ok (.ifCond .ne 6, 3) := by decide +kernel
theorem dX12_wordOf_142 : decode cX12_wordOf 142 = .ok (.bipush 20, 2) := by decide +kernel
theorem dX12_wordOf_144 : decode cX12_wordOf 144 = .ok (.ireturn, 1) := by decide +kernel
theorem dX12_wordOf_145 : decode cX12_wordOf 145 = .ok (.lload_n 0, 1) := by decide +kernel
theorem dX12_wordOf_146 : decode cX12_wordOf 146 = .ok (.bipush 112, 2) := by decide +kernel
theorem dX12_wordOf_148 : decode cX12_wordOf 148 = .ok (.bipush 108, 2) := by decide +kernel
theorem dX12_wordOf_150 : decode cX12_wordOf 150 = .ok (.bipush 117, 2) := by decide +kernel
theorem dX12_wordOf_152 : decode cX12_wordOf 152 = .ok (.bipush 115, 2) := by decide +kernel
theorem dX12_wordOf_154 : decode cX12_wordOf 154 = .ok (.invokestatic 53, 3) := by decide +kernel
theorem dX12_wordOf_157 : decode cX12_wordOf 157 = .ok (.lcmp, 1) := by decide +kernel
theorem dX12_wordOf_158 : decode cX12_wordOf 158 = .ok (.ifCond .ne 6, 3) := by decide +kernel
theorem dX12_wordOf_161 : decode cX12_wordOf 161 = .ok (.bipush 21, 2) := by decide +kernel
theorem dX12_wordOf_163 : decode cX12_wordOf 163 = .ok (.ireturn, 1) := by decide +kernel
theorem dX12_wordOf_164 : decode cX12_wordOf 164 = .ok (.lload_n 0, 1) := by decide +kernel
theorem dX12_wordOf_165 : decode cX12_wordOf 165 = .ok (.bipush 110, 2) := by decide +kernel
theorem dX12_wordOf_167 : decode cX12_wordOf 167 = .ok (.bipush 111, 2) := by decide +kernel
theorem dX12_wordOf_169 : decode cX12_wordOf 169 = .ok (.bipush 110, 2) := by decide +kernel
theorem dX12_wordOf_171 : decode cX12_wordOf 171 = .ok (.bipush 101, 2) := by decide +kernel
theorem dX12_wordOf_173 : decode cX12_wordOf 173 = .ok (.invokestatic 53, 3) := by decide +kernel
theorem dX12_wordOf_176 : decode cX12_wordOf 176 = .ok (.lcmp, 1) := by decide +kernel
theorem dX12_wordOf_177 : decode cX12_wordOf 177 = .ok (.ifCond .ne 6, 3) := by decide +kernel
theorem dX12_wordOf_180 : decode cX12_wordOf 180 = .ok (.bipush 22, 2) := by decide +kernel
theorem dX12_wordOf_182 : decode cX12_wordOf 182 = .ok (.ireturn, 1) := by decide +kernel
theorem dX12_wordOf_183 : decode cX12_wordOf 183 = .ok (.lload_n 0, 1) := by decide +kernel
theorem dX12_wordOf_184 : decode cX12_wordOf 184 = .ok (.ldc2_w 63, 3) := by decide +kernel
theorem dX12_wordOf_187 : decode cX12_wordOf 187 = .ok (.lcmp, 1) := by decide +kernel
theorem dX12_wordOf_188 : decode cX12_wordOf 188 = .ok (.ifCond .ne 6, 3) := by decide +kernel
theorem dX12_wordOf_191 : decode cX12_wordOf 191 = .ok (.bipush 30, 2) := by decide +kernel
theorem dX12_wordOf_193 : decode cX12_wordOf 193 = .ok (.ireturn, 1) := by decide +kernel
theorem dX12_wordOf_194 : decode cX12_wordOf 194 = .ok (.lload_n 0, 1) := by decide +kernel
theorem dX12_wordOf_195 : decode cX12_wordOf 195 = .ok (.bipush 97, 2) := by decide +kernel
theorem dX12_wordOf_197 : decode cX12_wordOf 197 = .ok (.bipush 110, 2) := by decide +kernel
theorem dX12_wordOf_199 : decode cX12_wordOf 199 = .ok (.bipush 100, 2) := by decide +kernel
theorem dX12_wordOf_201 : decode cX12_wordOf 201 = .ok (.invokestatic 49, 3) := by decide +kernel
theorem dX12_wordOf_204 : decode cX12_wordOf 204 = .ok (.lcmp, 1) := by decide +kernel
theorem dX12_wordOf_205 : decode cX12_wordOf 205 = .ok (.ifCond .ne 6, 3) := by decide +kernel
theorem dX12_wordOf_208 : decode cX12_wordOf 208 = .ok (.bipush 31, 2) := by decide +kernel
theorem dX12_wordOf_210 : decode cX12_wordOf 210 = .ok (.ireturn, 1) := by decide +kernel
theorem dX12_wordOf_211 : decode cX12_wordOf 211 = .ok (.lload_n 0, 1) := by decide +kernel
theorem dX12_wordOf_212 : decode cX12_wordOf 212 = .ok (.bipush 110, 2) := by decide +kernel
theorem dX12_wordOf_214 : decode cX12_wordOf 214 = .ok (.bipush 111, 2) := by decide +kernel
theorem dX12_wordOf_216 : decode cX12_wordOf 216 = .ok (.bipush 116, 2) := by decide +kernel
theorem dX12_wordOf_218 : decode cX12_wordOf 218 = .ok (.invokestatic 49, 3) := by decide +kernel
theorem dX12_wordOf_221 : decode cX12_wordOf 221 = .ok (.lcmp, 1) := by decide +kernel
theorem dX12_wordOf_222 : decode cX12_wordOf 222 = .ok (.ifCond .ne 6, 3) := by decide +kernel
theorem dX12_wordOf_225 : decode cX12_wordOf 225 = .ok (.bipush 32, 2) := by decide +kernel
theorem dX12_wordOf_227 : decode cX12_wordOf 227 = .ok (.ireturn, 1) := by decide +kernel
theorem dX12_wordOf_228 : decode cX12_wordOf 228 = .ok (.bipush 99, 2) := by decide +kernel
theorem dX12_wordOf_230 : decode cX12_wordOf 230 = .ok (.ireturn, 1) := by decide +kernel
theorem dX12_isSignByte_0 : decode cX12_isSignByte 0 = .ok (.iload_n 0, 1) := by decide +kernel
theorem dX12_isSignByte_1 : decode cX12_isSignByte 1 = .ok (.bipush 58, 2) := by decide +kernel
theorem dX12_isSignByte_3 : decode cX12_isSignByte 3 = .ok (.if_icmp .eq 27, 3) := by decide +kernel
theorem dX12_isSignByte_6 : decode cX12_isSignByte 6 = .ok (.iload_n 0, 1) := by decide +kernel
theorem dX12_isSignByte_7 : decode cX12_isSignByte 7 = .ok (.bipush 59, 2) := by decide +kernel
theorem dX12_isSignByte_9 : decode cX12_isSignByte 9 = .ok (.if_icmp .eq 21, 3) := by decide +kernel
theorem dX12_isSignByte_12 : decode cX12_isSignByte 12 = .ok (.iload_n 0, 1) := by decide +kernel
theorem dX12_isSignByte_13 : decode cX12_isSignByte 13 = .ok (.bipush 60, 2) := by decide +kernel
theorem dX12_isSignByte_15 : decode cX12_isSignByte 15 = .ok (.if_icmp .eq 15, 3) := by decide +kernel
theorem dX12_isSignByte_18 : decode cX12_isSignByte 18 = .ok (.iload_n 0, 1) := by decide +kernel
theorem dX12_isSignByte_19 : decode cX12_isSignByte 19 = .ok (.bipush 62, 2) := by decide +kernel
theorem dX12_isSignByte_21 : decode cX12_isSignByte 21 = .ok (.if_icmp .eq 9, 3) := by decide +kernel
theorem dX12_isSignByte_24 : decode cX12_isSignByte 24 = .ok (.iload_n 0, 1) := by decide +kernel
theorem dX12_isSignByte_25 : decode cX12_isSignByte 25 = .ok (.bipush 61, 2) := by decide +kernel
theorem dX12_isSignByte_27 : decode cX12_isSignByte 27 = .ok (.if_icmp .ne 7, 3) := by decide +kernel
theorem dX12_isSignByte_30 : decode cX12_isSignByte 30 = .ok (.iconst 1, 1) := by decide +kernel
theorem dX12_isSignByte_31 : decode cX12_isSignByte 31 = .ok (.goto 4, 3) := by decide +kernel
theorem dX12_isSignByte_34 : decode cX12_isSignByte 34 = .ok (.iconst 0, 1) := by decide +kernel
theorem dX12_isSignByte_35 : decode cX12_isSignByte 35 = .ok (.ireturn, 1) := by decide +kernel
set_option maxRecDepth 20000 in
theorem ggX12_advance_X12_byteAt : GoodIn wsX12_advance wsX12_byteAt := goodIn_r _ [13, 14, 15, 38, 39, 40, 41, 42, 43, 44, 45, 46, 47, 48, 49, 50, 51, 52, 53, 54, 55, 56, 57, 58] (by decide +kernel) (by decide +kernel)
set_option maxRecDepth 20000 in
theorem gX12_advance_X12_byteAt : GoodIn wsX12_advance (wsV RX12 68 RX12 yX12_byteAt wsX12_byteAt) := goodIn_app (goodIn_of _ (by decide +kernel)) ggX12_advance_X12_byteAt
set_option maxRecDepth 20000 in
theorem ggX12_advance_X12_isLetter : GoodIn wsX12_advance wsX12_isLetter := goodIn_r _ [18] (by decide +kernel) (by decide +kernel)
set_option maxRecDepth 20000 in
theorem gX12_advance_X12_isLetter : GoodIn wsX12_advance (va_wsS RX12 78 yX12_isLetter wsX12_isLetter) := goodIn_app (goodIn_of _ (by decide +kernel)) ggX12_advance_X12_isLetter
set_option maxRecDepth 20000 in
theorem ggX12_advance_X12_wordOf : GoodIn wsX12_advance wsX12_wordOf := goodIn_r _ [21, 4, 22, 5, 23, 24, 25, 26, 27, 12, 28, 29, 30, 31] (by decide +kernel) (by decide +kernel)
set_option maxRecDepth 20000 in
theorem gX12_advance_X12_wordOf : GoodIn wsX12_advance (va_wsS RX12 82 yX12_wordOf wsX12_wordOf) := goodIn_app (goodIn_of _ (by decide +kernel)) ggX12_advance_X12_wordOf
set_option maxRecDepth 20000 in
theorem ggX12_advance_X12_isDigit : GoodIn wsX12_advance wsX12_isDigit := goodIn_r _ [34] (by decide +kernel) (by decide +kernel)
set_option maxRecDepth 20000 in
theorem gX12_advance_X12_isDigit : GoodIn wsX12_advance (va_wsS RX12 89 yX12_isDigit wsX12_isDigit) := goodIn_app (goodIn_of _ (by decide +kernel)) ggX12_advance_X12_isDigit
set_option maxRecDepth 20000 in
theorem ggX12_advance_X12_isSignByte : GoodIn wsX12_advance wsX12_isSignByte := goodIn_r _ [37] (by decide +kernel) (by decide +kernel)
set_option maxRecDepth 20000 in
theorem gX12_advance_X12_isSignByte : GoodIn wsX12_advance (va_wsS RX12 98 yX12_isSignByte wsX12_isSignByte) := goodIn_app (goodIn_of _ (by decide +kernel)) ggX12_advance_X12_isSignByte
theorem dX12_advance_0 : decode cX12_advance 0 = .ok (.aload_n 0, 1) := by decide +kernel
theorem dX12_advance_1 : decode cX12_advance 1 = .ok (.aload_n 0, 1) := by decide +kernel
theorem dX12_advance_2 : decode cX12_advance 2 = .ok (.getfield 65, 3) := by decide +kernel
theorem dX12_advance_5 : decode cX12_advance 5 = .ok (.invokevirtual 68, 3) := by decide +kernel
theorem dX12_advance_8 : decode cX12_advance 8 = .ok (.bipush 10, 2) := by decide +kernel
theorem dX12_advance_10 : decode cX12_advance 10 = .ok (.if_icmp .eq 16, 3) := by decide +kernel
theorem dX12_advance_13 : decode cX12_advance 13 = .ok (.aload_n 0, 1) := by decide +kernel
theorem dX12_advance_14 : decode cX12_advance 14 = .ok (.aload_n 0, 1) := by decide +kernel
theorem dX12_advance_15 : decode cX12_advance 15 = .ok (.getfield 65, 3) := by decide +kernel
theorem dX12_advance_18 : decode cX12_advance 18 = .ok (.invokevirtual 68, 3) := by decide +kernel
theorem dX12_advance_21 : decode cX12_advance 21 = .ok (.bipush 32, 2) := by decide +kernel
theorem dX12_advance_23 : decode cX12_advance 23 = .ok (.if_icmp .ne 16, 3) := by decide +kernel
theorem dX12_advance_26 : decode cX12_advance 26 = .ok (.aload_n 0, 1) := by decide +kernel
theorem dX12_advance_27 : decode cX12_advance 27 = .ok (.dup, 1) := by decide +kernel
theorem dX12_advance_28 : decode cX12_advance 28 = .ok (.getfield 65, 3) := by decide +kernel
theorem dX12_advance_31 : decode cX12_advance 31 = .ok (.iconst 1, 1) := by decide +kernel
theorem dX12_advance_32 : decode cX12_advance 32 = .ok (.iadd, 1) := by decide +kernel
theorem dX12_advance_33 : decode cX12_advance 33 = .ok (.putfield 65, 3) := by decide +kernel
theorem dX12_advance_36 : decode cX12_advance 36 = .ok (.goto (-36), 3) := by decide +kernel
theorem dX12_advance_39 : decode cX12_advance 39 = .ok (.aload_n 0, 1) := by decide +kernel
theorem dX12_advance_40 : decode cX12_advance 40 = .ok (.aload_n 0, 1) := by decide +kernel
theorem dX12_advance_41 : decode cX12_advance 41 = .ok (.getfield 65, 3) := by decide +kernel
theorem dX12_advance_44 : decode cX12_advance 44 = .ok (.putfield 72, 3) := by decide +kernel
theorem dX12_advance_47 : decode cX12_advance 47 = .ok (.aload_n 0, 1) := by decide +kernel
theorem dX12_advance_48 : decode cX12_advance 48 = .ok (.aload_n 0, 1) := by decide +kernel
theorem dX12_advance_49 : decode cX12_advance 49 = .ok (.getfield 65, 3) := by decide +kernel
theorem dX12_advance_52 : decode cX12_advance 52 = .ok (.invokevirtual 68, 3) := by decide +kernel
theorem dX12_advance_55 : decode cX12_advance 55 = .ok (.istore_n 1, 1) := by decide +kernel
theorem dX12_advance_56 : decode cX12_advance 56 = .ok (.iload_n 1, 1) := by decide +kernel
theorem dX12_advance_57 : decode cX12_advance 57 = .ok (.ifCond .ge 11, 3) := by decide +kernel
theorem dX12_advance_60 : decode cX12_advance 60 = .ok (.aload_n 0, 1) := by decide +kernel
theorem dX12_advance_61 : decode cX12_advance 61 = .ok (.iconst 0, 1) := by decide +kernel
theorem dX12_advance_62 : decode cX12_advance 62 = .ok (.putfield 75, 3) := by decide +kernel
theorem dX12_advance_65 : decode cX12_advance 65 = .ok (.goto 251, 3) := by decide +kernel
theorem dX12_advance_68 : decode cX12_advance 68 = .ok (.iload_n 1, 1) := by decide +kernel
theorem dX12_advance_69 : decode cX12_advance 69 = .ok (.invokestatic 78, 3) := by decide +kernel
theorem dX12_advance_72 : decode cX12_advance 72 = .ok (.ifCond .eq 113, 3) := by decide +kernel
theorem dX12_advance_75 : decode cX12_advance 75 = .ok (.lconst 0, 1) := by decide +kernel
theorem dX12_advance_76 : decode cX12_advance 76 = .ok (.lstore_n 2, 1) := by decide +kernel
theorem dX12_advance_77 : decode cX12_advance 77 = .ok (.aload_n 0, 1) := by decide +kernel
theorem dX12_advance_78 : decode cX12_advance 78 = .ok (.aload_n 0, 1) := by decide +kernel
theorem dX12_advance_79 : decode cX12_advance 79 = .ok (.getfield 65, 3) := by decide +kernel
theorem dX12_advance_82 : decode cX12_advance 82 = .ok (.invokevirtual 68, 3) := by decide +kernel
theorem dX12_advance_85 : decode cX12_advance 85 = .ok (.invokestatic 78, 3) := by decide +kernel
theorem dX12_advance_88 : decode cX12_advance 88 = .ok (.ifCond .eq 50, 3) := by decide +kernel
theorem dX12_advance_91 : decode cX12_advance 91 = .ok (.aload_n 0, 1) := by decide +kernel
theorem dX12_advance_92 : decode cX12_advance 92 = .ok (.getfield 65, 3) := by decide +kernel
theorem dX12_advance_95 : decode cX12_advance 95 = .ok (.aload_n 0, 1) := by decide +kernel
theorem dX12_advance_96 : decode cX12_advance 96 = .ok (.getfield 72, 3) := by decide +kernel
theorem dX12_advance_99 : decode cX12_advance 99 = .ok (.isub, 1) := by decide +kernel
theorem dX12_advance_100 : decode cX12_advance 100 = .ok (.bipush 6, 2) := by decide +kernel
theorem dX12_advance_102 : decode cX12_advance 102 = .ok (.if_icmp .ge 23, 3) := by decide +kernel
theorem dX12_advance_105 : decode cX12_advance 105 = .ok (.ldc2_w 45, 3) := by decide +kernel
theorem dX12_advance_108 : decode cX12_advance 108 = .ok (.lload_n 2, 1) := by decide +kernel
theorem dX12_advance_109 : decode cX12_advance 109 = .ok (.lmul, 1) := by decide +kernel
theorem dX12_advance_110 : decode cX12_advance 110 = .ok (.aload_n 0, 1) := by decide +kernel
theorem dX12_advance_111 : decode cX12_advance 111 = .ok (.aload_n 0, 1) := by decide +kernel
theorem dX12_advance_112 : decode cX12_advance 112 = .ok (.getfield 65, 3) := by decide +kernel
theorem dX12_advance_115 : decode cX12_advance 115 = .ok (.invokevirtual 68, 3) := by decide +kernel
theorem dX12_advance_118 : decode cX12_advance 118 = .ok (.i2l, 1) := by decide +kernel
theorem dX12_advance_119 : decode cX12_advance 119 = .ok (.ladd, 1) := by decide +kernel
theorem dX12_advance_120 : decode cX12_advance 120 = .ok (.ldc2_w 47, 3) := by decide +kernel
theorem dX12_advance_123 : decode cX12_advance 123 = .ok (.lsub, 1) := by decide +kernel
theorem dX12_advance_124 : decode cX12_advance 124 = .ok (.lstore_n 2, 1) := by decide +kernel
theorem dX12_advance_125 : decode cX12_advance 125 = .ok (.aload_n 0, 1) := by decide +kernel
theorem dX12_advance_126 : decode cX12_advance 126 = .ok (.dup, 1) := by decide +kernel
theorem dX12_advance_127 : decode cX12_advance 127 = .ok (.getfield 65, 3) := by decide +kernel
theorem dX12_advance_130 : decode cX12_advance 130 = .ok (.iconst 1, 1) := by decide +kernel
theorem dX12_advance_131 : decode cX12_advance 131 = .ok (.iadd, 1) := by decide +kernel
theorem dX12_advance_132 : decode cX12_advance 132 = .ok (.putfield 65, 3) := by decide +kernel
theorem dX12_advance_135 : decode cX12_advance 135 = .ok (.goto (-58), 3) := by decide +kernel
theorem dX12_advance_138 : decode cX12_advance 138 = .ok (.aload_n 0, 1) := by decide +kernel
theorem dX12_advance_139 : decode cX12_advance 139 = .ok (.aload_n 0, 1) := by decide +kernel
theorem dX12_advance_140 : decode cX12_advance 140 = .ok (.getfield 65, 3) := by decide +kernel
theorem dX12_advance_143 : decode cX12_advance 143 = .ok (.aload_n 0, 1) := by decide +kernel
theorem dX12_advance_144 : decode cX12_advance 144 = .ok (.getfield 72, 3) := by decide +kernel
theorem dX12_advance_147 : decode cX12_advance 147 = .ok (.isub, 1) := by decide +kernel
theorem dX12_advance_148 : decode cX12_advance 148 = .ok (.iconst 5, 1) := by decide +kernel
theorem dX12_advance_149 : decode cX12_advance 149 = .ok (.if_icmp .le 8, 3) := by decide +kernel
theorem dX12_advance_152 : decode cX12_advance 152 = .ok (.bipush 99, 2) := by decide +kernel
theorem dX12_advance_154 : decode cX12_advance 154 = .ok (.goto 7, 3) := by decide +kernel
theorem dX12_advance_157 : decode cX12_advance 157 = .ok (.lload_n 2, 1) := by decide +kernel
theorem dX12_advance_158 : decode cX12_advance 158 = .ok (.invokestatic 82, 3) := by decide +kernel
theorem dX12_advance_161 : decode cX12_advance 161 = .ok (.putfield 86, 3) := by decide +kernel
theorem dX12_advance_164 : decode cX12_advance 164 = .ok (.aload_n 0, 1) := by decide +kernel
theorem dX12_advance_165 : decode cX12_advance 165 = .ok (.aload_n 0, 1) := by decide +kernel
theorem dX12_advance_166 : decode cX12_advance 166 = .ok (.getfield 86, 3) := by decide +kernel
theorem dX12_advance_169 : decode cX12_advance 169 = .ok (.bipush 99, 2) := by decide +kernel
theorem dX12_advance_171 : decode cX12_advance 171 = .ok (.if_icmp .ne 7, 3) := by decide +kernel
theorem dX12_advance_174 : decode cX12_advance 174 = .ok (.iconst 4, 1) := by decide +kernel
theorem dX12_advance_175 : decode cX12_advance 175 = .ok (.goto 4, 3) := by decide +kernel
theorem dX12_advance_178 : decode cX12_advance 178 = .ok (.iconst 3, 1) := by decide +kernel
theorem dX12_advance_179 : decode cX12_advance 179 = .ok (.putfield 75, 3) := by decide +kernel
theorem dX12_advance_182 : decode cX12_advance 182 = .ok (.goto 134, 3) := by decide +kernel
theorem dX12_advance_185 : decode cX12_advance 185 = .ok (.iload_n 1, 1) := by decide +kernel
theorem dX12_advance_186 : decode cX12_advance 186 = .ok (.invokestatic 89, 3) := by decide +kernel
theorem dX12_advance_189 : decode cX12_advance 189 = .ok (.ifCond .eq 96, 3) := by decide +kernel
theorem dX12_advance_192 : decode cX12_advance 192 = .ok (.aload_n 0, 1) := by decide +kernel
theorem dX12_advance_193 : decode cX12_advance 193 = .ok (.iconst 0, 1) := by decide +kernel
theorem dX12_advance_194 : decode cX12_advance 194 = .ok (.putfield 92, 3) := by decide +kernel
theorem dX12_advance_197 : decode cX12_advance 197 = .ok (.aload_n 0, 1) := by decide +kernel
theorem dX12_advance_198 : decode cX12_advance 198 = .ok (.aload_n 0, 1) := by decide +kernel
theorem dX12_advance_199 : decode cX12_advance 199 = .ok (.getfield 65, 3) := by decide +kernel
theorem dX12_advance_202 : decode cX12_advance 202 = .ok (.invokevirtual 68, 3) := by decide +kernel
theorem dX12_advance_205 : decode cX12_advance 205 = .ok (.invokestatic 89, 3) := by decide +kernel
theorem dX12_advance_208 : decode cX12_advance 208 = .ok (.ifCond .eq 52, 3) := by decide +kernel
theorem dX12_advance_211 : decode cX12_advance 211 = .ok (.aload_n 0, 1) := by decide +kernel
theorem dX12_advance_212 : decode cX12_advance 212 = .ok (.getfield 65, 3) := by decide +kernel
theorem dX12_advance_215 : decode cX12_advance 215 = .ok (.aload_n 0, 1) := by decide +kernel
theorem dX12_advance_216 : decode cX12_advance 216 = .ok (.getfield 72, 3) := by decide +kernel
theorem dX12_advance_219 : decode cX12_advance 219 = .ok (.isub, 1) := by decide +kernel
theorem dX12_advance_220 : decode cX12_advance 220 = .ok (.iconst 3, 1) := by decide +kernel
theorem dX12_advance_221 : decode cX12_advance 221 = .ok (.if_icmp .ge 26, 3) := by decide +kernel
theorem dX12_advance_224 : decode cX12_advance 224 = .ok (.aload_n 0, 1) := by decide +kernel
theorem dX12_advance_225 : decode cX12_advance 225 = .ok (.bipush 10, 2) := by decide +kernel
theorem dX12_advance_227 : decode cX12_advance 227 = .ok (.aload_n 0, 1) := by decide +kernel
theorem dX12_advance_228 : decode cX12_advance 228 = .ok (.getfield 92, 3) := by decide +kernel
theorem dX12_advance_231 : decode cX12_advance 231 = .ok (.imul, 1) := by decide +kernel
theorem dX12_advance_232 : decode cX12_advance 232 = .ok (.aload_n 0, 1) := by decide +kernel
theorem dX12_advance_233 : decode cX12_advance 233 = .ok (.aload_n 0, 1) := by decide +kernel
theorem dX12_advance_234 : decode cX12_advance 234 = .ok (.getfield 65, 3) := by decide +kernel
theorem dX12_advance_237 : decode cX12_advance 237 = .ok (.invokevirtual 68, 3) := by decide +kernel
theorem dX12_advance_240 : decode cX12_advance 240 = .ok (.iadd, 1) := by decide +kernel
theorem dX12_advance_241 : decode cX12_advance 241 = .ok (.bipush 48, 2) := by decide +kernel
theorem dX12_advance_243 : decode cX12_advance 243 = .ok (.isub, 1) := by decide +kernel
theorem dX12_advance_244 : decode cX12_advance 244 = .ok (.putfield 92, 3) := by decide +kernel
theorem dX12_advance_247 : decode cX12_advance 247 = .ok (.aload_n 0, 1) := by decide +kernel
theorem dX12_advance_248 : decode cX12_advance 248 = .ok (.dup, 1) := by decide +kernel
theorem dX12_advance_249 : decode cX12_advance 249 = .ok (.getfield 65, 3) := by decide +kernel
theorem dX12_advance_252 : decode cX12_advance 252 = .ok (.iconst 1, 1) := by decide +kernel
theorem dX12_advance_253 : decode cX12_advance 253 = .ok (.iadd, 1) := by decide +kernel
theorem dX12_advance_254 : decode cX12_advance 254 = .ok (.putfield 65, 3) := by decide +kernel
theorem dX12_advance_257 : decode cX12_advance 257 = .ok (.goto (-60), 3) := by decide +kernel
theorem dX12_advance_260 : decode cX12_advance 260 = .ok (.aload_n 0, 1) := by decide +kernel
theorem dX12_advance_261 : decode cX12_advance 261 = .ok (.aload_n 0, 1) := by decide +kernel
theorem dX12_advance_262 : decode cX12_advance 262 = .ok (.getfield 65, 3) := by decide +kernel
theorem dX12_advance_265 : decode cX12_advance 265 = .ok (.aload_n 0, 1) := by decide +kernel
theorem dX12_advance_266 : decode cX12_advance 266 = .ok (.getfield 72, 3) := by decide +kernel
theorem dX12_advance_269 : decode cX12_advance 269 = .ok (.isub, 1) := by decide +kernel
theorem dX12_advance_270 : decode cX12_advance 270 = .ok (.iconst 3, 1) := by decide +kernel
theorem dX12_advance_271 : decode cX12_advance 271 = .ok (.if_icmp .le 7, 3) := by decide +kernel
theorem dX12_advance_274 : decode cX12_advance 274 = .ok (.iconst 4, 1) := by decide +kernel
theorem dX12_advance_275 : decode cX12_advance 275 = .ok (.goto 4, 3) := by decide +kernel
theorem dX12_advance_278 : decode cX12_advance 278 = .ok (.iconst 1, 1) := by decide +kernel
theorem dX12_advance_279 : decode cX12_advance 279 = .ok (.putfield 75, 3) := by decide +kernel
theorem dX12_advance_282 : decode cX12_advance 282 = .ok (.goto 34, 3) := by decide +kernel
theorem dX12_advance_285 : decode cX12_advance 285 = .ok (.aload_n 0, 1) := by decide +kernel
theorem dX12_advance_286 : decode cX12_advance 286 = .ok (.dup, 1) := by decide +kernel
theorem dX12_advance_287 : decode cX12_advance 287 = .ok (.getfield 65, 3) := by decide +kernel
theorem dX12_advance_290 : decode cX12_advance 290 = .ok (.iconst 1, 1) := by decide +kernel
theorem dX12_advance_291 : decode cX12_advance 291 = .ok (.iadd, 1) := by decide +kernel
theorem dX12_advance_292 : decode cX12_advance 292 = .ok (.putfield 65, 3) := by decide +kernel
theorem dX12_advance_295 : decode cX12_advance 295 = .ok (.aload_n 0, 1) := by decide +kernel
theorem dX12_advance_296 : decode cX12_advance 296 = .ok (.iload_n 1, 1) := by decide +kernel
theorem dX12_advance_297 : decode cX12_advance 297 = .ok (.putfield 95, 3) := by decide +kernel
theorem dX12_advance_300 : decode cX12_advance 300 = .ok (.aload_n 0, 1) := by decide +kernel
theorem dX12_advance_301 : decode cX12_advance 301 = .ok (.iload_n 1, 1) := by decide +kernel
theorem dX12_advance_302 : decode cX12_advance 302 = .ok (.invokestatic 98, 3) := by decide +kernel
theorem dX12_advance_305 : decode cX12_advance 305 = .ok (.ifCond .eq 7, 3) := by decide +kernel
theorem dX12_advance_308 : decode cX12_advance 308 = .ok (.iconst 2, 1) := by decide +kernel
theorem dX12_advance_309 : decode cX12_advance 309 = .ok (.goto 4, 3) := by decide +kernel
theorem dX12_advance_312 : decode cX12_advance 312 = .ok (.iconst 4, 1) := by decide +kernel
theorem dX12_advance_313 : decode cX12_advance 313 = .ok (.putfield 75, 3) := by decide +kernel
theorem dX12_advance_316 : decode cX12_advance 316 = .ok (.return_, 1) := by decide +kernel
theorem dX12_stops_0 : decode cX12_stops 0 = .ok (.aload_n 0, 1) := by decide +kernel
theorem dX12_stops_1 : decode cX12_stops 1 = .ok (.getfield 101, 3) := by decide +kernel
theorem dX12_stops_4 : decode cX12_stops 4 = .ok (.ifCond .eq 4, 3) := by decide +kernel
theorem dX12_stops_7 : decode cX12_stops 7 = .ok (.return_, 1) := by decide +kernel
theorem dX12_stops_8 : decode cX12_stops 8 = .ok (.aload_n 0, 1) := by decide +kernel
theorem dX12_stops_9 : decode cX12_stops 9 = .ok (.iconst 1, 1) := by decide +kernel
theorem dX12_stops_10 : decode cX12_stops 10 = .ok (.putfield 101, 3) := by decide +kernel
theorem dX12_stops_13 : decode cX12_stops 13 = .ok (.aload_n 0, 1) := by decide +kernel
theorem dX12_stops_14 : decode cX12_stops 14 = .ok (.getfield 7, 3) := by decide +kernel
theorem dX12_stops_17 : decode cX12_stops 17 = .ok (.bipush 13, 2) := by decide +kernel
theorem dX12_stops_19 : decode cX12_stops 19 = .ok (.iconst 1, 1) := by decide +kernel
theorem dX12_stops_20 : decode cX12_stops 20 = .ok (.iastore, 1) := by decide +kernel
theorem dX12_stops_21 : decode cX12_stops 21 = .ok (.aload_n 0, 1) := by decide +kernel
theorem dX12_stops_22 : decode cX12_stops 22 = .ok (.getfield 7, 3) := by decide +kernel
theorem dX12_stops_25 : decode cX12_stops 25 = .ok (.bipush 14, 2) := by decide +kernel
theorem dX12_stops_27 : decode cX12_stops 27 = .ok (.aload_n 0, 1) := by decide +kernel
theorem dX12_stops_28 : decode cX12_stops 28 = .ok (.getfield 72, 3) := by decide +kernel
theorem dX12_stops_31 : decode cX12_stops 31 = .ok (.iastore, 1) := by decide +kernel
theorem dX12_stops_32 : decode cX12_stops 32 = .ok (.return_, 1) := by decide +kernel
theorem dX12_tooMany_0 : decode cX12_tooMany 0 = .ok (.aload_n 0, 1) := by decide +kernel
theorem dX12_tooMany_1 : decode cX12_tooMany 1 = .ok (.getfield 101, 3) := by decide +kernel
theorem dX12_tooMany_4 : decode cX12_tooMany 4 = .ok (.ifCond .ne 13, 3) := by decide +kernel
theorem dX12_tooMany_7 : decode cX12_tooMany 7 = .ok (.aload_n 0, 1) := by decide +kernel
theorem dX12_tooMany_8 : decode cX12_tooMany 8 = .ok (.getfield 7, 3) := by decide +kernel
theorem dX12_tooMany_11 : decode cX12_tooMany 11 = .ok (.bipush 13, 2) := by decide +kernel
theorem dX12_tooMany_13 : decode cX12_tooMany 13 = .ok (.iaload, 1) := by decide +kernel
theorem dX12_tooMany_14 : decode cX12_tooMany 14 = .ok (.ifCond .eq 4, 3) := by decide +kernel
theorem dX12_tooMany_17 : decode cX12_tooMany 17 = .ok (.return_, 1) := by decide +kernel
theorem dX12_tooMany_18 : decode cX12_tooMany 18 = .ok (.aload_n 0, 1) := by decide +kernel
theorem dX12_tooMany_19 : decode cX12_tooMany 19 = .ok (.getfield 7, 3) := by decide +kernel
theorem dX12_tooMany_22 : decode cX12_tooMany 22 = .ok (.bipush 13, 2) := by decide +kernel
theorem dX12_tooMany_24 : decode cX12_tooMany 24 = .ok (.iconst 3, 1) := by decide +kernel
theorem dX12_tooMany_25 : decode cX12_tooMany 25 = .ok (.iastore, 1) := by decide +kernel
theorem dX12_tooMany_26 : decode cX12_tooMany 26 = .ok (.aload_n 0, 1) := by decide +kernel
theorem dX12_tooMany_27 : decode cX12_tooMany 27 = .ok (.getfield 7, 3) := by decide +kernel
theorem dX12_tooMany_30 : decode cX12_tooMany 30 = .ok (.bipush 14, 2) := by decide +kernel
theorem dX12_tooMany_32 : decode cX12_tooMany 32 = .ok (.aload_n 0, 1) := by decide +kernel
theorem dX12_tooMany_33 : decode cX12_tooMany 33 = .ok (.getfield 72, 3) := by decide +kernel
theorem dX12_tooMany_36 : decode cX12_tooMany 36 = .ok (.iastore, 1) := by decide +kernel
theorem dX12_tooMany_37 : decode cX12_tooMany 37 = .ok (.return_, 1) := by decide +kernel
set_option maxRecDepth 20000 in
theorem ggX12_takes_X12_advance : GoodIn wsX12_takes wsX12_advance := goodIn_r _ [8, 9, 10, 2, 11, 12, 3, 13, 14, 15, 16, 17, 7, 18, 19, 20, 21, 22, 23, 24, 25, 26, 27, 28, 29, 30, 31, 32, 33, 34, 35, 36, 37, 38, 39, 40, 41, 42, 43, 44, 45, 46, 47, 48, 49, 50, 51, 52, 53, 54, 55, 56, 57, 58, 59, 60, 61, 62, 63] (by decide +kernel) (by decide +kernel)
set_option maxRecDepth 20000 in
theorem gX12_takes_X12_advance : GoodIn wsX12_takes (wsV RX12 105 RX12 yX12_advance wsX12_advance) := goodIn_app (goodIn_of _ (by decide +kernel)) ggX12_takes_X12_advance
theorem dX12_takes_0 : decode cX12_takes 0 = .ok (.aload_n 0, 1) := by decide +kernel
theorem dX12_takes_1 : decode cX12_takes 1 = .ok (.getfield 101, 3) := by decide +kernel
theorem dX12_takes_4 : decode cX12_takes 4 = .ok (.ifCond .ne 19, 3) := by decide +kernel
theorem dX12_takes_7 : decode cX12_takes 7 = .ok (.aload_n 0, 1) := by decide +kernel
theorem dX12_takes_8 : decode cX12_takes 8 = .ok (.getfield 75, 3) := by decide +kernel
theorem dX12_takes_11 : decode cX12_takes 11 = .ok (.iconst 3, 1) := by decide +kernel
theorem dX12_takes_12 : decode cX12_takes 12 = .ok (.if_icmp .ne 11, 3) := by decide +kernel
theorem dX12_takes_15 : decode cX12_takes 15 = .ok (.aload_n 0, 1) := by decide +kernel
theorem dX12_takes_16 : decode cX12_takes 16 = .ok (.getfield 86, 3) := by decide +kernel
theorem dX12_takes_19 : decode cX12_takes 19 = .ok (.iload_n 1, 1) := by decide +kernel
theorem dX12_takes_20 : decode cX12_takes 20 = .ok (.if_icmp .eq 5, 3) := by decide +kernel
theorem dX12_takes_23 : decode cX12_takes 23 = .ok (.iconst 0, 1) := by decide +kernel
theorem dX12_takes_24 : decode cX12_takes 24 = .ok (.ireturn, 1) := by decide +kernel
theorem dX12_takes_25 : decode cX12_takes 25 = .ok (.aload_n 0, 1) := by decide +kernel
theorem dX12_takes_26 : decode cX12_takes 26 = .ok (.invokevirtual 105, 3) := by decide +kernel
theorem dX12_takes_29 : decode cX12_takes 29 = .ok (.iconst 1, 1) := by decide +kernel
theorem dX12_takes_30 : decode cX12_takes 30 = .ok (.ireturn, 1) := by decide +kernel
set_option maxRecDepth 20000 in
theorem ggX12_must_X12_advance : GoodIn wsX12_must wsX12_advance := goodIn_r _ [8, 9, 10, 2, 11, 12, 13, 14, 3, 15, 16, 17, 7, 18, 19, 20, 21, 22, 23, 24, 25, 26, 27, 28, 29, 30, 31, 32, 33, 34, 35, 36, 37, 38, 39, 40, 41, 42, 47, 48, 49, 50, 51, 52, 53, 54, 55, 56, 57, 58, 59, 60, 61, 62, 63, 64, 65, 66, 67] (by decide +kernel) (by decide +kernel)
set_option maxRecDepth 20000 in
theorem gX12_must_X12_advance : GoodIn wsX12_must (wsV RX12 105 RX12 yX12_advance wsX12_advance) := goodIn_app (goodIn_of _ (by decide +kernel)) ggX12_must_X12_advance
set_option maxRecDepth 20000 in
theorem ggX12_must_X12_stops : GoodIn wsX12_must wsX12_stops := goodIn_r _ [46, 1, 20, 10, 47, 48, 49, 50, 51, 52, 53, 54, 55, 56, 57, 58, 59, 60, 61, 62, 63, 64, 65, 66, 67] (by decide +kernel) (by decide +kernel)
set_option maxRecDepth 20000 in
theorem gX12_must_X12_stops : GoodIn wsX12_must (wsV RX12 108 RX12 yX12_stops wsX12_stops) := goodIn_app (goodIn_of _ (by decide +kernel)) ggX12_must_X12_stops
theorem dX12_must_0 : decode cX12_must 0 = .ok (.aload_n 0, 1) := by decide +kernel
theorem dX12_must_1 : decode cX12_must 1 = .ok (.getfield 101, 3) := by decide +kernel
theorem dX12_must_4 : decode cX12_must 4 = .ok (.ifCond .ne 26, 3) := by decide +kernel
theorem dX12_must_7 : decode cX12_must 7 = .ok (.aload_n 0, 1) := by decide +kernel
theorem dX12_must_8 : decode cX12_must 8 = .ok (.getfield 75, 3) := by decide +kernel
theorem dX12_must_11 : decode cX12_must 11 = .ok (.iconst 2, 1) := by decide +kernel
theorem dX12_must_12 : decode cX12_must 12 = .ok (.if_icmp .ne 18, 3) := by decide +kernel
theorem dX12_must_15 : decode cX12_must 15 = .ok (.aload_n 0, 1) := by decide +kernel
theorem dX12_must_16 : decode cX12_must 16 = .ok (.getfield 95, 3) := by decide +kernel
theorem dX12_must_19 : decode cX12_must 19 = .ok (.iload_n 1, 1) := by decide +kernel
theorem dX12_must_20 : decode cX12_must 20 = .ok (.if_icmp .ne 10, 3) := by decide +kernel
theorem dX12_must_23 : decode cX12_must 23 = .ok (.aload_n 0, 1) := by decide +kernel
theorem dX12_must_24 : decode cX12_must 24 = .ok (.invokevirtual 105, 3) := by decide +kernel
theorem dX12_must_27 : decode cX12_must 27 = .ok (.goto 7, 3) := by decide +kernel
theorem dX12_must_30 : decode cX12_must 30 = .ok (.aload_n 0, 1) := by decide +kernel
theorem dX12_must_31 : decode cX12_must 31 = .ok (.invokevirtual 108, 3) := by decide +kernel
theorem dX12_must_34 : decode cX12_must 34 = .ok (.return_, 1) := by decide +kernel
set_option maxRecDepth 20000 in
theorem ggX12_numbered_X12_advance : GoodIn wsX12_numbered wsX12_advance := goodIn_r _ [8, 9, 10, 3, 11, 12, 13, 1, 14, 15, 16, 17, 7, 18, 19, 20, 21, 22, 23, 24, 25, 26, 27, 28, 29, 30, 31, 32, 33, 34, 35, 36, 37, 38, 39, 40, 41, 42, 47, 48, 49, 50, 51, 52, 53, 54, 55, 56, 57, 58, 59, 60, 61, 62, 63, 64, 65, 66, 67] (by decide +kernel) (by decide +kernel)
set_option maxRecDepth 20000 in
theorem gX12_numbered_X12_advance : GoodIn wsX12_numbered (wsV RX12 105 RX12 yX12_advance wsX12_advance) := goodIn_app (goodIn_of _ (by decide +kernel)) ggX12_numbered_X12_advance
set_option maxRecDepth 20000 in
theorem ggX12_numbered_X12_stops : GoodIn wsX12_numbered wsX12_stops := goodIn_r _ [46, 2, 20, 10, 47, 48, 49, 50, 51, 52, 53, 54, 55, 56, 57, 58, 59, 60, 61, 62, 63, 64, 65, 66, 67] (by decide +kernel) (by decide +kernel)
set_option maxRecDepth 20000 in
theorem gX12_numbered_X12_stops : GoodIn wsX12_numbered (wsV RX12 108 RX12 yX12_stops wsX12_stops) := goodIn_app (goodIn_of _ (by decide +kernel)) ggX12_numbered_X12_stops
theorem dX12_numbered_0 : decode cX12_numbered 0 = .ok (.aload_n 0, 1) := by decide +kernel
theorem dX12_numbered_1 : decode cX12_numbered 1 = .ok (.getfield 92, 3) := by decide +kernel
theorem dX12_numbered_4 : decode cX12_numbered 4 = .ok (.istore_n 1, 1) := by decide +kernel
theorem dX12_numbered_5 : decode cX12_numbered 5 = .ok (.aload_n 0, 1) := by decide +kernel
theorem dX12_numbered_6 : decode cX12_numbered 6 = .ok (.getfield 101, 3) := by decide +kernel
theorem dX12_numbered_9 : decode cX12_numbered 9 = .ok (.ifCond .ne 18, 3) := by decide +kernel
theorem dX12_numbered_12 : decode cX12_numbered 12 = .ok (.aload_n 0, 1) := by decide +kernel
theorem dX12_numbered_13 : decode cX12_numbered 13 = .ok (.getfield 75, 3) := by decide +kernel
theorem dX12_numbered_16 : decode cX12_numbered 16 = .ok (.iconst 1, 1) := by decide +kernel
theorem dX12_numbered_17 : decode cX12_numbered 17 = .ok (.if_icmp .ne 10, 3) := by decide +kernel
theorem dX12_numbered_20 : decode cX12_numbered 20 = .ok (.aload_n 0, 1) := by decide +kernel
theorem dX12_numbered_21 : decode cX12_numbered 21 = .ok (.invokevirtual 105, 3) := by decide +kernel
theorem dX12_numbered_24 : decode cX12_numbered 24 = .ok (.goto 7, 3) := by decide +kernel
theorem dX12_numbered_27 : decode cX12_numbered 27 = .ok (.aload_n 0, 1) := by decide +kernel
theorem dX12_numbered_28 : decode cX12_numbered 28 = .ok (.invokevirtual 108, 3) := by decide +kernel
theorem dX12_numbered_31 : decode cX12_numbered 31 = .ok (.iload_n 1, 1) := by decide +kernel
theorem dX12_numbered_32 : decode cX12_numbered 32 = .ok (.ireturn, 1) := by decide +kernel
set_option maxRecDepth 20000 in
theorem ggX12_aTest_X12_takes : GoodIn wsX12_aTest wsX12_takes := goodIn_r _ [10, 3, 4, 2, 11, 12, 13, 9, 14, 15, 16, 17, 18, 19, 5, 20, 21, 22, 23, 24, 25, 26, 27, 28, 29, 30, 31, 32, 33, 34, 35, 36, 37, 38, 39, 40, 41, 42, 43, 44, 45, 46, 47, 59, 60, 61, 62, 63, 64, 65, 66, 67, 68, 69, 70, 71, 72, 73, 74, 75, 76, 77, 78, 79] (by decide +kernel) (by decide +kernel)
set_option maxRecDepth 20000 in
theorem gX12_aTest_X12_takes : GoodIn wsX12_aTest (wsV RX12 111 RX12 yX12_takes wsX12_takes) := goodIn_app (goodIn_of _ (by decide +kernel)) ggX12_aTest_X12_takes
set_option maxRecDepth 20000 in
theorem ggX12_aTest_X12_isIn : GoodIn wsX12_aTest wsX12_isIn := goodIn_r _ [50] (by decide +kernel) (by decide +kernel)
set_option maxRecDepth 20000 in
theorem gX12_aTest_X12_isIn : GoodIn wsX12_aTest (va_wsS RX12 114 yX12_isIn wsX12_isIn) := goodIn_app (goodIn_of _ (by decide +kernel)) ggX12_aTest_X12_isIn
set_option maxRecDepth 20000 in
theorem ggX12_aTest_X12_stops : GoodIn wsX12_aTest wsX12_stops := goodIn_r _ [54, 3, 25, 16, 59, 60, 61, 62, 63, 64, 65, 66, 67, 68, 69, 70, 71, 72, 73, 74, 75, 76, 77, 78, 79] (by decide +kernel) (by decide +kernel)
set_option maxRecDepth 20000 in
theorem gX12_aTest_X12_stops : GoodIn wsX12_aTest (wsV RX12 108 RX12 yX12_stops wsX12_stops) := goodIn_app (goodIn_of _ (by decide +kernel)) ggX12_aTest_X12_stops
set_option maxRecDepth 20000 in
theorem ggX12_aTest_X12_advance : GoodIn wsX12_aTest wsX12_advance := goodIn_r _ [14, 15, 16, 4, 17, 18, 2, 19, 5, 20, 21, 22, 9, 23, 24, 25, 26, 27, 28, 29, 30, 31, 32, 33, 34, 35, 36, 37, 38, 39, 40, 41, 42, 43, 44, 45, 46, 47, 59, 60, 61, 62, 63, 64, 65, 66, 67, 68, 69, 70, 71, 72, 73, 74, 75, 76, 77, 78, 79] (by decide +kernel) (by decide +kernel)
set_option maxRecDepth 20000 in
theorem gX12_aTest_X12_advance : GoodIn wsX12_aTest (wsV RX12 105 RX12 yX12_advance wsX12_advance) := goodIn_app (goodIn_of _ (by decide +kernel)) ggX12_aTest_X12_advance
set_option maxRecDepth 20000 in
theorem ggX12_aTest_X12_numbered : GoodIn wsX12_aTest wsX12_numbered := goodIn_r _ [58, 19, 3, 4, 11, 12, 13, 9, 14, 15, 16, 17, 18, 2, 5, 20, 21, 22, 23, 24, 25, 26, 27, 28, 29, 30, 31, 32, 33, 34, 35, 36, 37, 38, 39, 40, 41, 42, 43, 44, 45, 46, 47, 51, 52, 53, 54, 59, 60, 61, 62, 63, 64, 65, 66, 67, 68, 69, 70, 71, 72, 73, 74, 75, 76, 77, 78, 79] (by decide +kernel) (by decide +kernel)
set_option maxRecDepth 20000 in
theorem gX12_aTest_X12_numbered : GoodIn wsX12_aTest (wsV RX12 118 RX12 yX12_numbered wsX12_numbered) := goodIn_app (goodIn_of _ (by decide +kernel)) ggX12_aTest_X12_numbered
theorem dX12_aTest_0 : decode cX12_aTest 0 = .ok (.aload_n 0, 1) := by decide +kernel
theorem dX12_aTest_1 : decode cX12_aTest 1 = .ok (.getfield 20, 3) := by decide +kernel
theorem dX12_aTest_4 : decode cX12_aTest 4 = .ok (.iconst 0, 1) := by decide +kernel
theorem dX12_aTest_5 : decode cX12_aTest 5 = .ok (.aload_n 0, 1) := by decide +kernel
theorem dX12_aTest_6 : decode cX12_aTest 6 = .ok (.bipush 32, 2) := by decide +kernel
theorem dX12_aTest_8 : decode cX12_aTest 8 = .ok (.invokevirtual 111, 3) := by decide +kernel
theorem dX12_aTest_11 : decode cX12_aTest 11 = .ok (.ifCond .eq 7, 3) := by decide +kernel
theorem dX12_aTest_14 : decode cX12_aTest 14 = .ok (.iconst 1, 1) := by decide +kernel
theorem dX12_aTest_15 : decode cX12_aTest 15 = .ok (.goto 4, 3) := by decide +kernel
theorem dX12_aTest_18 : decode cX12_aTest 18 = .ok (.iconst 0, 1) := by decide +kernel
theorem dX12_aTest_19 : decode cX12_aTest 19 = .ok (.iastore, 1) := by decide +kernel
theorem dX12_aTest_20 : decode cX12_aTest 20 = .ok (.aload_n 0, 1) := by decide +kernel
theorem dX12_aTest_21 : decode cX12_aTest 21 = .ok (.getfield 20, 3) := by decide +kernel
theorem dX12_aTest_24 : decode cX12_aTest 24 = .ok (.iconst 1, 1) := by decide +kernel
theorem dX12_aTest_25 : decode cX12_aTest 25 = .ok (.aload_n 0, 1) := by decide +kernel
theorem dX12_aTest_26 : decode cX12_aTest 26 = .ok (.getfield 86, 3) := by decide +kernel
theorem dX12_aTest_29 : decode cX12_aTest 29 = .ok (.iastore, 1) := by decide +kernel
theorem dX12_aTest_30 : decode cX12_aTest 30 = .ok (.aload_n 0, 1) := by decide +kernel
theorem dX12_aTest_31 : decode cX12_aTest 31 = .ok (.getfield 20, 3) := by decide +kernel
theorem dX12_aTest_34 : decode cX12_aTest 34 = .ok (.iconst 2, 1) := by decide +kernel
theorem dX12_aTest_35 : decode cX12_aTest 35 = .ok (.bipush 61, 2) := by decide +kernel
theorem dX12_aTest_37 : decode cX12_aTest 37 = .ok (.iastore, 1) := by decide +kernel
theorem dX12_aTest_38 : decode cX12_aTest 38 = .ok (.aload_n 0, 1) := by decide +kernel
theorem dX12_aTest_39 : decode cX12_aTest 39 = .ok (.getfield 20, 3) := by decide +kernel
theorem dX12_aTest_42 : decode cX12_aTest 42 = .ok (.iconst 3, 1) := by decide +kernel
theorem dX12_aTest_43 : decode cX12_aTest 43 = .ok (.iconst 1, 1) := by decide +kernel
theorem dX12_aTest_44 : decode cX12_aTest 44 = .ok (.iastore, 1) := by decide +kernel
theorem dX12_aTest_45 : decode cX12_aTest 45 = .ok (.aload_n 0, 1) := by decide +kernel
theorem dX12_aTest_46 : decode cX12_aTest 46 = .ok (.getfield 101, 3) := by decide +kernel
theorem dX12_aTest_49 : decode cX12_aTest 49 = .ok (.ifCond .ne 23, 3) := by decide +kernel
theorem dX12_aTest_52 : decode cX12_aTest 52 = .ok (.aload_n 0, 1) := by decide +kernel
theorem dX12_aTest_53 : decode cX12_aTest 53 = .ok (.getfield 75, 3) := by decide +kernel
theorem dX12_aTest_56 : decode cX12_aTest 56 = .ok (.iconst 3, 1) := by decide +kernel
theorem dX12_aTest_57 : decode cX12_aTest 57 = .ok (.if_icmp .ne 15, 3) := by decide +kernel
theorem dX12_aTest_60 : decode cX12_aTest 60 = .ok (.aload_n 0, 1) := by decide +kernel
theorem dX12_aTest_61 : decode cX12_aTest 61 = .ok (.getfield 86, 3) := by decide +kernel
theorem dX12_aTest_64 : decode cX12_aTest 64 = .ok (.iconst 1, 1) := by decide +kernel
theorem dX12_aTest_65 : decode cX12_aTest 65 = .ok (.iconst 5, 1) := by decide +kernel
theorem dX12_aTest_66 : decode cX12_aTest 66 = .ok (.invokestatic 114, 3) := by decide +kernel
theorem dX12_aTest_69 : decode cX12_aTest 69 = .ok (.ifCond .ne 8, 3) := by decide +kernel
theorem dX12_aTest_72 : decode cX12_aTest 72 = .ok (.aload_n 0, 1) := by decide +kernel
theorem dX12_aTest_73 : decode cX12_aTest 73 = .ok (.invokevirtual 108, 3) := by decide +kernel
theorem dX12_aTest_76 : decode cX12_aTest 76 = .ok (.return_, 1) := by decide +kernel
theorem dX12_aTest_77 : decode cX12_aTest 77 = .ok (.aload_n 0, 1) := by decide +kernel
theorem dX12_aTest_78 : decode cX12_aTest 78 = .ok (.invokevirtual 105, 3) := by decide +kernel
theorem dX12_aTest_81 : decode cX12_aTest 81 = .ok (.aload_n 0, 1) := by decide +kernel
theorem dX12_aTest_82 : decode cX12_aTest 82 = .ok (.getfield 20, 3) := by decide +kernel
theorem dX12_aTest_85 : decode cX12_aTest 85 = .ok (.iconst 1, 1) := by decide +kernel
theorem dX12_aTest_86 : decode cX12_aTest 86 = .ok (.iaload, 1) := by decide +kernel
theorem dX12_aTest_87 : decode cX12_aTest 87 = .ok (.iconst 1, 1) := by decide +kernel
theorem dX12_aTest_88 : decode cX12_aTest 88 = .ok (.if_icmp .ne 4, 3) := by decide +kernel
theorem dX12_aTest_91 : decode cX12_aTest 91 = .ok (.return_, 1) := by decide +kernel
theorem dX12_aTest_92 : decode cX12_aTest 92 = .ok (.aload_n 0, 1) := by decide +kernel
theorem dX12_aTest_93 : decode cX12_aTest 93 = .ok (.getfield 20, 3) := by decide +kernel
theorem dX12_aTest_96 : decode cX12_aTest 96 = .ok (.iconst 2, 1) := by decide +kernel
theorem dX12_aTest_97 : decode cX12_aTest 97 = .ok (.aload_n 0, 1) := by decide +kernel
theorem dX12_aTest_98 : decode cX12_aTest 98 = .ok (.getfield 95, 3) := by decide +kernel
theorem dX12_aTest_101 : decode cX12_aTest 101 = .ok (.iastore, 1) := by decide +kernel
theorem dX12_aTest_102 : decode cX12_aTest 102 = .ok (.aload_n 0, 1) := by decide +kernel
theorem dX12_aTest_103 : decode cX12_aTest 103 = .ok (.getfield 75, 3) := by decide +kernel
theorem dX12_aTest_106 : decode cX12_aTest 106 = .ok (.iconst 2, 1) := by decide +kernel
theorem dX12_aTest_107 : decode cX12_aTest 107 = .ok (.if_icmp .ne 21, 3) := by decide +kernel
theorem dX12_aTest_110 : decode cX12_aTest 110 = .ok (.aload_n 0, 1) := by decide +kernel
theorem dX12_aTest_111 : decode cX12_aTest 111 = .ok (.getfield 95, 3) := by decide +kernel
theorem dX12_aTest_114 : decode cX12_aTest 114 = .ok (.bipush 58, 2) := by decide +kernel
theorem dX12_aTest_116 : decode cX12_aTest 116 = .ok (.if_icmp .eq 12, 3) := by decide +kernel
theorem dX12_aTest_119 : decode cX12_aTest 119 = .ok (.aload_n 0, 1) := by decide +kernel
theorem dX12_aTest_120 : decode cX12_aTest 120 = .ok (.getfield 95, 3) := by decide +kernel
theorem dX12_aTest_123 : decode cX12_aTest 123 = .ok (.bipush 59, 2) := by decide +kernel
theorem dX12_aTest_125 : decode cX12_aTest 125 = .ok (.if_icmp .ne 8, 3) := by decide +kernel
theorem dX12_aTest_128 : decode cX12_aTest 128 = .ok (.aload_n 0, 1) := by decide +kernel
theorem dX12_aTest_129 : decode cX12_aTest 129 = .ok (.invokevirtual 108, 3) := by decide +kernel
theorem dX12_aTest_132 : decode cX12_aTest 132 = .ok (.return_, 1) := by decide +kernel
theorem dX12_aTest_133 : decode cX12_aTest 133 = .ok (.aload_n 0, 1) := by decide +kernel
theorem dX12_aTest_134 : decode cX12_aTest 134 = .ok (.invokevirtual 105, 3) := by decide +kernel
theorem dX12_aTest_137 : decode cX12_aTest 137 = .ok (.aload_n 0, 1) := by decide +kernel
theorem dX12_aTest_138 : decode cX12_aTest 138 = .ok (.getfield 20, 3) := by decide +kernel
theorem dX12_aTest_141 : decode cX12_aTest 141 = .ok (.iconst 3, 1) := by decide +kernel
theorem dX12_aTest_142 : decode cX12_aTest 142 = .ok (.aload_n 0, 1) := by decide +kernel
theorem dX12_aTest_143 : decode cX12_aTest 143 = .ok (.invokevirtual 118, 3) := by decide +kernel
theorem dX12_aTest_146 : decode cX12_aTest 146 = .ok (.iastore, 1) := by decide +kernel
theorem dX12_aTest_147 : decode cX12_aTest 147 = .ok (.return_, 1) := by decide +kernel
theorem dX12_puts_0 : decode cX12_puts 0 = .ok (.aload_n 0, 1) := by decide +kernel
theorem dX12_puts_1 : decode cX12_puts 1 = .ok (.getfield 122, 3) := by decide +kernel
theorem dX12_puts_4 : decode cX12_puts 4 = .ok (.bipush 16, 2) := by decide +kernel
theorem dX12_puts_6 : decode cX12_puts 6 = .ok (.if_icmp .ge 18, 3) := by decide +kernel
theorem dX12_puts_9 : decode cX12_puts 9 = .ok (.aload_n 0, 1) := by decide +kernel
theorem dX12_puts_10 : decode cX12_puts 10 = .ok (.getfield 17, 3) := by decide +kernel
theorem dX12_puts_13 : decode cX12_puts 13 = .ok (.bipush 19, 2) := by decide +kernel
theorem dX12_puts_15 : decode cX12_puts 15 = .ok (.aload_n 0, 1) := by decide +kernel
theorem dX12_puts_16 : decode cX12_puts 16 = .ok (.getfield 122, 3) := by decide +kernel
theorem dX12_puts_19 : decode cX12_puts 19 = .ok (.imul, 1) := by decide +kernel
theorem dX12_puts_20 : decode cX12_puts 20 = .ok (.iload_n 1, 1) := by decide +kernel
theorem dX12_puts_21 : decode cX12_puts 21 = .ok (.iadd, 1) := by decide +kernel
theorem dX12_puts_22 : decode cX12_puts 22 = .ok (.iload_n 2, 1) := by decide +kernel
theorem dX12_puts_23 : decode cX12_puts 23 = .ok (.iastore, 1) := by decide +kernel
theorem dX12_puts_24 : decode cX12_puts 24 = .ok (.return_, 1) := by decide +kernel
set_option maxRecDepth 20000 in
theorem ggX12_aLine_X12_tooMany : GoodIn wsX12_aLine wsX12_tooMany := goodIn_r _ [10, 3, 11, 12, 77, 78, 79, 80, 81, 82, 83, 84, 85, 86, 87, 88, 89, 90, 91, 92, 93, 94, 95, 96, 97] (by decide +kernel) (by decide +kernel)
set_option maxRecDepth 20000 in
theorem gX12_aLine_X12_tooMany : GoodIn wsX12_aLine (wsV RX12 125 RX12 yX12_tooMany wsX12_tooMany) := goodIn_app (goodIn_of _ (by decide +kernel)) ggX12_aLine_X12_tooMany
set_option maxRecDepth 20000 in
theorem ggX12_aLine_X12_takes : GoodIn wsX12_aLine wsX12_takes := goodIn_r _ [16, 3, 4, 5, 17, 18, 19, 9, 20, 21, 12, 22, 23, 24, 25, 26, 27, 28, 29, 30, 11, 31, 32, 33, 34, 35, 36, 37, 38, 39, 40, 41, 42, 43, 44, 45, 46, 47, 48, 49, 50, 51, 52, 77, 78, 79, 80, 81, 82, 83, 84, 85, 86, 87, 88, 89, 90, 91, 92, 93, 94, 95, 96, 97] (by decide +kernel) (by decide +kernel)
set_option maxRecDepth 20000 in
theorem gX12_aLine_X12_takes : GoodIn wsX12_aLine (wsV RX12 111 RX12 yX12_takes wsX12_takes) := goodIn_app (goodIn_of _ (by decide +kernel)) ggX12_aLine_X12_takes
set_option maxRecDepth 20000 in
theorem ggX12_aLine_X12_aTest : GoodIn wsX12_aLine wsX12_aTest := goodIn_r _ [56, 2, 5, 3, 4, 25, 13, 14, 15, 9, 16, 17, 18, 19, 20, 21, 12, 22, 23, 24, 26, 27, 28, 29, 30, 11, 31, 32, 33, 34, 35, 36, 37, 38, 39, 40, 41, 42, 43, 44, 45, 46, 47, 48, 49, 50, 51, 52, 57, 58, 59, 60, 61, 62, 63, 64, 65, 66, 67, 77, 78, 79, 80, 81, 82, 83, 84, 85, 86, 87, 88, 89, 90, 91, 92, 93, 94, 95, 96, 97] (by decide +kernel) (by decide +kernel)
set_option maxRecDepth 20000 in
theorem gX12_aLine_X12_aTest : GoodIn wsX12_aLine (wsV RX12 128 RX12 yX12_aTest wsX12_aTest) := goodIn_app (goodIn_of _ (by decide +kernel)) ggX12_aLine_X12_aTest
set_option maxRecDepth 20000 in
theorem ggX12_aLine_X12_puts : GoodIn wsX12_aLine wsX12_puts := goodIn_r _ [71, 1, 72, 77, 78, 79, 80, 81, 82, 83, 84, 85, 86, 87, 88, 89, 90, 91, 92, 93, 94, 95, 96, 97] (by decide +kernel) (by decide +kernel)
set_option maxRecDepth 20000 in
theorem gX12_aLine_X12_puts : GoodIn wsX12_aLine (wsV RX12 131 RX12 yX12_puts wsX12_puts) := goodIn_app (goodIn_of _ (by decide +kernel)) ggX12_aLine_X12_puts
set_option maxRecDepth 20000 in
theorem ggX12_aLine_X12_must : GoodIn wsX12_aLine wsX12_must := goodIn_r _ [76, 3, 4, 25, 17, 18, 19, 9, 20, 21, 12, 22, 23, 5, 24, 26, 27, 28, 29, 30, 11, 31, 32, 33, 34, 35, 36, 37, 38, 39, 40, 41, 42, 43, 44, 45, 46, 47, 48, 49, 50, 51, 52, 60, 61, 62, 63, 77, 78, 79, 80, 81, 82, 83, 84, 85, 86, 87, 88, 89, 90, 91, 92, 93, 94, 95, 96, 97] (by decide +kernel) (by decide +kernel)
set_option maxRecDepth 20000 in
theorem gX12_aLine_X12_must : GoodIn wsX12_aLine (wsV RX12 135 RX12 yX12_must wsX12_must) := goodIn_app (goodIn_of _ (by decide +kernel)) ggX12_aLine_X12_must
set_option maxRecDepth 20000 in
theorem ggX12_aLine_X12_isIn : GoodIn wsX12_aLine wsX12_isIn := goodIn_r _ [59] (by decide +kernel) (by decide +kernel)
set_option maxRecDepth 20000 in
theorem gX12_aLine_X12_isIn : GoodIn wsX12_aLine (va_wsS RX12 114 yX12_isIn wsX12_isIn) := goodIn_app (goodIn_of _ (by decide +kernel)) ggX12_aLine_X12_isIn
set_option maxRecDepth 20000 in
theorem ggX12_aLine_X12_stops : GoodIn wsX12_aLine wsX12_stops := goodIn_r _ [63, 3, 11, 12, 77, 78, 79, 80, 81, 82, 83, 84, 85, 86, 87, 88, 89, 90, 91, 92, 93, 94, 95, 96, 97] (by decide +kernel) (by decide +kernel)
set_option maxRecDepth 20000 in
theorem gX12_aLine_X12_stops : GoodIn wsX12_aLine (wsV RX12 108 RX12 yX12_stops wsX12_stops) := goodIn_app (goodIn_of _ (by decide +kernel)) ggX12_aLine_X12_stops
set_option maxRecDepth 20000 in
theorem ggX12_aLine_X12_advance : GoodIn wsX12_aLine wsX12_advance := goodIn_r _ [20, 21, 12, 4, 22, 23, 5, 24, 25, 26, 27, 28, 9, 29, 30, 11, 31, 32, 33, 34, 35, 36, 37, 38, 39, 40, 41, 42, 43, 44, 45, 46, 47, 48, 49, 50, 51, 52, 77, 78, 79, 80, 81, 82, 83, 84, 85, 86, 87, 88, 89, 90, 91, 92, 93, 94, 95, 96, 97] (by decide +kernel) (by decide +kernel)
set_option maxRecDepth 20000 in
theorem gX12_aLine_X12_advance : GoodIn wsX12_aLine (wsV RX12 105 RX12 yX12_advance wsX12_advance) := goodIn_app (goodIn_of _ (by decide +kernel)) ggX12_aLine_X12_advance
set_option maxRecDepth 20000 in
theorem ggX12_aLine_X12_numbered : GoodIn wsX12_aLine wsX12_numbered := goodIn_r _ [67, 24, 3, 4, 17, 18, 19, 9, 20, 21, 12, 22, 23, 5, 25, 26, 27, 28, 29, 30, 11, 31, 32, 33, 34, 35, 36, 37, 38, 39, 40, 41, 42, 43, 44, 45, 46, 47, 48, 49, 50, 51, 52, 60, 61, 62, 63, 77, 78, 79, 80, 81, 82, 83, 84, 85, 86, 87, 88, 89, 90, 91, 92, 93, 94, 95, 96, 97] (by decide +kernel) (by decide +kernel)
set_option maxRecDepth 20000 in
theorem gX12_aLine_X12_numbered : GoodIn wsX12_aLine (wsV RX12 118 RX12 yX12_numbered wsX12_numbered) := goodIn_app (goodIn_of _ (by decide +kernel)) ggX12_aLine_X12_numbered
theorem dX12_aLine_0 : decode cX12_aLine 0 = .ok (.aload_n 0, 1) := by decide +kernel
theorem dX12_aLine_1 : decode cX12_aLine 1 = .ok (.getfield 122, 3) := by decide +kernel
theorem dX12_aLine_4 : decode cX12_aLine 4 = .ok (.bipush 16, 2) := by decide +kernel
theorem dX12_aLine_6 : decode cX12_aLine 6 = .ok (.if_icmp .lt 7, 3) := by decide +kernel
theorem dX12_aLine_9 : decode cX12_aLine 9 = .ok (.aload_n 0, 1) := by decide +kernel
theorem dX12_aLine_10 : decode cX12_aLine 10 = .ok (.invokevirtual 125, 3) := by decide +kernel
theorem dX12_aLine_13 : decode cX12_aLine 13 = .ok (.iconst 0, 1) := by decide +kernel
theorem dX12_aLine_14 : decode cX12_aLine 14 = .ok (.istore_n 1, 1) := by decide +kernel
theorem dX12_aLine_15 : decode cX12_aLine 15 = .ok (.aload_n 0, 1) := by decide +kernel
theorem dX12_aLine_16 : decode cX12_aLine 16 = .ok (.bipush 30, 2) := by decide +kernel
theorem dX12_aLine_18 : decode cX12_aLine 18 = .ok (.invokevirtual 111, 3) := by decide +kernel
theorem dX12_aLine_21 : decode cX12_aLine 21 = .ok (.ifCond .eq 76, 3) := by decide +kernel
theorem dX12_aLine_24 : decode cX12_aLine 24 = .ok (.iconst 1, 1) := by decide +kernel
theorem dX12_aLine_25 : decode cX12_aLine 25 = .ok (.istore_n 2, 1) := by decide +kernel
theorem dX12_aLine_26 : decode cX12_aLine 26 = .ok (.iload_n 2, 1) := by decide +kernel
theorem dX12_aLine_27 : decode cX12_aLine 27 = .ok (.ifCond .eq 64, 3) := by decide +kernel
theorem dX12_aLine_30 : decode cX12_aLine 30 = .ok (.iload_n 1, 1) := by decide +kernel
theorem dX12_aLine_31 : decode cX12_aLine 31 = .ok (.iconst 3, 1) := by decide +kernel
theorem dX12_aLine_32 : decode cX12_aLine 32 = .ok (.if_icmp .le 7, 3) := by decide +kernel
theorem dX12_aLine_35 : decode cX12_aLine 35 = .ok (.aload_n 0, 1) := by decide +kernel
theorem dX12_aLine_36 : decode cX12_aLine 36 = .ok (.invokevirtual 125, 3) := by decide +kernel
theorem dX12_aLine_39 : decode cX12_aLine 39 = .ok (.aload_n 0, 1) := by decide +kernel
theorem dX12_aLine_40 : decode cX12_aLine 40 = .ok (.invokevirtual 128, 3) := by decide +kernel
theorem dX12_aLine_43 : decode cX12_aLine 43 = .ok (.iconst 0, 1) := by decide +kernel
theorem dX12_aLine_44 : decode cX12_aLine 44 = .ok (.istore_n 3, 1) := by decide +kernel
theorem dX12_aLine_45 : decode cX12_aLine 45 = .ok (.iload_n 3, 1) := by decide +kernel
theorem dX12_aLine_46 : decode cX12_aLine 46 = .ok (.iconst 4, 1) := by decide +kernel
theorem dX12_aLine_47 : decode cX12_aLine 47 = .ok (.if_icmp .ge 31, 3) := by decide +kernel
theorem dX12_aLine_50 : decode cX12_aLine 50 = .ok (.iload_n 1, 1) := by decide +kernel
theorem dX12_aLine_51 : decode cX12_aLine 51 = .ok (.iconst 4, 1) := by decide +kernel
theorem dX12_aLine_52 : decode cX12_aLine 52 = .ok (.if_icmp .ge 26, 3) := by decide +kernel
theorem dX12_aLine_55 : decode cX12_aLine 55 = .ok (.aload_n 0, 1) := by decide +kernel
theorem dX12_aLine_56 : decode cX12_aLine 56 = .ok (.iconst 1, 1) := by decide +kernel
theorem dX12_aLine_57 : decode cX12_aLine 57 = .ok (.iconst 4, 1) := by decide +kernel
theorem dX12_aLine_58 : decode cX12_aLine 58 = .ok (.iload_n 1, 1) := by decide +kernel
theorem dX12_aLine_59 : decode cX12_aLine 59 = .ok (.imul, 1) := by decide +kernel
theorem dX12_aLine_60 : decode cX12_aLine 60 = .ok (.iadd, 1) := by decide +kernel
theorem dX12_aLine_61 : decode cX12_aLine 61 = .ok (.iload_n 3, 1) := by decide +kernel
theorem dX12_aLine_62 : decode cX12_aLine 62 = .ok (.iadd, 1) := by decide +kernel
theorem dX12_aLine_63 : decode cX12_aLine 63 = .ok (.aload_n 0, 1) := by decide +kernel
theorem dX12_aLine_64 : decode cX12_aLine 64 = .ok (.getfield 20, 3) := by decide +kernel
theorem dX12_aLine_67 : decode cX12_aLine 67 = .ok (.iload_n 3, 1) := by decide +kernel
theorem dX12_aLine_68 : decode cX12_aLine 68 = .ok (.iaload, 1) := by decide +kernel
theorem dX12_aLine_69 : decode cX12_aLine 69 = .ok (.invokevirtual 131, 3) := by decide +kernel
theorem dX12_aLine_72 : decode cX12_aLine 72 = .ok (.iinc 3 1, 3) := by decide +kernel
theorem dX12_aLine_75 : decode cX12_aLine 75 = .ok (.goto (-30), 3) := by decide +kernel
theorem dX12_aLine_78 : decode cX12_aLine 78 = .ok (.iinc 1 1, 3) := by decide +kernel
theorem dX12_aLine_81 : decode cX12_aLine 81 = .ok (.aload_n 0, 1) := by decide +kernel
theorem dX12_aLine_82 : decode cX12_aLine 82 = .ok (.bipush 31, 2) := by decide +kernel
theorem dX12_aLine_84 : decode cX12_aLine 84 = .ok (.invokevirtual 111, 3) := by decide +kernel
theorem dX12_aLine_87 : decode cX12_aLine 87 = .ok (.istore_n 2, 1) := by decide +kernel
theorem dX12_aLine_88 : decode cX12_aLine 88 = .ok (.goto (-62), 3) := by decide +kernel
theorem dX12_aLine_91 : decode cX12_aLine 91 = .ok (.aload_n 0, 1) := by decide +kernel
theorem dX12_aLine_92 : decode cX12_aLine 92 = .ok (.bipush 58, 2) := by decide +kernel
theorem dX12_aLine_94 : decode cX12_aLine 94 = .ok (.invokevirtual 135, 3) := by decide +kernel
theorem dX12_aLine_97 : decode cX12_aLine 97 = .ok (.aload_n 0, 1) := by decide +kernel
theorem dX12_aLine_98 : decode cX12_aLine 98 = .ok (.getfield 101, 3) := by decide +kernel
theorem dX12_aLine_101 : decode cX12_aLine 101 = .ok (.ifCond .ne 25, 3) := by decide +kernel
theorem dX12_aLine_104 : decode cX12_aLine 104 = .ok (.aload_n 0, 1) := by decide +kernel
theorem dX12_aLine_105 : decode cX12_aLine 105 = .ok (.getfield 75, 3) := by decide +kernel
theorem dX12_aLine_108 : decode cX12_aLine 108 = .ok (.iconst 3, 1) := by decide +kernel
theorem dX12_aLine_109 : decode cX12_aLine 109 = .ok (.if_icmp .ne 17, 3) := by decide +kernel
theorem dX12_aLine_112 : decode cX12_aLine 112 = .ok (.aload_n 0, 1) := by decide +kernel
theorem dX12_aLine_113 : decode cX12_aLine 113 = .ok (.getfield 86, 3) := by decide +kernel
theorem dX12_aLine_116 : decode cX12_aLine 116 = .ok (.bipush 20, 2) := by decide +kernel
theorem dX12_aLine_118 : decode cX12_aLine 118 = .ok (.bipush 22, 2) := by decide +kernel
theorem dX12_aLine_120 : decode cX12_aLine 120 = .ok (.invokestatic 114, 3) := by decide +kernel
theorem dX12_aLine_123 : decode cX12_aLine 123 = .ok (.ifCond .ne 8, 3) := by decide +kernel
theorem dX12_aLine_126 : decode cX12_aLine 126 = .ok (.aload_n 0, 1) := by decide +kernel
theorem dX12_aLine_127 : decode cX12_aLine 127 = .ok (.invokevirtual 108, 3) := by decide +kernel
theorem dX12_aLine_130 : decode cX12_aLine 130 = .ok (.return_, 1) := by decide +kernel
theorem dX12_aLine_131 : decode cX12_aLine 131 = .ok (.aload_n 0, 1) := by decide +kernel
theorem dX12_aLine_132 : decode cX12_aLine 132 = .ok (.getfield 86, 3) := by decide +kernel
theorem dX12_aLine_135 : decode cX12_aLine 135 = .ok (.istore_n 2, 1) := by decide +kernel
theorem dX12_aLine_136 : decode cX12_aLine 136 = .ok (.aload_n 0, 1) := by decide +kernel
theorem dX12_aLine_137 : decode cX12_aLine 137 = .ok (.invokevirtual 105, 3) := by decide +kernel
theorem dX12_aLine_140 : decode cX12_aLine 140 = .ok (.iload_n 2, 1) := by decide +kernel
theorem dX12_aLine_141 : decode cX12_aLine 141 = .ok (.bipush 22, 2) := by decide +kernel
theorem dX12_aLine_143 : decode cX12_aLine 143 = .ok (.if_icmp .ne 7, 3) := by decide +kernel
theorem dX12_aLine_146 : decode cX12_aLine 146 = .ok (.iconst 0, 1) := by decide +kernel
theorem dX12_aLine_147 : decode cX12_aLine 147 = .ok (.goto 7, 3) := by decide +kernel
theorem dX12_aLine_150 : decode cX12_aLine 150 = .ok (.aload_n 0, 1) := by decide +kernel
theorem dX12_aLine_151 : decode cX12_aLine 151 = .ok (.invokevirtual 118, 3) := by decide +kernel
theorem dX12_aLine_154 : decode cX12_aLine 154 = .ok (.istore_n 3, 1) := by decide +kernel
theorem dX12_aLine_155 : decode cX12_aLine 155 = .ok (.aload_n 0, 1) := by decide +kernel
theorem dX12_aLine_156 : decode cX12_aLine 156 = .ok (.bipush 59, 2) := by decide +kernel
theorem dX12_aLine_158 : decode cX12_aLine 158 = .ok (.invokevirtual 135, 3) := by decide +kernel
theorem dX12_aLine_161 : decode cX12_aLine 161 = .ok (.aload_n 0, 1) := by decide +kernel
theorem dX12_aLine_162 : decode cX12_aLine 162 = .ok (.iconst 0, 1) := by decide +kernel
theorem dX12_aLine_163 : decode cX12_aLine 163 = .ok (.iload_n 1, 1) := by decide +kernel
theorem dX12_aLine_164 : decode cX12_aLine 164 = .ok (.invokevirtual 131, 3) := by decide +kernel
theorem dX12_aLine_167 : decode cX12_aLine 167 = .ok (.aload_n 0, 1) := by decide +kernel
theorem dX12_aLine_168 : decode cX12_aLine 168 = .ok (.bipush 17, 2) := by decide +kernel
theorem dX12_aLine_170 : decode cX12_aLine 170 = .ok (.iload_n 2, 1) := by decide +kernel
theorem dX12_aLine_171 : decode cX12_aLine 171 = .ok (.invokevirtual 131, 3) := by decide +kernel
theorem dX12_aLine_174 : decode cX12_aLine 174 = .ok (.aload_n 0, 1) := by decide +kernel
theorem dX12_aLine_175 : decode cX12_aLine 175 = .ok (.bipush 18, 2) := by decide +kernel
theorem dX12_aLine_177 : decode cX12_aLine 177 = .ok (.iload_n 3, 1) := by decide +kernel
theorem dX12_aLine_178 : decode cX12_aLine 178 = .ok (.invokevirtual 131, 3) := by decide +kernel
theorem dX12_aLine_181 : decode cX12_aLine 181 = .ok (.aload_n 0, 1) := by decide +kernel
theorem dX12_aLine_182 : decode cX12_aLine 182 = .ok (.dup, 1) := by decide +kernel
theorem dX12_aLine_183 : decode cX12_aLine 183 = .ok (.getfield 122, 3) := by decide +kernel
theorem dX12_aLine_186 : decode cX12_aLine 186 = .ok (.iconst 1, 1) := by decide +kernel
theorem dX12_aLine_187 : decode cX12_aLine 187 = .ok (.iadd, 1) := by decide +kernel
theorem dX12_aLine_188 : decode cX12_aLine 188 = .ok (.putfield 122, 3) := by decide +kernel
theorem dX12_aLine_191 : decode cX12_aLine 191 = .ok (.return_, 1) := by decide +kernel
set_option maxRecDepth 20000 in
theorem ggX12_decree_X12_advance : GoodIn wsX12_decree wsX12_advance := goodIn_r _ [12, 3, 13, 6, 14, 15, 16, 17, 18, 19, 20, 21, 11, 22, 2, 1, 23, 24, 25, 26, 27, 28, 29, 30, 31, 32, 33, 34, 35, 36, 37, 38, 39, 40, 41, 42, 43, 44, 81, 82, 83, 84, 85, 86, 87, 88, 89, 90, 91, 92, 93, 94, 95, 96, 97, 98, 99, 100, 101] (by decide +kernel) (by decide +kernel)
set_option maxRecDepth 20000 in
theorem gX12_decree_X12_advance : GoodIn wsX12_decree (wsV RX12 105 RX12 yX12_advance wsX12_advance) := goodIn_app (goodIn_of _ (by decide +kernel)) ggX12_decree_X12_advance
set_option maxRecDepth 20000 in
theorem ggX12_decree_X12_aLine : GoodIn wsX12_decree wsX12_aLine := goodIn_r _ [48, 5, 49, 4, 6, 16, 50, 51, 52, 11, 53, 1, 13, 54, 55, 56, 57, 8, 9, 10, 12, 3, 14, 15, 17, 18, 19, 20, 21, 22, 2, 23, 24, 25, 26, 27, 28, 29, 30, 31, 32, 33, 34, 35, 36, 37, 38, 39, 40, 41, 42, 43, 44, 58, 59, 60, 61, 62, 63, 64, 65, 66, 67, 68, 69, 70, 71, 72, 73, 74, 75, 76, 7, 77, 78, 79, 80, 81, 82, 83, 84, 85, 86, 87, 88, 89, 90, 91, 92, 93, 94, 95, 96, 97, 98, 99, 100, 101] (by decide +kernel) (by decide +kernel)
set_option maxRecDepth 20000 in
theorem gX12_decree_X12_aLine : GoodIn wsX12_decree (wsV RX12 139 RX12 yX12_aLine wsX12_aLine) := goodIn_app (goodIn_of _ (by decide +kernel)) ggX12_decree_X12_aLine
theorem dX12_decree_0 : decode cX12_decree 0 = .ok (.aload_n 0, 1) := by decide +kernel
theorem dX12_decree_1 : decode cX12_decree 1 = .ok (.aload_n 0, 1) := by decide +kernel
theorem dX12_decree_2 : decode cX12_decree 2 = .ok (.getfield 7, 3) := by decide +kernel
theorem dX12_decree_5 : decode cX12_decree 5 = .ok (.bipush 12, 2) := by decide +kernel
theorem dX12_decree_7 : decode cX12_decree 7 = .ok (.iaload, 1) := by decide +kernel
theorem dX12_decree_8 : decode cX12_decree 8 = .ok (.putfield 41, 3) := by decide +kernel
theorem dX12_decree_11 : decode cX12_decree 11 = .ok (.aload_n 0, 1) := by decide +kernel
theorem dX12_decree_12 : decode cX12_decree 12 = .ok (.getfield 7, 3) := by decide +kernel
theorem dX12_decree_15 : decode cX12_decree 15 = .ok (.bipush 12, 2) := by decide +kernel
theorem dX12_decree_17 : decode cX12_decree 17 = .ok (.iconst 0, 1) := by decide +kernel
theorem dX12_decree_18 : decode cX12_decree 18 = .ok (.iastore, 1) := by decide +kernel
theorem dX12_decree_19 : decode cX12_decree 19 = .ok (.aload_n 0, 1) := by decide +kernel
theorem dX12_decree_20 : decode cX12_decree 20 = .ok (.iconst 0, 1) := by decide +kernel
theorem dX12_decree_21 : decode cX12_decree 21 = .ok (.putfield 65, 3) := by decide +kernel
theorem dX12_decree_24 : decode cX12_decree 24 = .ok (.aload_n 0, 1) := by decide +kernel
theorem dX12_decree_25 : decode cX12_decree 25 = .ok (.getfield 7, 3) := by decide +kernel
theorem dX12_decree_28 : decode cX12_decree 28 = .ok (.bipush 13, 2) := by decide +kernel
theorem dX12_decree_30 : decode cX12_decree 30 = .ok (.iconst 0, 1) := by decide +kernel
theorem dX12_decree_31 : decode cX12_decree 31 = .ok (.iastore, 1) := by decide +kernel
theorem dX12_decree_32 : decode cX12_decree 32 = .ok (.aload_n 0, 1) := by decide +kernel
theorem dX12_decree_33 : decode cX12_decree 33 = .ok (.getfield 7, 3) := by decide +kernel
theorem dX12_decree_36 : decode cX12_decree 36 = .ok (.bipush 14, 2) := by decide +kernel
theorem dX12_decree_38 : decode cX12_decree 38 = .ok (.iconst (-1), 1) := by decide +kernel
theorem dX12_decree_39 : decode cX12_decree 39 = .ok (.iastore, 1) := by decide +kernel
theorem dX12_decree_40 : decode cX12_decree 40 = .ok (.aload_n 0, 1) := by decide +kernel
theorem dX12_decree_41 : decode cX12_decree 41 = .ok (.iconst 0, 1) := by decide +kernel
theorem dX12_decree_42 : decode cX12_decree 42 = .ok (.putfield 101, 3) := by decide +kernel
theorem dX12_decree_45 : decode cX12_decree 45 = .ok (.aload_n 0, 1) := by decide +kernel
theorem dX12_decree_46 : decode cX12_decree 46 = .ok (.iconst 0, 1) := by decide +kernel
theorem dX12_decree_47 : decode cX12_decree 47 = .ok (.putfield 122, 3) := by decide +kernel
theorem dX12_decree_50 : decode cX12_decree 50 = .ok (.aload_n 0, 1) := by decide +kernel
theorem dX12_decree_51 : decode cX12_decree 51 = .ok (.invokevirtual 105, 3) := by decide +kernel
theorem dX12_decree_54 : decode cX12_decree 54 = .ok (.aload_n 0, 1) := by decide +kernel
theorem dX12_decree_55 : decode cX12_decree 55 = .ok (.getfield 101, 3) := by decide +kernel
theorem dX12_decree_58 : decode cX12_decree 58 = .ok (.ifCond .ne 17, 3) := by decide +kernel
theorem dX12_decree_61 : decode cX12_decree 61 = .ok (.aload_n 0, 1) := by decide +kernel
theorem dX12_decree_62 : decode cX12_decree 62 = .ok (.getfield 75, 3) := by decide +kernel
theorem dX12_decree_65 : decode cX12_decree 65 = .ok (.ifCond .eq 10, 3) := by decide +kernel
theorem dX12_decree_68 : decode cX12_decree 68 = .ok (.aload_n 0, 1) := by decide +kernel
theorem dX12_decree_69 : decode cX12_decree 69 = .ok (.invokevirtual 139, 3) := by decide +kernel
theorem dX12_decree_72 : decode cX12_decree 72 = .ok (.goto (-18), 3) := by decide +kernel
theorem dX12_decree_75 : decode cX12_decree 75 = .ok (.aload_n 0, 1) := by decide +kernel
theorem dX12_decree_76 : decode cX12_decree 76 = .ok (.getfield 7, 3) := by decide +kernel
theorem dX12_decree_79 : decode cX12_decree 79 = .ok (.bipush 13, 2) := by decide +kernel
theorem dX12_decree_81 : decode cX12_decree 81 = .ok (.iaload, 1) := by decide +kernel
theorem dX12_decree_82 : decode cX12_decree 82 = .ok (.ifCond .eq 5, 3) := by decide +kernel
theorem dX12_decree_85 : decode cX12_decree 85 = .ok (.iconst (-1), 1) := by decide +kernel
theorem dX12_decree_86 : decode cX12_decree 86 = .ok (.ireturn, 1) := by decide +kernel
theorem dX12_decree_87 : decode cX12_decree 87 = .ok (.iconst 0, 1) := by decide +kernel
theorem dX12_decree_88 : decode cX12_decree 88 = .ok (.istore_n 1, 1) := by decide +kernel
theorem dX12_decree_89 : decode cX12_decree 89 = .ok (.iload_n 1, 1) := by decide +kernel
theorem dX12_decree_90 : decode cX12_decree 90 = .ok (.sipush 304, 3) := by decide +kernel
theorem dX12_decree_93 : decode cX12_decree 93 = .ok (.if_icmp .ge 25, 3) := by decide +kernel
theorem dX12_decree_96 : decode cX12_decree 96 = .ok (.aload_n 0, 1) := by decide +kernel
theorem dX12_decree_97 : decode cX12_decree 97 = .ok (.getfield 7, 3) := by decide +kernel
theorem dX12_decree_100 : decode cX12_decree 100 = .ok (.sipush 2080, 3) := by decide +kernel
theorem dX12_decree_103 : decode cX12_decree 103 = .ok (.iload_n 1, 1) := by decide +kernel
theorem dX12_decree_104 : decode cX12_decree 104 = .ok (.iadd, 1) := by decide +kernel
theorem dX12_decree_105 : decode cX12_decree 105 = .ok (.aload_n 0, 1) := by decide +kernel
theorem dX12_decree_106 : decode cX12_decree 106 = .ok (.getfield 17, 3) := by decide +kernel
theorem dX12_decree_109 : decode cX12_decree 109 = .ok (.iload_n 1, 1) := by decide +kernel
theorem dX12_decree_110 : decode cX12_decree 110 = .ok (.iaload, 1) := by decide +kernel
theorem dX12_decree_111 : decode cX12_decree 111 = .ok (.iastore, 1) := by decide +kernel
theorem dX12_decree_112 : decode cX12_decree 112 = .ok (.iinc 1 1, 3) := by decide +kernel
theorem dX12_decree_115 : decode cX12_decree 115 = .ok (.goto (-26), 3) := by decide +kernel
theorem dX12_decree_118 : decode cX12_decree 118 = .ok (.aload_n 0, 1) := by decide +kernel
theorem dX12_decree_119 : decode cX12_decree 119 = .ok (.getfield 7, 3) := by decide +kernel
theorem dX12_decree_122 : decode cX12_decree 122 = .ok (.bipush 7, 2) := by decide +kernel
theorem dX12_decree_124 : decode cX12_decree 124 = .ok (.aload_n 0, 1) := by decide +kernel
theorem dX12_decree_125 : decode cX12_decree 125 = .ok (.getfield 122, 3) := by decide +kernel
theorem dX12_decree_128 : decode cX12_decree 128 = .ok (.iastore, 1) := by decide +kernel
theorem dX12_decree_129 : decode cX12_decree 129 = .ok (.aload_n 0, 1) := by decide +kernel
theorem dX12_decree_130 : decode cX12_decree 130 = .ok (.getfield 122, 3) := by decide +kernel
theorem dX12_decree_133 : decode cX12_decree 133 = .ok (.ireturn, 1) := by decide +kernel
theorem dX12_fault_0 : decode cX12_fault 0 = .ok (.iload_n 1, 1) := by decide +kernel
theorem dX12_fault_1 : decode cX12_fault 1 = .ok (.ifCond .ne 13, 3) := by decide +kernel
theorem dX12_fault_4 : decode cX12_fault 4 = .ok (.aload_n 0, 1) := by decide +kernel
theorem dX12_fault_5 : decode cX12_fault 5 = .ok (.getfield 7, 3) := by decide +kernel
theorem dX12_fault_8 : decode cX12_fault 8 = .ok (.bipush 13, 2) := by decide +kernel
theorem dX12_fault_10 : decode cX12_fault 10 = .ok (.iaload, 1) := by decide +kernel
theorem dX12_fault_11 : decode cX12_fault 11 = .ok (.goto 19, 3) := by decide +kernel
theorem dX12_fault_14 : decode cX12_fault 14 = .ok (.iload_n 1, 1) := by decide +kernel
theorem dX12_fault_15 : decode cX12_fault 15 = .ok (.iconst 1, 1) := by decide +kernel
theorem dX12_fault_16 : decode cX12_fault 16 = .ok (.if_icmp .ne 13, 3) := by decide +kernel
theorem dX12_fault_19 : decode cX12_fault 19 = .ok (.aload_n 0, 1) := by decide +kernel
theorem dX12_fault_20 : decode cX12_fault 20 = .ok (.getfield 7, 3) := by decide +kernel
theorem dX12_fault_23 : decode cX12_fault 23 = .ok (.bipush 14, 2) := by decide +kernel
theorem dX12_fault_25 : decode cX12_fault 25 = .ok (.iaload, 1) := by decide +kernel
theorem dX12_fault_26 : decode cX12_fault 26 = .ok (.goto 4, 3) := by decide +kernel
theorem dX12_fault_29 : decode cX12_fault 29 = .ok (.iconst (-1), 1) := by decide +kernel
theorem dX12_fault_30 : decode cX12_fault 30 = .ok (.ireturn, 1) := by decide +kernel
set_option maxRecDepth 20000 in
theorem ggX12_isCitizen_X12_isIn : GoodIn wsX12_isCitizen wsX12_isIn := goodIn_r _ [5] (by decide +kernel) (by decide +kernel)
set_option maxRecDepth 20000 in
theorem gX12_isCitizen_X12_isIn : GoodIn wsX12_isCitizen (va_wsS RX12 114 yX12_isIn wsX12_isIn) := goodIn_app (goodIn_of _ (by decide +kernel)) ggX12_isCitizen_X12_isIn
theorem dX12_isCitizen_0 : decode cX12_isCitizen 0 = .ok (.iload_n 1, 1) := by decide +kernel
theorem dX12_isCitizen_1 : decode cX12_isCitizen 1 = .ok (.iconst 0, 1) := by decide +kernel
theorem dX12_isCitizen_2 : decode cX12_isCitizen 2 = .ok (.aload_n 0, 1) := by decide +kernel
theorem dX12_isCitizen_3 : decode cX12_isCitizen 3 = .ok (.getfield 7, 3) := by decide +kernel
theorem dX12_isCitizen_6 : decode cX12_isCitizen 6 = .ok (.iconst 3, 1) := by decide +kernel
theorem dX12_isCitizen_7 : decode cX12_isCitizen 7 = .ok (.iaload, 1) := by decide +kernel
theorem dX12_isCitizen_8 : decode cX12_isCitizen 8 = .ok (.iconst 1, 1) := by decide +kernel
theorem dX12_isCitizen_9 : decode cX12_isCitizen 9 = .ok (.isub, 1) := by decide +kernel
theorem dX12_isCitizen_10 : decode cX12_isCitizen 10 = .ok (.invokestatic 114, 3) := by decide +kernel
theorem dX12_isCitizen_13 : decode cX12_isCitizen 13 = .ok (.ireturn, 1) := by decide +kernel
theorem dX12_of_0 : decode cX12_of 0 = .ok (.aload_n 0, 1) := by decide +kernel
theorem dX12_of_1 : decode cX12_of 1 = .ok (.getfield 7, 3) := by decide +kernel
theorem dX12_of_4 : decode cX12_of 4 = .ok (.bipush 20, 2) := by decide +kernel
theorem dX12_of_6 : decode cX12_of 6 = .ok (.bipush 8, 2) := by decide +kernel
theorem dX12_of_8 : decode cX12_of 8 = .ok (.iload_n 1, 1) := by decide +kernel
theorem dX12_of_9 : decode cX12_of 9 = .ok (.imul, 1) := by decide +kernel
theorem dX12_of_10 : decode cX12_of 10 = .ok (.iadd, 1) := by decide +kernel
theorem dX12_of_11 : decode cX12_of 11 = .ok (.iload_n 2, 1) := by decide +kernel
theorem dX12_of_12 : decode cX12_of 12 = .ok (.iadd, 1) := by decide +kernel
theorem dX12_of_13 : decode cX12_of 13 = .ok (.iaload, 1) := by decide +kernel
theorem dX12_of_14 : decode cX12_of 14 = .ok (.ireturn, 1) := by decide +kernel
theorem dX12_adds_0 : decode cX12_adds 0 = .ok (.aload_n 0, 1) := by decide +kernel
theorem dX12_adds_1 : decode cX12_adds 1 = .ok (.getfield 7, 3) := by decide +kernel
theorem dX12_adds_4 : decode cX12_adds 4 = .ok (.bipush 20, 2) := by decide +kernel
theorem dX12_adds_6 : decode cX12_adds 6 = .ok (.bipush 8, 2) := by decide +kernel
theorem dX12_adds_8 : decode cX12_adds 8 = .ok (.iload_n 1, 1) := by decide +kernel
theorem dX12_adds_9 : decode cX12_adds 9 = .ok (.imul, 1) := by decide +kernel
theorem dX12_adds_10 : decode cX12_adds 10 = .ok (.iadd, 1) := by decide +kernel
theorem dX12_adds_11 : decode cX12_adds 11 = .ok (.iload_n 2, 1) := by decide +kernel
theorem dX12_adds_12 : decode cX12_adds 12 = .ok (.iadd, 1) := by decide +kernel
theorem dX12_adds_13 : decode cX12_adds 13 = .ok (.dup2, 1) := by decide +kernel
theorem dX12_adds_14 : decode cX12_adds 14 = .ok (.iaload, 1) := by decide +kernel
theorem dX12_adds_15 : decode cX12_adds 15 = .ok (.iload_n 3, 1) := by decide +kernel
theorem dX12_adds_16 : decode cX12_adds 16 = .ok (.iadd, 1) := by decide +kernel
theorem dX12_adds_17 : decode cX12_adds 17 = .ok (.iastore, 1) := by decide +kernel
theorem dX12_adds_18 : decode cX12_adds 18 = .ok (.return_, 1) := by decide +kernel
set_option maxRecDepth 20000 in
theorem ggX12_citizen_X12_isIn : GoodIn wsX12_citizen wsX12_isIn := goodIn_r _ [5] (by decide +kernel) (by decide +kernel)
set_option maxRecDepth 20000 in
theorem gX12_citizen_X12_isIn : GoodIn wsX12_citizen (va_wsS RX12 114 yX12_isIn wsX12_isIn) := goodIn_app (goodIn_of _ (by decide +kernel)) ggX12_citizen_X12_isIn
theorem dX12_citizen_0 : decode cX12_citizen 0 = .ok (.aload_n 0, 1) := by decide +kernel
theorem dX12_citizen_1 : decode cX12_citizen 1 = .ok (.getfield 7, 3) := by decide +kernel
theorem dX12_citizen_4 : decode cX12_citizen 4 = .ok (.iconst 3, 1) := by decide +kernel
theorem dX12_citizen_5 : decode cX12_citizen 5 = .ok (.iaload, 1) := by decide +kernel
theorem dX12_citizen_6 : decode cX12_citizen 6 = .ok (.bipush 8, 2) := by decide +kernel
theorem dX12_citizen_8 : decode cX12_citizen 8 = .ok (.if_icmp .eq 13, 3) := by decide +kernel
theorem dX12_citizen_11 : decode cX12_citizen 11 = .ok (.iload_n 1, 1) := by decide +kernel
theorem dX12_citizen_12 : decode cX12_citizen 12 = .ok (.iconst 0, 1) := by decide +kernel
theorem dX12_citizen_13 : decode cX12_citizen 13 = .ok (.bipush 9, 2) := by decide +kernel
theorem dX12_citizen_15 : decode cX12_citizen 15 = .ok (.invokestatic 114, 3) := by decide +kernel
theorem dX12_citizen_18 : decode cX12_citizen 18 = .ok (.ifCond .ne 5, 3) := by decide +kernel
theorem dX12_citizen_21 : decode cX12_citizen 21 = .ok (.iconst (-1), 1) := by decide +kernel
theorem dX12_citizen_22 : decode cX12_citizen 22 = .ok (.ireturn, 1) := by decide +kernel
theorem dX12_citizen_23 : decode cX12_citizen 23 = .ok (.aload_n 0, 1) := by decide +kernel
theorem dX12_citizen_24 : decode cX12_citizen 24 = .ok (.getfield 7, 3) := by decide +kernel
theorem dX12_citizen_27 : decode cX12_citizen 27 = .ok (.iconst 3, 1) := by decide +kernel
theorem dX12_citizen_28 : decode cX12_citizen 28 = .ok (.iaload, 1) := by decide +kernel
theorem dX12_citizen_29 : decode cX12_citizen 29 = .ok (.istore_n 3, 1) := by decide +kernel
theorem dX12_citizen_30 : decode cX12_citizen 30 = .ok (.aload_n 0, 1) := by decide +kernel
theorem dX12_citizen_31 : decode cX12_citizen 31 = .ok (.getfield 7, 3) := by decide +kernel
theorem dX12_citizen_34 : decode cX12_citizen 34 = .ok (.iconst 3, 1) := by decide +kernel
theorem dX12_citizen_35 : decode cX12_citizen 35 = .ok (.dup2, 1) := by decide +kernel
theorem dX12_citizen_36 : decode cX12_citizen 36 = .ok (.iaload, 1) := by decide +kernel
theorem dX12_citizen_37 : decode cX12_citizen 37 = .ok (.iconst 1, 1) := by decide +kernel
theorem dX12_citizen_38 : decode cX12_citizen 38 = .ok (.iadd, 1) := by decide +kernel
theorem dX12_citizen_39 : decode cX12_citizen 39 = .ok (.iastore, 1) := by decide +kernel
theorem dX12_citizen_40 : decode cX12_citizen 40 = .ok (.iconst 0, 1) := by decide +kernel
theorem dX12_citizen_41 : decode cX12_citizen 41 = .ok (.istore 4, 2) := by decide +kernel
theorem dX12_citizen_43 : decode cX12_citizen 43 = .ok (.iload 4, 2) := by decide +kernel
theorem dX12_citizen_45 : decode cX12_citizen 45 = .ok (.bipush 8, 2) := by decide +kernel
theorem dX12_citizen_47 : decode cX12_citizen 47 = .ok (.if_icmp .ge 25, 3) := by decide +kernel
theorem dX12_citizen_50 : decode cX12_citizen 50 = .ok (.aload_n 0, 1) := by decide +kernel
theorem dX12_citizen_51 : decode cX12_citizen 51 = .ok (.getfield 7, 3) := by decide +kernel
theorem dX12_citizen_54 : decode cX12_citizen 54 = .ok (.bipush 20, 2) := by decide +kernel
theorem dX12_citizen_56 : decode cX12_citizen 56 = .ok (.bipush 8, 2) := by decide +kernel
theorem dX12_citizen_58 : decode cX12_citizen 58 = .ok (.iload_n 3, 1) := by decide +kernel
theorem dX12_citizen_59 : decode cX12_citizen 59 = .ok (.imul, 1) := by decide +kernel
theorem dX12_citizen_60 : decode cX12_citizen 60 = .ok (.iadd, 1) := by decide +kernel
theorem dX12_citizen_61 : decode cX12_citizen 61 = .ok (.iload 4, 2) := by decide +kernel
theorem dX12_citizen_63 : decode cX12_citizen 63 = .ok (.iadd, 1) := by decide +kernel
theorem dX12_citizen_64 : decode cX12_citizen 64 = .ok (.iconst 0, 1) := by decide +kernel
theorem dX12_citizen_65 : decode cX12_citizen 65 = .ok (.iastore, 1) := by decide +kernel
theorem dX12_citizen_66 : decode cX12_citizen 66 = .ok (.iinc 4 1, 3) := by decide +kernel
theorem dX12_citizen_69 : decode cX12_citizen 69 = .ok (.goto (-26), 3) := by decide +kernel
theorem dX12_citizen_72 : decode cX12_citizen 72 = .ok (.aload_n 0, 1) := by decide +kernel
theorem dX12_citizen_73 : decode cX12_citizen 73 = .ok (.getfield 7, 3) := by decide +kernel
theorem dX12_citizen_76 : decode cX12_citizen 76 = .ok (.bipush 20, 2) := by decide +kernel
theorem dX12_citizen_78 : decode cX12_citizen 78 = .ok (.bipush 8, 2) := by decide +kernel
theorem dX12_citizen_80 : decode cX12_citizen 80 = .ok (.iload_n 3, 1) := by decide +kernel
theorem dX12_citizen_81 : decode cX12_citizen 81 = .ok (.imul, 1) := by decide +kernel
theorem dX12_citizen_82 : decode cX12_citizen 82 = .ok (.iadd, 1) := by decide +kernel
theorem dX12_citizen_83 : decode cX12_citizen 83 = .ok (.iload_n 1, 1) := by decide +kernel
theorem dX12_citizen_84 : decode cX12_citizen 84 = .ok (.iastore, 1) := by decide +kernel
theorem dX12_citizen_85 : decode cX12_citizen 85 = .ok (.aload_n 0, 1) := by decide +kernel
theorem dX12_citizen_86 : decode cX12_citizen 86 = .ok (.getfield 7, 3) := by decide +kernel
theorem dX12_citizen_89 : decode cX12_citizen 89 = .ok (.bipush 20, 2) := by decide +kernel
theorem dX12_citizen_91 : decode cX12_citizen 91 = .ok (.bipush 8, 2) := by decide +kernel
theorem dX12_citizen_93 : decode cX12_citizen 93 = .ok (.iload_n 3, 1) := by decide +kernel
theorem dX12_citizen_94 : decode cX12_citizen 94 = .ok (.imul, 1) := by decide +kernel
theorem dX12_citizen_95 : decode cX12_citizen 95 = .ok (.iadd, 1) := by decide +kernel
theorem dX12_citizen_96 : decode cX12_citizen 96 = .ok (.iconst 1, 1) := by decide +kernel
theorem dX12_citizen_97 : decode cX12_citizen 97 = .ok (.iadd, 1) := by decide +kernel
theorem dX12_citizen_98 : decode cX12_citizen 98 = .ok (.iload_n 2, 1) := by decide +kernel
theorem dX12_citizen_99 : decode cX12_citizen 99 = .ok (.ifCond .eq 7, 3) := by decide +kernel
theorem dX12_citizen_102 : decode cX12_citizen 102 = .ok (.iconst 1, 1) := by decide +kernel
theorem dX12_citizen_103 : decode cX12_citizen 103 = .ok (.goto 4, 3) := by decide +kernel
theorem dX12_citizen_106 : decode cX12_citizen 106 = .ok (.iconst 0, 1) := by decide +kernel
theorem dX12_citizen_107 : decode cX12_citizen 107 = .ok (.iastore, 1) := by decide +kernel
