theorem dX12_citizen_108 : decode cX12_citizen 108 = .ok (.iload_n 3, 1) := by decide +kernel
theorem dX12_citizen_109 : decode cX12_citizen 109 = .ok (.ireturn, 1) := by decide +kernel
theorem dX12_mostOf_0 : decode cX12_mostOf 0 = .ok (.iload_n 0, 1) := by decide +kernel
theorem dX12_mostOf_1 : decode cX12_mostOf 1 = .ok (.iconst 2, 1) := by decide +kernel
theorem dX12_mostOf_2 : decode cX12_mostOf 2 = .ok (.if_icmp .ne 9, 3) := by decide +kernel
theorem dX12_mostOf_5 : decode cX12_mostOf 5 = .ok (.sipush 12000, 3) := by decide +kernel
theorem dX12_mostOf_8 : decode cX12_mostOf 8 = .ok (.goto 16, 3) := by decide +kernel
theorem dX12_mostOf_11 : decode cX12_mostOf 11 = .ok (.iload_n 0, 1) := by decide +kernel
theorem dX12_mostOf_12 : decode cX12_mostOf 12 = .ok (.iconst 3, 1) := by decide +kernel
theorem dX12_mostOf_13 : decode cX12_mostOf 13 = .ok (.if_icmp .ne 8, 3) := by decide +kernel
theorem dX12_mostOf_16 : decode cX12_mostOf 16 = .ok (.bipush 9, 2) := by decide +kernel
theorem dX12_mostOf_18 : decode cX12_mostOf 18 = .ok (.goto 6, 3) := by decide +kernel
theorem dX12_mostOf_21 : decode cX12_mostOf 21 = .ok (.sipush 2400, 3) := by decide +kernel
theorem dX12_mostOf_24 : decode cX12_mostOf 24 = .ok (.ireturn, 1) := by decide +kernel
set_option maxRecDepth 20000 in
theorem ggX12_rule_X12_isIn : GoodIn wsX12_rule wsX12_isIn := goodIn_r _ [5] (by decide +kernel) (by decide +kernel)
set_option maxRecDepth 20000 in
theorem gX12_rule_X12_isIn : GoodIn wsX12_rule (va_wsS RX12 114 yX12_isIn wsX12_isIn) := goodIn_app (goodIn_of _ (by decide +kernel)) ggX12_rule_X12_isIn
set_option maxRecDepth 20000 in
theorem ggX12_rule_X12_mostOf : GoodIn wsX12_rule wsX12_mostOf := goodIn_r _ [8] (by decide +kernel) (by decide +kernel)
set_option maxRecDepth 20000 in
theorem gX12_rule_X12_mostOf : GoodIn wsX12_rule (va_wsS RX12 142 yX12_mostOf wsX12_mostOf) := goodIn_app (goodIn_of _ (by decide +kernel)) ggX12_rule_X12_mostOf
theorem dX12_rule_0 : decode cX12_rule 0 = .ok (.iload_n 1, 1) := by decide +kernel
theorem dX12_rule_1 : decode cX12_rule 1 = .ok (.iconst 0, 1) := by decide +kernel
theorem dX12_rule_2 : decode cX12_rule 2 = .ok (.iconst 3, 1) := by decide +kernel
theorem dX12_rule_3 : decode cX12_rule 3 = .ok (.invokestatic 114, 3) := by decide +kernel
theorem dX12_rule_6 : decode cX12_rule 6 = .ok (.ifCond .eq 15, 3) := by decide +kernel
theorem dX12_rule_9 : decode cX12_rule 9 = .ok (.iload_n 2, 1) := by decide +kernel
theorem dX12_rule_10 : decode cX12_rule 10 = .ok (.iconst 0, 1) := by decide +kernel
theorem dX12_rule_11 : decode cX12_rule 11 = .ok (.iload_n 1, 1) := by decide +kernel
theorem dX12_rule_12 : decode cX12_rule 12 = .ok (.invokestatic 142, 3) := by decide +kernel
theorem dX12_rule_15 : decode cX12_rule 15 = .ok (.invokestatic 114, 3) := by decide +kernel
theorem dX12_rule_18 : decode cX12_rule 18 = .ok (.ifCond .ne 5, 3) := by decide +kernel
theorem dX12_rule_21 : decode cX12_rule 21 = .ok (.iconst 0, 1) := by decide +kernel
theorem dX12_rule_22 : decode cX12_rule 22 = .ok (.ireturn, 1) := by decide +kernel
theorem dX12_rule_23 : decode cX12_rule 23 = .ok (.aload_n 0, 1) := by decide +kernel
theorem dX12_rule_24 : decode cX12_rule 24 = .ok (.getfield 7, 3) := by decide +kernel
theorem dX12_rule_27 : decode cX12_rule 27 = .ok (.bipush 8, 2) := by decide +kernel
theorem dX12_rule_29 : decode cX12_rule 29 = .ok (.iload_n 1, 1) := by decide +kernel
theorem dX12_rule_30 : decode cX12_rule 30 = .ok (.iadd, 1) := by decide +kernel
theorem dX12_rule_31 : decode cX12_rule 31 = .ok (.iload_n 2, 1) := by decide +kernel
theorem dX12_rule_32 : decode cX12_rule 32 = .ok (.iastore, 1) := by decide +kernel
theorem dX12_rule_33 : decode cX12_rule 33 = .ok (.iconst 1, 1) := by decide +kernel
theorem dX12_rule_34 : decode cX12_rule 34 = .ok (.ireturn, 1) := by decide +kernel
set_option maxRecDepth 20000 in
theorem ggX12_asked_X12_of : GoodIn wsX12_asked wsX12_of := goodIn_r _ [6, 1, 7, 8, 9, 10, 11, 12, 13, 14, 15, 16, 17, 18, 19, 20, 21, 22, 23, 24, 25, 26, 27] (by decide +kernel) (by decide +kernel)
set_option maxRecDepth 20000 in
theorem gX12_asked_X12_of : GoodIn wsX12_asked (wsV RX12 145 RX12 yX12_of wsX12_of) := goodIn_app (goodIn_of _ (by decide +kernel)) ggX12_asked_X12_of
theorem dX12_asked_0 : decode cX12_asked 0 = .ok (.iload_n 2, 1) := by decide +kernel
theorem dX12_asked_1 : decode cX12_asked 1 = .ok (.tableswitch 59 1 4 #[31, 38, 45, 52], 31) := by decide +kernel
theorem dX12_asked_32 : decode cX12_asked 32 = .ok (.aload_n 0, 1) := by decide +kernel
theorem dX12_asked_33 : decode cX12_asked 33 = .ok (.iload_n 1, 1) := by decide +kernel
theorem dX12_asked_34 : decode cX12_asked 34 = .ok (.iconst 1, 1) := by decide +kernel
theorem dX12_asked_35 : decode cX12_asked 35 = .ok (.invokevirtual 145, 3) := by decide +kernel
theorem dX12_asked_38 : decode cX12_asked 38 = .ok (.ireturn, 1) := by decide +kernel
theorem dX12_asked_39 : decode cX12_asked 39 = .ok (.aload_n 0, 1) := by decide +kernel
theorem dX12_asked_40 : decode cX12_asked 40 = .ok (.iload_n 1, 1) := by decide +kernel
theorem dX12_asked_41 : decode cX12_asked 41 = .ok (.iconst 0, 1) := by decide +kernel
theorem dX12_asked_42 : decode cX12_asked 42 = .ok (.invokevirtual 145, 3) := by decide +kernel
theorem dX12_asked_45 : decode cX12_asked 45 = .ok (.ireturn, 1) := by decide +kernel
theorem dX12_asked_46 : decode cX12_asked 46 = .ok (.aload_n 0, 1) := by decide +kernel
theorem dX12_asked_47 : decode cX12_asked 47 = .ok (.getfield 7, 3) := by decide +kernel
theorem dX12_asked_50 : decode cX12_asked 50 = .ok (.iconst 0, 1) := by decide +kernel
theorem dX12_asked_51 : decode cX12_asked 51 = .ok (.iaload, 1) := by decide +kernel
theorem dX12_asked_52 : decode cX12_asked 52 = .ok (.ireturn, 1) := by decide +kernel
theorem dX12_asked_53 : decode cX12_asked 53 = .ok (.aload_n 0, 1) := by decide +kernel
theorem dX12_asked_54 : decode cX12_asked 54 = .ok (.iload_n 1, 1) := by decide +kernel
theorem dX12_asked_55 : decode cX12_asked 55 = .ok (.iconst 3, 1) := by decide +kernel
theorem dX12_asked_56 : decode cX12_asked 56 = .ok (.invokevirtual 145, 3) := by decide +kernel
theorem dX12_asked_59 : decode cX12_asked 59 = .ok (.ireturn, 1) := by decide +kernel
theorem dX12_asked_60 : decode cX12_asked 60 = .ok (.aload_n 0, 1) := by decide +kernel
theorem dX12_asked_61 : decode cX12_asked 61 = .ok (.getfield 7, 3) := by decide +kernel
theorem dX12_asked_64 : decode cX12_asked 64 = .ok (.bipush 6, 2) := by decide +kernel
theorem dX12_asked_66 : decode cX12_asked 66 = .ok (.iaload, 1) := by decide +kernel
theorem dX12_asked_67 : decode cX12_asked 67 = .ok (.ireturn, 1) := by decide +kernel
set_option maxRecDepth 20000 in
theorem ggX12_holds_X12_asked : GoodIn wsX12_holds wsX12_asked := goodIn_r _ [6, 1, 7, 8, 9, 5, 10, 11, 12, 13, 14, 15, 16, 17, 18, 19, 20, 21, 22, 23, 24, 25, 26, 27, 28, 29, 30, 31] (by decide +kernel) (by decide +kernel)
set_option maxRecDepth 20000 in
theorem gX12_holds_X12_asked : GoodIn wsX12_holds (wsV RX12 149 RX12 yX12_asked wsX12_asked) := goodIn_app (goodIn_of _ (by decide +kernel)) ggX12_holds_X12_asked
theorem dX12_holds_0 : decode cX12_holds 0 = .ok (.iconst 1, 1) := by decide +kernel
theorem dX12_holds_1 : decode cX12_holds 1 = .ok (.istore_n 3, 1) := by decide +kernel
theorem dX12_holds_2 : decode cX12_holds 2 = .ok (.iconst 0, 1) := by decide +kernel
theorem dX12_holds_3 : decode cX12_holds 3 = .ok (.istore 4, 2) := by decide +kernel
theorem dX12_holds_5 : decode cX12_holds 5 = .ok (.iload 4, 2) := by decide +kernel
theorem dX12_holds_7 : decode cX12_holds 7 = .ok (.aload_n 0, 1) := by decide +kernel
theorem dX12_holds_8 : decode cX12_holds 8 = .ok (.getfield 7, 3) := by decide +kernel
theorem dX12_holds_11 : decode cX12_holds 11 = .ok (.iload_n 2, 1) := by decide +kernel
theorem dX12_holds_12 : decode cX12_holds 12 = .ok (.iaload, 1) := by decide +kernel
theorem dX12_holds_13 : decode cX12_holds 13 = .ok (.if_icmp .ge 149, 3) := by decide +kernel
theorem dX12_holds_16 : decode cX12_holds 16 = .ok (.iload_n 3, 1) := by decide +kernel
theorem dX12_holds_17 : decode cX12_holds 17 = .ok (.ifCond .eq 145, 3) := by decide +kernel
theorem dX12_holds_20 : decode cX12_holds 20 = .ok (.iload_n 2, 1) := by decide +kernel
theorem dX12_holds_21 : decode cX12_holds 21 = .ok (.iconst 1, 1) := by decide +kernel
theorem dX12_holds_22 : decode cX12_holds 22 = .ok (.iadd, 1) := by decide +kernel
theorem dX12_holds_23 : decode cX12_holds 23 = .ok (.iconst 4, 1) := by decide +kernel
theorem dX12_holds_24 : decode cX12_holds 24 = .ok (.iload 4, 2) := by decide +kernel
theorem dX12_holds_26 : decode cX12_holds 26 = .ok (.imul, 1) := by decide +kernel
theorem dX12_holds_27 : decode cX12_holds 27 = .ok (.iadd, 1) := by decide +kernel
theorem dX12_holds_28 : decode cX12_holds 28 = .ok (.istore 5, 2) := by decide +kernel
theorem dX12_holds_30 : decode cX12_holds 30 = .ok (.aload_n 0, 1) := by decide +kernel
theorem dX12_holds_31 : decode cX12_holds 31 = .ok (.iload_n 1, 1) := by decide +kernel
theorem dX12_holds_32 : decode cX12_holds 32 = .ok (.aload_n 0, 1) := by decide +kernel
theorem dX12_holds_33 : decode cX12_holds 33 = .ok (.getfield 7, 3) := by decide +kernel
theorem dX12_holds_36 : decode cX12_holds 36 = .ok (.iload 5, 2) := by decide +kernel
theorem dX12_holds_38 : decode cX12_holds 38 = .ok (.iconst 1, 1) := by decide +kernel
theorem dX12_holds_39 : decode cX12_holds 39 = .ok (.iadd, 1) := by decide +kernel
theorem dX12_holds_40 : decode cX12_holds 40 = .ok (.iaload, 1) := by decide +kernel
theorem dX12_holds_41 : decode cX12_holds 41 = .ok (.invokevirtual 149, 3) := by decide +kernel
theorem dX12_holds_44 : decode cX12_holds 44 = .ok (.istore 6, 2) := by decide +kernel
theorem dX12_holds_46 : decode cX12_holds 46 = .ok (.aload_n 0, 1) := by decide +kernel
theorem dX12_holds_47 : decode cX12_holds 47 = .ok (.getfield 7, 3) := by decide +kernel
theorem dX12_holds_50 : decode cX12_holds 50 = .ok (.iload 5, 2) := by decide +kernel
theorem dX12_holds_52 : decode cX12_holds 52 = .ok (.iconst 3, 1) := by decide +kernel
theorem dX12_holds_53 : decode cX12_holds 53 = .ok (.iadd, 1) := by decide +kernel
theorem dX12_holds_54 : decode cX12_holds 54 = .ok (.iaload, 1) := by decide +kernel
theorem dX12_holds_55 : decode cX12_holds 55 = .ok (.istore 7, 2) := by decide +kernel
theorem dX12_holds_57 : decode cX12_holds 57 = .ok (.aload_n 0, 1) := by decide +kernel
theorem dX12_holds_58 : decode cX12_holds 58 = .ok (.getfield 7, 3) := by decide +kernel
theorem dX12_holds_61 : decode cX12_holds 61 = .ok (.iload 5, 2) := by decide +kernel
theorem dX12_holds_63 : decode cX12_holds 63 = .ok (.iconst 2, 1) := by decide +kernel
theorem dX12_holds_64 : decode cX12_holds 64 = .ok (.iadd, 1) := by decide +kernel
theorem dX12_holds_65 : decode cX12_holds 65 = .ok (.iaload, 1) := by decide +kernel
theorem dX12_holds_66 : decode cX12_holds 66 = .ok (.bipush 60, 2) := by decide +kernel
theorem dX12_holds_68 : decode cX12_holds 68 = .ok (.if_icmp .ne 18, 3) := by decide +kernel
theorem dX12_holds_71 : decode cX12_holds 71 = .ok (.iload 6, 2) := by decide +kernel
theorem dX12_holds_73 : decode cX12_holds 73 = .ok (.iload 7, 2) := by decide +kernel
theorem dX12_holds_75 : decode cX12_holds 75 = .ok (.if_icmp .ge 7, 3) := by decide +kernel
theorem dX12_holds_78 : decode cX12_holds 78 = .ok (.iconst 1, 1) := by decide +kernel
theorem dX12_holds_79 : decode cX12_holds 79 = .ok (.goto 48, 3) := by decide +kernel
theorem dX12_holds_82 : decode cX12_holds 82 = .ok (.iconst 0, 1) := by decide +kernel
theorem dX12_holds_83 : decode cX12_holds 83 = .ok (.goto 44, 3) := by decide +kernel
theorem dX12_holds_86 : decode cX12_holds 86 = .ok (.aload_n 0, 1) := by decide +kernel
theorem dX12_holds_87 : decode cX12_holds 87 = .ok (.getfield 7, 3) := by decide +kernel
theorem dX12_holds_90 : decode cX12_holds 90 = .ok (.iload 5, 2) := by decide +kernel
theorem dX12_holds_92 : decode cX12_holds 92 = .ok (.iconst 2, 1) := by decide +kernel
theorem dX12_holds_93 : decode cX12_holds 93 = .ok (.iadd, 1) := by decide +kernel
theorem dX12_holds_94 : decode cX12_holds 94 = .ok (.iaload, 1) := by decide +kernel
theorem dX12_holds_95 : decode cX12_holds 95 = .ok (.bipush 62, 2) := by decide +kernel
theorem dX12_holds_97 : decode cX12_holds 97 = .ok (.if_icmp .ne 18, 3) := by decide +kernel
theorem dX12_holds_100 : decode cX12_holds 100 = .ok (.iload 6, 2) := by decide +kernel
theorem dX12_holds_102 : decode cX12_holds 102 = .ok (.iload 7, 2) := by decide +kernel
theorem dX12_holds_104 : decode cX12_holds 104 = .ok (.if_icmp .le 7, 3) := by decide +kernel
theorem dX12_holds_107 : decode cX12_holds 107 = .ok (.iconst 1, 1) := by decide +kernel
theorem dX12_holds_108 : decode cX12_holds 108 = .ok (.goto 19, 3) := by decide +kernel
theorem dX12_holds_111 : decode cX12_holds 111 = .ok (.iconst 0, 1) := by decide +kernel
theorem dX12_holds_112 : decode cX12_holds 112 = .ok (.goto 15, 3) := by decide +kernel
theorem dX12_holds_115 : decode cX12_holds 115 = .ok (.iload 6, 2) := by decide +kernel
theorem dX12_holds_117 : decode cX12_holds 117 = .ok (.iload 7, 2) := by decide +kernel
theorem dX12_holds_119 : decode cX12_holds 119 = .ok (.if_icmp .ne 7, 3) := by decide +kernel
theorem dX12_holds_122 : decode cX12_holds 122 = .ok (.iconst 1, 1) := by decide +kernel
theorem dX12_holds_123 : decode cX12_holds 123 = .ok (.goto 4, 3) := by decide +kernel
theorem dX12_holds_126 : decode cX12_holds 126 = .ok (.iconst 0, 1) := by decide +kernel
theorem dX12_holds_127 : decode cX12_holds 127 = .ok (.istore 8, 2) := by decide +kernel
theorem dX12_holds_129 : decode cX12_holds 129 = .ok (.iload 8, 2) := by decide +kernel
theorem dX12_holds_131 : decode cX12_holds 131 = .ok (.aload_n 0, 1) := by decide +kernel
theorem dX12_holds_132 : decode cX12_holds 132 = .ok (.getfield 7, 3) := by decide +kernel
theorem dX12_holds_135 : decode cX12_holds 135 = .ok (.iload 5, 2) := by decide +kernel
theorem dX12_holds_137 : decode cX12_holds 137 = .ok (.iaload, 1) := by decide +kernel
theorem dX12_holds_138 : decode cX12_holds 138 = .ok (.iconst 1, 1) := by decide +kernel
theorem dX12_holds_139 : decode cX12_holds 139 = .ok (.if_icmp .ne 7, 3) := by decide +kernel
theorem dX12_holds_142 : decode cX12_holds 142 = .ok (.iconst 1, 1) := by decide +kernel
theorem dX12_holds_143 : decode cX12_holds 143 = .ok (.goto 4, 3) := by decide +kernel
theorem dX12_holds_146 : decode cX12_holds 146 = .ok (.iconst 0, 1) := by decide +kernel
theorem dX12_holds_147 : decode cX12_holds 147 = .ok (.if_icmp .eq 7, 3) := by decide +kernel
theorem dX12_holds_150 : decode cX12_holds 150 = .ok (.iconst 1, 1) := by decide +kernel
theorem dX12_holds_151 : decode cX12_holds 151 = .ok (.goto 4, 3) := by decide +kernel
theorem dX12_holds_154 : decode cX12_holds 154 = .ok (.iconst 0, 1) := by decide +kernel
theorem dX12_holds_155 : decode cX12_holds 155 = .ok (.istore_n 3, 1) := by decide +kernel
theorem dX12_holds_156 : decode cX12_holds 156 = .ok (.iinc 4 1, 3) := by decide +kernel
theorem dX12_holds_159 : decode cX12_holds 159 = .ok (.goto (-154), 3) := by decide +kernel
theorem dX12_holds_162 : decode cX12_holds 162 = .ok (.iload_n 3, 1) := by decide +kernel
theorem dX12_holds_163 : decode cX12_holds 163 = .ok (.ireturn, 1) := by decide +kernel
set_option maxRecDepth 20000 in
theorem ggX12_share_X12_holds : GoodIn wsX12_share wsX12_holds := goodIn_r _ [6, 1, 7, 8, 9, 5, 10, 11, 12, 13, 14, 15, 16, 17, 18, 19, 20, 21, 22, 23, 24, 25, 26, 27, 28, 29, 30, 31, 32, 33, 34, 35] (by decide +kernel) (by decide +kernel)
set_option maxRecDepth 20000 in
theorem gX12_share_X12_holds : GoodIn wsX12_share (wsV RX12 152 RX12 yX12_holds wsX12_holds) := goodIn_app (goodIn_of _ (by decide +kernel)) ggX12_share_X12_holds
theorem dX12_share_0 : decode cX12_share 0 = .ok (.iconst 0, 1) := by decide +kernel
theorem dX12_share_1 : decode cX12_share 1 = .ok (.istore_n 2, 1) := by decide +kernel
theorem dX12_share_2 : decode cX12_share 2 = .ok (.iconst 0, 1) := by decide +kernel
theorem dX12_share_3 : decode cX12_share 3 = .ok (.istore_n 3, 1) := by decide +kernel
theorem dX12_share_4 : decode cX12_share 4 = .ok (.iload_n 3, 1) := by decide +kernel
theorem dX12_share_5 : decode cX12_share 5 = .ok (.aload_n 0, 1) := by decide +kernel
theorem dX12_share_6 : decode cX12_share 6 = .ok (.getfield 7, 3) := by decide +kernel
theorem dX12_share_9 : decode cX12_share 9 = .ok (.bipush 7, 2) := by decide +kernel
theorem dX12_share_11 : decode cX12_share 11 = .ok (.iaload, 1) := by decide +kernel
theorem dX12_share_12 : decode cX12_share 12 = .ok (.if_icmp .ge 90, 3) := by decide +kernel
theorem dX12_share_15 : decode cX12_share 15 = .ok (.sipush 2080, 3) := by decide +kernel
theorem dX12_share_18 : decode cX12_share 18 = .ok (.bipush 19, 2) := by decide +kernel
theorem dX12_share_20 : decode cX12_share 20 = .ok (.iload_n 3, 1) := by decide +kernel
theorem dX12_share_21 : decode cX12_share 21 = .ok (.imul, 1) := by decide +kernel
theorem dX12_share_22 : decode cX12_share 22 = .ok (.iadd, 1) := by decide +kernel
theorem dX12_share_23 : decode cX12_share 23 = .ok (.istore 4, 2) := by decide +kernel
theorem dX12_share_25 : decode cX12_share 25 = .ok (.aload_n 0, 1) := by decide +kernel
theorem dX12_share_26 : decode cX12_share 26 = .ok (.iload_n 1, 1) := by decide +kernel
theorem dX12_share_27 : decode cX12_share 27 = .ok (.iload 4, 2) := by decide +kernel
theorem dX12_share_29 : decode cX12_share 29 = .ok (.invokevirtual 152, 3) := by decide +kernel
theorem dX12_share_32 : decode cX12_share 32 = .ok (.ifCond .ne 6, 3) := by decide +kernel
theorem dX12_share_35 : decode cX12_share 35 = .ok (.goto 61, 3) := by decide +kernel
theorem dX12_share_38 : decode cX12_share 38 = .ok (.aload_n 0, 1) := by decide +kernel
theorem dX12_share_39 : decode cX12_share 39 = .ok (.getfield 7, 3) := by decide +kernel
theorem dX12_share_42 : decode cX12_share 42 = .ok (.iload 4, 2) := by decide +kernel
theorem dX12_share_44 : decode cX12_share 44 = .ok (.bipush 17, 2) := by decide +kernel
theorem dX12_share_46 : decode cX12_share 46 = .ok (.iadd, 1) := by decide +kernel
theorem dX12_share_47 : decode cX12_share 47 = .ok (.iaload, 1) := by decide +kernel
theorem dX12_share_48 : decode cX12_share 48 = .ok (.bipush 22, 2) := by decide +kernel
theorem dX12_share_50 : decode cX12_share 50 = .ok (.if_icmp .ne 5, 3) := by decide +kernel
theorem dX12_share_53 : decode cX12_share 53 = .ok (.iconst 0, 1) := by decide +kernel
theorem dX12_share_54 : decode cX12_share 54 = .ok (.ireturn, 1) := by decide +kernel
theorem dX12_share_55 : decode cX12_share 55 = .ok (.aload_n 0, 1) := by decide +kernel
theorem dX12_share_56 : decode cX12_share 56 = .ok (.getfield 7, 3) := by decide +kernel
theorem dX12_share_59 : decode cX12_share 59 = .ok (.iload 4, 2) := by decide +kernel
theorem dX12_share_61 : decode cX12_share 61 = .ok (.bipush 17, 2) := by decide +kernel
theorem dX12_share_63 : decode cX12_share 63 = .ok (.iadd, 1) := by decide +kernel
theorem dX12_share_64 : decode cX12_share 64 = .ok (.iaload, 1) := by decide +kernel
theorem dX12_share_65 : decode cX12_share 65 = .ok (.bipush 20, 2) := by decide +kernel
theorem dX12_share_67 : decode cX12_share 67 = .ok (.if_icmp .ne 16, 3) := by decide +kernel
theorem dX12_share_70 : decode cX12_share 70 = .ok (.aload_n 0, 1) := by decide +kernel
theorem dX12_share_71 : decode cX12_share 71 = .ok (.getfield 7, 3) := by decide +kernel
theorem dX12_share_74 : decode cX12_share 74 = .ok (.iload 4, 2) := by decide +kernel
theorem dX12_share_76 : decode cX12_share 76 = .ok (.bipush 18, 2) := by decide +kernel
theorem dX12_share_78 : decode cX12_share 78 = .ok (.iadd, 1) := by decide +kernel
theorem dX12_share_79 : decode cX12_share 79 = .ok (.iaload, 1) := by decide +kernel
theorem dX12_share_80 : decode cX12_share 80 = .ok (.goto 15, 3) := by decide +kernel
theorem dX12_share_83 : decode cX12_share 83 = .ok (.iload_n 2, 1) := by decide +kernel
theorem dX12_share_84 : decode cX12_share 84 = .ok (.aload_n 0, 1) := by decide +kernel
theorem dX12_share_85 : decode cX12_share 85 = .ok (.getfield 7, 3) := by decide +kernel
theorem dX12_share_88 : decode cX12_share 88 = .ok (.iload 4, 2) := by decide +kernel
theorem dX12_share_90 : decode cX12_share 90 = .ok (.bipush 18, 2) := by decide +kernel
theorem dX12_share_92 : decode cX12_share 92 = .ok (.iadd, 1) := by decide +kernel
theorem dX12_share_93 : decode cX12_share 93 = .ok (.iaload, 1) := by decide +kernel
theorem dX12_share_94 : decode cX12_share 94 = .ok (.iadd, 1) := by decide +kernel
theorem dX12_share_95 : decode cX12_share 95 = .ok (.istore_n 2, 1) := by decide +kernel
theorem dX12_share_96 : decode cX12_share 96 = .ok (.iinc 3 1, 3) := by decide +kernel
theorem dX12_share_99 : decode cX12_share 99 = .ok (.goto (-95), 3) := by decide +kernel
theorem dX12_share_102 : decode cX12_share 102 = .ok (.iload_n 2, 1) := by decide +kernel
theorem dX12_share_103 : decode cX12_share 103 = .ok (.ireturn, 1) := by decide +kernel
set_option maxRecDepth 20000 in
theorem ggX12_give_X12_share : GoodIn wsX12_give wsX12_share := goodIn_r _ [8, 1, 9, 10, 11, 7, 12, 13, 14, 15, 16, 17, 18, 19, 20, 24, 25, 26, 27, 28, 29, 30, 31, 32, 33, 34, 35, 36, 37, 38, 39, 40, 41, 42, 43, 44] (by decide +kernel) (by decide +kernel)
set_option maxRecDepth 20000 in
theorem gX12_give_X12_share : GoodIn wsX12_give (wsV RX12 156 RX12 yX12_share wsX12_share) := goodIn_app (goodIn_of _ (by decide +kernel)) ggX12_give_X12_share
set_option maxRecDepth 20000 in
theorem ggX12_give_X12_isIn : GoodIn wsX12_give wsX12_isIn := goodIn_r _ [23] (by decide +kernel) (by decide +kernel)
set_option maxRecDepth 20000 in
theorem gX12_give_X12_isIn : GoodIn wsX12_give (va_wsS RX12 114 yX12_isIn wsX12_isIn) := goodIn_app (goodIn_of _ (by decide +kernel)) ggX12_give_X12_isIn
theorem dX12_give_0 : decode cX12_give 0 = .ok (.iconst 0, 1) := by decide +kernel
theorem dX12_give_1 : decode cX12_give 1 = .ok (.istore_n 2, 1) := by decide +kernel
theorem dX12_give_2 : decode cX12_give 2 = .ok (.iconst 0, 1) := by decide +kernel
theorem dX12_give_3 : decode cX12_give 3 = .ok (.istore_n 3, 1) := by decide +kernel
theorem dX12_give_4 : decode cX12_give 4 = .ok (.iload_n 3, 1) := by decide +kernel
theorem dX12_give_5 : decode cX12_give 5 = .ok (.aload_n 0, 1) := by decide +kernel
theorem dX12_give_6 : decode cX12_give 6 = .ok (.getfield 7, 3) := by decide +kernel
theorem dX12_give_9 : decode cX12_give 9 = .ok (.iconst 3, 1) := by decide +kernel
theorem dX12_give_10 : decode cX12_give 10 = .ok (.iaload, 1) := by decide +kernel
theorem dX12_give_11 : decode cX12_give 11 = .ok (.if_icmp .ge 17, 3) := by decide +kernel
theorem dX12_give_14 : decode cX12_give 14 = .ok (.iload_n 2, 1) := by decide +kernel
theorem dX12_give_15 : decode cX12_give 15 = .ok (.aload_n 0, 1) := by decide +kernel
theorem dX12_give_16 : decode cX12_give 16 = .ok (.iload_n 3, 1) := by decide +kernel
theorem dX12_give_17 : decode cX12_give 17 = .ok (.invokevirtual 156, 3) := by decide +kernel
theorem dX12_give_20 : decode cX12_give 20 = .ok (.iadd, 1) := by decide +kernel
theorem dX12_give_21 : decode cX12_give 21 = .ok (.istore_n 2, 1) := by decide +kernel
theorem dX12_give_22 : decode cX12_give 22 = .ok (.iinc 3 1, 3) := by decide +kernel
theorem dX12_give_25 : decode cX12_give 25 = .ok (.goto (-21), 3) := by decide +kernel
theorem dX12_give_28 : decode cX12_give 28 = .ok (.aload_n 0, 1) := by decide +kernel
theorem dX12_give_29 : decode cX12_give 29 = .ok (.getfield 7, 3) := by decide +kernel
theorem dX12_give_32 : decode cX12_give 32 = .ok (.iconst 1, 1) := by decide +kernel
theorem dX12_give_33 : decode cX12_give 33 = .ok (.iaload, 1) := by decide +kernel
theorem dX12_give_34 : decode cX12_give 34 = .ok (.iconst 1, 1) := by decide +kernel
theorem dX12_give_35 : decode cX12_give 35 = .ok (.if_icmp .eq 27, 3) := by decide +kernel
theorem dX12_give_38 : decode cX12_give 38 = .ok (.aload_n 0, 1) := by decide +kernel
theorem dX12_give_39 : decode cX12_give 39 = .ok (.getfield 7, 3) := by decide +kernel
theorem dX12_give_42 : decode cX12_give 42 = .ok (.iconst 2, 1) := by decide +kernel
theorem dX12_give_43 : decode cX12_give 43 = .ok (.iaload, 1) := by decide +kernel
theorem dX12_give_44 : decode cX12_give 44 = .ok (.ifCond .gt 18, 3) := by decide +kernel
theorem dX12_give_47 : decode cX12_give 47 = .ok (.iload_n 1, 1) := by decide +kernel
theorem dX12_give_48 : decode cX12_give 48 = .ok (.iconst 1, 1) := by decide +kernel
theorem dX12_give_49 : decode cX12_give 49 = .ok (.sipush 400, 3) := by decide +kernel
theorem dX12_give_52 : decode cX12_give 52 = .ok (.invokestatic 114, 3) := by decide +kernel
theorem dX12_give_55 : decode cX12_give 55 = .ok (.ifCond .eq 7, 3) := by decide +kernel
theorem dX12_give_58 : decode cX12_give 58 = .ok (.iload_n 2, 1) := by decide +kernel
theorem dX12_give_59 : decode cX12_give 59 = .ok (.ifCond .ne 5, 3) := by decide +kernel
theorem dX12_give_62 : decode cX12_give 62 = .ok (.iconst 0, 1) := by decide +kernel
theorem dX12_give_63 : decode cX12_give 63 = .ok (.ireturn, 1) := by decide +kernel
theorem dX12_give_64 : decode cX12_give 64 = .ok (.iload_n 1, 1) := by decide +kernel
theorem dX12_give_65 : decode cX12_give 65 = .ok (.istore_n 3, 1) := by decide +kernel
theorem dX12_give_66 : decode cX12_give 66 = .ok (.iconst 0, 1) := by decide +kernel
theorem dX12_give_67 : decode cX12_give 67 = .ok (.istore 4, 2) := by decide +kernel
theorem dX12_give_69 : decode cX12_give 69 = .ok (.iload 4, 2) := by decide +kernel
theorem dX12_give_71 : decode cX12_give 71 = .ok (.aload_n 0, 1) := by decide +kernel
theorem dX12_give_72 : decode cX12_give 72 = .ok (.getfield 7, 3) := by decide +kernel
theorem dX12_give_75 : decode cX12_give 75 = .ok (.iconst 3, 1) := by decide +kernel
theorem dX12_give_76 : decode cX12_give 76 = .ok (.iaload, 1) := by decide +kernel
theorem dX12_give_77 : decode cX12_give 77 = .ok (.if_icmp .ge 53, 3) := by decide +kernel
theorem dX12_give_80 : decode cX12_give 80 = .ok (.aload_n 0, 1) := by decide +kernel
theorem dX12_give_81 : decode cX12_give 81 = .ok (.getfield 26, 3) := by decide +kernel
theorem dX12_give_84 : decode cX12_give 84 = .ok (.iload 4, 2) := by decide +kernel
theorem dX12_give_86 : decode cX12_give 86 = .ok (.iload_n 1, 1) := by decide +kernel
theorem dX12_give_87 : decode cX12_give 87 = .ok (.aload_n 0, 1) := by decide +kernel
theorem dX12_give_88 : decode cX12_give 88 = .ok (.iload 4, 2) := by decide +kernel
theorem dX12_give_90 : decode cX12_give 90 = .ok (.invokevirtual 156, 3) := by decide +kernel
theorem dX12_give_93 : decode cX12_give 93 = .ok (.imul, 1) := by decide +kernel
theorem dX12_give_94 : decode cX12_give 94 = .ok (.iload_n 2, 1) := by decide +kernel
theorem dX12_give_95 : decode cX12_give 95 = .ok (.idiv, 1) := by decide +kernel
theorem dX12_give_96 : decode cX12_give 96 = .ok (.iastore, 1) := by decide +kernel
theorem dX12_give_97 : decode cX12_give 97 = .ok (.aload_n 0, 1) := by decide +kernel
theorem dX12_give_98 : decode cX12_give 98 = .ok (.getfield 23, 3) := by decide +kernel
theorem dX12_give_101 : decode cX12_give 101 = .ok (.iload 4, 2) := by decide +kernel
theorem dX12_give_103 : decode cX12_give 103 = .ok (.iload_n 1, 1) := by decide +kernel
theorem dX12_give_104 : decode cX12_give 104 = .ok (.aload_n 0, 1) := by decide +kernel
theorem dX12_give_105 : decode cX12_give 105 = .ok (.iload 4, 2) := by decide +kernel
theorem dX12_give_107 : decode cX12_give 107 = .ok (.invokevirtual 156, 3) := by decide +kernel
theorem dX12_give_110 : decode cX12_give 110 = .ok (.imul, 1) := by decide +kernel
theorem dX12_give_111 : decode cX12_give 111 = .ok (.iload_n 2, 1) := by decide +kernel
theorem dX12_give_112 : decode cX12_give 112 = .ok (.irem, 1) := by decide +kernel
theorem dX12_give_113 : decode cX12_give 113 = .ok (.iastore, 1) := by decide +kernel
theorem dX12_give_114 : decode cX12_give 114 = .ok (.iload_n 3, 1) := by decide +kernel
theorem dX12_give_115 : decode cX12_give 115 = .ok (.aload_n 0, 1) := by decide +kernel
theorem dX12_give_116 : decode cX12_give 116 = .ok (.getfield 26, 3) := by decide +kernel
theorem dX12_give_119 : decode cX12_give 119 = .ok (.iload 4, 2) := by decide +kernel
theorem dX12_give_121 : decode cX12_give 121 = .ok (.iaload, 1) := by decide +kernel
theorem dX12_give_122 : decode cX12_give 122 = .ok (.isub, 1) := by decide +kernel
theorem dX12_give_123 : decode cX12_give 123 = .ok (.istore_n 3, 1) := by decide +kernel
theorem dX12_give_124 : decode cX12_give 124 = .ok (.iinc 4 1, 3) := by decide +kernel
theorem dX12_give_127 : decode cX12_give 127 = .ok (.goto (-58), 3) := by decide +kernel
theorem dX12_give_130 : decode cX12_give 130 = .ok (.iload_n 3, 1) := by decide +kernel
theorem dX12_give_131 : decode cX12_give 131 = .ok (.ifCond .le 72, 3) := by decide +kernel
theorem dX12_give_134 : decode cX12_give 134 = .ok (.iconst 0, 1) := by decide +kernel
theorem dX12_give_135 : decode cX12_give 135 = .ok (.istore 4, 2) := by decide +kernel
theorem dX12_give_137 : decode cX12_give 137 = .ok (.iconst 1, 1) := by decide +kernel
theorem dX12_give_138 : decode cX12_give 138 = .ok (.istore 5, 2) := by decide +kernel
theorem dX12_give_140 : decode cX12_give 140 = .ok (.iload 5, 2) := by decide +kernel
theorem dX12_give_142 : decode cX12_give 142 = .ok (.aload_n 0, 1) := by decide +kernel
theorem dX12_give_143 : decode cX12_give 143 = .ok (.getfield 7, 3) := by decide +kernel
theorem dX12_give_146 : decode cX12_give 146 = .ok (.iconst 3, 1) := by decide +kernel
theorem dX12_give_147 : decode cX12_give 147 = .ok (.iaload, 1) := by decide +kernel
theorem dX12_give_148 : decode cX12_give 148 = .ok (.if_icmp .ge 30, 3) := by decide +kernel
theorem dX12_give_151 : decode cX12_give 151 = .ok (.aload_n 0, 1) := by decide +kernel
theorem dX12_give_152 : decode cX12_give 152 = .ok (.getfield 23, 3) := by decide +kernel
theorem dX12_give_155 : decode cX12_give 155 = .ok (.iload 5, 2) := by decide +kernel
theorem dX12_give_157 : decode cX12_give 157 = .ok (.iaload, 1) := by decide +kernel
theorem dX12_give_158 : decode cX12_give 158 = .ok (.aload_n 0, 1) := by decide +kernel
theorem dX12_give_159 : decode cX12_give 159 = .ok (.getfield 23, 3) := by decide +kernel
theorem dX12_give_162 : decode cX12_give 162 = .ok (.iload 4, 2) := by decide +kernel
theorem dX12_give_164 : decode cX12_give 164 = .ok (.iaload, 1) := by decide +kernel
theorem dX12_give_165 : decode cX12_give 165 = .ok (.if_icmp .le 7, 3) := by decide +kernel
theorem dX12_give_168 : decode cX12_give 168 = .ok (.iload 5, 2) := by decide +kernel
theorem dX12_give_170 : decode cX12_give 170 = .ok (.istore 4, 2) := by decide +kernel
theorem dX12_give_172 : decode cX12_give 172 = .ok (.iinc 5 1, 3) := by decide +kernel
theorem dX12_give_175 : decode cX12_give 175 = .ok (.goto (-35), 3) := by decide +kernel
theorem dX12_give_178 : decode cX12_give 178 = .ok (.aload_n 0, 1) := by decide +kernel
theorem dX12_give_179 : decode cX12_give 179 = .ok (.getfield 26, 3) := by decide +kernel
theorem dX12_give_182 : decode cX12_give 182 = .ok (.iload 4, 2) := by decide +kernel
theorem dX12_give_184 : decode cX12_give 184 = .ok (.dup2, 1) := by decide +kernel
theorem dX12_give_185 : decode cX12_give 185 = .ok (.iaload, 1) := by decide +kernel
theorem dX12_give_186 : decode cX12_give 186 = .ok (.iconst 1, 1) := by decide +kernel
theorem dX12_give_187 : decode cX12_give 187 = .ok (.iadd, 1) := by decide +kernel
theorem dX12_give_188 : decode cX12_give 188 = .ok (.iastore, 1) := by decide +kernel
theorem dX12_give_189 : decode cX12_give 189 = .ok (.aload_n 0, 1) := by decide +kernel
theorem dX12_give_190 : decode cX12_give 190 = .ok (.getfield 23, 3) := by decide +kernel
theorem dX12_give_193 : decode cX12_give 193 = .ok (.iload 4, 2) := by decide +kernel
theorem dX12_give_195 : decode cX12_give 195 = .ok (.iconst (-1), 1) := by decide +kernel
theorem dX12_give_196 : decode cX12_give 196 = .ok (.iastore, 1) := by decide +kernel
theorem dX12_give_197 : decode cX12_give 197 = .ok (.iinc 3 (-1), 3) := by decide +kernel
theorem dX12_give_200 : decode cX12_give 200 = .ok (.goto (-70), 3) := by decide +kernel
theorem dX12_give_203 : decode cX12_give 203 = .ok (.iconst 0, 1) := by decide +kernel
theorem dX12_give_204 : decode cX12_give 204 = .ok (.istore 4, 2) := by decide +kernel
theorem dX12_give_206 : decode cX12_give 206 = .ok (.iload 4, 2) := by decide +kernel
theorem dX12_give_208 : decode cX12_give 208 = .ok (.aload_n 0, 1) := by decide +kernel
theorem dX12_give_209 : decode cX12_give 209 = .ok (.getfield 7, 3) := by decide +kernel
theorem dX12_give_212 : decode cX12_give 212 = .ok (.iconst 3, 1) := by decide +kernel
theorem dX12_give_213 : decode cX12_give 213 = .ok (.iaload, 1) := by decide +kernel
theorem dX12_give_214 : decode cX12_give 214 = .ok (.if_icmp .ge 53, 3) := by decide +kernel
theorem dX12_give_217 : decode cX12_give 217 = .ok (.aload_n 0, 1) := by decide +kernel
theorem dX12_give_218 : decode cX12_give 218 = .ok (.getfield 7, 3) := by decide +kernel
theorem dX12_give_221 : decode cX12_give 221 = .ok (.bipush 20, 2) := by decide +kernel
theorem dX12_give_223 : decode cX12_give 223 = .ok (.bipush 8, 2) := by decide +kernel
theorem dX12_give_225 : decode cX12_give 225 = .ok (.iload 4, 2) := by decide +kernel
theorem dX12_give_227 : decode cX12_give 227 = .ok (.imul, 1) := by decide +kernel
theorem dX12_give_228 : decode cX12_give 228 = .ok (.iadd, 1) := by decide +kernel
theorem dX12_give_229 : decode cX12_give 229 = .ok (.iconst 2, 1) := by decide +kernel
theorem dX12_give_230 : decode cX12_give 230 = .ok (.iadd, 1) := by decide +kernel
theorem dX12_give_231 : decode cX12_give 231 = .ok (.aload_n 0, 1) := by decide +kernel
theorem dX12_give_232 : decode cX12_give 232 = .ok (.getfield 26, 3) := by decide +kernel
theorem dX12_give_235 : decode cX12_give 235 = .ok (.iload 4, 2) := by decide +kernel
theorem dX12_give_237 : decode cX12_give 237 = .ok (.iaload, 1) := by decide +kernel
theorem dX12_give_238 : decode cX12_give 238 = .ok (.iastore, 1) := by decide +kernel
theorem dX12_give_239 : decode cX12_give 239 = .ok (.aload_n 0, 1) := by decide +kernel
theorem dX12_give_240 : decode cX12_give 240 = .ok (.getfield 7, 3) := by decide +kernel
theorem dX12_give_243 : decode cX12_give 243 = .ok (.bipush 20, 2) := by decide +kernel
theorem dX12_give_245 : decode cX12_give 245 = .ok (.bipush 8, 2) := by decide +kernel
theorem dX12_give_247 : decode cX12_give 247 = .ok (.iload 4, 2) := by decide +kernel
theorem dX12_give_249 : decode cX12_give 249 = .ok (.imul, 1) := by decide +kernel
theorem dX12_give_250 : decode cX12_give 250 = .ok (.iadd, 1) := by decide +kernel
theorem dX12_give_251 : decode cX12_give 251 = .ok (.iconst 3, 1) := by decide +kernel
theorem dX12_give_252 : decode cX12_give 252 = .ok (.iadd, 1) := by decide +kernel
theorem dX12_give_253 : decode cX12_give 253 = .ok (.aload_n 0, 1) := by decide +kernel
theorem dX12_give_254 : decode cX12_give 254 = .ok (.getfield 26, 3) := by decide +kernel
theorem dX12_give_257 : decode cX12_give 257 = .ok (.iload 4, 2) := by decide +kernel
theorem dX12_give_259 : decode cX12_give 259 = .ok (.iaload, 1) := by decide +kernel
theorem dX12_give_260 : decode cX12_give 260 = .ok (.iastore, 1) := by decide +kernel
theorem dX12_give_261 : decode cX12_give 261 = .ok (.iinc 4 1, 3) := by decide +kernel
theorem dX12_give_264 : decode cX12_give 264 = .ok (.goto (-58), 3) := by decide +kernel
theorem dX12_give_267 : decode cX12_give 267 = .ok (.aload_n 0, 1) := by decide +kernel
theorem dX12_give_268 : decode cX12_give 268 = .ok (.getfield 7, 3) := by decide +kernel
theorem dX12_give_271 : decode cX12_give 271 = .ok (.iconst 2, 1) := by decide +kernel
theorem dX12_give_272 : decode cX12_give 272 = .ok (.iload_n 1, 1) := by decide +kernel
theorem dX12_give_273 : decode cX12_give 273 = .ok (.iastore, 1) := by decide +kernel
theorem dX12_give_274 : decode cX12_give 274 = .ok (.iconst 1, 1) := by decide +kernel
theorem dX12_give_275 : decode cX12_give 275 = .ok (.ireturn, 1) := by decide +kernel
theorem dX12_its_0 : decode cX12_its 0 = .ok (.aload_n 0, 1) := by decide +kernel
theorem dX12_its_1 : decode cX12_its 1 = .ok (.getfield 7, 3) := by decide +kernel
theorem dX12_its_4 : decode cX12_its 4 = .ok (.bipush 90, 2) := by decide +kernel
theorem dX12_its_6 : decode cX12_its 6 = .ok (.bipush 9, 2) := by decide +kernel
theorem dX12_its_8 : decode cX12_its 8 = .ok (.iload_n 1, 1) := by decide +kernel
theorem dX12_its_9 : decode cX12_its 9 = .ok (.imul, 1) := by decide +kernel
theorem dX12_its_10 : decode cX12_its 10 = .ok (.iadd, 1) := by decide +kernel
theorem dX12_its_11 : decode cX12_its 11 = .ok (.iload_n 2, 1) := by decide +kernel
theorem dX12_its_12 : decode cX12_its 12 = .ok (.iadd, 1) := by decide +kernel
theorem dX12_its_13 : decode cX12_its 13 = .ok (.iaload, 1) := by decide +kernel
theorem dX12_its_14 : decode cX12_its 14 = .ok (.ireturn, 1) := by decide +kernel
theorem dX12_sets_0 : decode cX12_sets 0 = .ok (.aload_n 0, 1) := by decide +kernel
theorem dX12_sets_1 : decode cX12_sets 1 = .ok (.getfield 7, 3) := by decide +kernel
theorem dX12_sets_4 : decode cX12_sets 4 = .ok (.bipush 90, 2) := by decide +kernel
theorem dX12_sets_6 : decode cX12_sets 6 = .ok (.bipush 9, 2) := by decide +kernel
theorem dX12_sets_8 : decode cX12_sets 8 = .ok (.iload_n 1, 1) := by decide +kernel
theorem dX12_sets_9 : decode cX12_sets 9 = .ok (.imul, 1) := by decide +kernel
theorem dX12_sets_10 : decode cX12_sets 10 = .ok (.iadd, 1) := by decide +kernel
theorem dX12_sets_11 : decode cX12_sets 11 = .ok (.iload_n 2, 1) := by decide +kernel
theorem dX12_sets_12 : decode cX12_sets 12 = .ok (.iadd, 1) := by decide +kernel
theorem dX12_sets_13 : decode cX12_sets 13 = .ok (.iload_n 3, 1) := by decide +kernel
theorem dX12_sets_14 : decode cX12_sets 14 = .ok (.iastore, 1) := by decide +kernel
theorem dX12_sets_15 : decode cX12_sets 15 = .ok (.return_, 1) := by decide +kernel
set_option maxRecDepth 20000 in
theorem ggX12_isBale_X12_isIn : GoodIn wsX12_isBale wsX12_isIn := goodIn_r _ [5] (by decide +kernel) (by decide +kernel)
set_option maxRecDepth 20000 in
theorem gX12_isBale_X12_isIn : GoodIn wsX12_isBale (va_wsS RX12 114 yX12_isIn wsX12_isIn) := goodIn_app (goodIn_of _ (by decide +kernel)) ggX12_isBale_X12_isIn
theorem dX12_isBale_0 : decode cX12_isBale 0 = .ok (.iload_n 1, 1) := by decide +kernel
theorem dX12_isBale_1 : decode cX12_isBale 1 = .ok (.iconst 0, 1) := by decide +kernel
theorem dX12_isBale_2 : decode cX12_isBale 2 = .ok (.aload_n 0, 1) := by decide +kernel
theorem dX12_isBale_3 : decode cX12_isBale 3 = .ok (.getfield 7, 3) := by decide +kernel
theorem dX12_isBale_6 : decode cX12_isBale 6 = .ok (.iconst 4, 1) := by decide +kernel
theorem dX12_isBale_7 : decode cX12_isBale 7 = .ok (.iaload, 1) := by decide +kernel
theorem dX12_isBale_8 : decode cX12_isBale 8 = .ok (.iconst 1, 1) := by decide +kernel
theorem dX12_isBale_9 : decode cX12_isBale 9 = .ok (.isub, 1) := by decide +kernel
theorem dX12_isBale_10 : decode cX12_isBale 10 = .ok (.invokestatic 114, 3) := by decide +kernel
theorem dX12_isBale_13 : decode cX12_isBale 13 = .ok (.ireturn, 1) := by decide +kernel
set_option maxRecDepth 20000 in
theorem ggX12_lies_X12_its : GoodIn wsX12_lies wsX12_its := goodIn_r _ [5, 6, 7, 8, 9, 10, 11, 12, 13, 14, 15, 16, 17, 18, 19, 20, 21, 22, 23, 24, 25, 26, 27] (by decide +kernel) (by decide +kernel)
set_option maxRecDepth 20000 in
theorem gX12_lies_X12_its : GoodIn wsX12_lies (wsV RX12 159 RX12 yX12_its wsX12_its) := goodIn_app (goodIn_of _ (by decide +kernel)) ggX12_lies_X12_its
theorem dX12_lies_0 : decode cX12_lies 0 = .ok (.aload_n 0, 1) := by decide +kernel
theorem dX12_lies_1 : decode cX12_lies 1 = .ok (.iload_n 1, 1) := by decide +kernel
theorem dX12_lies_2 : decode cX12_lies 2 = .ok (.iconst 5, 1) := by decide +kernel
theorem dX12_lies_3 : decode cX12_lies 3 = .ok (.invokevirtual 159, 3) := by decide +kernel
theorem dX12_lies_6 : decode cX12_lies 6 = .ok (.ifCond .lt 7, 3) := by decide +kernel
theorem dX12_lies_9 : decode cX12_lies 9 = .ok (.iconst 1, 1) := by decide +kernel
theorem dX12_lies_10 : decode cX12_lies 10 = .ok (.goto 4, 3) := by decide +kernel
theorem dX12_lies_13 : decode cX12_lies 13 = .ok (.iconst 0, 1) := by decide +kernel
theorem dX12_lies_14 : decode cX12_lies 14 = .ok (.ireturn, 1) := by decide +kernel
set_option maxRecDepth 20000 in
theorem ggX12_room_X12_its : GoodIn wsX12_room wsX12_its := goodIn_r _ [5, 6, 7, 8, 9, 10, 11, 12, 13, 14, 15, 16, 17, 18, 19, 20, 21, 22, 23, 24, 25, 26, 27] (by decide +kernel) (by decide +kernel)
set_option maxRecDepth 20000 in
theorem gX12_room_X12_its : GoodIn wsX12_room (wsV RX12 159 RX12 yX12_its wsX12_its) := goodIn_app (goodIn_of _ (by decide +kernel)) ggX12_room_X12_its
theorem dX12_room_0 : decode cX12_room 0 = .ok (.aload_n 0, 1) := by decide +kernel
theorem dX12_room_1 : decode cX12_room 1 = .ok (.iload_n 1, 1) := by decide +kernel
theorem dX12_room_2 : decode cX12_room 2 = .ok (.iconst 1, 1) := by decide +kernel
theorem dX12_room_3 : decode cX12_room 3 = .ok (.invokevirtual 159, 3) := by decide +kernel
theorem dX12_room_6 : decode cX12_room 6 = .ok (.aload_n 0, 1) := by decide +kernel
theorem dX12_room_7 : decode cX12_room 7 = .ok (.iload_n 1, 1) := by decide +kernel
theorem dX12_room_8 : decode cX12_room 8 = .ok (.iconst 1, 1) := by decide +kernel
theorem dX12_room_9 : decode cX12_room 9 = .ok (.invokevirtual 159, 3) := by decide +kernel
theorem dX12_room_12 : decode cX12_room 12 = .ok (.aload_n 0, 1) := by decide +kernel
theorem dX12_room_13 : decode cX12_room 13 = .ok (.iload_n 1, 1) := by decide +kernel
theorem dX12_room_14 : decode cX12_room 14 = .ok (.iconst 4, 1) := by decide +kernel
theorem dX12_room_15 : decode cX12_room 15 = .ok (.invokevirtual 159, 3) := by decide +kernel
theorem dX12_room_18 : decode cX12_room 18 = .ok (.imul, 1) := by decide +kernel
theorem dX12_room_19 : decode cX12_room 19 = .ok (.bipush 10, 2) := by decide +kernel
theorem dX12_room_21 : decode cX12_room 21 = .ok (.idiv, 1) := by decide +kernel
theorem dX12_room_22 : decode cX12_room 22 = .ok (.isub, 1) := by decide +kernel
theorem dX12_room_23 : decode cX12_room 23 = .ok (.ireturn, 1) := by decide +kernel
set_option maxRecDepth 20000 in
theorem ggX12_value_X12_its : GoodIn wsX12_value wsX12_its := goodIn_r _ [5, 6, 7, 8, 9, 10, 11, 12, 13, 14, 15, 16, 17, 18, 19, 20, 21, 22, 23, 24, 25, 26, 27] (by decide +kernel) (by decide +kernel)
set_option maxRecDepth 20000 in
theorem gX12_value_X12_its : GoodIn wsX12_value (wsV RX12 159 RX12 yX12_its wsX12_its) := goodIn_app (goodIn_of _ (by decide +kernel)) ggX12_value_X12_its
theorem dX12_value_0 : decode cX12_value 0 = .ok (.aload_n 0, 1) := by decide +kernel
theorem dX12_value_1 : decode cX12_value 1 = .ok (.iload_n 1, 1) := by decide +kernel
theorem dX12_value_2 : decode cX12_value 2 = .ok (.iconst 3, 1) := by decide +kernel
theorem dX12_value_3 : decode cX12_value 3 = .ok (.invokevirtual 159, 3) := by decide +kernel
theorem dX12_value_6 : decode cX12_value 6 = .ok (.aload_n 0, 1) := by decide +kernel
theorem dX12_value_7 : decode cX12_value 7 = .ok (.iload_n 1, 1) := by decide +kernel
theorem dX12_value_8 : decode cX12_value 8 = .ok (.iconst 3, 1) := by decide +kernel
theorem dX12_value_9 : decode cX12_value 9 = .ok (.invokevirtual 159, 3) := by decide +kernel
theorem dX12_value_12 : decode cX12_value 12 = .ok (.aload_n 0, 1) := by decide +kernel
theorem dX12_value_13 : decode cX12_value 13 = .ok (.iload_n 1, 1) := by decide +kernel
theorem dX12_value_14 : decode cX12_value 14 = .ok (.iconst 4, 1) := by decide +kernel
theorem dX12_value_15 : decode cX12_value 15 = .ok (.invokevirtual 159, 3) := by decide +kernel
theorem dX12_value_18 : decode cX12_value 18 = .ok (.imul, 1) := by decide +kernel
theorem dX12_value_19 : decode cX12_value 19 = .ok (.bipush 20, 2) := by decide +kernel
theorem dX12_value_21 : decode cX12_value 21 = .ok (.idiv, 1) := by decide +kernel
theorem dX12_value_22 : decode cX12_value 22 = .ok (.isub, 1) := by decide +kernel
theorem dX12_value_23 : decode cX12_value 23 = .ok (.ireturn, 1) := by decide +kernel
set_option maxRecDepth 20000 in
theorem ggX12_free_X12_of : GoodIn wsX12_free wsX12_of := goodIn_r _ [6, 1, 15, 16, 17, 18, 19, 20, 21, 22, 23, 24, 25, 26, 27, 28, 29, 30, 31, 32, 33, 34, 35] (by decide +kernel) (by decide +kernel)
set_option maxRecDepth 20000 in
theorem gX12_free_X12_of : GoodIn wsX12_free (wsV RX12 145 RX12 yX12_of wsX12_of) := goodIn_app (goodIn_of _ (by decide +kernel)) ggX12_free_X12_of
set_option maxRecDepth 20000 in
theorem ggX12_free_X12_its : GoodIn wsX12_free wsX12_its := goodIn_r _ [10, 1, 15, 16, 17, 18, 19, 20, 21, 22, 23, 24, 25, 26, 27, 28, 29, 30, 31, 32, 33, 34, 35] (by decide +kernel) (by decide +kernel)
set_option maxRecDepth 20000 in
theorem gX12_free_X12_its : GoodIn wsX12_free (wsV RX12 159 RX12 yX12_its wsX12_its) := goodIn_app (goodIn_of _ (by decide +kernel)) ggX12_free_X12_its
set_option maxRecDepth 20000 in
theorem ggX12_free_X12_room : GoodIn wsX12_free wsX12_room := goodIn_r _ [14, 7, 8, 9, 5, 10, 1, 15, 16, 17, 18, 19, 20, 21, 22, 23, 24, 25, 26, 27, 28, 29, 30, 31, 32, 33, 34, 35] (by decide +kernel) (by decide +kernel)
set_option maxRecDepth 20000 in
theorem gX12_free_X12_room : GoodIn wsX12_free (wsV RX12 162 RX12 yX12_room wsX12_room) := goodIn_app (goodIn_of _ (by decide +kernel)) ggX12_free_X12_room
theorem dX12_free_0 : decode cX12_free 0 = .ok (.aload_n 0, 1) := by decide +kernel
theorem dX12_free_1 : decode cX12_free 1 = .ok (.iload_n 1, 1) := by decide +kernel
theorem dX12_free_2 : decode cX12_free 2 = .ok (.iconst 2, 1) := by decide +kernel
theorem dX12_free_3 : decode cX12_free 3 = .ok (.invokevirtual 145, 3) := by decide +kernel
theorem dX12_free_6 : decode cX12_free 6 = .ok (.istore_n 2, 1) := by decide +kernel
theorem dX12_free_7 : decode cX12_free 7 = .ok (.iconst 0, 1) := by decide +kernel
theorem dX12_free_8 : decode cX12_free 8 = .ok (.istore_n 3, 1) := by decide +kernel
theorem dX12_free_9 : decode cX12_free 9 = .ok (.iload_n 3, 1) := by decide +kernel
theorem dX12_free_10 : decode cX12_free 10 = .ok (.aload_n 0, 1) := by decide +kernel
theorem dX12_free_11 : decode cX12_free 11 = .ok (.getfield 7, 3) := by decide +kernel
theorem dX12_free_14 : decode cX12_free 14 = .ok (.iconst 4, 1) := by decide +kernel
theorem dX12_free_15 : decode cX12_free 15 = .ok (.iaload, 1) := by decide +kernel
theorem dX12_free_16 : decode cX12_free 16 = .ok (.if_icmp .ge 27, 3) := by decide +kernel
theorem dX12_free_19 : decode cX12_free 19 = .ok (.aload_n 0, 1) := by decide +kernel
theorem dX12_free_20 : decode cX12_free 20 = .ok (.iload_n 3, 1) := by decide +kernel
theorem dX12_free_21 : decode cX12_free 21 = .ok (.iconst 5, 1) := by decide +kernel
theorem dX12_free_22 : decode cX12_free 22 = .ok (.invokevirtual 159, 3) := by decide +kernel
theorem dX12_free_25 : decode cX12_free 25 = .ok (.iload_n 1, 1) := by decide +kernel
theorem dX12_free_26 : decode cX12_free 26 = .ok (.if_icmp .ne 11, 3) := by decide +kernel
theorem dX12_free_29 : decode cX12_free 29 = .ok (.iload_n 2, 1) := by decide +kernel
theorem dX12_free_30 : decode cX12_free 30 = .ok (.aload_n 0, 1) := by decide +kernel
theorem dX12_free_31 : decode cX12_free 31 = .ok (.iload_n 3, 1) := by decide +kernel
theorem dX12_free_32 : decode cX12_free 32 = .ok (.invokevirtual 162, 3) := by decide +kernel
theorem dX12_free_35 : decode cX12_free 35 = .ok (.isub, 1) := by decide +kernel
theorem dX12_free_36 : decode cX12_free 36 = .ok (.istore_n 2, 1) := by decide +kernel
theorem dX12_free_37 : decode cX12_free 37 = .ok (.iinc 3 1, 3) := by decide +kernel
theorem dX12_free_40 : decode cX12_free 40 = .ok (.goto (-31), 3) := by decide +kernel
theorem dX12_free_43 : decode cX12_free 43 = .ok (.iload_n 2, 1) := by decide +kernel
theorem dX12_free_44 : decode cX12_free 44 = .ok (.ireturn, 1) := by decide +kernel
set_option maxRecDepth 20000 in
theorem ggX12_sell_X12_isCitizen : GoodIn wsX12_sell wsX12_isCitizen := goodIn_r _ [6, 1, 7, 8, 5, 9, 30, 31, 32, 33, 34, 35, 36, 37, 38, 39, 40, 41, 42, 43, 44, 45, 46, 47, 48, 49, 50] (by decide +kernel) (by decide +kernel)
set_option maxRecDepth 20000 in
theorem gX12_sell_X12_isCitizen : GoodIn wsX12_sell (wsV RX12 165 RX12 yX12_isCitizen wsX12_isCitizen) := goodIn_app (goodIn_of _ (by decide +kernel)) ggX12_sell_X12_isCitizen
set_option maxRecDepth 20000 in
theorem ggX12_sell_X12_free : GoodIn wsX12_sell wsX12_free := goodIn_r _ [13, 1, 14, 15, 16, 5, 17, 18, 19, 20, 21, 22, 23, 24, 25, 30, 31, 32, 33, 34, 35, 36, 37, 38, 39, 40, 41, 42, 43, 44, 45, 46, 47, 48, 49, 50] (by decide +kernel) (by decide +kernel)
set_option maxRecDepth 20000 in
theorem gX12_sell_X12_free : GoodIn wsX12_sell (wsV RX12 168 RX12 yX12_free wsX12_free) := goodIn_app (goodIn_of _ (by decide +kernel)) ggX12_sell_X12_free
set_option maxRecDepth 20000 in
theorem ggX12_sell_X12_isIn : GoodIn wsX12_sell wsX12_isIn := goodIn_r _ [9] (by decide +kernel) (by decide +kernel)
set_option maxRecDepth 20000 in
theorem gX12_sell_X12_isIn : GoodIn wsX12_sell (va_wsS RX12 114 yX12_isIn wsX12_isIn) := goodIn_app (goodIn_of _ (by decide +kernel)) ggX12_sell_X12_isIn
set_option maxRecDepth 20000 in
theorem ggX12_sell_X12_adds : GoodIn wsX12_sell wsX12_adds := goodIn_r _ [29, 1, 30, 31, 32, 33, 34, 35, 36, 37, 38, 39, 40, 41, 42, 43, 44, 45, 46, 47, 48, 49, 50] (by decide +kernel) (by decide +kernel)
set_option maxRecDepth 20000 in
theorem gX12_sell_X12_adds : GoodIn wsX12_sell (wsV RX12 171 RX12 yX12_adds wsX12_adds) := goodIn_app (goodIn_of _ (by decide +kernel)) ggX12_sell_X12_adds
theorem dX12_sell_0 : decode cX12_sell 0 = .ok (.aload_n 0, 1) := by decide +kernel
theorem dX12_sell_1 : decode cX12_sell 1 = .ok (.getfield 7, 3) := by decide +kernel
theorem dX12_sell_4 : decode cX12_sell 4 = .ok (.iconst 1, 1) := by decide +kernel
theorem dX12_sell_5 : decode cX12_sell 5 = .ok (.iaload, 1) := by decide +kernel
theorem dX12_sell_6 : decode cX12_sell 6 = .ok (.iconst 1, 1) := by decide +kernel
theorem dX12_sell_7 : decode cX12_sell 7 = .ok (.if_icmp .eq 50, 3) := by decide +kernel
theorem dX12_sell_10 : decode cX12_sell 10 = .ok (.aload_n 0, 1) := by decide +kernel
theorem dX12_sell_11 : decode cX12_sell 11 = .ok (.iload_n 1, 1) := by decide +kernel
theorem dX12_sell_12 : decode cX12_sell 12 = .ok (.invokevirtual 165, 3) := by decide +kernel
theorem dX12_sell_15 : decode cX12_sell 15 = .ok (.ifCond .eq 42, 3) := by decide +kernel
theorem dX12_sell_18 : decode cX12_sell 18 = .ok (.aload_n 0, 1) := by decide +kernel
theorem dX12_sell_19 : decode cX12_sell 19 = .ok (.iload_n 2, 1) := by decide +kernel
theorem dX12_sell_20 : decode cX12_sell 20 = .ok (.invokevirtual 165, 3) := by decide +kernel
theorem dX12_sell_23 : decode cX12_sell 23 = .ok (.ifCond .eq 34, 3) := by decide +kernel
theorem dX12_sell_26 : decode cX12_sell 26 = .ok (.iload_n 1, 1) := by decide +kernel
theorem dX12_sell_27 : decode cX12_sell 27 = .ok (.iload_n 2, 1) := by decide +kernel
theorem dX12_sell_28 : decode cX12_sell 28 = .ok (.if_icmp .eq 29, 3) := by decide +kernel
theorem dX12_sell_31 : decode cX12_sell 31 = .ok (.iload_n 3, 1) := by decide +kernel
theorem dX12_sell_32 : decode cX12_sell 32 = .ok (.iconst 1, 1) := by decide +kernel
theorem dX12_sell_33 : decode cX12_sell 33 = .ok (.if_icmp .lt 24, 3) := by decide +kernel
theorem dX12_sell_36 : decode cX12_sell 36 = .ok (.iload_n 3, 1) := by decide +kernel
theorem dX12_sell_37 : decode cX12_sell 37 = .ok (.aload_n 0, 1) := by decide +kernel
theorem dX12_sell_38 : decode cX12_sell 38 = .ok (.iload_n 1, 1) := by decide +kernel
theorem dX12_sell_39 : decode cX12_sell 39 = .ok (.invokevirtual 168, 3) := by decide +kernel
theorem dX12_sell_42 : decode cX12_sell 42 = .ok (.if_icmp .gt 15, 3) := by decide +kernel
theorem dX12_sell_45 : decode cX12_sell 45 = .ok (.iload 4, 2) := by decide +kernel
theorem dX12_sell_47 : decode cX12_sell 47 = .ok (.iconst 0, 1) := by decide +kernel
theorem dX12_sell_48 : decode cX12_sell 48 = .ok (.sipush 10000, 3) := by decide +kernel
theorem dX12_sell_51 : decode cX12_sell 51 = .ok (.invokestatic 114, 3) := by decide +kernel
theorem dX12_sell_54 : decode cX12_sell 54 = .ok (.ifCond .ne 5, 3) := by decide +kernel
theorem dX12_sell_57 : decode cX12_sell 57 = .ok (.iconst 0, 1) := by decide +kernel
theorem dX12_sell_58 : decode cX12_sell 58 = .ok (.ireturn, 1) := by decide +kernel
theorem dX12_sell_59 : decode cX12_sell 59 = .ok (.aload_n 0, 1) := by decide +kernel
theorem dX12_sell_60 : decode cX12_sell 60 = .ok (.iload_n 1, 1) := by decide +kernel
theorem dX12_sell_61 : decode cX12_sell 61 = .ok (.iconst 2, 1) := by decide +kernel
theorem dX12_sell_62 : decode cX12_sell 62 = .ok (.iload_n 3, 1) := by decide +kernel
theorem dX12_sell_63 : decode cX12_sell 63 = .ok (.ineg, 1) := by decide +kernel
theorem dX12_sell_64 : decode cX12_sell 64 = .ok (.invokevirtual 171, 3) := by decide +kernel
theorem dX12_sell_67 : decode cX12_sell 67 = .ok (.aload_n 0, 1) := by decide +kernel
theorem dX12_sell_68 : decode cX12_sell 68 = .ok (.iload_n 2, 1) := by decide +kernel
theorem dX12_sell_69 : decode cX12_sell 69 = .ok (.iconst 2, 1) := by decide +kernel
theorem dX12_sell_70 : decode cX12_sell 70 = .ok (.iload_n 3, 1) := by decide +kernel
theorem dX12_sell_71 : decode cX12_sell 71 = .ok (.invokevirtual 171, 3) := by decide +kernel
theorem dX12_sell_74 : decode cX12_sell 74 = .ok (.aload_n 0, 1) := by decide +kernel
theorem dX12_sell_75 : decode cX12_sell 75 = .ok (.iload_n 1, 1) := by decide +kernel
theorem dX12_sell_76 : decode cX12_sell 76 = .ok (.iconst 4, 1) := by decide +kernel
theorem dX12_sell_77 : decode cX12_sell 77 = .ok (.iload 4, 2) := by decide +kernel
theorem dX12_sell_79 : decode cX12_sell 79 = .ok (.invokevirtual 171, 3) := by decide +kernel
theorem dX12_sell_82 : decode cX12_sell 82 = .ok (.aload_n 0, 1) := by decide +kernel
theorem dX12_sell_83 : decode cX12_sell 83 = .ok (.iload_n 2, 1) := by decide +kernel
theorem dX12_sell_84 : decode cX12_sell 84 = .ok (.iconst 4, 1) := by decide +kernel
theorem dX12_sell_85 : decode cX12_sell 85 = .ok (.iload 4, 2) := by decide +kernel
theorem dX12_sell_87 : decode cX12_sell 87 = .ok (.ineg, 1) := by decide +kernel
theorem dX12_sell_88 : decode cX12_sell 88 = .ok (.invokevirtual 171, 3) := by decide +kernel
theorem dX12_sell_91 : decode cX12_sell 91 = .ok (.iconst 1, 1) := by decide +kernel
theorem dX12_sell_92 : decode cX12_sell 92 = .ok (.ireturn, 1) := by decide +kernel
set_option maxRecDepth 20000 in
theorem ggX12_bale_X12_isCitizen : GoodIn wsX12_bale wsX12_isCitizen := goodIn_r _ [6, 1, 7, 8, 5, 9, 14, 15, 16, 17, 18, 19, 20, 21, 22, 23, 24, 25, 26, 27, 28, 29, 30, 31, 32, 33, 34] (by decide +kernel) (by decide +kernel)
set_option maxRecDepth 20000 in
theorem gX12_bale_X12_isCitizen : GoodIn wsX12_bale (wsV RX12 165 RX12 yX12_isCitizen wsX12_isCitizen) := goodIn_app (goodIn_of _ (by decide +kernel)) ggX12_bale_X12_isCitizen
set_option maxRecDepth 20000 in
theorem ggX12_bale_X12_isIn : GoodIn wsX12_bale wsX12_isIn := goodIn_r _ [9] (by decide +kernel) (by decide +kernel)
set_option maxRecDepth 20000 in
theorem gX12_bale_X12_isIn : GoodIn wsX12_bale (va_wsS RX12 114 yX12_isIn wsX12_isIn) := goodIn_app (goodIn_of _ (by decide +kernel)) ggX12_bale_X12_isIn
set_option maxRecDepth 20000 in
theorem ggX12_bale_X12_sets : GoodIn wsX12_bale wsX12_sets := goodIn_r _ [13, 1, 14, 15, 16, 17, 18, 19, 20, 21, 22, 23, 24, 25, 26, 27, 28, 29, 30, 31, 32, 33, 34] (by decide +kernel) (by decide +kernel)
set_option maxRecDepth 20000 in
theorem gX12_bale_X12_sets : GoodIn wsX12_bale (wsV RX12 175 RX12 yX12_sets wsX12_sets) := goodIn_app (goodIn_of _ (by decide +kernel)) ggX12_bale_X12_sets
theorem dX12_bale_0 : decode cX12_bale 0 = .ok (.aload_n 0, 1) := by decide +kernel
theorem dX12_bale_1 : decode cX12_bale 1 = .ok (.getfield 7, 3) := by decide +kernel
theorem dX12_bale_4 : decode cX12_bale 4 = .ok (.iconst 1, 1) := by decide +kernel
theorem dX12_bale_5 : decode cX12_bale 5 = .ok (.iaload, 1) := by decide +kernel
theorem dX12_bale_6 : decode cX12_bale 6 = .ok (.iconst 1, 1) := by decide +kernel
theorem dX12_bale_7 : decode cX12_bale 7 = .ok (.if_icmp .eq 55, 3) := by decide +kernel
theorem dX12_bale_10 : decode cX12_bale 10 = .ok (.aload_n 0, 1) := by decide +kernel
theorem dX12_bale_11 : decode cX12_bale 11 = .ok (.getfield 7, 3) := by decide +kernel
theorem dX12_bale_14 : decode cX12_bale 14 = .ok (.iconst 4, 1) := by decide +kernel
theorem dX12_bale_15 : decode cX12_bale 15 = .ok (.iaload, 1) := by decide +kernel
theorem dX12_bale_16 : decode cX12_bale 16 = .ok (.bipush 12, 2) := by decide +kernel
theorem dX12_bale_18 : decode cX12_bale 18 = .ok (.if_icmp .eq 44, 3) := by decide +kernel
theorem dX12_bale_21 : decode cX12_bale 21 = .ok (.aload_n 0, 1) := by decide +kernel
theorem dX12_bale_22 : decode cX12_bale 22 = .ok (.iload_n 1, 1) := by decide +kernel
theorem dX12_bale_23 : decode cX12_bale 23 = .ok (.invokevirtual 165, 3) := by decide +kernel
theorem dX12_bale_26 : decode cX12_bale 26 = .ok (.ifCond .eq 36, 3) := by decide +kernel
theorem dX12_bale_29 : decode cX12_bale 29 = .ok (.iload_n 2, 1) := by decide +kernel
theorem dX12_bale_30 : decode cX12_bale 30 = .ok (.iconst 1, 1) := by decide +kernel
theorem dX12_bale_31 : decode cX12_bale 31 = .ok (.bipush 40, 2) := by decide +kernel
theorem dX12_bale_33 : decode cX12_bale 33 = .ok (.invokestatic 114, 3) := by decide +kernel
theorem dX12_bale_36 : decode cX12_bale 36 = .ok (.ifCond .eq 26, 3) := by decide +kernel
theorem dX12_bale_39 : decode cX12_bale 39 = .ok (.iload_n 3, 1) := by decide +kernel
theorem dX12_bale_40 : decode cX12_bale 40 = .ok (.iconst 1, 1) := by decide +kernel
theorem dX12_bale_41 : decode cX12_bale 41 = .ok (.sipush 200, 3) := by decide +kernel
theorem dX12_bale_44 : decode cX12_bale 44 = .ok (.invokestatic 114, 3) := by decide +kernel
theorem dX12_bale_47 : decode cX12_bale 47 = .ok (.ifCond .eq 15, 3) := by decide +kernel
theorem dX12_bale_50 : decode cX12_bale 50 = .ok (.iload 4, 2) := by decide +kernel
theorem dX12_bale_52 : decode cX12_bale 52 = .ok (.iconst 1, 1) := by decide +kernel
theorem dX12_bale_53 : decode cX12_bale 53 = .ok (.sipush 1000, 3) := by decide +kernel
theorem dX12_bale_56 : decode cX12_bale 56 = .ok (.invokestatic 114, 3) := by decide +kernel
theorem dX12_bale_59 : decode cX12_bale 59 = .ok (.ifCond .ne 5, 3) := by decide +kernel
theorem dX12_bale_62 : decode cX12_bale 62 = .ok (.iconst (-1), 1) := by decide +kernel
theorem dX12_bale_63 : decode cX12_bale 63 = .ok (.ireturn, 1) := by decide +kernel
theorem dX12_bale_64 : decode cX12_bale 64 = .ok (.aload_n 0, 1) := by decide +kernel
theorem dX12_bale_65 : decode cX12_bale 65 = .ok (.getfield 7, 3) := by decide +kernel
theorem dX12_bale_68 : decode cX12_bale 68 = .ok (.iconst 4, 1) := by decide +kernel
theorem dX12_bale_69 : decode cX12_bale 69 = .ok (.iaload, 1) := by decide +kernel
theorem dX12_bale_70 : decode cX12_bale 70 = .ok (.istore 5, 2) := by decide +kernel
theorem dX12_bale_72 : decode cX12_bale 72 = .ok (.aload_n 0, 1) := by decide +kernel
theorem dX12_bale_73 : decode cX12_bale 73 = .ok (.getfield 7, 3) := by decide +kernel
theorem dX12_bale_76 : decode cX12_bale 76 = .ok (.iconst 4, 1) := by decide +kernel
theorem dX12_bale_77 : decode cX12_bale 77 = .ok (.dup2, 1) := by decide +kernel
theorem dX12_bale_78 : decode cX12_bale 78 = .ok (.iaload, 1) := by decide +kernel
theorem dX12_bale_79 : decode cX12_bale 79 = .ok (.iconst 1, 1) := by decide +kernel
theorem dX12_bale_80 : decode cX12_bale 80 = .ok (.iadd, 1) := by decide +kernel
theorem dX12_bale_81 : decode cX12_bale 81 = .ok (.iastore, 1) := by decide +kernel
theorem dX12_bale_82 : decode cX12_bale 82 = .ok (.aload_n 0, 1) := by decide +kernel
theorem dX12_bale_83 : decode cX12_bale 83 = .ok (.iload 5, 2) := by decide +kernel
theorem dX12_bale_85 : decode cX12_bale 85 = .ok (.iconst 0, 1) := by decide +kernel
theorem dX12_bale_86 : decode cX12_bale 86 = .ok (.iload_n 1, 1) := by decide +kernel
theorem dX12_bale_87 : decode cX12_bale 87 = .ok (.invokevirtual 175, 3) := by decide +kernel
theorem dX12_bale_90 : decode cX12_bale 90 = .ok (.aload_n 0, 1) := by decide +kernel
theorem dX12_bale_91 : decode cX12_bale 91 = .ok (.iload 5, 2) := by decide +kernel
theorem dX12_bale_93 : decode cX12_bale 93 = .ok (.iconst 1, 1) := by decide +kernel
theorem dX12_bale_94 : decode cX12_bale 94 = .ok (.iload_n 2, 1) := by decide +kernel
theorem dX12_bale_95 : decode cX12_bale 95 = .ok (.invokevirtual 175, 3) := by decide +kernel
theorem dX12_bale_98 : decode cX12_bale 98 = .ok (.aload_n 0, 1) := by decide +kernel
theorem dX12_bale_99 : decode cX12_bale 99 = .ok (.iload 5, 2) := by decide +kernel
theorem dX12_bale_101 : decode cX12_bale 101 = .ok (.iconst 2, 1) := by decide +kernel
theorem dX12_bale_102 : decode cX12_bale 102 = .ok (.iload_n 3, 1) := by decide +kernel
theorem dX12_bale_103 : decode cX12_bale 103 = .ok (.invokevirtual 175, 3) := by decide +kernel
theorem dX12_bale_106 : decode cX12_bale 106 = .ok (.aload_n 0, 1) := by decide +kernel
theorem dX12_bale_107 : decode cX12_bale 107 = .ok (.iload 5, 2) := by decide +kernel
theorem dX12_bale_109 : decode cX12_bale 109 = .ok (.iconst 3, 1) := by decide +kernel
theorem dX12_bale_110 : decode cX12_bale 110 = .ok (.iload 4, 2) := by decide +kernel
theorem dX12_bale_112 : decode cX12_bale 112 = .ok (.invokevirtual 175, 3) := by decide +kernel
theorem dX12_bale_115 : decode cX12_bale 115 = .ok (.aload_n 0, 1) := by decide +kernel
theorem dX12_bale_116 : decode cX12_bale 116 = .ok (.iload 5, 2) := by decide +kernel
theorem dX12_bale_118 : decode cX12_bale 118 = .ok (.iconst 4, 1) := by decide +kernel
theorem dX12_bale_119 : decode cX12_bale 119 = .ok (.iconst 0, 1) := by decide +kernel
theorem dX12_bale_120 : decode cX12_bale 120 = .ok (.invokevirtual 175, 3) := by decide +kernel
theorem dX12_bale_123 : decode cX12_bale 123 = .ok (.aload_n 0, 1) := by decide +kernel
theorem dX12_bale_124 : decode cX12_bale 124 = .ok (.iload 5, 2) := by decide +kernel
theorem dX12_bale_126 : decode cX12_bale 126 = .ok (.iconst 5, 1) := by decide +kernel
theorem dX12_bale_127 : decode cX12_bale 127 = .ok (.iconst (-1), 1) := by decide +kernel
theorem dX12_bale_128 : decode cX12_bale 128 = .ok (.invokevirtual 175, 3) := by decide +kernel
theorem dX12_bale_131 : decode cX12_bale 131 = .ok (.aload_n 0, 1) := by decide +kernel
theorem dX12_bale_132 : decode cX12_bale 132 = .ok (.iload 5, 2) := by decide +kernel
theorem dX12_bale_134 : decode cX12_bale 134 = .ok (.bipush 6, 2) := by decide +kernel
theorem dX12_bale_136 : decode cX12_bale 136 = .ok (.iconst (-1), 1) := by decide +kernel
theorem dX12_bale_137 : decode cX12_bale 137 = .ok (.invokevirtual 175, 3) := by decide +kernel
theorem dX12_bale_140 : decode cX12_bale 140 = .ok (.aload_n 0, 1) := by decide +kernel
theorem dX12_bale_141 : decode cX12_bale 141 = .ok (.iload 5, 2) := by decide +kernel
theorem dX12_bale_143 : decode cX12_bale 143 = .ok (.bipush 7, 2) := by decide +kernel
theorem dX12_bale_145 : decode cX12_bale 145 = .ok (.iconst 2, 1) := by decide +kernel
theorem dX12_bale_146 : decode cX12_bale 146 = .ok (.invokevirtual 175, 3) := by decide +kernel
theorem dX12_bale_149 : decode cX12_bale 149 = .ok (.iload 5, 2) := by decide +kernel
theorem dX12_bale_151 : decode cX12_bale 151 = .ok (.ireturn, 1) := by decide +kernel
set_option maxRecDepth 20000 in
theorem ggX12_press_X12_isBale : GoodIn wsX12_press wsX12_isBale := goodIn_r _ [6, 1, 7, 8, 5, 9, 22, 23, 24, 25, 26, 27, 28, 29, 30, 31, 32, 33, 34, 35, 36, 37, 38, 39, 40, 41, 42] (by decide +kernel) (by decide +kernel)
set_option maxRecDepth 20000 in
theorem gX12_press_X12_isBale : GoodIn wsX12_press (wsV RX12 178 RX12 yX12_isBale wsX12_isBale) := goodIn_app (goodIn_of _ (by decide +kernel)) ggX12_press_X12_isBale
set_option maxRecDepth 20000 in
theorem ggX12_press_X12_lies : GoodIn wsX12_press wsX12_lies := goodIn_r _ [13, 14, 15, 16, 5, 17, 1, 22, 23, 24, 25, 26, 27, 28, 29, 30, 31, 32, 33, 34, 35, 36, 37, 38, 39, 40, 41, 42] (by decide +kernel) (by decide +kernel)
set_option maxRecDepth 20000 in
theorem gX12_press_X12_lies : GoodIn wsX12_press (wsV RX12 181 RX12 yX12_lies wsX12_lies) := goodIn_app (goodIn_of _ (by decide +kernel)) ggX12_press_X12_lies
set_option maxRecDepth 20000 in
theorem ggX12_press_X12_isIn : GoodIn wsX12_press wsX12_isIn := goodIn_r _ [9] (by decide +kernel) (by decide +kernel)
set_option maxRecDepth 20000 in
theorem gX12_press_X12_isIn : GoodIn wsX12_press (va_wsS RX12 114 yX12_isIn wsX12_isIn) := goodIn_app (goodIn_of _ (by decide +kernel)) ggX12_press_X12_isIn
set_option maxRecDepth 20000 in
theorem ggX12_press_X12_sets : GoodIn wsX12_press wsX12_sets := goodIn_r _ [21, 1, 22, 23, 24, 25, 26, 27, 28, 29, 30, 31, 32, 33, 34, 35, 36, 37, 38, 39, 40, 41, 42] (by decide +kernel) (by decide +kernel)
set_option maxRecDepth 20000 in
theorem gX12_press_X12_sets : GoodIn wsX12_press (wsV RX12 175 RX12 yX12_sets wsX12_sets) := goodIn_app (goodIn_of _ (by decide +kernel)) ggX12_press_X12_sets
theorem dX12_press_0 : decode cX12_press 0 = .ok (.aload_n 0, 1) := by decide +kernel
theorem dX12_press_1 : decode cX12_press 1 = .ok (.getfield 7, 3) := by decide +kernel
theorem dX12_press_4 : decode cX12_press 4 = .ok (.iconst 1, 1) := by decide +kernel
theorem dX12_press_5 : decode cX12_press 5 = .ok (.iaload, 1) := by decide +kernel
theorem dX12_press_6 : decode cX12_press 6 = .ok (.iconst 1, 1) := by decide +kernel
theorem dX12_press_7 : decode cX12_press 7 = .ok (.if_icmp .eq 28, 3) := by decide +kernel
theorem dX12_press_10 : decode cX12_press 10 = .ok (.aload_n 0, 1) := by decide +kernel
theorem dX12_press_11 : decode cX12_press 11 = .ok (.iload_n 1, 1) := by decide +kernel
theorem dX12_press_12 : decode cX12_press 12 = .ok (.invokevirtual 178, 3) := by decide +kernel
theorem dX12_press_15 : decode cX12_press 15 = .ok (.ifCond .eq 20, 3) := by decide +kernel
theorem dX12_press_18 : decode cX12_press 18 = .ok (.aload_n 0, 1) := by decide +kernel
theorem dX12_press_19 : decode cX12_press 19 = .ok (.iload_n 1, 1) := by decide +kernel
theorem dX12_press_20 : decode cX12_press 20 = .ok (.invokevirtual 181, 3) := by decide +kernel
theorem dX12_press_23 : decode cX12_press 23 = .ok (.ifCond .ne 12, 3) := by decide +kernel
theorem dX12_press_26 : decode cX12_press 26 = .ok (.iload_n 2, 1) := by decide +kernel
theorem dX12_press_27 : decode cX12_press 27 = .ok (.iconst 0, 1) := by decide +kernel
theorem dX12_press_28 : decode cX12_press 28 = .ok (.iconst 3, 1) := by decide +kernel
theorem dX12_press_29 : decode cX12_press 29 = .ok (.invokestatic 114, 3) := by decide +kernel
theorem dX12_press_32 : decode cX12_press 32 = .ok (.ifCond .ne 5, 3) := by decide +kernel
theorem dX12_press_35 : decode cX12_press 35 = .ok (.iconst 0, 1) := by decide +kernel
theorem dX12_press_36 : decode cX12_press 36 = .ok (.ireturn, 1) := by decide +kernel
theorem dX12_press_37 : decode cX12_press 37 = .ok (.aload_n 0, 1) := by decide +kernel
theorem dX12_press_38 : decode cX12_press 38 = .ok (.iload_n 1, 1) := by decide +kernel
theorem dX12_press_39 : decode cX12_press 39 = .ok (.iconst 4, 1) := by decide +kernel
theorem dX12_press_40 : decode cX12_press 40 = .ok (.iload_n 2, 1) := by decide +kernel
theorem dX12_press_41 : decode cX12_press 41 = .ok (.invokevirtual 175, 3) := by decide +kernel
theorem dX12_press_44 : decode cX12_press 44 = .ok (.iconst 1, 1) := by decide +kernel
theorem dX12_press_45 : decode cX12_press 45 = .ok (.ireturn, 1) := by decide +kernel
set_option maxRecDepth 20000 in
theorem ggX12_lade_X12_isBale : GoodIn wsX12_lade wsX12_isBale := goodIn_r _ [6, 1, 7, 8, 5, 9, 38, 39, 40, 41, 42, 43, 44, 45, 46, 47, 48, 49, 50, 51, 52, 53, 54, 55, 56, 57, 58] (by decide +kernel) (by decide +kernel)
set_option maxRecDepth 20000 in
theorem gX12_lade_X12_isBale : GoodIn wsX12_lade (wsV RX12 178 RX12 yX12_isBale wsX12_isBale) := goodIn_app (goodIn_of _ (by decide +kernel)) ggX12_lade_X12_isBale
set_option maxRecDepth 20000 in
theorem ggX12_lade_X12_lies : GoodIn wsX12_lade wsX12_lies := goodIn_r _ [13, 14, 15, 16, 5, 17, 1, 38, 39, 40, 41, 42, 43, 44, 45, 46, 47, 48, 49, 50, 51, 52, 53, 54, 55, 56, 57, 58] (by decide +kernel) (by decide +kernel)
set_option maxRecDepth 20000 in
theorem gX12_lade_X12_lies : GoodIn wsX12_lade (wsV RX12 181 RX12 yX12_lies wsX12_lies) := goodIn_app (goodIn_of _ (by decide +kernel)) ggX12_lade_X12_lies
set_option maxRecDepth 20000 in
theorem ggX12_lade_X12_isCitizen : GoodIn wsX12_lade wsX12_isCitizen := goodIn_r _ [21, 1, 7, 8, 5, 9, 38, 39, 40, 41, 42, 43, 44, 45, 46, 47, 48, 49, 50, 51, 52, 53, 54, 55, 56, 57, 58] (by decide +kernel) (by decide +kernel)
set_option maxRecDepth 20000 in
theorem gX12_lade_X12_isCitizen : GoodIn wsX12_lade (wsV RX12 165 RX12 yX12_isCitizen wsX12_isCitizen) := goodIn_app (goodIn_of _ (by decide +kernel)) ggX12_lade_X12_isCitizen
set_option maxRecDepth 20000 in
theorem ggX12_lade_X12_isIn : GoodIn wsX12_lade wsX12_isIn := goodIn_r _ [9] (by decide +kernel) (by decide +kernel)
set_option maxRecDepth 20000 in
theorem gX12_lade_X12_isIn : GoodIn wsX12_lade (va_wsS RX12 114 yX12_isIn wsX12_isIn) := goodIn_app (goodIn_of _ (by decide +kernel)) ggX12_lade_X12_isIn
set_option maxRecDepth 20000 in
theorem ggX12_lade_X12_room : GoodIn wsX12_lade wsX12_room := goodIn_r _ [25, 14, 15, 16, 5, 17, 1, 38, 39, 40, 41, 42, 43, 44, 45, 46, 47, 48, 49, 50, 51, 52, 53, 54, 55, 56, 57, 58] (by decide +kernel) (by decide +kernel)
set_option maxRecDepth 20000 in
theorem gX12_lade_X12_room : GoodIn wsX12_lade (wsV RX12 162 RX12 yX12_room wsX12_room) := goodIn_app (goodIn_of _ (by decide +kernel)) ggX12_lade_X12_room
set_option maxRecDepth 20000 in
theorem ggX12_lade_X12_free : GoodIn wsX12_lade wsX12_free := goodIn_r _ [29, 1, 30, 31, 32, 5, 33, 14, 15, 16, 17, 22, 23, 24, 25, 38, 39, 40, 41, 42, 43, 44, 45, 46, 47, 48, 49, 50, 51, 52, 53, 54, 55, 56, 57, 58] (by decide +kernel) (by decide +kernel)
set_option maxRecDepth 20000 in
theorem gX12_lade_X12_free : GoodIn wsX12_lade (wsV RX12 168 RX12 yX12_free wsX12_free) := goodIn_app (goodIn_of _ (by decide +kernel)) ggX12_lade_X12_free
set_option maxRecDepth 20000 in
theorem ggX12_lade_X12_sets : GoodIn wsX12_lade wsX12_sets := goodIn_r _ [37, 1, 38, 39, 40, 41, 42, 43, 44, 45, 46, 47, 48, 49, 50, 51, 52, 53, 54, 55, 56, 57, 58] (by decide +kernel) (by decide +kernel)
set_option maxRecDepth 20000 in
theorem gX12_lade_X12_sets : GoodIn wsX12_lade (wsV RX12 175 RX12 yX12_sets wsX12_sets) := goodIn_app (goodIn_of _ (by decide +kernel)) ggX12_lade_X12_sets
theorem dX12_lade_0 : decode cX12_lade 0 = .ok (.aload_n 0, 1) := by decide +kernel
theorem dX12_lade_1 : decode cX12_lade 1 = .ok (.getfield 7, 3) := by decide +kernel
theorem dX12_lade_4 : decode cX12_lade 4 = .ok (.iconst 1, 1) := by decide +kernel
theorem dX12_lade_5 : decode cX12_lade 5 = .ok (.iaload, 1) := by decide +kernel
theorem dX12_lade_6 : decode cX12_lade 6 = .ok (.iconst 1, 1) := by decide +kernel
theorem dX12_lade_7 : decode cX12_lade 7 = .ok (.if_icmp .eq 49, 3) := by decide +kernel
theorem dX12_lade_10 : decode cX12_lade 10 = .ok (.aload_n 0, 1) := by decide +kernel
theorem dX12_lade_11 : decode cX12_lade 11 = .ok (.iload_n 1, 1) := by decide +kernel
theorem dX12_lade_12 : decode cX12_lade 12 = .ok (.invokevirtual 178, 3) := by decide +kernel
theorem dX12_lade_15 : decode cX12_lade 15 = .ok (.ifCond .eq 41, 3) := by decide +kernel
theorem dX12_lade_18 : decode cX12_lade 18 = .ok (.aload_n 0, 1) := by decide +kernel
theorem dX12_lade_19 : decode cX12_lade 19 = .ok (.iload_n 1, 1) := by decide +kernel
theorem dX12_lade_20 : decode cX12_lade 20 = .ok (.invokevirtual 181, 3) := by decide +kernel
theorem dX12_lade_23 : decode cX12_lade 23 = .ok (.ifCond .ne 33, 3) := by decide +kernel
theorem dX12_lade_26 : decode cX12_lade 26 = .ok (.aload_n 0, 1) := by decide +kernel
theorem dX12_lade_27 : decode cX12_lade 27 = .ok (.iload_n 2, 1) := by decide +kernel
theorem dX12_lade_28 : decode cX12_lade 28 = .ok (.invokevirtual 165, 3) := by decide +kernel
theorem dX12_lade_31 : decode cX12_lade 31 = .ok (.ifCond .eq 25, 3) := by decide +kernel
theorem dX12_lade_34 : decode cX12_lade 34 = .ok (.iload_n 3, 1) := by decide +kernel
theorem dX12_lade_35 : decode cX12_lade 35 = .ok (.iconst 0, 1) := by decide +kernel
theorem dX12_lade_36 : decode cX12_lade 36 = .ok (.iconst 1, 1) := by decide +kernel
theorem dX12_lade_37 : decode cX12_lade 37 = .ok (.invokestatic 114, 3) := by decide +kernel
theorem dX12_lade_40 : decode cX12_lade 40 = .ok (.ifCond .eq 16, 3) := by decide +kernel
theorem dX12_lade_43 : decode cX12_lade 43 = .ok (.aload_n 0, 1) := by decide +kernel
theorem dX12_lade_44 : decode cX12_lade 44 = .ok (.iload_n 1, 1) := by decide +kernel
theorem dX12_lade_45 : decode cX12_lade 45 = .ok (.invokevirtual 162, 3) := by decide +kernel
theorem dX12_lade_48 : decode cX12_lade 48 = .ok (.aload_n 0, 1) := by decide +kernel
theorem dX12_lade_49 : decode cX12_lade 49 = .ok (.iload_n 2, 1) := by decide +kernel
theorem dX12_lade_50 : decode cX12_lade 50 = .ok (.invokevirtual 168, 3) := by decide +kernel
theorem dX12_lade_53 : decode cX12_lade 53 = .ok (.if_icmp .le 5, 3) := by decide +kernel
theorem dX12_lade_56 : decode cX12_lade 56 = .ok (.iconst 0, 1) := by decide +kernel
theorem dX12_lade_57 : decode cX12_lade 57 = .ok (.ireturn, 1) := by decide +kernel
theorem dX12_lade_58 : decode cX12_lade 58 = .ok (.aload_n 0, 1) := by decide +kernel
theorem dX12_lade_59 : decode cX12_lade 59 = .ok (.iload_n 1, 1) := by decide +kernel
theorem dX12_lade_60 : decode cX12_lade 60 = .ok (.iconst 5, 1) := by decide +kernel
theorem dX12_lade_61 : decode cX12_lade 61 = .ok (.iload_n 2, 1) := by decide +kernel
theorem dX12_lade_62 : decode cX12_lade 62 = .ok (.invokevirtual 175, 3) := by decide +kernel
theorem dX12_lade_65 : decode cX12_lade 65 = .ok (.aload_n 0, 1) := by decide +kernel
theorem dX12_lade_66 : decode cX12_lade 66 = .ok (.iload_n 1, 1) := by decide +kernel
theorem dX12_lade_67 : decode cX12_lade 67 = .ok (.bipush 6, 2) := by decide +kernel
theorem dX12_lade_69 : decode cX12_lade 69 = .ok (.iload_n 3, 1) := by decide +kernel
theorem dX12_lade_70 : decode cX12_lade 70 = .ok (.invokevirtual 175, 3) := by decide +kernel
theorem dX12_lade_73 : decode cX12_lade 73 = .ok (.iconst 1, 1) := by decide +kernel
theorem dX12_lade_74 : decode cX12_lade 74 = .ok (.ireturn, 1) := by decide +kernel
set_option maxRecDepth 20000 in
theorem ggX12_unlade_X12_isBale : GoodIn wsX12_unlade wsX12_isBale := goodIn_r _ [6, 1, 7, 8, 5, 9, 22, 23, 24, 25, 26, 27, 28, 29, 30, 31, 32, 33, 34, 35, 36, 37, 38, 39, 40, 41, 42] (by decide +kernel) (by decide +kernel)
set_option maxRecDepth 20000 in
theorem gX12_unlade_X12_isBale : GoodIn wsX12_unlade (wsV RX12 178 RX12 yX12_isBale wsX12_isBale) := goodIn_app (goodIn_of _ (by decide +kernel)) ggX12_unlade_X12_isBale
set_option maxRecDepth 20000 in
theorem ggX12_unlade_X12_lies : GoodIn wsX12_unlade wsX12_lies := goodIn_r _ [13, 14, 15, 16, 5, 17, 1, 22, 23, 24, 25, 26, 27, 28, 29, 30, 31, 32, 33, 34, 35, 36, 37, 38, 39, 40, 41, 42] (by decide +kernel) (by decide +kernel)
set_option maxRecDepth 20000 in
theorem gX12_unlade_X12_lies : GoodIn wsX12_unlade (wsV RX12 181 RX12 yX12_lies wsX12_lies) := goodIn_app (goodIn_of _ (by decide +kernel)) ggX12_unlade_X12_lies
set_option maxRecDepth 20000 in
theorem ggX12_unlade_X12_sets : GoodIn wsX12_unlade wsX12_sets := goodIn_r _ [21, 1, 22, 23, 24, 25, 26, 27, 28, 29, 30, 31, 32, 33, 34, 35, 36, 37, 38, 39, 40, 41, 42] (by decide +kernel) (by decide +kernel)
set_option maxRecDepth 20000 in
theorem gX12_unlade_X12_sets : GoodIn wsX12_unlade (wsV RX12 175 RX12 yX12_sets wsX12_sets) := goodIn_app (goodIn_of _ (by decide +kernel)) ggX12_unlade_X12_sets
theorem dX12_unlade_0 : decode cX12_unlade 0 = .ok (.aload_n 0, 1) := by decide +kernel
theorem dX12_unlade_1 : decode cX12_unlade 1 = .ok (.getfield 7, 3) := by decide +kernel
theorem dX12_unlade_4 : decode cX12_unlade 4 = .ok (.iconst 1, 1) := by decide +kernel
theorem dX12_unlade_5 : decode cX12_unlade 5 = .ok (.iaload, 1) := by decide +kernel
theorem dX12_unlade_6 : decode cX12_unlade 6 = .ok (.iconst 1, 1) := by decide +kernel
theorem dX12_unlade_7 : decode cX12_unlade 7 = .ok (.if_icmp .eq 19, 3) := by decide +kernel
theorem dX12_unlade_10 : decode cX12_unlade 10 = .ok (.aload_n 0, 1) := by decide +kernel
theorem dX12_unlade_11 : decode cX12_unlade 11 = .ok (.iload_n 1, 1) := by decide +kernel
theorem dX12_unlade_12 : decode cX12_unlade 12 = .ok (.invokevirtual 178, 3) := by decide +kernel
theorem dX12_unlade_15 : decode cX12_unlade 15 = .ok (.ifCond .eq 11, 3) := by decide +kernel
theorem dX12_unlade_18 : decode cX12_unlade 18 = .ok (.aload_n 0, 1) := by decide +kernel
theorem dX12_unlade_19 : decode cX12_unlade 19 = .ok (.iload_n 1, 1) := by decide +kernel
theorem dX12_unlade_20 : decode cX12_unlade 20 = .ok (.invokevirtual 181, 3) := by decide +kernel
theorem dX12_unlade_23 : decode cX12_unlade 23 = .ok (.ifCond .ne 5, 3) := by decide +kernel
theorem dX12_unlade_26 : decode cX12_unlade 26 = .ok (.iconst 0, 1) := by decide +kernel
theorem dX12_unlade_27 : decode cX12_unlade 27 = .ok (.ireturn, 1) := by decide +kernel
theorem dX12_unlade_28 : decode cX12_unlade 28 = .ok (.aload_n 0, 1) := by decide +kernel
theorem dX12_unlade_29 : decode cX12_unlade 29 = .ok (.iload_n 1, 1) := by decide +kernel
theorem dX12_unlade_30 : decode cX12_unlade 30 = .ok (.iconst 5, 1) := by decide +kernel
theorem dX12_unlade_31 : decode cX12_unlade 31 = .ok (.iconst (-1), 1) := by decide +kernel
theorem dX12_unlade_32 : decode cX12_unlade 32 = .ok (.invokevirtual 175, 3) := by decide +kernel
theorem dX12_unlade_35 : decode cX12_unlade 35 = .ok (.aload_n 0, 1) := by decide +kernel
theorem dX12_unlade_36 : decode cX12_unlade 36 = .ok (.iload_n 1, 1) := by decide +kernel
theorem dX12_unlade_37 : decode cX12_unlade 37 = .ok (.bipush 6, 2) := by decide +kernel
theorem dX12_unlade_39 : decode cX12_unlade 39 = .ok (.iconst (-1), 1) := by decide +kernel
theorem dX12_unlade_40 : decode cX12_unlade 40 = .ok (.invokevirtual 175, 3) := by decide +kernel
theorem dX12_unlade_43 : decode cX12_unlade 43 = .ok (.iconst 1, 1) := by decide +kernel
theorem dX12_unlade_44 : decode cX12_unlade 44 = .ok (.ireturn, 1) := by decide +kernel
set_option maxRecDepth 20000 in
theorem ggX12_tilt_X12_lies : GoodIn wsX12_tilt wsX12_lies := goodIn_r _ [6, 7, 8, 9, 5, 10, 1, 11, 12, 13, 14, 15, 16, 17, 18, 19, 20, 21, 22, 23, 24, 25, 26, 27, 28, 29, 30, 31] (by decide +kernel) (by decide +kernel)
set_option maxRecDepth 20000 in
theorem gX12_tilt_X12_lies : GoodIn wsX12_tilt (wsV RX12 181 RX12 yX12_lies wsX12_lies) := goodIn_app (goodIn_of _ (by decide +kernel)) ggX12_tilt_X12_lies
set_option maxRecDepth 20000 in
theorem ggX12_tilt_X12_its : GoodIn wsX12_tilt wsX12_its := goodIn_r _ [10, 1, 11, 12, 13, 14, 15, 16, 17, 18, 19, 20, 21, 22, 23, 24, 25, 26, 27, 28, 29, 30, 31] (by decide +kernel) (by decide +kernel)
set_option maxRecDepth 20000 in
theorem gX12_tilt_X12_its : GoodIn wsX12_tilt (wsV RX12 159 RX12 yX12_its wsX12_its) := goodIn_app (goodIn_of _ (by decide +kernel)) ggX12_tilt_X12_its
theorem dX12_tilt_0 : decode cX12_tilt 0 = .ok (.iconst 0, 1) := by decide +kernel
theorem dX12_tilt_1 : decode cX12_tilt 1 = .ok (.istore_n 1, 1) := by decide +kernel
theorem dX12_tilt_2 : decode cX12_tilt 2 = .ok (.iconst 0, 1) := by decide +kernel
theorem dX12_tilt_3 : decode cX12_tilt 3 = .ok (.istore_n 2, 1) := by decide +kernel
theorem dX12_tilt_4 : decode cX12_tilt 4 = .ok (.iload_n 2, 1) := by decide +kernel
theorem dX12_tilt_5 : decode cX12_tilt 5 = .ok (.aload_n 0, 1) := by decide +kernel
theorem dX12_tilt_6 : decode cX12_tilt 6 = .ok (.getfield 7, 3) := by decide +kernel
theorem dX12_tilt_9 : decode cX12_tilt 9 = .ok (.iconst 4, 1) := by decide +kernel
theorem dX12_tilt_10 : decode cX12_tilt 10 = .ok (.iaload, 1) := by decide +kernel
theorem dX12_tilt_11 : decode cX12_tilt 11 = .ok (.if_icmp .ge 46, 3) := by decide +kernel
theorem dX12_tilt_14 : decode cX12_tilt 14 = .ok (.aload_n 0, 1) := by decide +kernel
theorem dX12_tilt_15 : decode cX12_tilt 15 = .ok (.iload_n 2, 1) := by decide +kernel
theorem dX12_tilt_16 : decode cX12_tilt 16 = .ok (.invokevirtual 181, 3) := by decide +kernel
theorem dX12_tilt_19 : decode cX12_tilt 19 = .ok (.ifCond .eq 32, 3) := by decide +kernel
theorem dX12_tilt_22 : decode cX12_tilt 22 = .ok (.iload_n 1, 1) := by decide +kernel
theorem dX12_tilt_23 : decode cX12_tilt 23 = .ok (.aload_n 0, 1) := by decide +kernel
theorem dX12_tilt_24 : decode cX12_tilt 24 = .ok (.iload_n 2, 1) := by decide +kernel
theorem dX12_tilt_25 : decode cX12_tilt 25 = .ok (.bipush 6, 2) := by decide +kernel
theorem dX12_tilt_27 : decode cX12_tilt 27 = .ok (.invokevirtual 159, 3) := by decide +kernel
theorem dX12_tilt_30 : decode cX12_tilt 30 = .ok (.ifCond .ne 12, 3) := by decide +kernel
theorem dX12_tilt_33 : decode cX12_tilt 33 = .ok (.aload_n 0, 1) := by decide +kernel
theorem dX12_tilt_34 : decode cX12_tilt 34 = .ok (.iload_n 2, 1) := by decide +kernel
theorem dX12_tilt_35 : decode cX12_tilt 35 = .ok (.iconst 2, 1) := by decide +kernel
theorem dX12_tilt_36 : decode cX12_tilt 36 = .ok (.invokevirtual 159, 3) := by decide +kernel
theorem dX12_tilt_39 : decode cX12_tilt 39 = .ok (.goto 10, 3) := by decide +kernel
theorem dX12_tilt_42 : decode cX12_tilt 42 = .ok (.aload_n 0, 1) := by decide +kernel
theorem dX12_tilt_43 : decode cX12_tilt 43 = .ok (.iload_n 2, 1) := by decide +kernel
theorem dX12_tilt_44 : decode cX12_tilt 44 = .ok (.iconst 2, 1) := by decide +kernel
theorem dX12_tilt_45 : decode cX12_tilt 45 = .ok (.invokevirtual 159, 3) := by decide +kernel
theorem dX12_tilt_48 : decode cX12_tilt 48 = .ok (.ineg, 1) := by decide +kernel
theorem dX12_tilt_49 : decode cX12_tilt 49 = .ok (.iadd, 1) := by decide +kernel
theorem dX12_tilt_50 : decode cX12_tilt 50 = .ok (.istore_n 1, 1) := by decide +kernel
theorem dX12_tilt_51 : decode cX12_tilt 51 = .ok (.iinc 2 1, 3) := by decide +kernel
theorem dX12_tilt_54 : decode cX12_tilt 54 = .ok (.goto (-50), 3) := by decide +kernel
theorem dX12_tilt_57 : decode cX12_tilt 57 = .ok (.iload_n 1, 1) := by decide +kernel
theorem dX12_tilt_58 : decode cX12_tilt 58 = .ok (.ireturn, 1) := by decide +kernel
set_option maxRecDepth 20000 in
theorem ggX12_weight_X12_lies : GoodIn wsX12_weight wsX12_lies := goodIn_r _ [6, 7, 8, 9, 5, 10, 1, 11, 12, 13, 14, 15, 16, 17, 18, 19, 20, 21, 22, 23, 24, 25, 26, 27, 28, 29, 30, 31] (by decide +kernel) (by decide +kernel)
set_option maxRecDepth 20000 in
theorem gX12_weight_X12_lies : GoodIn wsX12_weight (wsV RX12 181 RX12 yX12_lies wsX12_lies) := goodIn_app (goodIn_of _ (by decide +kernel)) ggX12_weight_X12_lies
set_option maxRecDepth 20000 in
theorem ggX12_weight_X12_its : GoodIn wsX12_weight wsX12_its := goodIn_r _ [10, 1, 11, 12, 13, 14, 15, 16, 17, 18, 19, 20, 21, 22, 23, 24, 25, 26, 27, 28, 29, 30, 31] (by decide +kernel) (by decide +kernel)
set_option maxRecDepth 20000 in
theorem gX12_weight_X12_its : GoodIn wsX12_weight (wsV RX12 159 RX12 yX12_its wsX12_its) := goodIn_app (goodIn_of _ (by decide +kernel)) ggX12_weight_X12_its
theorem dX12_weight_0 : decode cX12_weight 0 = .ok (.iconst 0, 1) := by decide +kernel
theorem dX12_weight_1 : decode cX12_weight 1 = .ok (.istore_n 1, 1) := by decide +kernel
theorem dX12_weight_2 : decode cX12_weight 2 = .ok (.iconst 0, 1) := by decide +kernel
theorem dX12_weight_3 : decode cX12_weight 3 = .ok (.istore_n 2, 1) := by decide +kernel
theorem dX12_weight_4 : decode cX12_weight 4 = .ok (.iload_n 2, 1) := by decide +kernel
theorem dX12_weight_5 : decode cX12_weight 5 = .ok (.aload_n 0, 1) := by decide +kernel
theorem dX12_weight_6 : decode cX12_weight 6 = .ok (.getfield 7, 3) := by decide +kernel
theorem dX12_weight_9 : decode cX12_weight 9 = .ok (.iconst 4, 1) := by decide +kernel
theorem dX12_weight_10 : decode cX12_weight 10 = .ok (.iaload, 1) := by decide +kernel
theorem dX12_weight_11 : decode cX12_weight 11 = .ok (.if_icmp .ge 26, 3) := by decide +kernel
theorem dX12_weight_14 : decode cX12_weight 14 = .ok (.aload_n 0, 1) := by decide +kernel
theorem dX12_weight_15 : decode cX12_weight 15 = .ok (.iload_n 2, 1) := by decide +kernel
theorem dX12_weight_16 : decode cX12_weight 16 = .ok (.invokevirtual 181, 3) := by decide +kernel
theorem dX12_weight_19 : decode cX12_weight 19 = .ok (.ifCond .eq 12, 3) := by decide +kernel
theorem dX12_weight_22 : decode cX12_weight 22 = .ok (.iload_n 1, 1) := by decide +kernel
theorem dX12_weight_23 : decode cX12_weight 23 = .ok (.aload_n 0, 1) := by decide +kernel
theorem dX12_weight_24 : decode cX12_weight 24 = .ok (.iload_n 2, 1) := by decide +kernel
theorem dX12_weight_25 : decode cX12_weight 25 = .ok (.iconst 2, 1) := by decide +kernel
theorem dX12_weight_26 : decode cX12_weight 26 = .ok (.invokevirtual 159, 3) := by decide +kernel
theorem dX12_weight_29 : decode cX12_weight 29 = .ok (.iadd, 1) := by decide +kernel
theorem dX12_weight_30 : decode cX12_weight 30 = .ok (.istore_n 1, 1) := by decide +kernel
theorem dX12_weight_31 : decode cX12_weight 31 = .ok (.iinc 2 1, 3) := by decide +kernel
theorem dX12_weight_34 : decode cX12_weight 34 = .ok (.goto (-30), 3) := by decide +kernel
theorem dX12_weight_37 : decode cX12_weight 37 = .ok (.iload_n 1, 1) := by decide +kernel
theorem dX12_weight_38 : decode cX12_weight 38 = .ok (.ireturn, 1) := by decide +kernel
set_option maxRecDepth 20000 in
theorem ggX12_bears_X12_isIn : GoodIn wsX12_bears wsX12_isIn := goodIn_r _ [5] (by decide +kernel) (by decide +kernel)
set_option maxRecDepth 20000 in
theorem gX12_bears_X12_isIn : GoodIn wsX12_bears (va_wsS RX12 114 yX12_isIn wsX12_isIn) := goodIn_app (goodIn_of _ (by decide +kernel)) ggX12_bears_X12_isIn
theorem dX12_bears_0 : decode cX12_bears 0 = .ok (.iload_n 1, 1) := by decide +kernel
theorem dX12_bears_1 : decode cX12_bears 1 = .ok (.aload_n 0, 1) := by decide +kernel
theorem dX12_bears_2 : decode cX12_bears 2 = .ok (.getfield 7, 3) := by decide +kernel
theorem dX12_bears_5 : decode cX12_bears 5 = .ok (.bipush 8, 2) := by decide +kernel
theorem dX12_bears_7 : decode cX12_bears 7 = .ok (.iaload, 1) := by decide +kernel
theorem dX12_bears_8 : decode cX12_bears 8 = .ok (.ineg, 1) := by decide +kernel
theorem dX12_bears_9 : decode cX12_bears 9 = .ok (.aload_n 0, 1) := by decide +kernel
theorem dX12_bears_10 : decode cX12_bears 10 = .ok (.getfield 7, 3) := by decide +kernel
theorem dX12_bears_13 : decode cX12_bears 13 = .ok (.bipush 8, 2) := by decide +kernel
theorem dX12_bears_15 : decode cX12_bears 15 = .ok (.iaload, 1) := by decide +kernel
theorem dX12_bears_16 : decode cX12_bears 16 = .ok (.invokestatic 114, 3) := by decide +kernel
theorem dX12_bears_19 : decode cX12_bears 19 = .ok (.ifCond .eq 18, 3) := by decide +kernel
theorem dX12_bears_22 : decode cX12_bears 22 = .ok (.iload_n 2, 1) := by decide +kernel
theorem dX12_bears_23 : decode cX12_bears 23 = .ok (.aload_n 0, 1) := by decide +kernel
theorem dX12_bears_24 : decode cX12_bears 24 = .ok (.getfield 7, 3) := by decide +kernel
theorem dX12_bears_27 : decode cX12_bears 27 = .ok (.bipush 9, 2) := by decide +kernel
theorem dX12_bears_29 : decode cX12_bears 29 = .ok (.iaload, 1) := by decide +kernel
theorem dX12_bears_30 : decode cX12_bears 30 = .ok (.if_icmp .gt 7, 3) := by decide +kernel
theorem dX12_bears_33 : decode cX12_bears 33 = .ok (.iconst 1, 1) := by decide +kernel
theorem dX12_bears_34 : decode cX12_bears 34 = .ok (.goto 4, 3) := by decide +kernel
theorem dX12_bears_37 : decode cX12_bears 37 = .ok (.iconst 0, 1) := by decide +kernel
theorem dX12_bears_38 : decode cX12_bears 38 = .ok (.ireturn, 1) := by decide +kernel
theorem dX12_turns_0 : decode cX12_turns 0 = .ok (.iload_n 1, 1) := by decide +kernel
theorem dX12_turns_1 : decode cX12_turns 1 = .ok (.iconst 1, 1) := by decide +kernel
theorem dX12_turns_2 : decode cX12_turns 2 = .ok (.isub, 1) := by decide +kernel
theorem dX12_turns_3 : decode cX12_turns 3 = .ok (.istore_n 2, 1) := by decide +kernel
theorem dX12_turns_4 : decode cX12_turns 4 = .ok (.iload_n 2, 1) := by decide +kernel
theorem dX12_turns_5 : decode cX12_turns 5 = .ok (.ifCond .lt 38, 3) := by decide +kernel
theorem dX12_turns_8 : decode cX12_turns 8 = .ok (.aload_n 0, 1) := by decide +kernel
theorem dX12_turns_9 : decode cX12_turns 9 = .ok (.getfield 32, 3) := by decide +kernel
theorem dX12_turns_12 : decode cX12_turns 12 = .ok (.iload_n 2, 1) := by decide +kernel
theorem dX12_turns_13 : decode cX12_turns 13 = .ok (.iaload, 1) := by decide +kernel
theorem dX12_turns_14 : decode cX12_turns 14 = .ok (.iconst 2, 1) := by decide +kernel
theorem dX12_turns_15 : decode cX12_turns 15 = .ok (.if_icmp .ge 15, 3) := by decide +kernel
theorem dX12_turns_18 : decode cX12_turns 18 = .ok (.aload_n 0, 1) := by decide +kernel
theorem dX12_turns_19 : decode cX12_turns 19 = .ok (.getfield 32, 3) := by decide +kernel
theorem dX12_turns_22 : decode cX12_turns 22 = .ok (.iload_n 2, 1) := by decide +kernel
theorem dX12_turns_23 : decode cX12_turns 23 = .ok (.dup2, 1) := by decide +kernel
theorem dX12_turns_24 : decode cX12_turns 24 = .ok (.iaload, 1) := by decide +kernel
theorem dX12_turns_25 : decode cX12_turns 25 = .ok (.iconst 1, 1) := by decide +kernel
theorem dX12_turns_26 : decode cX12_turns 26 = .ok (.iadd, 1) := by decide +kernel
theorem dX12_turns_27 : decode cX12_turns 27 = .ok (.iastore, 1) := by decide +kernel
theorem dX12_turns_28 : decode cX12_turns 28 = .ok (.iconst 1, 1) := by decide +kernel
theorem dX12_turns_29 : decode cX12_turns 29 = .ok (.ireturn, 1) := by decide +kernel
theorem dX12_turns_30 : decode cX12_turns 30 = .ok (.aload_n 0, 1) := by decide +kernel
theorem dX12_turns_31 : decode cX12_turns 31 = .ok (.getfield 32, 3) := by decide +kernel
theorem dX12_turns_34 : decode cX12_turns 34 = .ok (.iload_n 2, 1) := by decide +kernel
theorem dX12_turns_35 : decode cX12_turns 35 = .ok (.iconst 0, 1) := by decide +kernel
theorem dX12_turns_36 : decode cX12_turns 36 = .ok (.iastore, 1) := by decide +kernel
theorem dX12_turns_37 : decode cX12_turns 37 = .ok (.iinc 2 (-1), 3) := by decide +kernel
theorem dX12_turns_40 : decode cX12_turns 40 = .ok (.goto (-36), 3) := by decide +kernel
theorem dX12_turns_43 : decode cX12_turns 43 = .ok (.iconst 0, 1) := by decide +kernel
theorem dX12_turns_44 : decode cX12_turns 44 = .ok (.ireturn, 1) := by decide +kernel
set_option maxRecDepth 20000 in
theorem ggX12_can_X12_free : GoodIn wsX12_can wsX12_free := goodIn_r _ [11, 1, 12, 13, 14, 10, 15, 16, 17, 18, 19, 20, 21, 22, 23, 47, 48, 49, 50, 51, 52, 53, 54, 55, 56, 57, 58, 59, 60, 61, 62, 63, 64, 65, 66, 67] (by decide +kernel) (by decide +kernel)
set_option maxRecDepth 20000 in
theorem gX12_can_X12_free : GoodIn wsX12_can (wsV RX12 168 RX12 yX12_free wsX12_free) := goodIn_app (goodIn_of _ (by decide +kernel)) ggX12_can_X12_free
set_option maxRecDepth 20000 in
theorem ggX12_can_X12_tilt : GoodIn wsX12_can wsX12_tilt := goodIn_r _ [27, 1, 28, 29, 30, 10, 31, 16, 17, 18, 19, 47, 48, 49, 50, 51, 52, 53, 54, 55, 56, 57, 58, 59, 60, 61, 62, 63, 64, 65, 66, 67] (by decide +kernel) (by decide +kernel)
set_option maxRecDepth 20000 in
theorem gX12_can_X12_tilt : GoodIn wsX12_can (wsV RX12 184 RX12 yX12_tilt wsX12_tilt) := goodIn_app (goodIn_of _ (by decide +kernel)) ggX12_can_X12_tilt
set_option maxRecDepth 20000 in
theorem ggX12_can_X12_weight : GoodIn wsX12_can wsX12_weight := goodIn_r _ [35, 1, 28, 29, 30, 10, 31, 16, 17, 18, 19, 47, 48, 49, 50, 51, 52, 53, 54, 55, 56, 57, 58, 59, 60, 61, 62, 63, 64, 65, 66, 67] (by decide +kernel) (by decide +kernel)
set_option maxRecDepth 20000 in
theorem gX12_can_X12_weight : GoodIn wsX12_can (wsV RX12 187 RX12 yX12_weight wsX12_weight) := goodIn_app (goodIn_of _ (by decide +kernel)) ggX12_can_X12_weight
set_option maxRecDepth 20000 in
theorem ggX12_can_X12_its : GoodIn wsX12_can wsX12_its := goodIn_r _ [19, 1, 47, 48, 49, 50, 51, 52, 53, 54, 55, 56, 57, 58, 59, 60, 61, 62, 63, 64, 65, 66, 67] (by decide +kernel) (by decide +kernel)
set_option maxRecDepth 20000 in
theorem gX12_can_X12_its : GoodIn wsX12_can (wsV RX12 159 RX12 yX12_its wsX12_its) := goodIn_app (goodIn_of _ (by decide +kernel)) ggX12_can_X12_its
set_option maxRecDepth 20000 in
theorem ggX12_can_X12_room : GoodIn wsX12_can wsX12_room := goodIn_r _ [23, 16, 17, 18, 10, 19, 1, 47, 48, 49, 50, 51, 52, 53, 54, 55, 56, 57, 58, 59, 60, 61, 62, 63, 64, 65, 66, 67] (by decide +kernel) (by decide +kernel)
set_option maxRecDepth 20000 in
theorem gX12_can_X12_room : GoodIn wsX12_can (wsV RX12 162 RX12 yX12_room wsX12_room) := goodIn_app (goodIn_of _ (by decide +kernel)) ggX12_can_X12_room
set_option maxRecDepth 20000 in
theorem ggX12_can_X12_value : GoodIn wsX12_can wsX12_value := goodIn_r _ [39, 16, 17, 18, 10, 19, 1, 47, 48, 49, 50, 51, 52, 53, 54, 55, 56, 57, 58, 59, 60, 61, 62, 63, 64, 65, 66, 67] (by decide +kernel) (by decide +kernel)
set_option maxRecDepth 20000 in
theorem gX12_can_X12_value : GoodIn wsX12_can (wsV RX12 196 RX12 yX12_value wsX12_value) := goodIn_app (goodIn_of _ (by decide +kernel)) ggX12_can_X12_value
set_option maxRecDepth 20000 in
theorem ggX12_can_X12_bears : GoodIn wsX12_can wsX12_bears := goodIn_r _ [43, 1, 44, 45, 10, 46, 47, 48, 49, 50, 51, 52, 53, 54, 55, 56, 57, 58, 59, 60, 61, 62, 63, 64, 65, 66, 67] (by decide +kernel) (by decide +kernel)
set_option maxRecDepth 20000 in
theorem gX12_can_X12_bears : GoodIn wsX12_can (wsV RX12 199 RX12 yX12_bears wsX12_bears) := goodIn_app (goodIn_of _ (by decide +kernel)) ggX12_can_X12_bears
theorem dX12_can_0 : decode cX12_can 0 = .ok (.iconst 0, 1) := by decide +kernel
theorem dX12_can_1 : decode cX12_can 1 = .ok (.istore_n 2, 1) := by decide +kernel
theorem dX12_can_2 : decode cX12_can 2 = .ok (.iload_n 2, 1) := by decide +kernel
theorem dX12_can_3 : decode cX12_can 3 = .ok (.aload_n 0, 1) := by decide +kernel
theorem dX12_can_4 : decode cX12_can 4 = .ok (.getfield 7, 3) := by decide +kernel
theorem dX12_can_7 : decode cX12_can 7 = .ok (.iconst 3, 1) := by decide +kernel
theorem dX12_can_8 : decode cX12_can 8 = .ok (.iaload, 1) := by decide +kernel
theorem dX12_can_9 : decode cX12_can 9 = .ok (.if_icmp .ge 20, 3) := by decide +kernel
theorem dX12_can_12 : decode cX12_can 12 = .ok (.aload_n 0, 1) := by decide +kernel
theorem dX12_can_13 : decode cX12_can 13 = .ok (.getfield 38, 3) := by decide +kernel
theorem dX12_can_16 : decode cX12_can 16 = .ok (.iload_n 2, 1) := by decide +kernel
theorem dX12_can_17 : decode cX12_can 17 = .ok (.aload_n 0, 1) := by decide +kernel
theorem dX12_can_18 : decode cX12_can 18 = .ok (.iload_n 2, 1) := by decide +kernel
theorem dX12_can_19 : decode cX12_can 19 = .ok (.invokevirtual 168, 3) := by decide +kernel
theorem dX12_can_22 : decode cX12_can 22 = .ok (.iastore, 1) := by decide +kernel
theorem dX12_can_23 : decode cX12_can 23 = .ok (.iinc 2 1, 3) := by decide +kernel
theorem dX12_can_26 : decode cX12_can 26 = .ok (.goto (-24), 3) := by decide +kernel
theorem dX12_can_29 : decode cX12_can 29 = .ok (.aload_n 0, 1) := by decide +kernel
theorem dX12_can_30 : decode cX12_can 30 = .ok (.invokevirtual 184, 3) := by decide +kernel
theorem dX12_can_33 : decode cX12_can 33 = .ok (.istore_n 2, 1) := by decide +kernel
theorem dX12_can_34 : decode cX12_can 34 = .ok (.aload_n 0, 1) := by decide +kernel
theorem dX12_can_35 : decode cX12_can 35 = .ok (.invokevirtual 187, 3) := by decide +kernel
theorem dX12_can_38 : decode cX12_can 38 = .ok (.istore_n 3, 1) := by decide +kernel
theorem dX12_can_39 : decode cX12_can 39 = .ok (.aload_n 0, 1) := by decide +kernel
theorem dX12_can_40 : decode cX12_can 40 = .ok (.iconst 0, 1) := by decide +kernel
theorem dX12_can_41 : decode cX12_can 41 = .ok (.putfield 190, 3) := by decide +kernel
theorem dX12_can_44 : decode cX12_can 44 = .ok (.aload_n 0, 1) := by decide +kernel
theorem dX12_can_45 : decode cX12_can 45 = .ok (.iconst 0, 1) := by decide +kernel
theorem dX12_can_46 : decode cX12_can 46 = .ok (.putfield 193, 3) := by decide +kernel
theorem dX12_can_49 : decode cX12_can 49 = .ok (.iconst 1, 1) := by decide +kernel
theorem dX12_can_50 : decode cX12_can 50 = .ok (.istore 4, 2) := by decide +kernel
theorem dX12_can_52 : decode cX12_can 52 = .ok (.iconst 0, 1) := by decide +kernel
theorem dX12_can_53 : decode cX12_can 53 = .ok (.istore 5, 2) := by decide +kernel
theorem dX12_can_55 : decode cX12_can 55 = .ok (.iload 5, 2) := by decide +kernel
theorem dX12_can_57 : decode cX12_can 57 = .ok (.iload_n 1, 1) := by decide +kernel
theorem dX12_can_58 : decode cX12_can 58 = .ok (.if_icmp .ge 151, 3) := by decide +kernel
theorem dX12_can_61 : decode cX12_can 61 = .ok (.aload_n 0, 1) := by decide +kernel
theorem dX12_can_62 : decode cX12_can 62 = .ok (.getfield 29, 3) := by decide +kernel
theorem dX12_can_65 : decode cX12_can 65 = .ok (.iload 5, 2) := by decide +kernel
theorem dX12_can_67 : decode cX12_can 67 = .ok (.iaload, 1) := by decide +kernel
theorem dX12_can_68 : decode cX12_can 68 = .ok (.istore 6, 2) := by decide +kernel
theorem dX12_can_70 : decode cX12_can 70 = .ok (.aload_n 0, 1) := by decide +kernel
theorem dX12_can_71 : decode cX12_can 71 = .ok (.getfield 32, 3) := by decide +kernel
theorem dX12_can_74 : decode cX12_can 74 = .ok (.iload 5, 2) := by decide +kernel
theorem dX12_can_76 : decode cX12_can 76 = .ok (.iaload, 1) := by decide +kernel
theorem dX12_can_77 : decode cX12_can 77 = .ok (.iconst 2, 1) := by decide +kernel
theorem dX12_can_78 : decode cX12_can 78 = .ok (.if_icmp .ne 6, 3) := by decide +kernel
theorem dX12_can_81 : decode cX12_can 81 = .ok (.goto 122, 3) := by decide +kernel
theorem dX12_can_84 : decode cX12_can 84 = .ok (.aload_n 0, 1) := by decide +kernel
theorem dX12_can_85 : decode cX12_can 85 = .ok (.getfield 38, 3) := by decide +kernel
theorem dX12_can_88 : decode cX12_can 88 = .ok (.aload_n 0, 1) := by decide +kernel
theorem dX12_can_89 : decode cX12_can 89 = .ok (.iload 6, 2) := by decide +kernel
theorem dX12_can_91 : decode cX12_can 91 = .ok (.iconst 0, 1) := by decide +kernel
theorem dX12_can_92 : decode cX12_can 92 = .ok (.invokevirtual 159, 3) := by decide +kernel
theorem dX12_can_95 : decode cX12_can 95 = .ok (.dup2, 1) := by decide +kernel
theorem dX12_can_96 : decode cX12_can 96 = .ok (.iaload, 1) := by decide +kernel
theorem dX12_can_97 : decode cX12_can 97 = .ok (.aload_n 0, 1) := by decide +kernel
theorem dX12_can_98 : decode cX12_can 98 = .ok (.iload 6, 2) := by decide +kernel
theorem dX12_can_100 : decode cX12_can 100 = .ok (.invokevirtual 162, 3) := by decide +kernel
theorem dX12_can_103 : decode cX12_can 103 = .ok (.isub, 1) := by decide +kernel
theorem dX12_can_104 : decode cX12_can 104 = .ok (.iastore, 1) := by decide +kernel
theorem dX12_can_105 : decode cX12_can 105 = .ok (.iload 4, 2) := by decide +kernel
theorem dX12_can_107 : decode cX12_can 107 = .ok (.ifCond .eq 22, 3) := by decide +kernel
theorem dX12_can_110 : decode cX12_can 110 = .ok (.aload_n 0, 1) := by decide +kernel
theorem dX12_can_111 : decode cX12_can 111 = .ok (.getfield 38, 3) := by decide +kernel
theorem dX12_can_114 : decode cX12_can 114 = .ok (.aload_n 0, 1) := by decide +kernel
theorem dX12_can_115 : decode cX12_can 115 = .ok (.iload 6, 2) := by decide +kernel
theorem dX12_can_117 : decode cX12_can 117 = .ok (.iconst 0, 1) := by decide +kernel
theorem dX12_can_118 : decode cX12_can 118 = .ok (.invokevirtual 159, 3) := by decide +kernel
theorem dX12_can_121 : decode cX12_can 121 = .ok (.iaload, 1) := by decide +kernel
theorem dX12_can_122 : decode cX12_can 122 = .ok (.ifCond .lt 7, 3) := by decide +kernel
theorem dX12_can_125 : decode cX12_can 125 = .ok (.iconst 1, 1) := by decide +kernel
theorem dX12_can_126 : decode cX12_can 126 = .ok (.goto 4, 3) := by decide +kernel
theorem dX12_can_129 : decode cX12_can 129 = .ok (.iconst 0, 1) := by decide +kernel
theorem dX12_can_130 : decode cX12_can 130 = .ok (.istore 4, 2) := by decide +kernel
theorem dX12_can_132 : decode cX12_can 132 = .ok (.iload_n 2, 1) := by decide +kernel
theorem dX12_can_133 : decode cX12_can 133 = .ok (.aload_n 0, 1) := by decide +kernel
theorem dX12_can_134 : decode cX12_can 134 = .ok (.getfield 32, 3) := by decide +kernel
theorem dX12_can_137 : decode cX12_can 137 = .ok (.iload 5, 2) := by decide +kernel
theorem dX12_can_139 : decode cX12_can 139 = .ok (.iaload, 1) := by decide +kernel
theorem dX12_can_140 : decode cX12_can 140 = .ok (.ifCond .ne 13, 3) := by decide +kernel
theorem dX12_can_143 : decode cX12_can 143 = .ok (.aload_n 0, 1) := by decide +kernel
theorem dX12_can_144 : decode cX12_can 144 = .ok (.iload 6, 2) := by decide +kernel
theorem dX12_can_146 : decode cX12_can 146 = .ok (.iconst 2, 1) := by decide +kernel
theorem dX12_can_147 : decode cX12_can 147 = .ok (.invokevirtual 159, 3) := by decide +kernel
theorem dX12_can_150 : decode cX12_can 150 = .ok (.goto 11, 3) := by decide +kernel
theorem dX12_can_153 : decode cX12_can 153 = .ok (.aload_n 0, 1) := by decide +kernel
theorem dX12_can_154 : decode cX12_can 154 = .ok (.iload 6, 2) := by decide +kernel
theorem dX12_can_156 : decode cX12_can 156 = .ok (.iconst 2, 1) := by decide +kernel
theorem dX12_can_157 : decode cX12_can 157 = .ok (.invokevirtual 159, 3) := by decide +kernel
theorem dX12_can_160 : decode cX12_can 160 = .ok (.ineg, 1) := by decide +kernel
theorem dX12_can_161 : decode cX12_can 161 = .ok (.iadd, 1) := by decide +kernel
theorem dX12_can_162 : decode cX12_can 162 = .ok (.istore_n 2, 1) := by decide +kernel
theorem dX12_can_163 : decode cX12_can 163 = .ok (.iload_n 3, 1) := by decide +kernel
theorem dX12_can_164 : decode cX12_can 164 = .ok (.aload_n 0, 1) := by decide +kernel
theorem dX12_can_165 : decode cX12_can 165 = .ok (.iload 6, 2) := by decide +kernel
theorem dX12_can_167 : decode cX12_can 167 = .ok (.iconst 2, 1) := by decide +kernel
theorem dX12_can_168 : decode cX12_can 168 = .ok (.invokevirtual 159, 3) := by decide +kernel
theorem dX12_can_171 : decode cX12_can 171 = .ok (.iadd, 1) := by decide +kernel
theorem dX12_can_172 : decode cX12_can 172 = .ok (.istore_n 3, 1) := by decide +kernel
theorem dX12_can_173 : decode cX12_can 173 = .ok (.aload_n 0, 1) := by decide +kernel
theorem dX12_can_174 : decode cX12_can 174 = .ok (.dup, 1) := by decide +kernel
theorem dX12_can_175 : decode cX12_can 175 = .ok (.getfield 190, 3) := by decide +kernel
theorem dX12_can_178 : decode cX12_can 178 = .ok (.aload_n 0, 1) := by decide +kernel
theorem dX12_can_179 : decode cX12_can 179 = .ok (.iload 6, 2) := by decide +kernel
theorem dX12_can_181 : decode cX12_can 181 = .ok (.invokevirtual 196, 3) := by decide +kernel
theorem dX12_can_184 : decode cX12_can 184 = .ok (.iadd, 1) := by decide +kernel
theorem dX12_can_185 : decode cX12_can 185 = .ok (.putfield 190, 3) := by decide +kernel
theorem dX12_can_188 : decode cX12_can 188 = .ok (.aload_n 0, 1) := by decide +kernel
theorem dX12_can_189 : decode cX12_can 189 = .ok (.dup, 1) := by decide +kernel
theorem dX12_can_190 : decode cX12_can 190 = .ok (.getfield 193, 3) := by decide +kernel
theorem dX12_can_193 : decode cX12_can 193 = .ok (.aload_n 0, 1) := by decide +kernel
theorem dX12_can_194 : decode cX12_can 194 = .ok (.iload 6, 2) := by decide +kernel
theorem dX12_can_196 : decode cX12_can 196 = .ok (.invokevirtual 162, 3) := by decide +kernel
theorem dX12_can_199 : decode cX12_can 199 = .ok (.iadd, 1) := by decide +kernel
theorem dX12_can_200 : decode cX12_can 200 = .ok (.putfield 193, 3) := by decide +kernel
theorem dX12_can_203 : decode cX12_can 203 = .ok (.iinc 5 1, 3) := by decide +kernel
theorem dX12_can_206 : decode cX12_can 206 = .ok (.goto (-151), 3) := by decide +kernel
theorem dX12_can_209 : decode cX12_can 209 = .ok (.iload 4, 2) := by decide +kernel
theorem dX12_can_211 : decode cX12_can 211 = .ok (.ifCond .eq 16, 3) := by decide +kernel
theorem dX12_can_214 : decode cX12_can 214 = .ok (.aload_n 0, 1) := by decide +kernel
theorem dX12_can_215 : decode cX12_can 215 = .ok (.iload_n 2, 1) := by decide +kernel
theorem dX12_can_216 : decode cX12_can 216 = .ok (.iload_n 3, 1) := by decide +kernel
theorem dX12_can_217 : decode cX12_can 217 = .ok (.invokevirtual 199, 3) := by decide +kernel
theorem dX12_can_220 : decode cX12_can 220 = .ok (.ifCond .eq 7, 3) := by decide +kernel
theorem dX12_can_223 : decode cX12_can 223 = .ok (.iconst 1, 1) := by decide +kernel
theorem dX12_can_224 : decode cX12_can 224 = .ok (.goto 4, 3) := by decide +kernel
theorem dX12_can_227 : decode cX12_can 227 = .ok (.iconst 0, 1) := by decide +kernel
theorem dX12_can_228 : decode cX12_can 228 = .ok (.ireturn, 1) := by decide +kernel
set_option maxRecDepth 20000 in
theorem ggX12_best_X12_lies : GoodIn wsX12_best wsX12_lies := goodIn_r _ [11, 12, 13, 14, 10, 15, 1, 60, 61, 62, 63, 64, 65, 66, 67, 68, 69, 70, 71, 72, 73, 74, 75, 76, 77, 78, 79, 80] (by decide +kernel) (by decide +kernel)
set_option maxRecDepth 20000 in
theorem gX12_best_X12_lies : GoodIn wsX12_best (wsV RX12 181 RX12 yX12_lies wsX12_lies) := goodIn_app (goodIn_of _ (by decide +kernel)) ggX12_best_X12_lies
set_option maxRecDepth 20000 in
theorem ggX12_best_X12_can : GoodIn wsX12_best wsX12_can := goodIn_r _ [19, 1, 20, 4, 5, 2, 3, 21, 22, 23, 10, 24, 25, 26, 27, 28, 12, 13, 14, 15, 29, 30, 31, 32, 33, 34, 35, 36, 7, 8, 9, 11, 37, 38, 39, 40, 41, 42, 43, 44, 45, 46, 47, 48, 49, 50, 51, 60, 61, 62, 63, 64, 65, 66, 67, 68, 69, 70, 71, 72, 73, 74, 75, 76, 77, 78, 79, 80] (by decide +kernel) (by decide +kernel)
set_option maxRecDepth 20000 in
theorem gX12_best_X12_can : GoodIn wsX12_best (wsV RX12 202 RX12 yX12_can wsX12_can) := goodIn_app (goodIn_of _ (by decide +kernel)) ggX12_best_X12_can
set_option maxRecDepth 20000 in
theorem ggX12_best_X12_turns : GoodIn wsX12_best wsX12_turns := goodIn_r _ [55, 3, 60, 61, 62, 63, 64, 65, 66, 67, 68, 69, 70, 71, 72, 73, 74, 75, 76, 77, 78, 79, 80] (by decide +kernel) (by decide +kernel)
set_option maxRecDepth 20000 in
theorem gX12_best_X12_turns : GoodIn wsX12_best (wsV RX12 205 RX12 yX12_turns wsX12_turns) := goodIn_app (goodIn_of _ (by decide +kernel)) ggX12_best_X12_turns
set_option maxRecDepth 20000 in
theorem ggX12_best_X12_sets : GoodIn wsX12_best wsX12_sets := goodIn_r _ [59, 1, 60, 61, 62, 63, 64, 65, 66, 67, 68, 69, 70, 71, 72, 73, 74, 75, 76, 77, 78, 79, 80] (by decide +kernel) (by decide +kernel)
set_option maxRecDepth 20000 in
theorem gX12_best_X12_sets : GoodIn wsX12_best (wsV RX12 175 RX12 yX12_sets wsX12_sets) := goodIn_app (goodIn_of _ (by decide +kernel)) ggX12_best_X12_sets
theorem dX12_best_0 : decode cX12_best 0 = .ok (.iconst 0, 1) := by decide +kernel
theorem dX12_best_1 : decode cX12_best 1 = .ok (.istore_n 1, 1) := by decide +kernel
theorem dX12_best_2 : decode cX12_best 2 = .ok (.iconst 0, 1) := by decide +kernel
theorem dX12_best_3 : decode cX12_best 3 = .ok (.istore_n 2, 1) := by decide +kernel
theorem dX12_best_4 : decode cX12_best 4 = .ok (.iload_n 2, 1) := by decide +kernel
theorem dX12_best_5 : decode cX12_best 5 = .ok (.aload_n 0, 1) := by decide +kernel
theorem dX12_best_6 : decode cX12_best 6 = .ok (.getfield 7, 3) := by decide +kernel
theorem dX12_best_9 : decode cX12_best 9 = .ok (.iconst 4, 1) := by decide +kernel
theorem dX12_best_10 : decode cX12_best 10 = .ok (.iaload, 1) := by decide +kernel
theorem dX12_best_11 : decode cX12_best 11 = .ok (.if_icmp .ge 30, 3) := by decide +kernel
theorem dX12_best_14 : decode cX12_best 14 = .ok (.aload_n 0, 1) := by decide +kernel
theorem dX12_best_15 : decode cX12_best 15 = .ok (.iload_n 2, 1) := by decide +kernel
theorem dX12_best_16 : decode cX12_best 16 = .ok (.invokevirtual 181, 3) := by decide +kernel
theorem dX12_best_19 : decode cX12_best 19 = .ok (.ifCond .eq 6, 3) := by decide +kernel
theorem dX12_best_22 : decode cX12_best 22 = .ok (.goto 13, 3) := by decide +kernel
