theorem dX3_allHold_64 : decode cX3_allHold 64 = .ok (.iload 7, 2) := by decide +kernel
theorem dX3_allHold_66 : decode cX3_allHold 66 = .ok (.iaload, 1) := by decide +kernel
theorem dX3_allHold_67 : decode cX3_allHold 67 = .ok (.iconst 1, 1) := by decide +kernel
theorem dX3_allHold_68 : decode cX3_allHold 68 = .ok (.if_icmp .ne 7, 3) := by decide +kernel
theorem dX3_allHold_71 : decode cX3_allHold 71 = .ok (.iconst 1, 1) := by decide +kernel
theorem dX3_allHold_72 : decode cX3_allHold 72 = .ok (.goto 4, 3) := by decide +kernel
theorem dX3_allHold_75 : decode cX3_allHold 75 = .ok (.iconst 0, 1) := by decide +kernel
theorem dX3_allHold_76 : decode cX3_allHold 76 = .ok (.if_icmp .ne 5, 3) := by decide +kernel
theorem dX3_allHold_79 : decode cX3_allHold 79 = .ok (.iconst 0, 1) := by decide +kernel
theorem dX3_allHold_80 : decode cX3_allHold 80 = .ok (.ireturn, 1) := by decide +kernel
theorem dX3_allHold_81 : decode cX3_allHold 81 = .ok (.iinc 7 1, 3) := by decide +kernel
theorem dX3_allHold_84 : decode cX3_allHold 84 = .ok (.goto (-75), 3) := by decide +kernel
theorem dX3_allHold_87 : decode cX3_allHold 87 = .ok (.iconst 1, 1) := by decide +kernel
theorem dX3_allHold_88 : decode cX3_allHold 88 = .ok (.ireturn, 1) := by decide +kernel
theorem dX3_subjectOf_0 : decode cX3_subjectOf 0 = .ok (.iload_n 0, 1) := by decide +kernel
theorem dX3_subjectOf_1 : decode cX3_subjectOf 1 = .ok (.tableswitch 50 2 5 #[31, 38, 40, 47], 31) := by decide +kernel
theorem dX3_subjectOf_32 : decode cX3_subjectOf 32 = .ok (.aload_n 1, 1) := by decide +kernel
theorem dX3_subjectOf_33 : decode cX3_subjectOf 33 = .ok (.getfield 59, 3) := by decide +kernel
theorem dX3_subjectOf_36 : decode cX3_subjectOf 36 = .ok (.iload_n 2, 1) := by decide +kernel
theorem dX3_subjectOf_37 : decode cX3_subjectOf 37 = .ok (.iaload, 1) := by decide +kernel
theorem dX3_subjectOf_38 : decode cX3_subjectOf 38 = .ok (.ireturn, 1) := by decide +kernel
theorem dX3_subjectOf_39 : decode cX3_subjectOf 39 = .ok (.iload_n 3, 1) := by decide +kernel
theorem dX3_subjectOf_40 : decode cX3_subjectOf 40 = .ok (.ireturn, 1) := by decide +kernel
theorem dX3_subjectOf_41 : decode cX3_subjectOf 41 = .ok (.aload_n 1, 1) := by decide +kernel
theorem dX3_subjectOf_42 : decode cX3_subjectOf 42 = .ok (.getfield 64, 3) := by decide +kernel
theorem dX3_subjectOf_45 : decode cX3_subjectOf 45 = .ok (.iload_n 2, 1) := by decide +kernel
theorem dX3_subjectOf_46 : decode cX3_subjectOf 46 = .ok (.iaload, 1) := by decide +kernel
theorem dX3_subjectOf_47 : decode cX3_subjectOf 47 = .ok (.ireturn, 1) := by decide +kernel
theorem dX3_subjectOf_48 : decode cX3_subjectOf 48 = .ok (.iload 4, 2) := by decide +kernel
theorem dX3_subjectOf_50 : decode cX3_subjectOf 50 = .ok (.ireturn, 1) := by decide +kernel
theorem dX3_subjectOf_51 : decode cX3_subjectOf 51 = .ok (.aload_n 1, 1) := by decide +kernel
theorem dX3_subjectOf_52 : decode cX3_subjectOf 52 = .ok (.getfield 67, 3) := by decide +kernel
theorem dX3_subjectOf_55 : decode cX3_subjectOf 55 = .ok (.iload_n 2, 1) := by decide +kernel
theorem dX3_subjectOf_56 : decode cX3_subjectOf 56 = .ok (.iaload, 1) := by decide +kernel
theorem dX3_subjectOf_57 : decode cX3_subjectOf 57 = .ok (.ireturn, 1) := by decide +kernel
theorem dX3_agrees_0 : decode cX3_agrees 0 = .ok (.iload_n 1, 1) := by decide +kernel
theorem dX3_agrees_1 : decode cX3_agrees 1 = .ok (.lookupswitch 49 #[(60, 27), (62, 38)], 27) := by decide +kernel
theorem dX3_agrees_28 : decode cX3_agrees 28 = .ok (.iload_n 0, 1) := by decide +kernel
theorem dX3_agrees_29 : decode cX3_agrees 29 = .ok (.iload_n 2, 1) := by decide +kernel
theorem dX3_agrees_30 : decode cX3_agrees 30 = .ok (.if_icmp .ge 7, 3) := by decide +kernel
theorem dX3_agrees_33 : decode cX3_agrees 33 = .ok (.iconst 1, 1) := by decide +kernel
theorem dX3_agrees_34 : decode cX3_agrees 34 = .ok (.goto 4, 3) := by decide +kernel
theorem dX3_agrees_37 : decode cX3_agrees 37 = .ok (.iconst 0, 1) := by decide +kernel
theorem dX3_agrees_38 : decode cX3_agrees 38 = .ok (.ireturn, 1) := by decide +kernel
theorem dX3_agrees_39 : decode cX3_agrees 39 = .ok (.iload_n 0, 1) := by decide +kernel
theorem dX3_agrees_40 : decode cX3_agrees 40 = .ok (.iload_n 2, 1) := by decide +kernel
theorem dX3_agrees_41 : decode cX3_agrees 41 = .ok (.if_icmp .le 7, 3) := by decide +kernel
theorem dX3_agrees_44 : decode cX3_agrees 44 = .ok (.iconst 1, 1) := by decide +kernel
theorem dX3_agrees_45 : decode cX3_agrees 45 = .ok (.goto 4, 3) := by decide +kernel
theorem dX3_agrees_48 : decode cX3_agrees 48 = .ok (.iconst 0, 1) := by decide +kernel
theorem dX3_agrees_49 : decode cX3_agrees 49 = .ok (.ireturn, 1) := by decide +kernel
theorem dX3_agrees_50 : decode cX3_agrees 50 = .ok (.iload_n 0, 1) := by decide +kernel
theorem dX3_agrees_51 : decode cX3_agrees 51 = .ok (.iload_n 2, 1) := by decide +kernel
theorem dX3_agrees_52 : decode cX3_agrees 52 = .ok (.if_icmp .ne 7, 3) := by decide +kernel
theorem dX3_agrees_55 : decode cX3_agrees 55 = .ok (.iconst 1, 1) := by decide +kernel
theorem dX3_agrees_56 : decode cX3_agrees 56 = .ok (.goto 4, 3) := by decide +kernel
theorem dX3_agrees_59 : decode cX3_agrees 59 = .ok (.iconst 0, 1) := by decide +kernel
theorem dX3_agrees_60 : decode cX3_agrees 60 = .ok (.ireturn, 1) := by decide +kernel
set_option maxRecDepth 20000 in
theorem ggX4_init_X9_init : GoodIn wsX4_init wsX9_init := goodIn_r _ [23, 24, 2, 3, 25, 26, 27, 28, 29, 30, 31, 32, 33, 34, 35, 36, 37, 38, 76, 77, 51, 52, 53, 54, 55] (by decide +kernel) (by decide +kernel)
set_option maxRecDepth 20000 in
theorem gX4_init_X9_init_n11 : GoodIn wsX4_init (wsX9_init) := ggX4_init_X9_init
set_option maxRecDepth 20000 in
theorem ggX4_init_X3_init : GoodIn wsX4_init wsX3_init := goodIn_r _ [40, 41, 2, 3, 42, 43, 44, 45, 46, 47, 48, 49, 50, 68, 69, 70, 71, 72, 73, 74, 75] (by decide +kernel) (by decide +kernel)
set_option maxRecDepth 20000 in
theorem gX4_init_X3_init_n20 : GoodIn wsX4_init (wsX3_init) := ggX4_init_X3_init
theorem dX4_init_0 : decode cX4_init 0 = .ok (.aload_n 0, 1) := by decide +kernel
theorem dX4_init_1 : decode cX4_init 1 = .ok (.invokespecial 3, 3) := by decide +kernel
theorem dX4_init_4 : decode cX4_init 4 = .ok (.aload_n 0, 1) := by decide +kernel
theorem dX4_init_5 : decode cX4_init 5 = .ok (.new 9, 3) := by decide +kernel
theorem dX4_init_8 : decode cX4_init 8 = .ok (.dup, 1) := by decide +kernel
theorem dX4_init_9 : decode cX4_init 9 = .ok (.invokespecial 11, 3) := by decide +kernel
theorem dX4_init_12 : decode cX4_init 12 = .ok (.putfield 12, 3) := by decide +kernel
theorem dX4_init_15 : decode cX4_init 15 = .ok (.aload_n 0, 1) := by decide +kernel
theorem dX4_init_16 : decode cX4_init 16 = .ok (.new 18, 3) := by decide +kernel
theorem dX4_init_19 : decode cX4_init 19 = .ok (.dup, 1) := by decide +kernel
theorem dX4_init_20 : decode cX4_init 20 = .ok (.invokespecial 20, 3) := by decide +kernel
theorem dX4_init_23 : decode cX4_init 23 = .ok (.putfield 21, 3) := by decide +kernel
theorem dX4_init_26 : decode cX4_init 26 = .ok (.aload_n 0, 1) := by decide +kernel
theorem dX4_init_27 : decode cX4_init 27 = .ok (.iconst 0, 1) := by decide +kernel
theorem dX4_init_28 : decode cX4_init 28 = .ok (.putfield 25, 3) := by decide +kernel
theorem dX4_init_31 : decode cX4_init 31 = .ok (.aload_n 0, 1) := by decide +kernel
theorem dX4_init_32 : decode cX4_init 32 = .ok (.iconst (-1), 1) := by decide +kernel
theorem dX4_init_33 : decode cX4_init 33 = .ok (.putfield 29, 3) := by decide +kernel
theorem dX4_init_36 : decode cX4_init 36 = .ok (.aload_n 0, 1) := by decide +kernel
theorem dX4_init_37 : decode cX4_init 37 = .ok (.iconst (-1), 1) := by decide +kernel
theorem dX4_init_38 : decode cX4_init 38 = .ok (.putfield 32, 3) := by decide +kernel
theorem dX4_init_41 : decode cX4_init 41 = .ok (.aload_n 0, 1) := by decide +kernel
theorem dX4_init_42 : decode cX4_init 42 = .ok (.iconst 0, 1) := by decide +kernel
theorem dX4_init_43 : decode cX4_init 43 = .ok (.putfield 35, 3) := by decide +kernel
theorem dX4_init_46 : decode cX4_init 46 = .ok (.aload_n 0, 1) := by decide +kernel
theorem dX4_init_47 : decode cX4_init 47 = .ok (.iconst 0, 1) := by decide +kernel
theorem dX4_init_48 : decode cX4_init 48 = .ok (.putfield 38, 3) := by decide +kernel
theorem dX4_init_51 : decode cX4_init 51 = .ok (.aload_n 0, 1) := by decide +kernel
theorem dX4_init_52 : decode cX4_init 52 = .ok (.iconst 0, 1) := by decide +kernel
theorem dX4_init_53 : decode cX4_init 53 = .ok (.putfield 41, 3) := by decide +kernel
theorem dX4_init_56 : decode cX4_init 56 = .ok (.aload_n 0, 1) := by decide +kernel
theorem dX4_init_57 : decode cX4_init 57 = .ok (.iconst 0, 1) := by decide +kernel
theorem dX4_init_58 : decode cX4_init 58 = .ok (.putfield 44, 3) := by decide +kernel
theorem dX4_init_61 : decode cX4_init 61 = .ok (.aload_n 0, 1) := by decide +kernel
theorem dX4_init_62 : decode cX4_init 62 = .ok (.iconst 0, 1) := by decide +kernel
theorem dX4_init_63 : decode cX4_init 63 = .ok (.putfield 48, 3) := by decide +kernel
theorem dX4_init_66 : decode cX4_init 66 = .ok (.aload_n 0, 1) := by decide +kernel
theorem dX4_init_67 : decode cX4_init 67 = .ok (.iconst 0, 1) := by decide +kernel
theorem dX4_init_68 : decode cX4_init 68 = .ok (.putfield 51, 3) := by decide +kernel
theorem dX4_init_71 : decode cX4_init 71 = .ok (.aload_n 0, 1) := by decide +kernel
theorem dX4_init_72 : decode cX4_init 72 = .ok (.iconst 0, 1) := by decide +kernel
theorem dX4_init_73 : decode cX4_init 73 = .ok (.putfield 54, 3) := by decide +kernel
theorem dX4_init_76 : decode cX4_init 76 = .ok (.return_, 1) := by decide +kernel
set_option maxRecDepth 20000 in
theorem ggX4_read_X4_begin : GoodIn wsX4_read wsX4_begin := goodIn_r _ [12, 13, 14, 4, 6, 7, 3, 15, 16, 199, 200, 201, 202, 203, 204, 205, 206, 207, 208, 209, 210, 216, 217, 218, 219, 220, 221, 222, 223] (by decide +kernel) (by decide +kernel)
set_option maxRecDepth 20000 in
theorem gX4_read_X4_begin : GoodIn wsX4_read (wsV RX4 57 RX4 yX4_begin wsX4_begin) := goodIn_app (goodIn_of _ (by decide +kernel)) ggX4_read_X4_begin
set_option maxRecDepth 20000 in
theorem ggX4_read_X9_begin : GoodIn wsX4_read wsX9_begin := goodIn_r _ [21, 22, 23, 24, 25, 26, 27, 28, 29, 30, 31, 32, 33, 34, 211, 212, 213, 214, 215, 224, 225] (by decide +kernel) (by decide +kernel)
set_option maxRecDepth 20000 in
theorem gX4_read_X9_begin : GoodIn wsX4_read (wsV RX4 60 RX9 yX9_begin wsX9_begin) := goodIn_app (goodIn_of _ (by decide +kernel)) ggX4_read_X9_begin
set_option maxRecDepth 20000 in
theorem ggX4_read_X9_step : GoodIn wsX4_read wsX9_step := goodIn_r _ [38, 23, 22, 39, 40, 41, 42, 43, 44, 20, 45, 46, 47, 48, 49, 50, 51, 52, 53, 54, 55, 56, 57, 58, 59, 60, 61, 62, 63, 64, 65, 66, 67, 68, 69, 70, 71, 72, 73, 74, 75, 76, 77, 78, 79, 80, 81, 82, 83, 84, 85, 86, 87, 88, 89, 90, 91, 92, 93, 94, 95, 96, 97, 98, 99, 100, 101, 102, 103, 104, 105, 106, 107, 108, 109, 110, 111, 112, 113, 114, 115, 116, 117, 118, 119, 120, 211, 212, 213, 214, 215, 224, 225] (by decide +kernel) (by decide +kernel)
set_option maxRecDepth 20000 in
theorem gX4_read_X9_step : GoodIn wsX4_read (wsV RX4 63 RX9 yX9_step wsX9_step) := goodIn_app (goodIn_of _ (by decide +kernel)) ggX4_read_X9_step
set_option maxRecDepth 20000 in
theorem ggX4_read_X4_take : GoodIn wsX4_read wsX4_take := goodIn_r _ [124, 3, 125, 126, 127, 11, 128, 15, 16, 1, 2, 129, 130, 131, 132, 7, 5, 133, 134, 135, 136, 137, 49, 50, 51, 138, 139, 140, 141, 13, 142, 143, 144, 145, 146, 147, 148, 149, 150, 151, 152, 153, 154, 155, 156, 157, 158, 159, 160, 161, 162, 163, 164, 165, 166, 167, 168, 169, 170, 171, 172, 173, 174, 175, 176, 177, 178, 179, 180, 181, 182, 183, 184, 185, 186, 187, 188, 189, 190, 191, 192, 193, 194, 195, 196, 197, 198, 199, 200, 201, 202, 203, 204, 205, 206, 207, 208, 209, 210, 211, 212, 213, 214, 215, 216, 217, 218, 219, 220, 221, 222, 223] (by decide +kernel) (by decide +kernel)
set_option maxRecDepth 20000 in
theorem gX4_read_X4_take : GoodIn wsX4_read (wsV RX4 69 RX4 yX4_take wsX4_take) := goodIn_app (goodIn_of _ (by decide +kernel)) ggX4_read_X4_take
theorem dX4_read_0 : decode cX4_read 0 = .ok (.aload_n 0, 1) := by decide +kernel
theorem dX4_read_1 : decode cX4_read 1 = .ok (.invokevirtual 57, 3) := by decide +kernel
theorem dX4_read_4 : decode cX4_read 4 = .ok (.aload_n 0, 1) := by decide +kernel
theorem dX4_read_5 : decode cX4_read 5 = .ok (.getfield 12, 3) := by decide +kernel
theorem dX4_read_8 : decode cX4_read 8 = .ok (.aload_n 1, 1) := by decide +kernel
theorem dX4_read_9 : decode cX4_read 9 = .ok (.invokevirtual 60, 3) := by decide +kernel
theorem dX4_read_12 : decode cX4_read 12 = .ok (.iconst 0, 1) := by decide +kernel
theorem dX4_read_13 : decode cX4_read 13 = .ok (.istore_n 2, 1) := by decide +kernel
theorem dX4_read_14 : decode cX4_read 14 = .ok (.iload_n 2, 1) := by decide +kernel
theorem dX4_read_15 : decode cX4_read 15 = .ok (.sipush 400, 3) := by decide +kernel
theorem dX4_read_18 : decode cX4_read 18 = .ok (.if_icmp .gt 60, 3) := by decide +kernel
theorem dX4_read_21 : decode cX4_read 21 = .ok (.aload_n 0, 1) := by decide +kernel
theorem dX4_read_22 : decode cX4_read 22 = .ok (.getfield 12, 3) := by decide +kernel
theorem dX4_read_25 : decode cX4_read 25 = .ok (.invokevirtual 63, 3) := by decide +kernel
theorem dX4_read_28 : decode cX4_read 28 = .ok (.aload_n 0, 1) := by decide +kernel
theorem dX4_read_29 : decode cX4_read 29 = .ok (.getfield 12, 3) := by decide +kernel
theorem dX4_read_32 : decode cX4_read 32 = .ok (.getfield 66, 3) := by decide +kernel
theorem dX4_read_35 : decode cX4_read 35 = .ok (.ifCond .ne 13, 3) := by decide +kernel
theorem dX4_read_38 : decode cX4_read 38 = .ok (.aload_n 0, 1) := by decide +kernel
theorem dX4_read_39 : decode cX4_read 39 = .ok (.getfield 35, 3) := by decide +kernel
theorem dX4_read_42 : decode cX4_read 42 = .ok (.ifCond .ne 6, 3) := by decide +kernel
theorem dX4_read_45 : decode cX4_read 45 = .ok (.goto 33, 3) := by decide +kernel
theorem dX4_read_48 : decode cX4_read 48 = .ok (.aload_n 0, 1) := by decide +kernel
theorem dX4_read_49 : decode cX4_read 49 = .ok (.invokevirtual 69, 3) := by decide +kernel
theorem dX4_read_52 : decode cX4_read 52 = .ok (.ifCond .ne 20, 3) := by decide +kernel
theorem dX4_read_55 : decode cX4_read 55 = .ok (.aload_n 0, 1) := by decide +kernel
theorem dX4_read_56 : decode cX4_read 56 = .ok (.iconst 1, 1) := by decide +kernel
theorem dX4_read_57 : decode cX4_read 57 = .ok (.putfield 25, 3) := by decide +kernel
theorem dX4_read_60 : decode cX4_read 60 = .ok (.aload_n 0, 1) := by decide +kernel
theorem dX4_read_61 : decode cX4_read 61 = .ok (.aload_n 0, 1) := by decide +kernel
theorem dX4_read_62 : decode cX4_read 62 = .ok (.getfield 12, 3) := by decide +kernel
theorem dX4_read_65 : decode cX4_read 65 = .ok (.getfield 73, 3) := by decide +kernel
theorem dX4_read_68 : decode cX4_read 68 = .ok (.putfield 29, 3) := by decide +kernel
theorem dX4_read_71 : decode cX4_read 71 = .ok (.return_, 1) := by decide +kernel
theorem dX4_read_72 : decode cX4_read 72 = .ok (.iinc 2 1, 3) := by decide +kernel
theorem dX4_read_75 : decode cX4_read 75 = .ok (.goto (-61), 3) := by decide +kernel
theorem dX4_read_78 : decode cX4_read 78 = .ok (.aload_n 0, 1) := by decide +kernel
theorem dX4_read_79 : decode cX4_read 79 = .ok (.getfield 32, 3) := by decide +kernel
theorem dX4_read_82 : decode cX4_read 82 = .ok (.iconst (-1), 1) := by decide +kernel
theorem dX4_read_83 : decode cX4_read 83 = .ok (.if_icmp .eq 16, 3) := by decide +kernel
theorem dX4_read_86 : decode cX4_read 86 = .ok (.aload_n 0, 1) := by decide +kernel
theorem dX4_read_87 : decode cX4_read 87 = .ok (.iconst 3, 1) := by decide +kernel
theorem dX4_read_88 : decode cX4_read 88 = .ok (.putfield 25, 3) := by decide +kernel
theorem dX4_read_91 : decode cX4_read 91 = .ok (.aload_n 0, 1) := by decide +kernel
theorem dX4_read_92 : decode cX4_read 92 = .ok (.aload_n 0, 1) := by decide +kernel
theorem dX4_read_93 : decode cX4_read 93 = .ok (.getfield 32, 3) := by decide +kernel
theorem dX4_read_96 : decode cX4_read 96 = .ok (.putfield 29, 3) := by decide +kernel
theorem dX4_read_99 : decode cX4_read 99 = .ok (.return_, 1) := by decide +kernel
theorem dX4_begin_0 : decode cX4_begin 0 = .ok (.aload_n 0, 1) := by decide +kernel
theorem dX4_begin_1 : decode cX4_begin 1 = .ok (.getfield 21, 3) := by decide +kernel
theorem dX4_begin_4 : decode cX4_begin 4 = .ok (.iconst 0, 1) := by decide +kernel
theorem dX4_begin_5 : decode cX4_begin 5 = .ok (.putfield 76, 3) := by decide +kernel
theorem dX4_begin_8 : decode cX4_begin 8 = .ok (.aload_n 0, 1) := by decide +kernel
theorem dX4_begin_9 : decode cX4_begin 9 = .ok (.iconst 0, 1) := by decide +kernel
theorem dX4_begin_10 : decode cX4_begin 10 = .ok (.putfield 25, 3) := by decide +kernel
theorem dX4_begin_13 : decode cX4_begin 13 = .ok (.aload_n 0, 1) := by decide +kernel
theorem dX4_begin_14 : decode cX4_begin 14 = .ok (.iconst (-1), 1) := by decide +kernel
theorem dX4_begin_15 : decode cX4_begin 15 = .ok (.putfield 29, 3) := by decide +kernel
theorem dX4_begin_18 : decode cX4_begin 18 = .ok (.aload_n 0, 1) := by decide +kernel
theorem dX4_begin_19 : decode cX4_begin 19 = .ok (.iconst (-1), 1) := by decide +kernel
theorem dX4_begin_20 : decode cX4_begin 20 = .ok (.putfield 32, 3) := by decide +kernel
theorem dX4_begin_23 : decode cX4_begin 23 = .ok (.aload_n 0, 1) := by decide +kernel
theorem dX4_begin_24 : decode cX4_begin 24 = .ok (.iconst 0, 1) := by decide +kernel
theorem dX4_begin_25 : decode cX4_begin 25 = .ok (.putfield 35, 3) := by decide +kernel
theorem dX4_begin_28 : decode cX4_begin 28 = .ok (.aload_n 0, 1) := by decide +kernel
theorem dX4_begin_29 : decode cX4_begin 29 = .ok (.iconst 0, 1) := by decide +kernel
theorem dX4_begin_30 : decode cX4_begin 30 = .ok (.putfield 38, 3) := by decide +kernel
theorem dX4_begin_33 : decode cX4_begin 33 = .ok (.aload_n 0, 1) := by decide +kernel
theorem dX4_begin_34 : decode cX4_begin 34 = .ok (.iconst 0, 1) := by decide +kernel
theorem dX4_begin_35 : decode cX4_begin 35 = .ok (.putfield 41, 3) := by decide +kernel
theorem dX4_begin_38 : decode cX4_begin 38 = .ok (.return_, 1) := by decide +kernel
set_option maxRecDepth 20000 in
theorem ggX4_take_X4_takeLineStart : GoodIn wsX4_take wsX4_takeLineStart := goodIn_r _ [6, 7, 8, 9, 10, 1, 11, 12, 13, 5, 14, 15, 16, 17, 18, 19, 20, 21, 22, 23, 24, 25, 26, 27, 28, 29, 30, 31, 32, 33, 34, 35, 36, 37, 38, 39, 40, 41, 42, 87, 88, 89, 90, 91, 92, 93, 94, 95, 96, 97, 98, 99, 100, 101, 102, 103, 104, 105, 106, 107, 108, 109, 110, 111] (by decide +kernel) (by decide +kernel)
set_option maxRecDepth 20000 in
theorem gX4_take_X4_takeLineStart : GoodIn wsX4_take (wsV RX4 79 RX4 yX4_takeLineStart wsX4_takeLineStart) := goodIn_app (goodIn_of _ (by decide +kernel)) ggX4_take_X4_takeLineStart
set_option maxRecDepth 20000 in
theorem ggX4_take_X4_takeTestStart : GoodIn wsX4_take wsX4_takeTestStart := goodIn_r _ [46, 8, 9, 10, 47, 1, 11, 12, 13, 5, 14, 15, 16, 48, 49, 50, 51, 52, 22, 23, 24, 53, 54, 55, 56, 29, 7, 57, 58, 59, 33, 60, 61, 62, 63, 64, 87, 88, 89, 90, 91, 92, 93, 94, 95, 96, 97, 98, 99, 100, 101, 102, 103, 104, 105, 106, 107, 108, 109, 110, 111] (by decide +kernel) (by decide +kernel)
set_option maxRecDepth 20000 in
theorem gX4_take_X4_takeTestStart : GoodIn wsX4_take (wsV RX4 82 RX4 yX4_takeTestStart wsX4_takeTestStart) := goodIn_app (goodIn_of _ (by decide +kernel)) ggX4_take_X4_takeTestStart
set_option maxRecDepth 20000 in
theorem ggX4_take_X4_takeSubject : GoodIn wsX4_take wsX4_takeSubject := goodIn_r _ [51, 9, 10, 52, 1, 22, 23, 24, 53, 54, 55, 5, 56, 29, 7, 8, 47, 57, 58, 59, 33, 60, 61, 62, 63, 64, 87, 88, 89, 90, 91, 92, 93, 94, 95, 96, 97, 98, 99, 100, 101, 102, 103, 104, 105, 106, 107, 108, 109, 110, 111] (by decide +kernel) (by decide +kernel)
set_option maxRecDepth 20000 in
theorem gX4_take_X4_takeSubject : GoodIn wsX4_take (wsV RX4 85 RX4 yX4_takeSubject wsX4_takeSubject) := goodIn_app (goodIn_of _ (by decide +kernel)) ggX4_take_X4_takeSubject
set_option maxRecDepth 20000 in
theorem ggX4_take_X4_takeComparison : GoodIn wsX4_take wsX4_takeComparison := goodIn_r _ [68, 9, 10, 69, 1, 87, 88, 89, 90, 91, 92, 93, 94, 95, 96, 97, 98, 99, 100, 101, 102, 103] (by decide +kernel) (by decide +kernel)
set_option maxRecDepth 20000 in
theorem gX4_take_X4_takeComparison : GoodIn wsX4_take (wsV RX4 88 RX4 yX4_takeComparison wsX4_takeComparison) := goodIn_app (goodIn_of _ (by decide +kernel)) ggX4_take_X4_takeComparison
set_option maxRecDepth 20000 in
theorem ggX4_take_X4_takeLimit : GoodIn wsX4_take wsX4_takeLimit := goodIn_r _ [73, 9, 10, 69, 74, 53, 54, 55, 5, 56, 29, 7, 8, 47, 52, 1, 57, 58, 59, 33, 60, 61, 62, 63, 64, 87, 88, 89, 90, 91, 92, 93, 94, 95, 96, 97, 98, 99, 100, 101, 102, 103, 104, 105, 106, 107, 108, 109, 110, 111] (by decide +kernel) (by decide +kernel)
set_option maxRecDepth 20000 in
theorem gX4_take_X4_takeLimit : GoodIn wsX4_take (wsV RX4 91 RX4 yX4_takeLimit wsX4_takeLimit) := goodIn_app (goodIn_of _ (by decide +kernel)) ggX4_take_X4_takeLimit
set_option maxRecDepth 20000 in
theorem ggX4_take_X4_takeTestEnd : GoodIn wsX4_take wsX4_takeTestEnd := goodIn_r _ [78, 9, 10, 1, 87, 88, 89, 90, 91, 92, 93, 94, 95, 96, 97, 98, 99, 100, 101, 102, 103] (by decide +kernel) (by decide +kernel)
set_option maxRecDepth 20000 in
theorem gX4_take_X4_takeTestEnd : GoodIn wsX4_take (wsV RX4 94 RX4 yX4_takeTestEnd wsX4_takeTestEnd) := goodIn_app (goodIn_of _ (by decide +kernel)) ggX4_take_X4_takeTestEnd
set_option maxRecDepth 20000 in
theorem ggX4_take_X4_takeAction : GoodIn wsX4_take wsX4_takeAction := goodIn_r _ [20, 9, 10, 21, 1, 22, 23, 24, 25, 26, 27, 5, 28, 29, 7, 8, 30, 31, 32, 33, 34, 35, 36, 37, 38, 39, 40, 41, 42, 87, 88, 89, 90, 91, 92, 93, 94, 95, 96, 97, 98, 99, 100, 101, 102, 103, 104, 105, 106, 107, 108, 109, 110, 111] (by decide +kernel) (by decide +kernel)
set_option maxRecDepth 20000 in
theorem gX4_take_X4_takeAction : GoodIn wsX4_take (wsV RX4 97 RX4 yX4_takeAction wsX4_takeAction) := goodIn_app (goodIn_of _ (by decide +kernel)) ggX4_take_X4_takeAction
set_option maxRecDepth 20000 in
theorem ggX4_take_X4_takeAmount : GoodIn wsX4_take wsX4_takeAmount := goodIn_r _ [82, 9, 10, 74, 25, 26, 27, 5, 28, 29, 7, 21, 8, 1, 30, 31, 32, 33, 34, 35, 36, 37, 38, 39, 40, 41, 42, 87, 88, 89, 90, 91, 92, 93, 94, 95, 96, 97, 98, 99, 100, 101, 102, 103, 104, 105, 106, 107, 108, 109, 110, 111] (by decide +kernel) (by decide +kernel)
set_option maxRecDepth 20000 in
theorem gX4_take_X4_takeAmount : GoodIn wsX4_take (wsV RX4 100 RX4 yX4_takeAmount wsX4_takeAmount) := goodIn_app (goodIn_of _ (by decide +kernel)) ggX4_take_X4_takeAmount
set_option maxRecDepth 20000 in
theorem ggX4_take_X4_takeLineEnd : GoodIn wsX4_take wsX4_takeLineEnd := goodIn_r _ [86, 1, 9, 10, 87, 88, 89, 90, 91, 92, 93, 94, 95, 96, 97, 98, 99, 100, 101, 102, 103] (by decide +kernel) (by decide +kernel)
set_option maxRecDepth 20000 in
theorem gX4_take_X4_takeLineEnd : GoodIn wsX4_take (wsV RX4 103 RX4 yX4_takeLineEnd wsX4_takeLineEnd) := goodIn_app (goodIn_of _ (by decide +kernel)) ggX4_take_X4_takeLineEnd
theorem dX4_take_0 : decode cX4_take 0 = .ok (.aload_n 0, 1) := by decide +kernel
theorem dX4_take_1 : decode cX4_take 1 = .ok (.getfield 35, 3) := by decide +kernel
theorem dX4_take_4 : decode cX4_take 4 = .ok (.tableswitch 88 0 7 #[48, 53, 58, 63, 68, 73, 78, 83], 48) := by decide +kernel
theorem dX4_take_52 : decode cX4_take 52 = .ok (.aload_n 0, 1) := by decide +kernel
theorem dX4_take_53 : decode cX4_take 53 = .ok (.invokevirtual 79, 3) := by decide +kernel
theorem dX4_take_56 : decode cX4_take 56 = .ok (.ireturn, 1) := by decide +kernel
theorem dX4_take_57 : decode cX4_take 57 = .ok (.aload_n 0, 1) := by decide +kernel
theorem dX4_take_58 : decode cX4_take 58 = .ok (.invokevirtual 82, 3) := by decide +kernel
theorem dX4_take_61 : decode cX4_take 61 = .ok (.ireturn, 1) := by decide +kernel
theorem dX4_take_62 : decode cX4_take 62 = .ok (.aload_n 0, 1) := by decide +kernel
theorem dX4_take_63 : decode cX4_take 63 = .ok (.invokevirtual 85, 3) := by decide +kernel
theorem dX4_take_66 : decode cX4_take 66 = .ok (.ireturn, 1) := by decide +kernel
theorem dX4_take_67 : decode cX4_take 67 = .ok (.aload_n 0, 1) := by decide +kernel
theorem dX4_take_68 : decode cX4_take 68 = .ok (.invokevirtual 88, 3) := by decide +kernel
theorem dX4_take_71 : decode cX4_take 71 = .ok (.ireturn, 1) := by decide +kernel
theorem dX4_take_72 : decode cX4_take 72 = .ok (.aload_n 0, 1) := by decide +kernel
theorem dX4_take_73 : decode cX4_take 73 = .ok (.invokevirtual 91, 3) := by decide +kernel
theorem dX4_take_76 : decode cX4_take 76 = .ok (.ireturn, 1) := by decide +kernel
theorem dX4_take_77 : decode cX4_take 77 = .ok (.aload_n 0, 1) := by decide +kernel
theorem dX4_take_78 : decode cX4_take 78 = .ok (.invokevirtual 94, 3) := by decide +kernel
theorem dX4_take_81 : decode cX4_take 81 = .ok (.ireturn, 1) := by decide +kernel
theorem dX4_take_82 : decode cX4_take 82 = .ok (.aload_n 0, 1) := by decide +kernel
theorem dX4_take_83 : decode cX4_take 83 = .ok (.invokevirtual 97, 3) := by decide +kernel
theorem dX4_take_86 : decode cX4_take 86 = .ok (.ireturn, 1) := by decide +kernel
theorem dX4_take_87 : decode cX4_take 87 = .ok (.aload_n 0, 1) := by decide +kernel
theorem dX4_take_88 : decode cX4_take 88 = .ok (.invokevirtual 100, 3) := by decide +kernel
theorem dX4_take_91 : decode cX4_take 91 = .ok (.ireturn, 1) := by decide +kernel
theorem dX4_take_92 : decode cX4_take 92 = .ok (.aload_n 0, 1) := by decide +kernel
theorem dX4_take_93 : decode cX4_take 93 = .ok (.invokevirtual 103, 3) := by decide +kernel
theorem dX4_take_96 : decode cX4_take 96 = .ok (.ireturn, 1) := by decide +kernel
set_option maxRecDepth 20000 in
theorem ggX4_takeLineStart_X4_noteExcess : GoodIn wsX4_takeLineStart wsX4_noteExcess := goodIn_r _ [10, 11, 3, 12, 39, 40, 41, 42, 43, 44, 45, 46, 47, 48, 49, 50, 51, 52, 53, 54, 55] (by decide +kernel) (by decide +kernel)
set_option maxRecDepth 20000 in
theorem gX4_takeLineStart_X4_noteExcess : GoodIn wsX4_takeLineStart (wsV RX4 106 RX4 yX4_noteExcess wsX4_noteExcess) := goodIn_app (goodIn_of _ (by decide +kernel)) ggX4_takeLineStart_X4_noteExcess
set_option maxRecDepth 20000 in
theorem ggX4_takeLineStart_X4_takeAction : GoodIn wsX4_takeLineStart wsX4_takeAction := goodIn_r _ [16, 3, 4, 17, 5, 18, 19, 20, 21, 22, 23, 9, 24, 25, 1, 2, 26, 27, 28, 29, 30, 31, 32, 33, 34, 35, 36, 37, 38, 39, 40, 41, 42, 43, 44, 45, 46, 47, 48, 49, 50, 51, 52, 53, 54, 55, 56, 57, 58, 59, 60, 61, 62, 63] (by decide +kernel) (by decide +kernel)
set_option maxRecDepth 20000 in
theorem gX4_takeLineStart_X4_takeAction : GoodIn wsX4_takeLineStart (wsV RX4 97 RX4 yX4_takeAction wsX4_takeAction) := goodIn_app (goodIn_of _ (by decide +kernel)) ggX4_takeLineStart_X4_takeAction
theorem dX4_takeLineStart_0 : decode cX4_takeLineStart 0 = .ok (.aload_n 0, 1) := by decide +kernel
theorem dX4_takeLineStart_1 : decode cX4_takeLineStart 1 = .ok (.getfield 38, 3) := by decide +kernel
theorem dX4_takeLineStart_4 : decode cX4_takeLineStart 4 = .ok (.bipush 16, 2) := by decide +kernel
theorem dX4_takeLineStart_6 : decode cX4_takeLineStart 6 = .ok (.if_icmp .lt 7, 3) := by decide +kernel
theorem dX4_takeLineStart_9 : decode cX4_takeLineStart 9 = .ok (.aload_n 0, 1) := by decide +kernel
theorem dX4_takeLineStart_10 : decode cX4_takeLineStart 10 = .ok (.invokevirtual 106, 3) := by decide +kernel
theorem dX4_takeLineStart_13 : decode cX4_takeLineStart 13 = .ok (.aload_n 0, 1) := by decide +kernel
theorem dX4_takeLineStart_14 : decode cX4_takeLineStart 14 = .ok (.iconst 0, 1) := by decide +kernel
theorem dX4_takeLineStart_15 : decode cX4_takeLineStart 15 = .ok (.putfield 41, 3) := by decide +kernel
theorem dX4_takeLineStart_18 : decode cX4_takeLineStart 18 = .ok (.aload_n 0, 1) := by decide +kernel
theorem dX4_takeLineStart_19 : decode cX4_takeLineStart 19 = .ok (.getfield 12, 3) := by decide +kernel
theorem dX4_takeLineStart_22 : decode cX4_takeLineStart 22 = .ok (.getfield 66, 3) := by decide +kernel
theorem dX4_takeLineStart_25 : decode cX4_takeLineStart 25 = .ok (.bipush 9, 2) := by decide +kernel
theorem dX4_takeLineStart_27 : decode cX4_takeLineStart 27 = .ok (.if_icmp .ne 10, 3) := by decide +kernel
theorem dX4_takeLineStart_30 : decode cX4_takeLineStart 30 = .ok (.aload_n 0, 1) := by decide +kernel
theorem dX4_takeLineStart_31 : decode cX4_takeLineStart 31 = .ok (.iconst 1, 1) := by decide +kernel
theorem dX4_takeLineStart_32 : decode cX4_takeLineStart 32 = .ok (.putfield 35, 3) := by decide +kernel
theorem dX4_takeLineStart_35 : decode cX4_takeLineStart 35 = .ok (.iconst 1, 1) := by decide +kernel
theorem dX4_takeLineStart_36 : decode cX4_takeLineStart 36 = .ok (.ireturn, 1) := by decide +kernel
theorem dX4_takeLineStart_37 : decode cX4_takeLineStart 37 = .ok (.aload_n 0, 1) := by decide +kernel
theorem dX4_takeLineStart_38 : decode cX4_takeLineStart 38 = .ok (.invokevirtual 97, 3) := by decide +kernel
theorem dX4_takeLineStart_41 : decode cX4_takeLineStart 41 = .ok (.ireturn, 1) := by decide +kernel
set_option maxRecDepth 20000 in
theorem ggX4_takeTestStart_X4_noteExcess : GoodIn wsX4_takeTestStart wsX4_noteExcess := goodIn_r _ [10, 11, 2, 12, 36, 37, 38, 39, 40, 41, 42, 43, 44, 45, 46, 47, 48, 49, 50, 51, 52] (by decide +kernel) (by decide +kernel)
set_option maxRecDepth 20000 in
theorem gX4_takeTestStart_X4_noteExcess : GoodIn wsX4_takeTestStart (wsV RX4 106 RX4 yX4_noteExcess wsX4_noteExcess) := goodIn_app (goodIn_of _ (by decide +kernel)) ggX4_takeTestStart_X4_noteExcess
set_option maxRecDepth 20000 in
theorem ggX4_takeTestStart_X4_takeSubject : GoodIn wsX4_takeTestStart wsX4_takeSubject := goodIn_r _ [16, 2, 3, 17, 5, 18, 19, 20, 21, 22, 23, 9, 24, 25, 26, 1, 4, 27, 28, 29, 30, 31, 32, 33, 34, 35, 36, 37, 38, 39, 40, 41, 42, 43, 44, 45, 46, 47, 48, 49, 50, 51, 52, 53, 54, 55, 56, 57, 58, 59, 60] (by decide +kernel) (by decide +kernel)
set_option maxRecDepth 20000 in
theorem gX4_takeTestStart_X4_takeSubject : GoodIn wsX4_takeTestStart (wsV RX4 85 RX4 yX4_takeSubject wsX4_takeSubject) := goodIn_app (goodIn_of _ (by decide +kernel)) ggX4_takeTestStart_X4_takeSubject
theorem dX4_takeTestStart_0 : decode cX4_takeTestStart 0 = .ok (.aload_n 0, 1) := by decide +kernel
theorem dX4_takeTestStart_1 : decode cX4_takeTestStart 1 = .ok (.getfield 41, 3) := by decide +kernel
theorem dX4_takeTestStart_4 : decode cX4_takeTestStart 4 = .ok (.iconst 4, 1) := by decide +kernel
theorem dX4_takeTestStart_5 : decode cX4_takeTestStart 5 = .ok (.if_icmp .lt 7, 3) := by decide +kernel
theorem dX4_takeTestStart_8 : decode cX4_takeTestStart 8 = .ok (.aload_n 0, 1) := by decide +kernel
theorem dX4_takeTestStart_9 : decode cX4_takeTestStart 9 = .ok (.invokevirtual 106, 3) := by decide +kernel
theorem dX4_takeTestStart_12 : decode cX4_takeTestStart 12 = .ok (.aload_n 0, 1) := by decide +kernel
theorem dX4_takeTestStart_13 : decode cX4_takeTestStart 13 = .ok (.aload_n 0, 1) := by decide +kernel
theorem dX4_takeTestStart_14 : decode cX4_takeTestStart 14 = .ok (.getfield 12, 3) := by decide +kernel
theorem dX4_takeTestStart_17 : decode cX4_takeTestStart 17 = .ok (.getfield 66, 3) := by decide +kernel
theorem dX4_takeTestStart_20 : decode cX4_takeTestStart 20 = .ok (.bipush 11, 2) := by decide +kernel
theorem dX4_takeTestStart_22 : decode cX4_takeTestStart 22 = .ok (.if_icmp .ne 7, 3) := by decide +kernel
theorem dX4_takeTestStart_25 : decode cX4_takeTestStart 25 = .ok (.iconst 1, 1) := by decide +kernel
theorem dX4_takeTestStart_26 : decode cX4_takeTestStart 26 = .ok (.goto 4, 3) := by decide +kernel
theorem dX4_takeTestStart_29 : decode cX4_takeTestStart 29 = .ok (.iconst 0, 1) := by decide +kernel
theorem dX4_takeTestStart_30 : decode cX4_takeTestStart 30 = .ok (.putfield 44, 3) := by decide +kernel
theorem dX4_takeTestStart_33 : decode cX4_takeTestStart 33 = .ok (.aload_n 0, 1) := by decide +kernel
theorem dX4_takeTestStart_34 : decode cX4_takeTestStart 34 = .ok (.getfield 44, 3) := by decide +kernel
theorem dX4_takeTestStart_37 : decode cX4_takeTestStart 37 = .ok (.ifCond .eq 10, 3) := by decide +kernel
theorem dX4_takeTestStart_40 : decode cX4_takeTestStart 40 = .ok (.aload_n 0, 1) := by decide +kernel
theorem dX4_takeTestStart_41 : decode cX4_takeTestStart 41 = .ok (.iconst 2, 1) := by decide +kernel
theorem dX4_takeTestStart_42 : decode cX4_takeTestStart 42 = .ok (.putfield 35, 3) := by decide +kernel
theorem dX4_takeTestStart_45 : decode cX4_takeTestStart 45 = .ok (.iconst 1, 1) := by decide +kernel
theorem dX4_takeTestStart_46 : decode cX4_takeTestStart 46 = .ok (.ireturn, 1) := by decide +kernel
theorem dX4_takeTestStart_47 : decode cX4_takeTestStart 47 = .ok (.aload_n 0, 1) := by decide +kernel
theorem dX4_takeTestStart_48 : decode cX4_takeTestStart 48 = .ok (.invokevirtual 85, 3) := by decide +kernel
theorem dX4_takeTestStart_51 : decode cX4_takeTestStart 51 = .ok (.ireturn, 1) := by decide +kernel
set_option maxRecDepth 20000 in
theorem ggX4_takeSubject_X11_within : GoodIn wsX4_takeSubject wsX11_within := goodIn_r _ [7] (by decide +kernel) (by decide +kernel)
set_option maxRecDepth 20000 in
theorem gX4_takeSubject_X11_within_n109 : GoodIn wsX4_takeSubject (wsX11_within) := ggX4_takeSubject_X11_within
set_option maxRecDepth 20000 in
theorem ggX4_takeSubject_X4_keepTest : GoodIn wsX4_takeSubject wsX4_keepTest := goodIn_r _ [12, 13, 14, 15, 16, 3, 4, 17, 18, 19, 20, 21, 22, 23, 24, 25, 26, 27, 28, 29, 30, 31, 32, 33, 34, 35, 36, 37, 43, 44, 45, 46, 47, 48, 49, 50] (by decide +kernel) (by decide +kernel)
set_option maxRecDepth 20000 in
theorem gX4_takeSubject_X4_keepTest : GoodIn wsX4_takeSubject (wsV RX4 113 RX4 yX4_keepTest wsX4_keepTest) := goodIn_app (goodIn_of _ (by decide +kernel)) ggX4_takeSubject_X4_keepTest
theorem dX4_takeSubject_0 : decode cX4_takeSubject 0 = .ok (.aload_n 0, 1) := by decide +kernel
theorem dX4_takeSubject_1 : decode cX4_takeSubject 1 = .ok (.getfield 12, 3) := by decide +kernel
theorem dX4_takeSubject_4 : decode cX4_takeSubject 4 = .ok (.getfield 66, 3) := by decide +kernel
theorem dX4_takeSubject_7 : decode cX4_takeSubject 7 = .ok (.iconst 1, 1) := by decide +kernel
theorem dX4_takeSubject_8 : decode cX4_takeSubject 8 = .ok (.iconst 5, 1) := by decide +kernel
theorem dX4_takeSubject_9 : decode cX4_takeSubject 9 = .ok (.invokestatic 109, 3) := by decide +kernel
theorem dX4_takeSubject_12 : decode cX4_takeSubject 12 = .ok (.ifCond .ne 5, 3) := by decide +kernel
theorem dX4_takeSubject_15 : decode cX4_takeSubject 15 = .ok (.iconst 0, 1) := by decide +kernel
theorem dX4_takeSubject_16 : decode cX4_takeSubject 16 = .ok (.ireturn, 1) := by decide +kernel
theorem dX4_takeSubject_17 : decode cX4_takeSubject 17 = .ok (.aload_n 0, 1) := by decide +kernel
theorem dX4_takeSubject_18 : decode cX4_takeSubject 18 = .ok (.aload_n 0, 1) := by decide +kernel
theorem dX4_takeSubject_19 : decode cX4_takeSubject 19 = .ok (.getfield 12, 3) := by decide +kernel
theorem dX4_takeSubject_22 : decode cX4_takeSubject 22 = .ok (.getfield 66, 3) := by decide +kernel
theorem dX4_takeSubject_25 : decode cX4_takeSubject 25 = .ok (.putfield 48, 3) := by decide +kernel
theorem dX4_takeSubject_28 : decode cX4_takeSubject 28 = .ok (.aload_n 0, 1) := by decide +kernel
theorem dX4_takeSubject_29 : decode cX4_takeSubject 29 = .ok (.getfield 48, 3) := by decide +kernel
theorem dX4_takeSubject_32 : decode cX4_takeSubject 32 = .ok (.iconst 1, 1) := by decide +kernel
theorem dX4_takeSubject_33 : decode cX4_takeSubject 33 = .ok (.if_icmp .ne 13, 3) := by decide +kernel
theorem dX4_takeSubject_36 : decode cX4_takeSubject 36 = .ok (.aload_n 0, 1) := by decide +kernel
theorem dX4_takeSubject_37 : decode cX4_takeSubject 37 = .ok (.bipush 61, 2) := by decide +kernel
theorem dX4_takeSubject_39 : decode cX4_takeSubject 39 = .ok (.iconst 1, 1) := by decide +kernel
theorem dX4_takeSubject_40 : decode cX4_takeSubject 40 = .ok (.invokevirtual 113, 3) := by decide +kernel
theorem dX4_takeSubject_43 : decode cX4_takeSubject 43 = .ok (.goto 8, 3) := by decide +kernel
theorem dX4_takeSubject_46 : decode cX4_takeSubject 46 = .ok (.aload_n 0, 1) := by decide +kernel
theorem dX4_takeSubject_47 : decode cX4_takeSubject 47 = .ok (.iconst 3, 1) := by decide +kernel
theorem dX4_takeSubject_48 : decode cX4_takeSubject 48 = .ok (.putfield 35, 3) := by decide +kernel
theorem dX4_takeSubject_51 : decode cX4_takeSubject 51 = .ok (.iconst 1, 1) := by decide +kernel
theorem dX4_takeSubject_52 : decode cX4_takeSubject 52 = .ok (.ireturn, 1) := by decide +kernel
theorem dX4_takeComparison_0 : decode cX4_takeComparison 0 = .ok (.aload_n 0, 1) := by decide +kernel
theorem dX4_takeComparison_1 : decode cX4_takeComparison 1 = .ok (.getfield 12, 3) := by decide +kernel
theorem dX4_takeComparison_4 : decode cX4_takeComparison 4 = .ok (.getfield 66, 3) := by decide +kernel
theorem dX4_takeComparison_7 : decode cX4_takeComparison 7 = .ok (.bipush 60, 2) := by decide +kernel
theorem dX4_takeComparison_9 : decode cX4_takeComparison 9 = .ok (.if_icmp .eq 29, 3) := by decide +kernel
theorem dX4_takeComparison_12 : decode cX4_takeComparison 12 = .ok (.aload_n 0, 1) := by decide +kernel
theorem dX4_takeComparison_13 : decode cX4_takeComparison 13 = .ok (.getfield 12, 3) := by decide +kernel
theorem dX4_takeComparison_16 : decode cX4_takeComparison 16 = .ok (.getfield 66, 3) := by decide +kernel
theorem dX4_takeComparison_19 : decode cX4_takeComparison 19 = .ok (.bipush 62, 2) := by decide +kernel
theorem dX4_takeComparison_21 : decode cX4_takeComparison 21 = .ok (.if_icmp .eq 17, 3) := by decide +kernel
theorem dX4_takeComparison_24 : decode cX4_takeComparison 24 = .ok (.aload_n 0, 1) := by decide +kernel
theorem dX4_takeComparison_25 : decode cX4_takeComparison 25 = .ok (.getfield 12, 3) := by decide +kernel
theorem dX4_takeComparison_28 : decode cX4_takeComparison 28 = .ok (.getfield 66, 3) := by decide +kernel
theorem dX4_takeComparison_31 : decode cX4_takeComparison 31 = .ok (.bipush 61, 2) := by decide +kernel
theorem dX4_takeComparison_33 : decode cX4_takeComparison 33 = .ok (.if_icmp .eq 5, 3) := by decide +kernel
theorem dX4_takeComparison_36 : decode cX4_takeComparison 36 = .ok (.iconst 0, 1) := by decide +kernel
theorem dX4_takeComparison_37 : decode cX4_takeComparison 37 = .ok (.ireturn, 1) := by decide +kernel
theorem dX4_takeComparison_38 : decode cX4_takeComparison 38 = .ok (.aload_n 0, 1) := by decide +kernel
theorem dX4_takeComparison_39 : decode cX4_takeComparison 39 = .ok (.aload_n 0, 1) := by decide +kernel
theorem dX4_takeComparison_40 : decode cX4_takeComparison 40 = .ok (.getfield 12, 3) := by decide +kernel
theorem dX4_takeComparison_43 : decode cX4_takeComparison 43 = .ok (.getfield 66, 3) := by decide +kernel
theorem dX4_takeComparison_46 : decode cX4_takeComparison 46 = .ok (.putfield 51, 3) := by decide +kernel
theorem dX4_takeComparison_49 : decode cX4_takeComparison 49 = .ok (.aload_n 0, 1) := by decide +kernel
theorem dX4_takeComparison_50 : decode cX4_takeComparison 50 = .ok (.iconst 4, 1) := by decide +kernel
theorem dX4_takeComparison_51 : decode cX4_takeComparison 51 = .ok (.putfield 35, 3) := by decide +kernel
theorem dX4_takeComparison_54 : decode cX4_takeComparison 54 = .ok (.iconst 1, 1) := by decide +kernel
theorem dX4_takeComparison_55 : decode cX4_takeComparison 55 = .ok (.ireturn, 1) := by decide +kernel
set_option maxRecDepth 20000 in
theorem ggX4_takeLimit_X4_keepTest : GoodIn wsX4_takeLimit wsX4_keepTest := goodIn_r _ [9, 10, 11, 12, 13, 14, 15, 16, 17, 18, 19, 20, 21, 22, 23, 24, 25, 26, 27, 28, 29, 30, 31, 32, 33, 34, 35, 36, 42, 43, 44, 45, 46, 47, 48, 49] (by decide +kernel) (by decide +kernel)
set_option maxRecDepth 20000 in
theorem gX4_takeLimit_X4_keepTest : GoodIn wsX4_takeLimit (wsV RX4 113 RX4 yX4_keepTest wsX4_keepTest) := goodIn_app (goodIn_of _ (by decide +kernel)) ggX4_takeLimit_X4_keepTest
theorem dX4_takeLimit_0 : decode cX4_takeLimit 0 = .ok (.aload_n 0, 1) := by decide +kernel
theorem dX4_takeLimit_1 : decode cX4_takeLimit 1 = .ok (.getfield 12, 3) := by decide +kernel
theorem dX4_takeLimit_4 : decode cX4_takeLimit 4 = .ok (.getfield 66, 3) := by decide +kernel
theorem dX4_takeLimit_7 : decode cX4_takeLimit 7 = .ok (.bipush 12, 2) := by decide +kernel
theorem dX4_takeLimit_9 : decode cX4_takeLimit 9 = .ok (.if_icmp .eq 5, 3) := by decide +kernel
theorem dX4_takeLimit_12 : decode cX4_takeLimit 12 = .ok (.iconst 0, 1) := by decide +kernel
theorem dX4_takeLimit_13 : decode cX4_takeLimit 13 = .ok (.ireturn, 1) := by decide +kernel
theorem dX4_takeLimit_14 : decode cX4_takeLimit 14 = .ok (.aload_n 0, 1) := by decide +kernel
theorem dX4_takeLimit_15 : decode cX4_takeLimit 15 = .ok (.aload_n 0, 1) := by decide +kernel
theorem dX4_takeLimit_16 : decode cX4_takeLimit 16 = .ok (.getfield 51, 3) := by decide +kernel
theorem dX4_takeLimit_19 : decode cX4_takeLimit 19 = .ok (.aload_n 0, 1) := by decide +kernel
theorem dX4_takeLimit_20 : decode cX4_takeLimit 20 = .ok (.getfield 12, 3) := by decide +kernel
theorem dX4_takeLimit_23 : decode cX4_takeLimit 23 = .ok (.getfield 117, 3) := by decide +kernel
theorem dX4_takeLimit_26 : decode cX4_takeLimit 26 = .ok (.invokevirtual 113, 3) := by decide +kernel
theorem dX4_takeLimit_29 : decode cX4_takeLimit 29 = .ok (.iconst 1, 1) := by decide +kernel
theorem dX4_takeLimit_30 : decode cX4_takeLimit 30 = .ok (.ireturn, 1) := by decide +kernel
theorem dX4_takeTestEnd_0 : decode cX4_takeTestEnd 0 = .ok (.aload_n 0, 1) := by decide +kernel
theorem dX4_takeTestEnd_1 : decode cX4_takeTestEnd 1 = .ok (.getfield 12, 3) := by decide +kernel
theorem dX4_takeTestEnd_4 : decode cX4_takeTestEnd 4 = .ok (.getfield 66, 3) := by decide +kernel
theorem dX4_takeTestEnd_7 : decode cX4_takeTestEnd 7 = .ok (.bipush 10, 2) := by decide +kernel
theorem dX4_takeTestEnd_9 : decode cX4_takeTestEnd 9 = .ok (.if_icmp .ne 10, 3) := by decide +kernel
theorem dX4_takeTestEnd_12 : decode cX4_takeTestEnd 12 = .ok (.aload_n 0, 1) := by decide +kernel
theorem dX4_takeTestEnd_13 : decode cX4_takeTestEnd 13 = .ok (.iconst 1, 1) := by decide +kernel
theorem dX4_takeTestEnd_14 : decode cX4_takeTestEnd 14 = .ok (.putfield 35, 3) := by decide +kernel
theorem dX4_takeTestEnd_17 : decode cX4_takeTestEnd 17 = .ok (.iconst 1, 1) := by decide +kernel
theorem dX4_takeTestEnd_18 : decode cX4_takeTestEnd 18 = .ok (.ireturn, 1) := by decide +kernel
theorem dX4_takeTestEnd_19 : decode cX4_takeTestEnd 19 = .ok (.aload_n 0, 1) := by decide +kernel
theorem dX4_takeTestEnd_20 : decode cX4_takeTestEnd 20 = .ok (.bipush 6, 2) := by decide +kernel
theorem dX4_takeTestEnd_22 : decode cX4_takeTestEnd 22 = .ok (.putfield 35, 3) := by decide +kernel
theorem dX4_takeTestEnd_25 : decode cX4_takeTestEnd 25 = .ok (.aload_n 0, 1) := by decide +kernel
theorem dX4_takeTestEnd_26 : decode cX4_takeTestEnd 26 = .ok (.getfield 12, 3) := by decide +kernel
theorem dX4_takeTestEnd_29 : decode cX4_takeTestEnd 29 = .ok (.getfield 66, 3) := by decide +kernel
theorem dX4_takeTestEnd_32 : decode cX4_takeTestEnd 32 = .ok (.bipush 58, 2) := by decide +kernel
theorem dX4_takeTestEnd_34 : decode cX4_takeTestEnd 34 = .ok (.if_icmp .ne 7, 3) := by decide +kernel
theorem dX4_takeTestEnd_37 : decode cX4_takeTestEnd 37 = .ok (.iconst 1, 1) := by decide +kernel
theorem dX4_takeTestEnd_38 : decode cX4_takeTestEnd 38 = .ok (.goto 4, 3) := by decide +kernel
theorem dX4_takeTestEnd_41 : decode cX4_takeTestEnd 41 = .ok (.iconst 0, 1) := by decide +kernel
theorem dX4_takeTestEnd_42 : decode cX4_takeTestEnd 42 = .ok (.ireturn, 1) := by decide +kernel
set_option maxRecDepth 20000 in
theorem ggX4_takeAction_X11_within : GoodIn wsX4_takeAction wsX11_within := goodIn_r _ [7] (by decide +kernel) (by decide +kernel)
set_option maxRecDepth 20000 in
theorem gX4_takeAction_X11_within_n109 : GoodIn wsX4_takeAction (wsX11_within) := ggX4_takeAction_X11_within
set_option maxRecDepth 20000 in
theorem ggX4_takeAction_X4_keepLine : GoodIn wsX4_takeAction wsX4_keepLine := goodIn_r _ [12, 13, 14, 3, 15, 4, 16, 17, 18, 19, 20, 21, 22, 23, 24, 25, 26, 27, 28, 29, 30, 31, 32, 33, 34, 35, 36, 37, 38, 39, 40, 46, 47, 48, 49, 50, 51, 52, 53] (by decide +kernel) (by decide +kernel)
set_option maxRecDepth 20000 in
theorem gX4_takeAction_X4_keepLine : GoodIn wsX4_takeAction (wsV RX4 120 RX4 yX4_keepLine wsX4_keepLine) := goodIn_app (goodIn_of _ (by decide +kernel)) ggX4_takeAction_X4_keepLine
theorem dX4_takeAction_0 : decode cX4_takeAction 0 = .ok (.aload_n 0, 1) := by decide +kernel
theorem dX4_takeAction_1 : decode cX4_takeAction 1 = .ok (.getfield 12, 3) := by decide +kernel
theorem dX4_takeAction_4 : decode cX4_takeAction 4 = .ok (.getfield 66, 3) := by decide +kernel
theorem dX4_takeAction_7 : decode cX4_takeAction 7 = .ok (.bipush 6, 2) := by decide +kernel
theorem dX4_takeAction_9 : decode cX4_takeAction 9 = .ok (.bipush 8, 2) := by decide +kernel
theorem dX4_takeAction_11 : decode cX4_takeAction 11 = .ok (.invokestatic 109, 3) := by decide +kernel
theorem dX4_takeAction_14 : decode cX4_takeAction 14 = .ok (.ifCond .ne 5, 3) := by decide +kernel
theorem dX4_takeAction_17 : decode cX4_takeAction 17 = .ok (.iconst 0, 1) := by decide +kernel
theorem dX4_takeAction_18 : decode cX4_takeAction 18 = .ok (.ireturn, 1) := by decide +kernel
theorem dX4_takeAction_19 : decode cX4_takeAction 19 = .ok (.aload_n 0, 1) := by decide +kernel
theorem dX4_takeAction_20 : decode cX4_takeAction 20 = .ok (.aload_n 0, 1) := by decide +kernel
theorem dX4_takeAction_21 : decode cX4_takeAction 21 = .ok (.getfield 12, 3) := by decide +kernel
theorem dX4_takeAction_24 : decode cX4_takeAction 24 = .ok (.getfield 66, 3) := by decide +kernel
theorem dX4_takeAction_27 : decode cX4_takeAction 27 = .ok (.putfield 54, 3) := by decide +kernel
theorem dX4_takeAction_30 : decode cX4_takeAction 30 = .ok (.aload_n 0, 1) := by decide +kernel
theorem dX4_takeAction_31 : decode cX4_takeAction 31 = .ok (.getfield 54, 3) := by decide +kernel
theorem dX4_takeAction_34 : decode cX4_takeAction 34 = .ok (.bipush 8, 2) := by decide +kernel
theorem dX4_takeAction_36 : decode cX4_takeAction 36 = .ok (.if_icmp .ne 11, 3) := by decide +kernel
theorem dX4_takeAction_39 : decode cX4_takeAction 39 = .ok (.aload_n 0, 1) := by decide +kernel
theorem dX4_takeAction_40 : decode cX4_takeAction 40 = .ok (.iconst 0, 1) := by decide +kernel
theorem dX4_takeAction_41 : decode cX4_takeAction 41 = .ok (.invokevirtual 120, 3) := by decide +kernel
theorem dX4_takeAction_44 : decode cX4_takeAction 44 = .ok (.goto 9, 3) := by decide +kernel
theorem dX4_takeAction_47 : decode cX4_takeAction 47 = .ok (.aload_n 0, 1) := by decide +kernel
theorem dX4_takeAction_48 : decode cX4_takeAction 48 = .ok (.bipush 7, 2) := by decide +kernel
theorem dX4_takeAction_50 : decode cX4_takeAction 50 = .ok (.putfield 35, 3) := by decide +kernel
theorem dX4_takeAction_53 : decode cX4_takeAction 53 = .ok (.iconst 1, 1) := by decide +kernel
theorem dX4_takeAction_54 : decode cX4_takeAction 54 = .ok (.ireturn, 1) := by decide +kernel
set_option maxRecDepth 20000 in
theorem ggX4_takeAmount_X4_keepLine : GoodIn wsX4_takeAmount wsX4_keepLine := goodIn_r _ [8, 9, 10, 11, 12, 13, 14, 15, 16, 17, 18, 19, 20, 21, 22, 23, 24, 25, 26, 27, 28, 29, 30, 31, 32, 33, 34, 35, 36, 37, 38, 44, 45, 46, 47, 48, 49, 50, 51] (by decide +kernel) (by decide +kernel)
set_option maxRecDepth 20000 in
theorem gX4_takeAmount_X4_keepLine : GoodIn wsX4_takeAmount (wsV RX4 120 RX4 yX4_keepLine wsX4_keepLine) := goodIn_app (goodIn_of _ (by decide +kernel)) ggX4_takeAmount_X4_keepLine
theorem dX4_takeAmount_0 : decode cX4_takeAmount 0 = .ok (.aload_n 0, 1) := by decide +kernel
theorem dX4_takeAmount_1 : decode cX4_takeAmount 1 = .ok (.getfield 12, 3) := by decide +kernel
theorem dX4_takeAmount_4 : decode cX4_takeAmount 4 = .ok (.getfield 66, 3) := by decide +kernel
theorem dX4_takeAmount_7 : decode cX4_takeAmount 7 = .ok (.bipush 12, 2) := by decide +kernel
theorem dX4_takeAmount_9 : decode cX4_takeAmount 9 = .ok (.if_icmp .eq 5, 3) := by decide +kernel
theorem dX4_takeAmount_12 : decode cX4_takeAmount 12 = .ok (.iconst 0, 1) := by decide +kernel
theorem dX4_takeAmount_13 : decode cX4_takeAmount 13 = .ok (.ireturn, 1) := by decide +kernel
theorem dX4_takeAmount_14 : decode cX4_takeAmount 14 = .ok (.aload_n 0, 1) := by decide +kernel
theorem dX4_takeAmount_15 : decode cX4_takeAmount 15 = .ok (.aload_n 0, 1) := by decide +kernel
theorem dX4_takeAmount_16 : decode cX4_takeAmount 16 = .ok (.getfield 12, 3) := by decide +kernel
theorem dX4_takeAmount_19 : decode cX4_takeAmount 19 = .ok (.getfield 117, 3) := by decide +kernel
theorem dX4_takeAmount_22 : decode cX4_takeAmount 22 = .ok (.invokevirtual 120, 3) := by decide +kernel
theorem dX4_takeAmount_25 : decode cX4_takeAmount 25 = .ok (.iconst 1, 1) := by decide +kernel
theorem dX4_takeAmount_26 : decode cX4_takeAmount 26 = .ok (.ireturn, 1) := by decide +kernel
theorem dX4_takeLineEnd_0 : decode cX4_takeLineEnd 0 = .ok (.aload_n 0, 1) := by decide +kernel
theorem dX4_takeLineEnd_1 : decode cX4_takeLineEnd 1 = .ok (.iconst 0, 1) := by decide +kernel
theorem dX4_takeLineEnd_2 : decode cX4_takeLineEnd 2 = .ok (.putfield 35, 3) := by decide +kernel
theorem dX4_takeLineEnd_5 : decode cX4_takeLineEnd 5 = .ok (.aload_n 0, 1) := by decide +kernel
theorem dX4_takeLineEnd_6 : decode cX4_takeLineEnd 6 = .ok (.getfield 12, 3) := by decide +kernel
theorem dX4_takeLineEnd_9 : decode cX4_takeLineEnd 9 = .ok (.getfield 66, 3) := by decide +kernel
theorem dX4_takeLineEnd_12 : decode cX4_takeLineEnd 12 = .ok (.bipush 59, 2) := by decide +kernel
theorem dX4_takeLineEnd_14 : decode cX4_takeLineEnd 14 = .ok (.if_icmp .ne 7, 3) := by decide +kernel
theorem dX4_takeLineEnd_17 : decode cX4_takeLineEnd 17 = .ok (.iconst 1, 1) := by decide +kernel
theorem dX4_takeLineEnd_18 : decode cX4_takeLineEnd 18 = .ok (.goto 4, 3) := by decide +kernel
theorem dX4_takeLineEnd_21 : decode cX4_takeLineEnd 21 = .ok (.iconst 0, 1) := by decide +kernel
theorem dX4_takeLineEnd_22 : decode cX4_takeLineEnd 22 = .ok (.ireturn, 1) := by decide +kernel
set_option maxRecDepth 20000 in
theorem ggX4_keepTest_X3_putTest : GoodIn wsX4_keepTest wsX3_putTest := goodIn_r _ [11, 12, 13, 14, 15, 28, 29, 30, 31, 32, 33, 34, 35] (by decide +kernel) (by decide +kernel)
set_option maxRecDepth 20000 in
theorem gX4_keepTest_X3_putTest : GoodIn wsX4_keepTest (wsV RX4 124 RX3 yX3_putTest wsX3_putTest) := goodIn_app (goodIn_of _ (by decide +kernel)) ggX4_keepTest_X3_putTest
theorem dX4_keepTest_0 : decode cX4_keepTest 0 = .ok (.aload_n 0, 1) := by decide +kernel
theorem dX4_keepTest_1 : decode cX4_keepTest 1 = .ok (.getfield 21, 3) := by decide +kernel
theorem dX4_keepTest_4 : decode cX4_keepTest 4 = .ok (.aload_n 0, 1) := by decide +kernel
theorem dX4_keepTest_5 : decode cX4_keepTest 5 = .ok (.getfield 38, 3) := by decide +kernel
theorem dX4_keepTest_8 : decode cX4_keepTest 8 = .ok (.aload_n 0, 1) := by decide +kernel
theorem dX4_keepTest_9 : decode cX4_keepTest 9 = .ok (.getfield 41, 3) := by decide +kernel
theorem dX4_keepTest_12 : decode cX4_keepTest 12 = .ok (.aload_n 0, 1) := by decide +kernel
theorem dX4_keepTest_13 : decode cX4_keepTest 13 = .ok (.getfield 44, 3) := by decide +kernel
theorem dX4_keepTest_16 : decode cX4_keepTest 16 = .ok (.aload_n 0, 1) := by decide +kernel
theorem dX4_keepTest_17 : decode cX4_keepTest 17 = .ok (.getfield 48, 3) := by decide +kernel
theorem dX4_keepTest_20 : decode cX4_keepTest 20 = .ok (.iload_n 1, 1) := by decide +kernel
theorem dX4_keepTest_21 : decode cX4_keepTest 21 = .ok (.iload_n 2, 1) := by decide +kernel
theorem dX4_keepTest_22 : decode cX4_keepTest 22 = .ok (.invokevirtual 124, 3) := by decide +kernel
theorem dX4_keepTest_25 : decode cX4_keepTest 25 = .ok (.aload_n 0, 1) := by decide +kernel
theorem dX4_keepTest_26 : decode cX4_keepTest 26 = .ok (.dup, 1) := by decide +kernel
theorem dX4_keepTest_27 : decode cX4_keepTest 27 = .ok (.getfield 41, 3) := by decide +kernel
theorem dX4_keepTest_30 : decode cX4_keepTest 30 = .ok (.iconst 1, 1) := by decide +kernel
theorem dX4_keepTest_31 : decode cX4_keepTest 31 = .ok (.iadd, 1) := by decide +kernel
theorem dX4_keepTest_32 : decode cX4_keepTest 32 = .ok (.putfield 41, 3) := by decide +kernel
theorem dX4_keepTest_35 : decode cX4_keepTest 35 = .ok (.aload_n 0, 1) := by decide +kernel
theorem dX4_keepTest_36 : decode cX4_keepTest 36 = .ok (.iconst 5, 1) := by decide +kernel
theorem dX4_keepTest_37 : decode cX4_keepTest 37 = .ok (.putfield 35, 3) := by decide +kernel
theorem dX4_keepTest_40 : decode cX4_keepTest 40 = .ok (.return_, 1) := by decide +kernel
set_option maxRecDepth 20000 in
theorem ggX4_keepLine_X3_putLine : GoodIn wsX4_keepLine wsX3_putLine := goodIn_r _ [10, 11, 12, 13, 14, 15, 16, 17, 18, 31, 32, 33, 34, 35, 36, 37, 38] (by decide +kernel) (by decide +kernel)
set_option maxRecDepth 20000 in
theorem gX4_keepLine_X3_putLine : GoodIn wsX4_keepLine (wsV RX4 128 RX3 yX3_putLine wsX3_putLine) := goodIn_app (goodIn_of _ (by decide +kernel)) ggX4_keepLine_X3_putLine
theorem dX4_keepLine_0 : decode cX4_keepLine 0 = .ok (.aload_n 0, 1) := by decide +kernel
theorem dX4_keepLine_1 : decode cX4_keepLine 1 = .ok (.getfield 21, 3) := by decide +kernel
theorem dX4_keepLine_4 : decode cX4_keepLine 4 = .ok (.aload_n 0, 1) := by decide +kernel
theorem dX4_keepLine_5 : decode cX4_keepLine 5 = .ok (.getfield 38, 3) := by decide +kernel
theorem dX4_keepLine_8 : decode cX4_keepLine 8 = .ok (.aload_n 0, 1) := by decide +kernel
theorem dX4_keepLine_9 : decode cX4_keepLine 9 = .ok (.getfield 54, 3) := by decide +kernel
theorem dX4_keepLine_12 : decode cX4_keepLine 12 = .ok (.iload_n 1, 1) := by decide +kernel
theorem dX4_keepLine_13 : decode cX4_keepLine 13 = .ok (.aload_n 0, 1) := by decide +kernel
theorem dX4_keepLine_14 : decode cX4_keepLine 14 = .ok (.getfield 41, 3) := by decide +kernel
theorem dX4_keepLine_17 : decode cX4_keepLine 17 = .ok (.invokevirtual 128, 3) := by decide +kernel
theorem dX4_keepLine_20 : decode cX4_keepLine 20 = .ok (.aload_n 0, 1) := by decide +kernel
theorem dX4_keepLine_21 : decode cX4_keepLine 21 = .ok (.dup, 1) := by decide +kernel
theorem dX4_keepLine_22 : decode cX4_keepLine 22 = .ok (.getfield 38, 3) := by decide +kernel
theorem dX4_keepLine_25 : decode cX4_keepLine 25 = .ok (.iconst 1, 1) := by decide +kernel
theorem dX4_keepLine_26 : decode cX4_keepLine 26 = .ok (.iadd, 1) := by decide +kernel
theorem dX4_keepLine_27 : decode cX4_keepLine 27 = .ok (.putfield 38, 3) := by decide +kernel
theorem dX4_keepLine_30 : decode cX4_keepLine 30 = .ok (.aload_n 0, 1) := by decide +kernel
theorem dX4_keepLine_31 : decode cX4_keepLine 31 = .ok (.bipush 8, 2) := by decide +kernel
theorem dX4_keepLine_33 : decode cX4_keepLine 33 = .ok (.putfield 35, 3) := by decide +kernel
theorem dX4_keepLine_36 : decode cX4_keepLine 36 = .ok (.return_, 1) := by decide +kernel
theorem dX4_noteExcess_0 : decode cX4_noteExcess 0 = .ok (.aload_n 0, 1) := by decide +kernel
theorem dX4_noteExcess_1 : decode cX4_noteExcess 1 = .ok (.getfield 32, 3) := by decide +kernel
theorem dX4_noteExcess_4 : decode cX4_noteExcess 4 = .ok (.iconst (-1), 1) := by decide +kernel
theorem dX4_noteExcess_5 : decode cX4_noteExcess 5 = .ok (.if_icmp .ne 14, 3) := by decide +kernel
theorem dX4_noteExcess_8 : decode cX4_noteExcess 8 = .ok (.aload_n 0, 1) := by decide +kernel
theorem dX4_noteExcess_9 : decode cX4_noteExcess 9 = .ok (.aload_n 0, 1) := by decide +kernel
theorem dX4_noteExcess_10 : decode cX4_noteExcess 10 = .ok (.getfield 12, 3) := by decide +kernel
theorem dX4_noteExcess_13 : decode cX4_noteExcess 13 = .ok (.getfield 73, 3) := by decide +kernel
theorem dX4_noteExcess_16 : decode cX4_noteExcess 16 = .ok (.putfield 32, 3) := by decide +kernel
theorem dX4_noteExcess_19 : decode cX4_noteExcess 19 = .ok (.return_, 1) := by decide +kernel
theorem dX5_init_0 : decode cX5_init 0 = .ok (.aload_n 0, 1) := by decide +kernel
theorem dX5_init_1 : decode cX5_init 1 = .ok (.invokespecial 3, 3) := by decide +kernel
theorem dX5_init_4 : decode cX5_init 4 = .ok (.aload_n 0, 1) := by decide +kernel
theorem dX5_init_5 : decode cX5_init 5 = .ok (.iconst 0, 1) := by decide +kernel
theorem dX5_init_6 : decode cX5_init 6 = .ok (.putfield 9, 3) := by decide +kernel
theorem dX5_init_9 : decode cX5_init 9 = .ok (.aload_n 0, 1) := by decide +kernel
theorem dX5_init_10 : decode cX5_init 10 = .ok (.bipush 20, 2) := by decide +kernel
theorem dX5_init_12 : decode cX5_init 12 = .ok (.newarray .int, 2) := by decide +kernel
theorem dX5_init_14 : decode cX5_init 14 = .ok (.putfield 15, 3) := by decide +kernel
theorem dX5_init_17 : decode cX5_init 17 = .ok (.aload_n 0, 1) := by decide +kernel
theorem dX5_init_18 : decode cX5_init 18 = .ok (.bipush 20, 2) := by decide +kernel
theorem dX5_init_20 : decode cX5_init 20 = .ok (.newarray .int, 2) := by decide +kernel
theorem dX5_init_22 : decode cX5_init 22 = .ok (.putfield 19, 3) := by decide +kernel
theorem dX5_init_25 : decode cX5_init 25 = .ok (.aload_n 0, 1) := by decide +kernel
theorem dX5_init_26 : decode cX5_init 26 = .ok (.bipush 20, 2) := by decide +kernel
theorem dX5_init_28 : decode cX5_init 28 = .ok (.newarray .int, 2) := by decide +kernel
theorem dX5_init_30 : decode cX5_init 30 = .ok (.putfield 22, 3) := by decide +kernel
theorem dX5_init_33 : decode cX5_init 33 = .ok (.aload_n 0, 1) := by decide +kernel
theorem dX5_init_34 : decode cX5_init 34 = .ok (.bipush 20, 2) := by decide +kernel
theorem dX5_init_36 : decode cX5_init 36 = .ok (.newarray .int, 2) := by decide +kernel
theorem dX5_init_38 : decode cX5_init 38 = .ok (.putfield 25, 3) := by decide +kernel
theorem dX5_init_41 : decode cX5_init 41 = .ok (.return_, 1) := by decide +kernel
set_option maxRecDepth 20000 in
theorem ggX5_copyFrom_X11_copyRow : GoodIn wsX5_copyFrom wsX11_copyRow := goodIn_r _ [8, 9, 10, 11, 12, 13, 14, 15, 16] (by decide +kernel) (by decide +kernel)
set_option maxRecDepth 20000 in
theorem gX5_copyFrom_X11_copyRow_n28 : GoodIn wsX5_copyFrom (wsX11_copyRow) := ggX5_copyFrom_X11_copyRow
theorem dX5_copyFrom_0 : decode cX5_copyFrom 0 = .ok (.aload_n 0, 1) := by decide +kernel
theorem dX5_copyFrom_1 : decode cX5_copyFrom 1 = .ok (.aload_n 1, 1) := by decide +kernel
theorem dX5_copyFrom_2 : decode cX5_copyFrom 2 = .ok (.getfield 9, 3) := by decide +kernel
theorem dX5_copyFrom_5 : decode cX5_copyFrom 5 = .ok (.putfield 9, 3) := by decide +kernel
theorem dX5_copyFrom_8 : decode cX5_copyFrom 8 = .ok (.aload_n 1, 1) := by decide +kernel
theorem dX5_copyFrom_9 : decode cX5_copyFrom 9 = .ok (.getfield 15, 3) := by decide +kernel
theorem dX5_copyFrom_12 : decode cX5_copyFrom 12 = .ok (.aload_n 0, 1) := by decide +kernel
theorem dX5_copyFrom_13 : decode cX5_copyFrom 13 = .ok (.getfield 15, 3) := by decide +kernel
theorem dX5_copyFrom_16 : decode cX5_copyFrom 16 = .ok (.invokestatic 28, 3) := by decide +kernel
theorem dX5_copyFrom_19 : decode cX5_copyFrom 19 = .ok (.aload_n 1, 1) := by decide +kernel
theorem dX5_copyFrom_20 : decode cX5_copyFrom 20 = .ok (.getfield 19, 3) := by decide +kernel
theorem dX5_copyFrom_23 : decode cX5_copyFrom 23 = .ok (.aload_n 0, 1) := by decide +kernel
theorem dX5_copyFrom_24 : decode cX5_copyFrom 24 = .ok (.getfield 19, 3) := by decide +kernel
theorem dX5_copyFrom_27 : decode cX5_copyFrom 27 = .ok (.invokestatic 28, 3) := by decide +kernel
theorem dX5_copyFrom_30 : decode cX5_copyFrom 30 = .ok (.aload_n 1, 1) := by decide +kernel
theorem dX5_copyFrom_31 : decode cX5_copyFrom 31 = .ok (.getfield 22, 3) := by decide +kernel
theorem dX5_copyFrom_34 : decode cX5_copyFrom 34 = .ok (.aload_n 0, 1) := by decide +kernel
theorem dX5_copyFrom_35 : decode cX5_copyFrom 35 = .ok (.getfield 22, 3) := by decide +kernel
theorem dX5_copyFrom_38 : decode cX5_copyFrom 38 = .ok (.invokestatic 28, 3) := by decide +kernel
theorem dX5_copyFrom_41 : decode cX5_copyFrom 41 = .ok (.aload_n 1, 1) := by decide +kernel
theorem dX5_copyFrom_42 : decode cX5_copyFrom 42 = .ok (.getfield 25, 3) := by decide +kernel
theorem dX5_copyFrom_45 : decode cX5_copyFrom 45 = .ok (.aload_n 0, 1) := by decide +kernel
theorem dX5_copyFrom_46 : decode cX5_copyFrom 46 = .ok (.getfield 25, 3) := by decide +kernel
theorem dX5_copyFrom_49 : decode cX5_copyFrom 49 = .ok (.invokestatic 28, 3) := by decide +kernel
theorem dX5_copyFrom_52 : decode cX5_copyFrom 52 = .ok (.return_, 1) := by decide +kernel
theorem dX5_enter_0 : decode cX5_enter 0 = .ok (.aload_n 0, 1) := by decide +kernel
theorem dX5_enter_1 : decode cX5_enter 1 = .ok (.getfield 9, 3) := by decide +kernel
theorem dX5_enter_4 : decode cX5_enter 4 = .ok (.bipush 20, 2) := by decide +kernel
theorem dX5_enter_6 : decode cX5_enter 6 = .ok (.if_icmp .lt 5, 3) := by decide +kernel
theorem dX5_enter_9 : decode cX5_enter 9 = .ok (.iconst (-1), 1) := by decide +kernel
theorem dX5_enter_10 : decode cX5_enter 10 = .ok (.ireturn, 1) := by decide +kernel
theorem dX5_enter_11 : decode cX5_enter 11 = .ok (.aload_n 0, 1) := by decide +kernel
theorem dX5_enter_12 : decode cX5_enter 12 = .ok (.getfield 15, 3) := by decide +kernel
theorem dX5_enter_15 : decode cX5_enter 15 = .ok (.aload_n 0, 1) := by decide +kernel
theorem dX5_enter_16 : decode cX5_enter 16 = .ok (.getfield 9, 3) := by decide +kernel
theorem dX5_enter_19 : decode cX5_enter 19 = .ok (.iload_n 1, 1) := by decide +kernel
theorem dX5_enter_20 : decode cX5_enter 20 = .ok (.iastore, 1) := by decide +kernel
theorem dX5_enter_21 : decode cX5_enter 21 = .ok (.aload_n 0, 1) := by decide +kernel
theorem dX5_enter_22 : decode cX5_enter 22 = .ok (.getfield 19, 3) := by decide +kernel
theorem dX5_enter_25 : decode cX5_enter 25 = .ok (.aload_n 0, 1) := by decide +kernel
theorem dX5_enter_26 : decode cX5_enter 26 = .ok (.getfield 9, 3) := by decide +kernel
theorem dX5_enter_29 : decode cX5_enter 29 = .ok (.iload_n 2, 1) := by decide +kernel
theorem dX5_enter_30 : decode cX5_enter 30 = .ok (.iastore, 1) := by decide +kernel
theorem dX5_enter_31 : decode cX5_enter 31 = .ok (.aload_n 0, 1) := by decide +kernel
theorem dX5_enter_32 : decode cX5_enter 32 = .ok (.getfield 22, 3) := by decide +kernel
theorem dX5_enter_35 : decode cX5_enter 35 = .ok (.aload_n 0, 1) := by decide +kernel
theorem dX5_enter_36 : decode cX5_enter 36 = .ok (.getfield 9, 3) := by decide +kernel
theorem dX5_enter_39 : decode cX5_enter 39 = .ok (.iload_n 3, 1) := by decide +kernel
theorem dX5_enter_40 : decode cX5_enter 40 = .ok (.iastore, 1) := by decide +kernel
theorem dX5_enter_41 : decode cX5_enter 41 = .ok (.aload_n 0, 1) := by decide +kernel
theorem dX5_enter_42 : decode cX5_enter 42 = .ok (.getfield 25, 3) := by decide +kernel
theorem dX5_enter_45 : decode cX5_enter 45 = .ok (.aload_n 0, 1) := by decide +kernel
theorem dX5_enter_46 : decode cX5_enter 46 = .ok (.getfield 9, 3) := by decide +kernel
theorem dX5_enter_49 : decode cX5_enter 49 = .ok (.iload 4, 2) := by decide +kernel
theorem dX5_enter_51 : decode cX5_enter 51 = .ok (.iastore, 1) := by decide +kernel
theorem dX5_enter_52 : decode cX5_enter 52 = .ok (.aload_n 0, 1) := by decide +kernel
theorem dX5_enter_53 : decode cX5_enter 53 = .ok (.dup, 1) := by decide +kernel
theorem dX5_enter_54 : decode cX5_enter 54 = .ok (.getfield 9, 3) := by decide +kernel
theorem dX5_enter_57 : decode cX5_enter 57 = .ok (.iconst 1, 1) := by decide +kernel
theorem dX5_enter_58 : decode cX5_enter 58 = .ok (.iadd, 1) := by decide +kernel
theorem dX5_enter_59 : decode cX5_enter 59 = .ok (.putfield 9, 3) := by decide +kernel
theorem dX5_enter_62 : decode cX5_enter 62 = .ok (.aload_n 0, 1) := by decide +kernel
theorem dX5_enter_63 : decode cX5_enter 63 = .ok (.getfield 9, 3) := by decide +kernel
theorem dX5_enter_66 : decode cX5_enter 66 = .ok (.iconst 1, 1) := by decide +kernel
theorem dX5_enter_67 : decode cX5_enter 67 = .ok (.isub, 1) := by decide +kernel
theorem dX5_enter_68 : decode cX5_enter 68 = .ok (.ireturn, 1) := by decide +kernel
theorem dX5_owed_0 : decode cX5_owed 0 = .ok (.aload_n 0, 1) := by decide +kernel
theorem dX5_owed_1 : decode cX5_owed 1 = .ok (.getfield 22, 3) := by decide +kernel
theorem dX5_owed_4 : decode cX5_owed 4 = .ok (.iload_n 1, 1) := by decide +kernel
theorem dX5_owed_5 : decode cX5_owed 5 = .ok (.iaload, 1) := by decide +kernel
theorem dX5_owed_6 : decode cX5_owed 6 = .ok (.aload_n 0, 1) := by decide +kernel
theorem dX5_owed_7 : decode cX5_owed 7 = .ok (.getfield 22, 3) := by decide +kernel
theorem dX5_owed_10 : decode cX5_owed 10 = .ok (.iload_n 1, 1) := by decide +kernel
theorem dX5_owed_11 : decode cX5_owed 11 = .ok (.iaload, 1) := by decide +kernel
theorem dX5_owed_12 : decode cX5_owed 12 = .ok (.aload_n 0, 1) := by decide +kernel
theorem dX5_owed_13 : decode cX5_owed 13 = .ok (.getfield 25, 3) := by decide +kernel
theorem dX5_owed_16 : decode cX5_owed 16 = .ok (.iload_n 1, 1) := by decide +kernel
theorem dX5_owed_17 : decode cX5_owed 17 = .ok (.iaload, 1) := by decide +kernel
theorem dX5_owed_18 : decode cX5_owed 18 = .ok (.imul, 1) := by decide +kernel
theorem dX5_owed_19 : decode cX5_owed 19 = .ok (.bipush 100, 2) := by decide +kernel
theorem dX5_owed_21 : decode cX5_owed 21 = .ok (.idiv, 1) := by decide +kernel
theorem dX5_owed_22 : decode cX5_owed 22 = .ok (.iadd, 1) := by decide +kernel
theorem dX5_owed_23 : decode cX5_owed 23 = .ok (.ireturn, 1) := by decide +kernel
theorem dX6_init_0 : decode cX6_init 0 = .ok (.aload_n 0, 1) := by decide +kernel
theorem dX6_init_1 : decode cX6_init 1 = .ok (.invokespecial 3, 3) := by decide +kernel
theorem dX6_init_4 : decode cX6_init 4 = .ok (.aload_n 0, 1) := by decide +kernel
theorem dX6_init_5 : decode cX6_init 5 = .ok (.bipush 100, 2) := by decide +kernel
theorem dX6_init_7 : decode cX6_init 7 = .ok (.putfield 9, 3) := by decide +kernel
theorem dX6_init_10 : decode cX6_init 10 = .ok (.aload_n 0, 1) := by decide +kernel
theorem dX6_init_11 : decode cX6_init 11 = .ok (.sipush 1000, 3) := by decide +kernel
theorem dX6_init_14 : decode cX6_init 14 = .ok (.putfield 15, 3) := by decide +kernel
theorem dX6_init_17 : decode cX6_init 17 = .ok (.aload_n 0, 1) := by decide +kernel
theorem dX6_init_18 : decode cX6_init 18 = .ok (.sipush 1000, 3) := by decide +kernel
theorem dX6_init_21 : decode cX6_init 21 = .ok (.putfield 18, 3) := by decide +kernel
theorem dX6_init_24 : decode cX6_init 24 = .ok (.aload_n 0, 1) := by decide +kernel
theorem dX6_init_25 : decode cX6_init 25 = .ok (.iconst 1, 1) := by decide +kernel
theorem dX6_init_26 : decode cX6_init 26 = .ok (.putfield 21, 3) := by decide +kernel
theorem dX6_init_29 : decode cX6_init 29 = .ok (.return_, 1) := by decide +kernel
theorem dX6_copyFrom_0 : decode cX6_copyFrom 0 = .ok (.aload_n 0, 1) := by decide +kernel
theorem dX6_copyFrom_1 : decode cX6_copyFrom 1 = .ok (.aload_n 1, 1) := by decide +kernel
theorem dX6_copyFrom_2 : decode cX6_copyFrom 2 = .ok (.getfield 9, 3) := by decide +kernel
theorem dX6_copyFrom_5 : decode cX6_copyFrom 5 = .ok (.putfield 9, 3) := by decide +kernel
theorem dX6_copyFrom_8 : decode cX6_copyFrom 8 = .ok (.aload_n 0, 1) := by decide +kernel
theorem dX6_copyFrom_9 : decode cX6_copyFrom 9 = .ok (.aload_n 1, 1) := by decide +kernel
theorem dX6_copyFrom_10 : decode cX6_copyFrom 10 = .ok (.getfield 15, 3) := by decide +kernel
theorem dX6_copyFrom_13 : decode cX6_copyFrom 13 = .ok (.putfield 15, 3) := by decide +kernel
theorem dX6_copyFrom_16 : decode cX6_copyFrom 16 = .ok (.aload_n 0, 1) := by decide +kernel
theorem dX6_copyFrom_17 : decode cX6_copyFrom 17 = .ok (.aload_n 1, 1) := by decide +kernel
theorem dX6_copyFrom_18 : decode cX6_copyFrom 18 = .ok (.getfield 18, 3) := by decide +kernel
theorem dX6_copyFrom_21 : decode cX6_copyFrom 21 = .ok (.putfield 18, 3) := by decide +kernel
theorem dX6_copyFrom_24 : decode cX6_copyFrom 24 = .ok (.aload_n 0, 1) := by decide +kernel
theorem dX6_copyFrom_25 : decode cX6_copyFrom 25 = .ok (.aload_n 1, 1) := by decide +kernel
theorem dX6_copyFrom_26 : decode cX6_copyFrom 26 = .ok (.getfield 21, 3) := by decide +kernel
theorem dX6_copyFrom_29 : decode cX6_copyFrom 29 = .ok (.putfield 21, 3) := by decide +kernel
theorem dX6_copyFrom_32 : decode cX6_copyFrom 32 = .ok (.return_, 1) := by decide +kernel
set_option maxRecDepth 20000 in
theorem ggX6_change_X6_greatest : GoodIn wsX6_change wsX6_greatest := goodIn_r _ [8] (by decide +kernel) (by decide +kernel)
set_option maxRecDepth 20000 in
theorem gX6_change_X6_greatest : GoodIn wsX6_change (va_wsS RX6 24 yX6_greatest wsX6_greatest) := goodIn_app (goodIn_of _ (by decide +kernel)) ggX6_change_X6_greatest
set_option maxRecDepth 20000 in
theorem ggX6_change_X11_within : GoodIn wsX6_change wsX11_within := goodIn_r _ [11] (by decide +kernel) (by decide +kernel)
set_option maxRecDepth 20000 in
theorem gX6_change_X11_within_n28 : GoodIn wsX6_change (wsX11_within) := ggX6_change_X11_within
theorem dX6_change_0 : decode cX6_change 0 = .ok (.iload_n 2, 1) := by decide +kernel
theorem dX6_change_1 : decode cX6_change 1 = .ok (.iconst 0, 1) := by decide +kernel
theorem dX6_change_2 : decode cX6_change 2 = .ok (.iload_n 1, 1) := by decide +kernel
theorem dX6_change_3 : decode cX6_change 3 = .ok (.invokestatic 24, 3) := by decide +kernel
theorem dX6_change_6 : decode cX6_change 6 = .ok (.invokestatic 28, 3) := by decide +kernel
theorem dX6_change_9 : decode cX6_change 9 = .ok (.ifCond .ne 5, 3) := by decide +kernel
theorem dX6_change_12 : decode cX6_change 12 = .ok (.iconst 0, 1) := by decide +kernel
theorem dX6_change_13 : decode cX6_change 13 = .ok (.ireturn, 1) := by decide +kernel
theorem dX6_change_14 : decode cX6_change 14 = .ok (.iload_n 1, 1) := by decide +kernel
theorem dX6_change_15 : decode cX6_change 15 = .ok (.tableswitch 49 0 2 #[25, 33, 41], 25) := by decide +kernel
theorem dX6_change_40 : decode cX6_change 40 = .ok (.aload_n 0, 1) := by decide +kernel
theorem dX6_change_41 : decode cX6_change 41 = .ok (.iload_n 2, 1) := by decide +kernel
theorem dX6_change_42 : decode cX6_change 42 = .ok (.putfield 9, 3) := by decide +kernel
theorem dX6_change_45 : decode cX6_change 45 = .ok (.goto 24, 3) := by decide +kernel
theorem dX6_change_48 : decode cX6_change 48 = .ok (.aload_n 0, 1) := by decide +kernel
theorem dX6_change_49 : decode cX6_change 49 = .ok (.iload_n 2, 1) := by decide +kernel
theorem dX6_change_50 : decode cX6_change 50 = .ok (.putfield 15, 3) := by decide +kernel
theorem dX6_change_53 : decode cX6_change 53 = .ok (.goto 16, 3) := by decide +kernel
theorem dX6_change_56 : decode cX6_change 56 = .ok (.aload_n 0, 1) := by decide +kernel
theorem dX6_change_57 : decode cX6_change 57 = .ok (.iload_n 2, 1) := by decide +kernel
theorem dX6_change_58 : decode cX6_change 58 = .ok (.putfield 18, 3) := by decide +kernel
theorem dX6_change_61 : decode cX6_change 61 = .ok (.goto 8, 3) := by decide +kernel
theorem dX6_change_64 : decode cX6_change 64 = .ok (.aload_n 0, 1) := by decide +kernel
theorem dX6_change_65 : decode cX6_change 65 = .ok (.iload_n 2, 1) := by decide +kernel
theorem dX6_change_66 : decode cX6_change 66 = .ok (.putfield 21, 3) := by decide +kernel
theorem dX6_change_69 : decode cX6_change 69 = .ok (.iconst 1, 1) := by decide +kernel
theorem dX6_change_70 : decode cX6_change 70 = .ok (.ireturn, 1) := by decide +kernel
theorem dX6_greatest_0 : decode cX6_greatest 0 = .ok (.iload_n 0, 1) := by decide +kernel
theorem dX6_greatest_1 : decode cX6_greatest 1 = .ok (.tableswitch 46 0 3 #[31, 35, 39, 43], 31) := by decide +kernel
theorem dX6_greatest_32 : decode cX6_greatest 32 = .ok (.sipush 2400, 3) := by decide +kernel
theorem dX6_greatest_35 : decode cX6_greatest 35 = .ok (.ireturn, 1) := by decide +kernel
theorem dX6_greatest_36 : decode cX6_greatest 36 = .ok (.sipush 2400, 3) := by decide +kernel
theorem dX6_greatest_39 : decode cX6_greatest 39 = .ok (.ireturn, 1) := by decide +kernel
theorem dX6_greatest_40 : decode cX6_greatest 40 = .ok (.sipush 12000, 3) := by decide +kernel
theorem dX6_greatest_43 : decode cX6_greatest 43 = .ok (.ireturn, 1) := by decide +kernel
theorem dX6_greatest_44 : decode cX6_greatest 44 = .ok (.bipush 9, 2) := by decide +kernel
theorem dX6_greatest_46 : decode cX6_greatest 46 = .ok (.ireturn, 1) := by decide +kernel
theorem dX6_greatest_47 : decode cX6_greatest 47 = .ok (.iconst (-1), 1) := by decide +kernel
theorem dX6_greatest_48 : decode cX6_greatest 48 = .ok (.ireturn, 1) := by decide +kernel
theorem dX6_bears_0 : decode cX6_bears 0 = .ok (.iload_n 1, 1) := by decide +kernel
theorem dX6_bears_1 : decode cX6_bears 1 = .ok (.invokestatic 32, 3) := by decide +kernel
theorem dX6_bears_4 : decode cX6_bears 4 = .ok (.aload_n 0, 1) := by decide +kernel
theorem dX6_bears_5 : decode cX6_bears 5 = .ok (.getfield 9, 3) := by decide +kernel
theorem dX6_bears_8 : decode cX6_bears 8 = .ok (.if_icmp .gt 15, 3) := by decide +kernel
theorem dX6_bears_11 : decode cX6_bears 11 = .ok (.iload_n 2, 1) := by decide +kernel
theorem dX6_bears_12 : decode cX6_bears 12 = .ok (.aload_n 0, 1) := by decide +kernel
theorem dX6_bears_13 : decode cX6_bears 13 = .ok (.getfield 15, 3) := by decide +kernel
theorem dX6_bears_16 : decode cX6_bears 16 = .ok (.if_icmp .gt 7, 3) := by decide +kernel
theorem dX6_bears_19 : decode cX6_bears 19 = .ok (.iconst 1, 1) := by decide +kernel
theorem dX6_bears_20 : decode cX6_bears 20 = .ok (.goto 4, 3) := by decide +kernel
theorem dX6_bears_23 : decode cX6_bears 23 = .ok (.iconst 0, 1) := by decide +kernel
theorem dX6_bears_24 : decode cX6_bears 24 = .ok (.ireturn, 1) := by decide +kernel
set_option maxRecDepth 20000 in
theorem ggX7_init_X8_init : GoodIn wsX7_init wsX8_init := goodIn_r _ [40, 41, 2, 3, 42, 43, 44, 102, 103] (by decide +kernel) (by decide +kernel)
set_option maxRecDepth 20000 in
theorem gX7_init_X8_init_n11 : GoodIn wsX7_init (wsX8_init) := ggX7_init_X8_init
set_option maxRecDepth 20000 in
theorem ggX7_init_X3_init : GoodIn wsX7_init wsX3_init := goodIn_r _ [46, 47, 2, 3, 48, 49, 50, 51, 52, 53, 54, 55, 56, 118, 119, 120, 121, 122, 123, 124, 125] (by decide +kernel) (by decide +kernel)
set_option maxRecDepth 20000 in
theorem gX7_init_X3_init_n20 : GoodIn wsX7_init (wsX3_init) := ggX7_init_X3_init
set_option maxRecDepth 20000 in
theorem ggX7_init_X2_init : GoodIn wsX7_init wsX2_init := goodIn_r _ [58, 59, 2, 3, 60, 49, 61, 62, 63, 64, 65, 66, 67, 68, 69, 126, 127, 128, 129, 130, 131, 132, 133, 134, 135] (by decide +kernel) (by decide +kernel)
set_option maxRecDepth 20000 in
theorem gX7_init_X2_init_n27 : GoodIn wsX7_init (wsX2_init) := ggX7_init_X2_init
set_option maxRecDepth 20000 in
theorem ggX7_init_X6_init : GoodIn wsX7_init wsX6_init := goodIn_r _ [71, 72, 2, 3, 73, 74, 75, 76, 136, 137, 138, 139] (by decide +kernel) (by decide +kernel)
set_option maxRecDepth 20000 in
theorem gX7_init_X6_init_n34 : GoodIn wsX7_init (wsX6_init) := ggX7_init_X6_init
set_option maxRecDepth 20000 in
theorem ggX7_init_X0_init : GoodIn wsX7_init wsX0_init := goodIn_r _ [78, 79, 2, 3, 80, 49, 81, 82, 83, 84, 85, 86, 87, 88, 89, 140, 141, 142, 143, 144, 145, 146, 147, 148, 149] (by decide +kernel) (by decide +kernel)
set_option maxRecDepth 20000 in
theorem gX7_init_X0_init_n41 : GoodIn wsX7_init (wsX0_init) := ggX7_init_X0_init
set_option maxRecDepth 20000 in
theorem ggX7_init_X5_init : GoodIn wsX7_init wsX5_init := goodIn_r _ [91, 92, 2, 3, 93, 49, 94, 95, 96, 97, 150, 151, 152, 153, 154] (by decide +kernel) (by decide +kernel)
set_option maxRecDepth 20000 in
theorem gX7_init_X5_init_n48 : GoodIn wsX7_init (wsX5_init) := ggX7_init_X5_init
set_option maxRecDepth 20000 in
theorem ggX7_init_X10_init : GoodIn wsX7_init wsX10_init := goodIn_r _ [99, 100, 2, 3, 49, 101, 155] (by decide +kernel) (by decide +kernel)
set_option maxRecDepth 20000 in
theorem gX7_init_X10_init_n55 : GoodIn wsX7_init (wsX10_init) := ggX7_init_X10_init
theorem dX7_init_0 : decode cX7_init 0 = .ok (.aload_n 0, 1) := by decide +kernel
theorem dX7_init_1 : decode cX7_init 1 = .ok (.invokespecial 3, 3) := by decide +kernel
theorem dX7_init_4 : decode cX7_init 4 = .ok (.aload_n 0, 1) := by decide +kernel
theorem dX7_init_5 : decode cX7_init 5 = .ok (.new 9, 3) := by decide +kernel
theorem dX7_init_8 : decode cX7_init 8 = .ok (.dup, 1) := by decide +kernel
theorem dX7_init_9 : decode cX7_init 9 = .ok (.invokespecial 11, 3) := by decide +kernel
theorem dX7_init_12 : decode cX7_init 12 = .ok (.putfield 12, 3) := by decide +kernel
theorem dX7_init_15 : decode cX7_init 15 = .ok (.aload_n 0, 1) := by decide +kernel
theorem dX7_init_16 : decode cX7_init 16 = .ok (.new 18, 3) := by decide +kernel
theorem dX7_init_19 : decode cX7_init 19 = .ok (.dup, 1) := by decide +kernel
theorem dX7_init_20 : decode cX7_init 20 = .ok (.invokespecial 20, 3) := by decide +kernel
theorem dX7_init_23 : decode cX7_init 23 = .ok (.putfield 21, 3) := by decide +kernel
theorem dX7_init_26 : decode cX7_init 26 = .ok (.aload_n 0, 1) := by decide +kernel
theorem dX7_init_27 : decode cX7_init 27 = .ok (.new 25, 3) := by decide +kernel
theorem dX7_init_30 : decode cX7_init 30 = .ok (.dup, 1) := by decide +kernel
theorem dX7_init_31 : decode cX7_init 31 = .ok (.invokespecial 27, 3) := by decide +kernel
theorem dX7_init_34 : decode cX7_init 34 = .ok (.putfield 28, 3) := by decide +kernel
theorem dX7_init_37 : decode cX7_init 37 = .ok (.aload_n 0, 1) := by decide +kernel
theorem dX7_init_38 : decode cX7_init 38 = .ok (.new 32, 3) := by decide +kernel
theorem dX7_init_41 : decode cX7_init 41 = .ok (.dup, 1) := by decide +kernel
theorem dX7_init_42 : decode cX7_init 42 = .ok (.invokespecial 34, 3) := by decide +kernel
theorem dX7_init_45 : decode cX7_init 45 = .ok (.putfield 35, 3) := by decide +kernel
theorem dX7_init_48 : decode cX7_init 48 = .ok (.aload_n 0, 1) := by decide +kernel
theorem dX7_init_49 : decode cX7_init 49 = .ok (.new 39, 3) := by decide +kernel
theorem dX7_init_52 : decode cX7_init 52 = .ok (.dup, 1) := by decide +kernel
theorem dX7_init_53 : decode cX7_init 53 = .ok (.invokespecial 41, 3) := by decide +kernel
theorem dX7_init_56 : decode cX7_init 56 = .ok (.putfield 42, 3) := by decide +kernel
theorem dX7_init_59 : decode cX7_init 59 = .ok (.aload_n 0, 1) := by decide +kernel
theorem dX7_init_60 : decode cX7_init 60 = .ok (.new 46, 3) := by decide +kernel
theorem dX7_init_63 : decode cX7_init 63 = .ok (.dup, 1) := by decide +kernel
theorem dX7_init_64 : decode cX7_init 64 = .ok (.invokespecial 48, 3) := by decide +kernel
theorem dX7_init_67 : decode cX7_init 67 = .ok (.putfield 49, 3) := by decide +kernel
theorem dX7_init_70 : decode cX7_init 70 = .ok (.aload_n 0, 1) := by decide +kernel
theorem dX7_init_71 : decode cX7_init 71 = .ok (.new 53, 3) := by decide +kernel
theorem dX7_init_74 : decode cX7_init 74 = .ok (.dup, 1) := by decide +kernel
theorem dX7_init_75 : decode cX7_init 75 = .ok (.invokespecial 55, 3) := by decide +kernel
theorem dX7_init_78 : decode cX7_init 78 = .ok (.putfield 56, 3) := by decide +kernel
theorem dX7_init_81 : decode cX7_init 81 = .ok (.aload_n 0, 1) := by decide +kernel
theorem dX7_init_82 : decode cX7_init 82 = .ok (.iconst 0, 1) := by decide +kernel
theorem dX7_init_83 : decode cX7_init 83 = .ok (.putfield 60, 3) := by decide +kernel
theorem dX7_init_86 : decode cX7_init 86 = .ok (.aload_n 0, 1) := by decide +kernel
theorem dX7_init_87 : decode cX7_init 87 = .ok (.iconst (-1), 1) := by decide +kernel
theorem dX7_init_88 : decode cX7_init 88 = .ok (.putfield 64, 3) := by decide +kernel
theorem dX7_init_91 : decode cX7_init 91 = .ok (.aload_n 0, 1) := by decide +kernel
theorem dX7_init_92 : decode cX7_init 92 = .ok (.iconst 0, 1) := by decide +kernel
theorem dX7_init_93 : decode cX7_init 93 = .ok (.putfield 67, 3) := by decide +kernel
theorem dX7_init_96 : decode cX7_init 96 = .ok (.aload_n 0, 1) := by decide +kernel
theorem dX7_init_97 : decode cX7_init 97 = .ok (.iconst 0, 1) := by decide +kernel
theorem dX7_init_98 : decode cX7_init 98 = .ok (.putfield 70, 3) := by decide +kernel
theorem dX7_init_101 : decode cX7_init 101 = .ok (.aload_n 0, 1) := by decide +kernel
theorem dX7_init_102 : decode cX7_init 102 = .ok (.iconst 0, 1) := by decide +kernel
theorem dX7_init_103 : decode cX7_init 103 = .ok (.putfield 74, 3) := by decide +kernel
theorem dX7_init_106 : decode cX7_init 106 = .ok (.aload_n 0, 1) := by decide +kernel
theorem dX7_init_107 : decode cX7_init 107 = .ok (.iconst 0, 1) := by decide +kernel
theorem dX7_init_108 : decode cX7_init 108 = .ok (.putfield 77, 3) := by decide +kernel
theorem dX7_init_111 : decode cX7_init 111 = .ok (.aload_n 0, 1) := by decide +kernel
theorem dX7_init_112 : decode cX7_init 112 = .ok (.iconst 0, 1) := by decide +kernel
theorem dX7_init_113 : decode cX7_init 113 = .ok (.putfield 80, 3) := by decide +kernel
theorem dX7_init_116 : decode cX7_init 116 = .ok (.return_, 1) := by decide +kernel
set_option maxRecDepth 20000 in
theorem ggX7_copyFrom_X8_copyFrom : GoodIn wsX7_copyFrom wsX8_copyFrom := goodIn_r _ [19, 20, 21, 22, 23, 24, 25, 114, 115] (by decide +kernel) (by decide +kernel)
set_option maxRecDepth 20000 in
theorem gX7_copyFrom_X8_copyFrom : GoodIn wsX7_copyFrom (wsV RX7 83 RX8 yX8_copyFrom wsX8_copyFrom) := goodIn_app (goodIn_of _ (by decide +kernel)) ggX7_copyFrom_X8_copyFrom
set_option maxRecDepth 20000 in
theorem ggX7_copyFrom_X3_copyFrom : GoodIn wsX7_copyFrom wsX3_copyFrom := goodIn_r _ [30, 31, 32, 33, 34, 35, 36, 37, 38, 39, 40, 41, 42, 43, 44, 45, 46, 23, 24, 25, 116, 117, 118, 119, 120, 121, 122, 123] (by decide +kernel) (by decide +kernel)
set_option maxRecDepth 20000 in
theorem gX7_copyFrom_X3_copyFrom : GoodIn wsX7_copyFrom (wsV RX7 87 RX3 yX3_copyFrom wsX3_copyFrom) := goodIn_app (goodIn_of _ (by decide +kernel)) ggX7_copyFrom_X3_copyFrom
set_option maxRecDepth 20000 in
theorem ggX7_copyFrom_X2_copyFrom : GoodIn wsX7_copyFrom wsX2_copyFrom := goodIn_r _ [51, 52, 53, 54, 55, 56, 57, 58, 59, 39, 40, 41, 42, 43, 44, 45, 46, 23, 24, 25, 124, 125, 126, 127, 128, 129, 130, 131, 132, 133] (by decide +kernel) (by decide +kernel)
set_option maxRecDepth 20000 in
theorem gX7_copyFrom_X2_copyFrom : GoodIn wsX7_copyFrom (wsV RX7 90 RX2 yX2_copyFrom wsX2_copyFrom) := goodIn_app (goodIn_of _ (by decide +kernel)) ggX7_copyFrom_X2_copyFrom
set_option maxRecDepth 20000 in
theorem ggX7_copyFrom_X6_copyFrom : GoodIn wsX7_copyFrom wsX6_copyFrom := goodIn_r _ [64, 65, 66, 67, 68, 134, 135, 136, 137] (by decide +kernel) (by decide +kernel)
set_option maxRecDepth 20000 in
theorem gX7_copyFrom_X6_copyFrom : GoodIn wsX7_copyFrom (wsV RX7 93 RX6 yX6_copyFrom wsX6_copyFrom) := goodIn_app (goodIn_of _ (by decide +kernel)) ggX7_copyFrom_X6_copyFrom
set_option maxRecDepth 20000 in
theorem ggX7_copyFrom_X0_copyFrom : GoodIn wsX7_copyFrom wsX0_copyFrom := goodIn_r _ [73, 74, 75, 76, 77, 78, 79, 80, 81, 82, 83, 39, 40, 41, 42, 43, 44, 45, 46, 23, 24, 25, 138, 139, 140, 141, 142, 143, 144, 145, 146, 147] (by decide +kernel) (by decide +kernel)
set_option maxRecDepth 20000 in
theorem gX7_copyFrom_X0_copyFrom : GoodIn wsX7_copyFrom (wsV RX7 96 RX0 yX0_copyFrom wsX0_copyFrom) := goodIn_app (goodIn_of _ (by decide +kernel)) ggX7_copyFrom_X0_copyFrom
set_option maxRecDepth 20000 in
theorem ggX7_copyFrom_X5_copyFrom : GoodIn wsX7_copyFrom wsX5_copyFrom := goodIn_r _ [88, 89, 90, 91, 92, 93, 39, 40, 41, 42, 43, 44, 45, 46, 23, 24, 25, 148, 149, 150, 151, 152] (by decide +kernel) (by decide +kernel)
set_option maxRecDepth 20000 in
theorem gX7_copyFrom_X5_copyFrom : GoodIn wsX7_copyFrom (wsV RX7 99 RX5 yX5_copyFrom wsX5_copyFrom) := goodIn_app (goodIn_of _ (by decide +kernel)) ggX7_copyFrom_X5_copyFrom
set_option maxRecDepth 20000 in
theorem ggX7_copyFrom_X10_copyFrom : GoodIn wsX7_copyFrom wsX10_copyFrom := goodIn_r _ [98, 99, 39, 40, 41, 42, 43, 44, 45, 46, 23, 24, 25, 153] (by decide +kernel) (by decide +kernel)
set_option maxRecDepth 20000 in
theorem gX7_copyFrom_X10_copyFrom : GoodIn wsX7_copyFrom (wsV RX7 102 RX10 yX10_copyFrom wsX10_copyFrom) := goodIn_app (goodIn_of _ (by decide +kernel)) ggX7_copyFrom_X10_copyFrom
theorem dX7_copyFrom_0 : decode cX7_copyFrom 0 = .ok (.aload_n 0, 1) := by decide +kernel
theorem dX7_copyFrom_1 : decode cX7_copyFrom 1 = .ok (.getfield 12, 3) := by decide +kernel
theorem dX7_copyFrom_4 : decode cX7_copyFrom 4 = .ok (.aload_n 1, 1) := by decide +kernel
theorem dX7_copyFrom_5 : decode cX7_copyFrom 5 = .ok (.getfield 12, 3) := by decide +kernel
theorem dX7_copyFrom_8 : decode cX7_copyFrom 8 = .ok (.invokevirtual 83, 3) := by decide +kernel
theorem dX7_copyFrom_11 : decode cX7_copyFrom 11 = .ok (.aload_n 0, 1) := by decide +kernel
theorem dX7_copyFrom_12 : decode cX7_copyFrom 12 = .ok (.getfield 21, 3) := by decide +kernel
theorem dX7_copyFrom_15 : decode cX7_copyFrom 15 = .ok (.aload_n 1, 1) := by decide +kernel
theorem dX7_copyFrom_16 : decode cX7_copyFrom 16 = .ok (.getfield 21, 3) := by decide +kernel
theorem dX7_copyFrom_19 : decode cX7_copyFrom 19 = .ok (.invokevirtual 87, 3) := by decide +kernel
theorem dX7_copyFrom_22 : decode cX7_copyFrom 22 = .ok (.aload_n 0, 1) := by decide +kernel
theorem dX7_copyFrom_23 : decode cX7_copyFrom 23 = .ok (.getfield 28, 3) := by decide +kernel
theorem dX7_copyFrom_26 : decode cX7_copyFrom 26 = .ok (.aload_n 1, 1) := by decide +kernel
theorem dX7_copyFrom_27 : decode cX7_copyFrom 27 = .ok (.getfield 28, 3) := by decide +kernel
theorem dX7_copyFrom_30 : decode cX7_copyFrom 30 = .ok (.invokevirtual 90, 3) := by decide +kernel
theorem dX7_copyFrom_33 : decode cX7_copyFrom 33 = .ok (.aload_n 0, 1) := by decide +kernel
theorem dX7_copyFrom_34 : decode cX7_copyFrom 34 = .ok (.getfield 35, 3) := by decide +kernel
theorem dX7_copyFrom_37 : decode cX7_copyFrom 37 = .ok (.aload_n 1, 1) := by decide +kernel
theorem dX7_copyFrom_38 : decode cX7_copyFrom 38 = .ok (.getfield 35, 3) := by decide +kernel
theorem dX7_copyFrom_41 : decode cX7_copyFrom 41 = .ok (.invokevirtual 93, 3) := by decide +kernel
theorem dX7_copyFrom_44 : decode cX7_copyFrom 44 = .ok (.aload_n 0, 1) := by decide +kernel
theorem dX7_copyFrom_45 : decode cX7_copyFrom 45 = .ok (.getfield 42, 3) := by decide +kernel
theorem dX7_copyFrom_48 : decode cX7_copyFrom 48 = .ok (.aload_n 1, 1) := by decide +kernel
theorem dX7_copyFrom_49 : decode cX7_copyFrom 49 = .ok (.getfield 42, 3) := by decide +kernel
theorem dX7_copyFrom_52 : decode cX7_copyFrom 52 = .ok (.invokevirtual 96, 3) := by decide +kernel
theorem dX7_copyFrom_55 : decode cX7_copyFrom 55 = .ok (.aload_n 0, 1) := by decide +kernel
theorem dX7_copyFrom_56 : decode cX7_copyFrom 56 = .ok (.getfield 49, 3) := by decide +kernel
theorem dX7_copyFrom_59 : decode cX7_copyFrom 59 = .ok (.aload_n 1, 1) := by decide +kernel
theorem dX7_copyFrom_60 : decode cX7_copyFrom 60 = .ok (.getfield 49, 3) := by decide +kernel
theorem dX7_copyFrom_63 : decode cX7_copyFrom 63 = .ok (.invokevirtual 99, 3) := by decide +kernel
theorem dX7_copyFrom_66 : decode cX7_copyFrom 66 = .ok (.aload_n 0, 1) := by decide +kernel
theorem dX7_copyFrom_67 : decode cX7_copyFrom 67 = .ok (.getfield 56, 3) := by decide +kernel
theorem dX7_copyFrom_70 : decode cX7_copyFrom 70 = .ok (.aload_n 1, 1) := by decide +kernel
theorem dX7_copyFrom_71 : decode cX7_copyFrom 71 = .ok (.getfield 56, 3) := by decide +kernel
theorem dX7_copyFrom_74 : decode cX7_copyFrom 74 = .ok (.invokevirtual 102, 3) := by decide +kernel
theorem dX7_copyFrom_77 : decode cX7_copyFrom 77 = .ok (.aload_n 0, 1) := by decide +kernel
theorem dX7_copyFrom_78 : decode cX7_copyFrom 78 = .ok (.aload_n 1, 1) := by decide +kernel
theorem dX7_copyFrom_79 : decode cX7_copyFrom 79 = .ok (.getfield 60, 3) := by decide +kernel
theorem dX7_copyFrom_82 : decode cX7_copyFrom 82 = .ok (.putfield 60, 3) := by decide +kernel
theorem dX7_copyFrom_85 : decode cX7_copyFrom 85 = .ok (.aload_n 0, 1) := by decide +kernel
theorem dX7_copyFrom_86 : decode cX7_copyFrom 86 = .ok (.aload_n 1, 1) := by decide +kernel
theorem dX7_copyFrom_87 : decode cX7_copyFrom 87 = .ok (.getfield 64, 3) := by decide +kernel
theorem dX7_copyFrom_90 : decode cX7_copyFrom 90 = .ok (.putfield 64, 3) := by decide +kernel
theorem dX7_copyFrom_93 : decode cX7_copyFrom 93 = .ok (.aload_n 0, 1) := by decide +kernel
theorem dX7_copyFrom_94 : decode cX7_copyFrom 94 = .ok (.aload_n 1, 1) := by decide +kernel
theorem dX7_copyFrom_95 : decode cX7_copyFrom 95 = .ok (.getfield 67, 3) := by decide +kernel
theorem dX7_copyFrom_98 : decode cX7_copyFrom 98 = .ok (.putfield 67, 3) := by decide +kernel
theorem dX7_copyFrom_101 : decode cX7_copyFrom 101 = .ok (.aload_n 0, 1) := by decide +kernel
theorem dX7_copyFrom_102 : decode cX7_copyFrom 102 = .ok (.aload_n 1, 1) := by decide +kernel
theorem dX7_copyFrom_103 : decode cX7_copyFrom 103 = .ok (.getfield 70, 3) := by decide +kernel
theorem dX7_copyFrom_106 : decode cX7_copyFrom 106 = .ok (.putfield 70, 3) := by decide +kernel
theorem dX7_copyFrom_109 : decode cX7_copyFrom 109 = .ok (.aload_n 0, 1) := by decide +kernel
theorem dX7_copyFrom_110 : decode cX7_copyFrom 110 = .ok (.aload_n 1, 1) := by decide +kernel
theorem dX7_copyFrom_111 : decode cX7_copyFrom 111 = .ok (.getfield 74, 3) := by decide +kernel
theorem dX7_copyFrom_114 : decode cX7_copyFrom 114 = .ok (.putfield 74, 3) := by decide +kernel
theorem dX7_copyFrom_117 : decode cX7_copyFrom 117 = .ok (.aload_n 0, 1) := by decide +kernel
theorem dX7_copyFrom_118 : decode cX7_copyFrom 118 = .ok (.aload_n 1, 1) := by decide +kernel
theorem dX7_copyFrom_119 : decode cX7_copyFrom 119 = .ok (.getfield 77, 3) := by decide +kernel
theorem dX7_copyFrom_122 : decode cX7_copyFrom 122 = .ok (.putfield 77, 3) := by decide +kernel
theorem dX7_copyFrom_125 : decode cX7_copyFrom 125 = .ok (.aload_n 0, 1) := by decide +kernel
theorem dX7_copyFrom_126 : decode cX7_copyFrom 126 = .ok (.aload_n 1, 1) := by decide +kernel
theorem dX7_copyFrom_127 : decode cX7_copyFrom 127 = .ok (.getfield 80, 3) := by decide +kernel
theorem dX7_copyFrom_130 : decode cX7_copyFrom 130 = .ok (.putfield 80, 3) := by decide +kernel
theorem dX7_copyFrom_133 : decode cX7_copyFrom 133 = .ok (.return_, 1) := by decide +kernel
set_option maxRecDepth 20000 in
theorem ggX7_shareOf_X3_shareFor : GoodIn wsX7_shareOf wsX3_shareFor := goodIn_r _ [9, 10, 11, 12, 13, 14, 15, 8, 16, 17, 18, 19, 20, 21, 22, 23, 24, 25, 26, 27, 28, 29, 30, 45, 46, 47, 48, 49, 50, 51, 52, 53, 54, 55, 56, 57, 58, 59, 60, 61, 62] (by decide +kernel) (by decide +kernel)
set_option maxRecDepth 20000 in
theorem gX7_shareOf_X3_shareFor : GoodIn wsX7_shareOf (wsV RX7 105 RX3 yX3_shareFor wsX3_shareFor) := goodIn_app (goodIn_of _ (by decide +kernel)) ggX7_shareOf_X3_shareFor
theorem dX7_shareOf_0 : decode cX7_shareOf 0 = .ok (.aload_n 0, 1) := by decide +kernel
theorem dX7_shareOf_1 : decode cX7_shareOf 1 = .ok (.getfield 21, 3) := by decide +kernel
theorem dX7_shareOf_4 : decode cX7_shareOf 4 = .ok (.aload_n 0, 1) := by decide +kernel
theorem dX7_shareOf_5 : decode cX7_shareOf 5 = .ok (.getfield 28, 3) := by decide +kernel
theorem dX7_shareOf_8 : decode cX7_shareOf 8 = .ok (.iload_n 1, 1) := by decide +kernel
theorem dX7_shareOf_9 : decode cX7_shareOf 9 = .ok (.aload_n 0, 1) := by decide +kernel
theorem dX7_shareOf_10 : decode cX7_shareOf 10 = .ok (.getfield 67, 3) := by decide +kernel
theorem dX7_shareOf_13 : decode cX7_shareOf 13 = .ok (.aload_n 0, 1) := by decide +kernel
theorem dX7_shareOf_14 : decode cX7_shareOf 14 = .ok (.getfield 77, 3) := by decide +kernel
theorem dX7_shareOf_17 : decode cX7_shareOf 17 = .ok (.invokevirtual 105, 3) := by decide +kernel
theorem dX7_shareOf_20 : decode cX7_shareOf 20 = .ok (.ireturn, 1) := by decide +kernel
set_option maxRecDepth 20000 in
theorem ggX7_freeSlips_X0_roomOn : GoodIn wsX7_freeSlips wsX0_roomOn := goodIn_r _ [8, 9, 10, 11, 12, 13, 7, 14, 15, 16, 41, 42, 43, 44, 45, 46, 47, 48, 49, 50] (by decide +kernel) (by decide +kernel)
set_option maxRecDepth 20000 in
theorem gX7_freeSlips_X0_roomOn : GoodIn wsX7_freeSlips (wsV RX7 113 RX0 yX0_roomOn wsX0_roomOn) := goodIn_app (goodIn_of _ (by decide +kernel)) ggX7_freeSlips_X0_roomOn
theorem dX7_freeSlips_0 : decode cX7_freeSlips 0 = .ok (.aload_n 0, 1) := by decide +kernel
theorem dX7_freeSlips_1 : decode cX7_freeSlips 1 = .ok (.getfield 28, 3) := by decide +kernel
theorem dX7_freeSlips_4 : decode cX7_freeSlips 4 = .ok (.getfield 109, 3) := by decide +kernel
theorem dX7_freeSlips_7 : decode cX7_freeSlips 7 = .ok (.iload_n 1, 1) := by decide +kernel
theorem dX7_freeSlips_8 : decode cX7_freeSlips 8 = .ok (.iaload, 1) := by decide +kernel
theorem dX7_freeSlips_9 : decode cX7_freeSlips 9 = .ok (.aload_n 0, 1) := by decide +kernel
theorem dX7_freeSlips_10 : decode cX7_freeSlips 10 = .ok (.getfield 42, 3) := by decide +kernel
theorem dX7_freeSlips_13 : decode cX7_freeSlips 13 = .ok (.iload_n 1, 1) := by decide +kernel
theorem dX7_freeSlips_14 : decode cX7_freeSlips 14 = .ok (.invokevirtual 113, 3) := by decide +kernel
theorem dX7_freeSlips_17 : decode cX7_freeSlips 17 = .ok (.isub, 1) := by decide +kernel
theorem dX7_freeSlips_18 : decode cX7_freeSlips 18 = .ok (.ireturn, 1) := by decide +kernel
set_option maxRecDepth 20000 in
theorem ggX7_shareOut_X7_shareOf : GoodIn wsX7_shareOut wsX7_shareOf := goodIn_r _ [9, 10, 1, 11, 12, 13, 14, 15, 16, 17, 18, 19, 20, 21, 22, 23, 24, 25, 26, 27, 28, 29, 30, 31, 32, 33, 34, 35, 36, 37, 38, 64, 65, 66, 67, 68, 69, 70, 71, 72, 73, 74, 75, 76, 77, 88, 89, 90, 91, 92, 93, 94, 95, 78, 79, 80, 81, 82, 83, 84, 85, 86, 87] (by decide +kernel) (by decide +kernel)
set_option maxRecDepth 20000 in
theorem gX7_shareOut_X7_shareOf : GoodIn wsX7_shareOut (wsV RX7 123 RX7 yX7_shareOf wsX7_shareOf) := goodIn_app (goodIn_of _ (by decide +kernel)) ggX7_shareOut_X7_shareOf
set_option maxRecDepth 20000 in
theorem ggX7_shareOut_X2_takeSlips : GoodIn wsX7_shareOut wsX2_takeSlips := goodIn_r _ [43, 44, 45, 46, 47, 48, 49, 50, 51, 42, 52, 53, 54, 55, 56, 57, 58, 59, 60, 61, 62, 63, 78, 79, 80, 81, 82, 83, 84, 85, 86, 87] (by decide +kernel) (by decide +kernel)
set_option maxRecDepth 20000 in
theorem gX7_shareOut_X2_takeSlips : GoodIn wsX7_shareOut (wsV RX7 126 RX2 yX2_takeSlips wsX2_takeSlips) := goodIn_app (goodIn_of _ (by decide +kernel)) ggX7_shareOut_X2_takeSlips
theorem dX7_shareOut_0 : decode cX7_shareOut 0 = .ok (.iconst 0, 1) := by decide +kernel
theorem dX7_shareOut_1 : decode cX7_shareOut 1 = .ok (.istore_n 2, 1) := by decide +kernel
theorem dX7_shareOut_2 : decode cX7_shareOut 2 = .ok (.iconst 0, 1) := by decide +kernel
theorem dX7_shareOut_3 : decode cX7_shareOut 3 = .ok (.istore_n 3, 1) := by decide +kernel
theorem dX7_shareOut_4 : decode cX7_shareOut 4 = .ok (.iload_n 3, 1) := by decide +kernel
theorem dX7_shareOut_5 : decode cX7_shareOut 5 = .ok (.aload_n 0, 1) := by decide +kernel
theorem dX7_shareOut_6 : decode cX7_shareOut 6 = .ok (.getfield 28, 3) := by decide +kernel
theorem dX7_shareOut_9 : decode cX7_shareOut 9 = .ok (.getfield 117, 3) := by decide +kernel
theorem dX7_shareOut_12 : decode cX7_shareOut 12 = .ok (.if_icmp .ge 35, 3) := by decide +kernel
theorem dX7_shareOut_15 : decode cX7_shareOut 15 = .ok (.aload_n 0, 1) := by decide +kernel
theorem dX7_shareOut_16 : decode cX7_shareOut 16 = .ok (.getfield 28, 3) := by decide +kernel
theorem dX7_shareOut_19 : decode cX7_shareOut 19 = .ok (.getfield 120, 3) := by decide +kernel
theorem dX7_shareOut_22 : decode cX7_shareOut 22 = .ok (.iload_n 3, 1) := by decide +kernel
theorem dX7_shareOut_23 : decode cX7_shareOut 23 = .ok (.aload_n 0, 1) := by decide +kernel
theorem dX7_shareOut_24 : decode cX7_shareOut 24 = .ok (.iload_n 3, 1) := by decide +kernel
theorem dX7_shareOut_25 : decode cX7_shareOut 25 = .ok (.invokevirtual 123, 3) := by decide +kernel
theorem dX7_shareOut_28 : decode cX7_shareOut 28 = .ok (.iastore, 1) := by decide +kernel
theorem dX7_shareOut_29 : decode cX7_shareOut 29 = .ok (.iload_n 2, 1) := by decide +kernel
theorem dX7_shareOut_30 : decode cX7_shareOut 30 = .ok (.aload_n 0, 1) := by decide +kernel
theorem dX7_shareOut_31 : decode cX7_shareOut 31 = .ok (.getfield 28, 3) := by decide +kernel
theorem dX7_shareOut_34 : decode cX7_shareOut 34 = .ok (.getfield 120, 3) := by decide +kernel
theorem dX7_shareOut_37 : decode cX7_shareOut 37 = .ok (.iload_n 3, 1) := by decide +kernel
theorem dX7_shareOut_38 : decode cX7_shareOut 38 = .ok (.iaload, 1) := by decide +kernel
theorem dX7_shareOut_39 : decode cX7_shareOut 39 = .ok (.iadd, 1) := by decide +kernel
theorem dX7_shareOut_40 : decode cX7_shareOut 40 = .ok (.istore_n 2, 1) := by decide +kernel
theorem dX7_shareOut_41 : decode cX7_shareOut 41 = .ok (.iinc 3 1, 3) := by decide +kernel
theorem dX7_shareOut_44 : decode cX7_shareOut 44 = .ok (.goto (-40), 3) := by decide +kernel
theorem dX7_shareOut_47 : decode cX7_shareOut 47 = .ok (.iload_n 2, 1) := by decide +kernel
theorem dX7_shareOut_48 : decode cX7_shareOut 48 = .ok (.ifCond .ne 5, 3) := by decide +kernel
theorem dX7_shareOut_51 : decode cX7_shareOut 51 = .ok (.iconst 0, 1) := by decide +kernel
theorem dX7_shareOut_52 : decode cX7_shareOut 52 = .ok (.ireturn, 1) := by decide +kernel
theorem dX7_shareOut_53 : decode cX7_shareOut 53 = .ok (.aload_n 0, 1) := by decide +kernel
theorem dX7_shareOut_54 : decode cX7_shareOut 54 = .ok (.getfield 28, 3) := by decide +kernel
theorem dX7_shareOut_57 : decode cX7_shareOut 57 = .ok (.iload_n 1, 1) := by decide +kernel
theorem dX7_shareOut_58 : decode cX7_shareOut 58 = .ok (.iload_n 2, 1) := by decide +kernel
theorem dX7_shareOut_59 : decode cX7_shareOut 59 = .ok (.invokevirtual 126, 3) := by decide +kernel
theorem dX7_shareOut_62 : decode cX7_shareOut 62 = .ok (.aload_n 0, 1) := by decide +kernel
theorem dX7_shareOut_63 : decode cX7_shareOut 63 = .ok (.iload_n 1, 1) := by decide +kernel
theorem dX7_shareOut_64 : decode cX7_shareOut 64 = .ok (.putfield 74, 3) := by decide +kernel
theorem dX7_shareOut_67 : decode cX7_shareOut 67 = .ok (.iconst 1, 1) := by decide +kernel
theorem dX7_shareOut_68 : decode cX7_shareOut 68 = .ok (.ireturn, 1) := by decide +kernel
set_option maxRecDepth 20000 in
theorem ggX7_layBale_X0_waits : GoodIn wsX7_layBale wsX0_waits := goodIn_r _ [9, 10, 11, 12, 13, 8, 14, 15, 16, 17, 18, 56, 57, 58, 59, 60, 61, 62, 63, 64, 65] (by decide +kernel) (by decide +kernel)
set_option maxRecDepth 20000 in
theorem gX7_layBale_X0_waits : GoodIn wsX7_layBale (wsV RX7 130 RX0 yX0_waits wsX0_waits) := goodIn_app (goodIn_of _ (by decide +kernel)) ggX7_layBale_X0_waits
set_option maxRecDepth 20000 in
theorem ggX7_layBale_X2_has : GoodIn wsX7_layBale wsX2_has := goodIn_r _ [23, 24, 16, 17, 18, 66, 67, 68, 69, 70, 71, 72, 73, 74, 75] (by decide +kernel) (by decide +kernel)
set_option maxRecDepth 20000 in
theorem gX7_layBale_X2_has : GoodIn wsX7_layBale (wsV RX7 134 RX2 yX2_has wsX2_has) := goodIn_app (goodIn_of _ (by decide +kernel)) ggX7_layBale_X2_has
set_option maxRecDepth 20000 in
theorem ggX7_layBale_X0_room : GoodIn wsX7_layBale wsX0_room := goodIn_r _ [28, 29, 30, 56, 57, 58, 59, 60, 61, 62, 63, 64, 65] (by decide +kernel) (by decide +kernel)
set_option maxRecDepth 20000 in
theorem gX7_layBale_X0_room : GoodIn wsX7_layBale (wsV RX7 137 RX0 yX0_room wsX0_room) := goodIn_app (goodIn_of _ (by decide +kernel)) ggX7_layBale_X0_room
set_option maxRecDepth 20000 in
theorem ggX7_layBale_X7_freeSlips : GoodIn wsX7_layBale wsX7_freeSlips := goodIn_r _ [35, 2, 36, 1, 37, 38, 39, 8, 40, 15, 10, 41, 26, 27, 28, 29, 30, 42, 43, 44, 45, 46, 47, 48, 49, 50, 51, 52, 53, 54, 55, 66, 67, 68, 69, 70, 71, 72, 73, 74, 75, 56, 57, 58, 59, 60, 61, 62, 63, 64, 65] (by decide +kernel) (by decide +kernel)
set_option maxRecDepth 20000 in
theorem gX7_layBale_X7_freeSlips : GoodIn wsX7_layBale (wsV RX7 140 RX7 yX7_freeSlips wsX7_freeSlips) := goodIn_app (goodIn_of _ (by decide +kernel)) ggX7_layBale_X7_freeSlips
theorem dX7_layBale_0 : decode cX7_layBale 0 = .ok (.aload_n 0, 1) := by decide +kernel
theorem dX7_layBale_1 : decode cX7_layBale 1 = .ok (.getfield 42, 3) := by decide +kernel
theorem dX7_layBale_4 : decode cX7_layBale 4 = .ok (.iload_n 1, 1) := by decide +kernel
theorem dX7_layBale_5 : decode cX7_layBale 5 = .ok (.invokevirtual 130, 3) := by decide +kernel
theorem dX7_layBale_8 : decode cX7_layBale 8 = .ok (.ifCond .eq 14, 3) := by decide +kernel
theorem dX7_layBale_11 : decode cX7_layBale 11 = .ok (.aload_n 0, 1) := by decide +kernel
theorem dX7_layBale_12 : decode cX7_layBale 12 = .ok (.getfield 28, 3) := by decide +kernel
theorem dX7_layBale_15 : decode cX7_layBale 15 = .ok (.iload_n 2, 1) := by decide +kernel
theorem dX7_layBale_16 : decode cX7_layBale 16 = .ok (.invokevirtual 134, 3) := by decide +kernel
theorem dX7_layBale_19 : decode cX7_layBale 19 = .ok (.ifCond .ne 5, 3) := by decide +kernel
theorem dX7_layBale_22 : decode cX7_layBale 22 = .ok (.iconst 0, 1) := by decide +kernel
theorem dX7_layBale_23 : decode cX7_layBale 23 = .ok (.ireturn, 1) := by decide +kernel
theorem dX7_layBale_24 : decode cX7_layBale 24 = .ok (.aload_n 0, 1) := by decide +kernel
theorem dX7_layBale_25 : decode cX7_layBale 25 = .ok (.getfield 42, 3) := by decide +kernel
theorem dX7_layBale_28 : decode cX7_layBale 28 = .ok (.iload_n 1, 1) := by decide +kernel
theorem dX7_layBale_29 : decode cX7_layBale 29 = .ok (.invokevirtual 137, 3) := by decide +kernel
theorem dX7_layBale_32 : decode cX7_layBale 32 = .ok (.aload_n 0, 1) := by decide +kernel
theorem dX7_layBale_33 : decode cX7_layBale 33 = .ok (.iload_n 2, 1) := by decide +kernel
theorem dX7_layBale_34 : decode cX7_layBale 34 = .ok (.invokevirtual 140, 3) := by decide +kernel
theorem dX7_layBale_37 : decode cX7_layBale 37 = .ok (.if_icmp .le 5, 3) := by decide +kernel
theorem dX7_layBale_40 : decode cX7_layBale 40 = .ok (.iconst 0, 1) := by decide +kernel
theorem dX7_layBale_41 : decode cX7_layBale 41 = .ok (.ireturn, 1) := by decide +kernel
theorem dX7_layBale_42 : decode cX7_layBale 42 = .ok (.aload_n 0, 1) := by decide +kernel
theorem dX7_layBale_43 : decode cX7_layBale 43 = .ok (.getfield 42, 3) := by decide +kernel
theorem dX7_layBale_46 : decode cX7_layBale 46 = .ok (.getfield 143, 3) := by decide +kernel
theorem dX7_layBale_49 : decode cX7_layBale 49 = .ok (.iload_n 1, 1) := by decide +kernel
theorem dX7_layBale_50 : decode cX7_layBale 50 = .ok (.iload_n 2, 1) := by decide +kernel
theorem dX7_layBale_51 : decode cX7_layBale 51 = .ok (.iastore, 1) := by decide +kernel
theorem dX7_layBale_52 : decode cX7_layBale 52 = .ok (.aload_n 0, 1) := by decide +kernel
theorem dX7_layBale_53 : decode cX7_layBale 53 = .ok (.getfield 42, 3) := by decide +kernel
theorem dX7_layBale_56 : decode cX7_layBale 56 = .ok (.getfield 146, 3) := by decide +kernel
theorem dX7_layBale_59 : decode cX7_layBale 59 = .ok (.iload_n 1, 1) := by decide +kernel
theorem dX7_layBale_60 : decode cX7_layBale 60 = .ok (.iload_n 3, 1) := by decide +kernel
theorem dX7_layBale_61 : decode cX7_layBale 61 = .ok (.iastore, 1) := by decide +kernel
theorem dX7_layBale_62 : decode cX7_layBale 62 = .ok (.iconst 1, 1) := by decide +kernel
theorem dX7_layBale_63 : decode cX7_layBale 63 = .ok (.ireturn, 1) := by decide +kernel
set_option maxRecDepth 20000 in
theorem ggX7_closeYear_X10_open : GoodIn wsX7_closeYear wsX10_open := goodIn_r _ [14, 15, 16, 17, 18, 13, 19, 20, 21, 22, 23, 24, 25, 26, 27, 28, 29, 30, 31, 32, 33, 34, 35, 36, 37, 38, 39, 40, 41, 42, 43, 44, 45, 46, 47, 48, 49, 50, 51, 52, 53, 54, 55, 56, 57, 58, 59, 60, 61, 62, 63, 64, 65, 154, 155, 156, 157, 158, 159, 160, 161, 162, 163, 164] (by decide +kernel) (by decide +kernel)
set_option maxRecDepth 20000 in
theorem gX7_closeYear_X10_open : GoodIn wsX7_closeYear (wsV RX7 149 RX10 yX10_open wsX10_open) := goodIn_app (goodIn_of _ (by decide +kernel)) ggX7_closeYear_X10_open
set_option maxRecDepth 20000 in
theorem ggX7_closeYear_X10_put : GoodIn wsX7_closeYear wsX10_put := goodIn_r _ [19, 20, 21, 22, 13, 23, 24, 25, 26, 164] (by decide +kernel) (by decide +kernel)
set_option maxRecDepth 20000 in
theorem gX7_closeYear_X10_put : GoodIn wsX7_closeYear (wsV RX7 153 RX10 yX10_put wsX10_put) := goodIn_app (goodIn_of _ (by decide +kernel)) ggX7_closeYear_X10_put
set_option maxRecDepth 20000 in
theorem ggX7_closeYear_X7_landBales : GoodIn wsX7_closeYear wsX7_landBales := goodIn_r _ [71, 4, 1, 2, 72, 73, 74, 75, 30, 76, 32, 46, 47, 48, 49, 37, 38, 39, 40, 41, 24, 25, 26, 77, 78, 79, 80, 81, 55, 66, 17, 18, 13, 19, 20, 21, 22, 23, 82, 83, 84, 85, 70, 86, 87, 88, 89, 90, 91, 92, 93, 94, 95, 6, 96, 97, 98, 99, 51, 52, 53, 54, 100, 101, 102, 103, 104, 135, 136, 137, 138, 139, 140, 141, 142, 143, 144, 145, 146, 147, 148, 154, 155, 156, 157, 158, 159, 160, 161, 162, 163, 164, 165, 166, 167, 168, 169, 170, 171, 172, 173, 174, 175, 176, 177, 178] (by decide +kernel) (by decide +kernel)
set_option maxRecDepth 20000 in
theorem gX7_closeYear_X7_landBales : GoodIn wsX7_closeYear (wsV RX7 157 RX7 yX7_landBales wsX7_landBales) := goodIn_app (goodIn_of _ (by decide +kernel)) ggX7_closeYear_X7_landBales
set_option maxRecDepth 20000 in
theorem ggX7_closeYear_X7_repayLoans : GoodIn wsX7_closeYear wsX7_repayLoans := goodIn_r _ [108, 7, 8, 6, 109, 110, 111, 112, 113, 114, 115, 116, 117, 118, 119, 120, 121, 122, 123, 135, 136, 137, 138, 139, 140, 141, 142, 143, 144, 145, 146, 147, 148, 149, 150, 151, 152, 153, 169, 170, 171, 172, 173, 174, 175, 176, 177, 178] (by decide +kernel) (by decide +kernel)
set_option maxRecDepth 20000 in
theorem gX7_closeYear_X7_repayLoans : GoodIn wsX7_closeYear (wsV RX7 160 RX7 yX7_repayLoans wsX7_repayLoans) := goodIn_app (goodIn_of _ (by decide +kernel)) ggX7_closeYear_X7_repayLoans
set_option maxRecDepth 20000 in
theorem ggX7_closeYear_X2_dropSlips : GoodIn wsX7_closeYear wsX2_dropSlips := goodIn_r _ [127, 128, 129, 169, 170, 171, 172, 173, 174, 175, 176, 177, 178] (by decide +kernel) (by decide +kernel)
set_option maxRecDepth 20000 in
theorem gX7_closeYear_X2_dropSlips : GoodIn wsX7_closeYear (wsV RX7 163 RX2 yX2_dropSlips wsX2_dropSlips) := goodIn_app (goodIn_of _ (by decide +kernel)) ggX7_closeYear_X2_dropSlips
set_option maxRecDepth 20000 in
theorem ggX7_closeYear_X0_dropAll : GoodIn wsX7_closeYear wsX0_dropAll := goodIn_r _ [133, 32, 134, 154, 155, 156, 157, 158, 159, 160, 161, 162, 163] (by decide +kernel) (by decide +kernel)
set_option maxRecDepth 20000 in
theorem gX7_closeYear_X0_dropAll : GoodIn wsX7_closeYear (wsV RX7 166 RX0 yX0_dropAll wsX0_dropAll) := goodIn_app (goodIn_of _ (by decide +kernel)) ggX7_closeYear_X0_dropAll
theorem dX7_closeYear_0 : decode cX7_closeYear 0 = .ok (.aload_n 0, 1) := by decide +kernel
theorem dX7_closeYear_1 : decode cX7_closeYear 1 = .ok (.getfield 56, 3) := by decide +kernel
theorem dX7_closeYear_4 : decode cX7_closeYear 4 = .ok (.aload_n 0, 1) := by decide +kernel
theorem dX7_closeYear_5 : decode cX7_closeYear 5 = .ok (.getfield 67, 3) := by decide +kernel
theorem dX7_closeYear_8 : decode cX7_closeYear 8 = .ok (.aload_n 0, 1) := by decide +kernel
theorem dX7_closeYear_9 : decode cX7_closeYear 9 = .ok (.getfield 74, 3) := by decide +kernel
theorem dX7_closeYear_12 : decode cX7_closeYear 12 = .ok (.aload_n 0, 1) := by decide +kernel
theorem dX7_closeYear_13 : decode cX7_closeYear 13 = .ok (.getfield 42, 3) := by decide +kernel
theorem dX7_closeYear_16 : decode cX7_closeYear 16 = .ok (.invokevirtual 149, 3) := by decide +kernel
theorem dX7_closeYear_19 : decode cX7_closeYear 19 = .ok (.iload_n 1, 1) := by decide +kernel
theorem dX7_closeYear_20 : decode cX7_closeYear 20 = .ok (.ifCond .eq 30, 3) := by decide +kernel
theorem dX7_closeYear_23 : decode cX7_closeYear 23 = .ok (.aload_n 0, 1) := by decide +kernel
theorem dX7_closeYear_24 : decode cX7_closeYear 24 = .ok (.dup, 1) := by decide +kernel
theorem dX7_closeYear_25 : decode cX7_closeYear 25 = .ok (.getfield 77, 3) := by decide +kernel
theorem dX7_closeYear_28 : decode cX7_closeYear 28 = .ok (.iconst 1, 1) := by decide +kernel
theorem dX7_closeYear_29 : decode cX7_closeYear 29 = .ok (.iadd, 1) := by decide +kernel
theorem dX7_closeYear_30 : decode cX7_closeYear 30 = .ok (.putfield 77, 3) := by decide +kernel
theorem dX7_closeYear_33 : decode cX7_closeYear 33 = .ok (.aload_n 0, 1) := by decide +kernel
theorem dX7_closeYear_34 : decode cX7_closeYear 34 = .ok (.getfield 56, 3) := by decide +kernel
theorem dX7_closeYear_37 : decode cX7_closeYear 37 = .ok (.aload_n 0, 1) := by decide +kernel
theorem dX7_closeYear_38 : decode cX7_closeYear 38 = .ok (.getfield 67, 3) := by decide +kernel
theorem dX7_closeYear_41 : decode cX7_closeYear 41 = .ok (.bipush 8, 2) := by decide +kernel
theorem dX7_closeYear_43 : decode cX7_closeYear 43 = .ok (.iconst 1, 1) := by decide +kernel
theorem dX7_closeYear_44 : decode cX7_closeYear 44 = .ok (.invokevirtual 153, 3) := by decide +kernel
theorem dX7_closeYear_47 : decode cX7_closeYear 47 = .ok (.goto 11, 3) := by decide +kernel
theorem dX7_closeYear_50 : decode cX7_closeYear 50 = .ok (.aload_n 0, 1) := by decide +kernel
theorem dX7_closeYear_51 : decode cX7_closeYear 51 = .ok (.invokevirtual 157, 3) := by decide +kernel
theorem dX7_closeYear_54 : decode cX7_closeYear 54 = .ok (.aload_n 0, 1) := by decide +kernel
theorem dX7_closeYear_55 : decode cX7_closeYear 55 = .ok (.invokevirtual 160, 3) := by decide +kernel
theorem dX7_closeYear_58 : decode cX7_closeYear 58 = .ok (.aload_n 0, 1) := by decide +kernel
theorem dX7_closeYear_59 : decode cX7_closeYear 59 = .ok (.getfield 28, 3) := by decide +kernel
theorem dX7_closeYear_62 : decode cX7_closeYear 62 = .ok (.invokevirtual 163, 3) := by decide +kernel
theorem dX7_closeYear_65 : decode cX7_closeYear 65 = .ok (.aload_n 0, 1) := by decide +kernel
theorem dX7_closeYear_66 : decode cX7_closeYear 66 = .ok (.getfield 42, 3) := by decide +kernel
theorem dX7_closeYear_69 : decode cX7_closeYear 69 = .ok (.invokevirtual 166, 3) := by decide +kernel
theorem dX7_closeYear_72 : decode cX7_closeYear 72 = .ok (.aload_n 0, 1) := by decide +kernel
theorem dX7_closeYear_73 : decode cX7_closeYear 73 = .ok (.getfield 49, 3) := by decide +kernel
theorem dX7_closeYear_76 : decode cX7_closeYear 76 = .ok (.iconst 0, 1) := by decide +kernel
theorem dX7_closeYear_77 : decode cX7_closeYear 77 = .ok (.putfield 169, 3) := by decide +kernel
theorem dX7_closeYear_80 : decode cX7_closeYear 80 = .ok (.aload_n 0, 1) := by decide +kernel
theorem dX7_closeYear_81 : decode cX7_closeYear 81 = .ok (.iconst 0, 1) := by decide +kernel
theorem dX7_closeYear_82 : decode cX7_closeYear 82 = .ok (.putfield 74, 3) := by decide +kernel
theorem dX7_closeYear_85 : decode cX7_closeYear 85 = .ok (.aload_n 0, 1) := by decide +kernel
theorem dX7_closeYear_86 : decode cX7_closeYear 86 = .ok (.iconst 0, 1) := by decide +kernel
theorem dX7_closeYear_87 : decode cX7_closeYear 87 = .ok (.putfield 70, 3) := by decide +kernel
theorem dX7_closeYear_90 : decode cX7_closeYear 90 = .ok (.aload_n 0, 1) := by decide +kernel
theorem dX7_closeYear_91 : decode cX7_closeYear 91 = .ok (.dup, 1) := by decide +kernel
theorem dX7_closeYear_92 : decode cX7_closeYear 92 = .ok (.getfield 67, 3) := by decide +kernel
theorem dX7_closeYear_95 : decode cX7_closeYear 95 = .ok (.iconst 1, 1) := by decide +kernel
theorem dX7_closeYear_96 : decode cX7_closeYear 96 = .ok (.iadd, 1) := by decide +kernel
theorem dX7_closeYear_97 : decode cX7_closeYear 97 = .ok (.putfield 67, 3) := by decide +kernel
theorem dX7_closeYear_100 : decode cX7_closeYear 100 = .ok (.return_, 1) := by decide +kernel
set_option maxRecDepth 20000 in
theorem ggX7_landBales_X0_ladenRoom : GoodIn wsX7_landBales wsX0_ladenRoom := goodIn_r _ [9, 10, 11, 12, 13, 8, 14, 15, 16, 17, 18, 19, 20, 21, 22, 23, 24, 25, 26, 27, 28, 81, 82, 83, 84, 85, 86, 87, 88, 89, 90] (by decide +kernel) (by decide +kernel)
set_option maxRecDepth 20000 in
theorem gX7_landBales_X0_ladenRoom : GoodIn wsX7_landBales (wsV RX7 170 RX0 yX0_ladenRoom wsX0_ladenRoom) := goodIn_app (goodIn_of _ (by decide +kernel)) ggX7_landBales_X0_ladenRoom
set_option maxRecDepth 20000 in
theorem ggX7_landBales_X10_put : GoodIn wsX7_landBales wsX10_put := goodIn_r _ [33, 34, 35, 36, 32, 37, 20, 21, 22, 91] (by decide +kernel) (by decide +kernel)
set_option maxRecDepth 20000 in
theorem gX7_landBales_X10_put : GoodIn wsX7_landBales (wsV RX7 153 RX10 yX10_put wsX10_put) := goodIn_app (goodIn_of _ (by decide +kernel)) ggX7_landBales_X10_put
set_option maxRecDepth 20000 in
theorem ggX7_landBales_X0_lies : GoodIn wsX7_landBales wsX0_lies := goodIn_r _ [14, 15, 16, 17, 18, 8, 19, 10, 20, 21, 22, 81, 82, 83, 84, 85, 86, 87, 88, 89, 90] (by decide +kernel) (by decide +kernel)
set_option maxRecDepth 20000 in
theorem gX7_landBales_X0_lies : GoodIn wsX7_landBales (wsV RX7 175 RX0 yX0_lies wsX0_lies) := goodIn_app (goodIn_of _ (by decide +kernel)) ggX7_landBales_X0_lies
set_option maxRecDepth 20000 in
theorem ggX7_landBales_X7_landBale : GoodIn wsX7_landBales wsX7_landBale := goodIn_r _ [43, 1, 44, 45, 46, 47, 48, 49, 50, 51, 52, 53, 54, 55, 56, 2, 3, 57, 58, 59, 8, 60, 61, 28, 62, 24, 25, 26, 27, 63, 64, 65, 32, 66, 34, 35, 36, 37, 20, 21, 22, 67, 68, 69, 70, 71, 72, 73, 74, 75, 76, 77, 78, 79, 80, 81, 82, 83, 84, 85, 86, 87, 88, 89, 90, 92, 93, 94, 95, 96, 97, 98, 99, 100, 101, 102, 103, 104, 105, 91] (by decide +kernel) (by decide +kernel)
set_option maxRecDepth 20000 in
theorem gX7_landBales_X7_landBale : GoodIn wsX7_landBales (wsV RX7 178 RX7 yX7_landBale wsX7_landBale) := goodIn_app (goodIn_of _ (by decide +kernel)) ggX7_landBales_X7_landBale
theorem dX7_landBales_0 : decode cX7_landBales 0 = .ok (.bipush 100, 2) := by decide +kernel
theorem dX7_landBales_2 : decode cX7_landBales 2 = .ok (.aload_n 0, 1) := by decide +kernel
theorem dX7_landBales_3 : decode cX7_landBales 3 = .ok (.getfield 42, 3) := by decide +kernel
theorem dX7_landBales_6 : decode cX7_landBales 6 = .ok (.invokevirtual 170, 3) := by decide +kernel
theorem dX7_landBales_9 : decode cX7_landBales 9 = .ok (.iadd, 1) := by decide +kernel
theorem dX7_landBales_10 : decode cX7_landBales 10 = .ok (.istore_n 1, 1) := by decide +kernel
theorem dX7_landBales_11 : decode cX7_landBales 11 = .ok (.iload_n 1, 1) := by decide +kernel
theorem dX7_landBales_12 : decode cX7_landBales 12 = .ok (.ifCond .le 11, 3) := by decide +kernel
theorem dX7_landBales_15 : decode cX7_landBales 15 = .ok (.sipush 20000, 3) := by decide +kernel
theorem dX7_landBales_18 : decode cX7_landBales 18 = .ok (.iload_n 1, 1) := by decide +kernel
theorem dX7_landBales_19 : decode cX7_landBales 19 = .ok (.idiv, 1) := by decide +kernel
theorem dX7_landBales_20 : decode cX7_landBales 20 = .ok (.goto 4, 3) := by decide +kernel
theorem dX7_landBales_23 : decode cX7_landBales 23 = .ok (.iconst 0, 1) := by decide +kernel
theorem dX7_landBales_24 : decode cX7_landBales 24 = .ok (.istore_n 2, 1) := by decide +kernel
theorem dX7_landBales_25 : decode cX7_landBales 25 = .ok (.aload_n 0, 1) := by decide +kernel
theorem dX7_landBales_26 : decode cX7_landBales 26 = .ok (.getfield 56, 3) := by decide +kernel
theorem dX7_landBales_29 : decode cX7_landBales 29 = .ok (.aload_n 0, 1) := by decide +kernel
theorem dX7_landBales_30 : decode cX7_landBales 30 = .ok (.getfield 67, 3) := by decide +kernel
theorem dX7_landBales_33 : decode cX7_landBales 33 = .ok (.iconst 4, 1) := by decide +kernel
theorem dX7_landBales_34 : decode cX7_landBales 34 = .ok (.iload_n 2, 1) := by decide +kernel
theorem dX7_landBales_35 : decode cX7_landBales 35 = .ok (.invokevirtual 153, 3) := by decide +kernel
theorem dX7_landBales_38 : decode cX7_landBales 38 = .ok (.iconst 0, 1) := by decide +kernel
theorem dX7_landBales_39 : decode cX7_landBales 39 = .ok (.istore_n 3, 1) := by decide +kernel
theorem dX7_landBales_40 : decode cX7_landBales 40 = .ok (.iload_n 3, 1) := by decide +kernel
theorem dX7_landBales_41 : decode cX7_landBales 41 = .ok (.aload_n 0, 1) := by decide +kernel
theorem dX7_landBales_42 : decode cX7_landBales 42 = .ok (.getfield 42, 3) := by decide +kernel
theorem dX7_landBales_45 : decode cX7_landBales 45 = .ok (.getfield 174, 3) := by decide +kernel
theorem dX7_landBales_48 : decode cX7_landBales 48 = .ok (.if_icmp .ge 26, 3) := by decide +kernel
theorem dX7_landBales_51 : decode cX7_landBales 51 = .ok (.aload_n 0, 1) := by decide +kernel
theorem dX7_landBales_52 : decode cX7_landBales 52 = .ok (.getfield 42, 3) := by decide +kernel
theorem dX7_landBales_55 : decode cX7_landBales 55 = .ok (.iload_n 3, 1) := by decide +kernel
theorem dX7_landBales_56 : decode cX7_landBales 56 = .ok (.invokevirtual 175, 3) := by decide +kernel
theorem dX7_landBales_59 : decode cX7_landBales 59 = .ok (.ifCond .eq 9, 3) := by decide +kernel
theorem dX7_landBales_62 : decode cX7_landBales 62 = .ok (.aload_n 0, 1) := by decide +kernel
theorem dX7_landBales_63 : decode cX7_landBales 63 = .ok (.iload_n 3, 1) := by decide +kernel
theorem dX7_landBales_64 : decode cX7_landBales 64 = .ok (.iload_n 2, 1) := by decide +kernel
theorem dX7_landBales_65 : decode cX7_landBales 65 = .ok (.invokevirtual 178, 3) := by decide +kernel
theorem dX7_landBales_68 : decode cX7_landBales 68 = .ok (.iinc 3 1, 3) := by decide +kernel
theorem dX7_landBales_71 : decode cX7_landBales 71 = .ok (.goto (-31), 3) := by decide +kernel
theorem dX7_landBales_74 : decode cX7_landBales 74 = .ok (.return_, 1) := by decide +kernel
set_option maxRecDepth 20000 in
theorem ggX7_landBale_X0_value : GoodIn wsX7_landBale wsX0_value := goodIn_r _ [21, 22, 23, 55, 56, 57, 58, 59, 60, 61, 62, 63, 64] (by decide +kernel) (by decide +kernel)
set_option maxRecDepth 20000 in
theorem gX7_landBale_X0_value : GoodIn wsX7_landBale (wsV RX7 184 RX0 yX0_value wsX0_value) := goodIn_app (goodIn_of _ (by decide +kernel)) ggX7_landBale_X0_value
set_option maxRecDepth 20000 in
theorem ggX7_landBale_X0_room : GoodIn wsX7_landBale wsX0_room := goodIn_r _ [27, 28, 23, 55, 56, 57, 58, 59, 60, 61, 62, 63, 64] (by decide +kernel) (by decide +kernel)
set_option maxRecDepth 20000 in
theorem gX7_landBale_X0_room : GoodIn wsX7_landBale (wsV RX7 137 RX0 yX0_room wsX0_room) := goodIn_app (goodIn_of _ (by decide +kernel)) ggX7_landBale_X0_room
set_option maxRecDepth 20000 in
theorem ggX7_landBale_X10_raise : GoodIn wsX7_landBale wsX10_raise := goodIn_r _ [33, 34, 35, 36, 32, 37, 38, 39, 40, 79] (by decide +kernel) (by decide +kernel)
set_option maxRecDepth 20000 in
theorem gX7_landBale_X10_raise : GoodIn wsX7_landBale (wsV RX7 205 RX10 yX10_raise wsX10_raise) := goodIn_app (goodIn_of _ (by decide +kernel)) ggX7_landBale_X10_raise
theorem dX7_landBale_0 : decode cX7_landBale 0 = .ok (.aload_n 0, 1) := by decide +kernel
theorem dX7_landBale_1 : decode cX7_landBale 1 = .ok (.getfield 42, 3) := by decide +kernel
theorem dX7_landBale_4 : decode cX7_landBale 4 = .ok (.getfield 181, 3) := by decide +kernel
theorem dX7_landBale_7 : decode cX7_landBale 7 = .ok (.iload_n 1, 1) := by decide +kernel
theorem dX7_landBale_8 : decode cX7_landBale 8 = .ok (.iaload, 1) := by decide +kernel
theorem dX7_landBale_9 : decode cX7_landBale 9 = .ok (.istore_n 3, 1) := by decide +kernel
theorem dX7_landBale_10 : decode cX7_landBale 10 = .ok (.aload_n 0, 1) := by decide +kernel
theorem dX7_landBale_11 : decode cX7_landBale 11 = .ok (.getfield 42, 3) := by decide +kernel
theorem dX7_landBale_14 : decode cX7_landBale 14 = .ok (.getfield 143, 3) := by decide +kernel
theorem dX7_landBale_17 : decode cX7_landBale 17 = .ok (.iload_n 1, 1) := by decide +kernel
theorem dX7_landBale_18 : decode cX7_landBale 18 = .ok (.iaload, 1) := by decide +kernel
theorem dX7_landBale_19 : decode cX7_landBale 19 = .ok (.istore 4, 2) := by decide +kernel
theorem dX7_landBale_21 : decode cX7_landBale 21 = .ok (.aload_n 0, 1) := by decide +kernel
theorem dX7_landBale_22 : decode cX7_landBale 22 = .ok (.getfield 42, 3) := by decide +kernel
theorem dX7_landBale_25 : decode cX7_landBale 25 = .ok (.iload_n 1, 1) := by decide +kernel
theorem dX7_landBale_26 : decode cX7_landBale 26 = .ok (.invokevirtual 184, 3) := by decide +kernel
theorem dX7_landBale_29 : decode cX7_landBale 29 = .ok (.iload_n 2, 1) := by decide +kernel
theorem dX7_landBale_30 : decode cX7_landBale 30 = .ok (.imul, 1) := by decide +kernel
theorem dX7_landBale_31 : decode cX7_landBale 31 = .ok (.bipush 100, 2) := by decide +kernel
theorem dX7_landBale_33 : decode cX7_landBale 33 = .ok (.idiv, 1) := by decide +kernel
theorem dX7_landBale_34 : decode cX7_landBale 34 = .ok (.istore 5, 2) := by decide +kernel
theorem dX7_landBale_36 : decode cX7_landBale 36 = .ok (.iload 5, 2) := by decide +kernel
theorem dX7_landBale_38 : decode cX7_landBale 38 = .ok (.bipush 10, 2) := by decide +kernel
theorem dX7_landBale_40 : decode cX7_landBale 40 = .ok (.idiv, 1) := by decide +kernel
theorem dX7_landBale_41 : decode cX7_landBale 41 = .ok (.istore 6, 2) := by decide +kernel
theorem dX7_landBale_43 : decode cX7_landBale 43 = .ok (.iconst 0, 1) := by decide +kernel
theorem dX7_landBale_44 : decode cX7_landBale 44 = .ok (.istore 7, 2) := by decide +kernel
theorem dX7_landBale_46 : decode cX7_landBale 46 = .ok (.iload 4, 2) := by decide +kernel
theorem dX7_landBale_48 : decode cX7_landBale 48 = .ok (.iload_n 3, 1) := by decide +kernel
theorem dX7_landBale_49 : decode cX7_landBale 49 = .ok (.if_icmp .eq 29, 3) := by decide +kernel
theorem dX7_landBale_52 : decode cX7_landBale 52 = .ok (.aload_n 0, 1) := by decide +kernel
theorem dX7_landBale_53 : decode cX7_landBale 53 = .ok (.getfield 35, 3) := by decide +kernel
theorem dX7_landBale_56 : decode cX7_landBale 56 = .ok (.getfield 187, 3) := by decide +kernel
theorem dX7_landBale_59 : decode cX7_landBale 59 = .ok (.aload_n 0, 1) := by decide +kernel
theorem dX7_landBale_60 : decode cX7_landBale 60 = .ok (.getfield 42, 3) := by decide +kernel
theorem dX7_landBale_63 : decode cX7_landBale 63 = .ok (.iload_n 1, 1) := by decide +kernel
theorem dX7_landBale_64 : decode cX7_landBale 64 = .ok (.invokevirtual 137, 3) := by decide +kernel
theorem dX7_landBale_67 : decode cX7_landBale 67 = .ok (.imul, 1) := by decide +kernel
theorem dX7_landBale_68 : decode cX7_landBale 68 = .ok (.iload 5, 2) := by decide +kernel
theorem dX7_landBale_70 : decode cX7_landBale 70 = .ok (.iload 6, 2) := by decide +kernel
theorem dX7_landBale_72 : decode cX7_landBale 72 = .ok (.isub, 1) := by decide +kernel
theorem dX7_landBale_73 : decode cX7_landBale 73 = .ok (.invokestatic 190, 3) := by decide +kernel
theorem dX7_landBale_76 : decode cX7_landBale 76 = .ok (.istore 7, 2) := by decide +kernel
theorem dX7_landBale_78 : decode cX7_landBale 78 = .ok (.aload_n 0, 1) := by decide +kernel
theorem dX7_landBale_79 : decode cX7_landBale 79 = .ok (.dup, 1) := by decide +kernel
theorem dX7_landBale_80 : decode cX7_landBale 80 = .ok (.getfield 80, 3) := by decide +kernel
theorem dX7_landBale_83 : decode cX7_landBale 83 = .ok (.iload 6, 2) := by decide +kernel
theorem dX7_landBale_85 : decode cX7_landBale 85 = .ok (.iadd, 1) := by decide +kernel
theorem dX7_landBale_86 : decode cX7_landBale 86 = .ok (.putfield 80, 3) := by decide +kernel
theorem dX7_landBale_89 : decode cX7_landBale 89 = .ok (.aload_n 0, 1) := by decide +kernel
theorem dX7_landBale_90 : decode cX7_landBale 90 = .ok (.getfield 28, 3) := by decide +kernel
theorem dX7_landBale_93 : decode cX7_landBale 93 = .ok (.getfield 196, 3) := by decide +kernel
theorem dX7_landBale_96 : decode cX7_landBale 96 = .ok (.iload 4, 2) := by decide +kernel
theorem dX7_landBale_98 : decode cX7_landBale 98 = .ok (.dup2, 1) := by decide +kernel
theorem dX7_landBale_99 : decode cX7_landBale 99 = .ok (.iaload, 1) := by decide +kernel
theorem dX7_landBale_100 : decode cX7_landBale 100 = .ok (.iload 7, 2) := by decide +kernel
theorem dX7_landBale_102 : decode cX7_landBale 102 = .ok (.iadd, 1) := by decide +kernel
theorem dX7_landBale_103 : decode cX7_landBale 103 = .ok (.iastore, 1) := by decide +kernel
theorem dX7_landBale_104 : decode cX7_landBale 104 = .ok (.aload_n 0, 1) := by decide +kernel
theorem dX7_landBale_105 : decode cX7_landBale 105 = .ok (.getfield 28, 3) := by decide +kernel
theorem dX7_landBale_108 : decode cX7_landBale 108 = .ok (.getfield 199, 3) := by decide +kernel
theorem dX7_landBale_111 : decode cX7_landBale 111 = .ok (.iload 4, 2) := by decide +kernel
theorem dX7_landBale_113 : decode cX7_landBale 113 = .ok (.dup2, 1) := by decide +kernel
theorem dX7_landBale_114 : decode cX7_landBale 114 = .ok (.iaload, 1) := by decide +kernel
theorem dX7_landBale_115 : decode cX7_landBale 115 = .ok (.iload 7, 2) := by decide +kernel
theorem dX7_landBale_117 : decode cX7_landBale 117 = .ok (.iadd, 1) := by decide +kernel
theorem dX7_landBale_118 : decode cX7_landBale 118 = .ok (.iastore, 1) := by decide +kernel
theorem dX7_landBale_119 : decode cX7_landBale 119 = .ok (.aload_n 0, 1) := by decide +kernel
theorem dX7_landBale_120 : decode cX7_landBale 120 = .ok (.getfield 28, 3) := by decide +kernel
theorem dX7_landBale_123 : decode cX7_landBale 123 = .ok (.getfield 196, 3) := by decide +kernel
theorem dX7_landBale_126 : decode cX7_landBale 126 = .ok (.iload_n 3, 1) := by decide +kernel
theorem dX7_landBale_127 : decode cX7_landBale 127 = .ok (.dup2, 1) := by decide +kernel
theorem dX7_landBale_128 : decode cX7_landBale 128 = .ok (.iaload, 1) := by decide +kernel
theorem dX7_landBale_129 : decode cX7_landBale 129 = .ok (.iload 5, 2) := by decide +kernel
theorem dX7_landBale_131 : decode cX7_landBale 131 = .ok (.iload 6, 2) := by decide +kernel
theorem dX7_landBale_133 : decode cX7_landBale 133 = .ok (.isub, 1) := by decide +kernel
theorem dX7_landBale_134 : decode cX7_landBale 134 = .ok (.iload 7, 2) := by decide +kernel
theorem dX7_landBale_136 : decode cX7_landBale 136 = .ok (.isub, 1) := by decide +kernel
theorem dX7_landBale_137 : decode cX7_landBale 137 = .ok (.iadd, 1) := by decide +kernel
theorem dX7_landBale_138 : decode cX7_landBale 138 = .ok (.iastore, 1) := by decide +kernel
theorem dX7_landBale_139 : decode cX7_landBale 139 = .ok (.aload_n 0, 1) := by decide +kernel
theorem dX7_landBale_140 : decode cX7_landBale 140 = .ok (.getfield 28, 3) := by decide +kernel
theorem dX7_landBale_143 : decode cX7_landBale 143 = .ok (.getfield 202, 3) := by decide +kernel
theorem dX7_landBale_146 : decode cX7_landBale 146 = .ok (.iload_n 3, 1) := by decide +kernel
theorem dX7_landBale_147 : decode cX7_landBale 147 = .ok (.dup2, 1) := by decide +kernel
theorem dX7_landBale_148 : decode cX7_landBale 148 = .ok (.iaload, 1) := by decide +kernel
theorem dX7_landBale_149 : decode cX7_landBale 149 = .ok (.iload 5, 2) := by decide +kernel
theorem dX7_landBale_151 : decode cX7_landBale 151 = .ok (.iadd, 1) := by decide +kernel
theorem dX7_landBale_152 : decode cX7_landBale 152 = .ok (.iastore, 1) := by decide +kernel
theorem dX7_landBale_153 : decode cX7_landBale 153 = .ok (.aload_n 0, 1) := by decide +kernel
theorem dX7_landBale_154 : decode cX7_landBale 154 = .ok (.getfield 56, 3) := by decide +kernel
theorem dX7_landBale_157 : decode cX7_landBale 157 = .ok (.aload_n 0, 1) := by decide +kernel
theorem dX7_landBale_158 : decode cX7_landBale 158 = .ok (.getfield 67, 3) := by decide +kernel
theorem dX7_landBale_161 : decode cX7_landBale 161 = .ok (.iconst 5, 1) := by decide +kernel
theorem dX7_landBale_162 : decode cX7_landBale 162 = .ok (.iload 5, 2) := by decide +kernel
theorem dX7_landBale_164 : decode cX7_landBale 164 = .ok (.invokevirtual 205, 3) := by decide +kernel
theorem dX7_landBale_167 : decode cX7_landBale 167 = .ok (.aload_n 0, 1) := by decide +kernel
theorem dX7_landBale_168 : decode cX7_landBale 168 = .ok (.getfield 56, 3) := by decide +kernel
theorem dX7_landBale_171 : decode cX7_landBale 171 = .ok (.aload_n 0, 1) := by decide +kernel
theorem dX7_landBale_172 : decode cX7_landBale 172 = .ok (.getfield 67, 3) := by decide +kernel
theorem dX7_landBale_175 : decode cX7_landBale 175 = .ok (.bipush 6, 2) := by decide +kernel
theorem dX7_landBale_177 : decode cX7_landBale 177 = .ok (.iload 6, 2) := by decide +kernel
theorem dX7_landBale_179 : decode cX7_landBale 179 = .ok (.invokevirtual 205, 3) := by decide +kernel
theorem dX7_landBale_182 : decode cX7_landBale 182 = .ok (.aload_n 0, 1) := by decide +kernel
theorem dX7_landBale_183 : decode cX7_landBale 183 = .ok (.getfield 56, 3) := by decide +kernel
theorem dX7_landBale_186 : decode cX7_landBale 186 = .ok (.aload_n 0, 1) := by decide +kernel
theorem dX7_landBale_187 : decode cX7_landBale 187 = .ok (.getfield 67, 3) := by decide +kernel
theorem dX7_landBale_190 : decode cX7_landBale 190 = .ok (.bipush 7, 2) := by decide +kernel
theorem dX7_landBale_192 : decode cX7_landBale 192 = .ok (.iload 7, 2) := by decide +kernel
theorem dX7_landBale_194 : decode cX7_landBale 194 = .ok (.invokevirtual 205, 3) := by decide +kernel
theorem dX7_landBale_197 : decode cX7_landBale 197 = .ok (.return_, 1) := by decide +kernel
set_option maxRecDepth 20000 in
theorem ggX7_repayLoans_X5_owed : GoodIn wsX7_repayLoans wsX5_owed := goodIn_r _ [10, 11, 12, 33, 34, 35, 36, 37] (by decide +kernel) (by decide +kernel)
set_option maxRecDepth 20000 in
theorem gX7_repayLoans_X5_owed : GoodIn wsX7_repayLoans (wsV RX7 214 RX5 yX5_owed wsX5_owed) := goodIn_app (goodIn_of _ (by decide +kernel)) ggX7_repayLoans_X5_owed
set_option maxRecDepth 20000 in
theorem ggX7_repayLoans_X2_pay : GoodIn wsX7_repayLoans wsX2_pay := goodIn_r _ [17, 18, 38, 39, 40, 41, 42, 43, 44, 45, 46, 47] (by decide +kernel) (by decide +kernel)
set_option maxRecDepth 20000 in
theorem gX7_repayLoans_X2_pay : GoodIn wsX7_repayLoans (wsV RX7 217 RX2 yX2_pay wsX2_pay) := goodIn_app (goodIn_of _ (by decide +kernel)) ggX7_repayLoans_X2_pay
theorem dX7_repayLoans_0 : decode cX7_repayLoans 0 = .ok (.iconst 0, 1) := by decide +kernel
theorem dX7_repayLoans_1 : decode cX7_repayLoans 1 = .ok (.istore_n 1, 1) := by decide +kernel
theorem dX7_repayLoans_2 : decode cX7_repayLoans 2 = .ok (.iload_n 1, 1) := by decide +kernel
theorem dX7_repayLoans_3 : decode cX7_repayLoans 3 = .ok (.aload_n 0, 1) := by decide +kernel
theorem dX7_repayLoans_4 : decode cX7_repayLoans 4 = .ok (.getfield 49, 3) := by decide +kernel
theorem dX7_repayLoans_7 : decode cX7_repayLoans 7 = .ok (.getfield 169, 3) := by decide +kernel
theorem dX7_repayLoans_10 : decode cX7_repayLoans 10 = .ok (.if_icmp .ge 42, 3) := by decide +kernel
theorem dX7_repayLoans_13 : decode cX7_repayLoans 13 = .ok (.aload_n 0, 1) := by decide +kernel
theorem dX7_repayLoans_14 : decode cX7_repayLoans 14 = .ok (.getfield 28, 3) := by decide +kernel
theorem dX7_repayLoans_17 : decode cX7_repayLoans 17 = .ok (.aload_n 0, 1) := by decide +kernel
theorem dX7_repayLoans_18 : decode cX7_repayLoans 18 = .ok (.getfield 49, 3) := by decide +kernel
theorem dX7_repayLoans_21 : decode cX7_repayLoans 21 = .ok (.getfield 208, 3) := by decide +kernel
theorem dX7_repayLoans_24 : decode cX7_repayLoans 24 = .ok (.iload_n 1, 1) := by decide +kernel
theorem dX7_repayLoans_25 : decode cX7_repayLoans 25 = .ok (.iaload, 1) := by decide +kernel
theorem dX7_repayLoans_26 : decode cX7_repayLoans 26 = .ok (.aload_n 0, 1) := by decide +kernel
theorem dX7_repayLoans_27 : decode cX7_repayLoans 27 = .ok (.getfield 49, 3) := by decide +kernel
theorem dX7_repayLoans_30 : decode cX7_repayLoans 30 = .ok (.getfield 211, 3) := by decide +kernel
theorem dX7_repayLoans_33 : decode cX7_repayLoans 33 = .ok (.iload_n 1, 1) := by decide +kernel
theorem dX7_repayLoans_34 : decode cX7_repayLoans 34 = .ok (.iaload, 1) := by decide +kernel
theorem dX7_repayLoans_35 : decode cX7_repayLoans 35 = .ok (.aload_n 0, 1) := by decide +kernel
theorem dX7_repayLoans_36 : decode cX7_repayLoans 36 = .ok (.getfield 49, 3) := by decide +kernel
theorem dX7_repayLoans_39 : decode cX7_repayLoans 39 = .ok (.iload_n 1, 1) := by decide +kernel
theorem dX7_repayLoans_40 : decode cX7_repayLoans 40 = .ok (.invokevirtual 214, 3) := by decide +kernel
theorem dX7_repayLoans_43 : decode cX7_repayLoans 43 = .ok (.invokevirtual 217, 3) := by decide +kernel
theorem dX7_repayLoans_46 : decode cX7_repayLoans 46 = .ok (.iinc 1 1, 3) := by decide +kernel
theorem dX7_repayLoans_49 : decode cX7_repayLoans 49 = .ok (.goto (-47), 3) := by decide +kernel
theorem dX7_repayLoans_52 : decode cX7_repayLoans 52 = .ok (.return_, 1) := by decide +kernel
theorem dX8_init_0 : decode cX8_init 0 = .ok (.aload_n 0, 1) := by decide +kernel
theorem dX8_init_1 : decode cX8_init 1 = .ok (.invokespecial 3, 3) := by decide +kernel
theorem dX8_init_4 : decode cX8_init 4 = .ok (.aload_n 0, 1) := by decide +kernel
theorem dX8_init_5 : decode cX8_init 5 = .ok (.sipush 400, 3) := by decide +kernel
theorem dX8_init_8 : decode cX8_init 8 = .ok (.newarray .byte, 2) := by decide +kernel
theorem dX8_init_10 : decode cX8_init 10 = .ok (.putfield 9, 3) := by decide +kernel
theorem dX8_init_13 : decode cX8_init 13 = .ok (.aload_n 0, 1) := by decide +kernel
theorem dX8_init_14 : decode cX8_init 14 = .ok (.iconst 0, 1) := by decide +kernel
theorem dX8_init_15 : decode cX8_init 15 = .ok (.putfield 15, 3) := by decide +kernel
theorem dX8_init_18 : decode cX8_init 18 = .ok (.return_, 1) := by decide +kernel
theorem dX8_append_0 : decode cX8_append 0 = .ok (.bipush 24, 2) := by decide +kernel
theorem dX8_append_2 : decode cX8_append 2 = .ok (.istore_n 2, 1) := by decide +kernel
theorem dX8_append_3 : decode cX8_append 3 = .ok (.iload_n 2, 1) := by decide +kernel
theorem dX8_append_4 : decode cX8_append 4 = .ok (.ifCond .lt 42, 3) := by decide +kernel
theorem dX8_append_7 : decode cX8_append 7 = .ok (.aload_n 0, 1) := by decide +kernel
theorem dX8_append_8 : decode cX8_append 8 = .ok (.getfield 15, 3) := by decide +kernel
theorem dX8_append_11 : decode cX8_append 11 = .ok (.sipush 400, 3) := by decide +kernel
theorem dX8_append_14 : decode cX8_append 14 = .ok (.if_icmp .ge 32, 3) := by decide +kernel
theorem dX8_append_17 : decode cX8_append 17 = .ok (.aload_n 0, 1) := by decide +kernel
theorem dX8_append_18 : decode cX8_append 18 = .ok (.getfield 9, 3) := by decide +kernel
theorem dX8_append_21 : decode cX8_append 21 = .ok (.aload_n 0, 1) := by decide +kernel
theorem dX8_append_22 : decode cX8_append 22 = .ok (.getfield 15, 3) := by decide +kernel
theorem dX8_append_25 : decode cX8_append 25 = .ok (.iload_n 1, 1) := by decide +kernel
theorem dX8_append_26 : decode cX8_append 26 = .ok (.iload_n 2, 1) := by decide +kernel
theorem dX8_append_27 : decode cX8_append 27 = .ok (.ishr, 1) := by decide +kernel
theorem dX8_append_28 : decode cX8_append 28 = .ok (.i2b, 1) := by decide +kernel
theorem dX8_append_29 : decode cX8_append 29 = .ok (.bastore, 1) := by decide +kernel
theorem dX8_append_30 : decode cX8_append 30 = .ok (.aload_n 0, 1) := by decide +kernel
theorem dX8_append_31 : decode cX8_append 31 = .ok (.dup, 1) := by decide +kernel
theorem dX8_append_32 : decode cX8_append 32 = .ok (.getfield 15, 3) := by decide +kernel
theorem dX8_append_35 : decode cX8_append 35 = .ok (.iconst 1, 1) := by decide +kernel
theorem dX8_append_36 : decode cX8_append 36 = .ok (.iadd, 1) := by decide +kernel
theorem dX8_append_37 : decode cX8_append 37 = .ok (.putfield 15, 3) := by decide +kernel
theorem dX8_append_40 : decode cX8_append 40 = .ok (.iinc 2 (-8), 3) := by decide +kernel
theorem dX8_append_43 : decode cX8_append 43 = .ok (.goto (-40), 3) := by decide +kernel
theorem dX8_append_46 : decode cX8_append 46 = .ok (.return_, 1) := by decide +kernel
theorem dX8_copyFrom_0 : decode cX8_copyFrom 0 = .ok (.aload_n 0, 1) := by decide +kernel
theorem dX8_copyFrom_1 : decode cX8_copyFrom 1 = .ok (.aload_n 1, 1) := by decide +kernel
theorem dX8_copyFrom_2 : decode cX8_copyFrom 2 = .ok (.getfield 15, 3) := by decide +kernel
theorem dX8_copyFrom_5 : decode cX8_copyFrom 5 = .ok (.putfield 15, 3) := by decide +kernel
theorem dX8_copyFrom_8 : decode cX8_copyFrom 8 = .ok (.aload_n 1, 1) := by decide +kernel
theorem dX8_copyFrom_9 : decode cX8_copyFrom 9 = .ok (.getfield 9, 3) := by decide +kernel
theorem dX8_copyFrom_12 : decode cX8_copyFrom 12 = .ok (.iconst 0, 1) := by decide +kernel
theorem dX8_copyFrom_13 : decode cX8_copyFrom 13 = .ok (.aload_n 0, 1) := by decide +kernel
theorem dX8_copyFrom_14 : decode cX8_copyFrom 14 = .ok (.getfield 9, 3) := by decide +kernel
theorem dX8_copyFrom_17 : decode cX8_copyFrom 17 = .ok (.iconst 0, 1) := by decide +kernel
theorem dX8_copyFrom_18 : decode cX8_copyFrom 18 = .ok (.sipush 400, 3) := by decide +kernel
theorem dX8_copyFrom_21 : decode cX8_copyFrom 21 = .ok (.invokestatic 19, 3) := by decide +kernel
theorem dX8_copyFrom_24 : decode cX8_copyFrom 24 = .ok (.return_, 1) := by decide +kernel
set_option maxRecDepth 20000 in
theorem ggX9_init_X8_init : GoodIn wsX9_init wsX8_init := goodIn_r _ [13, 14, 2, 3, 15, 16, 17, 18, 19] (by decide +kernel) (by decide +kernel)
set_option maxRecDepth 20000 in
theorem gX9_init_X8_init_n9 : GoodIn wsX9_init (wsX8_init) := ggX9_init_X8_init
theorem dX9_init_0 : decode cX9_init 0 = .ok (.aload_n 0, 1) := by decide +kernel
theorem dX9_init_1 : decode cX9_init 1 = .ok (.invokespecial 1, 3) := by decide +kernel
theorem dX9_init_4 : decode cX9_init 4 = .ok (.aload_n 0, 1) := by decide +kernel
theorem dX9_init_5 : decode cX9_init 5 = .ok (.new 7, 3) := by decide +kernel
theorem dX9_init_8 : decode cX9_init 8 = .ok (.dup, 1) := by decide +kernel
theorem dX9_init_9 : decode cX9_init 9 = .ok (.invokespecial 9, 3) := by decide +kernel
theorem dX9_init_12 : decode cX9_init 12 = .ok (.putfield 10, 3) := by decide +kernel
theorem dX9_init_15 : decode cX9_init 15 = .ok (.aload_n 0, 1) := by decide +kernel
theorem dX9_init_16 : decode cX9_init 16 = .ok (.iconst 0, 1) := by decide +kernel
theorem dX9_init_17 : decode cX9_init 17 = .ok (.putfield 16, 3) := by decide +kernel
theorem dX9_init_20 : decode cX9_init 20 = .ok (.aload_n 0, 1) := by decide +kernel
theorem dX9_init_21 : decode cX9_init 21 = .ok (.iconst 0, 1) := by decide +kernel
theorem dX9_init_22 : decode cX9_init 22 = .ok (.putfield 20, 3) := by decide +kernel
theorem dX9_init_25 : decode cX9_init 25 = .ok (.aload_n 0, 1) := by decide +kernel
theorem dX9_init_26 : decode cX9_init 26 = .ok (.iconst 0, 1) := by decide +kernel
theorem dX9_init_27 : decode cX9_init 27 = .ok (.putfield 23, 3) := by decide +kernel
theorem dX9_init_30 : decode cX9_init 30 = .ok (.aload_n 0, 1) := by decide +kernel
theorem dX9_init_31 : decode cX9_init 31 = .ok (.iconst 0, 1) := by decide +kernel
theorem dX9_init_32 : decode cX9_init 32 = .ok (.putfield 26, 3) := by decide +kernel
theorem dX9_init_35 : decode cX9_init 35 = .ok (.return_, 1) := by decide +kernel
set_option maxRecDepth 20000 in
theorem ggX9_begin_X8_copyFrom : GoodIn wsX9_begin wsX8_copyFrom := goodIn_r _ [7, 8, 9, 10, 11, 12, 13, 19, 20] (by decide +kernel) (by decide +kernel)
set_option maxRecDepth 20000 in
theorem gX9_begin_X8_copyFrom : GoodIn wsX9_begin (wsV RX9 29 RX8 yX8_copyFrom wsX8_copyFrom) := goodIn_app (goodIn_of _ (by decide +kernel)) ggX9_begin_X8_copyFrom
theorem dX9_begin_0 : decode cX9_begin 0 = .ok (.aload_n 0, 1) := by decide +kernel
theorem dX9_begin_1 : decode cX9_begin 1 = .ok (.getfield 10, 3) := by decide +kernel
theorem dX9_begin_4 : decode cX9_begin 4 = .ok (.aload_n 1, 1) := by decide +kernel
theorem dX9_begin_5 : decode cX9_begin 5 = .ok (.invokevirtual 29, 3) := by decide +kernel
theorem dX9_begin_8 : decode cX9_begin 8 = .ok (.aload_n 0, 1) := by decide +kernel
theorem dX9_begin_9 : decode cX9_begin 9 = .ok (.iconst 0, 1) := by decide +kernel
theorem dX9_begin_10 : decode cX9_begin 10 = .ok (.putfield 23, 3) := by decide +kernel
theorem dX9_begin_13 : decode cX9_begin 13 = .ok (.return_, 1) := by decide +kernel
set_option maxRecDepth 20000 in
theorem ggX9_step_X9_isBlank : GoodIn wsX9_step wsX9_isBlank := goodIn_r _ [10] (by decide +kernel) (by decide +kernel)
set_option maxRecDepth 20000 in
theorem gX9_step_X9_isBlank : GoodIn wsX9_step (va_wsS RX9 40 yX9_isBlank wsX9_isBlank) := goodIn_app (goodIn_of _ (by decide +kernel)) ggX9_step_X9_isBlank
set_option maxRecDepth 20000 in
theorem ggX9_step_X9_isLetter : GoodIn wsX9_step wsX9_isLetter := goodIn_r _ [13, 14, 15, 16] (by decide +kernel) (by decide +kernel)
set_option maxRecDepth 20000 in
theorem gX9_step_X9_isLetter : GoodIn wsX9_step (va_wsS RX9 44 yX9_isLetter wsX9_isLetter) := goodIn_app (goodIn_of _ (by decide +kernel)) ggX9_step_X9_isLetter
set_option maxRecDepth 20000 in
theorem ggX9_step_X9_stepWord : GoodIn wsX9_step wsX9_stepWord := goodIn_r _ [20, 1, 2, 3, 4, 6, 11, 12, 9, 13, 14, 15, 16, 21, 22, 23, 24, 5, 25, 26, 27, 28, 29, 30, 31, 32, 33, 34, 35, 36, 37, 38, 39, 40, 41, 42, 43, 44, 45, 46, 47, 48, 49, 50, 51, 52, 53, 54, 55, 56, 57, 58, 59, 60, 61, 62, 63, 64, 65, 66, 67, 68, 69, 70, 71, 72, 73, 74, 75, 76, 77, 86, 87, 88, 89, 90, 91, 92] (by decide +kernel) (by decide +kernel)
set_option maxRecDepth 20000 in
theorem gX9_step_X9_stepWord : GoodIn wsX9_step (wsV RX9 47 RX9 yX9_stepWord wsX9_stepWord) := goodIn_app (goodIn_of _ (by decide +kernel)) ggX9_step_X9_stepWord
set_option maxRecDepth 20000 in
theorem ggX9_step_X9_isDigit : GoodIn wsX9_step wsX9_isDigit := goodIn_r _ [80, 14, 15, 16] (by decide +kernel) (by decide +kernel)
set_option maxRecDepth 20000 in
theorem gX9_step_X9_isDigit : GoodIn wsX9_step (va_wsS RX9 50 yX9_isDigit wsX9_isDigit) := goodIn_app (goodIn_of _ (by decide +kernel)) ggX9_step_X9_isDigit
set_option maxRecDepth 20000 in
theorem ggX9_step_X9_stepNumber : GoodIn wsX9_step wsX9_stepNumber := goodIn_r _ [84, 85, 1, 2, 3, 4, 5, 6, 78, 79, 9, 80, 14, 15, 16, 86, 87, 88, 89, 90, 91, 92] (by decide +kernel) (by decide +kernel)
set_option maxRecDepth 20000 in
theorem gX9_step_X9_stepNumber : GoodIn wsX9_step (wsV RX9 53 RX9 yX9_stepNumber wsX9_stepNumber) := goodIn_app (goodIn_of _ (by decide +kernel)) ggX9_step_X9_stepNumber
set_option maxRecDepth 20000 in
theorem ggX9_step_X11_within : GoodIn wsX9_step wsX11_within := goodIn_r _ [16] (by decide +kernel) (by decide +kernel)
set_option maxRecDepth 20000 in
theorem gX9_step_X11_within_n56 : GoodIn wsX9_step (wsX11_within) := ggX9_step_X11_within
theorem dX9_step_0 : decode cX9_step 0 = .ok (.aload_n 0, 1) := by decide +kernel
theorem dX9_step_1 : decode cX9_step 1 = .ok (.getfield 23, 3) := by decide +kernel
theorem dX9_step_4 : decode cX9_step 4 = .ok (.aload_n 0, 1) := by decide +kernel
theorem dX9_step_5 : decode cX9_step 5 = .ok (.getfield 10, 3) := by decide +kernel
theorem dX9_step_8 : decode cX9_step 8 = .ok (.getfield 33, 3) := by decide +kernel
theorem dX9_step_11 : decode cX9_step 11 = .ok (.if_icmp .ge 34, 3) := by decide +kernel
theorem dX9_step_14 : decode cX9_step 14 = .ok (.aload_n 0, 1) := by decide +kernel
theorem dX9_step_15 : decode cX9_step 15 = .ok (.getfield 10, 3) := by decide +kernel
theorem dX9_step_18 : decode cX9_step 18 = .ok (.getfield 36, 3) := by decide +kernel
theorem dX9_step_21 : decode cX9_step 21 = .ok (.aload_n 0, 1) := by decide +kernel
theorem dX9_step_22 : decode cX9_step 22 = .ok (.getfield 23, 3) := by decide +kernel
theorem dX9_step_25 : decode cX9_step 25 = .ok (.baload, 1) := by decide +kernel
theorem dX9_step_26 : decode cX9_step 26 = .ok (.invokestatic 40, 3) := by decide +kernel
theorem dX9_step_29 : decode cX9_step 29 = .ok (.ifCond .eq 16, 3) := by decide +kernel
theorem dX9_step_32 : decode cX9_step 32 = .ok (.aload_n 0, 1) := by decide +kernel
theorem dX9_step_33 : decode cX9_step 33 = .ok (.dup, 1) := by decide +kernel
theorem dX9_step_34 : decode cX9_step 34 = .ok (.getfield 23, 3) := by decide +kernel
theorem dX9_step_37 : decode cX9_step 37 = .ok (.iconst 1, 1) := by decide +kernel
theorem dX9_step_38 : decode cX9_step 38 = .ok (.iadd, 1) := by decide +kernel
theorem dX9_step_39 : decode cX9_step 39 = .ok (.putfield 23, 3) := by decide +kernel
theorem dX9_step_42 : decode cX9_step 42 = .ok (.goto (-42), 3) := by decide +kernel
theorem dX9_step_45 : decode cX9_step 45 = .ok (.aload_n 0, 1) := by decide +kernel
theorem dX9_step_46 : decode cX9_step 46 = .ok (.aload_n 0, 1) := by decide +kernel
theorem dX9_step_47 : decode cX9_step 47 = .ok (.getfield 23, 3) := by decide +kernel
theorem dX9_step_50 : decode cX9_step 50 = .ok (.putfield 20, 3) := by decide +kernel
theorem dX9_step_53 : decode cX9_step 53 = .ok (.aload_n 0, 1) := by decide +kernel
theorem dX9_step_54 : decode cX9_step 54 = .ok (.getfield 23, 3) := by decide +kernel
theorem dX9_step_57 : decode cX9_step 57 = .ok (.aload_n 0, 1) := by decide +kernel
theorem dX9_step_58 : decode cX9_step 58 = .ok (.getfield 10, 3) := by decide +kernel
theorem dX9_step_61 : decode cX9_step 61 = .ok (.getfield 33, 3) := by decide +kernel
theorem dX9_step_64 : decode cX9_step 64 = .ok (.if_icmp .lt 9, 3) := by decide +kernel
theorem dX9_step_67 : decode cX9_step 67 = .ok (.aload_n 0, 1) := by decide +kernel
theorem dX9_step_68 : decode cX9_step 68 = .ok (.iconst 0, 1) := by decide +kernel
theorem dX9_step_69 : decode cX9_step 69 = .ok (.putfield 16, 3) := by decide +kernel
theorem dX9_step_72 : decode cX9_step 72 = .ok (.return_, 1) := by decide +kernel
theorem dX9_step_73 : decode cX9_step 73 = .ok (.aload_n 0, 1) := by decide +kernel
theorem dX9_step_74 : decode cX9_step 74 = .ok (.getfield 10, 3) := by decide +kernel
theorem dX9_step_77 : decode cX9_step 77 = .ok (.getfield 36, 3) := by decide +kernel
theorem dX9_step_80 : decode cX9_step 80 = .ok (.aload_n 0, 1) := by decide +kernel
theorem dX9_step_81 : decode cX9_step 81 = .ok (.getfield 23, 3) := by decide +kernel
theorem dX9_step_84 : decode cX9_step 84 = .ok (.baload, 1) := by decide +kernel
theorem dX9_step_85 : decode cX9_step 85 = .ok (.istore_n 1, 1) := by decide +kernel
theorem dX9_step_86 : decode cX9_step 86 = .ok (.iload_n 1, 1) := by decide +kernel
theorem dX9_step_87 : decode cX9_step 87 = .ok (.invokestatic 44, 3) := by decide +kernel
theorem dX9_step_90 : decode cX9_step 90 = .ok (.ifCond .eq 10, 3) := by decide +kernel
theorem dX9_step_93 : decode cX9_step 93 = .ok (.aload_n 0, 1) := by decide +kernel
theorem dX9_step_94 : decode cX9_step 94 = .ok (.invokevirtual 47, 3) := by decide +kernel
theorem dX9_step_97 : decode cX9_step 97 = .ok (.goto 48, 3) := by decide +kernel
theorem dX9_step_100 : decode cX9_step 100 = .ok (.iload_n 1, 1) := by decide +kernel
theorem dX9_step_101 : decode cX9_step 101 = .ok (.invokestatic 50, 3) := by decide +kernel
theorem dX9_step_104 : decode cX9_step 104 = .ok (.ifCond .eq 10, 3) := by decide +kernel
theorem dX9_step_107 : decode cX9_step 107 = .ok (.aload_n 0, 1) := by decide +kernel
theorem dX9_step_108 : decode cX9_step 108 = .ok (.invokevirtual 53, 3) := by decide +kernel
theorem dX9_step_111 : decode cX9_step 111 = .ok (.goto 34, 3) := by decide +kernel
theorem dX9_step_114 : decode cX9_step 114 = .ok (.aload_n 0, 1) := by decide +kernel
theorem dX9_step_115 : decode cX9_step 115 = .ok (.iload_n 1, 1) := by decide +kernel
theorem dX9_step_116 : decode cX9_step 116 = .ok (.bipush 58, 2) := by decide +kernel
theorem dX9_step_118 : decode cX9_step 118 = .ok (.bipush 62, 2) := by decide +kernel
theorem dX9_step_120 : decode cX9_step 120 = .ok (.invokestatic 56, 3) := by decide +kernel
theorem dX9_step_123 : decode cX9_step 123 = .ok (.ifCond .eq 7, 3) := by decide +kernel
theorem dX9_step_126 : decode cX9_step 126 = .ok (.iload_n 1, 1) := by decide +kernel
theorem dX9_step_127 : decode cX9_step 127 = .ok (.goto 5, 3) := by decide +kernel
theorem dX9_step_130 : decode cX9_step 130 = .ok (.bipush 13, 2) := by decide +kernel
theorem dX9_step_132 : decode cX9_step 132 = .ok (.putfield 16, 3) := by decide +kernel
theorem dX9_step_135 : decode cX9_step 135 = .ok (.aload_n 0, 1) := by decide +kernel
theorem dX9_step_136 : decode cX9_step 136 = .ok (.dup, 1) := by decide +kernel
theorem dX9_step_137 : decode cX9_step 137 = .ok (.getfield 23, 3) := by decide +kernel
theorem dX9_step_140 : decode cX9_step 140 = .ok (.iconst 1, 1) := by decide +kernel
theorem dX9_step_141 : decode cX9_step 141 = .ok (.iadd, 1) := by decide +kernel
theorem dX9_step_142 : decode cX9_step 142 = .ok (.putfield 23, 3) := by decide +kernel
theorem dX9_step_145 : decode cX9_step 145 = .ok (.return_, 1) := by decide +kernel
set_option maxRecDepth 20000 in
theorem ggX9_stepWord_X9_isLetter : GoodIn wsX9_stepWord wsX9_isLetter := goodIn_r _ [9, 10, 11, 12] (by decide +kernel) (by decide +kernel)
set_option maxRecDepth 20000 in
theorem gX9_stepWord_X9_isLetter : GoodIn wsX9_stepWord (va_wsS RX9 44 yX9_isLetter wsX9_isLetter) := goodIn_app (goodIn_of _ (by decide +kernel)) ggX9_stepWord_X9_isLetter
set_option maxRecDepth 20000 in
theorem ggX9_stepWord_X9_wordToken : GoodIn wsX9_stepWord wsX9_wordToken := goodIn_r _ [16, 2, 4, 17, 18, 19, 20, 8, 21, 1, 22, 23, 24, 25, 26, 27, 28, 29, 30, 31, 32, 33, 34, 35, 36, 37, 38, 39, 40, 41, 42, 43, 44, 45, 46, 47, 48, 49, 50, 51, 52, 53, 54, 55, 56, 57, 58, 59, 60, 61, 62, 63, 64, 65, 66, 67, 68, 69, 70, 71, 72, 73, 74, 75, 76, 77] (by decide +kernel) (by decide +kernel)
set_option maxRecDepth 20000 in
theorem gX9_stepWord_X9_wordToken : GoodIn wsX9_stepWord (wsV RX9 62 RX9 yX9_wordToken wsX9_wordToken) := goodIn_app (goodIn_of _ (by decide +kernel)) ggX9_stepWord_X9_wordToken
theorem dX9_stepWord_0 : decode cX9_stepWord 0 = .ok (.aload_n 0, 1) := by decide +kernel
theorem dX9_stepWord_1 : decode cX9_stepWord 1 = .ok (.getfield 23, 3) := by decide +kernel
theorem dX9_stepWord_4 : decode cX9_stepWord 4 = .ok (.aload_n 0, 1) := by decide +kernel
theorem dX9_stepWord_5 : decode cX9_stepWord 5 = .ok (.getfield 10, 3) := by decide +kernel
theorem dX9_stepWord_8 : decode cX9_stepWord 8 = .ok (.getfield 33, 3) := by decide +kernel
theorem dX9_stepWord_11 : decode cX9_stepWord 11 = .ok (.if_icmp .ge 34, 3) := by decide +kernel
theorem dX9_stepWord_14 : decode cX9_stepWord 14 = .ok (.aload_n 0, 1) := by decide +kernel
theorem dX9_stepWord_15 : decode cX9_stepWord 15 = .ok (.getfield 10, 3) := by decide +kernel
theorem dX9_stepWord_18 : decode cX9_stepWord 18 = .ok (.getfield 36, 3) := by decide +kernel
theorem dX9_stepWord_21 : decode cX9_stepWord 21 = .ok (.aload_n 0, 1) := by decide +kernel
theorem dX9_stepWord_22 : decode cX9_stepWord 22 = .ok (.getfield 23, 3) := by decide +kernel
theorem dX9_stepWord_25 : decode cX9_stepWord 25 = .ok (.baload, 1) := by decide +kernel
theorem dX9_stepWord_26 : decode cX9_stepWord 26 = .ok (.invokestatic 44, 3) := by decide +kernel
theorem dX9_stepWord_29 : decode cX9_stepWord 29 = .ok (.ifCond .eq 16, 3) := by decide +kernel
theorem dX9_stepWord_32 : decode cX9_stepWord 32 = .ok (.aload_n 0, 1) := by decide +kernel
theorem dX9_stepWord_33 : decode cX9_stepWord 33 = .ok (.dup, 1) := by decide +kernel
theorem dX9_stepWord_34 : decode cX9_stepWord 34 = .ok (.getfield 23, 3) := by decide +kernel
theorem dX9_stepWord_37 : decode cX9_stepWord 37 = .ok (.iconst 1, 1) := by decide +kernel
theorem dX9_stepWord_38 : decode cX9_stepWord 38 = .ok (.iadd, 1) := by decide +kernel
theorem dX9_stepWord_39 : decode cX9_stepWord 39 = .ok (.putfield 23, 3) := by decide +kernel
theorem dX9_stepWord_42 : decode cX9_stepWord 42 = .ok (.goto (-42), 3) := by decide +kernel
theorem dX9_stepWord_45 : decode cX9_stepWord 45 = .ok (.aload_n 0, 1) := by decide +kernel
theorem dX9_stepWord_46 : decode cX9_stepWord 46 = .ok (.aload_n 0, 1) := by decide +kernel
