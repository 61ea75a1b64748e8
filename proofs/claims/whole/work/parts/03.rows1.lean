theorem dX0_init_0 : decode cX0_init 0 = .ok (.aload_n 0, 1) := by decide +kernel
theorem dX0_init_1 : decode cX0_init 1 = .ok (.invokespecial 3, 3) := by decide +kernel
theorem dX0_init_4 : decode cX0_init 4 = .ok (.aload_n 0, 1) := by decide +kernel
theorem dX0_init_5 : decode cX0_init 5 = .ok (.iconst 0, 1) := by decide +kernel
theorem dX0_init_6 : decode cX0_init 6 = .ok (.putfield 9, 3) := by decide +kernel
theorem dX0_init_9 : decode cX0_init 9 = .ok (.aload_n 0, 1) := by decide +kernel
theorem dX0_init_10 : decode cX0_init 10 = .ok (.bipush 12, 2) := by decide +kernel
theorem dX0_init_12 : decode cX0_init 12 = .ok (.newarray .int, 2) := by decide +kernel
theorem dX0_init_14 : decode cX0_init 14 = .ok (.putfield 15, 3) := by decide +kernel
theorem dX0_init_17 : decode cX0_init 17 = .ok (.aload_n 0, 1) := by decide +kernel
theorem dX0_init_18 : decode cX0_init 18 = .ok (.bipush 12, 2) := by decide +kernel
theorem dX0_init_20 : decode cX0_init 20 = .ok (.newarray .int, 2) := by decide +kernel
theorem dX0_init_22 : decode cX0_init 22 = .ok (.putfield 19, 3) := by decide +kernel
theorem dX0_init_25 : decode cX0_init 25 = .ok (.aload_n 0, 1) := by decide +kernel
theorem dX0_init_26 : decode cX0_init 26 = .ok (.bipush 12, 2) := by decide +kernel
theorem dX0_init_28 : decode cX0_init 28 = .ok (.newarray .int, 2) := by decide +kernel
theorem dX0_init_30 : decode cX0_init 30 = .ok (.putfield 22, 3) := by decide +kernel
theorem dX0_init_33 : decode cX0_init 33 = .ok (.aload_n 0, 1) := by decide +kernel
theorem dX0_init_34 : decode cX0_init 34 = .ok (.bipush 12, 2) := by decide +kernel
theorem dX0_init_36 : decode cX0_init 36 = .ok (.newarray .int, 2) := by decide +kernel
theorem dX0_init_38 : decode cX0_init 38 = .ok (.putfield 25, 3) := by decide +kernel
theorem dX0_init_41 : decode cX0_init 41 = .ok (.aload_n 0, 1) := by decide +kernel
theorem dX0_init_42 : decode cX0_init 42 = .ok (.bipush 12, 2) := by decide +kernel
theorem dX0_init_44 : decode cX0_init 44 = .ok (.newarray .int, 2) := by decide +kernel
theorem dX0_init_46 : decode cX0_init 46 = .ok (.putfield 28, 3) := by decide +kernel
theorem dX0_init_49 : decode cX0_init 49 = .ok (.aload_n 0, 1) := by decide +kernel
theorem dX0_init_50 : decode cX0_init 50 = .ok (.bipush 12, 2) := by decide +kernel
theorem dX0_init_52 : decode cX0_init 52 = .ok (.newarray .int, 2) := by decide +kernel
theorem dX0_init_54 : decode cX0_init 54 = .ok (.putfield 31, 3) := by decide +kernel
theorem dX0_init_57 : decode cX0_init 57 = .ok (.aload_n 0, 1) := by decide +kernel
theorem dX0_init_58 : decode cX0_init 58 = .ok (.bipush 12, 2) := by decide +kernel
theorem dX0_init_60 : decode cX0_init 60 = .ok (.newarray .int, 2) := by decide +kernel
theorem dX0_init_62 : decode cX0_init 62 = .ok (.putfield 34, 3) := by decide +kernel
theorem dX0_init_65 : decode cX0_init 65 = .ok (.aload_n 0, 1) := by decide +kernel
theorem dX0_init_66 : decode cX0_init 66 = .ok (.iconst 0, 1) := by decide +kernel
theorem dX0_init_67 : decode cX0_init 67 = .ok (.putfield 37, 3) := by decide +kernel
theorem dX0_init_70 : decode cX0_init 70 = .ok (.aload_n 0, 1) := by decide +kernel
theorem dX0_init_71 : decode cX0_init 71 = .ok (.bipush 12, 2) := by decide +kernel
theorem dX0_init_73 : decode cX0_init 73 = .ok (.newarray .int, 2) := by decide +kernel
theorem dX0_init_75 : decode cX0_init 75 = .ok (.putfield 41, 3) := by decide +kernel
theorem dX0_init_78 : decode cX0_init 78 = .ok (.return_, 1) := by decide +kernel
set_option maxRecDepth 20000 in
theorem ggX0_copyFrom_X11_copyRow : GoodIn wsX0_copyFrom wsX11_copyRow := goodIn_r _ [13, 14, 15, 16, 17, 18, 19, 20, 21] (by decide +kernel) (by decide +kernel)
set_option maxRecDepth 20000 in
theorem gX0_copyFrom_X11_copyRow_n44 : GoodIn wsX0_copyFrom (wsX11_copyRow) := ggX0_copyFrom_X11_copyRow
theorem dX0_copyFrom_0 : decode cX0_copyFrom 0 = .ok (.aload_n 0, 1) := by decide +kernel
theorem dX0_copyFrom_1 : decode cX0_copyFrom 1 = .ok (.aload_n 1, 1) := by decide +kernel
theorem dX0_copyFrom_2 : decode cX0_copyFrom 2 = .ok (.getfield 9, 3) := by decide +kernel
theorem dX0_copyFrom_5 : decode cX0_copyFrom 5 = .ok (.putfield 9, 3) := by decide +kernel
theorem dX0_copyFrom_8 : decode cX0_copyFrom 8 = .ok (.aload_n 0, 1) := by decide +kernel
theorem dX0_copyFrom_9 : decode cX0_copyFrom 9 = .ok (.aload_n 1, 1) := by decide +kernel
theorem dX0_copyFrom_10 : decode cX0_copyFrom 10 = .ok (.getfield 37, 3) := by decide +kernel
theorem dX0_copyFrom_13 : decode cX0_copyFrom 13 = .ok (.putfield 37, 3) := by decide +kernel
theorem dX0_copyFrom_16 : decode cX0_copyFrom 16 = .ok (.aload_n 1, 1) := by decide +kernel
theorem dX0_copyFrom_17 : decode cX0_copyFrom 17 = .ok (.getfield 15, 3) := by decide +kernel
theorem dX0_copyFrom_20 : decode cX0_copyFrom 20 = .ok (.aload_n 0, 1) := by decide +kernel
theorem dX0_copyFrom_21 : decode cX0_copyFrom 21 = .ok (.getfield 15, 3) := by decide +kernel
theorem dX0_copyFrom_24 : decode cX0_copyFrom 24 = .ok (.invokestatic 44, 3) := by decide +kernel
theorem dX0_copyFrom_27 : decode cX0_copyFrom 27 = .ok (.aload_n 1, 1) := by decide +kernel
theorem dX0_copyFrom_28 : decode cX0_copyFrom 28 = .ok (.getfield 19, 3) := by decide +kernel
theorem dX0_copyFrom_31 : decode cX0_copyFrom 31 = .ok (.aload_n 0, 1) := by decide +kernel
theorem dX0_copyFrom_32 : decode cX0_copyFrom 32 = .ok (.getfield 19, 3) := by decide +kernel
theorem dX0_copyFrom_35 : decode cX0_copyFrom 35 = .ok (.invokestatic 44, 3) := by decide +kernel
theorem dX0_copyFrom_38 : decode cX0_copyFrom 38 = .ok (.aload_n 1, 1) := by decide +kernel
theorem dX0_copyFrom_39 : decode cX0_copyFrom 39 = .ok (.getfield 22, 3) := by decide +kernel
theorem dX0_copyFrom_42 : decode cX0_copyFrom 42 = .ok (.aload_n 0, 1) := by decide +kernel
theorem dX0_copyFrom_43 : decode cX0_copyFrom 43 = .ok (.getfield 22, 3) := by decide +kernel
theorem dX0_copyFrom_46 : decode cX0_copyFrom 46 = .ok (.invokestatic 44, 3) := by decide +kernel
theorem dX0_copyFrom_49 : decode cX0_copyFrom 49 = .ok (.aload_n 1, 1) := by decide +kernel
theorem dX0_copyFrom_50 : decode cX0_copyFrom 50 = .ok (.getfield 25, 3) := by decide +kernel
theorem dX0_copyFrom_53 : decode cX0_copyFrom 53 = .ok (.aload_n 0, 1) := by decide +kernel
theorem dX0_copyFrom_54 : decode cX0_copyFrom 54 = .ok (.getfield 25, 3) := by decide +kernel
theorem dX0_copyFrom_57 : decode cX0_copyFrom 57 = .ok (.invokestatic 44, 3) := by decide +kernel
theorem dX0_copyFrom_60 : decode cX0_copyFrom 60 = .ok (.aload_n 1, 1) := by decide +kernel
theorem dX0_copyFrom_61 : decode cX0_copyFrom 61 = .ok (.getfield 28, 3) := by decide +kernel
theorem dX0_copyFrom_64 : decode cX0_copyFrom 64 = .ok (.aload_n 0, 1) := by decide +kernel
theorem dX0_copyFrom_65 : decode cX0_copyFrom 65 = .ok (.getfield 28, 3) := by decide +kernel
theorem dX0_copyFrom_68 : decode cX0_copyFrom 68 = .ok (.invokestatic 44, 3) := by decide +kernel
theorem dX0_copyFrom_71 : decode cX0_copyFrom 71 = .ok (.aload_n 1, 1) := by decide +kernel
theorem dX0_copyFrom_72 : decode cX0_copyFrom 72 = .ok (.getfield 31, 3) := by decide +kernel
theorem dX0_copyFrom_75 : decode cX0_copyFrom 75 = .ok (.aload_n 0, 1) := by decide +kernel
theorem dX0_copyFrom_76 : decode cX0_copyFrom 76 = .ok (.getfield 31, 3) := by decide +kernel
theorem dX0_copyFrom_79 : decode cX0_copyFrom 79 = .ok (.invokestatic 44, 3) := by decide +kernel
theorem dX0_copyFrom_82 : decode cX0_copyFrom 82 = .ok (.aload_n 1, 1) := by decide +kernel
theorem dX0_copyFrom_83 : decode cX0_copyFrom 83 = .ok (.getfield 34, 3) := by decide +kernel
theorem dX0_copyFrom_86 : decode cX0_copyFrom 86 = .ok (.aload_n 0, 1) := by decide +kernel
theorem dX0_copyFrom_87 : decode cX0_copyFrom 87 = .ok (.getfield 34, 3) := by decide +kernel
theorem dX0_copyFrom_90 : decode cX0_copyFrom 90 = .ok (.invokestatic 44, 3) := by decide +kernel
theorem dX0_copyFrom_93 : decode cX0_copyFrom 93 = .ok (.aload_n 1, 1) := by decide +kernel
theorem dX0_copyFrom_94 : decode cX0_copyFrom 94 = .ok (.getfield 41, 3) := by decide +kernel
theorem dX0_copyFrom_97 : decode cX0_copyFrom 97 = .ok (.aload_n 0, 1) := by decide +kernel
theorem dX0_copyFrom_98 : decode cX0_copyFrom 98 = .ok (.getfield 41, 3) := by decide +kernel
theorem dX0_copyFrom_101 : decode cX0_copyFrom 101 = .ok (.invokestatic 44, 3) := by decide +kernel
theorem dX0_copyFrom_104 : decode cX0_copyFrom 104 = .ok (.return_, 1) := by decide +kernel
set_option maxRecDepth 20000 in
theorem ggX0_enter_X0_takeOff : GoodIn wsX0_enter wsX0_takeOff := goodIn_r _ [12, 13, 14, 15, 16, 17, 18, 19, 20, 21, 22, 23, 24] (by decide +kernel) (by decide +kernel)
set_option maxRecDepth 20000 in
theorem gX0_enter_X0_takeOff : GoodIn wsX0_enter (wsV RX0 48 RX0 yX0_takeOff wsX0_takeOff) := goodIn_app (goodIn_of _ (by decide +kernel)) ggX0_enter_X0_takeOff
theorem dX0_enter_0 : decode cX0_enter 0 = .ok (.aload_n 0, 1) := by decide +kernel
theorem dX0_enter_1 : decode cX0_enter 1 = .ok (.getfield 9, 3) := by decide +kernel
theorem dX0_enter_4 : decode cX0_enter 4 = .ok (.bipush 12, 2) := by decide +kernel
theorem dX0_enter_6 : decode cX0_enter 6 = .ok (.if_icmp .lt 5, 3) := by decide +kernel
theorem dX0_enter_9 : decode cX0_enter 9 = .ok (.iconst (-1), 1) := by decide +kernel
theorem dX0_enter_10 : decode cX0_enter 10 = .ok (.ireturn, 1) := by decide +kernel
theorem dX0_enter_11 : decode cX0_enter 11 = .ok (.aload_n 0, 1) := by decide +kernel
theorem dX0_enter_12 : decode cX0_enter 12 = .ok (.getfield 15, 3) := by decide +kernel
theorem dX0_enter_15 : decode cX0_enter 15 = .ok (.aload_n 0, 1) := by decide +kernel
theorem dX0_enter_16 : decode cX0_enter 16 = .ok (.getfield 9, 3) := by decide +kernel
theorem dX0_enter_19 : decode cX0_enter 19 = .ok (.iload_n 1, 1) := by decide +kernel
theorem dX0_enter_20 : decode cX0_enter 20 = .ok (.iastore, 1) := by decide +kernel
theorem dX0_enter_21 : decode cX0_enter 21 = .ok (.aload_n 0, 1) := by decide +kernel
theorem dX0_enter_22 : decode cX0_enter 22 = .ok (.getfield 19, 3) := by decide +kernel
theorem dX0_enter_25 : decode cX0_enter 25 = .ok (.aload_n 0, 1) := by decide +kernel
theorem dX0_enter_26 : decode cX0_enter 26 = .ok (.getfield 9, 3) := by decide +kernel
theorem dX0_enter_29 : decode cX0_enter 29 = .ok (.iload_n 2, 1) := by decide +kernel
theorem dX0_enter_30 : decode cX0_enter 30 = .ok (.iastore, 1) := by decide +kernel
theorem dX0_enter_31 : decode cX0_enter 31 = .ok (.aload_n 0, 1) := by decide +kernel
theorem dX0_enter_32 : decode cX0_enter 32 = .ok (.getfield 22, 3) := by decide +kernel
theorem dX0_enter_35 : decode cX0_enter 35 = .ok (.aload_n 0, 1) := by decide +kernel
theorem dX0_enter_36 : decode cX0_enter 36 = .ok (.getfield 9, 3) := by decide +kernel
theorem dX0_enter_39 : decode cX0_enter 39 = .ok (.iload_n 3, 1) := by decide +kernel
theorem dX0_enter_40 : decode cX0_enter 40 = .ok (.iastore, 1) := by decide +kernel
theorem dX0_enter_41 : decode cX0_enter 41 = .ok (.aload_n 0, 1) := by decide +kernel
theorem dX0_enter_42 : decode cX0_enter 42 = .ok (.getfield 25, 3) := by decide +kernel
theorem dX0_enter_45 : decode cX0_enter 45 = .ok (.aload_n 0, 1) := by decide +kernel
theorem dX0_enter_46 : decode cX0_enter 46 = .ok (.getfield 9, 3) := by decide +kernel
theorem dX0_enter_49 : decode cX0_enter 49 = .ok (.iload 4, 2) := by decide +kernel
theorem dX0_enter_51 : decode cX0_enter 51 = .ok (.iastore, 1) := by decide +kernel
theorem dX0_enter_52 : decode cX0_enter 52 = .ok (.aload_n 0, 1) := by decide +kernel
theorem dX0_enter_53 : decode cX0_enter 53 = .ok (.getfield 28, 3) := by decide +kernel
theorem dX0_enter_56 : decode cX0_enter 56 = .ok (.aload_n 0, 1) := by decide +kernel
theorem dX0_enter_57 : decode cX0_enter 57 = .ok (.getfield 9, 3) := by decide +kernel
theorem dX0_enter_60 : decode cX0_enter 60 = .ok (.iconst 0, 1) := by decide +kernel
theorem dX0_enter_61 : decode cX0_enter 61 = .ok (.iastore, 1) := by decide +kernel
theorem dX0_enter_62 : decode cX0_enter 62 = .ok (.aload_n 0, 1) := by decide +kernel
theorem dX0_enter_63 : decode cX0_enter 63 = .ok (.getfield 41, 3) := by decide +kernel
theorem dX0_enter_66 : decode cX0_enter 66 = .ok (.aload_n 0, 1) := by decide +kernel
theorem dX0_enter_67 : decode cX0_enter 67 = .ok (.getfield 9, 3) := by decide +kernel
theorem dX0_enter_70 : decode cX0_enter 70 = .ok (.iconst 2, 1) := by decide +kernel
theorem dX0_enter_71 : decode cX0_enter 71 = .ok (.iastore, 1) := by decide +kernel
theorem dX0_enter_72 : decode cX0_enter 72 = .ok (.aload_n 0, 1) := by decide +kernel
theorem dX0_enter_73 : decode cX0_enter 73 = .ok (.aload_n 0, 1) := by decide +kernel
theorem dX0_enter_74 : decode cX0_enter 74 = .ok (.getfield 9, 3) := by decide +kernel
theorem dX0_enter_77 : decode cX0_enter 77 = .ok (.invokevirtual 48, 3) := by decide +kernel
theorem dX0_enter_80 : decode cX0_enter 80 = .ok (.aload_n 0, 1) := by decide +kernel
theorem dX0_enter_81 : decode cX0_enter 81 = .ok (.dup, 1) := by decide +kernel
theorem dX0_enter_82 : decode cX0_enter 82 = .ok (.getfield 9, 3) := by decide +kernel
theorem dX0_enter_85 : decode cX0_enter 85 = .ok (.iconst 1, 1) := by decide +kernel
theorem dX0_enter_86 : decode cX0_enter 86 = .ok (.iadd, 1) := by decide +kernel
theorem dX0_enter_87 : decode cX0_enter 87 = .ok (.putfield 9, 3) := by decide +kernel
theorem dX0_enter_90 : decode cX0_enter 90 = .ok (.aload_n 0, 1) := by decide +kernel
theorem dX0_enter_91 : decode cX0_enter 91 = .ok (.getfield 9, 3) := by decide +kernel
theorem dX0_enter_94 : decode cX0_enter 94 = .ok (.iconst 1, 1) := by decide +kernel
theorem dX0_enter_95 : decode cX0_enter 95 = .ok (.isub, 1) := by decide +kernel
theorem dX0_enter_96 : decode cX0_enter 96 = .ok (.ireturn, 1) := by decide +kernel
theorem dX0_dropAll_0 : decode cX0_dropAll 0 = .ok (.aload_n 0, 1) := by decide +kernel
theorem dX0_dropAll_1 : decode cX0_dropAll 1 = .ok (.iconst 0, 1) := by decide +kernel
theorem dX0_dropAll_2 : decode cX0_dropAll 2 = .ok (.putfield 9, 3) := by decide +kernel
theorem dX0_dropAll_5 : decode cX0_dropAll 5 = .ok (.aload_n 0, 1) := by decide +kernel
theorem dX0_dropAll_6 : decode cX0_dropAll 6 = .ok (.iconst 0, 1) := by decide +kernel
theorem dX0_dropAll_7 : decode cX0_dropAll 7 = .ok (.putfield 37, 3) := by decide +kernel
theorem dX0_dropAll_10 : decode cX0_dropAll 10 = .ok (.return_, 1) := by decide +kernel
theorem dX0_keepPlan_0 : decode cX0_keepPlan 0 = .ok (.aload_n 0, 1) := by decide +kernel
theorem dX0_keepPlan_1 : decode cX0_keepPlan 1 = .ok (.iconst 1, 1) := by decide +kernel
theorem dX0_keepPlan_2 : decode cX0_keepPlan 2 = .ok (.putfield 37, 3) := by decide +kernel
theorem dX0_keepPlan_5 : decode cX0_keepPlan 5 = .ok (.iconst 0, 1) := by decide +kernel
theorem dX0_keepPlan_6 : decode cX0_keepPlan 6 = .ok (.istore_n 2, 1) := by decide +kernel
theorem dX0_keepPlan_7 : decode cX0_keepPlan 7 = .ok (.iload_n 2, 1) := by decide +kernel
theorem dX0_keepPlan_8 : decode cX0_keepPlan 8 = .ok (.aload_n 0, 1) := by decide +kernel
theorem dX0_keepPlan_9 : decode cX0_keepPlan 9 = .ok (.getfield 9, 3) := by decide +kernel
theorem dX0_keepPlan_12 : decode cX0_keepPlan 12 = .ok (.if_icmp .ge 16, 3) := by decide +kernel
theorem dX0_keepPlan_15 : decode cX0_keepPlan 15 = .ok (.aload_n 0, 1) := by decide +kernel
theorem dX0_keepPlan_16 : decode cX0_keepPlan 16 = .ok (.getfield 41, 3) := by decide +kernel
theorem dX0_keepPlan_19 : decode cX0_keepPlan 19 = .ok (.iload_n 2, 1) := by decide +kernel
theorem dX0_keepPlan_20 : decode cX0_keepPlan 20 = .ok (.iconst 2, 1) := by decide +kernel
theorem dX0_keepPlan_21 : decode cX0_keepPlan 21 = .ok (.iastore, 1) := by decide +kernel
theorem dX0_keepPlan_22 : decode cX0_keepPlan 22 = .ok (.iinc 2 1, 3) := by decide +kernel
theorem dX0_keepPlan_25 : decode cX0_keepPlan 25 = .ok (.goto (-18), 3) := by decide +kernel
theorem dX0_keepPlan_28 : decode cX0_keepPlan 28 = .ok (.iconst 0, 1) := by decide +kernel
theorem dX0_keepPlan_29 : decode cX0_keepPlan 29 = .ok (.istore_n 2, 1) := by decide +kernel
theorem dX0_keepPlan_30 : decode cX0_keepPlan 30 = .ok (.iload_n 2, 1) := by decide +kernel
theorem dX0_keepPlan_31 : decode cX0_keepPlan 31 = .ok (.aload_n 1, 1) := by decide +kernel
theorem dX0_keepPlan_32 : decode cX0_keepPlan 32 = .ok (.getfield 52, 3) := by decide +kernel
theorem dX0_keepPlan_35 : decode cX0_keepPlan 35 = .ok (.if_icmp .ge 26, 3) := by decide +kernel
theorem dX0_keepPlan_38 : decode cX0_keepPlan 38 = .ok (.aload_n 0, 1) := by decide +kernel
theorem dX0_keepPlan_39 : decode cX0_keepPlan 39 = .ok (.getfield 41, 3) := by decide +kernel
theorem dX0_keepPlan_42 : decode cX0_keepPlan 42 = .ok (.aload_n 1, 1) := by decide +kernel
theorem dX0_keepPlan_43 : decode cX0_keepPlan 43 = .ok (.getfield 55, 3) := by decide +kernel
theorem dX0_keepPlan_46 : decode cX0_keepPlan 46 = .ok (.iload_n 2, 1) := by decide +kernel
theorem dX0_keepPlan_47 : decode cX0_keepPlan 47 = .ok (.iaload, 1) := by decide +kernel
theorem dX0_keepPlan_48 : decode cX0_keepPlan 48 = .ok (.aload_n 1, 1) := by decide +kernel
theorem dX0_keepPlan_49 : decode cX0_keepPlan 49 = .ok (.getfield 58, 3) := by decide +kernel
theorem dX0_keepPlan_52 : decode cX0_keepPlan 52 = .ok (.iload_n 2, 1) := by decide +kernel
theorem dX0_keepPlan_53 : decode cX0_keepPlan 53 = .ok (.iaload, 1) := by decide +kernel
theorem dX0_keepPlan_54 : decode cX0_keepPlan 54 = .ok (.iastore, 1) := by decide +kernel
theorem dX0_keepPlan_55 : decode cX0_keepPlan 55 = .ok (.iinc 2 1, 3) := by decide +kernel
theorem dX0_keepPlan_58 : decode cX0_keepPlan 58 = .ok (.goto (-28), 3) := by decide +kernel
theorem dX0_keepPlan_61 : decode cX0_keepPlan 61 = .ok (.return_, 1) := by decide +kernel
theorem dX0_takeOff_0 : decode cX0_takeOff 0 = .ok (.aload_n 0, 1) := by decide +kernel
theorem dX0_takeOff_1 : decode cX0_takeOff 1 = .ok (.getfield 31, 3) := by decide +kernel
theorem dX0_takeOff_4 : decode cX0_takeOff 4 = .ok (.iload_n 1, 1) := by decide +kernel
theorem dX0_takeOff_5 : decode cX0_takeOff 5 = .ok (.iconst (-1), 1) := by decide +kernel
theorem dX0_takeOff_6 : decode cX0_takeOff 6 = .ok (.iastore, 1) := by decide +kernel
theorem dX0_takeOff_7 : decode cX0_takeOff 7 = .ok (.aload_n 0, 1) := by decide +kernel
theorem dX0_takeOff_8 : decode cX0_takeOff 8 = .ok (.getfield 34, 3) := by decide +kernel
theorem dX0_takeOff_11 : decode cX0_takeOff 11 = .ok (.iload_n 1, 1) := by decide +kernel
theorem dX0_takeOff_12 : decode cX0_takeOff 12 = .ok (.iconst (-1), 1) := by decide +kernel
theorem dX0_takeOff_13 : decode cX0_takeOff 13 = .ok (.iastore, 1) := by decide +kernel
theorem dX0_takeOff_14 : decode cX0_takeOff 14 = .ok (.return_, 1) := by decide +kernel
set_option maxRecDepth 20000 in
theorem ggX0_has_X11_within : GoodIn wsX0_has wsX11_within := goodIn_r _ [4] (by decide +kernel) (by decide +kernel)
set_option maxRecDepth 20000 in
theorem gX0_has_X11_within_n61 : GoodIn wsX0_has (wsX11_within) := ggX0_has_X11_within
theorem dX0_has_0 : decode cX0_has 0 = .ok (.iload_n 1, 1) := by decide +kernel
theorem dX0_has_1 : decode cX0_has 1 = .ok (.iconst 0, 1) := by decide +kernel
theorem dX0_has_2 : decode cX0_has 2 = .ok (.aload_n 0, 1) := by decide +kernel
theorem dX0_has_3 : decode cX0_has 3 = .ok (.getfield 9, 3) := by decide +kernel
theorem dX0_has_6 : decode cX0_has 6 = .ok (.iconst 1, 1) := by decide +kernel
theorem dX0_has_7 : decode cX0_has 7 = .ok (.isub, 1) := by decide +kernel
theorem dX0_has_8 : decode cX0_has 8 = .ok (.invokestatic 61, 3) := by decide +kernel
theorem dX0_has_11 : decode cX0_has 11 = .ok (.ireturn, 1) := by decide +kernel
set_option maxRecDepth 20000 in
theorem ggX0_lies_X0_has : GoodIn wsX0_lies wsX0_has := goodIn_r _ [6, 7, 8, 9, 10, 11, 12, 13, 14, 15, 16, 17, 18, 19, 20] (by decide +kernel) (by decide +kernel)
set_option maxRecDepth 20000 in
theorem gX0_lies_X0_has : GoodIn wsX0_lies (wsV RX0 65 RX0 yX0_has wsX0_has) := goodIn_app (goodIn_of _ (by decide +kernel)) ggX0_lies_X0_has
theorem dX0_lies_0 : decode cX0_lies 0 = .ok (.aload_n 0, 1) := by decide +kernel
theorem dX0_lies_1 : decode cX0_lies 1 = .ok (.iload_n 1, 1) := by decide +kernel
theorem dX0_lies_2 : decode cX0_lies 2 = .ok (.invokevirtual 65, 3) := by decide +kernel
theorem dX0_lies_5 : decode cX0_lies 5 = .ok (.ifCond .eq 17, 3) := by decide +kernel
theorem dX0_lies_8 : decode cX0_lies 8 = .ok (.aload_n 0, 1) := by decide +kernel
theorem dX0_lies_9 : decode cX0_lies 9 = .ok (.getfield 31, 3) := by decide +kernel
theorem dX0_lies_12 : decode cX0_lies 12 = .ok (.iload_n 1, 1) := by decide +kernel
theorem dX0_lies_13 : decode cX0_lies 13 = .ok (.iaload, 1) := by decide +kernel
theorem dX0_lies_14 : decode cX0_lies 14 = .ok (.iconst (-1), 1) := by decide +kernel
theorem dX0_lies_15 : decode cX0_lies 15 = .ok (.if_icmp .eq 7, 3) := by decide +kernel
theorem dX0_lies_18 : decode cX0_lies 18 = .ok (.iconst 1, 1) := by decide +kernel
theorem dX0_lies_19 : decode cX0_lies 19 = .ok (.goto 4, 3) := by decide +kernel
theorem dX0_lies_22 : decode cX0_lies 22 = .ok (.iconst 0, 1) := by decide +kernel
theorem dX0_lies_23 : decode cX0_lies 23 = .ok (.ireturn, 1) := by decide +kernel
set_option maxRecDepth 20000 in
theorem ggX0_waits_X0_has : GoodIn wsX0_waits wsX0_has := goodIn_r _ [6, 7, 8, 9, 10, 11, 12, 13, 14, 15, 16, 17, 18, 19, 20] (by decide +kernel) (by decide +kernel)
set_option maxRecDepth 20000 in
theorem gX0_waits_X0_has : GoodIn wsX0_waits (wsV RX0 65 RX0 yX0_has wsX0_has) := goodIn_app (goodIn_of _ (by decide +kernel)) ggX0_waits_X0_has
theorem dX0_waits_0 : decode cX0_waits 0 = .ok (.aload_n 0, 1) := by decide +kernel
theorem dX0_waits_1 : decode cX0_waits 1 = .ok (.iload_n 1, 1) := by decide +kernel
theorem dX0_waits_2 : decode cX0_waits 2 = .ok (.invokevirtual 65, 3) := by decide +kernel
theorem dX0_waits_5 : decode cX0_waits 5 = .ok (.ifCond .eq 17, 3) := by decide +kernel
theorem dX0_waits_8 : decode cX0_waits 8 = .ok (.aload_n 0, 1) := by decide +kernel
theorem dX0_waits_9 : decode cX0_waits 9 = .ok (.getfield 31, 3) := by decide +kernel
theorem dX0_waits_12 : decode cX0_waits 12 = .ok (.iload_n 1, 1) := by decide +kernel
theorem dX0_waits_13 : decode cX0_waits 13 = .ok (.iaload, 1) := by decide +kernel
theorem dX0_waits_14 : decode cX0_waits 14 = .ok (.iconst (-1), 1) := by decide +kernel
theorem dX0_waits_15 : decode cX0_waits 15 = .ok (.if_icmp .ne 7, 3) := by decide +kernel
theorem dX0_waits_18 : decode cX0_waits 18 = .ok (.iconst 1, 1) := by decide +kernel
theorem dX0_waits_19 : decode cX0_waits 19 = .ok (.goto 4, 3) := by decide +kernel
theorem dX0_waits_22 : decode cX0_waits 22 = .ok (.iconst 0, 1) := by decide +kernel
theorem dX0_waits_23 : decode cX0_waits 23 = .ok (.ireturn, 1) := by decide +kernel
theorem dX0_room_0 : decode cX0_room 0 = .ok (.aload_n 0, 1) := by decide +kernel
theorem dX0_room_1 : decode cX0_room 1 = .ok (.getfield 19, 3) := by decide +kernel
theorem dX0_room_4 : decode cX0_room 4 = .ok (.iload_n 1, 1) := by decide +kernel
theorem dX0_room_5 : decode cX0_room 5 = .ok (.iaload, 1) := by decide +kernel
theorem dX0_room_6 : decode cX0_room 6 = .ok (.aload_n 0, 1) := by decide +kernel
theorem dX0_room_7 : decode cX0_room 7 = .ok (.getfield 19, 3) := by decide +kernel
theorem dX0_room_10 : decode cX0_room 10 = .ok (.iload_n 1, 1) := by decide +kernel
theorem dX0_room_11 : decode cX0_room 11 = .ok (.iaload, 1) := by decide +kernel
theorem dX0_room_12 : decode cX0_room 12 = .ok (.aload_n 0, 1) := by decide +kernel
theorem dX0_room_13 : decode cX0_room 13 = .ok (.getfield 28, 3) := by decide +kernel
theorem dX0_room_16 : decode cX0_room 16 = .ok (.iload_n 1, 1) := by decide +kernel
theorem dX0_room_17 : decode cX0_room 17 = .ok (.iaload, 1) := by decide +kernel
theorem dX0_room_18 : decode cX0_room 18 = .ok (.imul, 1) := by decide +kernel
theorem dX0_room_19 : decode cX0_room 19 = .ok (.bipush 10, 2) := by decide +kernel
theorem dX0_room_21 : decode cX0_room 21 = .ok (.idiv, 1) := by decide +kernel
theorem dX0_room_22 : decode cX0_room 22 = .ok (.isub, 1) := by decide +kernel
theorem dX0_room_23 : decode cX0_room 23 = .ok (.ireturn, 1) := by decide +kernel
theorem dX0_value_0 : decode cX0_value 0 = .ok (.aload_n 0, 1) := by decide +kernel
theorem dX0_value_1 : decode cX0_value 1 = .ok (.getfield 25, 3) := by decide +kernel
theorem dX0_value_4 : decode cX0_value 4 = .ok (.iload_n 1, 1) := by decide +kernel
theorem dX0_value_5 : decode cX0_value 5 = .ok (.iaload, 1) := by decide +kernel
theorem dX0_value_6 : decode cX0_value 6 = .ok (.aload_n 0, 1) := by decide +kernel
theorem dX0_value_7 : decode cX0_value 7 = .ok (.getfield 25, 3) := by decide +kernel
theorem dX0_value_10 : decode cX0_value 10 = .ok (.iload_n 1, 1) := by decide +kernel
theorem dX0_value_11 : decode cX0_value 11 = .ok (.iaload, 1) := by decide +kernel
theorem dX0_value_12 : decode cX0_value 12 = .ok (.aload_n 0, 1) := by decide +kernel
theorem dX0_value_13 : decode cX0_value 13 = .ok (.getfield 28, 3) := by decide +kernel
theorem dX0_value_16 : decode cX0_value 16 = .ok (.iload_n 1, 1) := by decide +kernel
theorem dX0_value_17 : decode cX0_value 17 = .ok (.iaload, 1) := by decide +kernel
theorem dX0_value_18 : decode cX0_value 18 = .ok (.imul, 1) := by decide +kernel
theorem dX0_value_19 : decode cX0_value 19 = .ok (.bipush 20, 2) := by decide +kernel
theorem dX0_value_21 : decode cX0_value 21 = .ok (.idiv, 1) := by decide +kernel
theorem dX0_value_22 : decode cX0_value 22 = .ok (.isub, 1) := by decide +kernel
theorem dX0_value_23 : decode cX0_value 23 = .ok (.ireturn, 1) := by decide +kernel
set_option maxRecDepth 20000 in
theorem ggX0_waiting_X0_waits : GoodIn wsX0_waiting wsX0_waits := goodIn_r _ [6, 7, 8, 9, 10, 5, 11, 1, 12, 13, 14, 15, 16, 17, 18, 19, 20, 21, 22, 23, 24] (by decide +kernel) (by decide +kernel)
set_option maxRecDepth 20000 in
theorem gX0_waiting_X0_waits : GoodIn wsX0_waiting (wsV RX0 69 RX0 yX0_waits wsX0_waits) := goodIn_app (goodIn_of _ (by decide +kernel)) ggX0_waiting_X0_waits
theorem dX0_waiting_0 : decode cX0_waiting 0 = .ok (.iconst 0, 1) := by decide +kernel
theorem dX0_waiting_1 : decode cX0_waiting 1 = .ok (.istore_n 1, 1) := by decide +kernel
theorem dX0_waiting_2 : decode cX0_waiting 2 = .ok (.iconst 0, 1) := by decide +kernel
theorem dX0_waiting_3 : decode cX0_waiting 3 = .ok (.istore_n 2, 1) := by decide +kernel
theorem dX0_waiting_4 : decode cX0_waiting 4 = .ok (.iload_n 2, 1) := by decide +kernel
theorem dX0_waiting_5 : decode cX0_waiting 5 = .ok (.aload_n 0, 1) := by decide +kernel
theorem dX0_waiting_6 : decode cX0_waiting 6 = .ok (.getfield 9, 3) := by decide +kernel
theorem dX0_waiting_9 : decode cX0_waiting 9 = .ok (.if_icmp .ge 25, 3) := by decide +kernel
theorem dX0_waiting_12 : decode cX0_waiting 12 = .ok (.iload_n 1, 1) := by decide +kernel
theorem dX0_waiting_13 : decode cX0_waiting 13 = .ok (.aload_n 0, 1) := by decide +kernel
theorem dX0_waiting_14 : decode cX0_waiting 14 = .ok (.iload_n 2, 1) := by decide +kernel
theorem dX0_waiting_15 : decode cX0_waiting 15 = .ok (.invokevirtual 69, 3) := by decide +kernel
theorem dX0_waiting_18 : decode cX0_waiting 18 = .ok (.ifCond .eq 7, 3) := by decide +kernel
theorem dX0_waiting_21 : decode cX0_waiting 21 = .ok (.iconst 1, 1) := by decide +kernel
theorem dX0_waiting_22 : decode cX0_waiting 22 = .ok (.goto 4, 3) := by decide +kernel
theorem dX0_waiting_25 : decode cX0_waiting 25 = .ok (.iconst 0, 1) := by decide +kernel
theorem dX0_waiting_26 : decode cX0_waiting 26 = .ok (.iadd, 1) := by decide +kernel
theorem dX0_waiting_27 : decode cX0_waiting 27 = .ok (.istore_n 1, 1) := by decide +kernel
theorem dX0_waiting_28 : decode cX0_waiting 28 = .ok (.iinc 2 1, 3) := by decide +kernel
theorem dX0_waiting_31 : decode cX0_waiting 31 = .ok (.goto (-27), 3) := by decide +kernel
theorem dX0_waiting_34 : decode cX0_waiting 34 = .ok (.iload_n 1, 1) := by decide +kernel
theorem dX0_waiting_35 : decode cX0_waiting 35 = .ok (.ireturn, 1) := by decide +kernel
set_option maxRecDepth 20000 in
theorem ggX0_roomOn_X0_room : GoodIn wsX0_roomOn wsX0_room := goodIn_r _ [7, 8, 9, 10, 11, 12, 13, 14, 15, 16, 17, 18, 19] (by decide +kernel) (by decide +kernel)
set_option maxRecDepth 20000 in
theorem gX0_roomOn_X0_room : GoodIn wsX0_roomOn (wsV RX0 72 RX0 yX0_room wsX0_room) := goodIn_app (goodIn_of _ (by decide +kernel)) ggX0_roomOn_X0_room
theorem dX0_roomOn_0 : decode cX0_roomOn 0 = .ok (.iconst 0, 1) := by decide +kernel
theorem dX0_roomOn_1 : decode cX0_roomOn 1 = .ok (.istore_n 2, 1) := by decide +kernel
theorem dX0_roomOn_2 : decode cX0_roomOn 2 = .ok (.iconst 0, 1) := by decide +kernel
theorem dX0_roomOn_3 : decode cX0_roomOn 3 = .ok (.istore_n 3, 1) := by decide +kernel
theorem dX0_roomOn_4 : decode cX0_roomOn 4 = .ok (.iload_n 3, 1) := by decide +kernel
theorem dX0_roomOn_5 : decode cX0_roomOn 5 = .ok (.aload_n 0, 1) := by decide +kernel
theorem dX0_roomOn_6 : decode cX0_roomOn 6 = .ok (.getfield 9, 3) := by decide +kernel
theorem dX0_roomOn_9 : decode cX0_roomOn 9 = .ok (.if_icmp .ge 31, 3) := by decide +kernel
theorem dX0_roomOn_12 : decode cX0_roomOn 12 = .ok (.iload_n 2, 1) := by decide +kernel
theorem dX0_roomOn_13 : decode cX0_roomOn 13 = .ok (.aload_n 0, 1) := by decide +kernel
theorem dX0_roomOn_14 : decode cX0_roomOn 14 = .ok (.getfield 31, 3) := by decide +kernel
theorem dX0_roomOn_17 : decode cX0_roomOn 17 = .ok (.iload_n 3, 1) := by decide +kernel
theorem dX0_roomOn_18 : decode cX0_roomOn 18 = .ok (.iaload, 1) := by decide +kernel
theorem dX0_roomOn_19 : decode cX0_roomOn 19 = .ok (.iload_n 1, 1) := by decide +kernel
theorem dX0_roomOn_20 : decode cX0_roomOn 20 = .ok (.if_icmp .ne 11, 3) := by decide +kernel
theorem dX0_roomOn_23 : decode cX0_roomOn 23 = .ok (.aload_n 0, 1) := by decide +kernel
theorem dX0_roomOn_24 : decode cX0_roomOn 24 = .ok (.iload_n 3, 1) := by decide +kernel
theorem dX0_roomOn_25 : decode cX0_roomOn 25 = .ok (.invokevirtual 72, 3) := by decide +kernel
theorem dX0_roomOn_28 : decode cX0_roomOn 28 = .ok (.goto 4, 3) := by decide +kernel
theorem dX0_roomOn_31 : decode cX0_roomOn 31 = .ok (.iconst 0, 1) := by decide +kernel
theorem dX0_roomOn_32 : decode cX0_roomOn 32 = .ok (.iadd, 1) := by decide +kernel
theorem dX0_roomOn_33 : decode cX0_roomOn 33 = .ok (.istore_n 2, 1) := by decide +kernel
theorem dX0_roomOn_34 : decode cX0_roomOn 34 = .ok (.iinc 3 1, 3) := by decide +kernel
theorem dX0_roomOn_37 : decode cX0_roomOn 37 = .ok (.goto (-33), 3) := by decide +kernel
theorem dX0_roomOn_40 : decode cX0_roomOn 40 = .ok (.iload_n 2, 1) := by decide +kernel
theorem dX0_roomOn_41 : decode cX0_roomOn 41 = .ok (.ireturn, 1) := by decide +kernel
set_option maxRecDepth 20000 in
theorem ggX0_ladenRoom_X0_lies : GoodIn wsX0_ladenRoom wsX0_lies := goodIn_r _ [6, 7, 8, 9, 10, 5, 11, 1, 12, 13, 14, 21, 22, 23, 24, 25, 26, 27, 28, 29, 30] (by decide +kernel) (by decide +kernel)
set_option maxRecDepth 20000 in
theorem gX0_ladenRoom_X0_lies : GoodIn wsX0_ladenRoom (wsV RX0 76 RX0 yX0_lies wsX0_lies) := goodIn_app (goodIn_of _ (by decide +kernel)) ggX0_ladenRoom_X0_lies
set_option maxRecDepth 20000 in
theorem ggX0_ladenRoom_X0_room : GoodIn wsX0_ladenRoom wsX0_room := goodIn_r _ [18, 19, 20, 21, 22, 23, 24, 25, 26, 27, 28, 29, 30] (by decide +kernel) (by decide +kernel)
set_option maxRecDepth 20000 in
theorem gX0_ladenRoom_X0_room : GoodIn wsX0_ladenRoom (wsV RX0 72 RX0 yX0_room wsX0_room) := goodIn_app (goodIn_of _ (by decide +kernel)) ggX0_ladenRoom_X0_room
theorem dX0_ladenRoom_0 : decode cX0_ladenRoom 0 = .ok (.iconst 0, 1) := by decide +kernel
theorem dX0_ladenRoom_1 : decode cX0_ladenRoom 1 = .ok (.istore_n 1, 1) := by decide +kernel
theorem dX0_ladenRoom_2 : decode cX0_ladenRoom 2 = .ok (.iconst 0, 1) := by decide +kernel
theorem dX0_ladenRoom_3 : decode cX0_ladenRoom 3 = .ok (.istore_n 2, 1) := by decide +kernel
theorem dX0_ladenRoom_4 : decode cX0_ladenRoom 4 = .ok (.iload_n 2, 1) := by decide +kernel
theorem dX0_ladenRoom_5 : decode cX0_ladenRoom 5 = .ok (.aload_n 0, 1) := by decide +kernel
theorem dX0_ladenRoom_6 : decode cX0_ladenRoom 6 = .ok (.getfield 9, 3) := by decide +kernel
theorem dX0_ladenRoom_9 : decode cX0_ladenRoom 9 = .ok (.if_icmp .ge 29, 3) := by decide +kernel
theorem dX0_ladenRoom_12 : decode cX0_ladenRoom 12 = .ok (.iload_n 1, 1) := by decide +kernel
theorem dX0_ladenRoom_13 : decode cX0_ladenRoom 13 = .ok (.aload_n 0, 1) := by decide +kernel
theorem dX0_ladenRoom_14 : decode cX0_ladenRoom 14 = .ok (.iload_n 2, 1) := by decide +kernel
theorem dX0_ladenRoom_15 : decode cX0_ladenRoom 15 = .ok (.invokevirtual 76, 3) := by decide +kernel
theorem dX0_ladenRoom_18 : decode cX0_ladenRoom 18 = .ok (.ifCond .eq 11, 3) := by decide +kernel
theorem dX0_ladenRoom_21 : decode cX0_ladenRoom 21 = .ok (.aload_n 0, 1) := by decide +kernel
theorem dX0_ladenRoom_22 : decode cX0_ladenRoom 22 = .ok (.iload_n 2, 1) := by decide +kernel
theorem dX0_ladenRoom_23 : decode cX0_ladenRoom 23 = .ok (.invokevirtual 72, 3) := by decide +kernel
theorem dX0_ladenRoom_26 : decode cX0_ladenRoom 26 = .ok (.goto 4, 3) := by decide +kernel
theorem dX0_ladenRoom_29 : decode cX0_ladenRoom 29 = .ok (.iconst 0, 1) := by decide +kernel
theorem dX0_ladenRoom_30 : decode cX0_ladenRoom 30 = .ok (.iadd, 1) := by decide +kernel
theorem dX0_ladenRoom_31 : decode cX0_ladenRoom 31 = .ok (.istore_n 1, 1) := by decide +kernel
theorem dX0_ladenRoom_32 : decode cX0_ladenRoom 32 = .ok (.iinc 2 1, 3) := by decide +kernel
theorem dX0_ladenRoom_35 : decode cX0_ladenRoom 35 = .ok (.goto (-31), 3) := by decide +kernel
theorem dX0_ladenRoom_38 : decode cX0_ladenRoom 38 = .ok (.iload_n 1, 1) := by decide +kernel
theorem dX0_ladenRoom_39 : decode cX0_ladenRoom 39 = .ok (.ireturn, 1) := by decide +kernel
set_option maxRecDepth 20000 in
theorem ggX0_ladenWeight_X0_weightOn : GoodIn wsX0_ladenWeight wsX0_weightOn := goodIn_r _ [5, 6, 7, 8, 9, 10, 11, 12, 13, 14, 15, 16, 17, 18] (by decide +kernel) (by decide +kernel)
set_option maxRecDepth 20000 in
theorem gX0_ladenWeight_X0_weightOn : GoodIn wsX0_ladenWeight (wsV RX0 79 RX0 yX0_weightOn wsX0_weightOn) := goodIn_app (goodIn_of _ (by decide +kernel)) ggX0_ladenWeight_X0_weightOn
theorem dX0_ladenWeight_0 : decode cX0_ladenWeight 0 = .ok (.aload_n 0, 1) := by decide +kernel
theorem dX0_ladenWeight_1 : decode cX0_ladenWeight 1 = .ok (.iconst 0, 1) := by decide +kernel
theorem dX0_ladenWeight_2 : decode cX0_ladenWeight 2 = .ok (.invokevirtual 79, 3) := by decide +kernel
theorem dX0_ladenWeight_5 : decode cX0_ladenWeight 5 = .ok (.aload_n 0, 1) := by decide +kernel
theorem dX0_ladenWeight_6 : decode cX0_ladenWeight 6 = .ok (.iconst 1, 1) := by decide +kernel
theorem dX0_ladenWeight_7 : decode cX0_ladenWeight 7 = .ok (.invokevirtual 79, 3) := by decide +kernel
theorem dX0_ladenWeight_10 : decode cX0_ladenWeight 10 = .ok (.iadd, 1) := by decide +kernel
theorem dX0_ladenWeight_11 : decode cX0_ladenWeight 11 = .ok (.ireturn, 1) := by decide +kernel
set_option maxRecDepth 20000 in
theorem ggX0_tilt_X0_weightOn : GoodIn wsX0_tilt wsX0_weightOn := goodIn_r _ [5, 6, 7, 8, 9, 10, 11, 12, 13, 14, 15, 16, 17, 18] (by decide +kernel) (by decide +kernel)
set_option maxRecDepth 20000 in
theorem gX0_tilt_X0_weightOn : GoodIn wsX0_tilt (wsV RX0 79 RX0 yX0_weightOn wsX0_weightOn) := goodIn_app (goodIn_of _ (by decide +kernel)) ggX0_tilt_X0_weightOn
theorem dX0_tilt_0 : decode cX0_tilt 0 = .ok (.aload_n 0, 1) := by decide +kernel
theorem dX0_tilt_1 : decode cX0_tilt 1 = .ok (.iconst 0, 1) := by decide +kernel
theorem dX0_tilt_2 : decode cX0_tilt 2 = .ok (.invokevirtual 79, 3) := by decide +kernel
theorem dX0_tilt_5 : decode cX0_tilt 5 = .ok (.aload_n 0, 1) := by decide +kernel
theorem dX0_tilt_6 : decode cX0_tilt 6 = .ok (.iconst 1, 1) := by decide +kernel
theorem dX0_tilt_7 : decode cX0_tilt 7 = .ok (.invokevirtual 79, 3) := by decide +kernel
theorem dX0_tilt_10 : decode cX0_tilt 10 = .ok (.isub, 1) := by decide +kernel
theorem dX0_tilt_11 : decode cX0_tilt 11 = .ok (.ireturn, 1) := by decide +kernel
theorem dX0_weightOn_0 : decode cX0_weightOn 0 = .ok (.iconst 0, 1) := by decide +kernel
theorem dX0_weightOn_1 : decode cX0_weightOn 1 = .ok (.istore_n 2, 1) := by decide +kernel
theorem dX0_weightOn_2 : decode cX0_weightOn 2 = .ok (.iconst 0, 1) := by decide +kernel
theorem dX0_weightOn_3 : decode cX0_weightOn 3 = .ok (.istore_n 3, 1) := by decide +kernel
theorem dX0_weightOn_4 : decode cX0_weightOn 4 = .ok (.iload_n 3, 1) := by decide +kernel
theorem dX0_weightOn_5 : decode cX0_weightOn 5 = .ok (.aload_n 0, 1) := by decide +kernel
theorem dX0_weightOn_6 : decode cX0_weightOn 6 = .ok (.getfield 9, 3) := by decide +kernel
theorem dX0_weightOn_9 : decode cX0_weightOn 9 = .ok (.if_icmp .ge 32, 3) := by decide +kernel
theorem dX0_weightOn_12 : decode cX0_weightOn 12 = .ok (.iload_n 2, 1) := by decide +kernel
theorem dX0_weightOn_13 : decode cX0_weightOn 13 = .ok (.aload_n 0, 1) := by decide +kernel
theorem dX0_weightOn_14 : decode cX0_weightOn 14 = .ok (.getfield 34, 3) := by decide +kernel
theorem dX0_weightOn_17 : decode cX0_weightOn 17 = .ok (.iload_n 3, 1) := by decide +kernel
theorem dX0_weightOn_18 : decode cX0_weightOn 18 = .ok (.iaload, 1) := by decide +kernel
theorem dX0_weightOn_19 : decode cX0_weightOn 19 = .ok (.iload_n 1, 1) := by decide +kernel
theorem dX0_weightOn_20 : decode cX0_weightOn 20 = .ok (.if_icmp .ne 12, 3) := by decide +kernel
theorem dX0_weightOn_23 : decode cX0_weightOn 23 = .ok (.aload_n 0, 1) := by decide +kernel
theorem dX0_weightOn_24 : decode cX0_weightOn 24 = .ok (.getfield 22, 3) := by decide +kernel
theorem dX0_weightOn_27 : decode cX0_weightOn 27 = .ok (.iload_n 3, 1) := by decide +kernel
theorem dX0_weightOn_28 : decode cX0_weightOn 28 = .ok (.iaload, 1) := by decide +kernel
theorem dX0_weightOn_29 : decode cX0_weightOn 29 = .ok (.goto 4, 3) := by decide +kernel
theorem dX0_weightOn_32 : decode cX0_weightOn 32 = .ok (.iconst 0, 1) := by decide +kernel
theorem dX0_weightOn_33 : decode cX0_weightOn 33 = .ok (.iadd, 1) := by decide +kernel
theorem dX0_weightOn_34 : decode cX0_weightOn 34 = .ok (.istore_n 2, 1) := by decide +kernel
theorem dX0_weightOn_35 : decode cX0_weightOn 35 = .ok (.iinc 3 1, 3) := by decide +kernel
theorem dX0_weightOn_38 : decode cX0_weightOn 38 = .ok (.goto (-34), 3) := by decide +kernel
theorem dX0_weightOn_41 : decode cX0_weightOn 41 = .ok (.iload_n 2, 1) := by decide +kernel
theorem dX0_weightOn_42 : decode cX0_weightOn 42 = .ok (.ireturn, 1) := by decide +kernel
set_option maxRecDepth 20000 in
theorem ggX0_judged_X0_lies : GoodIn wsX0_judged wsX0_lies := goodIn_r _ [6, 7, 8, 9, 10, 5, 11, 1, 12, 13, 14, 21, 22, 23, 24, 25, 26, 27, 28, 29, 30] (by decide +kernel) (by decide +kernel)
set_option maxRecDepth 20000 in
theorem gX0_judged_X0_lies : GoodIn wsX0_judged (wsV RX0 76 RX0 yX0_lies wsX0_lies) := goodIn_app (goodIn_of _ (by decide +kernel)) ggX0_judged_X0_lies
set_option maxRecDepth 20000 in
theorem ggX0_judged_X0_value : GoodIn wsX0_judged wsX0_value := goodIn_r _ [18, 19, 20, 21, 22, 23, 24, 25, 26, 27, 28, 29, 30] (by decide +kernel) (by decide +kernel)
set_option maxRecDepth 20000 in
theorem gX0_judged_X0_value : GoodIn wsX0_judged (wsV RX0 82 RX0 yX0_value wsX0_value) := goodIn_app (goodIn_of _ (by decide +kernel)) ggX0_judged_X0_value
theorem dX0_judged_0 : decode cX0_judged 0 = .ok (.iconst 0, 1) := by decide +kernel
theorem dX0_judged_1 : decode cX0_judged 1 = .ok (.istore_n 3, 1) := by decide +kernel
theorem dX0_judged_2 : decode cX0_judged 2 = .ok (.iconst 0, 1) := by decide +kernel
theorem dX0_judged_3 : decode cX0_judged 3 = .ok (.istore 4, 2) := by decide +kernel
theorem dX0_judged_5 : decode cX0_judged 5 = .ok (.iload 4, 2) := by decide +kernel
theorem dX0_judged_7 : decode cX0_judged 7 = .ok (.aload_n 0, 1) := by decide +kernel
theorem dX0_judged_8 : decode cX0_judged 8 = .ok (.getfield 9, 3) := by decide +kernel
theorem dX0_judged_11 : decode cX0_judged 11 = .ok (.if_icmp .ge 41, 3) := by decide +kernel
theorem dX0_judged_14 : decode cX0_judged 14 = .ok (.aload_n 0, 1) := by decide +kernel
theorem dX0_judged_15 : decode cX0_judged 15 = .ok (.iload 4, 2) := by decide +kernel
theorem dX0_judged_17 : decode cX0_judged 17 = .ok (.invokevirtual 76, 3) := by decide +kernel
theorem dX0_judged_20 : decode cX0_judged 20 = .ok (.ifCond .eq 26, 3) := by decide +kernel
theorem dX0_judged_23 : decode cX0_judged 23 = .ok (.iload_n 3, 1) := by decide +kernel
theorem dX0_judged_24 : decode cX0_judged 24 = .ok (.iload_n 1, 1) := by decide +kernel
theorem dX0_judged_25 : decode cX0_judged 25 = .ok (.iload 4, 2) := by decide +kernel
theorem dX0_judged_27 : decode cX0_judged 27 = .ok (.ishr, 1) := by decide +kernel
theorem dX0_judged_28 : decode cX0_judged 28 = .ok (.iconst 1, 1) := by decide +kernel
theorem dX0_judged_29 : decode cX0_judged 29 = .ok (.iand, 1) := by decide +kernel
theorem dX0_judged_30 : decode cX0_judged 30 = .ok (.iconst 1, 1) := by decide +kernel
theorem dX0_judged_31 : decode cX0_judged 31 = .ok (.if_icmp .ne 12, 3) := by decide +kernel
theorem dX0_judged_34 : decode cX0_judged 34 = .ok (.aload_n 0, 1) := by decide +kernel
theorem dX0_judged_35 : decode cX0_judged 35 = .ok (.iload 4, 2) := by decide +kernel
theorem dX0_judged_37 : decode cX0_judged 37 = .ok (.invokevirtual 82, 3) := by decide +kernel
theorem dX0_judged_40 : decode cX0_judged 40 = .ok (.goto 4, 3) := by decide +kernel
theorem dX0_judged_43 : decode cX0_judged 43 = .ok (.iload_n 2, 1) := by decide +kernel
theorem dX0_judged_44 : decode cX0_judged 44 = .ok (.iadd, 1) := by decide +kernel
theorem dX0_judged_45 : decode cX0_judged 45 = .ok (.istore_n 3, 1) := by decide +kernel
theorem dX0_judged_46 : decode cX0_judged 46 = .ok (.iinc 4 1, 3) := by decide +kernel
theorem dX0_judged_49 : decode cX0_judged 49 = .ok (.goto (-44), 3) := by decide +kernel
theorem dX0_judged_52 : decode cX0_judged 52 = .ok (.iload_n 3, 1) := by decide +kernel
theorem dX0_judged_53 : decode cX0_judged 53 = .ok (.ireturn, 1) := by decide +kernel
theorem dX1_init_0 : decode cX1_init 0 = .ok (.aload_n 0, 1) := by decide +kernel
theorem dX1_init_1 : decode cX1_init 1 = .ok (.invokespecial 3, 3) := by decide +kernel
theorem dX1_init_4 : decode cX1_init 4 = .ok (.aload_n 0, 1) := by decide +kernel
theorem dX1_init_5 : decode cX1_init 5 = .ok (.iconst 0, 1) := by decide +kernel
theorem dX1_init_6 : decode cX1_init 6 = .ok (.putfield 9, 3) := by decide +kernel
theorem dX1_init_9 : decode cX1_init 9 = .ok (.aload_n 0, 1) := by decide +kernel
theorem dX1_init_10 : decode cX1_init 10 = .ok (.bipush 12, 2) := by decide +kernel
theorem dX1_init_12 : decode cX1_init 12 = .ok (.newarray .int, 2) := by decide +kernel
theorem dX1_init_14 : decode cX1_init 14 = .ok (.putfield 15, 3) := by decide +kernel
theorem dX1_init_17 : decode cX1_init 17 = .ok (.aload_n 0, 1) := by decide +kernel
theorem dX1_init_18 : decode cX1_init 18 = .ok (.bipush 12, 2) := by decide +kernel
theorem dX1_init_20 : decode cX1_init 20 = .ok (.newarray .int, 2) := by decide +kernel
theorem dX1_init_22 : decode cX1_init 22 = .ok (.putfield 19, 3) := by decide +kernel
theorem dX1_init_25 : decode cX1_init 25 = .ok (.aload_n 0, 1) := by decide +kernel
theorem dX1_init_26 : decode cX1_init 26 = .ok (.bipush 12, 2) := by decide +kernel
theorem dX1_init_28 : decode cX1_init 28 = .ok (.newarray .int, 2) := by decide +kernel
theorem dX1_init_30 : decode cX1_init 30 = .ok (.putfield 22, 3) := by decide +kernel
theorem dX1_init_33 : decode cX1_init 33 = .ok (.aload_n 0, 1) := by decide +kernel
theorem dX1_init_34 : decode cX1_init 34 = .ok (.bipush 12, 2) := by decide +kernel
theorem dX1_init_36 : decode cX1_init 36 = .ok (.newarray .int, 2) := by decide +kernel
theorem dX1_init_38 : decode cX1_init 38 = .ok (.putfield 25, 3) := by decide +kernel
theorem dX1_init_41 : decode cX1_init 41 = .ok (.aload_n 0, 1) := by decide +kernel
theorem dX1_init_42 : decode cX1_init 42 = .ok (.bipush 12, 2) := by decide +kernel
theorem dX1_init_44 : decode cX1_init 44 = .ok (.newarray .int, 2) := by decide +kernel
theorem dX1_init_46 : decode cX1_init 46 = .ok (.putfield 28, 3) := by decide +kernel
theorem dX1_init_49 : decode cX1_init 49 = .ok (.aload_n 0, 1) := by decide +kernel
theorem dX1_init_50 : decode cX1_init 50 = .ok (.bipush 13, 2) := by decide +kernel
theorem dX1_init_52 : decode cX1_init 52 = .ok (.newarray .int, 2) := by decide +kernel
theorem dX1_init_54 : decode cX1_init 54 = .ok (.putfield 31, 3) := by decide +kernel
theorem dX1_init_57 : decode cX1_init 57 = .ok (.aload_n 0, 1) := by decide +kernel
theorem dX1_init_58 : decode cX1_init 58 = .ok (.bipush 13, 2) := by decide +kernel
theorem dX1_init_60 : decode cX1_init 60 = .ok (.newarray .int, 2) := by decide +kernel
theorem dX1_init_62 : decode cX1_init 62 = .ok (.putfield 34, 3) := by decide +kernel
theorem dX1_init_65 : decode cX1_init 65 = .ok (.aload_n 0, 1) := by decide +kernel
theorem dX1_init_66 : decode cX1_init 66 = .ok (.bipush 13, 2) := by decide +kernel
theorem dX1_init_68 : decode cX1_init 68 = .ok (.newarray .int, 2) := by decide +kernel
theorem dX1_init_70 : decode cX1_init 70 = .ok (.putfield 37, 3) := by decide +kernel
theorem dX1_init_73 : decode cX1_init 73 = .ok (.aload_n 0, 1) := by decide +kernel
theorem dX1_init_74 : decode cX1_init 74 = .ok (.bipush 8, 2) := by decide +kernel
theorem dX1_init_76 : decode cX1_init 76 = .ok (.newarray .int, 2) := by decide +kernel
theorem dX1_init_78 : decode cX1_init 78 = .ok (.putfield 40, 3) := by decide +kernel
theorem dX1_init_81 : decode cX1_init 81 = .ok (.aload_n 0, 1) := by decide +kernel
theorem dX1_init_82 : decode cX1_init 82 = .ok (.bipush 12, 2) := by decide +kernel
theorem dX1_init_84 : decode cX1_init 84 = .ok (.newarray .int, 2) := by decide +kernel
theorem dX1_init_86 : decode cX1_init 86 = .ok (.putfield 43, 3) := by decide +kernel
theorem dX1_init_89 : decode cX1_init 89 = .ok (.aload_n 0, 1) := by decide +kernel
theorem dX1_init_90 : decode cX1_init 90 = .ok (.bipush 12, 2) := by decide +kernel
theorem dX1_init_92 : decode cX1_init 92 = .ok (.newarray .int, 2) := by decide +kernel
theorem dX1_init_94 : decode cX1_init 94 = .ok (.putfield 46, 3) := by decide +kernel
theorem dX1_init_97 : decode cX1_init 97 = .ok (.aload_n 0, 1) := by decide +kernel
theorem dX1_init_98 : decode cX1_init 98 = .ok (.iconst 0, 1) := by decide +kernel
theorem dX1_init_99 : decode cX1_init 99 = .ok (.putfield 49, 3) := by decide +kernel
theorem dX1_init_102 : decode cX1_init 102 = .ok (.aload_n 0, 1) := by decide +kernel
theorem dX1_init_103 : decode cX1_init 103 = .ok (.iconst 0, 1) := by decide +kernel
theorem dX1_init_104 : decode cX1_init 104 = .ok (.putfield 52, 3) := by decide +kernel
theorem dX1_init_107 : decode cX1_init 107 = .ok (.aload_n 0, 1) := by decide +kernel
theorem dX1_init_108 : decode cX1_init 108 = .ok (.iconst 0, 1) := by decide +kernel
theorem dX1_init_109 : decode cX1_init 109 = .ok (.putfield 55, 3) := by decide +kernel
theorem dX1_init_112 : decode cX1_init 112 = .ok (.aload_n 0, 1) := by decide +kernel
theorem dX1_init_113 : decode cX1_init 113 = .ok (.iconst 0, 1) := by decide +kernel
theorem dX1_init_114 : decode cX1_init 114 = .ok (.putfield 59, 3) := by decide +kernel
theorem dX1_init_117 : decode cX1_init 117 = .ok (.aload_n 0, 1) := by decide +kernel
theorem dX1_init_118 : decode cX1_init 118 = .ok (.iconst 0, 1) := by decide +kernel
theorem dX1_init_119 : decode cX1_init 119 = .ok (.putfield 62, 3) := by decide +kernel
theorem dX1_init_122 : decode cX1_init 122 = .ok (.return_, 1) := by decide +kernel
set_option maxRecDepth 20000 in
theorem ggX1_start_X7_freeSlips : GoodIn wsX1_start wsX7_freeSlips := goodIn_r _ [15, 16, 17, 18, 19, 20, 21, 22, 23, 24, 25, 26, 27, 28, 29, 30, 31, 108, 109, 110, 111, 112, 113, 114, 115, 116, 117, 118, 119, 120, 121, 143, 144, 145, 146, 147, 148, 149, 150, 151, 152, 153, 154, 155, 156, 157, 158, 159, 160, 161, 162] (by decide +kernel) (by decide +kernel)
set_option maxRecDepth 20000 in
theorem gX1_start_X7_freeSlips : GoodIn wsX1_start (wsV RX1 82 RX7 yX7_freeSlips wsX7_freeSlips) := goodIn_app (goodIn_of _ (by decide +kernel)) ggX1_start_X7_freeSlips
set_option maxRecDepth 20000 in
theorem ggX1_start_X1_gather : GoodIn wsX1_start wsX1_gather := goodIn_r _ [36, 37, 38, 39, 40, 41, 42, 43, 44, 45, 46, 47, 48, 49, 50, 51, 22, 52, 25, 53, 54, 55, 56, 24, 57, 58, 59, 60, 27, 28, 29, 30, 31, 61, 62, 63, 64, 65, 126, 127, 128, 129, 130, 131, 132, 133, 134, 135, 136, 137, 138, 139, 140, 141, 142, 153, 154, 155, 156, 157, 158, 159, 160, 161, 162] (by decide +kernel) (by decide +kernel)
set_option maxRecDepth 20000 in
theorem gX1_start_X1_gather : GoodIn wsX1_start (wsV RX1 90 RX1 yX1_gather wsX1_gather) := goodIn_app (goodIn_of _ (by decide +kernel)) ggX1_start_X1_gather
set_option maxRecDepth 20000 in
theorem ggX1_start_X0_tilt : GoodIn wsX1_start wsX0_tilt := goodIn_r _ [69, 70, 71, 72, 22, 73, 24, 74, 75, 153, 154, 155, 156, 157, 158, 159, 160, 161, 162] (by decide +kernel) (by decide +kernel)
set_option maxRecDepth 20000 in
theorem gX1_start_X0_tilt : GoodIn wsX1_start (wsV RX1 94 RX0 yX0_tilt wsX0_tilt) := goodIn_app (goodIn_of _ (by decide +kernel)) ggX1_start_X0_tilt
set_option maxRecDepth 20000 in
theorem ggX1_start_X0_ladenWeight : GoodIn wsX1_start wsX0_ladenWeight := goodIn_r _ [79, 70, 71, 72, 22, 73, 24, 74, 75, 153, 154, 155, 156, 157, 158, 159, 160, 161, 162] (by decide +kernel) (by decide +kernel)
set_option maxRecDepth 20000 in
theorem gX1_start_X0_ladenWeight : GoodIn wsX1_start (wsV RX1 100 RX0 yX0_ladenWeight wsX0_ladenWeight) := goodIn_app (goodIn_of _ (by decide +kernel)) ggX1_start_X0_ladenWeight
set_option maxRecDepth 20000 in
theorem ggX1_start_X1_layFrom : GoodIn wsX1_start wsX1_layFrom := goodIn_r _ [82, 37, 40, 42, 44, 9, 83, 43, 84, 85, 86, 35, 87, 5, 88, 89, 90, 91, 48, 3, 6, 47, 92, 46, 93, 94, 95, 96, 97, 98, 99, 58, 100, 101, 102, 103, 104, 105, 106, 107, 80, 81, 126, 127, 128, 129, 130, 131, 132, 133, 134, 135, 136, 137, 138, 139, 140, 141, 142] (by decide +kernel) (by decide +kernel)
set_option maxRecDepth 20000 in
theorem gX1_start_X1_layFrom : GoodIn wsX1_start (va_wsS RX1 103 yX1_layFrom wsX1_layFrom) := goodIn_app (goodIn_of _ (by decide +kernel)) ggX1_start_X1_layFrom
theorem dX1_start_0 : decode cX1_start 0 = .ok (.aload_n 0, 1) := by decide +kernel
theorem dX1_start_1 : decode cX1_start 1 = .ok (.aload_n 1, 1) := by decide +kernel
theorem dX1_start_2 : decode cX1_start 2 = .ok (.getfield 65, 3) := by decide +kernel
theorem dX1_start_5 : decode cX1_start 5 = .ok (.getfield 71, 3) := by decide +kernel
theorem dX1_start_8 : decode cX1_start 8 = .ok (.putfield 49, 3) := by decide +kernel
theorem dX1_start_11 : decode cX1_start 11 = .ok (.aload_n 0, 1) := by decide +kernel
theorem dX1_start_12 : decode cX1_start 12 = .ok (.aload_n 1, 1) := by decide +kernel
theorem dX1_start_13 : decode cX1_start 13 = .ok (.getfield 65, 3) := by decide +kernel
theorem dX1_start_16 : decode cX1_start 16 = .ok (.getfield 74, 3) := by decide +kernel
theorem dX1_start_19 : decode cX1_start 19 = .ok (.putfield 52, 3) := by decide +kernel
theorem dX1_start_22 : decode cX1_start 22 = .ok (.aload_n 0, 1) := by decide +kernel
theorem dX1_start_23 : decode cX1_start 23 = .ok (.iconst 0, 1) := by decide +kernel
theorem dX1_start_24 : decode cX1_start 24 = .ok (.putfield 55, 3) := by decide +kernel
theorem dX1_start_27 : decode cX1_start 27 = .ok (.iconst 0, 1) := by decide +kernel
theorem dX1_start_28 : decode cX1_start 28 = .ok (.istore_n 2, 1) := by decide +kernel
theorem dX1_start_29 : decode cX1_start 29 = .ok (.iload_n 2, 1) := by decide +kernel
theorem dX1_start_30 : decode cX1_start 30 = .ok (.aload_n 1, 1) := by decide +kernel
theorem dX1_start_31 : decode cX1_start 31 = .ok (.getfield 75, 3) := by decide +kernel
theorem dX1_start_34 : decode cX1_start 34 = .ok (.getfield 79, 3) := by decide +kernel
theorem dX1_start_37 : decode cX1_start 37 = .ok (.if_icmp .ge 20, 3) := by decide +kernel
theorem dX1_start_40 : decode cX1_start 40 = .ok (.aload_n 0, 1) := by decide +kernel
theorem dX1_start_41 : decode cX1_start 41 = .ok (.getfield 40, 3) := by decide +kernel
theorem dX1_start_44 : decode cX1_start 44 = .ok (.iload_n 2, 1) := by decide +kernel
theorem dX1_start_45 : decode cX1_start 45 = .ok (.aload_n 1, 1) := by decide +kernel
theorem dX1_start_46 : decode cX1_start 46 = .ok (.iload_n 2, 1) := by decide +kernel
theorem dX1_start_47 : decode cX1_start 47 = .ok (.invokevirtual 82, 3) := by decide +kernel
theorem dX1_start_50 : decode cX1_start 50 = .ok (.iastore, 1) := by decide +kernel
theorem dX1_start_51 : decode cX1_start 51 = .ok (.iinc 2 1, 3) := by decide +kernel
theorem dX1_start_54 : decode cX1_start 54 = .ok (.goto (-25), 3) := by decide +kernel
theorem dX1_start_57 : decode cX1_start 57 = .ok (.aload_n 0, 1) := by decide +kernel
theorem dX1_start_58 : decode cX1_start 58 = .ok (.aload_n 1, 1) := by decide +kernel
theorem dX1_start_59 : decode cX1_start 59 = .ok (.getfield 86, 3) := by decide +kernel
theorem dX1_start_62 : decode cX1_start 62 = .ok (.invokevirtual 90, 3) := by decide +kernel
theorem dX1_start_65 : decode cX1_start 65 = .ok (.aload_n 0, 1) := by decide +kernel
theorem dX1_start_66 : decode cX1_start 66 = .ok (.iconst 0, 1) := by decide +kernel
theorem dX1_start_67 : decode cX1_start 67 = .ok (.iconst 0, 1) := by decide +kernel
theorem dX1_start_68 : decode cX1_start 68 = .ok (.iconst 0, 1) := by decide +kernel
theorem dX1_start_69 : decode cX1_start 69 = .ok (.aload_n 1, 1) := by decide +kernel
theorem dX1_start_70 : decode cX1_start 70 = .ok (.getfield 86, 3) := by decide +kernel
theorem dX1_start_73 : decode cX1_start 73 = .ok (.invokevirtual 94, 3) := by decide +kernel
theorem dX1_start_76 : decode cX1_start 76 = .ok (.aload_n 1, 1) := by decide +kernel
theorem dX1_start_77 : decode cX1_start 77 = .ok (.getfield 86, 3) := by decide +kernel
theorem dX1_start_80 : decode cX1_start 80 = .ok (.invokevirtual 100, 3) := by decide +kernel
theorem dX1_start_83 : decode cX1_start 83 = .ok (.invokestatic 103, 3) := by decide +kernel
theorem dX1_start_86 : decode cX1_start 86 = .ok (.return_, 1) := by decide +kernel
set_option maxRecDepth 20000 in
theorem ggX1_gather_X0_waits : GoodIn wsX1_gather wsX0_waits := goodIn_r _ [17, 18, 19, 20, 21, 16, 22, 23, 24, 25, 26, 55, 56, 57, 58, 59, 60, 61, 62, 63, 64] (by decide +kernel) (by decide +kernel)
set_option maxRecDepth 20000 in
theorem gX1_gather_X0_waits : GoodIn wsX1_gather (wsV RX1 108 RX0 yX0_waits wsX0_waits) := goodIn_app (goodIn_of _ (by decide +kernel)) ggX1_gather_X0_waits
set_option maxRecDepth 20000 in
theorem ggX1_gather_X0_room : GoodIn wsX1_gather wsX0_room := goodIn_r _ [30, 31, 32, 55, 56, 57, 58, 59, 60, 61, 62, 63, 64] (by decide +kernel) (by decide +kernel)
set_option maxRecDepth 20000 in
theorem gX1_gather_X0_room : GoodIn wsX1_gather (wsV RX1 113 RX0 yX0_room wsX0_room) := goodIn_app (goodIn_of _ (by decide +kernel)) ggX1_gather_X0_room
set_option maxRecDepth 20000 in
theorem ggX1_gather_X0_value : GoodIn wsX1_gather wsX0_value := goodIn_r _ [36, 37, 32, 55, 56, 57, 58, 59, 60, 61, 62, 63, 64] (by decide +kernel) (by decide +kernel)
set_option maxRecDepth 20000 in
theorem gX1_gather_X0_value : GoodIn wsX1_gather (wsV RX1 115 RX0 yX0_value wsX0_value) := goodIn_app (goodIn_of _ (by decide +kernel)) ggX1_gather_X0_value
theorem dX1_gather_0 : decode cX1_gather 0 = .ok (.aload_n 0, 1) := by decide +kernel
theorem dX1_gather_1 : decode cX1_gather 1 = .ok (.iconst 0, 1) := by decide +kernel
theorem dX1_gather_2 : decode cX1_gather 2 = .ok (.putfield 9, 3) := by decide +kernel
theorem dX1_gather_5 : decode cX1_gather 5 = .ok (.iconst 0, 1) := by decide +kernel
theorem dX1_gather_6 : decode cX1_gather 6 = .ok (.istore_n 2, 1) := by decide +kernel
theorem dX1_gather_7 : decode cX1_gather 7 = .ok (.iload_n 2, 1) := by decide +kernel
theorem dX1_gather_8 : decode cX1_gather 8 = .ok (.aload_n 1, 1) := by decide +kernel
theorem dX1_gather_9 : decode cX1_gather 9 = .ok (.getfield 107, 3) := by decide +kernel
theorem dX1_gather_12 : decode cX1_gather 12 = .ok (.if_icmp .ge 95, 3) := by decide +kernel
theorem dX1_gather_15 : decode cX1_gather 15 = .ok (.aload_n 1, 1) := by decide +kernel
theorem dX1_gather_16 : decode cX1_gather 16 = .ok (.iload_n 2, 1) := by decide +kernel
theorem dX1_gather_17 : decode cX1_gather 17 = .ok (.invokevirtual 108, 3) := by decide +kernel
theorem dX1_gather_20 : decode cX1_gather 20 = .ok (.ifCond .eq 81, 3) := by decide +kernel
theorem dX1_gather_23 : decode cX1_gather 23 = .ok (.aload_n 0, 1) := by decide +kernel
theorem dX1_gather_24 : decode cX1_gather 24 = .ok (.getfield 15, 3) := by decide +kernel
theorem dX1_gather_27 : decode cX1_gather 27 = .ok (.aload_n 0, 1) := by decide +kernel
theorem dX1_gather_28 : decode cX1_gather 28 = .ok (.getfield 9, 3) := by decide +kernel
theorem dX1_gather_31 : decode cX1_gather 31 = .ok (.iload_n 2, 1) := by decide +kernel
theorem dX1_gather_32 : decode cX1_gather 32 = .ok (.iastore, 1) := by decide +kernel
theorem dX1_gather_33 : decode cX1_gather 33 = .ok (.aload_n 0, 1) := by decide +kernel
theorem dX1_gather_34 : decode cX1_gather 34 = .ok (.getfield 19, 3) := by decide +kernel
theorem dX1_gather_37 : decode cX1_gather 37 = .ok (.aload_n 0, 1) := by decide +kernel
theorem dX1_gather_38 : decode cX1_gather 38 = .ok (.getfield 9, 3) := by decide +kernel
theorem dX1_gather_41 : decode cX1_gather 41 = .ok (.aload_n 1, 1) := by decide +kernel
theorem dX1_gather_42 : decode cX1_gather 42 = .ok (.getfield 112, 3) := by decide +kernel
theorem dX1_gather_45 : decode cX1_gather 45 = .ok (.iload_n 2, 1) := by decide +kernel
theorem dX1_gather_46 : decode cX1_gather 46 = .ok (.iaload, 1) := by decide +kernel
theorem dX1_gather_47 : decode cX1_gather 47 = .ok (.iastore, 1) := by decide +kernel
theorem dX1_gather_48 : decode cX1_gather 48 = .ok (.aload_n 0, 1) := by decide +kernel
theorem dX1_gather_49 : decode cX1_gather 49 = .ok (.getfield 22, 3) := by decide +kernel
theorem dX1_gather_52 : decode cX1_gather 52 = .ok (.aload_n 0, 1) := by decide +kernel
theorem dX1_gather_53 : decode cX1_gather 53 = .ok (.getfield 9, 3) := by decide +kernel
theorem dX1_gather_56 : decode cX1_gather 56 = .ok (.aload_n 1, 1) := by decide +kernel
theorem dX1_gather_57 : decode cX1_gather 57 = .ok (.iload_n 2, 1) := by decide +kernel
theorem dX1_gather_58 : decode cX1_gather 58 = .ok (.invokevirtual 113, 3) := by decide +kernel
theorem dX1_gather_61 : decode cX1_gather 61 = .ok (.iastore, 1) := by decide +kernel
theorem dX1_gather_62 : decode cX1_gather 62 = .ok (.aload_n 0, 1) := by decide +kernel
theorem dX1_gather_63 : decode cX1_gather 63 = .ok (.getfield 25, 3) := by decide +kernel
theorem dX1_gather_66 : decode cX1_gather 66 = .ok (.aload_n 0, 1) := by decide +kernel
theorem dX1_gather_67 : decode cX1_gather 67 = .ok (.getfield 9, 3) := by decide +kernel
theorem dX1_gather_70 : decode cX1_gather 70 = .ok (.aload_n 1, 1) := by decide +kernel
theorem dX1_gather_71 : decode cX1_gather 71 = .ok (.iload_n 2, 1) := by decide +kernel
theorem dX1_gather_72 : decode cX1_gather 72 = .ok (.invokevirtual 115, 3) := by decide +kernel
theorem dX1_gather_75 : decode cX1_gather 75 = .ok (.iastore, 1) := by decide +kernel
theorem dX1_gather_76 : decode cX1_gather 76 = .ok (.aload_n 0, 1) := by decide +kernel
theorem dX1_gather_77 : decode cX1_gather 77 = .ok (.getfield 28, 3) := by decide +kernel
theorem dX1_gather_80 : decode cX1_gather 80 = .ok (.aload_n 0, 1) := by decide +kernel
theorem dX1_gather_81 : decode cX1_gather 81 = .ok (.getfield 9, 3) := by decide +kernel
theorem dX1_gather_84 : decode cX1_gather 84 = .ok (.aload_n 1, 1) := by decide +kernel
theorem dX1_gather_85 : decode cX1_gather 85 = .ok (.getfield 117, 3) := by decide +kernel
theorem dX1_gather_88 : decode cX1_gather 88 = .ok (.iload_n 2, 1) := by decide +kernel
theorem dX1_gather_89 : decode cX1_gather 89 = .ok (.iaload, 1) := by decide +kernel
theorem dX1_gather_90 : decode cX1_gather 90 = .ok (.iastore, 1) := by decide +kernel
theorem dX1_gather_91 : decode cX1_gather 91 = .ok (.aload_n 0, 1) := by decide +kernel
theorem dX1_gather_92 : decode cX1_gather 92 = .ok (.dup, 1) := by decide +kernel
theorem dX1_gather_93 : decode cX1_gather 93 = .ok (.getfield 9, 3) := by decide +kernel
theorem dX1_gather_96 : decode cX1_gather 96 = .ok (.iconst 1, 1) := by decide +kernel
theorem dX1_gather_97 : decode cX1_gather 97 = .ok (.iadd, 1) := by decide +kernel
theorem dX1_gather_98 : decode cX1_gather 98 = .ok (.putfield 9, 3) := by decide +kernel
theorem dX1_gather_101 : decode cX1_gather 101 = .ok (.iinc 2 1, 3) := by decide +kernel
theorem dX1_gather_104 : decode cX1_gather 104 = .ok (.goto (-97), 3) := by decide +kernel
theorem dX1_gather_107 : decode cX1_gather 107 = .ok (.aload_n 0, 1) := by decide +kernel
theorem dX1_gather_108 : decode cX1_gather 108 = .ok (.getfield 31, 3) := by decide +kernel
theorem dX1_gather_111 : decode cX1_gather 111 = .ok (.aload_n 0, 1) := by decide +kernel
theorem dX1_gather_112 : decode cX1_gather 112 = .ok (.getfield 9, 3) := by decide +kernel
theorem dX1_gather_115 : decode cX1_gather 115 = .ok (.iconst 0, 1) := by decide +kernel
theorem dX1_gather_116 : decode cX1_gather 116 = .ok (.iastore, 1) := by decide +kernel
theorem dX1_gather_117 : decode cX1_gather 117 = .ok (.aload_n 0, 1) := by decide +kernel
theorem dX1_gather_118 : decode cX1_gather 118 = .ok (.getfield 34, 3) := by decide +kernel
theorem dX1_gather_121 : decode cX1_gather 121 = .ok (.aload_n 0, 1) := by decide +kernel
theorem dX1_gather_122 : decode cX1_gather 122 = .ok (.getfield 9, 3) := by decide +kernel
theorem dX1_gather_125 : decode cX1_gather 125 = .ok (.iconst 0, 1) := by decide +kernel
theorem dX1_gather_126 : decode cX1_gather 126 = .ok (.iastore, 1) := by decide +kernel
theorem dX1_gather_127 : decode cX1_gather 127 = .ok (.aload_n 0, 1) := by decide +kernel
theorem dX1_gather_128 : decode cX1_gather 128 = .ok (.getfield 37, 3) := by decide +kernel
theorem dX1_gather_131 : decode cX1_gather 131 = .ok (.aload_n 0, 1) := by decide +kernel
theorem dX1_gather_132 : decode cX1_gather 132 = .ok (.getfield 9, 3) := by decide +kernel
theorem dX1_gather_135 : decode cX1_gather 135 = .ok (.iconst 0, 1) := by decide +kernel
theorem dX1_gather_136 : decode cX1_gather 136 = .ok (.iastore, 1) := by decide +kernel
theorem dX1_gather_137 : decode cX1_gather 137 = .ok (.aload_n 0, 1) := by decide +kernel
theorem dX1_gather_138 : decode cX1_gather 138 = .ok (.getfield 9, 3) := by decide +kernel
theorem dX1_gather_141 : decode cX1_gather 141 = .ok (.iconst 1, 1) := by decide +kernel
theorem dX1_gather_142 : decode cX1_gather 142 = .ok (.isub, 1) := by decide +kernel
theorem dX1_gather_143 : decode cX1_gather 143 = .ok (.istore_n 2, 1) := by decide +kernel
theorem dX1_gather_144 : decode cX1_gather 144 = .ok (.iload_n 2, 1) := by decide +kernel
theorem dX1_gather_145 : decode cX1_gather 145 = .ok (.ifCond .lt 72, 3) := by decide +kernel
theorem dX1_gather_148 : decode cX1_gather 148 = .ok (.aload_n 0, 1) := by decide +kernel
theorem dX1_gather_149 : decode cX1_gather 149 = .ok (.getfield 31, 3) := by decide +kernel
theorem dX1_gather_152 : decode cX1_gather 152 = .ok (.iload_n 2, 1) := by decide +kernel
theorem dX1_gather_153 : decode cX1_gather 153 = .ok (.aload_n 0, 1) := by decide +kernel
theorem dX1_gather_154 : decode cX1_gather 154 = .ok (.getfield 31, 3) := by decide +kernel
theorem dX1_gather_157 : decode cX1_gather 157 = .ok (.iload_n 2, 1) := by decide +kernel
theorem dX1_gather_158 : decode cX1_gather 158 = .ok (.iconst 1, 1) := by decide +kernel
theorem dX1_gather_159 : decode cX1_gather 159 = .ok (.iadd, 1) := by decide +kernel
theorem dX1_gather_160 : decode cX1_gather 160 = .ok (.iaload, 1) := by decide +kernel
theorem dX1_gather_161 : decode cX1_gather 161 = .ok (.aload_n 0, 1) := by decide +kernel
theorem dX1_gather_162 : decode cX1_gather 162 = .ok (.getfield 22, 3) := by decide +kernel
theorem dX1_gather_165 : decode cX1_gather 165 = .ok (.iload_n 2, 1) := by decide +kernel
theorem dX1_gather_166 : decode cX1_gather 166 = .ok (.iaload, 1) := by decide +kernel
theorem dX1_gather_167 : decode cX1_gather 167 = .ok (.iadd, 1) := by decide +kernel
theorem dX1_gather_168 : decode cX1_gather 168 = .ok (.iastore, 1) := by decide +kernel
theorem dX1_gather_169 : decode cX1_gather 169 = .ok (.aload_n 0, 1) := by decide +kernel
theorem dX1_gather_170 : decode cX1_gather 170 = .ok (.getfield 34, 3) := by decide +kernel
theorem dX1_gather_173 : decode cX1_gather 173 = .ok (.iload_n 2, 1) := by decide +kernel
theorem dX1_gather_174 : decode cX1_gather 174 = .ok (.aload_n 0, 1) := by decide +kernel
theorem dX1_gather_175 : decode cX1_gather 175 = .ok (.getfield 34, 3) := by decide +kernel
theorem dX1_gather_178 : decode cX1_gather 178 = .ok (.iload_n 2, 1) := by decide +kernel
theorem dX1_gather_179 : decode cX1_gather 179 = .ok (.iconst 1, 1) := by decide +kernel
theorem dX1_gather_180 : decode cX1_gather 180 = .ok (.iadd, 1) := by decide +kernel
theorem dX1_gather_181 : decode cX1_gather 181 = .ok (.iaload, 1) := by decide +kernel
theorem dX1_gather_182 : decode cX1_gather 182 = .ok (.aload_n 0, 1) := by decide +kernel
theorem dX1_gather_183 : decode cX1_gather 183 = .ok (.getfield 25, 3) := by decide +kernel
theorem dX1_gather_186 : decode cX1_gather 186 = .ok (.iload_n 2, 1) := by decide +kernel
theorem dX1_gather_187 : decode cX1_gather 187 = .ok (.iaload, 1) := by decide +kernel
theorem dX1_gather_188 : decode cX1_gather 188 = .ok (.iadd, 1) := by decide +kernel
theorem dX1_gather_189 : decode cX1_gather 189 = .ok (.iastore, 1) := by decide +kernel
theorem dX1_gather_190 : decode cX1_gather 190 = .ok (.aload_n 0, 1) := by decide +kernel
theorem dX1_gather_191 : decode cX1_gather 191 = .ok (.getfield 37, 3) := by decide +kernel
theorem dX1_gather_194 : decode cX1_gather 194 = .ok (.iload_n 2, 1) := by decide +kernel
theorem dX1_gather_195 : decode cX1_gather 195 = .ok (.aload_n 0, 1) := by decide +kernel
theorem dX1_gather_196 : decode cX1_gather 196 = .ok (.getfield 37, 3) := by decide +kernel
theorem dX1_gather_199 : decode cX1_gather 199 = .ok (.iload_n 2, 1) := by decide +kernel
theorem dX1_gather_200 : decode cX1_gather 200 = .ok (.iconst 1, 1) := by decide +kernel
theorem dX1_gather_201 : decode cX1_gather 201 = .ok (.iadd, 1) := by decide +kernel
theorem dX1_gather_202 : decode cX1_gather 202 = .ok (.iaload, 1) := by decide +kernel
theorem dX1_gather_203 : decode cX1_gather 203 = .ok (.aload_n 0, 1) := by decide +kernel
theorem dX1_gather_204 : decode cX1_gather 204 = .ok (.getfield 28, 3) := by decide +kernel
theorem dX1_gather_207 : decode cX1_gather 207 = .ok (.iload_n 2, 1) := by decide +kernel
theorem dX1_gather_208 : decode cX1_gather 208 = .ok (.iaload, 1) := by decide +kernel
theorem dX1_gather_209 : decode cX1_gather 209 = .ok (.iadd, 1) := by decide +kernel
theorem dX1_gather_210 : decode cX1_gather 210 = .ok (.iastore, 1) := by decide +kernel
theorem dX1_gather_211 : decode cX1_gather 211 = .ok (.iinc 2 (-1), 3) := by decide +kernel
theorem dX1_gather_214 : decode cX1_gather 214 = .ok (.goto (-70), 3) := by decide +kernel
theorem dX1_gather_217 : decode cX1_gather 217 = .ok (.return_, 1) := by decide +kernel
set_option maxRecDepth 20000 in
theorem ggX1_layFrom_X1_isHopeless : GoodIn wsX1_layFrom wsX1_isHopeless := goodIn_r _ [12, 13, 14, 15, 16, 17, 18, 19, 20, 21, 22, 23, 24, 42, 43, 44, 45, 46, 47, 48, 49, 50, 51, 52, 53, 54, 55, 56, 57, 58] (by decide +kernel) (by decide +kernel)
set_option maxRecDepth 20000 in
theorem gX1_layFrom_X1_isHopeless : GoodIn wsX1_layFrom (wsV RX1 118 RX1 yX1_isHopeless wsX1_isHopeless) := goodIn_app (goodIn_of _ (by decide +kernel)) ggX1_layFrom_X1_isHopeless
set_option maxRecDepth 20000 in
theorem ggX1_layFrom_X1_keep : GoodIn wsX1_layFrom wsX1_keep := goodIn_r _ [28, 20, 22, 24, 6, 29, 30, 31, 32, 33, 34, 16, 35, 36, 37, 38, 39, 42, 43, 44, 45, 46, 47, 48, 49, 50, 51, 52, 53, 54, 55, 56, 57, 58] (by decide +kernel) (by decide +kernel)
set_option maxRecDepth 20000 in
theorem gX1_layFrom_X1_keep : GoodIn wsX1_layFrom (wsV RX1 122 RX1 yX1_keep wsX1_keep) := goodIn_app (goodIn_of _ (by decide +kernel)) ggX1_layFrom_X1_keep
set_option maxRecDepth 20000 in
theorem ggX1_layFrom_X1_layFrom : GoodIn wsX1_layFrom wsX1_layFrom := goodIn_r _ [0, 1, 2, 3, 4, 5, 6, 7, 8, 9, 10, 11, 12, 13, 14, 15, 16, 17, 18, 19, 20, 21, 22, 23, 24, 25, 26, 27, 28, 29, 30, 31, 32, 33, 34, 35, 36, 37, 38, 39, 40, 41, 42, 43, 44, 45, 46, 47, 48, 49, 50, 51, 52, 53, 54, 55, 56, 57, 58] (by decide +kernel) (by decide +kernel)
set_option maxRecDepth 20000 in
theorem gX1_layFrom_X1_layFrom : GoodIn wsX1_layFrom (va_wsS RX1 103 yX1_layFrom wsX1_layFrom) := goodIn_app (goodIn_of _ (by decide +kernel)) ggX1_layFrom_X1_layFrom
theorem dX1_layFrom_0 : decode cX1_layFrom 0 = .ok (.iload_n 1, 1) := by decide +kernel
theorem dX1_layFrom_1 : decode cX1_layFrom 1 = .ok (.aload_n 0, 1) := by decide +kernel
theorem dX1_layFrom_2 : decode cX1_layFrom 2 = .ok (.getfield 9, 3) := by decide +kernel
theorem dX1_layFrom_5 : decode cX1_layFrom 5 = .ok (.if_icmp .gt 17, 3) := by decide +kernel
theorem dX1_layFrom_8 : decode cX1_layFrom 8 = .ok (.aload_n 0, 1) := by decide +kernel
theorem dX1_layFrom_9 : decode cX1_layFrom 9 = .ok (.iload_n 1, 1) := by decide +kernel
theorem dX1_layFrom_10 : decode cX1_layFrom 10 = .ok (.iload_n 2, 1) := by decide +kernel
theorem dX1_layFrom_11 : decode cX1_layFrom 11 = .ok (.iload_n 3, 1) := by decide +kernel
theorem dX1_layFrom_12 : decode cX1_layFrom 12 = .ok (.iload 4, 2) := by decide +kernel
theorem dX1_layFrom_14 : decode cX1_layFrom 14 = .ok (.iload 5, 2) := by decide +kernel
theorem dX1_layFrom_16 : decode cX1_layFrom 16 = .ok (.invokevirtual 118, 3) := by decide +kernel
theorem dX1_layFrom_19 : decode cX1_layFrom 19 = .ok (.ifCond .eq 4, 3) := by decide +kernel
theorem dX1_layFrom_22 : decode cX1_layFrom 22 = .ok (.return_, 1) := by decide +kernel
theorem dX1_layFrom_23 : decode cX1_layFrom 23 = .ok (.iload_n 1, 1) := by decide +kernel
theorem dX1_layFrom_24 : decode cX1_layFrom 24 = .ok (.aload_n 0, 1) := by decide +kernel
theorem dX1_layFrom_25 : decode cX1_layFrom 25 = .ok (.getfield 9, 3) := by decide +kernel
theorem dX1_layFrom_28 : decode cX1_layFrom 28 = .ok (.if_icmp .ne 10, 3) := by decide +kernel
theorem dX1_layFrom_31 : decode cX1_layFrom 31 = .ok (.aload_n 0, 1) := by decide +kernel
theorem dX1_layFrom_32 : decode cX1_layFrom 32 = .ok (.iload_n 2, 1) := by decide +kernel
theorem dX1_layFrom_33 : decode cX1_layFrom 33 = .ok (.iload_n 3, 1) := by decide +kernel
theorem dX1_layFrom_34 : decode cX1_layFrom 34 = .ok (.invokevirtual 122, 3) := by decide +kernel
theorem dX1_layFrom_37 : decode cX1_layFrom 37 = .ok (.return_, 1) := by decide +kernel
theorem dX1_layFrom_38 : decode cX1_layFrom 38 = .ok (.aload_n 0, 1) := by decide +kernel
theorem dX1_layFrom_39 : decode cX1_layFrom 39 = .ok (.getfield 19, 3) := by decide +kernel
theorem dX1_layFrom_42 : decode cX1_layFrom 42 = .ok (.iload_n 1, 1) := by decide +kernel
theorem dX1_layFrom_43 : decode cX1_layFrom 43 = .ok (.iaload, 1) := by decide +kernel
theorem dX1_layFrom_44 : decode cX1_layFrom 44 = .ok (.istore 6, 2) := by decide +kernel
theorem dX1_layFrom_46 : decode cX1_layFrom 46 = .ok (.aload_n 0, 1) := by decide +kernel
theorem dX1_layFrom_47 : decode cX1_layFrom 47 = .ok (.getfield 22, 3) := by decide +kernel
theorem dX1_layFrom_50 : decode cX1_layFrom 50 = .ok (.iload_n 1, 1) := by decide +kernel
theorem dX1_layFrom_51 : decode cX1_layFrom 51 = .ok (.iaload, 1) := by decide +kernel
theorem dX1_layFrom_52 : decode cX1_layFrom 52 = .ok (.istore 7, 2) := by decide +kernel
theorem dX1_layFrom_54 : decode cX1_layFrom 54 = .ok (.iload 5, 2) := by decide +kernel
theorem dX1_layFrom_56 : decode cX1_layFrom 56 = .ok (.aload_n 0, 1) := by decide +kernel
theorem dX1_layFrom_57 : decode cX1_layFrom 57 = .ok (.getfield 28, 3) := by decide +kernel
theorem dX1_layFrom_60 : decode cX1_layFrom 60 = .ok (.iload_n 1, 1) := by decide +kernel
theorem dX1_layFrom_61 : decode cX1_layFrom 61 = .ok (.iaload, 1) := by decide +kernel
theorem dX1_layFrom_62 : decode cX1_layFrom 62 = .ok (.iadd, 1) := by decide +kernel
theorem dX1_layFrom_63 : decode cX1_layFrom 63 = .ok (.istore 8, 2) := by decide +kernel
theorem dX1_layFrom_65 : decode cX1_layFrom 65 = .ok (.iload 7, 2) := by decide +kernel
theorem dX1_layFrom_67 : decode cX1_layFrom 67 = .ok (.aload_n 0, 1) := by decide +kernel
theorem dX1_layFrom_68 : decode cX1_layFrom 68 = .ok (.getfield 40, 3) := by decide +kernel
theorem dX1_layFrom_71 : decode cX1_layFrom 71 = .ok (.iload 6, 2) := by decide +kernel
theorem dX1_layFrom_73 : decode cX1_layFrom 73 = .ok (.iaload, 1) := by decide +kernel
theorem dX1_layFrom_74 : decode cX1_layFrom 74 = .ok (.if_icmp .gt 101, 3) := by decide +kernel
theorem dX1_layFrom_77 : decode cX1_layFrom 77 = .ok (.aload_n 0, 1) := by decide +kernel
theorem dX1_layFrom_78 : decode cX1_layFrom 78 = .ok (.getfield 40, 3) := by decide +kernel
theorem dX1_layFrom_81 : decode cX1_layFrom 81 = .ok (.iload 6, 2) := by decide +kernel
theorem dX1_layFrom_83 : decode cX1_layFrom 83 = .ok (.dup2, 1) := by decide +kernel
theorem dX1_layFrom_84 : decode cX1_layFrom 84 = .ok (.iaload, 1) := by decide +kernel
theorem dX1_layFrom_85 : decode cX1_layFrom 85 = .ok (.iload 7, 2) := by decide +kernel
theorem dX1_layFrom_87 : decode cX1_layFrom 87 = .ok (.isub, 1) := by decide +kernel
theorem dX1_layFrom_88 : decode cX1_layFrom 88 = .ok (.iastore, 1) := by decide +kernel
theorem dX1_layFrom_89 : decode cX1_layFrom 89 = .ok (.aload_n 0, 1) := by decide +kernel
theorem dX1_layFrom_90 : decode cX1_layFrom 90 = .ok (.getfield 43, 3) := by decide +kernel
theorem dX1_layFrom_93 : decode cX1_layFrom 93 = .ok (.iload_n 1, 1) := by decide +kernel
theorem dX1_layFrom_94 : decode cX1_layFrom 94 = .ok (.iconst 0, 1) := by decide +kernel
theorem dX1_layFrom_95 : decode cX1_layFrom 95 = .ok (.iastore, 1) := by decide +kernel
theorem dX1_layFrom_96 : decode cX1_layFrom 96 = .ok (.aload_n 0, 1) := by decide +kernel
theorem dX1_layFrom_97 : decode cX1_layFrom 97 = .ok (.iload_n 1, 1) := by decide +kernel
theorem dX1_layFrom_98 : decode cX1_layFrom 98 = .ok (.iconst 1, 1) := by decide +kernel
theorem dX1_layFrom_99 : decode cX1_layFrom 99 = .ok (.iadd, 1) := by decide +kernel
theorem dX1_layFrom_100 : decode cX1_layFrom 100 = .ok (.iload_n 2, 1) := by decide +kernel
theorem dX1_layFrom_101 : decode cX1_layFrom 101 = .ok (.aload_n 0, 1) := by decide +kernel
theorem dX1_layFrom_102 : decode cX1_layFrom 102 = .ok (.getfield 25, 3) := by decide +kernel
theorem dX1_layFrom_105 : decode cX1_layFrom 105 = .ok (.iload_n 1, 1) := by decide +kernel
theorem dX1_layFrom_106 : decode cX1_layFrom 106 = .ok (.iaload, 1) := by decide +kernel
theorem dX1_layFrom_107 : decode cX1_layFrom 107 = .ok (.iadd, 1) := by decide +kernel
theorem dX1_layFrom_108 : decode cX1_layFrom 108 = .ok (.iload_n 3, 1) := by decide +kernel
theorem dX1_layFrom_109 : decode cX1_layFrom 109 = .ok (.iload 7, 2) := by decide +kernel
theorem dX1_layFrom_111 : decode cX1_layFrom 111 = .ok (.iadd, 1) := by decide +kernel
theorem dX1_layFrom_112 : decode cX1_layFrom 112 = .ok (.iload 4, 2) := by decide +kernel
theorem dX1_layFrom_114 : decode cX1_layFrom 114 = .ok (.aload_n 0, 1) := by decide +kernel
theorem dX1_layFrom_115 : decode cX1_layFrom 115 = .ok (.getfield 28, 3) := by decide +kernel
theorem dX1_layFrom_118 : decode cX1_layFrom 118 = .ok (.iload_n 1, 1) := by decide +kernel
theorem dX1_layFrom_119 : decode cX1_layFrom 119 = .ok (.iaload, 1) := by decide +kernel
theorem dX1_layFrom_120 : decode cX1_layFrom 120 = .ok (.iadd, 1) := by decide +kernel
theorem dX1_layFrom_121 : decode cX1_layFrom 121 = .ok (.iload 8, 2) := by decide +kernel
theorem dX1_layFrom_123 : decode cX1_layFrom 123 = .ok (.invokestatic 103, 3) := by decide +kernel
theorem dX1_layFrom_126 : decode cX1_layFrom 126 = .ok (.aload_n 0, 1) := by decide +kernel
theorem dX1_layFrom_127 : decode cX1_layFrom 127 = .ok (.getfield 43, 3) := by decide +kernel
theorem dX1_layFrom_130 : decode cX1_layFrom 130 = .ok (.iload_n 1, 1) := by decide +kernel
theorem dX1_layFrom_131 : decode cX1_layFrom 131 = .ok (.iconst 1, 1) := by decide +kernel
theorem dX1_layFrom_132 : decode cX1_layFrom 132 = .ok (.iastore, 1) := by decide +kernel
theorem dX1_layFrom_133 : decode cX1_layFrom 133 = .ok (.aload_n 0, 1) := by decide +kernel
theorem dX1_layFrom_134 : decode cX1_layFrom 134 = .ok (.iload_n 1, 1) := by decide +kernel
theorem dX1_layFrom_135 : decode cX1_layFrom 135 = .ok (.iconst 1, 1) := by decide +kernel
theorem dX1_layFrom_136 : decode cX1_layFrom 136 = .ok (.iadd, 1) := by decide +kernel
theorem dX1_layFrom_137 : decode cX1_layFrom 137 = .ok (.iload_n 2, 1) := by decide +kernel
theorem dX1_layFrom_138 : decode cX1_layFrom 138 = .ok (.aload_n 0, 1) := by decide +kernel
theorem dX1_layFrom_139 : decode cX1_layFrom 139 = .ok (.getfield 25, 3) := by decide +kernel
theorem dX1_layFrom_142 : decode cX1_layFrom 142 = .ok (.iload_n 1, 1) := by decide +kernel
theorem dX1_layFrom_143 : decode cX1_layFrom 143 = .ok (.iaload, 1) := by decide +kernel
theorem dX1_layFrom_144 : decode cX1_layFrom 144 = .ok (.iadd, 1) := by decide +kernel
theorem dX1_layFrom_145 : decode cX1_layFrom 145 = .ok (.iload_n 3, 1) := by decide +kernel
theorem dX1_layFrom_146 : decode cX1_layFrom 146 = .ok (.iload 7, 2) := by decide +kernel
theorem dX1_layFrom_148 : decode cX1_layFrom 148 = .ok (.iadd, 1) := by decide +kernel
theorem dX1_layFrom_149 : decode cX1_layFrom 149 = .ok (.iload 4, 2) := by decide +kernel
theorem dX1_layFrom_151 : decode cX1_layFrom 151 = .ok (.aload_n 0, 1) := by decide +kernel
theorem dX1_layFrom_152 : decode cX1_layFrom 152 = .ok (.getfield 28, 3) := by decide +kernel
theorem dX1_layFrom_155 : decode cX1_layFrom 155 = .ok (.iload_n 1, 1) := by decide +kernel
theorem dX1_layFrom_156 : decode cX1_layFrom 156 = .ok (.iaload, 1) := by decide +kernel
theorem dX1_layFrom_157 : decode cX1_layFrom 157 = .ok (.isub, 1) := by decide +kernel
theorem dX1_layFrom_158 : decode cX1_layFrom 158 = .ok (.iload 8, 2) := by decide +kernel
theorem dX1_layFrom_160 : decode cX1_layFrom 160 = .ok (.invokestatic 103, 3) := by decide +kernel
theorem dX1_layFrom_163 : decode cX1_layFrom 163 = .ok (.aload_n 0, 1) := by decide +kernel
theorem dX1_layFrom_164 : decode cX1_layFrom 164 = .ok (.getfield 40, 3) := by decide +kernel
theorem dX1_layFrom_167 : decode cX1_layFrom 167 = .ok (.iload 6, 2) := by decide +kernel
theorem dX1_layFrom_169 : decode cX1_layFrom 169 = .ok (.dup2, 1) := by decide +kernel
theorem dX1_layFrom_170 : decode cX1_layFrom 170 = .ok (.iaload, 1) := by decide +kernel
theorem dX1_layFrom_171 : decode cX1_layFrom 171 = .ok (.iload 7, 2) := by decide +kernel
theorem dX1_layFrom_173 : decode cX1_layFrom 173 = .ok (.iadd, 1) := by decide +kernel
theorem dX1_layFrom_174 : decode cX1_layFrom 174 = .ok (.iastore, 1) := by decide +kernel
theorem dX1_layFrom_175 : decode cX1_layFrom 175 = .ok (.aload_n 0, 1) := by decide +kernel
theorem dX1_layFrom_176 : decode cX1_layFrom 176 = .ok (.getfield 43, 3) := by decide +kernel
theorem dX1_layFrom_179 : decode cX1_layFrom 179 = .ok (.iload_n 1, 1) := by decide +kernel
theorem dX1_layFrom_180 : decode cX1_layFrom 180 = .ok (.iconst 2, 1) := by decide +kernel
theorem dX1_layFrom_181 : decode cX1_layFrom 181 = .ok (.iastore, 1) := by decide +kernel
theorem dX1_layFrom_182 : decode cX1_layFrom 182 = .ok (.aload_n 0, 1) := by decide +kernel
theorem dX1_layFrom_183 : decode cX1_layFrom 183 = .ok (.iload_n 1, 1) := by decide +kernel
theorem dX1_layFrom_184 : decode cX1_layFrom 184 = .ok (.iconst 1, 1) := by decide +kernel
theorem dX1_layFrom_185 : decode cX1_layFrom 185 = .ok (.iadd, 1) := by decide +kernel
theorem dX1_layFrom_186 : decode cX1_layFrom 186 = .ok (.iload_n 2, 1) := by decide +kernel
theorem dX1_layFrom_187 : decode cX1_layFrom 187 = .ok (.iload_n 3, 1) := by decide +kernel
theorem dX1_layFrom_188 : decode cX1_layFrom 188 = .ok (.iload 4, 2) := by decide +kernel
theorem dX1_layFrom_190 : decode cX1_layFrom 190 = .ok (.iload 5, 2) := by decide +kernel
theorem dX1_layFrom_192 : decode cX1_layFrom 192 = .ok (.invokestatic 103, 3) := by decide +kernel
theorem dX1_layFrom_195 : decode cX1_layFrom 195 = .ok (.return_, 1) := by decide +kernel
theorem dX1_isHopeless_0 : decode cX1_isHopeless 0 = .ok (.iload 5, 2) := by decide +kernel
theorem dX1_isHopeless_2 : decode cX1_isHopeless 2 = .ok (.aload_n 0, 1) := by decide +kernel
theorem dX1_isHopeless_3 : decode cX1_isHopeless 3 = .ok (.getfield 52, 3) := by decide +kernel
theorem dX1_isHopeless_6 : decode cX1_isHopeless 6 = .ok (.if_icmp .gt 22, 3) := by decide +kernel
theorem dX1_isHopeless_9 : decode cX1_isHopeless 9 = .ok (.iload 4, 2) := by decide +kernel
theorem dX1_isHopeless_11 : decode cX1_isHopeless 11 = .ok (.invokestatic 126, 3) := by decide +kernel
theorem dX1_isHopeless_14 : decode cX1_isHopeless 14 = .ok (.aload_n 0, 1) := by decide +kernel
theorem dX1_isHopeless_15 : decode cX1_isHopeless 15 = .ok (.getfield 37, 3) := by decide +kernel
theorem dX1_isHopeless_18 : decode cX1_isHopeless 18 = .ok (.iload_n 1, 1) := by decide +kernel
theorem dX1_isHopeless_19 : decode cX1_isHopeless 19 = .ok (.iaload, 1) := by decide +kernel
theorem dX1_isHopeless_20 : decode cX1_isHopeless 20 = .ok (.isub, 1) := by decide +kernel
theorem dX1_isHopeless_21 : decode cX1_isHopeless 21 = .ok (.aload_n 0, 1) := by decide +kernel
theorem dX1_isHopeless_22 : decode cX1_isHopeless 22 = .ok (.getfield 49, 3) := by decide +kernel
theorem dX1_isHopeless_25 : decode cX1_isHopeless 25 = .ok (.if_icmp .le 5, 3) := by decide +kernel
theorem dX1_isHopeless_28 : decode cX1_isHopeless 28 = .ok (.iconst 1, 1) := by decide +kernel
theorem dX1_isHopeless_29 : decode cX1_isHopeless 29 = .ok (.ireturn, 1) := by decide +kernel
theorem dX1_isHopeless_30 : decode cX1_isHopeless 30 = .ok (.aload_n 0, 1) := by decide +kernel
theorem dX1_isHopeless_31 : decode cX1_isHopeless 31 = .ok (.getfield 55, 3) := by decide +kernel
theorem dX1_isHopeless_34 : decode cX1_isHopeless 34 = .ok (.ifCond .ne 5, 3) := by decide +kernel
theorem dX1_isHopeless_37 : decode cX1_isHopeless 37 = .ok (.iconst 0, 1) := by decide +kernel
theorem dX1_isHopeless_38 : decode cX1_isHopeless 38 = .ok (.ireturn, 1) := by decide +kernel
theorem dX1_isHopeless_39 : decode cX1_isHopeless 39 = .ok (.iload_n 2, 1) := by decide +kernel
theorem dX1_isHopeless_40 : decode cX1_isHopeless 40 = .ok (.aload_n 0, 1) := by decide +kernel
theorem dX1_isHopeless_41 : decode cX1_isHopeless 41 = .ok (.getfield 34, 3) := by decide +kernel
theorem dX1_isHopeless_44 : decode cX1_isHopeless 44 = .ok (.iload_n 1, 1) := by decide +kernel
theorem dX1_isHopeless_45 : decode cX1_isHopeless 45 = .ok (.iaload, 1) := by decide +kernel
theorem dX1_isHopeless_46 : decode cX1_isHopeless 46 = .ok (.iadd, 1) := by decide +kernel
theorem dX1_isHopeless_47 : decode cX1_isHopeless 47 = .ok (.istore 6, 2) := by decide +kernel
theorem dX1_isHopeless_49 : decode cX1_isHopeless 49 = .ok (.iload 6, 2) := by decide +kernel
theorem dX1_isHopeless_51 : decode cX1_isHopeless 51 = .ok (.aload_n 0, 1) := by decide +kernel
theorem dX1_isHopeless_52 : decode cX1_isHopeless 52 = .ok (.getfield 59, 3) := by decide +kernel
theorem dX1_isHopeless_55 : decode cX1_isHopeless 55 = .ok (.if_icmp .lt 27, 3) := by decide +kernel
theorem dX1_isHopeless_58 : decode cX1_isHopeless 58 = .ok (.iload 6, 2) := by decide +kernel
theorem dX1_isHopeless_60 : decode cX1_isHopeless 60 = .ok (.aload_n 0, 1) := by decide +kernel
theorem dX1_isHopeless_61 : decode cX1_isHopeless 61 = .ok (.getfield 59, 3) := by decide +kernel
theorem dX1_isHopeless_64 : decode cX1_isHopeless 64 = .ok (.if_icmp .ne 22, 3) := by decide +kernel
theorem dX1_isHopeless_67 : decode cX1_isHopeless 67 = .ok (.iload_n 3, 1) := by decide +kernel
theorem dX1_isHopeless_68 : decode cX1_isHopeless 68 = .ok (.aload_n 0, 1) := by decide +kernel
theorem dX1_isHopeless_69 : decode cX1_isHopeless 69 = .ok (.getfield 31, 3) := by decide +kernel
theorem dX1_isHopeless_72 : decode cX1_isHopeless 72 = .ok (.iload_n 1, 1) := by decide +kernel
theorem dX1_isHopeless_73 : decode cX1_isHopeless 73 = .ok (.iaload, 1) := by decide +kernel
theorem dX1_isHopeless_74 : decode cX1_isHopeless 74 = .ok (.iadd, 1) := by decide +kernel
theorem dX1_isHopeless_75 : decode cX1_isHopeless 75 = .ok (.aload_n 0, 1) := by decide +kernel
theorem dX1_isHopeless_76 : decode cX1_isHopeless 76 = .ok (.getfield 62, 3) := by decide +kernel
theorem dX1_isHopeless_79 : decode cX1_isHopeless 79 = .ok (.if_icmp .lt 7, 3) := by decide +kernel
theorem dX1_isHopeless_82 : decode cX1_isHopeless 82 = .ok (.iconst 1, 1) := by decide +kernel
theorem dX1_isHopeless_83 : decode cX1_isHopeless 83 = .ok (.goto 4, 3) := by decide +kernel
theorem dX1_isHopeless_86 : decode cX1_isHopeless 86 = .ok (.iconst 0, 1) := by decide +kernel
theorem dX1_isHopeless_87 : decode cX1_isHopeless 87 = .ok (.ireturn, 1) := by decide +kernel
set_option maxRecDepth 20000 in
theorem ggX1_keep_X11_copyRow : GoodIn wsX1_keep wsX11_copyRow := goodIn_r _ [8, 9, 10, 11, 12, 13, 14, 15, 16] (by decide +kernel) (by decide +kernel)
set_option maxRecDepth 20000 in
theorem gX1_keep_X11_copyRow_n131 : GoodIn wsX1_keep (wsX11_copyRow) := ggX1_keep_X11_copyRow
theorem dX1_keep_0 : decode cX1_keep 0 = .ok (.aload_n 0, 1) := by decide +kernel
theorem dX1_keep_1 : decode cX1_keep 1 = .ok (.iconst 1, 1) := by decide +kernel
theorem dX1_keep_2 : decode cX1_keep 2 = .ok (.putfield 55, 3) := by decide +kernel
theorem dX1_keep_5 : decode cX1_keep 5 = .ok (.aload_n 0, 1) := by decide +kernel
theorem dX1_keep_6 : decode cX1_keep 6 = .ok (.iload_n 1, 1) := by decide +kernel
theorem dX1_keep_7 : decode cX1_keep 7 = .ok (.putfield 59, 3) := by decide +kernel
theorem dX1_keep_10 : decode cX1_keep 10 = .ok (.aload_n 0, 1) := by decide +kernel
theorem dX1_keep_11 : decode cX1_keep 11 = .ok (.iload_n 2, 1) := by decide +kernel
theorem dX1_keep_12 : decode cX1_keep 12 = .ok (.putfield 62, 3) := by decide +kernel
theorem dX1_keep_15 : decode cX1_keep 15 = .ok (.aload_n 0, 1) := by decide +kernel
theorem dX1_keep_16 : decode cX1_keep 16 = .ok (.getfield 43, 3) := by decide +kernel
theorem dX1_keep_19 : decode cX1_keep 19 = .ok (.aload_n 0, 1) := by decide +kernel
theorem dX1_keep_20 : decode cX1_keep 20 = .ok (.getfield 46, 3) := by decide +kernel
theorem dX1_keep_23 : decode cX1_keep 23 = .ok (.invokestatic 131, 3) := by decide +kernel
theorem dX1_keep_26 : decode cX1_keep 26 = .ok (.return_, 1) := by decide +kernel
theorem dX2_init_0 : decode cX2_init 0 = .ok (.aload_n 0, 1) := by decide +kernel
theorem dX2_init_1 : decode cX2_init 1 = .ok (.invokespecial 3, 3) := by decide +kernel
theorem dX2_init_4 : decode cX2_init 4 = .ok (.aload_n 0, 1) := by decide +kernel
theorem dX2_init_5 : decode cX2_init 5 = .ok (.iconst 0, 1) := by decide +kernel
theorem dX2_init_6 : decode cX2_init 6 = .ok (.putfield 9, 3) := by decide +kernel
theorem dX2_init_9 : decode cX2_init 9 = .ok (.aload_n 0, 1) := by decide +kernel
theorem dX2_init_10 : decode cX2_init 10 = .ok (.bipush 8, 2) := by decide +kernel
theorem dX2_init_12 : decode cX2_init 12 = .ok (.newarray .int, 2) := by decide +kernel
theorem dX2_init_14 : decode cX2_init 14 = .ok (.putfield 15, 3) := by decide +kernel
theorem dX2_init_17 : decode cX2_init 17 = .ok (.aload_n 0, 1) := by decide +kernel
theorem dX2_init_18 : decode cX2_init 18 = .ok (.bipush 8, 2) := by decide +kernel
theorem dX2_init_20 : decode cX2_init 20 = .ok (.newarray .int, 2) := by decide +kernel
theorem dX2_init_22 : decode cX2_init 22 = .ok (.putfield 19, 3) := by decide +kernel
theorem dX2_init_25 : decode cX2_init 25 = .ok (.aload_n 0, 1) := by decide +kernel
theorem dX2_init_26 : decode cX2_init 26 = .ok (.bipush 8, 2) := by decide +kernel
theorem dX2_init_28 : decode cX2_init 28 = .ok (.newarray .int, 2) := by decide +kernel
theorem dX2_init_30 : decode cX2_init 30 = .ok (.putfield 22, 3) := by decide +kernel
theorem dX2_init_33 : decode cX2_init 33 = .ok (.aload_n 0, 1) := by decide +kernel
theorem dX2_init_34 : decode cX2_init 34 = .ok (.bipush 8, 2) := by decide +kernel
theorem dX2_init_36 : decode cX2_init 36 = .ok (.newarray .int, 2) := by decide +kernel
theorem dX2_init_38 : decode cX2_init 38 = .ok (.putfield 25, 3) := by decide +kernel
theorem dX2_init_41 : decode cX2_init 41 = .ok (.aload_n 0, 1) := by decide +kernel
theorem dX2_init_42 : decode cX2_init 42 = .ok (.bipush 8, 2) := by decide +kernel
theorem dX2_init_44 : decode cX2_init 44 = .ok (.newarray .int, 2) := by decide +kernel
theorem dX2_init_46 : decode cX2_init 46 = .ok (.putfield 28, 3) := by decide +kernel
theorem dX2_init_49 : decode cX2_init 49 = .ok (.aload_n 0, 1) := by decide +kernel
theorem dX2_init_50 : decode cX2_init 50 = .ok (.bipush 8, 2) := by decide +kernel
theorem dX2_init_52 : decode cX2_init 52 = .ok (.newarray .int, 2) := by decide +kernel
theorem dX2_init_54 : decode cX2_init 54 = .ok (.putfield 31, 3) := by decide +kernel
theorem dX2_init_57 : decode cX2_init 57 = .ok (.aload_n 0, 1) := by decide +kernel
theorem dX2_init_58 : decode cX2_init 58 = .ok (.bipush 8, 2) := by decide +kernel
theorem dX2_init_60 : decode cX2_init 60 = .ok (.newarray .int, 2) := by decide +kernel
theorem dX2_init_62 : decode cX2_init 62 = .ok (.putfield 34, 3) := by decide +kernel
theorem dX2_init_65 : decode cX2_init 65 = .ok (.aload_n 0, 1) := by decide +kernel
theorem dX2_init_66 : decode cX2_init 66 = .ok (.bipush 8, 2) := by decide +kernel
theorem dX2_init_68 : decode cX2_init 68 = .ok (.newarray .int, 2) := by decide +kernel
theorem dX2_init_70 : decode cX2_init 70 = .ok (.putfield 37, 3) := by decide +kernel
theorem dX2_init_73 : decode cX2_init 73 = .ok (.aload_n 0, 1) := by decide +kernel
theorem dX2_init_74 : decode cX2_init 74 = .ok (.bipush 8, 2) := by decide +kernel
theorem dX2_init_76 : decode cX2_init 76 = .ok (.newarray .int, 2) := by decide +kernel
theorem dX2_init_78 : decode cX2_init 78 = .ok (.putfield 40, 3) := by decide +kernel
theorem dX2_init_81 : decode cX2_init 81 = .ok (.return_, 1) := by decide +kernel
set_option maxRecDepth 20000 in
theorem ggX2_copyFrom_X11_copyRow : GoodIn wsX2_copyFrom wsX11_copyRow := goodIn_r _ [11, 12, 13, 14, 15, 16, 17, 18, 19] (by decide +kernel) (by decide +kernel)
set_option maxRecDepth 20000 in
theorem gX2_copyFrom_X11_copyRow_n43 : GoodIn wsX2_copyFrom (wsX11_copyRow) := ggX2_copyFrom_X11_copyRow
theorem dX2_copyFrom_0 : decode cX2_copyFrom 0 = .ok (.aload_n 0, 1) := by decide +kernel
theorem dX2_copyFrom_1 : decode cX2_copyFrom 1 = .ok (.aload_n 1, 1) := by decide +kernel
theorem dX2_copyFrom_2 : decode cX2_copyFrom 2 = .ok (.getfield 9, 3) := by decide +kernel
theorem dX2_copyFrom_5 : decode cX2_copyFrom 5 = .ok (.putfield 9, 3) := by decide +kernel
theorem dX2_copyFrom_8 : decode cX2_copyFrom 8 = .ok (.aload_n 1, 1) := by decide +kernel
theorem dX2_copyFrom_9 : decode cX2_copyFrom 9 = .ok (.getfield 15, 3) := by decide +kernel
theorem dX2_copyFrom_12 : decode cX2_copyFrom 12 = .ok (.aload_n 0, 1) := by decide +kernel
theorem dX2_copyFrom_13 : decode cX2_copyFrom 13 = .ok (.getfield 15, 3) := by decide +kernel
theorem dX2_copyFrom_16 : decode cX2_copyFrom 16 = .ok (.invokestatic 43, 3) := by decide +kernel
theorem dX2_copyFrom_19 : decode cX2_copyFrom 19 = .ok (.aload_n 1, 1) := by decide +kernel
theorem dX2_copyFrom_20 : decode cX2_copyFrom 20 = .ok (.getfield 19, 3) := by decide +kernel
theorem dX2_copyFrom_23 : decode cX2_copyFrom 23 = .ok (.aload_n 0, 1) := by decide +kernel
theorem dX2_copyFrom_24 : decode cX2_copyFrom 24 = .ok (.getfield 19, 3) := by decide +kernel
theorem dX2_copyFrom_27 : decode cX2_copyFrom 27 = .ok (.invokestatic 43, 3) := by decide +kernel
theorem dX2_copyFrom_30 : decode cX2_copyFrom 30 = .ok (.aload_n 1, 1) := by decide +kernel
theorem dX2_copyFrom_31 : decode cX2_copyFrom 31 = .ok (.getfield 22, 3) := by decide +kernel
theorem dX2_copyFrom_34 : decode cX2_copyFrom 34 = .ok (.aload_n 0, 1) := by decide +kernel
theorem dX2_copyFrom_35 : decode cX2_copyFrom 35 = .ok (.getfield 22, 3) := by decide +kernel
theorem dX2_copyFrom_38 : decode cX2_copyFrom 38 = .ok (.invokestatic 43, 3) := by decide +kernel
theorem dX2_copyFrom_41 : decode cX2_copyFrom 41 = .ok (.aload_n 1, 1) := by decide +kernel
theorem dX2_copyFrom_42 : decode cX2_copyFrom 42 = .ok (.getfield 25, 3) := by decide +kernel
theorem dX2_copyFrom_45 : decode cX2_copyFrom 45 = .ok (.aload_n 0, 1) := by decide +kernel
theorem dX2_copyFrom_46 : decode cX2_copyFrom 46 = .ok (.getfield 25, 3) := by decide +kernel
theorem dX2_copyFrom_49 : decode cX2_copyFrom 49 = .ok (.invokestatic 43, 3) := by decide +kernel
theorem dX2_copyFrom_52 : decode cX2_copyFrom 52 = .ok (.aload_n 1, 1) := by decide +kernel
theorem dX2_copyFrom_53 : decode cX2_copyFrom 53 = .ok (.getfield 28, 3) := by decide +kernel
theorem dX2_copyFrom_56 : decode cX2_copyFrom 56 = .ok (.aload_n 0, 1) := by decide +kernel
theorem dX2_copyFrom_57 : decode cX2_copyFrom 57 = .ok (.getfield 28, 3) := by decide +kernel
theorem dX2_copyFrom_60 : decode cX2_copyFrom 60 = .ok (.invokestatic 43, 3) := by decide +kernel
theorem dX2_copyFrom_63 : decode cX2_copyFrom 63 = .ok (.aload_n 1, 1) := by decide +kernel
theorem dX2_copyFrom_64 : decode cX2_copyFrom 64 = .ok (.getfield 31, 3) := by decide +kernel
theorem dX2_copyFrom_67 : decode cX2_copyFrom 67 = .ok (.aload_n 0, 1) := by decide +kernel
theorem dX2_copyFrom_68 : decode cX2_copyFrom 68 = .ok (.getfield 31, 3) := by decide +kernel
theorem dX2_copyFrom_71 : decode cX2_copyFrom 71 = .ok (.invokestatic 43, 3) := by decide +kernel
theorem dX2_copyFrom_74 : decode cX2_copyFrom 74 = .ok (.aload_n 1, 1) := by decide +kernel
theorem dX2_copyFrom_75 : decode cX2_copyFrom 75 = .ok (.getfield 34, 3) := by decide +kernel
theorem dX2_copyFrom_78 : decode cX2_copyFrom 78 = .ok (.aload_n 0, 1) := by decide +kernel
theorem dX2_copyFrom_79 : decode cX2_copyFrom 79 = .ok (.getfield 34, 3) := by decide +kernel
theorem dX2_copyFrom_82 : decode cX2_copyFrom 82 = .ok (.invokestatic 43, 3) := by decide +kernel
theorem dX2_copyFrom_85 : decode cX2_copyFrom 85 = .ok (.return_, 1) := by decide +kernel
set_option maxRecDepth 20000 in
theorem ggX2_has_X11_within : GoodIn wsX2_has wsX11_within := goodIn_r _ [4] (by decide +kernel) (by decide +kernel)
set_option maxRecDepth 20000 in
theorem gX2_has_X11_within_n47 : GoodIn wsX2_has (wsX11_within) := ggX2_has_X11_within
theorem dX2_has_0 : decode cX2_has 0 = .ok (.iload_n 1, 1) := by decide +kernel
theorem dX2_has_1 : decode cX2_has 1 = .ok (.iconst 0, 1) := by decide +kernel
theorem dX2_has_2 : decode cX2_has 2 = .ok (.aload_n 0, 1) := by decide +kernel
theorem dX2_has_3 : decode cX2_has 3 = .ok (.getfield 9, 3) := by decide +kernel
theorem dX2_has_6 : decode cX2_has 6 = .ok (.iconst 1, 1) := by decide +kernel
theorem dX2_has_7 : decode cX2_has 7 = .ok (.isub, 1) := by decide +kernel
theorem dX2_has_8 : decode cX2_has 8 = .ok (.invokestatic 47, 3) := by decide +kernel
theorem dX2_has_11 : decode cX2_has 11 = .ok (.ireturn, 1) := by decide +kernel
set_option maxRecDepth 20000 in
theorem ggX2_areTwo_X2_has : GoodIn wsX2_areTwo wsX2_has := goodIn_r _ [5, 6, 7, 8, 9, 10, 11, 12, 13, 14, 15, 16, 17, 18, 19] (by decide +kernel) (by decide +kernel)
set_option maxRecDepth 20000 in
theorem gX2_areTwo_X2_has : GoodIn wsX2_areTwo (wsV RX2 51 RX2 yX2_has wsX2_has) := goodIn_app (goodIn_of _ (by decide +kernel)) ggX2_areTwo_X2_has
theorem dX2_areTwo_0 : decode cX2_areTwo 0 = .ok (.aload_n 0, 1) := by decide +kernel
theorem dX2_areTwo_1 : decode cX2_areTwo 1 = .ok (.iload_n 1, 1) := by decide +kernel
theorem dX2_areTwo_2 : decode cX2_areTwo 2 = .ok (.invokevirtual 51, 3) := by decide +kernel
theorem dX2_areTwo_5 : decode cX2_areTwo 5 = .ok (.ifCond .eq 20, 3) := by decide +kernel
theorem dX2_areTwo_8 : decode cX2_areTwo 8 = .ok (.aload_n 0, 1) := by decide +kernel
theorem dX2_areTwo_9 : decode cX2_areTwo 9 = .ok (.iload_n 2, 1) := by decide +kernel
theorem dX2_areTwo_10 : decode cX2_areTwo 10 = .ok (.invokevirtual 51, 3) := by decide +kernel
theorem dX2_areTwo_13 : decode cX2_areTwo 13 = .ok (.ifCond .eq 12, 3) := by decide +kernel
theorem dX2_areTwo_16 : decode cX2_areTwo 16 = .ok (.iload_n 1, 1) := by decide +kernel
theorem dX2_areTwo_17 : decode cX2_areTwo 17 = .ok (.iload_n 2, 1) := by decide +kernel
theorem dX2_areTwo_18 : decode cX2_areTwo 18 = .ok (.if_icmp .eq 7, 3) := by decide +kernel
theorem dX2_areTwo_21 : decode cX2_areTwo 21 = .ok (.iconst 1, 1) := by decide +kernel
theorem dX2_areTwo_22 : decode cX2_areTwo 22 = .ok (.goto 4, 3) := by decide +kernel
theorem dX2_areTwo_25 : decode cX2_areTwo 25 = .ok (.iconst 0, 1) := by decide +kernel
theorem dX2_areTwo_26 : decode cX2_areTwo 26 = .ok (.ireturn, 1) := by decide +kernel
theorem dX2_enter_0 : decode cX2_enter 0 = .ok (.aload_n 0, 1) := by decide +kernel
theorem dX2_enter_1 : decode cX2_enter 1 = .ok (.getfield 9, 3) := by decide +kernel
theorem dX2_enter_4 : decode cX2_enter 4 = .ok (.bipush 8, 2) := by decide +kernel
theorem dX2_enter_6 : decode cX2_enter 6 = .ok (.if_icmp .lt 5, 3) := by decide +kernel
theorem dX2_enter_9 : decode cX2_enter 9 = .ok (.iconst (-1), 1) := by decide +kernel
theorem dX2_enter_10 : decode cX2_enter 10 = .ok (.ireturn, 1) := by decide +kernel
theorem dX2_enter_11 : decode cX2_enter 11 = .ok (.aload_n 0, 1) := by decide +kernel
theorem dX2_enter_12 : decode cX2_enter 12 = .ok (.getfield 15, 3) := by decide +kernel
theorem dX2_enter_15 : decode cX2_enter 15 = .ok (.aload_n 0, 1) := by decide +kernel
theorem dX2_enter_16 : decode cX2_enter 16 = .ok (.getfield 9, 3) := by decide +kernel
theorem dX2_enter_19 : decode cX2_enter 19 = .ok (.iload_n 1, 1) := by decide +kernel
theorem dX2_enter_20 : decode cX2_enter 20 = .ok (.iastore, 1) := by decide +kernel
theorem dX2_enter_21 : decode cX2_enter 21 = .ok (.aload_n 0, 1) := by decide +kernel
theorem dX2_enter_22 : decode cX2_enter 22 = .ok (.getfield 19, 3) := by decide +kernel
theorem dX2_enter_25 : decode cX2_enter 25 = .ok (.aload_n 0, 1) := by decide +kernel
theorem dX2_enter_26 : decode cX2_enter 26 = .ok (.getfield 9, 3) := by decide +kernel
theorem dX2_enter_29 : decode cX2_enter 29 = .ok (.iload_n 2, 1) := by decide +kernel
theorem dX2_enter_30 : decode cX2_enter 30 = .ok (.ifCond .eq 7, 3) := by decide +kernel
theorem dX2_enter_33 : decode cX2_enter 33 = .ok (.iconst 1, 1) := by decide +kernel
theorem dX2_enter_34 : decode cX2_enter 34 = .ok (.goto 4, 3) := by decide +kernel
theorem dX2_enter_37 : decode cX2_enter 37 = .ok (.iconst 0, 1) := by decide +kernel
theorem dX2_enter_38 : decode cX2_enter 38 = .ok (.iastore, 1) := by decide +kernel
theorem dX2_enter_39 : decode cX2_enter 39 = .ok (.aload_n 0, 1) := by decide +kernel
theorem dX2_enter_40 : decode cX2_enter 40 = .ok (.dup, 1) := by decide +kernel
theorem dX2_enter_41 : decode cX2_enter 41 = .ok (.getfield 9, 3) := by decide +kernel
theorem dX2_enter_44 : decode cX2_enter 44 = .ok (.iconst 1, 1) := by decide +kernel
theorem dX2_enter_45 : decode cX2_enter 45 = .ok (.iadd, 1) := by decide +kernel
theorem dX2_enter_46 : decode cX2_enter 46 = .ok (.putfield 9, 3) := by decide +kernel
theorem dX2_enter_49 : decode cX2_enter 49 = .ok (.aload_n 0, 1) := by decide +kernel
theorem dX2_enter_50 : decode cX2_enter 50 = .ok (.getfield 9, 3) := by decide +kernel
theorem dX2_enter_53 : decode cX2_enter 53 = .ok (.iconst 1, 1) := by decide +kernel
theorem dX2_enter_54 : decode cX2_enter 54 = .ok (.isub, 1) := by decide +kernel
theorem dX2_enter_55 : decode cX2_enter 55 = .ok (.ireturn, 1) := by decide +kernel
theorem dX2_pay_0 : decode cX2_pay 0 = .ok (.aload_n 0, 1) := by decide +kernel
theorem dX2_pay_1 : decode cX2_pay 1 = .ok (.getfield 28, 3) := by decide +kernel
theorem dX2_pay_4 : decode cX2_pay 4 = .ok (.iload_n 1, 1) := by decide +kernel
theorem dX2_pay_5 : decode cX2_pay 5 = .ok (.dup2, 1) := by decide +kernel
theorem dX2_pay_6 : decode cX2_pay 6 = .ok (.iaload, 1) := by decide +kernel
theorem dX2_pay_7 : decode cX2_pay 7 = .ok (.iload_n 3, 1) := by decide +kernel
theorem dX2_pay_8 : decode cX2_pay 8 = .ok (.isub, 1) := by decide +kernel
theorem dX2_pay_9 : decode cX2_pay 9 = .ok (.iastore, 1) := by decide +kernel
theorem dX2_pay_10 : decode cX2_pay 10 = .ok (.aload_n 0, 1) := by decide +kernel
theorem dX2_pay_11 : decode cX2_pay 11 = .ok (.getfield 28, 3) := by decide +kernel
theorem dX2_pay_14 : decode cX2_pay 14 = .ok (.iload_n 2, 1) := by decide +kernel
theorem dX2_pay_15 : decode cX2_pay 15 = .ok (.dup2, 1) := by decide +kernel
theorem dX2_pay_16 : decode cX2_pay 16 = .ok (.iaload, 1) := by decide +kernel
theorem dX2_pay_17 : decode cX2_pay 17 = .ok (.iload_n 3, 1) := by decide +kernel
theorem dX2_pay_18 : decode cX2_pay 18 = .ok (.iadd, 1) := by decide +kernel
theorem dX2_pay_19 : decode cX2_pay 19 = .ok (.iastore, 1) := by decide +kernel
theorem dX2_pay_20 : decode cX2_pay 20 = .ok (.return_, 1) := by decide +kernel
set_option maxRecDepth 20000 in
theorem ggX2_takeSlips_X2_greatestRest : GoodIn wsX2_takeSlips wsX2_greatestRest := goodIn_r _ [10, 1, 4, 22, 23, 24, 25, 26, 27, 28, 29, 30, 31] (by decide +kernel) (by decide +kernel)
set_option maxRecDepth 20000 in
theorem gX2_takeSlips_X2_greatestRest : GoodIn wsX2_takeSlips (wsV RX2 55 RX2 yX2_greatestRest wsX2_greatestRest) := goodIn_app (goodIn_of _ (by decide +kernel)) ggX2_takeSlips_X2_greatestRest
set_option maxRecDepth 20000 in
theorem ggX2_takeSlips_X11_copyRow : GoodIn wsX2_takeSlips wsX11_copyRow := goodIn_r _ [13, 14, 15, 16, 17, 18, 19, 20, 21] (by decide +kernel) (by decide +kernel)
set_option maxRecDepth 20000 in
theorem gX2_takeSlips_X11_copyRow_n43 : GoodIn wsX2_takeSlips (wsX11_copyRow) := ggX2_takeSlips_X11_copyRow
theorem dX2_takeSlips_0 : decode cX2_takeSlips 0 = .ok (.iload_n 2, 1) := by decide +kernel
theorem dX2_takeSlips_1 : decode cX2_takeSlips 1 = .ok (.ifCond .gt 4, 3) := by decide +kernel
theorem dX2_takeSlips_4 : decode cX2_takeSlips 4 = .ok (.return_, 1) := by decide +kernel
theorem dX2_takeSlips_5 : decode cX2_takeSlips 5 = .ok (.iload_n 1, 1) := by decide +kernel
theorem dX2_takeSlips_6 : decode cX2_takeSlips 6 = .ok (.istore_n 3, 1) := by decide +kernel
theorem dX2_takeSlips_7 : decode cX2_takeSlips 7 = .ok (.iconst 0, 1) := by decide +kernel
theorem dX2_takeSlips_8 : decode cX2_takeSlips 8 = .ok (.istore 4, 2) := by decide +kernel
theorem dX2_takeSlips_10 : decode cX2_takeSlips 10 = .ok (.iload 4, 2) := by decide +kernel
theorem dX2_takeSlips_12 : decode cX2_takeSlips 12 = .ok (.aload_n 0, 1) := by decide +kernel
theorem dX2_takeSlips_13 : decode cX2_takeSlips 13 = .ok (.getfield 9, 3) := by decide +kernel
theorem dX2_takeSlips_16 : decode cX2_takeSlips 16 = .ok (.if_icmp .ge 55, 3) := by decide +kernel
theorem dX2_takeSlips_19 : decode cX2_takeSlips 19 = .ok (.aload_n 0, 1) := by decide +kernel
theorem dX2_takeSlips_20 : decode cX2_takeSlips 20 = .ok (.getfield 25, 3) := by decide +kernel
theorem dX2_takeSlips_23 : decode cX2_takeSlips 23 = .ok (.iload 4, 2) := by decide +kernel
theorem dX2_takeSlips_25 : decode cX2_takeSlips 25 = .ok (.iload_n 1, 1) := by decide +kernel
theorem dX2_takeSlips_26 : decode cX2_takeSlips 26 = .ok (.aload_n 0, 1) := by decide +kernel
theorem dX2_takeSlips_27 : decode cX2_takeSlips 27 = .ok (.getfield 37, 3) := by decide +kernel
theorem dX2_takeSlips_30 : decode cX2_takeSlips 30 = .ok (.iload 4, 2) := by decide +kernel
theorem dX2_takeSlips_32 : decode cX2_takeSlips 32 = .ok (.iaload, 1) := by decide +kernel
theorem dX2_takeSlips_33 : decode cX2_takeSlips 33 = .ok (.imul, 1) := by decide +kernel
theorem dX2_takeSlips_34 : decode cX2_takeSlips 34 = .ok (.iload_n 2, 1) := by decide +kernel
theorem dX2_takeSlips_35 : decode cX2_takeSlips 35 = .ok (.idiv, 1) := by decide +kernel
theorem dX2_takeSlips_36 : decode cX2_takeSlips 36 = .ok (.iastore, 1) := by decide +kernel
theorem dX2_takeSlips_37 : decode cX2_takeSlips 37 = .ok (.aload_n 0, 1) := by decide +kernel
theorem dX2_takeSlips_38 : decode cX2_takeSlips 38 = .ok (.getfield 40, 3) := by decide +kernel
theorem dX2_takeSlips_41 : decode cX2_takeSlips 41 = .ok (.iload 4, 2) := by decide +kernel
theorem dX2_takeSlips_43 : decode cX2_takeSlips 43 = .ok (.iload_n 1, 1) := by decide +kernel
theorem dX2_takeSlips_44 : decode cX2_takeSlips 44 = .ok (.aload_n 0, 1) := by decide +kernel
theorem dX2_takeSlips_45 : decode cX2_takeSlips 45 = .ok (.getfield 37, 3) := by decide +kernel
theorem dX2_takeSlips_48 : decode cX2_takeSlips 48 = .ok (.iload 4, 2) := by decide +kernel
theorem dX2_takeSlips_50 : decode cX2_takeSlips 50 = .ok (.iaload, 1) := by decide +kernel
theorem dX2_takeSlips_51 : decode cX2_takeSlips 51 = .ok (.imul, 1) := by decide +kernel
theorem dX2_takeSlips_52 : decode cX2_takeSlips 52 = .ok (.iload_n 2, 1) := by decide +kernel
theorem dX2_takeSlips_53 : decode cX2_takeSlips 53 = .ok (.irem, 1) := by decide +kernel
theorem dX2_takeSlips_54 : decode cX2_takeSlips 54 = .ok (.iastore, 1) := by decide +kernel
theorem dX2_takeSlips_55 : decode cX2_takeSlips 55 = .ok (.iload_n 3, 1) := by decide +kernel
theorem dX2_takeSlips_56 : decode cX2_takeSlips 56 = .ok (.aload_n 0, 1) := by decide +kernel
theorem dX2_takeSlips_57 : decode cX2_takeSlips 57 = .ok (.getfield 25, 3) := by decide +kernel
theorem dX2_takeSlips_60 : decode cX2_takeSlips 60 = .ok (.iload 4, 2) := by decide +kernel
theorem dX2_takeSlips_62 : decode cX2_takeSlips 62 = .ok (.iaload, 1) := by decide +kernel
theorem dX2_takeSlips_63 : decode cX2_takeSlips 63 = .ok (.isub, 1) := by decide +kernel
theorem dX2_takeSlips_64 : decode cX2_takeSlips 64 = .ok (.istore_n 3, 1) := by decide +kernel
theorem dX2_takeSlips_65 : decode cX2_takeSlips 65 = .ok (.iinc 4 1, 3) := by decide +kernel
theorem dX2_takeSlips_68 : decode cX2_takeSlips 68 = .ok (.goto (-58), 3) := by decide +kernel
theorem dX2_takeSlips_71 : decode cX2_takeSlips 71 = .ok (.iconst 0, 1) := by decide +kernel
theorem dX2_takeSlips_72 : decode cX2_takeSlips 72 = .ok (.istore 4, 2) := by decide +kernel
theorem dX2_takeSlips_74 : decode cX2_takeSlips 74 = .ok (.iload 4, 2) := by decide +kernel
theorem dX2_takeSlips_76 : decode cX2_takeSlips 76 = .ok (.aload_n 0, 1) := by decide +kernel
theorem dX2_takeSlips_77 : decode cX2_takeSlips 77 = .ok (.getfield 9, 3) := by decide +kernel
theorem dX2_takeSlips_80 : decode cX2_takeSlips 80 = .ok (.if_icmp .ge 41, 3) := by decide +kernel
theorem dX2_takeSlips_83 : decode cX2_takeSlips 83 = .ok (.iload_n 3, 1) := by decide +kernel
theorem dX2_takeSlips_84 : decode cX2_takeSlips 84 = .ok (.ifCond .le 37, 3) := by decide +kernel
theorem dX2_takeSlips_87 : decode cX2_takeSlips 87 = .ok (.aload_n 0, 1) := by decide +kernel
theorem dX2_takeSlips_88 : decode cX2_takeSlips 88 = .ok (.invokevirtual 55, 3) := by decide +kernel
theorem dX2_takeSlips_91 : decode cX2_takeSlips 91 = .ok (.istore 5, 2) := by decide +kernel
theorem dX2_takeSlips_93 : decode cX2_takeSlips 93 = .ok (.aload_n 0, 1) := by decide +kernel
theorem dX2_takeSlips_94 : decode cX2_takeSlips 94 = .ok (.getfield 25, 3) := by decide +kernel
theorem dX2_takeSlips_97 : decode cX2_takeSlips 97 = .ok (.iload 5, 2) := by decide +kernel
theorem dX2_takeSlips_99 : decode cX2_takeSlips 99 = .ok (.dup2, 1) := by decide +kernel
theorem dX2_takeSlips_100 : decode cX2_takeSlips 100 = .ok (.iaload, 1) := by decide +kernel
theorem dX2_takeSlips_101 : decode cX2_takeSlips 101 = .ok (.iconst 1, 1) := by decide +kernel
theorem dX2_takeSlips_102 : decode cX2_takeSlips 102 = .ok (.iadd, 1) := by decide +kernel
theorem dX2_takeSlips_103 : decode cX2_takeSlips 103 = .ok (.iastore, 1) := by decide +kernel
theorem dX2_takeSlips_104 : decode cX2_takeSlips 104 = .ok (.aload_n 0, 1) := by decide +kernel
theorem dX2_takeSlips_105 : decode cX2_takeSlips 105 = .ok (.getfield 40, 3) := by decide +kernel
theorem dX2_takeSlips_108 : decode cX2_takeSlips 108 = .ok (.iload 5, 2) := by decide +kernel
theorem dX2_takeSlips_110 : decode cX2_takeSlips 110 = .ok (.iconst (-1), 1) := by decide +kernel
theorem dX2_takeSlips_111 : decode cX2_takeSlips 111 = .ok (.iastore, 1) := by decide +kernel
theorem dX2_takeSlips_112 : decode cX2_takeSlips 112 = .ok (.iinc 3 (-1), 3) := by decide +kernel
theorem dX2_takeSlips_115 : decode cX2_takeSlips 115 = .ok (.iinc 4 1, 3) := by decide +kernel
theorem dX2_takeSlips_118 : decode cX2_takeSlips 118 = .ok (.goto (-44), 3) := by decide +kernel
theorem dX2_takeSlips_121 : decode cX2_takeSlips 121 = .ok (.aload_n 0, 1) := by decide +kernel
theorem dX2_takeSlips_122 : decode cX2_takeSlips 122 = .ok (.getfield 25, 3) := by decide +kernel
theorem dX2_takeSlips_125 : decode cX2_takeSlips 125 = .ok (.aload_n 0, 1) := by decide +kernel
theorem dX2_takeSlips_126 : decode cX2_takeSlips 126 = .ok (.getfield 22, 3) := by decide +kernel
theorem dX2_takeSlips_129 : decode cX2_takeSlips 129 = .ok (.invokestatic 43, 3) := by decide +kernel
theorem dX2_takeSlips_132 : decode cX2_takeSlips 132 = .ok (.return_, 1) := by decide +kernel
theorem dX2_greatestRest_0 : decode cX2_greatestRest 0 = .ok (.iconst 0, 1) := by decide +kernel
theorem dX2_greatestRest_1 : decode cX2_greatestRest 1 = .ok (.istore_n 1, 1) := by decide +kernel
theorem dX2_greatestRest_2 : decode cX2_greatestRest 2 = .ok (.iconst 1, 1) := by decide +kernel
theorem dX2_greatestRest_3 : decode cX2_greatestRest 3 = .ok (.istore_n 2, 1) := by decide +kernel
theorem dX2_greatestRest_4 : decode cX2_greatestRest 4 = .ok (.iload_n 2, 1) := by decide +kernel
theorem dX2_greatestRest_5 : decode cX2_greatestRest 5 = .ok (.aload_n 0, 1) := by decide +kernel
theorem dX2_greatestRest_6 : decode cX2_greatestRest 6 = .ok (.getfield 9, 3) := by decide +kernel
theorem dX2_greatestRest_9 : decode cX2_greatestRest 9 = .ok (.if_icmp .ge 26, 3) := by decide +kernel
theorem dX2_greatestRest_12 : decode cX2_greatestRest 12 = .ok (.aload_n 0, 1) := by decide +kernel
theorem dX2_greatestRest_13 : decode cX2_greatestRest 13 = .ok (.getfield 40, 3) := by decide +kernel
theorem dX2_greatestRest_16 : decode cX2_greatestRest 16 = .ok (.iload_n 2, 1) := by decide +kernel
theorem dX2_greatestRest_17 : decode cX2_greatestRest 17 = .ok (.iaload, 1) := by decide +kernel
theorem dX2_greatestRest_18 : decode cX2_greatestRest 18 = .ok (.aload_n 0, 1) := by decide +kernel
theorem dX2_greatestRest_19 : decode cX2_greatestRest 19 = .ok (.getfield 40, 3) := by decide +kernel
theorem dX2_greatestRest_22 : decode cX2_greatestRest 22 = .ok (.iload_n 1, 1) := by decide +kernel
theorem dX2_greatestRest_23 : decode cX2_greatestRest 23 = .ok (.iaload, 1) := by decide +kernel
theorem dX2_greatestRest_24 : decode cX2_greatestRest 24 = .ok (.if_icmp .le 5, 3) := by decide +kernel
theorem dX2_greatestRest_27 : decode cX2_greatestRest 27 = .ok (.iload_n 2, 1) := by decide +kernel
theorem dX2_greatestRest_28 : decode cX2_greatestRest 28 = .ok (.istore_n 1, 1) := by decide +kernel
theorem dX2_greatestRest_29 : decode cX2_greatestRest 29 = .ok (.iinc 2 1, 3) := by decide +kernel
theorem dX2_greatestRest_32 : decode cX2_greatestRest 32 = .ok (.goto (-28), 3) := by decide +kernel
theorem dX2_greatestRest_35 : decode cX2_greatestRest 35 = .ok (.iload_n 1, 1) := by decide +kernel
theorem dX2_greatestRest_36 : decode cX2_greatestRest 36 = .ok (.ireturn, 1) := by decide +kernel
theorem dX2_dropSlips_0 : decode cX2_dropSlips 0 = .ok (.iconst 0, 1) := by decide +kernel
theorem dX2_dropSlips_1 : decode cX2_dropSlips 1 = .ok (.istore_n 1, 1) := by decide +kernel
theorem dX2_dropSlips_2 : decode cX2_dropSlips 2 = .ok (.iload_n 1, 1) := by decide +kernel
theorem dX2_dropSlips_3 : decode cX2_dropSlips 3 = .ok (.aload_n 0, 1) := by decide +kernel
theorem dX2_dropSlips_4 : decode cX2_dropSlips 4 = .ok (.getfield 9, 3) := by decide +kernel
theorem dX2_dropSlips_7 : decode cX2_dropSlips 7 = .ok (.if_icmp .ge 16, 3) := by decide +kernel
theorem dX2_dropSlips_10 : decode cX2_dropSlips 10 = .ok (.aload_n 0, 1) := by decide +kernel
theorem dX2_dropSlips_11 : decode cX2_dropSlips 11 = .ok (.getfield 22, 3) := by decide +kernel
theorem dX2_dropSlips_14 : decode cX2_dropSlips 14 = .ok (.iload_n 1, 1) := by decide +kernel
theorem dX2_dropSlips_15 : decode cX2_dropSlips 15 = .ok (.iconst 0, 1) := by decide +kernel
theorem dX2_dropSlips_16 : decode cX2_dropSlips 16 = .ok (.iastore, 1) := by decide +kernel
theorem dX2_dropSlips_17 : decode cX2_dropSlips 17 = .ok (.iinc 1 1, 3) := by decide +kernel
theorem dX2_dropSlips_20 : decode cX2_dropSlips 20 = .ok (.goto (-18), 3) := by decide +kernel
theorem dX2_dropSlips_23 : decode cX2_dropSlips 23 = .ok (.return_, 1) := by decide +kernel
theorem dX3_init_0 : decode cX3_init 0 = .ok (.aload_n 0, 1) := by decide +kernel
theorem dX3_init_1 : decode cX3_init 1 = .ok (.invokespecial 3, 3) := by decide +kernel
theorem dX3_init_4 : decode cX3_init 4 = .ok (.aload_n 0, 1) := by decide +kernel
theorem dX3_init_5 : decode cX3_init 5 = .ok (.iconst 0, 1) := by decide +kernel
theorem dX3_init_6 : decode cX3_init 6 = .ok (.putfield 9, 3) := by decide +kernel
theorem dX3_init_9 : decode cX3_init 9 = .ok (.aload_n 0, 1) := by decide +kernel
theorem dX3_init_10 : decode cX3_init 10 = .ok (.bipush 16, 2) := by decide +kernel
theorem dX3_init_12 : decode cX3_init 12 = .ok (.newarray .int, 2) := by decide +kernel
theorem dX3_init_14 : decode cX3_init 14 = .ok (.putfield 15, 3) := by decide +kernel
theorem dX3_init_17 : decode cX3_init 17 = .ok (.aload_n 0, 1) := by decide +kernel
theorem dX3_init_18 : decode cX3_init 18 = .ok (.bipush 16, 2) := by decide +kernel
theorem dX3_init_20 : decode cX3_init 20 = .ok (.newarray .int, 2) := by decide +kernel
theorem dX3_init_22 : decode cX3_init 22 = .ok (.putfield 19, 3) := by decide +kernel
theorem dX3_init_25 : decode cX3_init 25 = .ok (.aload_n 0, 1) := by decide +kernel
theorem dX3_init_26 : decode cX3_init 26 = .ok (.bipush 16, 2) := by decide +kernel
theorem dX3_init_28 : decode cX3_init 28 = .ok (.newarray .int, 2) := by decide +kernel
theorem dX3_init_30 : decode cX3_init 30 = .ok (.putfield 22, 3) := by decide +kernel
theorem dX3_init_33 : decode cX3_init 33 = .ok (.aload_n 0, 1) := by decide +kernel
theorem dX3_init_34 : decode cX3_init 34 = .ok (.bipush 64, 2) := by decide +kernel
theorem dX3_init_36 : decode cX3_init 36 = .ok (.newarray .int, 2) := by decide +kernel
theorem dX3_init_38 : decode cX3_init 38 = .ok (.putfield 25, 3) := by decide +kernel
theorem dX3_init_41 : decode cX3_init 41 = .ok (.aload_n 0, 1) := by decide +kernel
theorem dX3_init_42 : decode cX3_init 42 = .ok (.bipush 64, 2) := by decide +kernel
theorem dX3_init_44 : decode cX3_init 44 = .ok (.newarray .int, 2) := by decide +kernel
theorem dX3_init_46 : decode cX3_init 46 = .ok (.putfield 28, 3) := by decide +kernel
theorem dX3_init_49 : decode cX3_init 49 = .ok (.aload_n 0, 1) := by decide +kernel
theorem dX3_init_50 : decode cX3_init 50 = .ok (.bipush 64, 2) := by decide +kernel
theorem dX3_init_52 : decode cX3_init 52 = .ok (.newarray .int, 2) := by decide +kernel
theorem dX3_init_54 : decode cX3_init 54 = .ok (.putfield 31, 3) := by decide +kernel
theorem dX3_init_57 : decode cX3_init 57 = .ok (.aload_n 0, 1) := by decide +kernel
theorem dX3_init_58 : decode cX3_init 58 = .ok (.bipush 64, 2) := by decide +kernel
theorem dX3_init_60 : decode cX3_init 60 = .ok (.newarray .int, 2) := by decide +kernel
theorem dX3_init_62 : decode cX3_init 62 = .ok (.putfield 34, 3) := by decide +kernel
theorem dX3_init_65 : decode cX3_init 65 = .ok (.return_, 1) := by decide +kernel
set_option maxRecDepth 20000 in
theorem ggX3_copyFrom_X11_copyRow : GoodIn wsX3_copyFrom wsX11_copyRow := goodIn_r _ [11, 12, 13, 14, 15, 16, 17, 18, 19] (by decide +kernel) (by decide +kernel)
set_option maxRecDepth 20000 in
theorem gX3_copyFrom_X11_copyRow_n37 : GoodIn wsX3_copyFrom (wsX11_copyRow) := ggX3_copyFrom_X11_copyRow
theorem dX3_copyFrom_0 : decode cX3_copyFrom 0 = .ok (.aload_n 0, 1) := by decide +kernel
theorem dX3_copyFrom_1 : decode cX3_copyFrom 1 = .ok (.aload_n 1, 1) := by decide +kernel
theorem dX3_copyFrom_2 : decode cX3_copyFrom 2 = .ok (.getfield 9, 3) := by decide +kernel
theorem dX3_copyFrom_5 : decode cX3_copyFrom 5 = .ok (.putfield 9, 3) := by decide +kernel
theorem dX3_copyFrom_8 : decode cX3_copyFrom 8 = .ok (.aload_n 1, 1) := by decide +kernel
theorem dX3_copyFrom_9 : decode cX3_copyFrom 9 = .ok (.getfield 15, 3) := by decide +kernel
theorem dX3_copyFrom_12 : decode cX3_copyFrom 12 = .ok (.aload_n 0, 1) := by decide +kernel
theorem dX3_copyFrom_13 : decode cX3_copyFrom 13 = .ok (.getfield 15, 3) := by decide +kernel
theorem dX3_copyFrom_16 : decode cX3_copyFrom 16 = .ok (.invokestatic 37, 3) := by decide +kernel
theorem dX3_copyFrom_19 : decode cX3_copyFrom 19 = .ok (.aload_n 1, 1) := by decide +kernel
theorem dX3_copyFrom_20 : decode cX3_copyFrom 20 = .ok (.getfield 19, 3) := by decide +kernel
theorem dX3_copyFrom_23 : decode cX3_copyFrom 23 = .ok (.aload_n 0, 1) := by decide +kernel
theorem dX3_copyFrom_24 : decode cX3_copyFrom 24 = .ok (.getfield 19, 3) := by decide +kernel
theorem dX3_copyFrom_27 : decode cX3_copyFrom 27 = .ok (.invokestatic 37, 3) := by decide +kernel
theorem dX3_copyFrom_30 : decode cX3_copyFrom 30 = .ok (.aload_n 1, 1) := by decide +kernel
theorem dX3_copyFrom_31 : decode cX3_copyFrom 31 = .ok (.getfield 22, 3) := by decide +kernel
theorem dX3_copyFrom_34 : decode cX3_copyFrom 34 = .ok (.aload_n 0, 1) := by decide +kernel
theorem dX3_copyFrom_35 : decode cX3_copyFrom 35 = .ok (.getfield 22, 3) := by decide +kernel
theorem dX3_copyFrom_38 : decode cX3_copyFrom 38 = .ok (.invokestatic 37, 3) := by decide +kernel
theorem dX3_copyFrom_41 : decode cX3_copyFrom 41 = .ok (.aload_n 1, 1) := by decide +kernel
theorem dX3_copyFrom_42 : decode cX3_copyFrom 42 = .ok (.getfield 25, 3) := by decide +kernel
theorem dX3_copyFrom_45 : decode cX3_copyFrom 45 = .ok (.aload_n 0, 1) := by decide +kernel
theorem dX3_copyFrom_46 : decode cX3_copyFrom 46 = .ok (.getfield 25, 3) := by decide +kernel
theorem dX3_copyFrom_49 : decode cX3_copyFrom 49 = .ok (.invokestatic 37, 3) := by decide +kernel
theorem dX3_copyFrom_52 : decode cX3_copyFrom 52 = .ok (.aload_n 1, 1) := by decide +kernel
theorem dX3_copyFrom_53 : decode cX3_copyFrom 53 = .ok (.getfield 28, 3) := by decide +kernel
theorem dX3_copyFrom_56 : decode cX3_copyFrom 56 = .ok (.aload_n 0, 1) := by decide +kernel
theorem dX3_copyFrom_57 : decode cX3_copyFrom 57 = .ok (.getfield 28, 3) := by decide +kernel
theorem dX3_copyFrom_60 : decode cX3_copyFrom 60 = .ok (.invokestatic 37, 3) := by decide +kernel
theorem dX3_copyFrom_63 : decode cX3_copyFrom 63 = .ok (.aload_n 1, 1) := by decide +kernel
theorem dX3_copyFrom_64 : decode cX3_copyFrom 64 = .ok (.getfield 31, 3) := by decide +kernel
theorem dX3_copyFrom_67 : decode cX3_copyFrom 67 = .ok (.aload_n 0, 1) := by decide +kernel
theorem dX3_copyFrom_68 : decode cX3_copyFrom 68 = .ok (.getfield 31, 3) := by decide +kernel
theorem dX3_copyFrom_71 : decode cX3_copyFrom 71 = .ok (.invokestatic 37, 3) := by decide +kernel
theorem dX3_copyFrom_74 : decode cX3_copyFrom 74 = .ok (.aload_n 1, 1) := by decide +kernel
theorem dX3_copyFrom_75 : decode cX3_copyFrom 75 = .ok (.getfield 34, 3) := by decide +kernel
theorem dX3_copyFrom_78 : decode cX3_copyFrom 78 = .ok (.aload_n 0, 1) := by decide +kernel
theorem dX3_copyFrom_79 : decode cX3_copyFrom 79 = .ok (.getfield 34, 3) := by decide +kernel
theorem dX3_copyFrom_82 : decode cX3_copyFrom 82 = .ok (.invokestatic 37, 3) := by decide +kernel
theorem dX3_copyFrom_85 : decode cX3_copyFrom 85 = .ok (.return_, 1) := by decide +kernel
theorem dX3_putLine_0 : decode cX3_putLine 0 = .ok (.iload_n 1, 1) := by decide +kernel
theorem dX3_putLine_1 : decode cX3_putLine 1 = .ok (.ifCond .lt 42, 3) := by decide +kernel
theorem dX3_putLine_4 : decode cX3_putLine 4 = .ok (.iload_n 1, 1) := by decide +kernel
theorem dX3_putLine_5 : decode cX3_putLine 5 = .ok (.bipush 16, 2) := by decide +kernel
theorem dX3_putLine_7 : decode cX3_putLine 7 = .ok (.if_icmp .ge 36, 3) := by decide +kernel
theorem dX3_putLine_10 : decode cX3_putLine 10 = .ok (.aload_n 0, 1) := by decide +kernel
theorem dX3_putLine_11 : decode cX3_putLine 11 = .ok (.getfield 15, 3) := by decide +kernel
theorem dX3_putLine_14 : decode cX3_putLine 14 = .ok (.iload_n 1, 1) := by decide +kernel
theorem dX3_putLine_15 : decode cX3_putLine 15 = .ok (.iload_n 2, 1) := by decide +kernel
theorem dX3_putLine_16 : decode cX3_putLine 16 = .ok (.iastore, 1) := by decide +kernel
theorem dX3_putLine_17 : decode cX3_putLine 17 = .ok (.aload_n 0, 1) := by decide +kernel
theorem dX3_putLine_18 : decode cX3_putLine 18 = .ok (.getfield 19, 3) := by decide +kernel
theorem dX3_putLine_21 : decode cX3_putLine 21 = .ok (.iload_n 1, 1) := by decide +kernel
theorem dX3_putLine_22 : decode cX3_putLine 22 = .ok (.iload_n 3, 1) := by decide +kernel
theorem dX3_putLine_23 : decode cX3_putLine 23 = .ok (.iastore, 1) := by decide +kernel
theorem dX3_putLine_24 : decode cX3_putLine 24 = .ok (.aload_n 0, 1) := by decide +kernel
theorem dX3_putLine_25 : decode cX3_putLine 25 = .ok (.getfield 22, 3) := by decide +kernel
theorem dX3_putLine_28 : decode cX3_putLine 28 = .ok (.iload_n 1, 1) := by decide +kernel
theorem dX3_putLine_29 : decode cX3_putLine 29 = .ok (.iload 4, 2) := by decide +kernel
theorem dX3_putLine_31 : decode cX3_putLine 31 = .ok (.iconst 4, 1) := by decide +kernel
theorem dX3_putLine_32 : decode cX3_putLine 32 = .ok (.invokestatic 41, 3) := by decide +kernel
theorem dX3_putLine_35 : decode cX3_putLine 35 = .ok (.iastore, 1) := by decide +kernel
theorem dX3_putLine_36 : decode cX3_putLine 36 = .ok (.aload_n 0, 1) := by decide +kernel
theorem dX3_putLine_37 : decode cX3_putLine 37 = .ok (.iload_n 1, 1) := by decide +kernel
theorem dX3_putLine_38 : decode cX3_putLine 38 = .ok (.iconst 1, 1) := by decide +kernel
theorem dX3_putLine_39 : decode cX3_putLine 39 = .ok (.iadd, 1) := by decide +kernel
theorem dX3_putLine_40 : decode cX3_putLine 40 = .ok (.putfield 9, 3) := by decide +kernel
theorem dX3_putLine_43 : decode cX3_putLine 43 = .ok (.return_, 1) := by decide +kernel
theorem dX3_putTest_0 : decode cX3_putTest 0 = .ok (.iload_n 1, 1) := by decide +kernel
theorem dX3_putTest_1 : decode cX3_putTest 1 = .ok (.ifCond .lt 68, 3) := by decide +kernel
theorem dX3_putTest_4 : decode cX3_putTest 4 = .ok (.iload_n 1, 1) := by decide +kernel
theorem dX3_putTest_5 : decode cX3_putTest 5 = .ok (.bipush 16, 2) := by decide +kernel
theorem dX3_putTest_7 : decode cX3_putTest 7 = .ok (.if_icmp .ge 62, 3) := by decide +kernel
theorem dX3_putTest_10 : decode cX3_putTest 10 = .ok (.iload_n 2, 1) := by decide +kernel
theorem dX3_putTest_11 : decode cX3_putTest 11 = .ok (.ifCond .lt 58, 3) := by decide +kernel
theorem dX3_putTest_14 : decode cX3_putTest 14 = .ok (.iload_n 2, 1) := by decide +kernel
theorem dX3_putTest_15 : decode cX3_putTest 15 = .ok (.iconst 4, 1) := by decide +kernel
theorem dX3_putTest_16 : decode cX3_putTest 16 = .ok (.if_icmp .ge 53, 3) := by decide +kernel
theorem dX3_putTest_19 : decode cX3_putTest 19 = .ok (.iload_n 1, 1) := by decide +kernel
theorem dX3_putTest_20 : decode cX3_putTest 20 = .ok (.iconst 4, 1) := by decide +kernel
theorem dX3_putTest_21 : decode cX3_putTest 21 = .ok (.imul, 1) := by decide +kernel
theorem dX3_putTest_22 : decode cX3_putTest 22 = .ok (.iload_n 2, 1) := by decide +kernel
theorem dX3_putTest_23 : decode cX3_putTest 23 = .ok (.iadd, 1) := by decide +kernel
theorem dX3_putTest_24 : decode cX3_putTest 24 = .ok (.istore 7, 2) := by decide +kernel
theorem dX3_putTest_26 : decode cX3_putTest 26 = .ok (.aload_n 0, 1) := by decide +kernel
theorem dX3_putTest_27 : decode cX3_putTest 27 = .ok (.getfield 25, 3) := by decide +kernel
theorem dX3_putTest_30 : decode cX3_putTest 30 = .ok (.iload 7, 2) := by decide +kernel
theorem dX3_putTest_32 : decode cX3_putTest 32 = .ok (.iload_n 3, 1) := by decide +kernel
theorem dX3_putTest_33 : decode cX3_putTest 33 = .ok (.ifCond .eq 7, 3) := by decide +kernel
theorem dX3_putTest_36 : decode cX3_putTest 36 = .ok (.iconst 1, 1) := by decide +kernel
theorem dX3_putTest_37 : decode cX3_putTest 37 = .ok (.goto 4, 3) := by decide +kernel
theorem dX3_putTest_40 : decode cX3_putTest 40 = .ok (.iconst 0, 1) := by decide +kernel
theorem dX3_putTest_41 : decode cX3_putTest 41 = .ok (.iastore, 1) := by decide +kernel
theorem dX3_putTest_42 : decode cX3_putTest 42 = .ok (.aload_n 0, 1) := by decide +kernel
theorem dX3_putTest_43 : decode cX3_putTest 43 = .ok (.getfield 28, 3) := by decide +kernel
theorem dX3_putTest_46 : decode cX3_putTest 46 = .ok (.iload 7, 2) := by decide +kernel
theorem dX3_putTest_48 : decode cX3_putTest 48 = .ok (.iload 4, 2) := by decide +kernel
theorem dX3_putTest_50 : decode cX3_putTest 50 = .ok (.iastore, 1) := by decide +kernel
theorem dX3_putTest_51 : decode cX3_putTest 51 = .ok (.aload_n 0, 1) := by decide +kernel
theorem dX3_putTest_52 : decode cX3_putTest 52 = .ok (.getfield 31, 3) := by decide +kernel
theorem dX3_putTest_55 : decode cX3_putTest 55 = .ok (.iload 7, 2) := by decide +kernel
theorem dX3_putTest_57 : decode cX3_putTest 57 = .ok (.iload 5, 2) := by decide +kernel
theorem dX3_putTest_59 : decode cX3_putTest 59 = .ok (.iastore, 1) := by decide +kernel
theorem dX3_putTest_60 : decode cX3_putTest 60 = .ok (.aload_n 0, 1) := by decide +kernel
theorem dX3_putTest_61 : decode cX3_putTest 61 = .ok (.getfield 34, 3) := by decide +kernel
theorem dX3_putTest_64 : decode cX3_putTest 64 = .ok (.iload 7, 2) := by decide +kernel
theorem dX3_putTest_66 : decode cX3_putTest 66 = .ok (.iload 6, 2) := by decide +kernel
theorem dX3_putTest_68 : decode cX3_putTest 68 = .ok (.iastore, 1) := by decide +kernel
theorem dX3_putTest_69 : decode cX3_putTest 69 = .ok (.return_, 1) := by decide +kernel
set_option maxRecDepth 20000 in
theorem ggX3_shareFor_X3_allHold : GoodIn wsX3_shareFor wsX3_allHold := goodIn_r _ [8, 9, 10, 11, 12, 13, 14, 15, 7, 16, 17, 18, 19, 20, 21, 22, 23, 24, 25, 26, 27, 28, 29, 30, 31, 32, 33, 34, 35, 36, 37, 38, 39, 40] (by decide +kernel) (by decide +kernel)
set_option maxRecDepth 20000 in
theorem gX3_shareFor_X3_allHold : GoodIn wsX3_shareFor (wsV RX3 47 RX3 yX3_allHold wsX3_allHold) := goodIn_app (goodIn_of _ (by decide +kernel)) ggX3_shareFor_X3_allHold
theorem dX3_shareFor_0 : decode cX3_shareFor 0 = .ok (.iconst 0, 1) := by decide +kernel
theorem dX3_shareFor_1 : decode cX3_shareFor 1 = .ok (.istore 5, 2) := by decide +kernel
theorem dX3_shareFor_3 : decode cX3_shareFor 3 = .ok (.iconst 0, 1) := by decide +kernel
theorem dX3_shareFor_4 : decode cX3_shareFor 4 = .ok (.istore 6, 2) := by decide +kernel
theorem dX3_shareFor_6 : decode cX3_shareFor 6 = .ok (.iload 6, 2) := by decide +kernel
theorem dX3_shareFor_8 : decode cX3_shareFor 8 = .ok (.aload_n 0, 1) := by decide +kernel
theorem dX3_shareFor_9 : decode cX3_shareFor 9 = .ok (.getfield 9, 3) := by decide +kernel
theorem dX3_shareFor_12 : decode cX3_shareFor 12 = .ok (.if_icmp .ge 74, 3) := by decide +kernel
theorem dX3_shareFor_15 : decode cX3_shareFor 15 = .ok (.aload_n 0, 1) := by decide +kernel
theorem dX3_shareFor_16 : decode cX3_shareFor 16 = .ok (.iload 6, 2) := by decide +kernel
theorem dX3_shareFor_18 : decode cX3_shareFor 18 = .ok (.aload_n 1, 1) := by decide +kernel
theorem dX3_shareFor_19 : decode cX3_shareFor 19 = .ok (.iload_n 2, 1) := by decide +kernel
theorem dX3_shareFor_20 : decode cX3_shareFor 20 = .ok (.iload_n 3, 1) := by decide +kernel
theorem dX3_shareFor_21 : decode cX3_shareFor 21 = .ok (.iload 4, 2) := by decide +kernel
theorem dX3_shareFor_23 : decode cX3_shareFor 23 = .ok (.invokevirtual 47, 3) := by decide +kernel
theorem dX3_shareFor_26 : decode cX3_shareFor 26 = .ok (.ifCond .ne 6, 3) := by decide +kernel
theorem dX3_shareFor_29 : decode cX3_shareFor 29 = .ok (.goto 51, 3) := by decide +kernel
theorem dX3_shareFor_32 : decode cX3_shareFor 32 = .ok (.aload_n 0, 1) := by decide +kernel
theorem dX3_shareFor_33 : decode cX3_shareFor 33 = .ok (.getfield 15, 3) := by decide +kernel
theorem dX3_shareFor_36 : decode cX3_shareFor 36 = .ok (.iload 6, 2) := by decide +kernel
theorem dX3_shareFor_38 : decode cX3_shareFor 38 = .ok (.iaload, 1) := by decide +kernel
theorem dX3_shareFor_39 : decode cX3_shareFor 39 = .ok (.bipush 8, 2) := by decide +kernel
theorem dX3_shareFor_41 : decode cX3_shareFor 41 = .ok (.if_icmp .ne 5, 3) := by decide +kernel
theorem dX3_shareFor_44 : decode cX3_shareFor 44 = .ok (.iconst 0, 1) := by decide +kernel
theorem dX3_shareFor_45 : decode cX3_shareFor 45 = .ok (.ireturn, 1) := by decide +kernel
theorem dX3_shareFor_46 : decode cX3_shareFor 46 = .ok (.aload_n 0, 1) := by decide +kernel
theorem dX3_shareFor_47 : decode cX3_shareFor 47 = .ok (.getfield 15, 3) := by decide +kernel
theorem dX3_shareFor_50 : decode cX3_shareFor 50 = .ok (.iload 6, 2) := by decide +kernel
theorem dX3_shareFor_52 : decode cX3_shareFor 52 = .ok (.iaload, 1) := by decide +kernel
theorem dX3_shareFor_53 : decode cX3_shareFor 53 = .ok (.bipush 6, 2) := by decide +kernel
theorem dX3_shareFor_55 : decode cX3_shareFor 55 = .ok (.if_icmp .ne 13, 3) := by decide +kernel
theorem dX3_shareFor_58 : decode cX3_shareFor 58 = .ok (.aload_n 0, 1) := by decide +kernel
theorem dX3_shareFor_59 : decode cX3_shareFor 59 = .ok (.getfield 19, 3) := by decide +kernel
theorem dX3_shareFor_62 : decode cX3_shareFor 62 = .ok (.iload 6, 2) := by decide +kernel
theorem dX3_shareFor_64 : decode cX3_shareFor 64 = .ok (.iaload, 1) := by decide +kernel
theorem dX3_shareFor_65 : decode cX3_shareFor 65 = .ok (.goto 13, 3) := by decide +kernel
theorem dX3_shareFor_68 : decode cX3_shareFor 68 = .ok (.iload 5, 2) := by decide +kernel
theorem dX3_shareFor_70 : decode cX3_shareFor 70 = .ok (.aload_n 0, 1) := by decide +kernel
theorem dX3_shareFor_71 : decode cX3_shareFor 71 = .ok (.getfield 19, 3) := by decide +kernel
theorem dX3_shareFor_74 : decode cX3_shareFor 74 = .ok (.iload 6, 2) := by decide +kernel
theorem dX3_shareFor_76 : decode cX3_shareFor 76 = .ok (.iaload, 1) := by decide +kernel
theorem dX3_shareFor_77 : decode cX3_shareFor 77 = .ok (.iadd, 1) := by decide +kernel
theorem dX3_shareFor_78 : decode cX3_shareFor 78 = .ok (.istore 5, 2) := by decide +kernel
theorem dX3_shareFor_80 : decode cX3_shareFor 80 = .ok (.iinc 6 1, 3) := by decide +kernel
theorem dX3_shareFor_83 : decode cX3_shareFor 83 = .ok (.goto (-77), 3) := by decide +kernel
theorem dX3_shareFor_86 : decode cX3_shareFor 86 = .ok (.iload 5, 2) := by decide +kernel
theorem dX3_shareFor_88 : decode cX3_shareFor 88 = .ok (.ireturn, 1) := by decide +kernel
set_option maxRecDepth 20000 in
theorem ggX3_allHold_X3_subjectOf : GoodIn wsX3_allHold wsX3_subjectOf := goodIn_r _ [9, 10, 11, 12, 24, 25, 26, 27, 28, 29, 30, 31, 32, 33] (by decide +kernel) (by decide +kernel)
set_option maxRecDepth 20000 in
theorem gX3_allHold_X3_subjectOf : GoodIn wsX3_allHold (va_wsS RX3 51 yX3_subjectOf wsX3_subjectOf) := goodIn_app (goodIn_of _ (by decide +kernel)) ggX3_allHold_X3_subjectOf
set_option maxRecDepth 20000 in
theorem ggX3_allHold_X3_agrees : GoodIn wsX3_allHold wsX3_agrees := goodIn_r _ [15] (by decide +kernel) (by decide +kernel)
set_option maxRecDepth 20000 in
theorem gX3_allHold_X3_agrees : GoodIn wsX3_allHold (va_wsS RX3 55 yX3_agrees wsX3_agrees) := goodIn_app (goodIn_of _ (by decide +kernel)) ggX3_allHold_X3_agrees
theorem dX3_allHold_0 : decode cX3_allHold 0 = .ok (.iload_n 1, 1) := by decide +kernel
theorem dX3_allHold_1 : decode cX3_allHold 1 = .ok (.iconst 4, 1) := by decide +kernel
theorem dX3_allHold_2 : decode cX3_allHold 2 = .ok (.imul, 1) := by decide +kernel
theorem dX3_allHold_3 : decode cX3_allHold 3 = .ok (.istore 6, 2) := by decide +kernel
theorem dX3_allHold_5 : decode cX3_allHold 5 = .ok (.iload 6, 2) := by decide +kernel
theorem dX3_allHold_7 : decode cX3_allHold 7 = .ok (.istore 7, 2) := by decide +kernel
theorem dX3_allHold_9 : decode cX3_allHold 9 = .ok (.iload 7, 2) := by decide +kernel
theorem dX3_allHold_11 : decode cX3_allHold 11 = .ok (.iload 6, 2) := by decide +kernel
theorem dX3_allHold_13 : decode cX3_allHold 13 = .ok (.aload_n 0, 1) := by decide +kernel
theorem dX3_allHold_14 : decode cX3_allHold 14 = .ok (.getfield 22, 3) := by decide +kernel
theorem dX3_allHold_17 : decode cX3_allHold 17 = .ok (.iload_n 1, 1) := by decide +kernel
theorem dX3_allHold_18 : decode cX3_allHold 18 = .ok (.iaload, 1) := by decide +kernel
theorem dX3_allHold_19 : decode cX3_allHold 19 = .ok (.iadd, 1) := by decide +kernel
theorem dX3_allHold_20 : decode cX3_allHold 20 = .ok (.if_icmp .ge 67, 3) := by decide +kernel
theorem dX3_allHold_23 : decode cX3_allHold 23 = .ok (.aload_n 0, 1) := by decide +kernel
theorem dX3_allHold_24 : decode cX3_allHold 24 = .ok (.getfield 28, 3) := by decide +kernel
theorem dX3_allHold_27 : decode cX3_allHold 27 = .ok (.iload 7, 2) := by decide +kernel
theorem dX3_allHold_29 : decode cX3_allHold 29 = .ok (.iaload, 1) := by decide +kernel
theorem dX3_allHold_30 : decode cX3_allHold 30 = .ok (.aload_n 2, 1) := by decide +kernel
theorem dX3_allHold_31 : decode cX3_allHold 31 = .ok (.iload_n 3, 1) := by decide +kernel
theorem dX3_allHold_32 : decode cX3_allHold 32 = .ok (.iload 4, 2) := by decide +kernel
theorem dX3_allHold_34 : decode cX3_allHold 34 = .ok (.iload 5, 2) := by decide +kernel
theorem dX3_allHold_36 : decode cX3_allHold 36 = .ok (.invokestatic 51, 3) := by decide +kernel
theorem dX3_allHold_39 : decode cX3_allHold 39 = .ok (.istore 8, 2) := by decide +kernel
theorem dX3_allHold_41 : decode cX3_allHold 41 = .ok (.iload 8, 2) := by decide +kernel
theorem dX3_allHold_43 : decode cX3_allHold 43 = .ok (.aload_n 0, 1) := by decide +kernel
theorem dX3_allHold_44 : decode cX3_allHold 44 = .ok (.getfield 31, 3) := by decide +kernel
theorem dX3_allHold_47 : decode cX3_allHold 47 = .ok (.iload 7, 2) := by decide +kernel
theorem dX3_allHold_49 : decode cX3_allHold 49 = .ok (.iaload, 1) := by decide +kernel
theorem dX3_allHold_50 : decode cX3_allHold 50 = .ok (.aload_n 0, 1) := by decide +kernel
theorem dX3_allHold_51 : decode cX3_allHold 51 = .ok (.getfield 34, 3) := by decide +kernel
theorem dX3_allHold_54 : decode cX3_allHold 54 = .ok (.iload 7, 2) := by decide +kernel
theorem dX3_allHold_56 : decode cX3_allHold 56 = .ok (.iaload, 1) := by decide +kernel
theorem dX3_allHold_57 : decode cX3_allHold 57 = .ok (.invokestatic 55, 3) := by decide +kernel
theorem dX3_allHold_60 : decode cX3_allHold 60 = .ok (.aload_n 0, 1) := by decide +kernel
theorem dX3_allHold_61 : decode cX3_allHold 61 = .ok (.getfield 25, 3) := by decide +kernel
