set_option maxRecDepth 20000 in
theorem ggX0_faultOf_X5_signAt : GoodIn wsX0_faultOf wsX5_signAt := goodIn_r _ [6, 7, 8, 22, 23] (by decide +kernel) (by decide +kernel)
set_option maxRecDepth 20000 in
theorem gX0_faultOf_X5_signAt : GoodIn wsX0_faultOf (wsV RX0 17 RX5 yX5_signAt wsX5_signAt) := goodIn_app (goodIn_of _ (by decide +kernel)) ggX0_faultOf_X5_signAt
set_option maxRecDepth 20000 in
theorem ggX0_faultOf_X0_stateAfter : GoodIn wsX0_faultOf wsX0_stateAfter := goodIn_r _ [12, 13, 14, 11, 15, 16, 17, 18, 19, 20, 21] (by decide +kernel) (by decide +kernel)
set_option maxRecDepth 20000 in
theorem gX0_faultOf_X0_stateAfter : GoodIn wsX0_faultOf (va_wsS RX0 21 yX0_stateAfter wsX0_stateAfter) := goodIn_app (goodIn_of _ (by decide +kernel)) ggX0_faultOf_X0_stateAfter
set_option maxRecDepth 20000 in
theorem ggX0_faultOf_X0_mayEnd : GoodIn wsX0_faultOf wsX0_mayEnd := goodIn_r _ [15] (by decide +kernel) (by decide +kernel)
set_option maxRecDepth 20000 in
theorem gX0_faultOf_X0_mayEnd : GoodIn wsX0_faultOf (va_wsS RX0 25 yX0_mayEnd wsX0_mayEnd) := goodIn_app (goodIn_of _ (by decide +kernel)) ggX0_faultOf_X0_mayEnd
theorem dX0_faultOf_0 : decode cX0_faultOf 0 = .ok (.iconst 1, 1) := by decide +kernel
theorem dX0_faultOf_1 : decode cX0_faultOf 1 = .ok (.istore_n 1, 1) := by decide +kernel
theorem dX0_faultOf_2 : decode cX0_faultOf 2 = .ok (.iconst 0, 1) := by decide +kernel
theorem dX0_faultOf_3 : decode cX0_faultOf 3 = .ok (.istore_n 2, 1) := by decide +kernel
theorem dX0_faultOf_4 : decode cX0_faultOf 4 = .ok (.iload_n 2, 1) := by decide +kernel
theorem dX0_faultOf_5 : decode cX0_faultOf 5 = .ok (.aload_n 0, 1) := by decide +kernel
theorem dX0_faultOf_6 : decode cX0_faultOf 6 = .ok (.getfield 11, 3) := by decide +kernel
theorem dX0_faultOf_9 : decode cX0_faultOf 9 = .ok (.if_icmp .ge 25, 3) := by decide +kernel
theorem dX0_faultOf_12 : decode cX0_faultOf 12 = .ok (.iload_n 1, 1) := by decide +kernel
theorem dX0_faultOf_13 : decode cX0_faultOf 13 = .ok (.aload_n 0, 1) := by decide +kernel
theorem dX0_faultOf_14 : decode cX0_faultOf 14 = .ok (.iload_n 2, 1) := by decide +kernel
theorem dX0_faultOf_15 : decode cX0_faultOf 15 = .ok (.invokevirtual 17, 3) := by decide +kernel
theorem dX0_faultOf_18 : decode cX0_faultOf 18 = .ok (.invokestatic 21, 3) := by decide +kernel
theorem dX0_faultOf_21 : decode cX0_faultOf 21 = .ok (.istore_n 1, 1) := by decide +kernel
theorem dX0_faultOf_22 : decode cX0_faultOf 22 = .ok (.iload_n 1, 1) := by decide +kernel
theorem dX0_faultOf_23 : decode cX0_faultOf 23 = .ok (.ifCond .ne 5, 3) := by decide +kernel
theorem dX0_faultOf_26 : decode cX0_faultOf 26 = .ok (.iload_n 2, 1) := by decide +kernel
theorem dX0_faultOf_27 : decode cX0_faultOf 27 = .ok (.ireturn, 1) := by decide +kernel
theorem dX0_faultOf_28 : decode cX0_faultOf 28 = .ok (.iinc 2 1, 3) := by decide +kernel
theorem dX0_faultOf_31 : decode cX0_faultOf 31 = .ok (.goto (-27), 3) := by decide +kernel
theorem dX0_faultOf_34 : decode cX0_faultOf 34 = .ok (.iload_n 1, 1) := by decide +kernel
theorem dX0_faultOf_35 : decode cX0_faultOf 35 = .ok (.invokestatic 25, 3) := by decide +kernel
theorem dX0_faultOf_38 : decode cX0_faultOf 38 = .ok (.ifCond .eq 8, 3) := by decide +kernel
theorem dX0_faultOf_41 : decode cX0_faultOf 41 = .ok (.bipush (-6), 2) := by decide +kernel
theorem dX0_faultOf_43 : decode cX0_faultOf 43 = .ok (.goto 7, 3) := by decide +kernel
theorem dX0_faultOf_46 : decode cX0_faultOf 46 = .ok (.aload_n 0, 1) := by decide +kernel
theorem dX0_faultOf_47 : decode cX0_faultOf 47 = .ok (.getfield 11, 3) := by decide +kernel
theorem dX0_faultOf_50 : decode cX0_faultOf 50 = .ok (.ireturn, 1) := by decide +kernel
set_option maxRecDepth 20000 in
theorem ggX0_stateAfter_X0_mayEnd : GoodIn wsX0_stateAfter wsX0_mayEnd := goodIn_r _ [4] (by decide +kernel) (by decide +kernel)
set_option maxRecDepth 20000 in
theorem gX0_stateAfter_X0_mayEnd : GoodIn wsX0_stateAfter (va_wsS RX0 25 yX0_mayEnd wsX0_mayEnd) := goodIn_app (goodIn_of _ (by decide +kernel)) ggX0_stateAfter_X0_mayEnd
set_option maxRecDepth 20000 in
theorem ggX0_stateAfter_X0_stateAfterName : GoodIn wsX0_stateAfter wsX0_stateAfterName := goodIn_r _ [7] (by decide +kernel) (by decide +kernel)
set_option maxRecDepth 20000 in
theorem gX0_stateAfter_X0_stateAfterName : GoodIn wsX0_stateAfter (va_wsS RX0 29 yX0_stateAfterName wsX0_stateAfterName) := goodIn_app (goodIn_of _ (by decide +kernel)) ggX0_stateAfter_X0_stateAfterName
set_option maxRecDepth 20000 in
theorem ggX0_stateAfter_X0_ifDigit : GoodIn wsX0_stateAfter wsX0_ifDigit := goodIn_r _ [10] (by decide +kernel) (by decide +kernel)
set_option maxRecDepth 20000 in
theorem gX0_stateAfter_X0_ifDigit : GoodIn wsX0_stateAfter (va_wsS RX0 32 yX0_ifDigit wsX0_ifDigit) := goodIn_app (goodIn_of _ (by decide +kernel)) ggX0_stateAfter_X0_ifDigit
theorem dX0_stateAfter_0 : decode cX0_stateAfter 0 = .ok (.iload_n 1, 1) := by decide +kernel
theorem dX0_stateAfter_1 : decode cX0_stateAfter 1 = .ok (.bipush 59, 2) := by decide +kernel
theorem dX0_stateAfter_3 : decode cX0_stateAfter 3 = .ok (.if_icmp .ne 16, 3) := by decide +kernel
theorem dX0_stateAfter_6 : decode cX0_stateAfter 6 = .ok (.iload_n 0, 1) := by decide +kernel
theorem dX0_stateAfter_7 : decode cX0_stateAfter 7 = .ok (.invokestatic 25, 3) := by decide +kernel
theorem dX0_stateAfter_10 : decode cX0_stateAfter 10 = .ok (.ifCond .eq 7, 3) := by decide +kernel
theorem dX0_stateAfter_13 : decode cX0_stateAfter 13 = .ok (.iconst 1, 1) := by decide +kernel
theorem dX0_stateAfter_14 : decode cX0_stateAfter 14 = .ok (.goto 4, 3) := by decide +kernel
theorem dX0_stateAfter_17 : decode cX0_stateAfter 17 = .ok (.iconst 0, 1) := by decide +kernel
theorem dX0_stateAfter_18 : decode cX0_stateAfter 18 = .ok (.ireturn, 1) := by decide +kernel
theorem dX0_stateAfter_19 : decode cX0_stateAfter 19 = .ok (.iload_n 0, 1) := by decide +kernel
theorem dX0_stateAfter_20 : decode cX0_stateAfter 20 = .ok (.tableswitch 128 1 9 #[52, 114, 57, 63, 75, 93, 100, 107, 121], 52) := by decide +kernel
theorem dX0_stateAfter_72 : decode cX0_stateAfter 72 = .ok (.iload_n 1, 1) := by decide +kernel
theorem dX0_stateAfter_73 : decode cX0_stateAfter 73 = .ok (.invokestatic 29, 3) := by decide +kernel
theorem dX0_stateAfter_76 : decode cX0_stateAfter 76 = .ok (.ireturn, 1) := by decide +kernel
theorem dX0_stateAfter_77 : decode cX0_stateAfter 77 = .ok (.iload_n 1, 1) := by decide +kernel
theorem dX0_stateAfter_78 : decode cX0_stateAfter 78 = .ok (.iconst 4, 1) := by decide +kernel
theorem dX0_stateAfter_79 : decode cX0_stateAfter 79 = .ok (.invokestatic 32, 3) := by decide +kernel
theorem dX0_stateAfter_82 : decode cX0_stateAfter 82 = .ok (.ireturn, 1) := by decide +kernel
theorem dX0_stateAfter_83 : decode cX0_stateAfter 83 = .ok (.iload_n 1, 1) := by decide +kernel
theorem dX0_stateAfter_84 : decode cX0_stateAfter 84 = .ok (.bipush 61, 2) := by decide +kernel
theorem dX0_stateAfter_86 : decode cX0_stateAfter 86 = .ok (.if_icmp .ne 7, 3) := by decide +kernel
theorem dX0_stateAfter_89 : decode cX0_stateAfter 89 = .ok (.iconst 5, 1) := by decide +kernel
theorem dX0_stateAfter_90 : decode cX0_stateAfter 90 = .ok (.goto 4, 3) := by decide +kernel
theorem dX0_stateAfter_93 : decode cX0_stateAfter 93 = .ok (.iconst 0, 1) := by decide +kernel
theorem dX0_stateAfter_94 : decode cX0_stateAfter 94 = .ok (.ireturn, 1) := by decide +kernel
theorem dX0_stateAfter_95 : decode cX0_stateAfter 95 = .ok (.iload_n 1, 1) := by decide +kernel
theorem dX0_stateAfter_96 : decode cX0_stateAfter 96 = .ok (.bipush 48, 2) := by decide +kernel
theorem dX0_stateAfter_98 : decode cX0_stateAfter 98 = .ok (.if_icmp .ne 8, 3) := by decide +kernel
theorem dX0_stateAfter_101 : decode cX0_stateAfter 101 = .ok (.bipush 10, 2) := by decide +kernel
theorem dX0_stateAfter_103 : decode cX0_stateAfter 103 = .ok (.goto 9, 3) := by decide +kernel
theorem dX0_stateAfter_106 : decode cX0_stateAfter 106 = .ok (.iload_n 1, 1) := by decide +kernel
theorem dX0_stateAfter_107 : decode cX0_stateAfter 107 = .ok (.bipush 6, 2) := by decide +kernel
theorem dX0_stateAfter_109 : decode cX0_stateAfter 109 = .ok (.invokestatic 32, 3) := by decide +kernel
theorem dX0_stateAfter_112 : decode cX0_stateAfter 112 = .ok (.ireturn, 1) := by decide +kernel
theorem dX0_stateAfter_113 : decode cX0_stateAfter 113 = .ok (.iload_n 1, 1) := by decide +kernel
theorem dX0_stateAfter_114 : decode cX0_stateAfter 114 = .ok (.bipush 7, 2) := by decide +kernel
theorem dX0_stateAfter_116 : decode cX0_stateAfter 116 = .ok (.invokestatic 32, 3) := by decide +kernel
theorem dX0_stateAfter_119 : decode cX0_stateAfter 119 = .ok (.ireturn, 1) := by decide +kernel
theorem dX0_stateAfter_120 : decode cX0_stateAfter 120 = .ok (.iload_n 1, 1) := by decide +kernel
theorem dX0_stateAfter_121 : decode cX0_stateAfter 121 = .ok (.bipush 8, 2) := by decide +kernel
theorem dX0_stateAfter_123 : decode cX0_stateAfter 123 = .ok (.invokestatic 32, 3) := by decide +kernel
theorem dX0_stateAfter_126 : decode cX0_stateAfter 126 = .ok (.ireturn, 1) := by decide +kernel
theorem dX0_stateAfter_127 : decode cX0_stateAfter 127 = .ok (.iload_n 1, 1) := by decide +kernel
theorem dX0_stateAfter_128 : decode cX0_stateAfter 128 = .ok (.bipush 10, 2) := by decide +kernel
theorem dX0_stateAfter_130 : decode cX0_stateAfter 130 = .ok (.invokestatic 32, 3) := by decide +kernel
theorem dX0_stateAfter_133 : decode cX0_stateAfter 133 = .ok (.ireturn, 1) := by decide +kernel
theorem dX0_stateAfter_134 : decode cX0_stateAfter 134 = .ok (.iload_n 1, 1) := by decide +kernel
theorem dX0_stateAfter_135 : decode cX0_stateAfter 135 = .ok (.bipush 10, 2) := by decide +kernel
theorem dX0_stateAfter_137 : decode cX0_stateAfter 137 = .ok (.invokestatic 32, 3) := by decide +kernel
theorem dX0_stateAfter_140 : decode cX0_stateAfter 140 = .ok (.ireturn, 1) := by decide +kernel
theorem dX0_stateAfter_141 : decode cX0_stateAfter 141 = .ok (.iload_n 1, 1) := by decide +kernel
theorem dX0_stateAfter_142 : decode cX0_stateAfter 142 = .ok (.bipush 10, 2) := by decide +kernel
theorem dX0_stateAfter_144 : decode cX0_stateAfter 144 = .ok (.invokestatic 32, 3) := by decide +kernel
theorem dX0_stateAfter_147 : decode cX0_stateAfter 147 = .ok (.ireturn, 1) := by decide +kernel
theorem dX0_stateAfter_148 : decode cX0_stateAfter 148 = .ok (.iconst 0, 1) := by decide +kernel
theorem dX0_stateAfter_149 : decode cX0_stateAfter 149 = .ok (.ireturn, 1) := by decide +kernel
theorem dX0_stateAfterName_0 : decode cX0_stateAfterName 0 = .ok (.iload_n 0, 1) := by decide +kernel
theorem dX0_stateAfterName_1 : decode cX0_stateAfterName 1 = .ok (.lookupswitch 73 #[(98, 67), (108, 61), (109, 59), (115, 63), (116, 65), (118, 70)], 59) := by decide +kernel
theorem dX0_stateAfterName_60 : decode cX0_stateAfterName 60 = .ok (.iconst 2, 1) := by decide +kernel
theorem dX0_stateAfterName_61 : decode cX0_stateAfterName 61 = .ok (.ireturn, 1) := by decide +kernel
theorem dX0_stateAfterName_62 : decode cX0_stateAfterName 62 = .ok (.iconst 3, 1) := by decide +kernel
theorem dX0_stateAfterName_63 : decode cX0_stateAfterName 63 = .ok (.ireturn, 1) := by decide +kernel
theorem dX0_stateAfterName_64 : decode cX0_stateAfterName 64 = .ok (.iconst 5, 1) := by decide +kernel
theorem dX0_stateAfterName_65 : decode cX0_stateAfterName 65 = .ok (.ireturn, 1) := by decide +kernel
theorem dX0_stateAfterName_66 : decode cX0_stateAfterName 66 = .ok (.iconst 5, 1) := by decide +kernel
theorem dX0_stateAfterName_67 : decode cX0_stateAfterName 67 = .ok (.ireturn, 1) := by decide +kernel
theorem dX0_stateAfterName_68 : decode cX0_stateAfterName 68 = .ok (.bipush 9, 2) := by decide +kernel
theorem dX0_stateAfterName_70 : decode cX0_stateAfterName 70 = .ok (.ireturn, 1) := by decide +kernel
theorem dX0_stateAfterName_71 : decode cX0_stateAfterName 71 = .ok (.bipush 9, 2) := by decide +kernel
theorem dX0_stateAfterName_73 : decode cX0_stateAfterName 73 = .ok (.ireturn, 1) := by decide +kernel
theorem dX0_stateAfterName_74 : decode cX0_stateAfterName 74 = .ok (.iconst 0, 1) := by decide +kernel
theorem dX0_stateAfterName_75 : decode cX0_stateAfterName 75 = .ok (.ireturn, 1) := by decide +kernel
theorem dX0_ifDigit_0 : decode cX0_ifDigit 0 = .ok (.iload_n 0, 1) := by decide +kernel
theorem dX0_ifDigit_1 : decode cX0_ifDigit 1 = .ok (.bipush 48, 2) := by decide +kernel
theorem dX0_ifDigit_3 : decode cX0_ifDigit 3 = .ok (.if_icmp .lt 13, 3) := by decide +kernel
theorem dX0_ifDigit_6 : decode cX0_ifDigit 6 = .ok (.iload_n 0, 1) := by decide +kernel
theorem dX0_ifDigit_7 : decode cX0_ifDigit 7 = .ok (.bipush 57, 2) := by decide +kernel
theorem dX0_ifDigit_9 : decode cX0_ifDigit 9 = .ok (.if_icmp .gt 7, 3) := by decide +kernel
theorem dX0_ifDigit_12 : decode cX0_ifDigit 12 = .ok (.iload_n 1, 1) := by decide +kernel
theorem dX0_ifDigit_13 : decode cX0_ifDigit 13 = .ok (.goto 4, 3) := by decide +kernel
theorem dX0_ifDigit_16 : decode cX0_ifDigit 16 = .ok (.iconst 0, 1) := by decide +kernel
theorem dX0_ifDigit_17 : decode cX0_ifDigit 17 = .ok (.ireturn, 1) := by decide +kernel
theorem dX0_mayEnd_0 : decode cX0_mayEnd 0 = .ok (.iload_n 0, 1) := by decide +kernel
theorem dX0_mayEnd_1 : decode cX0_mayEnd 1 = .ok (.tableswitch 53 2 10 #[51, 53, 53, 53, 51, 51, 51, 53, 51], 51) := by decide +kernel
theorem dX0_mayEnd_52 : decode cX0_mayEnd 52 = .ok (.iconst 1, 1) := by decide +kernel
theorem dX0_mayEnd_53 : decode cX0_mayEnd 53 = .ok (.ireturn, 1) := by decide +kernel
theorem dX0_mayEnd_54 : decode cX0_mayEnd 54 = .ok (.iconst 0, 1) := by decide +kernel
theorem dX0_mayEnd_55 : decode cX0_mayEnd 55 = .ok (.ireturn, 1) := by decide +kernel
set_option maxRecDepth 20000 in
theorem ggX1_init_X2_init : GoodIn wsX1_init wsX2_init := goodIn_r _ [12, 13, 2, 3, 14, 15, 16, 17, 18, 19, 20, 21, 22, 23, 24, 25, 26, 27, 28, 29, 30, 31, 32, 33, 34, 35, 36, 37, 38, 39, 40, 41, 42, 43, 44, 45, 46, 47, 48, 49, 50, 51, 52, 53, 54, 55, 59, 60, 61, 62, 63, 64, 65, 66, 67, 68, 69, 70, 71, 72, 73, 74, 75, 76, 77, 78, 79, 80, 81] (by decide +kernel) (by decide +kernel)
set_option maxRecDepth 20000 in
theorem gX1_init_X2_init : GoodIn wsX1_init (wsX2_init) := ggX1_init_X2_init
theorem dX1_init_0 : decode cX1_init 0 = .ok (.aload_n 0, 1) := by decide +kernel
theorem dX1_init_1 : decode cX1_init 1 = .ok (.invokespecial 3, 3) := by decide +kernel
theorem dX1_init_4 : decode cX1_init 4 = .ok (.aload_n 0, 1) := by decide +kernel
theorem dX1_init_5 : decode cX1_init 5 = .ok (.bipush 7, 2) := by decide +kernel
theorem dX1_init_7 : decode cX1_init 7 = .ok (.anewarray 11, 3) := by decide +kernel
theorem dX1_init_10 : decode cX1_init 10 = .ok (.putfield 13, 3) := by decide +kernel
theorem dX1_init_13 : decode cX1_init 13 = .ok (.iconst 0, 1) := by decide +kernel
theorem dX1_init_14 : decode cX1_init 14 = .ok (.istore_n 1, 1) := by decide +kernel
theorem dX1_init_15 : decode cX1_init 15 = .ok (.iload_n 1, 1) := by decide +kernel
theorem dX1_init_16 : decode cX1_init 16 = .ok (.bipush 7, 2) := by decide +kernel
theorem dX1_init_18 : decode cX1_init 18 = .ok (.if_icmp .ge 22, 3) := by decide +kernel
theorem dX1_init_21 : decode cX1_init 21 = .ok (.aload_n 0, 1) := by decide +kernel
theorem dX1_init_22 : decode cX1_init 22 = .ok (.getfield 13, 3) := by decide +kernel
theorem dX1_init_25 : decode cX1_init 25 = .ok (.iload_n 1, 1) := by decide +kernel
theorem dX1_init_26 : decode cX1_init 26 = .ok (.new 11, 3) := by decide +kernel
theorem dX1_init_29 : decode cX1_init 29 = .ok (.dup, 1) := by decide +kernel
theorem dX1_init_30 : decode cX1_init 30 = .ok (.invokespecial 17, 3) := by decide +kernel
theorem dX1_init_33 : decode cX1_init 33 = .ok (.aastore, 1) := by decide +kernel
theorem dX1_init_34 : decode cX1_init 34 = .ok (.iinc 1 1, 3) := by decide +kernel
theorem dX1_init_37 : decode cX1_init 37 = .ok (.goto (-22), 3) := by decide +kernel
theorem dX1_init_40 : decode cX1_init 40 = .ok (.aload_n 0, 1) := by decide +kernel
theorem dX1_init_41 : decode cX1_init 41 = .ok (.iconst 0, 1) := by decide +kernel
theorem dX1_init_42 : decode cX1_init 42 = .ok (.putfield 18, 3) := by decide +kernel
theorem dX1_init_45 : decode cX1_init 45 = .ok (.aload_n 0, 1) := by decide +kernel
theorem dX1_init_46 : decode cX1_init 46 = .ok (.iconst 0, 1) := by decide +kernel
theorem dX1_init_47 : decode cX1_init 47 = .ok (.putfield 22, 3) := by decide +kernel
theorem dX1_init_50 : decode cX1_init 50 = .ok (.return_, 1) := by decide +kernel
set_option maxRecDepth 20000 in
theorem ggX1_prepare_X2_copyFrom : GoodIn wsX1_prepare wsX2_copyFrom := goodIn_r _ [7, 8, 9, 10, 11, 12, 13, 14, 15, 16, 17, 18, 19, 20, 21, 22, 23, 24, 25, 26, 27, 28, 29, 30, 31, 32, 33, 34, 35, 36, 37, 38, 39, 40, 44, 45, 46, 47, 48, 49, 50, 51, 52, 53, 54, 55, 56, 57, 58, 59, 60, 61, 62, 63, 64, 65, 66] (by decide +kernel) (by decide +kernel)
set_option maxRecDepth 20000 in
theorem gX1_prepare_X2_copyFrom : GoodIn wsX1_prepare (wsV RX1 25 RX2 yX2_copyFrom wsX2_copyFrom) := goodIn_app (goodIn_of _ (by decide +kernel)) ggX1_prepare_X2_copyFrom
theorem dX1_prepare_0 : decode cX1_prepare 0 = .ok (.aload_n 0, 1) := by decide +kernel
theorem dX1_prepare_1 : decode cX1_prepare 1 = .ok (.getfield 13, 3) := by decide +kernel
theorem dX1_prepare_4 : decode cX1_prepare 4 = .ok (.aload_n 0, 1) := by decide +kernel
theorem dX1_prepare_5 : decode cX1_prepare 5 = .ok (.getfield 18, 3) := by decide +kernel
theorem dX1_prepare_8 : decode cX1_prepare 8 = .ok (.aaload, 1) := by decide +kernel
theorem dX1_prepare_9 : decode cX1_prepare 9 = .ok (.aload_n 1, 1) := by decide +kernel
theorem dX1_prepare_10 : decode cX1_prepare 10 = .ok (.invokevirtual 25, 3) := by decide +kernel
theorem dX1_prepare_13 : decode cX1_prepare 13 = .ok (.return_, 1) := by decide +kernel
theorem dX1_settle_0 : decode cX1_settle 0 = .ok (.iload_n 1, 1) := by decide +kernel
theorem dX1_settle_1 : decode cX1_settle 1 = .ok (.ifCond .lt 31, 3) := by decide +kernel
theorem dX1_settle_4 : decode cX1_settle 4 = .ok (.aload_n 0, 1) := by decide +kernel
theorem dX1_settle_5 : decode cX1_settle 5 = .ok (.aload_n 0, 1) := by decide +kernel
theorem dX1_settle_6 : decode cX1_settle 6 = .ok (.getfield 18, 3) := by decide +kernel
theorem dX1_settle_9 : decode cX1_settle 9 = .ok (.iconst 1, 1) := by decide +kernel
theorem dX1_settle_10 : decode cX1_settle 10 = .ok (.iadd, 1) := by decide +kernel
theorem dX1_settle_11 : decode cX1_settle 11 = .ok (.bipush 7, 2) := by decide +kernel
theorem dX1_settle_13 : decode cX1_settle 13 = .ok (.irem, 1) := by decide +kernel
theorem dX1_settle_14 : decode cX1_settle 14 = .ok (.putfield 18, 3) := by decide +kernel
theorem dX1_settle_17 : decode cX1_settle 17 = .ok (.aload_n 0, 1) := by decide +kernel
theorem dX1_settle_18 : decode cX1_settle 18 = .ok (.bipush 6, 2) := by decide +kernel
theorem dX1_settle_20 : decode cX1_settle 20 = .ok (.aload_n 0, 1) := by decide +kernel
theorem dX1_settle_21 : decode cX1_settle 21 = .ok (.getfield 22, 3) := by decide +kernel
theorem dX1_settle_24 : decode cX1_settle 24 = .ok (.iconst 1, 1) := by decide +kernel
theorem dX1_settle_25 : decode cX1_settle 25 = .ok (.iadd, 1) := by decide +kernel
theorem dX1_settle_26 : decode cX1_settle 26 = .ok (.invokestatic 29, 3) := by decide +kernel
theorem dX1_settle_29 : decode cX1_settle 29 = .ok (.putfield 22, 3) := by decide +kernel
theorem dX1_settle_32 : decode cX1_settle 32 = .ok (.iload_n 1, 1) := by decide +kernel
theorem dX1_settle_33 : decode cX1_settle 33 = .ok (.ireturn, 1) := by decide +kernel
theorem dX1_takeLatest_0 : decode cX1_takeLatest 0 = .ok (.aload_n 0, 1) := by decide +kernel
theorem dX1_takeLatest_1 : decode cX1_takeLatest 1 = .ok (.dup, 1) := by decide +kernel
theorem dX1_takeLatest_2 : decode cX1_takeLatest 2 = .ok (.getfield 22, 3) := by decide +kernel
theorem dX1_takeLatest_5 : decode cX1_takeLatest 5 = .ok (.iconst 1, 1) := by decide +kernel
theorem dX1_takeLatest_6 : decode cX1_takeLatest 6 = .ok (.isub, 1) := by decide +kernel
theorem dX1_takeLatest_7 : decode cX1_takeLatest 7 = .ok (.putfield 22, 3) := by decide +kernel
theorem dX1_takeLatest_10 : decode cX1_takeLatest 10 = .ok (.aload_n 0, 1) := by decide +kernel
theorem dX1_takeLatest_11 : decode cX1_takeLatest 11 = .ok (.aload_n 0, 1) := by decide +kernel
theorem dX1_takeLatest_12 : decode cX1_takeLatest 12 = .ok (.getfield 18, 3) := by decide +kernel
theorem dX1_takeLatest_15 : decode cX1_takeLatest 15 = .ok (.bipush 6, 2) := by decide +kernel
theorem dX1_takeLatest_17 : decode cX1_takeLatest 17 = .ok (.iadd, 1) := by decide +kernel
theorem dX1_takeLatest_18 : decode cX1_takeLatest 18 = .ok (.bipush 7, 2) := by decide +kernel
theorem dX1_takeLatest_20 : decode cX1_takeLatest 20 = .ok (.irem, 1) := by decide +kernel
theorem dX1_takeLatest_21 : decode cX1_takeLatest 21 = .ok (.putfield 18, 3) := by decide +kernel
theorem dX1_takeLatest_24 : decode cX1_takeLatest 24 = .ok (.aload_n 0, 1) := by decide +kernel
theorem dX1_takeLatest_25 : decode cX1_takeLatest 25 = .ok (.getfield 13, 3) := by decide +kernel
theorem dX1_takeLatest_28 : decode cX1_takeLatest 28 = .ok (.aload_n 0, 1) := by decide +kernel
theorem dX1_takeLatest_29 : decode cX1_takeLatest 29 = .ok (.getfield 18, 3) := by decide +kernel
theorem dX1_takeLatest_32 : decode cX1_takeLatest 32 = .ok (.aaload, 1) := by decide +kernel
theorem dX1_takeLatest_33 : decode cX1_takeLatest 33 = .ok (.areturn, 1) := by decide +kernel
set_option maxRecDepth 20000 in
theorem ggX2_init_X4_init : GoodIn wsX2_init wsX4_init := goodIn_r _ [16, 17, 2, 3, 18, 19, 20, 11, 21, 22, 23, 24, 25, 26, 27, 28, 29, 30, 31, 32, 33, 34, 53, 54, 55, 56, 57, 58, 59, 60, 61, 62, 63, 64, 65] (by decide +kernel) (by decide +kernel)
set_option maxRecDepth 20000 in
theorem gX2_init_X4_init : GoodIn wsX2_init (wsX4_init) := ggX2_init_X4_init
set_option maxRecDepth 20000 in
theorem ggX2_init_X3_init : GoodIn wsX2_init wsX3_init := goodIn_r _ [37, 38, 2, 3, 39, 40, 41, 13, 42, 43, 44, 45, 66, 67, 68] (by decide +kernel) (by decide +kernel)
set_option maxRecDepth 20000 in
theorem gX2_init_X3_init : GoodIn wsX2_init (wsX3_init) := ggX2_init_X3_init
theorem dX2_init_0 : decode cX2_init 0 = .ok (.aload_n 0, 1) := by decide +kernel
theorem dX2_init_1 : decode cX2_init 1 = .ok (.invokespecial 3, 3) := by decide +kernel
theorem dX2_init_4 : decode cX2_init 4 = .ok (.aload_n 0, 1) := by decide +kernel
theorem dX2_init_5 : decode cX2_init 5 = .ok (.bipush 6, 2) := by decide +kernel
theorem dX2_init_7 : decode cX2_init 7 = .ok (.newarray .int, 2) := by decide +kernel
theorem dX2_init_9 : decode cX2_init 9 = .ok (.putfield 9, 3) := by decide +kernel
theorem dX2_init_12 : decode cX2_init 12 = .ok (.aload_n 0, 1) := by decide +kernel
theorem dX2_init_13 : decode cX2_init 13 = .ok (.bipush 7, 2) := by decide +kernel
theorem dX2_init_15 : decode cX2_init 15 = .ok (.anewarray 15, 3) := by decide +kernel
theorem dX2_init_18 : decode cX2_init 18 = .ok (.putfield 17, 3) := by decide +kernel
theorem dX2_init_21 : decode cX2_init 21 = .ok (.aload_n 0, 1) := by decide +kernel
theorem dX2_init_22 : decode cX2_init 22 = .ok (.bipush 12, 2) := by decide +kernel
theorem dX2_init_24 : decode cX2_init 24 = .ok (.anewarray 21, 3) := by decide +kernel
theorem dX2_init_27 : decode cX2_init 27 = .ok (.putfield 23, 3) := by decide +kernel
theorem dX2_init_30 : decode cX2_init 30 = .ok (.iconst 0, 1) := by decide +kernel
theorem dX2_init_31 : decode cX2_init 31 = .ok (.istore_n 1, 1) := by decide +kernel
theorem dX2_init_32 : decode cX2_init 32 = .ok (.iload_n 1, 1) := by decide +kernel
theorem dX2_init_33 : decode cX2_init 33 = .ok (.bipush 6, 2) := by decide +kernel
theorem dX2_init_35 : decode cX2_init 35 = .ok (.if_icmp .ge 20, 3) := by decide +kernel
theorem dX2_init_38 : decode cX2_init 38 = .ok (.aload_n 0, 1) := by decide +kernel
theorem dX2_init_39 : decode cX2_init 39 = .ok (.getfield 9, 3) := by decide +kernel
theorem dX2_init_42 : decode cX2_init 42 = .ok (.iload_n 1, 1) := by decide +kernel
theorem dX2_init_43 : decode cX2_init 43 = .ok (.getstatic 27, 3) := by decide +kernel
theorem dX2_init_46 : decode cX2_init 46 = .ok (.iload_n 1, 1) := by decide +kernel
theorem dX2_init_47 : decode cX2_init 47 = .ok (.iaload, 1) := by decide +kernel
theorem dX2_init_48 : decode cX2_init 48 = .ok (.iastore, 1) := by decide +kernel
theorem dX2_init_49 : decode cX2_init 49 = .ok (.iinc 1 1, 3) := by decide +kernel
theorem dX2_init_52 : decode cX2_init 52 = .ok (.goto (-20), 3) := by decide +kernel
theorem dX2_init_55 : decode cX2_init 55 = .ok (.iconst 0, 1) := by decide +kernel
theorem dX2_init_56 : decode cX2_init 56 = .ok (.istore_n 1, 1) := by decide +kernel
theorem dX2_init_57 : decode cX2_init 57 = .ok (.iload_n 1, 1) := by decide +kernel
theorem dX2_init_58 : decode cX2_init 58 = .ok (.bipush 7, 2) := by decide +kernel
theorem dX2_init_60 : decode cX2_init 60 = .ok (.if_icmp .ge 22, 3) := by decide +kernel
theorem dX2_init_63 : decode cX2_init 63 = .ok (.aload_n 0, 1) := by decide +kernel
theorem dX2_init_64 : decode cX2_init 64 = .ok (.getfield 17, 3) := by decide +kernel
theorem dX2_init_67 : decode cX2_init 67 = .ok (.iload_n 1, 1) := by decide +kernel
theorem dX2_init_68 : decode cX2_init 68 = .ok (.new 15, 3) := by decide +kernel
theorem dX2_init_71 : decode cX2_init 71 = .ok (.dup, 1) := by decide +kernel
theorem dX2_init_72 : decode cX2_init 72 = .ok (.invokespecial 30, 3) := by decide +kernel
theorem dX2_init_75 : decode cX2_init 75 = .ok (.aastore, 1) := by decide +kernel
theorem dX2_init_76 : decode cX2_init 76 = .ok (.iinc 1 1, 3) := by decide +kernel
theorem dX2_init_79 : decode cX2_init 79 = .ok (.goto (-22), 3) := by decide +kernel
theorem dX2_init_82 : decode cX2_init 82 = .ok (.iconst 0, 1) := by decide +kernel
theorem dX2_init_83 : decode cX2_init 83 = .ok (.istore_n 1, 1) := by decide +kernel
theorem dX2_init_84 : decode cX2_init 84 = .ok (.iload_n 1, 1) := by decide +kernel
theorem dX2_init_85 : decode cX2_init 85 = .ok (.bipush 12, 2) := by decide +kernel
theorem dX2_init_87 : decode cX2_init 87 = .ok (.if_icmp .ge 22, 3) := by decide +kernel
theorem dX2_init_90 : decode cX2_init 90 = .ok (.aload_n 0, 1) := by decide +kernel
theorem dX2_init_91 : decode cX2_init 91 = .ok (.getfield 23, 3) := by decide +kernel
theorem dX2_init_94 : decode cX2_init 94 = .ok (.iload_n 1, 1) := by decide +kernel
theorem dX2_init_95 : decode cX2_init 95 = .ok (.new 21, 3) := by decide +kernel
theorem dX2_init_98 : decode cX2_init 98 = .ok (.dup, 1) := by decide +kernel
theorem dX2_init_99 : decode cX2_init 99 = .ok (.invokespecial 31, 3) := by decide +kernel
theorem dX2_init_102 : decode cX2_init 102 = .ok (.aastore, 1) := by decide +kernel
theorem dX2_init_103 : decode cX2_init 103 = .ok (.iinc 1 1, 3) := by decide +kernel
theorem dX2_init_106 : decode cX2_init 106 = .ok (.goto (-22), 3) := by decide +kernel
theorem dX2_init_109 : decode cX2_init 109 = .ok (.return_, 1) := by decide +kernel
set_option maxRecDepth 20000 in
theorem ggX2_copyFrom_X4_copyFrom : GoodIn wsX2_copyFrom wsX4_copyFrom := goodIn_r _ [12, 13, 14, 15, 16, 17, 18, 19, 20, 21, 22, 23, 24, 25, 41, 42, 43, 44, 45, 46, 47, 48, 49, 50, 51, 52, 53] (by decide +kernel) (by decide +kernel)
set_option maxRecDepth 20000 in
theorem gX2_copyFrom_X4_copyFrom : GoodIn wsX2_copyFrom (wsV RX2 36 RX4 yX4_copyFrom wsX4_copyFrom) := goodIn_app (goodIn_of _ (by decide +kernel)) ggX2_copyFrom_X4_copyFrom
set_option maxRecDepth 20000 in
theorem ggX2_copyFrom_X3_copyFrom : GoodIn wsX2_copyFrom wsX3_copyFrom := goodIn_r _ [30, 31, 32, 33, 54, 55, 56] (by decide +kernel) (by decide +kernel)
set_option maxRecDepth 20000 in
theorem gX2_copyFrom_X3_copyFrom : GoodIn wsX2_copyFrom (wsV RX2 43 RX3 yX3_copyFrom wsX3_copyFrom) := goodIn_app (goodIn_of _ (by decide +kernel)) ggX2_copyFrom_X3_copyFrom
theorem dX2_copyFrom_0 : decode cX2_copyFrom 0 = .ok (.iconst 0, 1) := by decide +kernel
theorem dX2_copyFrom_1 : decode cX2_copyFrom 1 = .ok (.istore_n 2, 1) := by decide +kernel
theorem dX2_copyFrom_2 : decode cX2_copyFrom 2 = .ok (.iload_n 2, 1) := by decide +kernel
theorem dX2_copyFrom_3 : decode cX2_copyFrom 3 = .ok (.bipush 6, 2) := by decide +kernel
theorem dX2_copyFrom_5 : decode cX2_copyFrom 5 = .ok (.if_icmp .ge 21, 3) := by decide +kernel
theorem dX2_copyFrom_8 : decode cX2_copyFrom 8 = .ok (.aload_n 0, 1) := by decide +kernel
theorem dX2_copyFrom_9 : decode cX2_copyFrom 9 = .ok (.getfield 9, 3) := by decide +kernel
theorem dX2_copyFrom_12 : decode cX2_copyFrom 12 = .ok (.iload_n 2, 1) := by decide +kernel
theorem dX2_copyFrom_13 : decode cX2_copyFrom 13 = .ok (.aload_n 1, 1) := by decide +kernel
theorem dX2_copyFrom_14 : decode cX2_copyFrom 14 = .ok (.getfield 9, 3) := by decide +kernel
theorem dX2_copyFrom_17 : decode cX2_copyFrom 17 = .ok (.iload_n 2, 1) := by decide +kernel
theorem dX2_copyFrom_18 : decode cX2_copyFrom 18 = .ok (.iaload, 1) := by decide +kernel
theorem dX2_copyFrom_19 : decode cX2_copyFrom 19 = .ok (.iastore, 1) := by decide +kernel
theorem dX2_copyFrom_20 : decode cX2_copyFrom 20 = .ok (.iinc 2 1, 3) := by decide +kernel
theorem dX2_copyFrom_23 : decode cX2_copyFrom 23 = .ok (.goto (-21), 3) := by decide +kernel
theorem dX2_copyFrom_26 : decode cX2_copyFrom 26 = .ok (.iconst 0, 1) := by decide +kernel
theorem dX2_copyFrom_27 : decode cX2_copyFrom 27 = .ok (.istore_n 2, 1) := by decide +kernel
theorem dX2_copyFrom_28 : decode cX2_copyFrom 28 = .ok (.iload_n 2, 1) := by decide +kernel
theorem dX2_copyFrom_29 : decode cX2_copyFrom 29 = .ok (.aload_n 1, 1) := by decide +kernel
theorem dX2_copyFrom_30 : decode cX2_copyFrom 30 = .ok (.getfield 32, 3) := by decide +kernel
theorem dX2_copyFrom_33 : decode cX2_copyFrom 33 = .ok (.if_icmp .ge 24, 3) := by decide +kernel
theorem dX2_copyFrom_36 : decode cX2_copyFrom 36 = .ok (.aload_n 0, 1) := by decide +kernel
theorem dX2_copyFrom_37 : decode cX2_copyFrom 37 = .ok (.getfield 17, 3) := by decide +kernel
theorem dX2_copyFrom_40 : decode cX2_copyFrom 40 = .ok (.iload_n 2, 1) := by decide +kernel
theorem dX2_copyFrom_41 : decode cX2_copyFrom 41 = .ok (.aaload, 1) := by decide +kernel
theorem dX2_copyFrom_42 : decode cX2_copyFrom 42 = .ok (.aload_n 1, 1) := by decide +kernel
theorem dX2_copyFrom_43 : decode cX2_copyFrom 43 = .ok (.getfield 17, 3) := by decide +kernel
theorem dX2_copyFrom_46 : decode cX2_copyFrom 46 = .ok (.iload_n 2, 1) := by decide +kernel
theorem dX2_copyFrom_47 : decode cX2_copyFrom 47 = .ok (.aaload, 1) := by decide +kernel
theorem dX2_copyFrom_48 : decode cX2_copyFrom 48 = .ok (.invokevirtual 36, 3) := by decide +kernel
theorem dX2_copyFrom_51 : decode cX2_copyFrom 51 = .ok (.iinc 2 1, 3) := by decide +kernel
theorem dX2_copyFrom_54 : decode cX2_copyFrom 54 = .ok (.goto (-26), 3) := by decide +kernel
theorem dX2_copyFrom_57 : decode cX2_copyFrom 57 = .ok (.iconst 0, 1) := by decide +kernel
theorem dX2_copyFrom_58 : decode cX2_copyFrom 58 = .ok (.istore_n 2, 1) := by decide +kernel
theorem dX2_copyFrom_59 : decode cX2_copyFrom 59 = .ok (.iload_n 2, 1) := by decide +kernel
theorem dX2_copyFrom_60 : decode cX2_copyFrom 60 = .ok (.aload_n 1, 1) := by decide +kernel
theorem dX2_copyFrom_61 : decode cX2_copyFrom 61 = .ok (.getfield 40, 3) := by decide +kernel
theorem dX2_copyFrom_64 : decode cX2_copyFrom 64 = .ok (.if_icmp .ge 24, 3) := by decide +kernel
theorem dX2_copyFrom_67 : decode cX2_copyFrom 67 = .ok (.aload_n 0, 1) := by decide +kernel
theorem dX2_copyFrom_68 : decode cX2_copyFrom 68 = .ok (.getfield 23, 3) := by decide +kernel
theorem dX2_copyFrom_71 : decode cX2_copyFrom 71 = .ok (.iload_n 2, 1) := by decide +kernel
theorem dX2_copyFrom_72 : decode cX2_copyFrom 72 = .ok (.aaload, 1) := by decide +kernel
theorem dX2_copyFrom_73 : decode cX2_copyFrom 73 = .ok (.aload_n 1, 1) := by decide +kernel
theorem dX2_copyFrom_74 : decode cX2_copyFrom 74 = .ok (.getfield 23, 3) := by decide +kernel
theorem dX2_copyFrom_77 : decode cX2_copyFrom 77 = .ok (.iload_n 2, 1) := by decide +kernel
theorem dX2_copyFrom_78 : decode cX2_copyFrom 78 = .ok (.aaload, 1) := by decide +kernel
theorem dX2_copyFrom_79 : decode cX2_copyFrom 79 = .ok (.invokevirtual 43, 3) := by decide +kernel
theorem dX2_copyFrom_82 : decode cX2_copyFrom 82 = .ok (.iinc 2 1, 3) := by decide +kernel
theorem dX2_copyFrom_85 : decode cX2_copyFrom 85 = .ok (.goto (-26), 3) := by decide +kernel
theorem dX2_copyFrom_88 : decode cX2_copyFrom 88 = .ok (.aload_n 0, 1) := by decide +kernel
theorem dX2_copyFrom_89 : decode cX2_copyFrom 89 = .ok (.aload_n 1, 1) := by decide +kernel
theorem dX2_copyFrom_90 : decode cX2_copyFrom 90 = .ok (.getfield 46, 3) := by decide +kernel
theorem dX2_copyFrom_93 : decode cX2_copyFrom 93 = .ok (.putfield 46, 3) := by decide +kernel
theorem dX2_copyFrom_96 : decode cX2_copyFrom 96 = .ok (.aload_n 0, 1) := by decide +kernel
theorem dX2_copyFrom_97 : decode cX2_copyFrom 97 = .ok (.aload_n 1, 1) := by decide +kernel
theorem dX2_copyFrom_98 : decode cX2_copyFrom 98 = .ok (.getfield 32, 3) := by decide +kernel
theorem dX2_copyFrom_101 : decode cX2_copyFrom 101 = .ok (.putfield 32, 3) := by decide +kernel
theorem dX2_copyFrom_104 : decode cX2_copyFrom 104 = .ok (.aload_n 0, 1) := by decide +kernel
theorem dX2_copyFrom_105 : decode cX2_copyFrom 105 = .ok (.aload_n 1, 1) := by decide +kernel
theorem dX2_copyFrom_106 : decode cX2_copyFrom 106 = .ok (.getfield 40, 3) := by decide +kernel
theorem dX2_copyFrom_109 : decode cX2_copyFrom 109 = .ok (.putfield 40, 3) := by decide +kernel
theorem dX2_copyFrom_112 : decode cX2_copyFrom 112 = .ok (.aload_n 0, 1) := by decide +kernel
theorem dX2_copyFrom_113 : decode cX2_copyFrom 113 = .ok (.aload_n 1, 1) := by decide +kernel
theorem dX2_copyFrom_114 : decode cX2_copyFrom 114 = .ok (.getfield 49, 3) := by decide +kernel
theorem dX2_copyFrom_117 : decode cX2_copyFrom 117 = .ok (.putfield 49, 3) := by decide +kernel
theorem dX2_copyFrom_120 : decode cX2_copyFrom 120 = .ok (.return_, 1) := by decide +kernel
theorem dX2_meterAt_0 : decode cX2_meterAt 0 = .ok (.iload_n 1, 1) := by decide +kernel
theorem dX2_meterAt_1 : decode cX2_meterAt 1 = .ok (.ifCond .lt 20, 3) := by decide +kernel
theorem dX2_meterAt_4 : decode cX2_meterAt 4 = .ok (.iload_n 1, 1) := by decide +kernel
theorem dX2_meterAt_5 : decode cX2_meterAt 5 = .ok (.aload_n 0, 1) := by decide +kernel
theorem dX2_meterAt_6 : decode cX2_meterAt 6 = .ok (.getfield 32, 3) := by decide +kernel
theorem dX2_meterAt_9 : decode cX2_meterAt 9 = .ok (.if_icmp .ge 12, 3) := by decide +kernel
theorem dX2_meterAt_12 : decode cX2_meterAt 12 = .ok (.aload_n 0, 1) := by decide +kernel
theorem dX2_meterAt_13 : decode cX2_meterAt 13 = .ok (.getfield 17, 3) := by decide +kernel
theorem dX2_meterAt_16 : decode cX2_meterAt 16 = .ok (.iload_n 1, 1) := by decide +kernel
theorem dX2_meterAt_17 : decode cX2_meterAt 17 = .ok (.aaload, 1) := by decide +kernel
theorem dX2_meterAt_18 : decode cX2_meterAt 18 = .ok (.goto 4, 3) := by decide +kernel
theorem dX2_meterAt_21 : decode cX2_meterAt 21 = .ok (.aconst_null, 1) := by decide +kernel
theorem dX2_meterAt_22 : decode cX2_meterAt 22 = .ok (.areturn, 1) := by decide +kernel
theorem dX2_loadAt_0 : decode cX2_loadAt 0 = .ok (.iload_n 1, 1) := by decide +kernel
theorem dX2_loadAt_1 : decode cX2_loadAt 1 = .ok (.ifCond .lt 20, 3) := by decide +kernel
theorem dX2_loadAt_4 : decode cX2_loadAt 4 = .ok (.iload_n 1, 1) := by decide +kernel
theorem dX2_loadAt_5 : decode cX2_loadAt 5 = .ok (.aload_n 0, 1) := by decide +kernel
theorem dX2_loadAt_6 : decode cX2_loadAt 6 = .ok (.getfield 40, 3) := by decide +kernel
theorem dX2_loadAt_9 : decode cX2_loadAt 9 = .ok (.if_icmp .ge 12, 3) := by decide +kernel
theorem dX2_loadAt_12 : decode cX2_loadAt 12 = .ok (.aload_n 0, 1) := by decide +kernel
theorem dX2_loadAt_13 : decode cX2_loadAt 13 = .ok (.getfield 23, 3) := by decide +kernel
theorem dX2_loadAt_16 : decode cX2_loadAt 16 = .ok (.iload_n 1, 1) := by decide +kernel
theorem dX2_loadAt_17 : decode cX2_loadAt 17 = .ok (.aaload, 1) := by decide +kernel
theorem dX2_loadAt_18 : decode cX2_loadAt 18 = .ok (.goto 4, 3) := by decide +kernel
theorem dX2_loadAt_21 : decode cX2_loadAt 21 = .ok (.aconst_null, 1) := by decide +kernel
theorem dX2_loadAt_22 : decode cX2_loadAt 22 = .ok (.areturn, 1) := by decide +kernel
theorem dX2_changeSetting_0 : decode cX2_changeSetting 0 = .ok (.iload_n 1, 1) := by decide +kernel
theorem dX2_changeSetting_1 : decode cX2_changeSetting 1 = .ok (.ifCond .lt 27, 3) := by decide +kernel
theorem dX2_changeSetting_4 : decode cX2_changeSetting 4 = .ok (.iload_n 1, 1) := by decide +kernel
theorem dX2_changeSetting_5 : decode cX2_changeSetting 5 = .ok (.bipush 6, 2) := by decide +kernel
theorem dX2_changeSetting_7 : decode cX2_changeSetting 7 = .ok (.if_icmp .ge 21, 3) := by decide +kernel
theorem dX2_changeSetting_10 : decode cX2_changeSetting 10 = .ok (.iload_n 2, 1) := by decide +kernel
theorem dX2_changeSetting_11 : decode cX2_changeSetting 11 = .ok (.getstatic 52, 3) := by decide +kernel
theorem dX2_changeSetting_14 : decode cX2_changeSetting 14 = .ok (.iload_n 1, 1) := by decide +kernel
theorem dX2_changeSetting_15 : decode cX2_changeSetting 15 = .ok (.iaload, 1) := by decide +kernel
theorem dX2_changeSetting_16 : decode cX2_changeSetting 16 = .ok (.if_icmp .lt 12, 3) := by decide +kernel
theorem dX2_changeSetting_19 : decode cX2_changeSetting 19 = .ok (.iload_n 2, 1) := by decide +kernel
theorem dX2_changeSetting_20 : decode cX2_changeSetting 20 = .ok (.getstatic 55, 3) := by decide +kernel
theorem dX2_changeSetting_23 : decode cX2_changeSetting 23 = .ok (.iload_n 1, 1) := by decide +kernel
theorem dX2_changeSetting_24 : decode cX2_changeSetting 24 = .ok (.iaload, 1) := by decide +kernel
theorem dX2_changeSetting_25 : decode cX2_changeSetting 25 = .ok (.if_icmp .le 6, 3) := by decide +kernel
theorem dX2_changeSetting_28 : decode cX2_changeSetting 28 = .ok (.bipush (-2), 2) := by decide +kernel
theorem dX2_changeSetting_30 : decode cX2_changeSetting 30 = .ok (.ireturn, 1) := by decide +kernel
theorem dX2_changeSetting_31 : decode cX2_changeSetting 31 = .ok (.aload_n 0, 1) := by decide +kernel
theorem dX2_changeSetting_32 : decode cX2_changeSetting 32 = .ok (.getfield 9, 3) := by decide +kernel
theorem dX2_changeSetting_35 : decode cX2_changeSetting 35 = .ok (.iload_n 1, 1) := by decide +kernel
theorem dX2_changeSetting_36 : decode cX2_changeSetting 36 = .ok (.iaload, 1) := by decide +kernel
theorem dX2_changeSetting_37 : decode cX2_changeSetting 37 = .ok (.istore_n 3, 1) := by decide +kernel
theorem dX2_changeSetting_38 : decode cX2_changeSetting 38 = .ok (.aload_n 0, 1) := by decide +kernel
theorem dX2_changeSetting_39 : decode cX2_changeSetting 39 = .ok (.getfield 9, 3) := by decide +kernel
theorem dX2_changeSetting_42 : decode cX2_changeSetting 42 = .ok (.iload_n 1, 1) := by decide +kernel
theorem dX2_changeSetting_43 : decode cX2_changeSetting 43 = .ok (.iload_n 2, 1) := by decide +kernel
theorem dX2_changeSetting_44 : decode cX2_changeSetting 44 = .ok (.iastore, 1) := by decide +kernel
theorem dX2_changeSetting_45 : decode cX2_changeSetting 45 = .ok (.iload_n 3, 1) := by decide +kernel
theorem dX2_changeSetting_46 : decode cX2_changeSetting 46 = .ok (.ireturn, 1) := by decide +kernel
set_option maxRecDepth 20000 in
theorem ggX2_addMeter_X2_meterAt : GoodIn wsX2_addMeter wsX2_meterAt := goodIn_r _ [8, 1, 3, 27, 28, 29, 30, 31, 32, 33] (by decide +kernel) (by decide +kernel)
set_option maxRecDepth 20000 in
theorem gX2_addMeter_X2_meterAt : GoodIn wsX2_addMeter (wsV RX2 58 RX2 yX2_meterAt wsX2_meterAt) := goodIn_app (goodIn_of _ (by decide +kernel)) ggX2_addMeter_X2_meterAt
set_option maxRecDepth 20000 in
theorem ggX2_addMeter_X4_begin : GoodIn wsX2_addMeter wsX4_begin := goodIn_r _ [13, 14, 15, 16, 17, 18, 19, 20, 21, 22, 23, 24, 25, 26, 34, 35, 36, 37, 38, 39, 40, 41, 42, 43, 44, 45, 46] (by decide +kernel) (by decide +kernel)
set_option maxRecDepth 20000 in
theorem gX2_addMeter_X4_begin : GoodIn wsX2_addMeter (wsV RX2 62 RX4 yX4_begin wsX4_begin) := goodIn_app (goodIn_of _ (by decide +kernel)) ggX2_addMeter_X4_begin
theorem dX2_addMeter_0 : decode cX2_addMeter 0 = .ok (.aload_n 0, 1) := by decide +kernel
theorem dX2_addMeter_1 : decode cX2_addMeter 1 = .ok (.getfield 32, 3) := by decide +kernel
theorem dX2_addMeter_4 : decode cX2_addMeter 4 = .ok (.ifCond .le 13, 3) := by decide +kernel
theorem dX2_addMeter_7 : decode cX2_addMeter 7 = .ok (.aload_n 0, 1) := by decide +kernel
theorem dX2_addMeter_8 : decode cX2_addMeter 8 = .ok (.iload_n 1, 1) := by decide +kernel
theorem dX2_addMeter_9 : decode cX2_addMeter 9 = .ok (.invokevirtual 58, 3) := by decide +kernel
theorem dX2_addMeter_12 : decode cX2_addMeter 12 = .ok (.ifnonnull 5, 3) := by decide +kernel
theorem dX2_addMeter_15 : decode cX2_addMeter 15 = .ok (.iconst (-1), 1) := by decide +kernel
theorem dX2_addMeter_16 : decode cX2_addMeter 16 = .ok (.ireturn, 1) := by decide +kernel
theorem dX2_addMeter_17 : decode cX2_addMeter 17 = .ok (.aload_n 0, 1) := by decide +kernel
theorem dX2_addMeter_18 : decode cX2_addMeter 18 = .ok (.getfield 32, 3) := by decide +kernel
theorem dX2_addMeter_21 : decode cX2_addMeter 21 = .ok (.bipush 7, 2) := by decide +kernel
theorem dX2_addMeter_23 : decode cX2_addMeter 23 = .ok (.if_icmp .lt 6, 3) := by decide +kernel
theorem dX2_addMeter_26 : decode cX2_addMeter 26 = .ok (.bipush (-4), 2) := by decide +kernel
theorem dX2_addMeter_28 : decode cX2_addMeter 28 = .ok (.ireturn, 1) := by decide +kernel
theorem dX2_addMeter_29 : decode cX2_addMeter 29 = .ok (.aload_n 0, 1) := by decide +kernel
theorem dX2_addMeter_30 : decode cX2_addMeter 30 = .ok (.dup, 1) := by decide +kernel
theorem dX2_addMeter_31 : decode cX2_addMeter 31 = .ok (.getfield 49, 3) := by decide +kernel
theorem dX2_addMeter_34 : decode cX2_addMeter 34 = .ok (.iconst 1, 1) := by decide +kernel
theorem dX2_addMeter_35 : decode cX2_addMeter 35 = .ok (.iadd, 1) := by decide +kernel
theorem dX2_addMeter_36 : decode cX2_addMeter 36 = .ok (.putfield 49, 3) := by decide +kernel
theorem dX2_addMeter_39 : decode cX2_addMeter 39 = .ok (.aload_n 0, 1) := by decide +kernel
theorem dX2_addMeter_40 : decode cX2_addMeter 40 = .ok (.getfield 17, 3) := by decide +kernel
theorem dX2_addMeter_43 : decode cX2_addMeter 43 = .ok (.aload_n 0, 1) := by decide +kernel
theorem dX2_addMeter_44 : decode cX2_addMeter 44 = .ok (.getfield 32, 3) := by decide +kernel
theorem dX2_addMeter_47 : decode cX2_addMeter 47 = .ok (.aaload, 1) := by decide +kernel
theorem dX2_addMeter_48 : decode cX2_addMeter 48 = .ok (.aload_n 0, 1) := by decide +kernel
theorem dX2_addMeter_49 : decode cX2_addMeter 49 = .ok (.getfield 32, 3) := by decide +kernel
theorem dX2_addMeter_52 : decode cX2_addMeter 52 = .ok (.ifCond .ne 8, 3) := by decide +kernel
theorem dX2_addMeter_55 : decode cX2_addMeter 55 = .ok (.bipush (-6), 2) := by decide +kernel
theorem dX2_addMeter_57 : decode cX2_addMeter 57 = .ok (.goto 4, 3) := by decide +kernel
theorem dX2_addMeter_60 : decode cX2_addMeter 60 = .ok (.iload_n 1, 1) := by decide +kernel
theorem dX2_addMeter_61 : decode cX2_addMeter 61 = .ok (.aload_n 0, 1) := by decide +kernel
theorem dX2_addMeter_62 : decode cX2_addMeter 62 = .ok (.getfield 49, 3) := by decide +kernel
theorem dX2_addMeter_65 : decode cX2_addMeter 65 = .ok (.invokevirtual 62, 3) := by decide +kernel
theorem dX2_addMeter_68 : decode cX2_addMeter 68 = .ok (.aload_n 0, 1) := by decide +kernel
theorem dX2_addMeter_69 : decode cX2_addMeter 69 = .ok (.dup, 1) := by decide +kernel
theorem dX2_addMeter_70 : decode cX2_addMeter 70 = .ok (.getfield 32, 3) := by decide +kernel
theorem dX2_addMeter_73 : decode cX2_addMeter 73 = .ok (.iconst 1, 1) := by decide +kernel
theorem dX2_addMeter_74 : decode cX2_addMeter 74 = .ok (.iadd, 1) := by decide +kernel
theorem dX2_addMeter_75 : decode cX2_addMeter 75 = .ok (.putfield 32, 3) := by decide +kernel
theorem dX2_addMeter_78 : decode cX2_addMeter 78 = .ok (.aload_n 0, 1) := by decide +kernel
theorem dX2_addMeter_79 : decode cX2_addMeter 79 = .ok (.getfield 32, 3) := by decide +kernel
theorem dX2_addMeter_82 : decode cX2_addMeter 82 = .ok (.iconst 1, 1) := by decide +kernel
theorem dX2_addMeter_83 : decode cX2_addMeter 83 = .ok (.isub, 1) := by decide +kernel
theorem dX2_addMeter_84 : decode cX2_addMeter 84 = .ok (.ireturn, 1) := by decide +kernel
set_option maxRecDepth 20000 in
theorem ggX2_addLoad_X2_meterAt : GoodIn wsX2_addLoad wsX2_meterAt := goodIn_r _ [7, 8, 9, 18, 19, 20, 21, 22, 23, 24] (by decide +kernel) (by decide +kernel)
set_option maxRecDepth 20000 in
theorem gX2_addLoad_X2_meterAt : GoodIn wsX2_addLoad (wsV RX2 58 RX2 yX2_meterAt wsX2_meterAt) := goodIn_app (goodIn_of _ (by decide +kernel)) ggX2_addLoad_X2_meterAt
set_option maxRecDepth 20000 in
theorem ggX2_addLoad_X3_begin : GoodIn wsX2_addLoad wsX3_begin := goodIn_r _ [14, 15, 16, 17, 25, 26, 27] (by decide +kernel) (by decide +kernel)
set_option maxRecDepth 20000 in
theorem gX2_addLoad_X3_begin : GoodIn wsX2_addLoad (wsV RX2 66 RX3 yX3_begin wsX3_begin) := goodIn_app (goodIn_of _ (by decide +kernel)) ggX2_addLoad_X3_begin
theorem dX2_addLoad_0 : decode cX2_addLoad 0 = .ok (.aload_n 0, 1) := by decide +kernel
theorem dX2_addLoad_1 : decode cX2_addLoad 1 = .ok (.iload_n 1, 1) := by decide +kernel
theorem dX2_addLoad_2 : decode cX2_addLoad 2 = .ok (.invokevirtual 58, 3) := by decide +kernel
theorem dX2_addLoad_5 : decode cX2_addLoad 5 = .ok (.ifnonnull 5, 3) := by decide +kernel
theorem dX2_addLoad_8 : decode cX2_addLoad 8 = .ok (.iconst (-1), 1) := by decide +kernel
theorem dX2_addLoad_9 : decode cX2_addLoad 9 = .ok (.ireturn, 1) := by decide +kernel
theorem dX2_addLoad_10 : decode cX2_addLoad 10 = .ok (.iload_n 2, 1) := by decide +kernel
theorem dX2_addLoad_11 : decode cX2_addLoad 11 = .ok (.iconst 1, 1) := by decide +kernel
theorem dX2_addLoad_12 : decode cX2_addLoad 12 = .ok (.if_icmp .lt 10, 3) := by decide +kernel
theorem dX2_addLoad_15 : decode cX2_addLoad 15 = .ok (.iload_n 2, 1) := by decide +kernel
theorem dX2_addLoad_16 : decode cX2_addLoad 16 = .ok (.sipush 4000, 3) := by decide +kernel
theorem dX2_addLoad_19 : decode cX2_addLoad 19 = .ok (.if_icmp .le 6, 3) := by decide +kernel
theorem dX2_addLoad_22 : decode cX2_addLoad 22 = .ok (.bipush (-2), 2) := by decide +kernel
theorem dX2_addLoad_24 : decode cX2_addLoad 24 = .ok (.ireturn, 1) := by decide +kernel
theorem dX2_addLoad_25 : decode cX2_addLoad 25 = .ok (.aload_n 0, 1) := by decide +kernel
theorem dX2_addLoad_26 : decode cX2_addLoad 26 = .ok (.getfield 40, 3) := by decide +kernel
theorem dX2_addLoad_29 : decode cX2_addLoad 29 = .ok (.bipush 12, 2) := by decide +kernel
theorem dX2_addLoad_31 : decode cX2_addLoad 31 = .ok (.if_icmp .lt 6, 3) := by decide +kernel
theorem dX2_addLoad_34 : decode cX2_addLoad 34 = .ok (.bipush (-4), 2) := by decide +kernel
theorem dX2_addLoad_36 : decode cX2_addLoad 36 = .ok (.ireturn, 1) := by decide +kernel
theorem dX2_addLoad_37 : decode cX2_addLoad 37 = .ok (.aload_n 0, 1) := by decide +kernel
theorem dX2_addLoad_38 : decode cX2_addLoad 38 = .ok (.getfield 23, 3) := by decide +kernel
theorem dX2_addLoad_41 : decode cX2_addLoad 41 = .ok (.aload_n 0, 1) := by decide +kernel
theorem dX2_addLoad_42 : decode cX2_addLoad 42 = .ok (.getfield 40, 3) := by decide +kernel
theorem dX2_addLoad_45 : decode cX2_addLoad 45 = .ok (.aaload, 1) := by decide +kernel
theorem dX2_addLoad_46 : decode cX2_addLoad 46 = .ok (.iload_n 1, 1) := by decide +kernel
theorem dX2_addLoad_47 : decode cX2_addLoad 47 = .ok (.iload_n 2, 1) := by decide +kernel
theorem dX2_addLoad_48 : decode cX2_addLoad 48 = .ok (.invokevirtual 66, 3) := by decide +kernel
theorem dX2_addLoad_51 : decode cX2_addLoad 51 = .ok (.aload_n 0, 1) := by decide +kernel
theorem dX2_addLoad_52 : decode cX2_addLoad 52 = .ok (.dup, 1) := by decide +kernel
theorem dX2_addLoad_53 : decode cX2_addLoad 53 = .ok (.getfield 40, 3) := by decide +kernel
theorem dX2_addLoad_56 : decode cX2_addLoad 56 = .ok (.iconst 1, 1) := by decide +kernel
theorem dX2_addLoad_57 : decode cX2_addLoad 57 = .ok (.iadd, 1) := by decide +kernel
theorem dX2_addLoad_58 : decode cX2_addLoad 58 = .ok (.putfield 40, 3) := by decide +kernel
theorem dX2_addLoad_61 : decode cX2_addLoad 61 = .ok (.aload_n 0, 1) := by decide +kernel
theorem dX2_addLoad_62 : decode cX2_addLoad 62 = .ok (.getfield 40, 3) := by decide +kernel
theorem dX2_addLoad_65 : decode cX2_addLoad 65 = .ok (.iconst 1, 1) := by decide +kernel
theorem dX2_addLoad_66 : decode cX2_addLoad 66 = .ok (.isub, 1) := by decide +kernel
theorem dX2_addLoad_67 : decode cX2_addLoad 67 = .ok (.ireturn, 1) := by decide +kernel
set_option maxRecDepth 20000 in
theorem ggX2_switchLoad_X2_loadAt : GoodIn wsX2_switchLoad wsX2_loadAt := goodIn_r _ [6, 7, 8, 12, 13, 14, 15, 16, 17, 18] (by decide +kernel) (by decide +kernel)
set_option maxRecDepth 20000 in
theorem gX2_switchLoad_X2_loadAt : GoodIn wsX2_switchLoad (wsV RX2 67 RX2 yX2_loadAt wsX2_loadAt) := goodIn_app (goodIn_of _ (by decide +kernel)) ggX2_switchLoad_X2_loadAt
theorem dX2_switchLoad_0 : decode cX2_switchLoad 0 = .ok (.aload_n 0, 1) := by decide +kernel
theorem dX2_switchLoad_1 : decode cX2_switchLoad 1 = .ok (.iload_n 1, 1) := by decide +kernel
theorem dX2_switchLoad_2 : decode cX2_switchLoad 2 = .ok (.invokevirtual 67, 3) := by decide +kernel
theorem dX2_switchLoad_5 : decode cX2_switchLoad 5 = .ok (.astore_n 2, 1) := by decide +kernel
theorem dX2_switchLoad_6 : decode cX2_switchLoad 6 = .ok (.aload_n 2, 1) := by decide +kernel
theorem dX2_switchLoad_7 : decode cX2_switchLoad 7 = .ok (.ifnonnull 5, 3) := by decide +kernel
theorem dX2_switchLoad_10 : decode cX2_switchLoad 10 = .ok (.iconst (-1), 1) := by decide +kernel
theorem dX2_switchLoad_11 : decode cX2_switchLoad 11 = .ok (.ireturn, 1) := by decide +kernel
theorem dX2_switchLoad_12 : decode cX2_switchLoad 12 = .ok (.aload_n 2, 1) := by decide +kernel
theorem dX2_switchLoad_13 : decode cX2_switchLoad 13 = .ok (.aload_n 2, 1) := by decide +kernel
theorem dX2_switchLoad_14 : decode cX2_switchLoad 14 = .ok (.getfield 71, 3) := by decide +kernel
theorem dX2_switchLoad_17 : decode cX2_switchLoad 17 = .ok (.ifCond .ne 7, 3) := by decide +kernel
theorem dX2_switchLoad_20 : decode cX2_switchLoad 20 = .ok (.iconst 1, 1) := by decide +kernel
theorem dX2_switchLoad_21 : decode cX2_switchLoad 21 = .ok (.goto 4, 3) := by decide +kernel
theorem dX2_switchLoad_24 : decode cX2_switchLoad 24 = .ok (.iconst 0, 1) := by decide +kernel
theorem dX2_switchLoad_25 : decode cX2_switchLoad 25 = .ok (.putfield 71, 3) := by decide +kernel
theorem dX2_switchLoad_28 : decode cX2_switchLoad 28 = .ok (.aload_n 2, 1) := by decide +kernel
theorem dX2_switchLoad_29 : decode cX2_switchLoad 29 = .ok (.getfield 71, 3) := by decide +kernel
theorem dX2_switchLoad_32 : decode cX2_switchLoad 32 = .ok (.ifCond .eq 7, 3) := by decide +kernel
theorem dX2_switchLoad_35 : decode cX2_switchLoad 35 = .ok (.iconst 1, 1) := by decide +kernel
theorem dX2_switchLoad_36 : decode cX2_switchLoad 36 = .ok (.goto 4, 3) := by decide +kernel
theorem dX2_switchLoad_39 : decode cX2_switchLoad 39 = .ok (.iconst 0, 1) := by decide +kernel
theorem dX2_switchLoad_40 : decode cX2_switchLoad 40 = .ok (.ireturn, 1) := by decide +kernel
set_option maxRecDepth 20000 in
theorem ggX2_breakSeal_X2_meterAt : GoodIn wsX2_breakSeal wsX2_meterAt := goodIn_r _ [7, 8, 9, 23, 24, 25, 26, 27, 28, 29] (by decide +kernel) (by decide +kernel)
set_option maxRecDepth 20000 in
theorem gX2_breakSeal_X2_meterAt : GoodIn wsX2_breakSeal (wsV RX2 58 RX2 yX2_meterAt wsX2_meterAt) := goodIn_app (goodIn_of _ (by decide +kernel)) ggX2_breakSeal_X2_meterAt
theorem dX2_breakSeal_0 : decode cX2_breakSeal 0 = .ok (.aload_n 0, 1) := by decide +kernel
theorem dX2_breakSeal_1 : decode cX2_breakSeal 1 = .ok (.iload_n 1, 1) := by decide +kernel
theorem dX2_breakSeal_2 : decode cX2_breakSeal 2 = .ok (.invokevirtual 58, 3) := by decide +kernel
theorem dX2_breakSeal_5 : decode cX2_breakSeal 5 = .ok (.astore_n 2, 1) := by decide +kernel
theorem dX2_breakSeal_6 : decode cX2_breakSeal 6 = .ok (.aload_n 2, 1) := by decide +kernel
theorem dX2_breakSeal_7 : decode cX2_breakSeal 7 = .ok (.ifnonnull 5, 3) := by decide +kernel
theorem dX2_breakSeal_10 : decode cX2_breakSeal 10 = .ok (.iconst (-1), 1) := by decide +kernel
theorem dX2_breakSeal_11 : decode cX2_breakSeal 11 = .ok (.ireturn, 1) := by decide +kernel
theorem dX2_breakSeal_12 : decode cX2_breakSeal 12 = .ok (.aload_n 2, 1) := by decide +kernel
theorem dX2_breakSeal_13 : decode cX2_breakSeal 13 = .ok (.getfield 75, 3) := by decide +kernel
theorem dX2_breakSeal_16 : decode cX2_breakSeal 16 = .ok (.ifCond .eq 6, 3) := by decide +kernel
theorem dX2_breakSeal_19 : decode cX2_breakSeal 19 = .ok (.bipush (-5), 2) := by decide +kernel
theorem dX2_breakSeal_21 : decode cX2_breakSeal 21 = .ok (.ireturn, 1) := by decide +kernel
theorem dX2_breakSeal_22 : decode cX2_breakSeal 22 = .ok (.aload_n 2, 1) := by decide +kernel
theorem dX2_breakSeal_23 : decode cX2_breakSeal 23 = .ok (.iconst 1, 1) := by decide +kernel
theorem dX2_breakSeal_24 : decode cX2_breakSeal 24 = .ok (.putfield 75, 3) := by decide +kernel
theorem dX2_breakSeal_27 : decode cX2_breakSeal 27 = .ok (.aload_n 2, 1) := by decide +kernel
theorem dX2_breakSeal_28 : decode cX2_breakSeal 28 = .ok (.getfield 78, 3) := by decide +kernel
theorem dX2_breakSeal_31 : decode cX2_breakSeal 31 = .ok (.ireturn, 1) := by decide +kernel
set_option maxRecDepth 20000 in
theorem ggX2_inspect_X2_meterAt : GoodIn wsX2_inspect wsX2_meterAt := goodIn_r _ [7, 8, 9, 55, 56, 57, 58, 59, 60, 61] (by decide +kernel) (by decide +kernel)
set_option maxRecDepth 20000 in
theorem gX2_inspect_X2_meterAt : GoodIn wsX2_inspect (wsV RX2 58 RX2 yX2_meterAt wsX2_meterAt) := goodIn_app (goodIn_of _ (by decide +kernel)) ggX2_inspect_X2_meterAt
set_option maxRecDepth 20000 in
theorem ggX2_inspect_X2_owedAt : GoodIn wsX2_inspect wsX2_owedAt := goodIn_r _ [13, 14, 15, 16, 17, 18, 19, 20, 21, 22, 23, 24, 25, 26, 27, 55, 56, 57, 58, 59, 60, 61, 42, 43, 44, 45, 46, 47, 48, 49, 50, 51, 52, 53, 54] (by decide +kernel) (by decide +kernel)
set_option maxRecDepth 20000 in
theorem gX2_inspect_X2_owedAt : GoodIn wsX2_inspect (wsV RX2 81 RX2 yX2_owedAt wsX2_owedAt) := goodIn_app (goodIn_of _ (by decide +kernel)) ggX2_inspect_X2_owedAt
set_option maxRecDepth 20000 in
theorem ggX2_inspect_X4_settleBill : GoodIn wsX2_inspect wsX4_settleBill := goodIn_r _ [31, 32, 20, 21, 26, 27, 33, 34, 35, 42, 43, 44, 45, 46, 47, 48, 49, 50, 51, 52, 53, 54] (by decide +kernel) (by decide +kernel)
set_option maxRecDepth 20000 in
theorem gX2_inspect_X4_settleBill : GoodIn wsX2_inspect (wsV RX2 85 RX4 yX4_settleBill wsX4_settleBill) := goodIn_app (goodIn_of _ (by decide +kernel)) ggX2_inspect_X4_settleBill
set_option maxRecDepth 20000 in
theorem ggX2_inspect_X4_mend : GoodIn wsX2_inspect wsX4_mend := goodIn_r _ [39, 40, 41, 42, 43, 44, 45, 46, 47, 48, 49, 50, 51, 52, 53, 54] (by decide +kernel) (by decide +kernel)
set_option maxRecDepth 20000 in
theorem gX2_inspect_X4_mend : GoodIn wsX2_inspect (wsV RX2 89 RX4 yX4_mend wsX4_mend) := goodIn_app (goodIn_of _ (by decide +kernel)) ggX2_inspect_X4_mend
theorem dX2_inspect_0 : decode cX2_inspect 0 = .ok (.aload_n 0, 1) := by decide +kernel
theorem dX2_inspect_1 : decode cX2_inspect 1 = .ok (.iload_n 1, 1) := by decide +kernel
theorem dX2_inspect_2 : decode cX2_inspect 2 = .ok (.invokevirtual 58, 3) := by decide +kernel
theorem dX2_inspect_5 : decode cX2_inspect 5 = .ok (.astore_n 2, 1) := by decide +kernel
theorem dX2_inspect_6 : decode cX2_inspect 6 = .ok (.aload_n 2, 1) := by decide +kernel
theorem dX2_inspect_7 : decode cX2_inspect 7 = .ok (.ifnonnull 5, 3) := by decide +kernel
theorem dX2_inspect_10 : decode cX2_inspect 10 = .ok (.iconst (-1), 1) := by decide +kernel
theorem dX2_inspect_11 : decode cX2_inspect 11 = .ok (.ireturn, 1) := by decide +kernel
theorem dX2_inspect_12 : decode cX2_inspect 12 = .ok (.aload_n 0, 1) := by decide +kernel
theorem dX2_inspect_13 : decode cX2_inspect 13 = .ok (.aload_n 2, 1) := by decide +kernel
theorem dX2_inspect_14 : decode cX2_inspect 14 = .ok (.invokevirtual 81, 3) := by decide +kernel
theorem dX2_inspect_17 : decode cX2_inspect 17 = .ok (.istore_n 3, 1) := by decide +kernel
theorem dX2_inspect_18 : decode cX2_inspect 18 = .ok (.aload_n 2, 1) := by decide +kernel
theorem dX2_inspect_19 : decode cX2_inspect 19 = .ok (.iload_n 3, 1) := by decide +kernel
theorem dX2_inspect_20 : decode cX2_inspect 20 = .ok (.invokevirtual 85, 3) := by decide +kernel
theorem dX2_inspect_23 : decode cX2_inspect 23 = .ok (.aload_n 2, 1) := by decide +kernel
theorem dX2_inspect_24 : decode cX2_inspect 24 = .ok (.getfield 75, 3) := by decide +kernel
theorem dX2_inspect_27 : decode cX2_inspect 27 = .ok (.ifCond .eq 21, 3) := by decide +kernel
theorem dX2_inspect_30 : decode cX2_inspect 30 = .ok (.aload_n 0, 1) := by decide +kernel
theorem dX2_inspect_31 : decode cX2_inspect 31 = .ok (.dup, 1) := by decide +kernel
theorem dX2_inspect_32 : decode cX2_inspect 32 = .ok (.getfield 49, 3) := by decide +kernel
theorem dX2_inspect_35 : decode cX2_inspect 35 = .ok (.iconst 1, 1) := by decide +kernel
theorem dX2_inspect_36 : decode cX2_inspect 36 = .ok (.iadd, 1) := by decide +kernel
theorem dX2_inspect_37 : decode cX2_inspect 37 = .ok (.putfield 49, 3) := by decide +kernel
theorem dX2_inspect_40 : decode cX2_inspect 40 = .ok (.aload_n 2, 1) := by decide +kernel
theorem dX2_inspect_41 : decode cX2_inspect 41 = .ok (.aload_n 0, 1) := by decide +kernel
theorem dX2_inspect_42 : decode cX2_inspect 42 = .ok (.getfield 49, 3) := by decide +kernel
theorem dX2_inspect_45 : decode cX2_inspect 45 = .ok (.invokevirtual 89, 3) := by decide +kernel
theorem dX2_inspect_48 : decode cX2_inspect 48 = .ok (.iload_n 3, 1) := by decide +kernel
theorem dX2_inspect_49 : decode cX2_inspect 49 = .ok (.ireturn, 1) := by decide +kernel
set_option maxRecDepth 20000 in
theorem ggX2_elapse_X2_powerOf : GoodIn wsX2_elapse wsX2_powerOf := goodIn_r _ [9, 10, 11, 12, 13, 14, 15, 16, 17, 8, 18, 3, 4, 19, 20, 21, 22, 62, 63, 64, 65, 66, 67, 68, 69, 70, 71, 72, 73, 74, 75, 76, 77, 78, 79, 80, 81, 82, 83, 84] (by decide +kernel) (by decide +kernel)
set_option maxRecDepth 20000 in
theorem gX2_elapse_X2_powerOf : GoodIn wsX2_elapse (wsV RX2 93 RX2 yX2_powerOf wsX2_powerOf) := goodIn_app (goodIn_of _ (by decide +kernel)) ggX2_elapse_X2_powerOf
set_option maxRecDepth 20000 in
theorem ggX2_elapse_X2_runDisc : GoodIn wsX2_elapse wsX2_runDisc := goodIn_r _ [26, 1, 27, 28, 29, 30, 31, 32, 33, 34, 35, 36, 37, 38, 39, 40, 41, 42, 43, 44, 45, 46, 47, 48, 49, 50, 51, 52, 53, 54, 55, 56, 57, 58, 59, 60, 61, 62, 63, 64, 65, 66, 67, 68, 72, 73, 74, 75, 76, 77, 78, 79, 80, 81, 82, 83, 84] (by decide +kernel) (by decide +kernel)
set_option maxRecDepth 20000 in
theorem gX2_elapse_X2_runDisc : GoodIn wsX2_elapse (wsV RX2 97 RX2 yX2_runDisc wsX2_runDisc) := goodIn_app (goodIn_of _ (by decide +kernel)) ggX2_elapse_X2_runDisc
theorem dX2_elapse_0 : decode cX2_elapse 0 = .ok (.iload_n 1, 1) := by decide +kernel
theorem dX2_elapse_1 : decode cX2_elapse 1 = .ok (.iconst 1, 1) := by decide +kernel
theorem dX2_elapse_2 : decode cX2_elapse 2 = .ok (.if_icmp .lt 10, 3) := by decide +kernel
theorem dX2_elapse_5 : decode cX2_elapse 5 = .ok (.iload_n 1, 1) := by decide +kernel
theorem dX2_elapse_6 : decode cX2_elapse 6 = .ok (.sipush 1440, 3) := by decide +kernel
theorem dX2_elapse_9 : decode cX2_elapse 9 = .ok (.if_icmp .le 6, 3) := by decide +kernel
theorem dX2_elapse_12 : decode cX2_elapse 12 = .ok (.bipush (-2), 2) := by decide +kernel
theorem dX2_elapse_14 : decode cX2_elapse 14 = .ok (.ireturn, 1) := by decide +kernel
theorem dX2_elapse_15 : decode cX2_elapse 15 = .ok (.aload_n 0, 1) := by decide +kernel
theorem dX2_elapse_16 : decode cX2_elapse 16 = .ok (.getfield 46, 3) := by decide +kernel
theorem dX2_elapse_19 : decode cX2_elapse 19 = .ok (.iload_n 1, 1) := by decide +kernel
theorem dX2_elapse_20 : decode cX2_elapse 20 = .ok (.iadd, 1) := by decide +kernel
theorem dX2_elapse_21 : decode cX2_elapse 21 = .ok (.ldc 92, 2) := by decide +kernel
theorem dX2_elapse_23 : decode cX2_elapse 23 = .ok (.if_icmp .le 6, 3) := by decide +kernel
theorem dX2_elapse_26 : decode cX2_elapse 26 = .ok (.bipush (-5), 2) := by decide +kernel
theorem dX2_elapse_28 : decode cX2_elapse 28 = .ok (.ireturn, 1) := by decide +kernel
theorem dX2_elapse_29 : decode cX2_elapse 29 = .ok (.iconst 0, 1) := by decide +kernel
theorem dX2_elapse_30 : decode cX2_elapse 30 = .ok (.istore_n 2, 1) := by decide +kernel
theorem dX2_elapse_31 : decode cX2_elapse 31 = .ok (.iconst 0, 1) := by decide +kernel
theorem dX2_elapse_32 : decode cX2_elapse 32 = .ok (.istore_n 3, 1) := by decide +kernel
theorem dX2_elapse_33 : decode cX2_elapse 33 = .ok (.iload_n 3, 1) := by decide +kernel
theorem dX2_elapse_34 : decode cX2_elapse 34 = .ok (.aload_n 0, 1) := by decide +kernel
theorem dX2_elapse_35 : decode cX2_elapse 35 = .ok (.getfield 32, 3) := by decide +kernel
theorem dX2_elapse_38 : decode cX2_elapse 38 = .ok (.if_icmp .ge 28, 3) := by decide +kernel
theorem dX2_elapse_41 : decode cX2_elapse 41 = .ok (.iload_n 2, 1) := by decide +kernel
theorem dX2_elapse_42 : decode cX2_elapse 42 = .ok (.aload_n 0, 1) := by decide +kernel
theorem dX2_elapse_43 : decode cX2_elapse 43 = .ok (.aload_n 0, 1) := by decide +kernel
theorem dX2_elapse_44 : decode cX2_elapse 44 = .ok (.getfield 17, 3) := by decide +kernel
theorem dX2_elapse_47 : decode cX2_elapse 47 = .ok (.iload_n 3, 1) := by decide +kernel
theorem dX2_elapse_48 : decode cX2_elapse 48 = .ok (.aaload, 1) := by decide +kernel
theorem dX2_elapse_49 : decode cX2_elapse 49 = .ok (.aload_n 0, 1) := by decide +kernel
theorem dX2_elapse_50 : decode cX2_elapse 50 = .ok (.iload_n 3, 1) := by decide +kernel
theorem dX2_elapse_51 : decode cX2_elapse 51 = .ok (.invokevirtual 93, 3) := by decide +kernel
theorem dX2_elapse_54 : decode cX2_elapse 54 = .ok (.iload_n 1, 1) := by decide +kernel
theorem dX2_elapse_55 : decode cX2_elapse 55 = .ok (.invokevirtual 97, 3) := by decide +kernel
theorem dX2_elapse_58 : decode cX2_elapse 58 = .ok (.iadd, 1) := by decide +kernel
theorem dX2_elapse_59 : decode cX2_elapse 59 = .ok (.istore_n 2, 1) := by decide +kernel
theorem dX2_elapse_60 : decode cX2_elapse 60 = .ok (.iinc 3 1, 3) := by decide +kernel
theorem dX2_elapse_63 : decode cX2_elapse 63 = .ok (.goto (-30), 3) := by decide +kernel
theorem dX2_elapse_66 : decode cX2_elapse 66 = .ok (.aload_n 0, 1) := by decide +kernel
theorem dX2_elapse_67 : decode cX2_elapse 67 = .ok (.dup, 1) := by decide +kernel
theorem dX2_elapse_68 : decode cX2_elapse 68 = .ok (.getfield 46, 3) := by decide +kernel
theorem dX2_elapse_71 : decode cX2_elapse 71 = .ok (.iload_n 1, 1) := by decide +kernel
theorem dX2_elapse_72 : decode cX2_elapse 72 = .ok (.iadd, 1) := by decide +kernel
theorem dX2_elapse_73 : decode cX2_elapse 73 = .ok (.putfield 46, 3) := by decide +kernel
theorem dX2_elapse_76 : decode cX2_elapse 76 = .ok (.iload_n 2, 1) := by decide +kernel
theorem dX2_elapse_77 : decode cX2_elapse 77 = .ok (.ireturn, 1) := by decide +kernel
set_option maxRecDepth 20000 in
theorem ggX2_runDisc_X6_minutesToSwitch : GoodIn wsX2_runDisc wsX6_minutesToSwitch := goodIn_r _ [12] (by decide +kernel) (by decide +kernel)
set_option maxRecDepth 20000 in
theorem gX2_runDisc_X6_minutesToSwitch_n101 : GoodIn wsX2_runDisc (wsX6_minutesToSwitch) := ggX2_runDisc_X6_minutesToSwitch
set_option maxRecDepth 20000 in
theorem ggX2_runDisc_X4_minutesToAge : GoodIn wsX2_runDisc wsX4_minutesToAge := goodIn_r _ [17, 18, 19, 8, 5, 9, 44, 45, 46, 47, 48, 49, 50, 51, 52, 53, 54, 55, 56] (by decide +kernel) (by decide +kernel)
set_option maxRecDepth 20000 in
theorem gX2_runDisc_X4_minutesToAge : GoodIn wsX2_runDisc (wsV RX2 104 RX4 yX4_minutesToAge wsX4_minutesToAge) := goodIn_app (goodIn_of _ (by decide +kernel)) ggX2_runDisc_X4_minutesToAge
set_option maxRecDepth 20000 in
theorem ggX2_runDisc_X6_isNight : GoodIn wsX2_runDisc wsX6_isNight := goodIn_r _ [21] (by decide +kernel) (by decide +kernel)
set_option maxRecDepth 20000 in
theorem gX2_runDisc_X6_isNight_n116 : GoodIn wsX2_runDisc (wsX6_isNight) := ggX2_runDisc_X6_isNight
set_option maxRecDepth 20000 in
theorem ggX2_runDisc_X4_run : GoodIn wsX2_runDisc wsX4_run := goodIn_r _ [25, 26, 27, 28, 29, 18, 30, 31, 4, 5, 6, 32, 33, 34, 16, 35, 36, 44, 45, 46, 47, 48, 49, 50, 51, 52, 53, 54, 55, 56] (by decide +kernel) (by decide +kernel)
set_option maxRecDepth 20000 in
theorem gX2_runDisc_X4_run : GoodIn wsX2_runDisc (wsV RX2 120 RX4 yX4_run wsX4_run) := goodIn_app (goodIn_of _ (by decide +kernel)) ggX2_runDisc_X4_run
theorem dX2_runDisc_0 : decode cX2_runDisc 0 = .ok (.iconst 0, 1) := by decide +kernel
theorem dX2_runDisc_1 : decode cX2_runDisc 1 = .ok (.istore 4, 2) := by decide +kernel
theorem dX2_runDisc_3 : decode cX2_runDisc 3 = .ok (.iconst 0, 1) := by decide +kernel
theorem dX2_runDisc_4 : decode cX2_runDisc 4 = .ok (.istore 5, 2) := by decide +kernel
theorem dX2_runDisc_6 : decode cX2_runDisc 6 = .ok (.iload 5, 2) := by decide +kernel
theorem dX2_runDisc_8 : decode cX2_runDisc 8 = .ok (.iload_n 3, 1) := by decide +kernel
theorem dX2_runDisc_9 : decode cX2_runDisc 9 = .ok (.if_icmp .ge 78, 3) := by decide +kernel
theorem dX2_runDisc_12 : decode cX2_runDisc 12 = .ok (.aload_n 0, 1) := by decide +kernel
theorem dX2_runDisc_13 : decode cX2_runDisc 13 = .ok (.getfield 46, 3) := by decide +kernel
theorem dX2_runDisc_16 : decode cX2_runDisc 16 = .ok (.iload 5, 2) := by decide +kernel
theorem dX2_runDisc_18 : decode cX2_runDisc 18 = .ok (.iadd, 1) := by decide +kernel
theorem dX2_runDisc_19 : decode cX2_runDisc 19 = .ok (.istore 6, 2) := by decide +kernel
theorem dX2_runDisc_21 : decode cX2_runDisc 21 = .ok (.iload 6, 2) := by decide +kernel
theorem dX2_runDisc_23 : decode cX2_runDisc 23 = .ok (.invokestatic 101, 3) := by decide +kernel
theorem dX2_runDisc_26 : decode cX2_runDisc 26 = .ok (.aload_n 1, 1) := by decide +kernel
theorem dX2_runDisc_27 : decode cX2_runDisc 27 = .ok (.aload_n 0, 1) := by decide +kernel
theorem dX2_runDisc_28 : decode cX2_runDisc 28 = .ok (.getfield 9, 3) := by decide +kernel
theorem dX2_runDisc_31 : decode cX2_runDisc 31 = .ok (.iconst 3, 1) := by decide +kernel
theorem dX2_runDisc_32 : decode cX2_runDisc 32 = .ok (.iaload, 1) := by decide +kernel
theorem dX2_runDisc_33 : decode cX2_runDisc 33 = .ok (.invokevirtual 104, 3) := by decide +kernel
theorem dX2_runDisc_36 : decode cX2_runDisc 36 = .ok (.invokestatic 107, 3) := by decide +kernel
theorem dX2_runDisc_39 : decode cX2_runDisc 39 = .ok (.istore 7, 2) := by decide +kernel
theorem dX2_runDisc_41 : decode cX2_runDisc 41 = .ok (.iconst 1, 1) := by decide +kernel
theorem dX2_runDisc_42 : decode cX2_runDisc 42 = .ok (.iload 7, 2) := by decide +kernel
theorem dX2_runDisc_44 : decode cX2_runDisc 44 = .ok (.iload_n 3, 1) := by decide +kernel
theorem dX2_runDisc_45 : decode cX2_runDisc 45 = .ok (.iload 5, 2) := by decide +kernel
theorem dX2_runDisc_47 : decode cX2_runDisc 47 = .ok (.isub, 1) := by decide +kernel
theorem dX2_runDisc_48 : decode cX2_runDisc 48 = .ok (.invokestatic 107, 3) := by decide +kernel
theorem dX2_runDisc_51 : decode cX2_runDisc 51 = .ok (.invokestatic 113, 3) := by decide +kernel
theorem dX2_runDisc_54 : decode cX2_runDisc 54 = .ok (.istore 8, 2) := by decide +kernel
theorem dX2_runDisc_56 : decode cX2_runDisc 56 = .ok (.iload 4, 2) := by decide +kernel
theorem dX2_runDisc_58 : decode cX2_runDisc 58 = .ok (.aload_n 1, 1) := by decide +kernel
theorem dX2_runDisc_59 : decode cX2_runDisc 59 = .ok (.iload 8, 2) := by decide +kernel
theorem dX2_runDisc_61 : decode cX2_runDisc 61 = .ok (.iload_n 2, 1) := by decide +kernel
theorem dX2_runDisc_62 : decode cX2_runDisc 62 = .ok (.aload_n 0, 1) := by decide +kernel
theorem dX2_runDisc_63 : decode cX2_runDisc 63 = .ok (.getfield 9, 3) := by decide +kernel
theorem dX2_runDisc_66 : decode cX2_runDisc 66 = .ok (.iload 6, 2) := by decide +kernel
theorem dX2_runDisc_68 : decode cX2_runDisc 68 = .ok (.invokestatic 116, 3) := by decide +kernel
theorem dX2_runDisc_71 : decode cX2_runDisc 71 = .ok (.invokevirtual 120, 3) := by decide +kernel
theorem dX2_runDisc_74 : decode cX2_runDisc 74 = .ok (.iadd, 1) := by decide +kernel
theorem dX2_runDisc_75 : decode cX2_runDisc 75 = .ok (.istore 4, 2) := by decide +kernel
theorem dX2_runDisc_77 : decode cX2_runDisc 77 = .ok (.iload 5, 2) := by decide +kernel
theorem dX2_runDisc_79 : decode cX2_runDisc 79 = .ok (.iload 8, 2) := by decide +kernel
theorem dX2_runDisc_81 : decode cX2_runDisc 81 = .ok (.iadd, 1) := by decide +kernel
theorem dX2_runDisc_82 : decode cX2_runDisc 82 = .ok (.istore 5, 2) := by decide +kernel
theorem dX2_runDisc_84 : decode cX2_runDisc 84 = .ok (.goto (-78), 3) := by decide +kernel
theorem dX2_runDisc_87 : decode cX2_runDisc 87 = .ok (.iload 4, 2) := by decide +kernel
theorem dX2_runDisc_89 : decode cX2_runDisc 89 = .ok (.ireturn, 1) := by decide +kernel
set_option maxRecDepth 20000 in
theorem ggX2_minutesToTurn_X6_isNight : GoodIn wsX2_minutesToTurn wsX6_isNight := goodIn_r _ [5] (by decide +kernel) (by decide +kernel)
set_option maxRecDepth 20000 in
theorem gX2_minutesToTurn_X6_isNight_n116 : GoodIn wsX2_minutesToTurn (wsX6_isNight) := ggX2_minutesToTurn_X6_isNight
set_option maxRecDepth 20000 in
theorem ggX2_minutesToTurn_X4_run : GoodIn wsX2_minutesToTurn wsX4_run := goodIn_r _ [10, 11, 12, 13, 14, 15, 16, 17, 18, 19, 20, 21, 22, 23, 9, 24, 25, 33, 34, 35, 36, 37, 38, 39, 40, 41, 42, 43, 44, 45] (by decide +kernel) (by decide +kernel)
set_option maxRecDepth 20000 in
theorem gX2_minutesToTurn_X4_run : GoodIn wsX2_minutesToTurn (wsV RX2 120 RX4 yX4_run wsX4_run) := goodIn_app (goodIn_of _ (by decide +kernel)) ggX2_minutesToTurn_X4_run
theorem dX2_minutesToTurn_0 : decode cX2_minutesToTurn 0 = .ok (.iconst 0, 1) := by decide +kernel
theorem dX2_minutesToTurn_1 : decode cX2_minutesToTurn 1 = .ok (.istore_n 3, 1) := by decide +kernel
theorem dX2_minutesToTurn_2 : decode cX2_minutesToTurn 2 = .ok (.iload_n 3, 1) := by decide +kernel
theorem dX2_minutesToTurn_3 : decode cX2_minutesToTurn 3 = .ok (.sipush 3000, 3) := by decide +kernel
theorem dX2_minutesToTurn_6 : decode cX2_minutesToTurn 6 = .ok (.if_icmp .ge 35, 3) := by decide +kernel
theorem dX2_minutesToTurn_9 : decode cX2_minutesToTurn 9 = .ok (.aload_n 1, 1) := by decide +kernel
theorem dX2_minutesToTurn_10 : decode cX2_minutesToTurn 10 = .ok (.iconst 1, 1) := by decide +kernel
theorem dX2_minutesToTurn_11 : decode cX2_minutesToTurn 11 = .ok (.iload_n 2, 1) := by decide +kernel
theorem dX2_minutesToTurn_12 : decode cX2_minutesToTurn 12 = .ok (.aload_n 0, 1) := by decide +kernel
theorem dX2_minutesToTurn_13 : decode cX2_minutesToTurn 13 = .ok (.getfield 9, 3) := by decide +kernel
theorem dX2_minutesToTurn_16 : decode cX2_minutesToTurn 16 = .ok (.aload_n 0, 1) := by decide +kernel
theorem dX2_minutesToTurn_17 : decode cX2_minutesToTurn 17 = .ok (.getfield 46, 3) := by decide +kernel
theorem dX2_minutesToTurn_20 : decode cX2_minutesToTurn 20 = .ok (.iload_n 3, 1) := by decide +kernel
theorem dX2_minutesToTurn_21 : decode cX2_minutesToTurn 21 = .ok (.iadd, 1) := by decide +kernel
theorem dX2_minutesToTurn_22 : decode cX2_minutesToTurn 22 = .ok (.invokestatic 116, 3) := by decide +kernel
theorem dX2_minutesToTurn_25 : decode cX2_minutesToTurn 25 = .ok (.invokevirtual 120, 3) := by decide +kernel
theorem dX2_minutesToTurn_28 : decode cX2_minutesToTurn 28 = .ok (.ifCond .le 7, 3) := by decide +kernel
theorem dX2_minutesToTurn_31 : decode cX2_minutesToTurn 31 = .ok (.iload_n 3, 1) := by decide +kernel
theorem dX2_minutesToTurn_32 : decode cX2_minutesToTurn 32 = .ok (.iconst 1, 1) := by decide +kernel
theorem dX2_minutesToTurn_33 : decode cX2_minutesToTurn 33 = .ok (.iadd, 1) := by decide +kernel
theorem dX2_minutesToTurn_34 : decode cX2_minutesToTurn 34 = .ok (.ireturn, 1) := by decide +kernel
theorem dX2_minutesToTurn_35 : decode cX2_minutesToTurn 35 = .ok (.iinc 3 1, 3) := by decide +kernel
theorem dX2_minutesToTurn_38 : decode cX2_minutesToTurn 38 = .ok (.goto (-36), 3) := by decide +kernel
theorem dX2_minutesToTurn_41 : decode cX2_minutesToTurn 41 = .ok (.bipush (-6), 2) := by decide +kernel
theorem dX2_minutesToTurn_43 : decode cX2_minutesToTurn 43 = .ok (.ireturn, 1) := by decide +kernel
set_option maxRecDepth 20000 in
theorem ggX2_owedAt_X4_unbilledDayTurns : GoodIn wsX2_owedAt wsX4_unbilledDayTurns := goodIn_r _ [6, 7, 8, 22, 23, 24, 25, 26, 27, 28, 29, 30, 31, 32, 33, 34] (by decide +kernel) (by decide +kernel)
set_option maxRecDepth 20000 in
theorem gX2_owedAt_X4_unbilledDayTurns : GoodIn wsX2_owedAt (wsV RX2 124 RX4 yX4_unbilledDayTurns wsX4_unbilledDayTurns) := goodIn_app (goodIn_of _ (by decide +kernel)) ggX2_owedAt_X4_unbilledDayTurns
set_option maxRecDepth 20000 in
theorem ggX2_owedAt_X4_unbilledNightTurns : GoodIn wsX2_owedAt wsX4_unbilledNightTurns := goodIn_r _ [12, 13, 14, 22, 23, 24, 25, 26, 27, 28, 29, 30, 31, 32, 33, 34] (by decide +kernel) (by decide +kernel)
set_option maxRecDepth 20000 in
theorem gX2_owedAt_X4_unbilledNightTurns : GoodIn wsX2_owedAt (wsV RX2 128 RX4 yX4_unbilledNightTurns wsX4_unbilledNightTurns) := goodIn_app (goodIn_of _ (by decide +kernel)) ggX2_owedAt_X4_unbilledNightTurns
theorem dX2_owedAt_0 : decode cX2_owedAt 0 = .ok (.aload_n 1, 1) := by decide +kernel
theorem dX2_owedAt_1 : decode cX2_owedAt 1 = .ok (.invokevirtual 124, 3) := by decide +kernel
theorem dX2_owedAt_4 : decode cX2_owedAt 4 = .ok (.aload_n 0, 1) := by decide +kernel
theorem dX2_owedAt_5 : decode cX2_owedAt 5 = .ok (.getfield 9, 3) := by decide +kernel
theorem dX2_owedAt_8 : decode cX2_owedAt 8 = .ok (.iconst 4, 1) := by decide +kernel
theorem dX2_owedAt_9 : decode cX2_owedAt 9 = .ok (.iaload, 1) := by decide +kernel
theorem dX2_owedAt_10 : decode cX2_owedAt 10 = .ok (.imul, 1) := by decide +kernel
theorem dX2_owedAt_11 : decode cX2_owedAt 11 = .ok (.aload_n 1, 1) := by decide +kernel
theorem dX2_owedAt_12 : decode cX2_owedAt 12 = .ok (.invokevirtual 128, 3) := by decide +kernel
theorem dX2_owedAt_15 : decode cX2_owedAt 15 = .ok (.aload_n 0, 1) := by decide +kernel
theorem dX2_owedAt_16 : decode cX2_owedAt 16 = .ok (.getfield 9, 3) := by decide +kernel
theorem dX2_owedAt_19 : decode cX2_owedAt 19 = .ok (.iconst 5, 1) := by decide +kernel
theorem dX2_owedAt_20 : decode cX2_owedAt 20 = .ok (.iaload, 1) := by decide +kernel
theorem dX2_owedAt_21 : decode cX2_owedAt 21 = .ok (.imul, 1) := by decide +kernel
theorem dX2_owedAt_22 : decode cX2_owedAt 22 = .ok (.iadd, 1) := by decide +kernel
theorem dX2_owedAt_23 : decode cX2_owedAt 23 = .ok (.ireturn, 1) := by decide +kernel
set_option maxRecDepth 20000 in
theorem ggX2_powerOf_X2_fedThrough : GoodIn wsX2_powerOf wsX2_fedThrough := goodIn_r _ [10, 11, 12, 13, 14, 15, 9, 16, 17, 18, 19, 20, 21, 22, 23, 27, 28, 29, 30, 31, 32, 33, 34, 35, 36, 37, 38, 39] (by decide +kernel) (by decide +kernel)
set_option maxRecDepth 20000 in
theorem gX2_powerOf_X2_fedThrough : GoodIn wsX2_powerOf (wsV RX2 131 RX2 yX2_fedThrough wsX2_fedThrough) := goodIn_app (goodIn_of _ (by decide +kernel)) ggX2_powerOf_X2_fedThrough
set_option maxRecDepth 20000 in
theorem ggX2_powerOf_X2_contains : GoodIn wsX2_powerOf wsX2_contains := goodIn_r _ [16] (by decide +kernel) (by decide +kernel)
set_option maxRecDepth 20000 in
theorem gX2_powerOf_X2_contains : GoodIn wsX2_powerOf (va_wsS RX2 137 yX2_contains wsX2_contains) := goodIn_app (goodIn_of _ (by decide +kernel)) ggX2_powerOf_X2_contains
theorem dX2_powerOf_0 : decode cX2_powerOf 0 = .ok (.aload_n 0, 1) := by decide +kernel
theorem dX2_powerOf_1 : decode cX2_powerOf 1 = .ok (.iload_n 1, 1) := by decide +kernel
theorem dX2_powerOf_2 : decode cX2_powerOf 2 = .ok (.invokevirtual 131, 3) := by decide +kernel
theorem dX2_powerOf_5 : decode cX2_powerOf 5 = .ok (.istore_n 2, 1) := by decide +kernel
theorem dX2_powerOf_6 : decode cX2_powerOf 6 = .ok (.iconst 0, 1) := by decide +kernel
theorem dX2_powerOf_7 : decode cX2_powerOf 7 = .ok (.istore_n 3, 1) := by decide +kernel
theorem dX2_powerOf_8 : decode cX2_powerOf 8 = .ok (.iconst 0, 1) := by decide +kernel
theorem dX2_powerOf_9 : decode cX2_powerOf 9 = .ok (.istore 4, 2) := by decide +kernel
theorem dX2_powerOf_11 : decode cX2_powerOf 11 = .ok (.iload 4, 2) := by decide +kernel
theorem dX2_powerOf_13 : decode cX2_powerOf 13 = .ok (.aload_n 0, 1) := by decide +kernel
theorem dX2_powerOf_14 : decode cX2_powerOf 14 = .ok (.getfield 40, 3) := by decide +kernel
theorem dX2_powerOf_17 : decode cX2_powerOf 17 = .ok (.if_icmp .ge 52, 3) := by decide +kernel
theorem dX2_powerOf_20 : decode cX2_powerOf 20 = .ok (.aload_n 0, 1) := by decide +kernel
theorem dX2_powerOf_21 : decode cX2_powerOf 21 = .ok (.getfield 23, 3) := by decide +kernel
theorem dX2_powerOf_24 : decode cX2_powerOf 24 = .ok (.iload 4, 2) := by decide +kernel
theorem dX2_powerOf_26 : decode cX2_powerOf 26 = .ok (.aaload, 1) := by decide +kernel
theorem dX2_powerOf_27 : decode cX2_powerOf 27 = .ok (.getfield 71, 3) := by decide +kernel
theorem dX2_powerOf_30 : decode cX2_powerOf 30 = .ok (.ifCond .eq 33, 3) := by decide +kernel
theorem dX2_powerOf_33 : decode cX2_powerOf 33 = .ok (.iload_n 2, 1) := by decide +kernel
theorem dX2_powerOf_34 : decode cX2_powerOf 34 = .ok (.aload_n 0, 1) := by decide +kernel
theorem dX2_powerOf_35 : decode cX2_powerOf 35 = .ok (.getfield 23, 3) := by decide +kernel
theorem dX2_powerOf_38 : decode cX2_powerOf 38 = .ok (.iload 4, 2) := by decide +kernel
theorem dX2_powerOf_40 : decode cX2_powerOf 40 = .ok (.aaload, 1) := by decide +kernel
theorem dX2_powerOf_41 : decode cX2_powerOf 41 = .ok (.getfield 134, 3) := by decide +kernel
theorem dX2_powerOf_44 : decode cX2_powerOf 44 = .ok (.invokestatic 137, 3) := by decide +kernel
theorem dX2_powerOf_47 : decode cX2_powerOf 47 = .ok (.ifCond .eq 16, 3) := by decide +kernel
theorem dX2_powerOf_50 : decode cX2_powerOf 50 = .ok (.iload_n 3, 1) := by decide +kernel
theorem dX2_powerOf_51 : decode cX2_powerOf 51 = .ok (.aload_n 0, 1) := by decide +kernel
theorem dX2_powerOf_52 : decode cX2_powerOf 52 = .ok (.getfield 23, 3) := by decide +kernel
theorem dX2_powerOf_55 : decode cX2_powerOf 55 = .ok (.iload 4, 2) := by decide +kernel
theorem dX2_powerOf_57 : decode cX2_powerOf 57 = .ok (.aaload, 1) := by decide +kernel
theorem dX2_powerOf_58 : decode cX2_powerOf 58 = .ok (.getfield 141, 3) := by decide +kernel
theorem dX2_powerOf_61 : decode cX2_powerOf 61 = .ok (.iadd, 1) := by decide +kernel
theorem dX2_powerOf_62 : decode cX2_powerOf 62 = .ok (.istore_n 3, 1) := by decide +kernel
theorem dX2_powerOf_63 : decode cX2_powerOf 63 = .ok (.iinc 4 1, 3) := by decide +kernel
theorem dX2_powerOf_66 : decode cX2_powerOf 66 = .ok (.goto (-55), 3) := by decide +kernel
theorem dX2_powerOf_69 : decode cX2_powerOf 69 = .ok (.iload_n 3, 1) := by decide +kernel
theorem dX2_powerOf_70 : decode cX2_powerOf 70 = .ok (.ireturn, 1) := by decide +kernel
set_option maxRecDepth 20000 in
theorem ggX2_fedThrough_X2_contains : GoodIn wsX2_fedThrough wsX2_contains := goodIn_r _ [7] (by decide +kernel) (by decide +kernel)
set_option maxRecDepth 20000 in
theorem gX2_fedThrough_X2_contains : GoodIn wsX2_fedThrough (va_wsS RX2 137 yX2_contains wsX2_contains) := goodIn_app (goodIn_of _ (by decide +kernel)) ggX2_fedThrough_X2_contains
theorem dX2_fedThrough_0 : decode cX2_fedThrough 0 = .ok (.iconst 1, 1) := by decide +kernel
theorem dX2_fedThrough_1 : decode cX2_fedThrough 1 = .ok (.iload_n 1, 1) := by decide +kernel
theorem dX2_fedThrough_2 : decode cX2_fedThrough 2 = .ok (.ishl, 1) := by decide +kernel
theorem dX2_fedThrough_3 : decode cX2_fedThrough 3 = .ok (.istore_n 2, 1) := by decide +kernel
theorem dX2_fedThrough_4 : decode cX2_fedThrough 4 = .ok (.iload_n 1, 1) := by decide +kernel
theorem dX2_fedThrough_5 : decode cX2_fedThrough 5 = .ok (.iconst 1, 1) := by decide +kernel
theorem dX2_fedThrough_6 : decode cX2_fedThrough 6 = .ok (.iadd, 1) := by decide +kernel
theorem dX2_fedThrough_7 : decode cX2_fedThrough 7 = .ok (.istore_n 3, 1) := by decide +kernel
theorem dX2_fedThrough_8 : decode cX2_fedThrough 8 = .ok (.iload_n 3, 1) := by decide +kernel
theorem dX2_fedThrough_9 : decode cX2_fedThrough 9 = .ok (.aload_n 0, 1) := by decide +kernel
theorem dX2_fedThrough_10 : decode cX2_fedThrough 10 = .ok (.getfield 32, 3) := by decide +kernel
theorem dX2_fedThrough_13 : decode cX2_fedThrough 13 = .ok (.if_icmp .ge 31, 3) := by decide +kernel
theorem dX2_fedThrough_16 : decode cX2_fedThrough 16 = .ok (.iload_n 2, 1) := by decide +kernel
theorem dX2_fedThrough_17 : decode cX2_fedThrough 17 = .ok (.aload_n 0, 1) := by decide +kernel
theorem dX2_fedThrough_18 : decode cX2_fedThrough 18 = .ok (.getfield 17, 3) := by decide +kernel
theorem dX2_fedThrough_21 : decode cX2_fedThrough 21 = .ok (.iload_n 3, 1) := by decide +kernel
theorem dX2_fedThrough_22 : decode cX2_fedThrough 22 = .ok (.aaload, 1) := by decide +kernel
theorem dX2_fedThrough_23 : decode cX2_fedThrough 23 = .ok (.getfield 144, 3) := by decide +kernel
theorem dX2_fedThrough_26 : decode cX2_fedThrough 26 = .ok (.invokestatic 137, 3) := by decide +kernel
theorem dX2_fedThrough_29 : decode cX2_fedThrough 29 = .ok (.ifCond .eq 9, 3) := by decide +kernel
theorem dX2_fedThrough_32 : decode cX2_fedThrough 32 = .ok (.iload_n 2, 1) := by decide +kernel
theorem dX2_fedThrough_33 : decode cX2_fedThrough 33 = .ok (.iconst 1, 1) := by decide +kernel
theorem dX2_fedThrough_34 : decode cX2_fedThrough 34 = .ok (.iload_n 3, 1) := by decide +kernel
theorem dX2_fedThrough_35 : decode cX2_fedThrough 35 = .ok (.ishl, 1) := by decide +kernel
theorem dX2_fedThrough_36 : decode cX2_fedThrough 36 = .ok (.ior, 1) := by decide +kernel
theorem dX2_fedThrough_37 : decode cX2_fedThrough 37 = .ok (.istore_n 2, 1) := by decide +kernel
theorem dX2_fedThrough_38 : decode cX2_fedThrough 38 = .ok (.iinc 3 1, 3) := by decide +kernel
theorem dX2_fedThrough_41 : decode cX2_fedThrough 41 = .ok (.goto (-33), 3) := by decide +kernel
theorem dX2_fedThrough_44 : decode cX2_fedThrough 44 = .ok (.iload_n 2, 1) := by decide +kernel
theorem dX2_fedThrough_45 : decode cX2_fedThrough 45 = .ok (.ireturn, 1) := by decide +kernel
theorem dX2_contains_0 : decode cX2_contains 0 = .ok (.iload_n 0, 1) := by decide +kernel
theorem dX2_contains_1 : decode cX2_contains 1 = .ok (.iload_n 1, 1) := by decide +kernel
theorem dX2_contains_2 : decode cX2_contains 2 = .ok (.ishr, 1) := by decide +kernel
theorem dX2_contains_3 : decode cX2_contains 3 = .ok (.iconst 1, 1) := by decide +kernel
theorem dX2_contains_4 : decode cX2_contains 4 = .ok (.iand, 1) := by decide +kernel
theorem dX2_contains_5 : decode cX2_contains 5 = .ok (.iconst 1, 1) := by decide +kernel
theorem dX2_contains_6 : decode cX2_contains 6 = .ok (.if_icmp .ne 7, 3) := by decide +kernel
theorem dX2_contains_9 : decode cX2_contains 9 = .ok (.iconst 1, 1) := by decide +kernel
theorem dX2_contains_10 : decode cX2_contains 10 = .ok (.goto 4, 3) := by decide +kernel
theorem dX2_contains_13 : decode cX2_contains 13 = .ok (.iconst 0, 1) := by decide +kernel
theorem dX2_contains_14 : decode cX2_contains 14 = .ok (.ireturn, 1) := by decide +kernel
theorem dX2_loadsOn_0 : decode cX2_loadsOn 0 = .ok (.iconst 0, 1) := by decide +kernel
theorem dX2_loadsOn_1 : decode cX2_loadsOn 1 = .ok (.istore_n 1, 1) := by decide +kernel
theorem dX2_loadsOn_2 : decode cX2_loadsOn 2 = .ok (.iconst 0, 1) := by decide +kernel
theorem dX2_loadsOn_3 : decode cX2_loadsOn 3 = .ok (.istore_n 2, 1) := by decide +kernel
theorem dX2_loadsOn_4 : decode cX2_loadsOn 4 = .ok (.iload_n 2, 1) := by decide +kernel
theorem dX2_loadsOn_5 : decode cX2_loadsOn 5 = .ok (.aload_n 0, 1) := by decide +kernel
theorem dX2_loadsOn_6 : decode cX2_loadsOn 6 = .ok (.getfield 40, 3) := by decide +kernel
theorem dX2_loadsOn_9 : decode cX2_loadsOn 9 = .ok (.if_icmp .ge 31, 3) := by decide +kernel
theorem dX2_loadsOn_12 : decode cX2_loadsOn 12 = .ok (.iload_n 1, 1) := by decide +kernel
theorem dX2_loadsOn_13 : decode cX2_loadsOn 13 = .ok (.aload_n 0, 1) := by decide +kernel
theorem dX2_loadsOn_14 : decode cX2_loadsOn 14 = .ok (.getfield 23, 3) := by decide +kernel
theorem dX2_loadsOn_17 : decode cX2_loadsOn 17 = .ok (.iload_n 2, 1) := by decide +kernel
theorem dX2_loadsOn_18 : decode cX2_loadsOn 18 = .ok (.aaload, 1) := by decide +kernel
theorem dX2_loadsOn_19 : decode cX2_loadsOn 19 = .ok (.getfield 71, 3) := by decide +kernel
theorem dX2_loadsOn_22 : decode cX2_loadsOn 22 = .ok (.ifCond .eq 9, 3) := by decide +kernel
theorem dX2_loadsOn_25 : decode cX2_loadsOn 25 = .ok (.iconst 1, 1) := by decide +kernel
theorem dX2_loadsOn_26 : decode cX2_loadsOn 26 = .ok (.iload_n 2, 1) := by decide +kernel
theorem dX2_loadsOn_27 : decode cX2_loadsOn 27 = .ok (.ishl, 1) := by decide +kernel
theorem dX2_loadsOn_28 : decode cX2_loadsOn 28 = .ok (.goto 4, 3) := by decide +kernel
theorem dX2_loadsOn_31 : decode cX2_loadsOn 31 = .ok (.iconst 0, 1) := by decide +kernel
theorem dX2_loadsOn_32 : decode cX2_loadsOn 32 = .ok (.ior, 1) := by decide +kernel
theorem dX2_loadsOn_33 : decode cX2_loadsOn 33 = .ok (.istore_n 1, 1) := by decide +kernel
theorem dX2_loadsOn_34 : decode cX2_loadsOn 34 = .ok (.iinc 2 1, 3) := by decide +kernel
theorem dX2_loadsOn_37 : decode cX2_loadsOn 37 = .ok (.goto (-33), 3) := by decide +kernel
theorem dX2_loadsOn_40 : decode cX2_loadsOn 40 = .ok (.iload_n 1, 1) := by decide +kernel
theorem dX2_loadsOn_41 : decode cX2_loadsOn 41 = .ok (.ireturn, 1) := by decide +kernel
theorem dX2_sealsBroken_0 : decode cX2_sealsBroken 0 = .ok (.iconst 0, 1) := by decide +kernel
theorem dX2_sealsBroken_1 : decode cX2_sealsBroken 1 = .ok (.istore_n 1, 1) := by decide +kernel
theorem dX2_sealsBroken_2 : decode cX2_sealsBroken 2 = .ok (.iconst 0, 1) := by decide +kernel
theorem dX2_sealsBroken_3 : decode cX2_sealsBroken 3 = .ok (.istore_n 2, 1) := by decide +kernel
theorem dX2_sealsBroken_4 : decode cX2_sealsBroken 4 = .ok (.iload_n 2, 1) := by decide +kernel
theorem dX2_sealsBroken_5 : decode cX2_sealsBroken 5 = .ok (.aload_n 0, 1) := by decide +kernel
theorem dX2_sealsBroken_6 : decode cX2_sealsBroken 6 = .ok (.getfield 32, 3) := by decide +kernel
theorem dX2_sealsBroken_9 : decode cX2_sealsBroken 9 = .ok (.if_icmp .ge 31, 3) := by decide +kernel
theorem dX2_sealsBroken_12 : decode cX2_sealsBroken 12 = .ok (.iload_n 1, 1) := by decide +kernel
theorem dX2_sealsBroken_13 : decode cX2_sealsBroken 13 = .ok (.aload_n 0, 1) := by decide +kernel
theorem dX2_sealsBroken_14 : decode cX2_sealsBroken 14 = .ok (.getfield 17, 3) := by decide +kernel
theorem dX2_sealsBroken_17 : decode cX2_sealsBroken 17 = .ok (.iload_n 2, 1) := by decide +kernel
theorem dX2_sealsBroken_18 : decode cX2_sealsBroken 18 = .ok (.aaload, 1) := by decide +kernel
theorem dX2_sealsBroken_19 : decode cX2_sealsBroken 19 = .ok (.getfield 75, 3) := by decide +kernel
theorem dX2_sealsBroken_22 : decode cX2_sealsBroken 22 = .ok (.ifCond .eq 9, 3) := by decide +kernel
theorem dX2_sealsBroken_25 : decode cX2_sealsBroken 25 = .ok (.iconst 1, 1) := by decide +kernel
theorem dX2_sealsBroken_26 : decode cX2_sealsBroken 26 = .ok (.iload_n 2, 1) := by decide +kernel
theorem dX2_sealsBroken_27 : decode cX2_sealsBroken 27 = .ok (.ishl, 1) := by decide +kernel
theorem dX2_sealsBroken_28 : decode cX2_sealsBroken 28 = .ok (.goto 4, 3) := by decide +kernel
theorem dX2_sealsBroken_31 : decode cX2_sealsBroken 31 = .ok (.iconst 0, 1) := by decide +kernel
theorem dX2_sealsBroken_32 : decode cX2_sealsBroken 32 = .ok (.ior, 1) := by decide +kernel
theorem dX2_sealsBroken_33 : decode cX2_sealsBroken 33 = .ok (.istore_n 1, 1) := by decide +kernel
theorem dX2_sealsBroken_34 : decode cX2_sealsBroken 34 = .ok (.iinc 2 1, 3) := by decide +kernel
theorem dX2_sealsBroken_37 : decode cX2_sealsBroken 37 = .ok (.goto (-33), 3) := by decide +kernel
theorem dX2_sealsBroken_40 : decode cX2_sealsBroken 40 = .ok (.iload_n 1, 1) := by decide +kernel
theorem dX2_sealsBroken_41 : decode cX2_sealsBroken 41 = .ok (.ireturn, 1) := by decide +kernel
set_option maxRecDepth 20000 in
theorem ggX2_allTurns_X4_turns : GoodIn wsX2_allTurns wsX4_turns := goodIn_r _ [7, 8, 9, 17, 18, 19, 20, 21, 22, 23, 24, 25, 26, 27, 28, 29] (by decide +kernel) (by decide +kernel)
set_option maxRecDepth 20000 in
theorem gX2_allTurns_X4_turns : GoodIn wsX2_allTurns (wsV RX2 147 RX4 yX4_turns wsX4_turns) := goodIn_app (goodIn_of _ (by decide +kernel)) ggX2_allTurns_X4_turns
theorem dX2_allTurns_0 : decode cX2_allTurns 0 = .ok (.iconst 0, 1) := by decide +kernel
theorem dX2_allTurns_1 : decode cX2_allTurns 1 = .ok (.istore_n 1, 1) := by decide +kernel
theorem dX2_allTurns_2 : decode cX2_allTurns 2 = .ok (.iconst 0, 1) := by decide +kernel
theorem dX2_allTurns_3 : decode cX2_allTurns 3 = .ok (.istore_n 2, 1) := by decide +kernel
theorem dX2_allTurns_4 : decode cX2_allTurns 4 = .ok (.iload_n 2, 1) := by decide +kernel
theorem dX2_allTurns_5 : decode cX2_allTurns 5 = .ok (.aload_n 0, 1) := by decide +kernel
theorem dX2_allTurns_6 : decode cX2_allTurns 6 = .ok (.getfield 32, 3) := by decide +kernel
theorem dX2_allTurns_9 : decode cX2_allTurns 9 = .ok (.if_icmp .ge 21, 3) := by decide +kernel
theorem dX2_allTurns_12 : decode cX2_allTurns 12 = .ok (.iload_n 1, 1) := by decide +kernel
theorem dX2_allTurns_13 : decode cX2_allTurns 13 = .ok (.aload_n 0, 1) := by decide +kernel
theorem dX2_allTurns_14 : decode cX2_allTurns 14 = .ok (.getfield 17, 3) := by decide +kernel
theorem dX2_allTurns_17 : decode cX2_allTurns 17 = .ok (.iload_n 2, 1) := by decide +kernel
theorem dX2_allTurns_18 : decode cX2_allTurns 18 = .ok (.aaload, 1) := by decide +kernel
theorem dX2_allTurns_19 : decode cX2_allTurns 19 = .ok (.invokevirtual 147, 3) := by decide +kernel
theorem dX2_allTurns_22 : decode cX2_allTurns 22 = .ok (.iadd, 1) := by decide +kernel
theorem dX2_allTurns_23 : decode cX2_allTurns 23 = .ok (.istore_n 1, 1) := by decide +kernel
theorem dX2_allTurns_24 : decode cX2_allTurns 24 = .ok (.iinc 2 1, 3) := by decide +kernel
theorem dX2_allTurns_27 : decode cX2_allTurns 27 = .ok (.goto (-23), 3) := by decide +kernel
theorem dX2_allTurns_30 : decode cX2_allTurns 30 = .ok (.iload_n 1, 1) := by decide +kernel
theorem dX2_allTurns_31 : decode cX2_allTurns 31 = .ok (.ireturn, 1) := by decide +kernel
theorem dX2_allBilled_0 : decode cX2_allBilled 0 = .ok (.iconst 0, 1) := by decide +kernel
theorem dX2_allBilled_1 : decode cX2_allBilled 1 = .ok (.istore_n 1, 1) := by decide +kernel
theorem dX2_allBilled_2 : decode cX2_allBilled 2 = .ok (.iconst 0, 1) := by decide +kernel
theorem dX2_allBilled_3 : decode cX2_allBilled 3 = .ok (.istore_n 2, 1) := by decide +kernel
theorem dX2_allBilled_4 : decode cX2_allBilled 4 = .ok (.iload_n 2, 1) := by decide +kernel
theorem dX2_allBilled_5 : decode cX2_allBilled 5 = .ok (.aload_n 0, 1) := by decide +kernel
theorem dX2_allBilled_6 : decode cX2_allBilled 6 = .ok (.getfield 32, 3) := by decide +kernel
theorem dX2_allBilled_9 : decode cX2_allBilled 9 = .ok (.if_icmp .ge 21, 3) := by decide +kernel
theorem dX2_allBilled_12 : decode cX2_allBilled 12 = .ok (.iload_n 1, 1) := by decide +kernel
theorem dX2_allBilled_13 : decode cX2_allBilled 13 = .ok (.aload_n 0, 1) := by decide +kernel
theorem dX2_allBilled_14 : decode cX2_allBilled 14 = .ok (.getfield 17, 3) := by decide +kernel
theorem dX2_allBilled_17 : decode cX2_allBilled 17 = .ok (.iload_n 2, 1) := by decide +kernel
theorem dX2_allBilled_18 : decode cX2_allBilled 18 = .ok (.aaload, 1) := by decide +kernel
theorem dX2_allBilled_19 : decode cX2_allBilled 19 = .ok (.getfield 150, 3) := by decide +kernel
theorem dX2_allBilled_22 : decode cX2_allBilled 22 = .ok (.iadd, 1) := by decide +kernel
theorem dX2_allBilled_23 : decode cX2_allBilled 23 = .ok (.istore_n 1, 1) := by decide +kernel
theorem dX2_allBilled_24 : decode cX2_allBilled 24 = .ok (.iinc 2 1, 3) := by decide +kernel
theorem dX2_allBilled_27 : decode cX2_allBilled 27 = .ok (.goto (-23), 3) := by decide +kernel
theorem dX2_allBilled_30 : decode cX2_allBilled 30 = .ok (.iload_n 1, 1) := by decide +kernel
theorem dX2_allBilled_31 : decode cX2_allBilled 31 = .ok (.ireturn, 1) := by decide +kernel
set_option maxRecDepth 20000 in
theorem ggX2_mostMissing_X4_missed : GoodIn wsX2_mostMissing wsX4_missed := goodIn_r _ [7, 8, 9, 10, 11, 12, 13, 6, 14, 15, 16, 24, 25, 26, 27, 28, 29, 30, 31, 32, 33, 34, 35, 36] (by decide +kernel) (by decide +kernel)
set_option maxRecDepth 20000 in
theorem gX2_mostMissing_X4_missed : GoodIn wsX2_mostMissing (wsV RX2 153 RX4 yX4_missed wsX4_missed) := goodIn_app (goodIn_of _ (by decide +kernel)) ggX2_mostMissing_X4_missed
theorem dX2_mostMissing_0 : decode cX2_mostMissing 0 = .ok (.aload_n 0, 1) := by decide +kernel
theorem dX2_mostMissing_1 : decode cX2_mostMissing 1 = .ok (.getfield 32, 3) := by decide +kernel
theorem dX2_mostMissing_4 : decode cX2_mostMissing 4 = .ok (.ifCond .ne 6, 3) := by decide +kernel
theorem dX2_mostMissing_7 : decode cX2_mostMissing 7 = .ok (.bipush (-6), 2) := by decide +kernel
theorem dX2_mostMissing_9 : decode cX2_mostMissing 9 = .ok (.ireturn, 1) := by decide +kernel
theorem dX2_mostMissing_10 : decode cX2_mostMissing 10 = .ok (.iconst 0, 1) := by decide +kernel
theorem dX2_mostMissing_11 : decode cX2_mostMissing 11 = .ok (.istore_n 1, 1) := by decide +kernel
theorem dX2_mostMissing_12 : decode cX2_mostMissing 12 = .ok (.iconst 1, 1) := by decide +kernel
theorem dX2_mostMissing_13 : decode cX2_mostMissing 13 = .ok (.istore_n 2, 1) := by decide +kernel
theorem dX2_mostMissing_14 : decode cX2_mostMissing 14 = .ok (.iload_n 2, 1) := by decide +kernel
theorem dX2_mostMissing_15 : decode cX2_mostMissing 15 = .ok (.aload_n 0, 1) := by decide +kernel
theorem dX2_mostMissing_16 : decode cX2_mostMissing 16 = .ok (.getfield 32, 3) := by decide +kernel
theorem dX2_mostMissing_19 : decode cX2_mostMissing 19 = .ok (.if_icmp .ge 33, 3) := by decide +kernel
theorem dX2_mostMissing_22 : decode cX2_mostMissing 22 = .ok (.aload_n 0, 1) := by decide +kernel
theorem dX2_mostMissing_23 : decode cX2_mostMissing 23 = .ok (.getfield 17, 3) := by decide +kernel
theorem dX2_mostMissing_26 : decode cX2_mostMissing 26 = .ok (.iload_n 2, 1) := by decide +kernel
theorem dX2_mostMissing_27 : decode cX2_mostMissing 27 = .ok (.aaload, 1) := by decide +kernel
theorem dX2_mostMissing_28 : decode cX2_mostMissing 28 = .ok (.invokevirtual 153, 3) := by decide +kernel
theorem dX2_mostMissing_31 : decode cX2_mostMissing 31 = .ok (.aload_n 0, 1) := by decide +kernel
theorem dX2_mostMissing_32 : decode cX2_mostMissing 32 = .ok (.getfield 17, 3) := by decide +kernel
theorem dX2_mostMissing_35 : decode cX2_mostMissing 35 = .ok (.iload_n 1, 1) := by decide +kernel
theorem dX2_mostMissing_36 : decode cX2_mostMissing 36 = .ok (.aaload, 1) := by decide +kernel
theorem dX2_mostMissing_37 : decode cX2_mostMissing 37 = .ok (.invokevirtual 153, 3) := by decide +kernel
theorem dX2_mostMissing_40 : decode cX2_mostMissing 40 = .ok (.lcmp, 1) := by decide +kernel
theorem dX2_mostMissing_41 : decode cX2_mostMissing 41 = .ok (.ifCond .le 5, 3) := by decide +kernel
theorem dX2_mostMissing_44 : decode cX2_mostMissing 44 = .ok (.iload_n 2, 1) := by decide +kernel
theorem dX2_mostMissing_45 : decode cX2_mostMissing 45 = .ok (.istore_n 1, 1) := by decide +kernel
theorem dX2_mostMissing_46 : decode cX2_mostMissing 46 = .ok (.iinc 2 1, 3) := by decide +kernel
theorem dX2_mostMissing_49 : decode cX2_mostMissing 49 = .ok (.goto (-35), 3) := by decide +kernel
theorem dX2_mostMissing_52 : decode cX2_mostMissing 52 = .ok (.iload_n 1, 1) := by decide +kernel
theorem dX2_mostMissing_53 : decode cX2_mostMissing 53 = .ok (.ireturn, 1) := by decide +kernel
set_option maxRecDepth 20000 in
theorem ggX2_turnsBehind_X4_turns : GoodIn wsX2_turnsBehind wsX4_turns := goodIn_r _ [8, 9, 10, 18, 19, 20, 21, 22, 23, 24, 25, 26, 27, 28, 29, 30] (by decide +kernel) (by decide +kernel)
set_option maxRecDepth 20000 in
theorem gX2_turnsBehind_X4_turns : GoodIn wsX2_turnsBehind (wsV RX2 147 RX4 yX4_turns wsX4_turns) := goodIn_app (goodIn_of _ (by decide +kernel)) ggX2_turnsBehind_X4_turns
theorem dX2_turnsBehind_0 : decode cX2_turnsBehind 0 = .ok (.iconst 0, 1) := by decide +kernel
theorem dX2_turnsBehind_1 : decode cX2_turnsBehind 1 = .ok (.istore_n 2, 1) := by decide +kernel
theorem dX2_turnsBehind_2 : decode cX2_turnsBehind 2 = .ok (.iload_n 1, 1) := by decide +kernel
theorem dX2_turnsBehind_3 : decode cX2_turnsBehind 3 = .ok (.iconst 1, 1) := by decide +kernel
theorem dX2_turnsBehind_4 : decode cX2_turnsBehind 4 = .ok (.iadd, 1) := by decide +kernel
theorem dX2_turnsBehind_5 : decode cX2_turnsBehind 5 = .ok (.istore_n 3, 1) := by decide +kernel
theorem dX2_turnsBehind_6 : decode cX2_turnsBehind 6 = .ok (.iload_n 3, 1) := by decide +kernel
theorem dX2_turnsBehind_7 : decode cX2_turnsBehind 7 = .ok (.aload_n 0, 1) := by decide +kernel
theorem dX2_turnsBehind_8 : decode cX2_turnsBehind 8 = .ok (.getfield 32, 3) := by decide +kernel
theorem dX2_turnsBehind_11 : decode cX2_turnsBehind 11 = .ok (.if_icmp .ge 34, 3) := by decide +kernel
theorem dX2_turnsBehind_14 : decode cX2_turnsBehind 14 = .ok (.aload_n 0, 1) := by decide +kernel
theorem dX2_turnsBehind_15 : decode cX2_turnsBehind 15 = .ok (.getfield 17, 3) := by decide +kernel
theorem dX2_turnsBehind_18 : decode cX2_turnsBehind 18 = .ok (.iload_n 3, 1) := by decide +kernel
theorem dX2_turnsBehind_19 : decode cX2_turnsBehind 19 = .ok (.aaload, 1) := by decide +kernel
theorem dX2_turnsBehind_20 : decode cX2_turnsBehind 20 = .ok (.getfield 144, 3) := by decide +kernel
theorem dX2_turnsBehind_23 : decode cX2_turnsBehind 23 = .ok (.iload_n 1, 1) := by decide +kernel
theorem dX2_turnsBehind_24 : decode cX2_turnsBehind 24 = .ok (.if_icmp .ne 15, 3) := by decide +kernel
theorem dX2_turnsBehind_27 : decode cX2_turnsBehind 27 = .ok (.iload_n 2, 1) := by decide +kernel
theorem dX2_turnsBehind_28 : decode cX2_turnsBehind 28 = .ok (.aload_n 0, 1) := by decide +kernel
theorem dX2_turnsBehind_29 : decode cX2_turnsBehind 29 = .ok (.getfield 17, 3) := by decide +kernel
theorem dX2_turnsBehind_32 : decode cX2_turnsBehind 32 = .ok (.iload_n 3, 1) := by decide +kernel
theorem dX2_turnsBehind_33 : decode cX2_turnsBehind 33 = .ok (.aaload, 1) := by decide +kernel
theorem dX2_turnsBehind_34 : decode cX2_turnsBehind 34 = .ok (.invokevirtual 147, 3) := by decide +kernel
theorem dX2_turnsBehind_37 : decode cX2_turnsBehind 37 = .ok (.iadd, 1) := by decide +kernel
theorem dX2_turnsBehind_38 : decode cX2_turnsBehind 38 = .ok (.istore_n 2, 1) := by decide +kernel
theorem dX2_turnsBehind_39 : decode cX2_turnsBehind 39 = .ok (.iinc 3 1, 3) := by decide +kernel
theorem dX2_turnsBehind_42 : decode cX2_turnsBehind 42 = .ok (.goto (-36), 3) := by decide +kernel
theorem dX2_turnsBehind_45 : decode cX2_turnsBehind 45 = .ok (.iload_n 2, 1) := by decide +kernel
theorem dX2_turnsBehind_46 : decode cX2_turnsBehind 46 = .ok (.aload_n 0, 1) := by decide +kernel
theorem dX2_turnsBehind_47 : decode cX2_turnsBehind 47 = .ok (.getfield 17, 3) := by decide +kernel
theorem dX2_turnsBehind_50 : decode cX2_turnsBehind 50 = .ok (.iload_n 1, 1) := by decide +kernel
theorem dX2_turnsBehind_51 : decode cX2_turnsBehind 51 = .ok (.aaload, 1) := by decide +kernel
theorem dX2_turnsBehind_52 : decode cX2_turnsBehind 52 = .ok (.invokevirtual 147, 3) := by decide +kernel
theorem dX2_turnsBehind_55 : decode cX2_turnsBehind 55 = .ok (.isub, 1) := by decide +kernel
theorem dX2_turnsBehind_56 : decode cX2_turnsBehind 56 = .ok (.ireturn, 1) := by decide +kernel
set_option maxRecDepth 20000 in
theorem ggX3_init_X3_begin : GoodIn wsX3_init wsX3_begin := goodIn_r _ [8, 9, 10, 11, 12, 13, 14] (by decide +kernel) (by decide +kernel)
set_option maxRecDepth 20000 in
theorem gX3_init_X3_begin : GoodIn wsX3_init (wsV RX3 7 RX3 yX3_begin wsX3_begin) := goodIn_app (goodIn_of _ (by decide +kernel)) ggX3_init_X3_begin
theorem dX3_init_0 : decode cX3_init 0 = .ok (.aload_n 0, 1) := by decide +kernel
theorem dX3_init_1 : decode cX3_init 1 = .ok (.invokespecial 1, 3) := by decide +kernel
theorem dX3_init_4 : decode cX3_init 4 = .ok (.aload_n 0, 1) := by decide +kernel
theorem dX3_init_5 : decode cX3_init 5 = .ok (.iconst 0, 1) := by decide +kernel
theorem dX3_init_6 : decode cX3_init 6 = .ok (.iconst 0, 1) := by decide +kernel
theorem dX3_init_7 : decode cX3_init 7 = .ok (.invokevirtual 7, 3) := by decide +kernel
theorem dX3_init_10 : decode cX3_init 10 = .ok (.return_, 1) := by decide +kernel
theorem dX3_begin_0 : decode cX3_begin 0 = .ok (.aload_n 0, 1) := by decide +kernel
theorem dX3_begin_1 : decode cX3_begin 1 = .ok (.iload_n 1, 1) := by decide +kernel
theorem dX3_begin_2 : decode cX3_begin 2 = .ok (.putfield 13, 3) := by decide +kernel
theorem dX3_begin_5 : decode cX3_begin 5 = .ok (.aload_n 0, 1) := by decide +kernel
theorem dX3_begin_6 : decode cX3_begin 6 = .ok (.iload_n 2, 1) := by decide +kernel
theorem dX3_begin_7 : decode cX3_begin 7 = .ok (.putfield 17, 3) := by decide +kernel
theorem dX3_begin_10 : decode cX3_begin 10 = .ok (.aload_n 0, 1) := by decide +kernel
theorem dX3_begin_11 : decode cX3_begin 11 = .ok (.iconst 0, 1) := by decide +kernel
theorem dX3_begin_12 : decode cX3_begin 12 = .ok (.putfield 20, 3) := by decide +kernel
theorem dX3_begin_15 : decode cX3_begin 15 = .ok (.return_, 1) := by decide +kernel
theorem dX3_copyFrom_0 : decode cX3_copyFrom 0 = .ok (.aload_n 0, 1) := by decide +kernel
theorem dX3_copyFrom_1 : decode cX3_copyFrom 1 = .ok (.aload_n 1, 1) := by decide +kernel
theorem dX3_copyFrom_2 : decode cX3_copyFrom 2 = .ok (.getfield 13, 3) := by decide +kernel
theorem dX3_copyFrom_5 : decode cX3_copyFrom 5 = .ok (.putfield 13, 3) := by decide +kernel
theorem dX3_copyFrom_8 : decode cX3_copyFrom 8 = .ok (.aload_n 0, 1) := by decide +kernel
theorem dX3_copyFrom_9 : decode cX3_copyFrom 9 = .ok (.aload_n 1, 1) := by decide +kernel
theorem dX3_copyFrom_10 : decode cX3_copyFrom 10 = .ok (.getfield 17, 3) := by decide +kernel
theorem dX3_copyFrom_13 : decode cX3_copyFrom 13 = .ok (.putfield 17, 3) := by decide +kernel
theorem dX3_copyFrom_16 : decode cX3_copyFrom 16 = .ok (.aload_n 0, 1) := by decide +kernel
theorem dX3_copyFrom_17 : decode cX3_copyFrom 17 = .ok (.aload_n 1, 1) := by decide +kernel
theorem dX3_copyFrom_18 : decode cX3_copyFrom 18 = .ok (.getfield 20, 3) := by decide +kernel
theorem dX3_copyFrom_21 : decode cX3_copyFrom 21 = .ok (.putfield 20, 3) := by decide +kernel
theorem dX3_copyFrom_24 : decode cX3_copyFrom 24 = .ok (.return_, 1) := by decide +kernel
set_option maxRecDepth 20000 in
theorem ggX4_init_X4_begin : GoodIn wsX4_init wsX4_begin := goodIn_r _ [8, 9, 10, 11, 12, 13, 14, 15, 16, 17, 18, 19, 20, 21, 22, 23, 24, 25, 26, 27, 28, 29, 30, 31, 32, 33, 34] (by decide +kernel) (by decide +kernel)
set_option maxRecDepth 20000 in
theorem gX4_init_X4_begin : GoodIn wsX4_init (wsV RX4 9 RX4 yX4_begin wsX4_begin) := goodIn_app (goodIn_of _ (by decide +kernel)) ggX4_init_X4_begin
theorem dX4_init_0 : decode cX4_init 0 = .ok (.aload_n 0, 1) := by decide +kernel
theorem dX4_init_1 : decode cX4_init 1 = .ok (.invokespecial 3, 3) := by decide +kernel
theorem dX4_init_4 : decode cX4_init 4 = .ok (.aload_n 0, 1) := by decide +kernel
theorem dX4_init_5 : decode cX4_init 5 = .ok (.bipush (-6), 2) := by decide +kernel
theorem dX4_init_7 : decode cX4_init 7 = .ok (.iconst 0, 1) := by decide +kernel
theorem dX4_init_8 : decode cX4_init 8 = .ok (.invokevirtual 9, 3) := by decide +kernel
theorem dX4_init_11 : decode cX4_init 11 = .ok (.return_, 1) := by decide +kernel
theorem dX4_begin_0 : decode cX4_begin 0 = .ok (.aload_n 0, 1) := by decide +kernel
theorem dX4_begin_1 : decode cX4_begin 1 = .ok (.iload_n 1, 1) := by decide +kernel
theorem dX4_begin_2 : decode cX4_begin 2 = .ok (.putfield 15, 3) := by decide +kernel
theorem dX4_begin_5 : decode cX4_begin 5 = .ok (.aload_n 0, 1) := by decide +kernel
theorem dX4_begin_6 : decode cX4_begin 6 = .ok (.iconst 0, 1) := by decide +kernel
theorem dX4_begin_7 : decode cX4_begin 7 = .ok (.putfield 19, 3) := by decide +kernel
theorem dX4_begin_10 : decode cX4_begin 10 = .ok (.aload_n 0, 1) := by decide +kernel
theorem dX4_begin_11 : decode cX4_begin 11 = .ok (.bipush 100, 2) := by decide +kernel
theorem dX4_begin_13 : decode cX4_begin 13 = .ok (.putfield 22, 3) := by decide +kernel
theorem dX4_begin_16 : decode cX4_begin 16 = .ok (.aload_n 0, 1) := by decide +kernel
theorem dX4_begin_17 : decode cX4_begin 17 = .ok (.iconst 0, 1) := by decide +kernel
theorem dX4_begin_18 : decode cX4_begin 18 = .ok (.putfield 25, 3) := by decide +kernel
theorem dX4_begin_21 : decode cX4_begin 21 = .ok (.aload_n 0, 1) := by decide +kernel
theorem dX4_begin_22 : decode cX4_begin 22 = .ok (.iconst 0, 1) := by decide +kernel
theorem dX4_begin_23 : decode cX4_begin 23 = .ok (.putfield 28, 3) := by decide +kernel
theorem dX4_begin_26 : decode cX4_begin 26 = .ok (.aload_n 0, 1) := by decide +kernel
theorem dX4_begin_27 : decode cX4_begin 27 = .ok (.iconst 0, 1) := by decide +kernel
theorem dX4_begin_28 : decode cX4_begin 28 = .ok (.putfield 31, 3) := by decide +kernel
theorem dX4_begin_31 : decode cX4_begin 31 = .ok (.aload_n 0, 1) := by decide +kernel
theorem dX4_begin_32 : decode cX4_begin 32 = .ok (.iconst 0, 1) := by decide +kernel
theorem dX4_begin_33 : decode cX4_begin 33 = .ok (.putfield 34, 3) := by decide +kernel
theorem dX4_begin_36 : decode cX4_begin 36 = .ok (.aload_n 0, 1) := by decide +kernel
theorem dX4_begin_37 : decode cX4_begin 37 = .ok (.iconst 0, 1) := by decide +kernel
theorem dX4_begin_38 : decode cX4_begin 38 = .ok (.putfield 37, 3) := by decide +kernel
theorem dX4_begin_41 : decode cX4_begin 41 = .ok (.aload_n 0, 1) := by decide +kernel
theorem dX4_begin_42 : decode cX4_begin 42 = .ok (.lconst 0, 1) := by decide +kernel
theorem dX4_begin_43 : decode cX4_begin 43 = .ok (.putfield 40, 3) := by decide +kernel
theorem dX4_begin_46 : decode cX4_begin 46 = .ok (.aload_n 0, 1) := by decide +kernel
theorem dX4_begin_47 : decode cX4_begin 47 = .ok (.iload_n 2, 1) := by decide +kernel
theorem dX4_begin_48 : decode cX4_begin 48 = .ok (.putfield 44, 3) := by decide +kernel
theorem dX4_begin_51 : decode cX4_begin 51 = .ok (.aload_n 0, 1) := by decide +kernel
theorem dX4_begin_52 : decode cX4_begin 52 = .ok (.iconst 0, 1) := by decide +kernel
theorem dX4_begin_53 : decode cX4_begin 53 = .ok (.putfield 47, 3) := by decide +kernel
theorem dX4_begin_56 : decode cX4_begin 56 = .ok (.aload_n 0, 1) := by decide +kernel
theorem dX4_begin_57 : decode cX4_begin 57 = .ok (.iconst 0, 1) := by decide +kernel
theorem dX4_begin_58 : decode cX4_begin 58 = .ok (.putfield 51, 3) := by decide +kernel
theorem dX4_begin_61 : decode cX4_begin 61 = .ok (.aload_n 0, 1) := by decide +kernel
theorem dX4_begin_62 : decode cX4_begin 62 = .ok (.iconst 0, 1) := by decide +kernel
theorem dX4_begin_63 : decode cX4_begin 63 = .ok (.putfield 54, 3) := by decide +kernel
theorem dX4_begin_66 : decode cX4_begin 66 = .ok (.return_, 1) := by decide +kernel
theorem dX4_copyFrom_0 : decode cX4_copyFrom 0 = .ok (.aload_n 0, 1) := by decide +kernel
theorem dX4_copyFrom_1 : decode cX4_copyFrom 1 = .ok (.aload_n 1, 1) := by decide +kernel
theorem dX4_copyFrom_2 : decode cX4_copyFrom 2 = .ok (.getfield 15, 3) := by decide +kernel
theorem dX4_copyFrom_5 : decode cX4_copyFrom 5 = .ok (.putfield 15, 3) := by decide +kernel
theorem dX4_copyFrom_8 : decode cX4_copyFrom 8 = .ok (.aload_n 0, 1) := by decide +kernel
theorem dX4_copyFrom_9 : decode cX4_copyFrom 9 = .ok (.aload_n 1, 1) := by decide +kernel
theorem dX4_copyFrom_10 : decode cX4_copyFrom 10 = .ok (.getfield 19, 3) := by decide +kernel
theorem dX4_copyFrom_13 : decode cX4_copyFrom 13 = .ok (.putfield 19, 3) := by decide +kernel
theorem dX4_copyFrom_16 : decode cX4_copyFrom 16 = .ok (.aload_n 0, 1) := by decide +kernel
theorem dX4_copyFrom_17 : decode cX4_copyFrom 17 = .ok (.aload_n 1, 1) := by decide +kernel
theorem dX4_copyFrom_18 : decode cX4_copyFrom 18 = .ok (.getfield 22, 3) := by decide +kernel
theorem dX4_copyFrom_21 : decode cX4_copyFrom 21 = .ok (.putfield 22, 3) := by decide +kernel
theorem dX4_copyFrom_24 : decode cX4_copyFrom 24 = .ok (.aload_n 0, 1) := by decide +kernel
theorem dX4_copyFrom_25 : decode cX4_copyFrom 25 = .ok (.aload_n 1, 1) := by decide +kernel
theorem dX4_copyFrom_26 : decode cX4_copyFrom 26 = .ok (.getfield 25, 3) := by decide +kernel
theorem dX4_copyFrom_29 : decode cX4_copyFrom 29 = .ok (.putfield 25, 3) := by decide +kernel
theorem dX4_copyFrom_32 : decode cX4_copyFrom 32 = .ok (.aload_n 0, 1) := by decide +kernel
theorem dX4_copyFrom_33 : decode cX4_copyFrom 33 = .ok (.aload_n 1, 1) := by decide +kernel
theorem dX4_copyFrom_34 : decode cX4_copyFrom 34 = .ok (.getfield 28, 3) := by decide +kernel
theorem dX4_copyFrom_37 : decode cX4_copyFrom 37 = .ok (.putfield 28, 3) := by decide +kernel
theorem dX4_copyFrom_40 : decode cX4_copyFrom 40 = .ok (.aload_n 0, 1) := by decide +kernel
theorem dX4_copyFrom_41 : decode cX4_copyFrom 41 = .ok (.aload_n 1, 1) := by decide +kernel
theorem dX4_copyFrom_42 : decode cX4_copyFrom 42 = .ok (.getfield 31, 3) := by decide +kernel
theorem dX4_copyFrom_45 : decode cX4_copyFrom 45 = .ok (.putfield 31, 3) := by decide +kernel
theorem dX4_copyFrom_48 : decode cX4_copyFrom 48 = .ok (.aload_n 0, 1) := by decide +kernel
theorem dX4_copyFrom_49 : decode cX4_copyFrom 49 = .ok (.aload_n 1, 1) := by decide +kernel
theorem dX4_copyFrom_50 : decode cX4_copyFrom 50 = .ok (.getfield 34, 3) := by decide +kernel
theorem dX4_copyFrom_53 : decode cX4_copyFrom 53 = .ok (.putfield 34, 3) := by decide +kernel
theorem dX4_copyFrom_56 : decode cX4_copyFrom 56 = .ok (.aload_n 0, 1) := by decide +kernel
theorem dX4_copyFrom_57 : decode cX4_copyFrom 57 = .ok (.aload_n 1, 1) := by decide +kernel
theorem dX4_copyFrom_58 : decode cX4_copyFrom 58 = .ok (.getfield 37, 3) := by decide +kernel
theorem dX4_copyFrom_61 : decode cX4_copyFrom 61 = .ok (.putfield 37, 3) := by decide +kernel
theorem dX4_copyFrom_64 : decode cX4_copyFrom 64 = .ok (.aload_n 0, 1) := by decide +kernel
theorem dX4_copyFrom_65 : decode cX4_copyFrom 65 = .ok (.aload_n 1, 1) := by decide +kernel
theorem dX4_copyFrom_66 : decode cX4_copyFrom 66 = .ok (.getfield 40, 3) := by decide +kernel
theorem dX4_copyFrom_69 : decode cX4_copyFrom 69 = .ok (.putfield 40, 3) := by decide +kernel
theorem dX4_copyFrom_72 : decode cX4_copyFrom 72 = .ok (.aload_n 0, 1) := by decide +kernel
theorem dX4_copyFrom_73 : decode cX4_copyFrom 73 = .ok (.aload_n 1, 1) := by decide +kernel
theorem dX4_copyFrom_74 : decode cX4_copyFrom 74 = .ok (.getfield 44, 3) := by decide +kernel
theorem dX4_copyFrom_77 : decode cX4_copyFrom 77 = .ok (.putfield 44, 3) := by decide +kernel
theorem dX4_copyFrom_80 : decode cX4_copyFrom 80 = .ok (.aload_n 0, 1) := by decide +kernel
theorem dX4_copyFrom_81 : decode cX4_copyFrom 81 = .ok (.aload_n 1, 1) := by decide +kernel
theorem dX4_copyFrom_82 : decode cX4_copyFrom 82 = .ok (.getfield 47, 3) := by decide +kernel
theorem dX4_copyFrom_85 : decode cX4_copyFrom 85 = .ok (.putfield 47, 3) := by decide +kernel
theorem dX4_copyFrom_88 : decode cX4_copyFrom 88 = .ok (.aload_n 0, 1) := by decide +kernel
theorem dX4_copyFrom_89 : decode cX4_copyFrom 89 = .ok (.aload_n 1, 1) := by decide +kernel
theorem dX4_copyFrom_90 : decode cX4_copyFrom 90 = .ok (.getfield 51, 3) := by decide +kernel
theorem dX4_copyFrom_93 : decode cX4_copyFrom 93 = .ok (.putfield 51, 3) := by decide +kernel
theorem dX4_copyFrom_96 : decode cX4_copyFrom 96 = .ok (.aload_n 0, 1) := by decide +kernel
theorem dX4_copyFrom_97 : decode cX4_copyFrom 97 = .ok (.aload_n 1, 1) := by decide +kernel
theorem dX4_copyFrom_98 : decode cX4_copyFrom 98 = .ok (.getfield 54, 3) := by decide +kernel
theorem dX4_copyFrom_101 : decode cX4_copyFrom 101 = .ok (.putfield 54, 3) := by decide +kernel
theorem dX4_copyFrom_104 : decode cX4_copyFrom 104 = .ok (.return_, 1) := by decide +kernel
theorem dX4_turns_0 : decode cX4_turns 0 = .ok (.aload_n 0, 1) := by decide +kernel
theorem dX4_turns_1 : decode cX4_turns 1 = .ok (.getfield 28, 3) := by decide +kernel
theorem dX4_turns_4 : decode cX4_turns 4 = .ok (.aload_n 0, 1) := by decide +kernel
theorem dX4_turns_5 : decode cX4_turns 5 = .ok (.getfield 31, 3) := by decide +kernel
theorem dX4_turns_8 : decode cX4_turns 8 = .ok (.iadd, 1) := by decide +kernel
theorem dX4_turns_9 : decode cX4_turns 9 = .ok (.ireturn, 1) := by decide +kernel
theorem dX4_unbilledDayTurns_0 : decode cX4_unbilledDayTurns 0 = .ok (.aload_n 0, 1) := by decide +kernel
theorem dX4_unbilledDayTurns_1 : decode cX4_unbilledDayTurns 1 = .ok (.getfield 28, 3) := by decide +kernel
theorem dX4_unbilledDayTurns_4 : decode cX4_unbilledDayTurns 4 = .ok (.aload_n 0, 1) := by decide +kernel
theorem dX4_unbilledDayTurns_5 : decode cX4_unbilledDayTurns 5 = .ok (.getfield 34, 3) := by decide +kernel
theorem dX4_unbilledDayTurns_8 : decode cX4_unbilledDayTurns 8 = .ok (.isub, 1) := by decide +kernel
theorem dX4_unbilledDayTurns_9 : decode cX4_unbilledDayTurns 9 = .ok (.ireturn, 1) := by decide +kernel
theorem dX4_unbilledNightTurns_0 : decode cX4_unbilledNightTurns 0 = .ok (.aload_n 0, 1) := by decide +kernel
theorem dX4_unbilledNightTurns_1 : decode cX4_unbilledNightTurns 1 = .ok (.getfield 31, 3) := by decide +kernel
theorem dX4_unbilledNightTurns_4 : decode cX4_unbilledNightTurns 4 = .ok (.aload_n 0, 1) := by decide +kernel
theorem dX4_unbilledNightTurns_5 : decode cX4_unbilledNightTurns 5 = .ok (.getfield 37, 3) := by decide +kernel
theorem dX4_unbilledNightTurns_8 : decode cX4_unbilledNightTurns 8 = .ok (.isub, 1) := by decide +kernel
theorem dX4_unbilledNightTurns_9 : decode cX4_unbilledNightTurns 9 = .ok (.ireturn, 1) := by decide +kernel
set_option maxRecDepth 20000 in
theorem ggX4_missed_X4_turns : GoodIn wsX4_missed wsX4_turns := goodIn_r _ [8, 9, 10, 11, 12, 13, 14, 15, 16, 17, 18, 19, 20, 21, 22, 23] (by decide +kernel) (by decide +kernel)
set_option maxRecDepth 20000 in
theorem gX4_missed_X4_turns : GoodIn wsX4_missed (wsV RX4 59 RX4 yX4_turns wsX4_turns) := goodIn_app (goodIn_of _ (by decide +kernel)) ggX4_missed_X4_turns
theorem dX4_missed_0 : decode cX4_missed 0 = .ok (.aload_n 0, 1) := by decide +kernel
theorem dX4_missed_1 : decode cX4_missed 1 = .ok (.getfield 40, 3) := by decide +kernel
theorem dX4_missed_4 : decode cX4_missed 4 = .ok (.ldc2_w 57, 3) := by decide +kernel
theorem dX4_missed_7 : decode cX4_missed 7 = .ok (.aload_n 0, 1) := by decide +kernel
theorem dX4_missed_8 : decode cX4_missed 8 = .ok (.invokevirtual 59, 3) := by decide +kernel
theorem dX4_missed_11 : decode cX4_missed 11 = .ok (.i2l, 1) := by decide +kernel
theorem dX4_missed_12 : decode cX4_missed 12 = .ok (.lmul, 1) := by decide +kernel
theorem dX4_missed_13 : decode cX4_missed 13 = .ok (.lsub, 1) := by decide +kernel
theorem dX4_missed_14 : decode cX4_missed 14 = .ok (.aload_n 0, 1) := by decide +kernel
theorem dX4_missed_15 : decode cX4_missed 15 = .ok (.getfield 19, 3) := by decide +kernel
theorem dX4_missed_18 : decode cX4_missed 18 = .ok (.i2l, 1) := by decide +kernel
theorem dX4_missed_19 : decode cX4_missed 19 = .ok (.lsub, 1) := by decide +kernel
theorem dX4_missed_20 : decode cX4_missed 20 = .ok (.lreturn, 1) := by decide +kernel
set_option maxRecDepth 20000 in
theorem ggX4_minutesToWeaken_X4_minutesToAge : GoodIn wsX4_minutesToWeaken wsX4_minutesToAge := goodIn_r _ [6, 7, 8, 9, 10, 11, 12, 13, 14, 15, 16, 17, 18, 19, 20, 21, 22, 23, 24] (by decide +kernel) (by decide +kernel)
set_option maxRecDepth 20000 in
theorem gX4_minutesToWeaken_X4_minutesToAge : GoodIn wsX4_minutesToWeaken (wsV RX4 63 RX4 yX4_minutesToAge wsX4_minutesToAge) := goodIn_app (goodIn_of _ (by decide +kernel)) ggX4_minutesToWeaken_X4_minutesToAge
theorem dX4_minutesToWeaken_0 : decode cX4_minutesToWeaken 0 = .ok (.aload_n 0, 1) := by decide +kernel
theorem dX4_minutesToWeaken_1 : decode cX4_minutesToWeaken 1 = .ok (.getfield 22, 3) := by decide +kernel
theorem dX4_minutesToWeaken_4 : decode cX4_minutesToWeaken 4 = .ok (.sipush 160, 3) := by decide +kernel
theorem dX4_minutesToWeaken_7 : decode cX4_minutesToWeaken 7 = .ok (.if_icmp .lt 8, 3) := by decide +kernel
theorem dX4_minutesToWeaken_10 : decode cX4_minutesToWeaken 10 = .ok (.bipush (-6), 2) := by decide +kernel
theorem dX4_minutesToWeaken_12 : decode cX4_minutesToWeaken 12 = .ok (.goto 8, 3) := by decide +kernel
theorem dX4_minutesToWeaken_15 : decode cX4_minutesToWeaken 15 = .ok (.aload_n 0, 1) := by decide +kernel
theorem dX4_minutesToWeaken_16 : decode cX4_minutesToWeaken 16 = .ok (.iload_n 1, 1) := by decide +kernel
theorem dX4_minutesToWeaken_17 : decode cX4_minutesToWeaken 17 = .ok (.invokevirtual 63, 3) := by decide +kernel
theorem dX4_minutesToWeaken_20 : decode cX4_minutesToWeaken 20 = .ok (.ireturn, 1) := by decide +kernel
theorem dX4_minutesToAge_0 : decode cX4_minutesToAge 0 = .ok (.iconst 1, 1) := by decide +kernel
theorem dX4_minutesToAge_1 : decode cX4_minutesToAge 1 = .ok (.iload_n 1, 1) := by decide +kernel
theorem dX4_minutesToAge_2 : decode cX4_minutesToAge 2 = .ok (.aload_n 0, 1) := by decide +kernel
theorem dX4_minutesToAge_3 : decode cX4_minutesToAge 3 = .ok (.getfield 25, 3) := by decide +kernel
theorem dX4_minutesToAge_6 : decode cX4_minutesToAge 6 = .ok (.isub, 1) := by decide +kernel
theorem dX4_minutesToAge_7 : decode cX4_minutesToAge 7 = .ok (.invokestatic 67, 3) := by decide +kernel
theorem dX4_minutesToAge_10 : decode cX4_minutesToAge 10 = .ok (.ireturn, 1) := by decide +kernel
set_option maxRecDepth 20000 in
theorem ggX4_run_X4_wayIn : GoodIn wsX4_run wsX4_wayIn := goodIn_r _ [15, 6, 16, 2, 7, 8, 9, 10, 17, 18, 19, 20, 21, 22, 23, 24, 25, 26, 27, 28, 29] (by decide +kernel) (by decide +kernel)
set_option maxRecDepth 20000 in
theorem gX4_run_X4_wayIn : GoodIn wsX4_run (wsV RX4 73 RX4 yX4_wayIn wsX4_wayIn) := goodIn_app (goodIn_of _ (by decide +kernel)) ggX4_run_X4_wayIn
theorem dX4_run_0 : decode cX4_run 0 = .ok (.aload_n 0, 1) := by decide +kernel
theorem dX4_run_1 : decode cX4_run 1 = .ok (.dup, 1) := by decide +kernel
theorem dX4_run_2 : decode cX4_run 2 = .ok (.getfield 40, 3) := by decide +kernel
theorem dX4_run_5 : decode cX4_run 5 = .ok (.iload_n 2, 1) := by decide +kernel
theorem dX4_run_6 : decode cX4_run 6 = .ok (.i2l, 1) := by decide +kernel
theorem dX4_run_7 : decode cX4_run 7 = .ok (.iload_n 1, 1) := by decide +kernel
theorem dX4_run_8 : decode cX4_run 8 = .ok (.i2l, 1) := by decide +kernel
theorem dX4_run_9 : decode cX4_run 9 = .ok (.lmul, 1) := by decide +kernel
theorem dX4_run_10 : decode cX4_run 10 = .ok (.ladd, 1) := by decide +kernel
theorem dX4_run_11 : decode cX4_run 11 = .ok (.putfield 40, 3) := by decide +kernel
theorem dX4_run_14 : decode cX4_run 14 = .ok (.aload_n 0, 1) := by decide +kernel
theorem dX4_run_15 : decode cX4_run 15 = .ok (.dup, 1) := by decide +kernel
theorem dX4_run_16 : decode cX4_run 16 = .ok (.getfield 19, 3) := by decide +kernel
theorem dX4_run_19 : decode cX4_run 19 = .ok (.aload_n 0, 1) := by decide +kernel
theorem dX4_run_20 : decode cX4_run 20 = .ok (.iload_n 1, 1) := by decide +kernel
theorem dX4_run_21 : decode cX4_run 21 = .ok (.iload_n 2, 1) := by decide +kernel
theorem dX4_run_22 : decode cX4_run 22 = .ok (.aload_n 3, 1) := by decide +kernel
theorem dX4_run_23 : decode cX4_run 23 = .ok (.invokevirtual 73, 3) := by decide +kernel
theorem dX4_run_26 : decode cX4_run 26 = .ok (.iadd, 1) := by decide +kernel
theorem dX4_run_27 : decode cX4_run 27 = .ok (.putfield 19, 3) := by decide +kernel
theorem dX4_run_30 : decode cX4_run 30 = .ok (.aload_n 0, 1) := by decide +kernel
theorem dX4_run_31 : decode cX4_run 31 = .ok (.getfield 19, 3) := by decide +kernel
theorem dX4_run_34 : decode cX4_run 34 = .ok (.sipush 6000, 3) := by decide +kernel
theorem dX4_run_37 : decode cX4_run 37 = .ok (.idiv, 1) := by decide +kernel
theorem dX4_run_38 : decode cX4_run 38 = .ok (.istore 5, 2) := by decide +kernel
theorem dX4_run_40 : decode cX4_run 40 = .ok (.aload_n 0, 1) := by decide +kernel
theorem dX4_run_41 : decode cX4_run 41 = .ok (.dup, 1) := by decide +kernel
theorem dX4_run_42 : decode cX4_run 42 = .ok (.getfield 19, 3) := by decide +kernel
theorem dX4_run_45 : decode cX4_run 45 = .ok (.iload 5, 2) := by decide +kernel
theorem dX4_run_47 : decode cX4_run 47 = .ok (.sipush 6000, 3) := by decide +kernel
theorem dX4_run_50 : decode cX4_run 50 = .ok (.imul, 1) := by decide +kernel
theorem dX4_run_51 : decode cX4_run 51 = .ok (.isub, 1) := by decide +kernel
theorem dX4_run_52 : decode cX4_run 52 = .ok (.putfield 19, 3) := by decide +kernel
theorem dX4_run_55 : decode cX4_run 55 = .ok (.iload 4, 2) := by decide +kernel
theorem dX4_run_57 : decode cX4_run 57 = .ok (.ifCond .eq 17, 3) := by decide +kernel
theorem dX4_run_60 : decode cX4_run 60 = .ok (.aload_n 0, 1) := by decide +kernel
theorem dX4_run_61 : decode cX4_run 61 = .ok (.dup, 1) := by decide +kernel
theorem dX4_run_62 : decode cX4_run 62 = .ok (.getfield 31, 3) := by decide +kernel
theorem dX4_run_65 : decode cX4_run 65 = .ok (.iload 5, 2) := by decide +kernel
theorem dX4_run_67 : decode cX4_run 67 = .ok (.iadd, 1) := by decide +kernel
theorem dX4_run_68 : decode cX4_run 68 = .ok (.putfield 31, 3) := by decide +kernel
theorem dX4_run_71 : decode cX4_run 71 = .ok (.goto 14, 3) := by decide +kernel
theorem dX4_run_74 : decode cX4_run 74 = .ok (.aload_n 0, 1) := by decide +kernel
theorem dX4_run_75 : decode cX4_run 75 = .ok (.dup, 1) := by decide +kernel
theorem dX4_run_76 : decode cX4_run 76 = .ok (.getfield 28, 3) := by decide +kernel
theorem dX4_run_79 : decode cX4_run 79 = .ok (.iload 5, 2) := by decide +kernel
theorem dX4_run_81 : decode cX4_run 81 = .ok (.iadd, 1) := by decide +kernel
theorem dX4_run_82 : decode cX4_run 82 = .ok (.putfield 28, 3) := by decide +kernel
theorem dX4_run_85 : decode cX4_run 85 = .ok (.aload_n 0, 1) := by decide +kernel
theorem dX4_run_86 : decode cX4_run 86 = .ok (.dup, 1) := by decide +kernel
theorem dX4_run_87 : decode cX4_run 87 = .ok (.getfield 25, 3) := by decide +kernel
theorem dX4_run_90 : decode cX4_run 90 = .ok (.iload_n 1, 1) := by decide +kernel
theorem dX4_run_91 : decode cX4_run 91 = .ok (.iadd, 1) := by decide +kernel
theorem dX4_run_92 : decode cX4_run 92 = .ok (.putfield 25, 3) := by decide +kernel
theorem dX4_run_95 : decode cX4_run 95 = .ok (.aload_n 0, 1) := by decide +kernel
theorem dX4_run_96 : decode cX4_run 96 = .ok (.getfield 25, 3) := by decide +kernel
theorem dX4_run_99 : decode cX4_run 99 = .ok (.aload_n 3, 1) := by decide +kernel
theorem dX4_run_100 : decode cX4_run 100 = .ok (.iconst 3, 1) := by decide +kernel
theorem dX4_run_101 : decode cX4_run 101 = .ok (.iaload, 1) := by decide +kernel
theorem dX4_run_102 : decode cX4_run 102 = .ok (.if_icmp .lt 24, 3) := by decide +kernel
theorem dX4_run_105 : decode cX4_run 105 = .ok (.aload_n 0, 1) := by decide +kernel
theorem dX4_run_106 : decode cX4_run 106 = .ok (.iconst 0, 1) := by decide +kernel
theorem dX4_run_107 : decode cX4_run 107 = .ok (.putfield 25, 3) := by decide +kernel
theorem dX4_run_110 : decode cX4_run 110 = .ok (.aload_n 0, 1) := by decide +kernel
theorem dX4_run_111 : decode cX4_run 111 = .ok (.sipush 160, 3) := by decide +kernel
theorem dX4_run_114 : decode cX4_run 114 = .ok (.aload_n 0, 1) := by decide +kernel
theorem dX4_run_115 : decode cX4_run 115 = .ok (.getfield 22, 3) := by decide +kernel
theorem dX4_run_118 : decode cX4_run 118 = .ok (.iconst 1, 1) := by decide +kernel
theorem dX4_run_119 : decode cX4_run 119 = .ok (.iadd, 1) := by decide +kernel
theorem dX4_run_120 : decode cX4_run 120 = .ok (.invokestatic 77, 3) := by decide +kernel
theorem dX4_run_123 : decode cX4_run 123 = .ok (.putfield 22, 3) := by decide +kernel
theorem dX4_run_126 : decode cX4_run 126 = .ok (.iload 5, 2) := by decide +kernel
theorem dX4_run_128 : decode cX4_run 128 = .ok (.ireturn, 1) := by decide +kernel
theorem dX4_wayIn_0 : decode cX4_wayIn 0 = .ok (.iload_n 2, 1) := by decide +kernel
theorem dX4_wayIn_1 : decode cX4_wayIn 1 = .ok (.aload_n 3, 1) := by decide +kernel
theorem dX4_wayIn_2 : decode cX4_wayIn 2 = .ok (.iconst 0, 1) := by decide +kernel
theorem dX4_wayIn_3 : decode cX4_wayIn 3 = .ok (.iaload, 1) := by decide +kernel
theorem dX4_wayIn_4 : decode cX4_wayIn 4 = .ok (.if_icmp .le 33, 3) := by decide +kernel
theorem dX4_wayIn_7 : decode cX4_wayIn 7 = .ok (.iload_n 2, 1) := by decide +kernel
theorem dX4_wayIn_8 : decode cX4_wayIn 8 = .ok (.aload_n 0, 1) := by decide +kernel
theorem dX4_wayIn_9 : decode cX4_wayIn 9 = .ok (.getfield 22, 3) := by decide +kernel
theorem dX4_wayIn_12 : decode cX4_wayIn 12 = .ok (.imul, 1) := by decide +kernel
theorem dX4_wayIn_13 : decode cX4_wayIn 13 = .ok (.bipush 100, 2) := by decide +kernel
theorem dX4_wayIn_15 : decode cX4_wayIn 15 = .ok (.idiv, 1) := by decide +kernel
theorem dX4_wayIn_16 : decode cX4_wayIn 16 = .ok (.istore 4, 2) := by decide +kernel
theorem dX4_wayIn_18 : decode cX4_wayIn 18 = .ok (.iload_n 1, 1) := by decide +kernel
theorem dX4_wayIn_19 : decode cX4_wayIn 19 = .ok (.aload_n 0, 1) := by decide +kernel
theorem dX4_wayIn_20 : decode cX4_wayIn 20 = .ok (.getfield 47, 3) := by decide +kernel
theorem dX4_wayIn_23 : decode cX4_wayIn 23 = .ok (.ifCond .eq 10, 3) := by decide +kernel
theorem dX4_wayIn_26 : decode cX4_wayIn 26 = .ok (.iload 4, 2) := by decide +kernel
theorem dX4_wayIn_28 : decode cX4_wayIn 28 = .ok (.iconst 2, 1) := by decide +kernel
theorem dX4_wayIn_29 : decode cX4_wayIn 29 = .ok (.idiv, 1) := by decide +kernel
theorem dX4_wayIn_30 : decode cX4_wayIn 30 = .ok (.goto 5, 3) := by decide +kernel
theorem dX4_wayIn_33 : decode cX4_wayIn 33 = .ok (.iload 4, 2) := by decide +kernel
theorem dX4_wayIn_35 : decode cX4_wayIn 35 = .ok (.imul, 1) := by decide +kernel
theorem dX4_wayIn_36 : decode cX4_wayIn 36 = .ok (.ireturn, 1) := by decide +kernel
theorem dX4_wayIn_37 : decode cX4_wayIn 37 = .ok (.iload_n 2, 1) := by decide +kernel
theorem dX4_wayIn_38 : decode cX4_wayIn 38 = .ok (.ifCond .gt 10, 3) := by decide +kernel
theorem dX4_wayIn_41 : decode cX4_wayIn 41 = .ok (.aload_n 0, 1) := by decide +kernel
theorem dX4_wayIn_42 : decode cX4_wayIn 42 = .ok (.getfield 47, 3) := by decide +kernel
theorem dX4_wayIn_45 : decode cX4_wayIn 45 = .ok (.ifCond .eq 5, 3) := by decide +kernel
theorem dX4_wayIn_48 : decode cX4_wayIn 48 = .ok (.iconst 0, 1) := by decide +kernel
theorem dX4_wayIn_49 : decode cX4_wayIn 49 = .ok (.ireturn, 1) := by decide +kernel
theorem dX4_wayIn_50 : decode cX4_wayIn 50 = .ok (.iload_n 1, 1) := by decide +kernel
theorem dX4_wayIn_51 : decode cX4_wayIn 51 = .ok (.aload_n 3, 1) := by decide +kernel
theorem dX4_wayIn_52 : decode cX4_wayIn 52 = .ok (.iconst 1, 1) := by decide +kernel
theorem dX4_wayIn_53 : decode cX4_wayIn 53 = .ok (.iaload, 1) := by decide +kernel
theorem dX4_wayIn_54 : decode cX4_wayIn 54 = .ok (.imul, 1) := by decide +kernel
theorem dX4_wayIn_55 : decode cX4_wayIn 55 = .ok (.istore 4, 2) := by decide +kernel
theorem dX4_wayIn_57 : decode cX4_wayIn 57 = .ok (.aload_n 3, 1) := by decide +kernel
theorem dX4_wayIn_58 : decode cX4_wayIn 58 = .ok (.iconst 2, 1) := by decide +kernel
theorem dX4_wayIn_59 : decode cX4_wayIn 59 = .ok (.iaload, 1) := by decide +kernel
theorem dX4_wayIn_60 : decode cX4_wayIn 60 = .ok (.ifCond .ne 6, 3) := by decide +kernel
theorem dX4_wayIn_63 : decode cX4_wayIn 63 = .ok (.iload 4, 2) := by decide +kernel
theorem dX4_wayIn_65 : decode cX4_wayIn 65 = .ok (.ireturn, 1) := by decide +kernel
theorem dX4_wayIn_66 : decode cX4_wayIn 66 = .ok (.aload_n 0, 1) := by decide +kernel
theorem dX4_wayIn_67 : decode cX4_wayIn 67 = .ok (.getfield 19, 3) := by decide +kernel
theorem dX4_wayIn_70 : decode cX4_wayIn 70 = .ok (.ifCond .ne 7, 3) := by decide +kernel
theorem dX4_wayIn_73 : decode cX4_wayIn 73 = .ok (.iconst 0, 1) := by decide +kernel
theorem dX4_wayIn_74 : decode cX4_wayIn 74 = .ok (.goto 16, 3) := by decide +kernel
theorem dX4_wayIn_77 : decode cX4_wayIn 77 = .ok (.iload 4, 2) := by decide +kernel
theorem dX4_wayIn_79 : decode cX4_wayIn 79 = .ok (.sipush 6000, 3) := by decide +kernel
theorem dX4_wayIn_82 : decode cX4_wayIn 82 = .ok (.aload_n 0, 1) := by decide +kernel
theorem dX4_wayIn_83 : decode cX4_wayIn 83 = .ok (.getfield 19, 3) := by decide +kernel
theorem dX4_wayIn_86 : decode cX4_wayIn 86 = .ok (.isub, 1) := by decide +kernel
theorem dX4_wayIn_87 : decode cX4_wayIn 87 = .ok (.invokestatic 77, 3) := by decide +kernel
theorem dX4_wayIn_90 : decode cX4_wayIn 90 = .ok (.ireturn, 1) := by decide +kernel
theorem dX4_settleBill_0 : decode cX4_settleBill 0 = .ok (.aload_n 0, 1) := by decide +kernel
theorem dX4_settleBill_1 : decode cX4_settleBill 1 = .ok (.dup, 1) := by decide +kernel
theorem dX4_settleBill_2 : decode cX4_settleBill 2 = .ok (.getfield 51, 3) := by decide +kernel
theorem dX4_settleBill_5 : decode cX4_settleBill 5 = .ok (.iload_n 1, 1) := by decide +kernel
theorem dX4_settleBill_6 : decode cX4_settleBill 6 = .ok (.iadd, 1) := by decide +kernel
theorem dX4_settleBill_7 : decode cX4_settleBill 7 = .ok (.putfield 51, 3) := by decide +kernel
theorem dX4_settleBill_10 : decode cX4_settleBill 10 = .ok (.aload_n 0, 1) := by decide +kernel
theorem dX4_settleBill_11 : decode cX4_settleBill 11 = .ok (.aload_n 0, 1) := by decide +kernel
theorem dX4_settleBill_12 : decode cX4_settleBill 12 = .ok (.getfield 28, 3) := by decide +kernel
theorem dX4_settleBill_15 : decode cX4_settleBill 15 = .ok (.putfield 34, 3) := by decide +kernel
theorem dX4_settleBill_18 : decode cX4_settleBill 18 = .ok (.aload_n 0, 1) := by decide +kernel
theorem dX4_settleBill_19 : decode cX4_settleBill 19 = .ok (.aload_n 0, 1) := by decide +kernel
theorem dX4_settleBill_20 : decode cX4_settleBill 20 = .ok (.getfield 31, 3) := by decide +kernel
theorem dX4_settleBill_23 : decode cX4_settleBill 23 = .ok (.putfield 37, 3) := by decide +kernel
theorem dX4_settleBill_26 : decode cX4_settleBill 26 = .ok (.aload_n 0, 1) := by decide +kernel
theorem dX4_settleBill_27 : decode cX4_settleBill 27 = .ok (.dup, 1) := by decide +kernel
theorem dX4_settleBill_28 : decode cX4_settleBill 28 = .ok (.getfield 54, 3) := by decide +kernel
theorem dX4_settleBill_31 : decode cX4_settleBill 31 = .ok (.iconst 1, 1) := by decide +kernel
theorem dX4_settleBill_32 : decode cX4_settleBill 32 = .ok (.iadd, 1) := by decide +kernel
theorem dX4_settleBill_33 : decode cX4_settleBill 33 = .ok (.putfield 54, 3) := by decide +kernel
theorem dX4_settleBill_36 : decode cX4_settleBill 36 = .ok (.aload_n 0, 1) := by decide +kernel
theorem dX4_settleBill_37 : decode cX4_settleBill 37 = .ok (.bipush 100, 2) := by decide +kernel
theorem dX4_settleBill_39 : decode cX4_settleBill 39 = .ok (.putfield 22, 3) := by decide +kernel
theorem dX4_settleBill_42 : decode cX4_settleBill 42 = .ok (.aload_n 0, 1) := by decide +kernel
theorem dX4_settleBill_43 : decode cX4_settleBill 43 = .ok (.iconst 0, 1) := by decide +kernel
theorem dX4_settleBill_44 : decode cX4_settleBill 44 = .ok (.putfield 25, 3) := by decide +kernel
theorem dX4_settleBill_47 : decode cX4_settleBill 47 = .ok (.return_, 1) := by decide +kernel
theorem dX4_mend_0 : decode cX4_mend 0 = .ok (.aload_n 0, 1) := by decide +kernel
theorem dX4_mend_1 : decode cX4_mend 1 = .ok (.iconst 0, 1) := by decide +kernel
theorem dX4_mend_2 : decode cX4_mend 2 = .ok (.putfield 47, 3) := by decide +kernel
theorem dX4_mend_5 : decode cX4_mend 5 = .ok (.aload_n 0, 1) := by decide +kernel
theorem dX4_mend_6 : decode cX4_mend 6 = .ok (.iload_n 1, 1) := by decide +kernel
theorem dX4_mend_7 : decode cX4_mend 7 = .ok (.putfield 44, 3) := by decide +kernel
theorem dX4_mend_10 : decode cX4_mend 10 = .ok (.return_, 1) := by decide +kernel
theorem dX5_init_0 : decode cX5_init 0 = .ok (.aload_n 0, 1) := by decide +kernel
theorem dX5_init_1 : decode cX5_init 1 = .ok (.invokespecial 3, 3) := by decide +kernel
theorem dX5_init_4 : decode cX5_init 4 = .ok (.aload_n 0, 1) := by decide +kernel
theorem dX5_init_5 : decode cX5_init 5 = .ok (.bipush 80, 2) := by decide +kernel
theorem dX5_init_7 : decode cX5_init 7 = .ok (.newarray .char, 2) := by decide +kernel
theorem dX5_init_9 : decode cX5_init 9 = .ok (.putfield 9, 3) := by decide +kernel
theorem dX5_init_12 : decode cX5_init 12 = .ok (.aload_n 0, 1) := by decide +kernel
theorem dX5_init_13 : decode cX5_init 13 = .ok (.iconst 0, 1) := by decide +kernel
theorem dX5_init_14 : decode cX5_init 14 = .ok (.putfield 15, 3) := by decide +kernel
theorem dX5_init_17 : decode cX5_init 17 = .ok (.return_, 1) := by decide +kernel
theorem dX5_clear_0 : decode cX5_clear 0 = .ok (.aload_n 0, 1) := by decide +kernel
theorem dX5_clear_1 : decode cX5_clear 1 = .ok (.iconst 0, 1) := by decide +kernel
theorem dX5_clear_2 : decode cX5_clear 2 = .ok (.putfield 15, 3) := by decide +kernel
theorem dX5_clear_5 : decode cX5_clear 5 = .ok (.return_, 1) := by decide +kernel
theorem dX5_signAt_0 : decode cX5_signAt 0 = .ok (.iload_n 1, 1) := by decide +kernel
theorem dX5_signAt_1 : decode cX5_signAt 1 = .ok (.ifCond .lt 20, 3) := by decide +kernel
theorem dX5_signAt_4 : decode cX5_signAt 4 = .ok (.iload_n 1, 1) := by decide +kernel
theorem dX5_signAt_5 : decode cX5_signAt 5 = .ok (.aload_n 0, 1) := by decide +kernel
theorem dX5_signAt_6 : decode cX5_signAt 6 = .ok (.getfield 15, 3) := by decide +kernel
theorem dX5_signAt_9 : decode cX5_signAt 9 = .ok (.if_icmp .ge 12, 3) := by decide +kernel
theorem dX5_signAt_12 : decode cX5_signAt 12 = .ok (.aload_n 0, 1) := by decide +kernel
theorem dX5_signAt_13 : decode cX5_signAt 13 = .ok (.getfield 9, 3) := by decide +kernel
theorem dX5_signAt_16 : decode cX5_signAt 16 = .ok (.iload_n 1, 1) := by decide +kernel
theorem dX5_signAt_17 : decode cX5_signAt 17 = .ok (.caload, 1) := by decide +kernel
theorem dX5_signAt_18 : decode cX5_signAt 18 = .ok (.goto 4, 3) := by decide +kernel
theorem dX5_signAt_21 : decode cX5_signAt 21 = .ok (.iconst (-1), 1) := by decide +kernel
theorem dX5_signAt_22 : decode cX5_signAt 22 = .ok (.ireturn, 1) := by decide +kernel
theorem dX5_append_0 : decode cX5_append 0 = .ok (.aload_n 0, 1) := by decide +kernel
theorem dX5_append_1 : decode cX5_append 1 = .ok (.getfield 15, 3) := by decide +kernel
theorem dX5_append_4 : decode cX5_append 4 = .ok (.bipush 80, 2) := by decide +kernel
theorem dX5_append_6 : decode cX5_append 6 = .ok (.if_icmp .ge 23, 3) := by decide +kernel
theorem dX5_append_9 : decode cX5_append 9 = .ok (.aload_n 0, 1) := by decide +kernel
theorem dX5_append_10 : decode cX5_append 10 = .ok (.getfield 9, 3) := by decide +kernel
theorem dX5_append_13 : decode cX5_append 13 = .ok (.aload_n 0, 1) := by decide +kernel
theorem dX5_append_14 : decode cX5_append 14 = .ok (.getfield 15, 3) := by decide +kernel
theorem dX5_append_17 : decode cX5_append 17 = .ok (.iload_n 1, 1) := by decide +kernel
theorem dX5_append_18 : decode cX5_append 18 = .ok (.castore, 1) := by decide +kernel
theorem dX5_append_19 : decode cX5_append 19 = .ok (.aload_n 0, 1) := by decide +kernel
theorem dX5_append_20 : decode cX5_append 20 = .ok (.dup, 1) := by decide +kernel
theorem dX5_append_21 : decode cX5_append 21 = .ok (.getfield 15, 3) := by decide +kernel
theorem dX5_append_24 : decode cX5_append 24 = .ok (.iconst 1, 1) := by decide +kernel
theorem dX5_append_25 : decode cX5_append 25 = .ok (.iadd, 1) := by decide +kernel
theorem dX5_append_26 : decode cX5_append 26 = .ok (.putfield 15, 3) := by decide +kernel
theorem dX5_append_29 : decode cX5_append 29 = .ok (.return_, 1) := by decide +kernel
theorem dX5_appendNumber_0 : decode cX5_appendNumber 0 = .ok (.iconst 1, 1) := by decide +kernel
theorem dX5_appendNumber_1 : decode cX5_appendNumber 1 = .ok (.istore_n 2, 1) := by decide +kernel
theorem dX5_appendNumber_2 : decode cX5_appendNumber 2 = .ok (.iload_n 1, 1) := by decide +kernel
theorem dX5_appendNumber_3 : decode cX5_appendNumber 3 = .ok (.bipush 10, 2) := by decide +kernel
theorem dX5_appendNumber_5 : decode cX5_appendNumber 5 = .ok (.idiv, 1) := by decide +kernel
theorem dX5_appendNumber_6 : decode cX5_appendNumber 6 = .ok (.istore_n 3, 1) := by decide +kernel
theorem dX5_appendNumber_7 : decode cX5_appendNumber 7 = .ok (.iload_n 3, 1) := by decide +kernel
theorem dX5_appendNumber_8 : decode cX5_appendNumber 8 = .ok (.ifCond .le 14, 3) := by decide +kernel
theorem dX5_appendNumber_11 : decode cX5_appendNumber 11 = .ok (.iinc 2 1, 3) := by decide +kernel
theorem dX5_appendNumber_14 : decode cX5_appendNumber 14 = .ok (.iload_n 3, 1) := by decide +kernel
theorem dX5_appendNumber_15 : decode cX5_appendNumber 15 = .ok (.bipush 10, 2) := by decide +kernel
theorem dX5_appendNumber_17 : decode cX5_appendNumber 17 = .ok (.idiv, 1) := by decide +kernel
theorem dX5_appendNumber_18 : decode cX5_appendNumber 18 = .ok (.istore_n 3, 1) := by decide +kernel
theorem dX5_appendNumber_19 : decode cX5_appendNumber 19 = .ok (.goto (-12), 3) := by decide +kernel
theorem dX5_appendNumber_22 : decode cX5_appendNumber 22 = .ok (.aload_n 0, 1) := by decide +kernel
theorem dX5_appendNumber_23 : decode cX5_appendNumber 23 = .ok (.getfield 15, 3) := by decide +kernel
theorem dX5_appendNumber_26 : decode cX5_appendNumber 26 = .ok (.iload_n 2, 1) := by decide +kernel
theorem dX5_appendNumber_27 : decode cX5_appendNumber 27 = .ok (.iadd, 1) := by decide +kernel
theorem dX5_appendNumber_28 : decode cX5_appendNumber 28 = .ok (.bipush 80, 2) := by decide +kernel
theorem dX5_appendNumber_30 : decode cX5_appendNumber 30 = .ok (.if_icmp .le 4, 3) := by decide +kernel
theorem dX5_appendNumber_33 : decode cX5_appendNumber 33 = .ok (.return_, 1) := by decide +kernel
theorem dX5_appendNumber_34 : decode cX5_appendNumber 34 = .ok (.iload_n 1, 1) := by decide +kernel
theorem dX5_appendNumber_35 : decode cX5_appendNumber 35 = .ok (.istore_n 3, 1) := by decide +kernel
theorem dX5_appendNumber_36 : decode cX5_appendNumber 36 = .ok (.aload_n 0, 1) := by decide +kernel
theorem dX5_appendNumber_37 : decode cX5_appendNumber 37 = .ok (.getfield 15, 3) := by decide +kernel
theorem dX5_appendNumber_40 : decode cX5_appendNumber 40 = .ok (.iload_n 2, 1) := by decide +kernel
theorem dX5_appendNumber_41 : decode cX5_appendNumber 41 = .ok (.iadd, 1) := by decide +kernel
theorem dX5_appendNumber_42 : decode cX5_appendNumber 42 = .ok (.iconst 1, 1) := by decide +kernel
theorem dX5_appendNumber_43 : decode cX5_appendNumber 43 = .ok (.isub, 1) := by decide +kernel
theorem dX5_appendNumber_44 : decode cX5_appendNumber 44 = .ok (.istore 4, 2) := by decide +kernel
theorem dX5_appendNumber_46 : decode cX5_appendNumber 46 = .ok (.iload 4, 2) := by decide +kernel
theorem dX5_appendNumber_48 : decode cX5_appendNumber 48 = .ok (.aload_n 0, 1) := by decide +kernel
theorem dX5_appendNumber_49 : decode cX5_appendNumber 49 = .ok (.getfield 15, 3) := by decide +kernel
theorem dX5_appendNumber_52 : decode cX5_appendNumber 52 = .ok (.if_icmp .lt 29, 3) := by decide +kernel
theorem dX5_appendNumber_55 : decode cX5_appendNumber 55 = .ok (.aload_n 0, 1) := by decide +kernel
theorem dX5_appendNumber_56 : decode cX5_appendNumber 56 = .ok (.getfield 9, 3) := by decide +kernel
theorem dX5_appendNumber_59 : decode cX5_appendNumber 59 = .ok (.iload 4, 2) := by decide +kernel
theorem dX5_appendNumber_61 : decode cX5_appendNumber 61 = .ok (.bipush 48, 2) := by decide +kernel
theorem dX5_appendNumber_63 : decode cX5_appendNumber 63 = .ok (.iload_n 3, 1) := by decide +kernel
theorem dX5_appendNumber_64 : decode cX5_appendNumber 64 = .ok (.bipush 10, 2) := by decide +kernel
theorem dX5_appendNumber_66 : decode cX5_appendNumber 66 = .ok (.irem, 1) := by decide +kernel
theorem dX5_appendNumber_67 : decode cX5_appendNumber 67 = .ok (.iadd, 1) := by decide +kernel
theorem dX5_appendNumber_68 : decode cX5_appendNumber 68 = .ok (.i2c, 1) := by decide +kernel
theorem dX5_appendNumber_69 : decode cX5_appendNumber 69 = .ok (.castore, 1) := by decide +kernel
theorem dX5_appendNumber_70 : decode cX5_appendNumber 70 = .ok (.iload_n 3, 1) := by decide +kernel
theorem dX5_appendNumber_71 : decode cX5_appendNumber 71 = .ok (.bipush 10, 2) := by decide +kernel
theorem dX5_appendNumber_73 : decode cX5_appendNumber 73 = .ok (.idiv, 1) := by decide +kernel
theorem dX5_appendNumber_74 : decode cX5_appendNumber 74 = .ok (.istore_n 3, 1) := by decide +kernel
theorem dX5_appendNumber_75 : decode cX5_appendNumber 75 = .ok (.iinc 4 (-1), 3) := by decide +kernel
theorem dX5_appendNumber_78 : decode cX5_appendNumber 78 = .ok (.goto (-32), 3) := by decide +kernel
theorem dX5_appendNumber_81 : decode cX5_appendNumber 81 = .ok (.aload_n 0, 1) := by decide +kernel
theorem dX5_appendNumber_82 : decode cX5_appendNumber 82 = .ok (.dup, 1) := by decide +kernel
theorem dX5_appendNumber_83 : decode cX5_appendNumber 83 = .ok (.getfield 15, 3) := by decide +kernel
theorem dX5_appendNumber_86 : decode cX5_appendNumber 86 = .ok (.iload_n 2, 1) := by decide +kernel
theorem dX5_appendNumber_87 : decode cX5_appendNumber 87 = .ok (.iadd, 1) := by decide +kernel
theorem dX5_appendNumber_88 : decode cX5_appendNumber 88 = .ok (.putfield 15, 3) := by decide +kernel
theorem dX5_appendNumber_91 : decode cX5_appendNumber 91 = .ok (.return_, 1) := by decide +kernel
theorem dJ9_max_7cf53_0 : decode cJ9_max_7cf53 0 = .ok (.iload_n 0, 1) := by decide +kernel
theorem dJ9_max_7cf53_1 : decode cJ9_max_7cf53 1 = .ok (.iload_n 1, 1) := by decide +kernel
theorem dJ9_max_7cf53_2 : decode cJ9_max_7cf53 2 = .ok (.if_icmp .lt 7, 3) := by decide +kernel
theorem dJ9_max_7cf53_5 : decode cJ9_max_7cf53 5 = .ok (.iload_n 0, 1) := by decide +kernel
theorem dJ9_max_7cf53_6 : decode cJ9_max_7cf53 6 = .ok (.goto 4, 3) := by decide +kernel
theorem dJ9_max_7cf53_9 : decode cJ9_max_7cf53 9 = .ok (.iload_n 1, 1) := by decide +kernel
theorem dJ9_max_7cf53_10 : decode cJ9_max_7cf53 10 = .ok (.ireturn, 1) := by decide +kernel
theorem dJ9_min_7cf53_0 : decode cJ9_min_7cf53 0 = .ok (.iload_n 0, 1) := by decide +kernel
theorem dJ9_min_7cf53_1 : decode cJ9_min_7cf53 1 = .ok (.iload_n 1, 1) := by decide +kernel
theorem dJ9_min_7cf53_2 : decode cJ9_min_7cf53 2 = .ok (.if_icmp .gt 7, 3) := by decide +kernel
theorem dJ9_min_7cf53_5 : decode cJ9_min_7cf53 5 = .ok (.iload_n 0, 1) := by decide +kernel
theorem dJ9_min_7cf53_6 : decode cJ9_min_7cf53 6 = .ok (.goto 4, 3) := by decide +kernel
theorem dJ9_min_7cf53_9 : decode cJ9_min_7cf53 9 = .ok (.iload_n 1, 1) := by decide +kernel
theorem dJ9_min_7cf53_10 : decode cJ9_min_7cf53 10 = .ok (.ireturn, 1) := by decide +kernel
