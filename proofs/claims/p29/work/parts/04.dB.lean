set_option maxRecDepth 20000 in
theorem ggX6_init_X2_init : GoodIn wsX6_init wsX2_init := goodIn_r _ [25, 26, 2, 3, 27, 28, 29, 30, 31, 32, 9, 10, 33, 34, 35, 36, 37, 38, 39, 40, 41, 42, 43, 44, 45, 46, 47, 48, 49, 50, 51, 52, 53, 54, 55, 56, 57, 58, 59, 60, 61, 62, 63, 64, 65, 66, 84, 85, 86, 87, 88, 89, 90, 97, 98, 99, 100, 101, 102, 103, 104, 105, 106, 107, 108, 109, 115, 116, 117] (by decide +kernel) (by decide +kernel)
set_option maxRecDepth 20000 in
theorem gX6_init_X2_init : GoodIn wsX6_init (wsX2_init) := ggX6_init_X2_init
set_option maxRecDepth 20000 in
theorem ggX6_init_X4_init : GoodIn wsX6_init wsX4_init := goodIn_r _ [37, 38, 2, 3, 39, 40, 41, 10, 42, 43, 44, 45, 46, 47, 48, 49, 50, 51, 52, 53, 54, 55, 97, 98, 99, 100, 101, 102, 103, 104, 105, 106, 107, 108, 109] (by decide +kernel) (by decide +kernel)
set_option maxRecDepth 20000 in
theorem gX6_init_X4_init : GoodIn wsX6_init (wsX4_init) := ggX6_init_X4_init
set_option maxRecDepth 20000 in
theorem ggX6_init_X5_init : GoodIn wsX6_init wsX5_init := goodIn_r _ [70, 71, 2, 3, 72, 73, 74, 110, 111] (by decide +kernel) (by decide +kernel)
set_option maxRecDepth 20000 in
theorem gX6_init_X5_init : GoodIn wsX6_init (wsX5_init) := ggX6_init_X5_init
set_option maxRecDepth 20000 in
theorem ggX6_init_X1_init : GoodIn wsX6_init wsX1_init := goodIn_r _ [77, 78, 2, 3, 79, 80, 5, 6, 81, 82, 83, 24, 25, 26, 27, 28, 29, 30, 31, 32, 9, 10, 33, 34, 35, 36, 37, 38, 39, 40, 41, 42, 43, 44, 45, 46, 47, 48, 49, 50, 51, 52, 53, 54, 55, 56, 57, 58, 59, 60, 61, 62, 63, 64, 65, 66, 112, 113, 114, 84, 85, 86, 87, 88, 89, 90, 97, 98, 99, 100, 101, 102, 103, 104, 105, 106, 107, 108, 109, 115, 116, 117] (by decide +kernel) (by decide +kernel)
set_option maxRecDepth 20000 in
theorem gX6_init_X1_init : GoodIn wsX6_init (wsX1_init) := ggX6_init_X1_init
theorem dX6_init_0 : decode cX6_init 0 = .ok (.aload_n 0, 1) := by decide +kernel
theorem dX6_init_1 : decode cX6_init 1 = .ok (.invokespecial 1, 3) := by decide +kernel
theorem dX6_init_4 : decode cX6_init 4 = .ok (.aload_n 0, 1) := by decide +kernel
theorem dX6_init_5 : decode cX6_init 5 = .ok (.new 7, 3) := by decide +kernel
theorem dX6_init_8 : decode cX6_init 8 = .ok (.dup, 1) := by decide +kernel
theorem dX6_init_9 : decode cX6_init 9 = .ok (.invokespecial 9, 3) := by decide +kernel
theorem dX6_init_12 : decode cX6_init 12 = .ok (.putfield 10, 3) := by decide +kernel
theorem dX6_init_15 : decode cX6_init 15 = .ok (.aload_n 0, 1) := by decide +kernel
theorem dX6_init_16 : decode cX6_init 16 = .ok (.new 16, 3) := by decide +kernel
theorem dX6_init_19 : decode cX6_init 19 = .ok (.dup, 1) := by decide +kernel
theorem dX6_init_20 : decode cX6_init 20 = .ok (.invokespecial 18, 3) := by decide +kernel
theorem dX6_init_23 : decode cX6_init 23 = .ok (.putfield 19, 3) := by decide +kernel
theorem dX6_init_26 : decode cX6_init 26 = .ok (.aload_n 0, 1) := by decide +kernel
theorem dX6_init_27 : decode cX6_init 27 = .ok (.new 23, 3) := by decide +kernel
theorem dX6_init_30 : decode cX6_init 30 = .ok (.dup, 1) := by decide +kernel
theorem dX6_init_31 : decode cX6_init 31 = .ok (.invokespecial 25, 3) := by decide +kernel
theorem dX6_init_34 : decode cX6_init 34 = .ok (.putfield 26, 3) := by decide +kernel
theorem dX6_init_37 : decode cX6_init 37 = .ok (.aload_n 0, 1) := by decide +kernel
theorem dX6_init_38 : decode cX6_init 38 = .ok (.new 30, 3) := by decide +kernel
theorem dX6_init_41 : decode cX6_init 41 = .ok (.dup, 1) := by decide +kernel
theorem dX6_init_42 : decode cX6_init 42 = .ok (.invokespecial 32, 3) := by decide +kernel
theorem dX6_init_45 : decode cX6_init 45 = .ok (.putfield 33, 3) := by decide +kernel
theorem dX6_init_48 : decode cX6_init 48 = .ok (.aload_n 0, 1) := by decide +kernel
theorem dX6_init_49 : decode cX6_init 49 = .ok (.iconst 2, 1) := by decide +kernel
theorem dX6_init_50 : decode cX6_init 50 = .ok (.anewarray 7, 3) := by decide +kernel
theorem dX6_init_53 : decode cX6_init 53 = .ok (.putfield 37, 3) := by decide +kernel
theorem dX6_init_56 : decode cX6_init 56 = .ok (.aload_n 0, 1) := by decide +kernel
theorem dX6_init_57 : decode cX6_init 57 = .ok (.iconst 2, 1) := by decide +kernel
theorem dX6_init_58 : decode cX6_init 58 = .ok (.newarray .boolean, 2) := by decide +kernel
theorem dX6_init_60 : decode cX6_init 60 = .ok (.putfield 41, 3) := by decide +kernel
theorem dX6_init_63 : decode cX6_init 63 = .ok (.iconst 0, 1) := by decide +kernel
theorem dX6_init_64 : decode cX6_init 64 = .ok (.istore_n 1, 1) := by decide +kernel
theorem dX6_init_65 : decode cX6_init 65 = .ok (.iload_n 1, 1) := by decide +kernel
theorem dX6_init_66 : decode cX6_init 66 = .ok (.iconst 2, 1) := by decide +kernel
theorem dX6_init_67 : decode cX6_init 67 = .ok (.if_icmp .ge 22, 3) := by decide +kernel
theorem dX6_init_70 : decode cX6_init 70 = .ok (.aload_n 0, 1) := by decide +kernel
theorem dX6_init_71 : decode cX6_init 71 = .ok (.getfield 37, 3) := by decide +kernel
theorem dX6_init_74 : decode cX6_init 74 = .ok (.iload_n 1, 1) := by decide +kernel
theorem dX6_init_75 : decode cX6_init 75 = .ok (.new 7, 3) := by decide +kernel
theorem dX6_init_78 : decode cX6_init 78 = .ok (.dup, 1) := by decide +kernel
theorem dX6_init_79 : decode cX6_init 79 = .ok (.invokespecial 9, 3) := by decide +kernel
theorem dX6_init_82 : decode cX6_init 82 = .ok (.aastore, 1) := by decide +kernel
theorem dX6_init_83 : decode cX6_init 83 = .ok (.iinc 1 1, 3) := by decide +kernel
theorem dX6_init_86 : decode cX6_init 86 = .ok (.goto (-21), 3) := by decide +kernel
theorem dX6_init_89 : decode cX6_init 89 = .ok (.return_, 1) := by decide +kernel
set_option maxRecDepth 20000 in
theorem ggX6_set_X1_prepare : GoodIn wsX6_set wsX1_prepare := goodIn_r _ [7, 8, 9, 10, 11, 12, 13, 14, 15, 16, 17, 18, 19, 20, 21, 22, 23, 24, 25, 26, 27, 28, 29, 30, 31, 32, 33, 34, 35, 36, 37, 38, 39, 40, 41, 42, 43, 44, 45, 46, 47, 67, 68, 69, 70, 71, 72, 73, 74, 75, 76, 77, 78, 79, 80, 81, 82, 83, 84, 85, 86, 87, 88, 89, 90, 91, 92] (by decide +kernel) (by decide +kernel)
set_option maxRecDepth 20000 in
theorem gX6_set_X1_prepare : GoodIn wsX6_set (wsV RX6 45 RX1 yX1_prepare wsX1_prepare) := goodIn_app (goodIn_of _ (by decide +kernel)) ggX6_set_X1_prepare
set_option maxRecDepth 20000 in
theorem ggX6_set_X2_changeSetting : GoodIn wsX6_set wsX2_changeSetting := goodIn_r _ [51, 15, 70, 71, 72, 73, 74, 75, 76] (by decide +kernel) (by decide +kernel)
set_option maxRecDepth 20000 in
theorem gX6_set_X2_changeSetting : GoodIn wsX6_set (wsV RX6 49 RX2 yX2_changeSetting wsX2_changeSetting) := goodIn_app (goodIn_of _ (by decide +kernel)) ggX6_set_X2_changeSetting
set_option maxRecDepth 20000 in
theorem ggX6_set_X1_settle : GoodIn wsX6_set wsX1_settle := goodIn_r _ [55, 9, 56, 57, 58, 59, 60, 67, 68, 69] (by decide +kernel) (by decide +kernel)
set_option maxRecDepth 20000 in
theorem gX6_set_X1_settle : GoodIn wsX6_set (wsV RX6 53 RX1 yX1_settle wsX1_settle) := goodIn_app (goodIn_of _ (by decide +kernel)) ggX6_set_X1_settle
theorem dX6_set_0 : decode cX6_set 0 = .ok (.aload_n 0, 1) := by decide +kernel
theorem dX6_set_1 : decode cX6_set 1 = .ok (.getfield 33, 3) := by decide +kernel
theorem dX6_set_4 : decode cX6_set 4 = .ok (.aload_n 0, 1) := by decide +kernel
theorem dX6_set_5 : decode cX6_set 5 = .ok (.getfield 10, 3) := by decide +kernel
theorem dX6_set_8 : decode cX6_set 8 = .ok (.invokevirtual 45, 3) := by decide +kernel
theorem dX6_set_11 : decode cX6_set 11 = .ok (.aload_n 0, 1) := by decide +kernel
theorem dX6_set_12 : decode cX6_set 12 = .ok (.getfield 33, 3) := by decide +kernel
theorem dX6_set_15 : decode cX6_set 15 = .ok (.aload_n 0, 1) := by decide +kernel
theorem dX6_set_16 : decode cX6_set 16 = .ok (.getfield 10, 3) := by decide +kernel
theorem dX6_set_19 : decode cX6_set 19 = .ok (.iload_n 1, 1) := by decide +kernel
theorem dX6_set_20 : decode cX6_set 20 = .ok (.iload_n 2, 1) := by decide +kernel
theorem dX6_set_21 : decode cX6_set 21 = .ok (.invokevirtual 49, 3) := by decide +kernel
theorem dX6_set_24 : decode cX6_set 24 = .ok (.invokevirtual 53, 3) := by decide +kernel
theorem dX6_set_27 : decode cX6_set 27 = .ok (.ireturn, 1) := by decide +kernel
set_option maxRecDepth 20000 in
theorem ggX6_meter_X1_prepare : GoodIn wsX6_meter wsX1_prepare := goodIn_r _ [7, 8, 9, 10, 11, 12, 13, 14, 15, 16, 17, 18, 19, 20, 21, 22, 23, 24, 25, 26, 27, 28, 29, 30, 31, 32, 33, 34, 35, 36, 37, 38, 39, 40, 41, 42, 43, 44, 45, 46, 47, 75, 76, 77, 78, 79, 80, 81, 82, 83, 84, 85, 86, 87, 88, 89, 90, 91, 92, 93, 94, 95, 96, 97, 98, 99, 100] (by decide +kernel) (by decide +kernel)
set_option maxRecDepth 20000 in
theorem gX6_meter_X1_prepare : GoodIn wsX6_meter (wsV RX6 45 RX1 yX1_prepare wsX1_prepare) := goodIn_app (goodIn_of _ (by decide +kernel)) ggX6_meter_X1_prepare
set_option maxRecDepth 20000 in
theorem ggX6_meter_X2_addMeter : GoodIn wsX6_meter wsX2_addMeter := goodIn_r _ [51, 16, 21, 17, 52, 53, 54, 13, 55, 56, 57, 58, 25, 59, 27, 28, 29, 30, 31, 32, 33, 34, 35, 36, 37, 38, 39, 78, 79, 80, 81, 82, 83, 84, 85, 86, 87, 88, 89, 90, 91, 92, 93, 94, 95, 96, 97] (by decide +kernel) (by decide +kernel)
set_option maxRecDepth 20000 in
theorem gX6_meter_X2_addMeter : GoodIn wsX6_meter (wsV RX6 57 RX2 yX2_addMeter wsX2_addMeter) := goodIn_app (goodIn_of _ (by decide +kernel)) ggX6_meter_X2_addMeter
set_option maxRecDepth 20000 in
theorem ggX6_meter_X1_settle : GoodIn wsX6_meter wsX1_settle := goodIn_r _ [63, 9, 64, 65, 66, 67, 68, 75, 76, 77] (by decide +kernel) (by decide +kernel)
set_option maxRecDepth 20000 in
theorem gX6_meter_X1_settle : GoodIn wsX6_meter (wsV RX6 53 RX1 yX1_settle wsX1_settle) := goodIn_app (goodIn_of _ (by decide +kernel)) ggX6_meter_X1_settle
theorem dX6_meter_0 : decode cX6_meter 0 = .ok (.aload_n 0, 1) := by decide +kernel
theorem dX6_meter_1 : decode cX6_meter 1 = .ok (.getfield 33, 3) := by decide +kernel
theorem dX6_meter_4 : decode cX6_meter 4 = .ok (.aload_n 0, 1) := by decide +kernel
theorem dX6_meter_5 : decode cX6_meter 5 = .ok (.getfield 10, 3) := by decide +kernel
theorem dX6_meter_8 : decode cX6_meter 8 = .ok (.invokevirtual 45, 3) := by decide +kernel
theorem dX6_meter_11 : decode cX6_meter 11 = .ok (.aload_n 0, 1) := by decide +kernel
theorem dX6_meter_12 : decode cX6_meter 12 = .ok (.getfield 33, 3) := by decide +kernel
theorem dX6_meter_15 : decode cX6_meter 15 = .ok (.aload_n 0, 1) := by decide +kernel
theorem dX6_meter_16 : decode cX6_meter 16 = .ok (.getfield 10, 3) := by decide +kernel
theorem dX6_meter_19 : decode cX6_meter 19 = .ok (.iload_n 1, 1) := by decide +kernel
theorem dX6_meter_20 : decode cX6_meter 20 = .ok (.invokevirtual 57, 3) := by decide +kernel
theorem dX6_meter_23 : decode cX6_meter 23 = .ok (.invokevirtual 53, 3) := by decide +kernel
theorem dX6_meter_26 : decode cX6_meter 26 = .ok (.ireturn, 1) := by decide +kernel
set_option maxRecDepth 20000 in
theorem ggX6_load_X1_prepare : GoodIn wsX6_load wsX1_prepare := goodIn_r _ [7, 8, 9, 10, 11, 12, 13, 14, 15, 16, 17, 18, 19, 20, 21, 22, 23, 24, 25, 26, 27, 28, 29, 30, 31, 32, 33, 34, 35, 36, 37, 38, 39, 40, 41, 42, 43, 44, 45, 46, 47, 75, 76, 77, 78, 79, 80, 81, 82, 83, 84, 85, 86, 87, 88, 89, 90, 91, 92, 93, 94, 95, 96, 97, 98, 99, 100] (by decide +kernel) (by decide +kernel)
set_option maxRecDepth 20000 in
theorem gX6_load_X1_prepare : GoodIn wsX6_load (wsV RX6 45 RX1 yX1_prepare wsX1_prepare) := goodIn_app (goodIn_of _ (by decide +kernel)) ggX6_load_X1_prepare
set_option maxRecDepth 20000 in
theorem ggX6_load_X2_addLoad : GoodIn wsX6_load wsX2_addLoad := goodIn_r _ [51, 18, 19, 52, 53, 54, 13, 55, 16, 17, 56, 57, 58, 43, 59, 45, 46, 47, 78, 79, 80, 81, 82, 83, 84, 98, 99, 100] (by decide +kernel) (by decide +kernel)
set_option maxRecDepth 20000 in
theorem gX6_load_X2_addLoad : GoodIn wsX6_load (wsV RX6 60 RX2 yX2_addLoad wsX2_addLoad) := goodIn_app (goodIn_of _ (by decide +kernel)) ggX6_load_X2_addLoad
set_option maxRecDepth 20000 in
theorem ggX6_load_X1_settle : GoodIn wsX6_load wsX1_settle := goodIn_r _ [63, 9, 64, 65, 66, 67, 68, 75, 76, 77] (by decide +kernel) (by decide +kernel)
set_option maxRecDepth 20000 in
theorem gX6_load_X1_settle : GoodIn wsX6_load (wsV RX6 53 RX1 yX1_settle wsX1_settle) := goodIn_app (goodIn_of _ (by decide +kernel)) ggX6_load_X1_settle
theorem dX6_load_0 : decode cX6_load 0 = .ok (.aload_n 0, 1) := by decide +kernel
theorem dX6_load_1 : decode cX6_load 1 = .ok (.getfield 33, 3) := by decide +kernel
theorem dX6_load_4 : decode cX6_load 4 = .ok (.aload_n 0, 1) := by decide +kernel
theorem dX6_load_5 : decode cX6_load 5 = .ok (.getfield 10, 3) := by decide +kernel
theorem dX6_load_8 : decode cX6_load 8 = .ok (.invokevirtual 45, 3) := by decide +kernel
theorem dX6_load_11 : decode cX6_load 11 = .ok (.aload_n 0, 1) := by decide +kernel
theorem dX6_load_12 : decode cX6_load 12 = .ok (.getfield 33, 3) := by decide +kernel
theorem dX6_load_15 : decode cX6_load 15 = .ok (.aload_n 0, 1) := by decide +kernel
theorem dX6_load_16 : decode cX6_load 16 = .ok (.getfield 10, 3) := by decide +kernel
theorem dX6_load_19 : decode cX6_load 19 = .ok (.iload_n 1, 1) := by decide +kernel
theorem dX6_load_20 : decode cX6_load 20 = .ok (.iload_n 2, 1) := by decide +kernel
theorem dX6_load_21 : decode cX6_load 21 = .ok (.invokevirtual 60, 3) := by decide +kernel
theorem dX6_load_24 : decode cX6_load 24 = .ok (.invokevirtual 53, 3) := by decide +kernel
theorem dX6_load_27 : decode cX6_load 27 = .ok (.ireturn, 1) := by decide +kernel
set_option maxRecDepth 20000 in
theorem ggX6_turn_X1_prepare : GoodIn wsX6_turn wsX1_prepare := goodIn_r _ [7, 8, 9, 10, 11, 12, 13, 14, 15, 16, 17, 18, 19, 20, 21, 22, 23, 24, 25, 26, 27, 28, 29, 30, 31, 32, 33, 34, 35, 36, 37, 38, 39, 40, 41, 42, 43, 44, 45, 46, 47, 72, 73, 74, 75, 76, 77, 78, 79, 80, 81, 82, 83, 84, 85, 86, 87, 88, 89, 90, 91, 92, 93, 94, 95, 96, 97] (by decide +kernel) (by decide +kernel)
set_option maxRecDepth 20000 in
theorem gX6_turn_X1_prepare : GoodIn wsX6_turn (wsV RX6 45 RX1 yX1_prepare wsX1_prepare) := goodIn_app (goodIn_of _ (by decide +kernel)) ggX6_turn_X1_prepare
set_option maxRecDepth 20000 in
theorem ggX6_turn_X2_switchLoad : GoodIn wsX6_turn wsX2_switchLoad := goodIn_r _ [51, 52, 53, 54, 55, 13, 56, 18, 19, 95, 96, 97, 75, 76, 77, 78, 79, 80, 81] (by decide +kernel) (by decide +kernel)
set_option maxRecDepth 20000 in
theorem gX6_turn_X2_switchLoad : GoodIn wsX6_turn (wsV RX6 63 RX2 yX2_switchLoad wsX2_switchLoad) := goodIn_app (goodIn_of _ (by decide +kernel)) ggX6_turn_X2_switchLoad
set_option maxRecDepth 20000 in
theorem ggX6_turn_X1_settle : GoodIn wsX6_turn wsX1_settle := goodIn_r _ [60, 9, 61, 62, 63, 64, 65, 72, 73, 74] (by decide +kernel) (by decide +kernel)
set_option maxRecDepth 20000 in
theorem gX6_turn_X1_settle : GoodIn wsX6_turn (wsV RX6 53 RX1 yX1_settle wsX1_settle) := goodIn_app (goodIn_of _ (by decide +kernel)) ggX6_turn_X1_settle
theorem dX6_turn_0 : decode cX6_turn 0 = .ok (.aload_n 0, 1) := by decide +kernel
theorem dX6_turn_1 : decode cX6_turn 1 = .ok (.getfield 33, 3) := by decide +kernel
theorem dX6_turn_4 : decode cX6_turn 4 = .ok (.aload_n 0, 1) := by decide +kernel
theorem dX6_turn_5 : decode cX6_turn 5 = .ok (.getfield 10, 3) := by decide +kernel
theorem dX6_turn_8 : decode cX6_turn 8 = .ok (.invokevirtual 45, 3) := by decide +kernel
theorem dX6_turn_11 : decode cX6_turn 11 = .ok (.aload_n 0, 1) := by decide +kernel
theorem dX6_turn_12 : decode cX6_turn 12 = .ok (.getfield 33, 3) := by decide +kernel
theorem dX6_turn_15 : decode cX6_turn 15 = .ok (.aload_n 0, 1) := by decide +kernel
theorem dX6_turn_16 : decode cX6_turn 16 = .ok (.getfield 10, 3) := by decide +kernel
theorem dX6_turn_19 : decode cX6_turn 19 = .ok (.iload_n 1, 1) := by decide +kernel
theorem dX6_turn_20 : decode cX6_turn 20 = .ok (.invokevirtual 63, 3) := by decide +kernel
theorem dX6_turn_23 : decode cX6_turn 23 = .ok (.invokevirtual 53, 3) := by decide +kernel
theorem dX6_turn_26 : decode cX6_turn 26 = .ok (.ireturn, 1) := by decide +kernel
set_option maxRecDepth 20000 in
theorem ggX6_tamper_X1_prepare : GoodIn wsX6_tamper wsX1_prepare := goodIn_r _ [7, 8, 9, 10, 11, 12, 13, 14, 15, 16, 17, 18, 19, 20, 21, 22, 23, 24, 25, 26, 27, 28, 29, 30, 31, 32, 33, 34, 35, 36, 37, 38, 39, 40, 41, 42, 43, 44, 45, 46, 47, 73, 74, 75, 76, 77, 78, 79, 80, 81, 82, 83, 84, 85, 86, 87, 88, 89, 90, 91, 92, 93, 94, 95, 96, 97, 98] (by decide +kernel) (by decide +kernel)
set_option maxRecDepth 20000 in
theorem gX6_tamper_X1_prepare : GoodIn wsX6_tamper (wsV RX6 45 RX1 yX1_prepare wsX1_prepare) := goodIn_app (goodIn_of _ (by decide +kernel)) ggX6_tamper_X1_prepare
set_option maxRecDepth 20000 in
theorem ggX6_tamper_X2_breakSeal : GoodIn wsX6_tamper wsX2_breakSeal := goodIn_r _ [51, 52, 53, 54, 55, 56, 13, 57, 16, 17, 83, 84, 85, 86, 87, 88, 89, 90, 91, 92, 93, 94, 95, 76, 77, 78, 79, 80, 81, 82] (by decide +kernel) (by decide +kernel)
set_option maxRecDepth 20000 in
theorem gX6_tamper_X2_breakSeal : GoodIn wsX6_tamper (wsV RX6 66 RX2 yX2_breakSeal wsX2_breakSeal) := goodIn_app (goodIn_of _ (by decide +kernel)) ggX6_tamper_X2_breakSeal
set_option maxRecDepth 20000 in
theorem ggX6_tamper_X1_settle : GoodIn wsX6_tamper wsX1_settle := goodIn_r _ [61, 9, 62, 63, 64, 65, 66, 73, 74, 75] (by decide +kernel) (by decide +kernel)
set_option maxRecDepth 20000 in
theorem gX6_tamper_X1_settle : GoodIn wsX6_tamper (wsV RX6 53 RX1 yX1_settle wsX1_settle) := goodIn_app (goodIn_of _ (by decide +kernel)) ggX6_tamper_X1_settle
theorem dX6_tamper_0 : decode cX6_tamper 0 = .ok (.aload_n 0, 1) := by decide +kernel
theorem dX6_tamper_1 : decode cX6_tamper 1 = .ok (.getfield 33, 3) := by decide +kernel
theorem dX6_tamper_4 : decode cX6_tamper 4 = .ok (.aload_n 0, 1) := by decide +kernel
theorem dX6_tamper_5 : decode cX6_tamper 5 = .ok (.getfield 10, 3) := by decide +kernel
theorem dX6_tamper_8 : decode cX6_tamper 8 = .ok (.invokevirtual 45, 3) := by decide +kernel
theorem dX6_tamper_11 : decode cX6_tamper 11 = .ok (.aload_n 0, 1) := by decide +kernel
theorem dX6_tamper_12 : decode cX6_tamper 12 = .ok (.getfield 33, 3) := by decide +kernel
theorem dX6_tamper_15 : decode cX6_tamper 15 = .ok (.aload_n 0, 1) := by decide +kernel
theorem dX6_tamper_16 : decode cX6_tamper 16 = .ok (.getfield 10, 3) := by decide +kernel
theorem dX6_tamper_19 : decode cX6_tamper 19 = .ok (.iload_n 1, 1) := by decide +kernel
theorem dX6_tamper_20 : decode cX6_tamper 20 = .ok (.invokevirtual 66, 3) := by decide +kernel
theorem dX6_tamper_23 : decode cX6_tamper 23 = .ok (.invokevirtual 53, 3) := by decide +kernel
theorem dX6_tamper_26 : decode cX6_tamper 26 = .ok (.ireturn, 1) := by decide +kernel
set_option maxRecDepth 20000 in
theorem ggX6_visit_X1_prepare : GoodIn wsX6_visit wsX1_prepare := goodIn_r _ [7, 8, 9, 10, 11, 12, 13, 14, 15, 16, 17, 18, 19, 20, 21, 22, 23, 24, 25, 26, 27, 28, 29, 30, 31, 32, 33, 34, 35, 36, 37, 38, 39, 40, 41, 42, 43, 44, 45, 46, 47, 92, 93, 94, 95, 96, 97, 98, 99, 100, 101, 102, 103, 104, 105, 106, 107, 108, 109, 110, 111, 112, 113, 114, 115, 116, 117] (by decide +kernel) (by decide +kernel)
set_option maxRecDepth 20000 in
theorem gX6_visit_X1_prepare : GoodIn wsX6_visit (wsV RX6 45 RX1 yX1_prepare wsX1_prepare) := goodIn_app (goodIn_of _ (by decide +kernel)) ggX6_visit_X1_prepare
set_option maxRecDepth 20000 in
theorem ggX6_visit_X2_inspect : GoodIn wsX6_visit wsX2_inspect := goodIn_r _ [51, 52, 21, 53, 54, 55, 13, 56, 16, 17, 57, 58, 59, 60, 15, 61, 62, 63, 25, 64, 31, 33, 65, 66, 67, 68, 32, 34, 69, 70, 71, 72, 38, 39, 29, 30, 73, 74, 75, 76, 37, 36, 102, 103, 104, 105, 106, 107, 108, 109, 110, 111, 112, 113, 114, 95, 96, 97, 98, 99, 100, 101] (by decide +kernel) (by decide +kernel)
set_option maxRecDepth 20000 in
theorem gX6_visit_X2_inspect : GoodIn wsX6_visit (wsV RX6 69 RX2 yX2_inspect wsX2_inspect) := goodIn_app (goodIn_of _ (by decide +kernel)) ggX6_visit_X2_inspect
set_option maxRecDepth 20000 in
theorem ggX6_visit_X1_settle : GoodIn wsX6_visit wsX1_settle := goodIn_r _ [80, 9, 81, 82, 83, 84, 85, 92, 93, 94] (by decide +kernel) (by decide +kernel)
set_option maxRecDepth 20000 in
theorem gX6_visit_X1_settle : GoodIn wsX6_visit (wsV RX6 53 RX1 yX1_settle wsX1_settle) := goodIn_app (goodIn_of _ (by decide +kernel)) ggX6_visit_X1_settle
theorem dX6_visit_0 : decode cX6_visit 0 = .ok (.aload_n 0, 1) := by decide +kernel
theorem dX6_visit_1 : decode cX6_visit 1 = .ok (.getfield 33, 3) := by decide +kernel
theorem dX6_visit_4 : decode cX6_visit 4 = .ok (.aload_n 0, 1) := by decide +kernel
theorem dX6_visit_5 : decode cX6_visit 5 = .ok (.getfield 10, 3) := by decide +kernel
theorem dX6_visit_8 : decode cX6_visit 8 = .ok (.invokevirtual 45, 3) := by decide +kernel
theorem dX6_visit_11 : decode cX6_visit 11 = .ok (.aload_n 0, 1) := by decide +kernel
theorem dX6_visit_12 : decode cX6_visit 12 = .ok (.getfield 33, 3) := by decide +kernel
theorem dX6_visit_15 : decode cX6_visit 15 = .ok (.aload_n 0, 1) := by decide +kernel
theorem dX6_visit_16 : decode cX6_visit 16 = .ok (.getfield 10, 3) := by decide +kernel
theorem dX6_visit_19 : decode cX6_visit 19 = .ok (.iload_n 1, 1) := by decide +kernel
theorem dX6_visit_20 : decode cX6_visit 20 = .ok (.invokevirtual 69, 3) := by decide +kernel
theorem dX6_visit_23 : decode cX6_visit 23 = .ok (.invokevirtual 53, 3) := by decide +kernel
theorem dX6_visit_26 : decode cX6_visit 26 = .ok (.ireturn, 1) := by decide +kernel
set_option maxRecDepth 20000 in
theorem ggX6_pass_X1_prepare : GoodIn wsX6_pass wsX1_prepare := goodIn_r _ [7, 8, 9, 10, 11, 12, 13, 14, 15, 16, 17, 18, 19, 20, 21, 22, 23, 24, 25, 26, 27, 28, 29, 30, 31, 32, 33, 34, 35, 36, 37, 38, 39, 40, 41, 42, 43, 44, 45, 46, 47, 110, 111, 112, 113, 114, 115, 116, 117, 118, 119, 120, 121, 122, 123, 124, 125, 126, 127, 128, 129, 130, 131, 132, 133, 134, 135] (by decide +kernel) (by decide +kernel)
set_option maxRecDepth 20000 in
theorem gX6_pass_X1_prepare : GoodIn wsX6_pass (wsV RX6 45 RX1 yX1_prepare wsX1_prepare) := goodIn_app (goodIn_of _ (by decide +kernel)) ggX6_pass_X1_prepare
set_option maxRecDepth 20000 in
theorem ggX6_pass_X2_elapse : GoodIn wsX6_pass wsX2_elapse := goodIn_r _ [51, 20, 52, 16, 17, 53, 54, 55, 13, 56, 18, 19, 57, 58, 59, 60, 61, 62, 63, 64, 65, 66, 67, 68, 69, 70, 71, 15, 72, 73, 74, 75, 76, 77, 78, 79, 80, 81, 82, 83, 84, 25, 85, 30, 86, 87, 88, 89, 90, 91, 92, 35, 28, 32, 31, 29, 93, 94, 95, 96, 97, 37, 113, 114, 115, 116, 117, 118, 119, 133, 134, 135, 120, 121, 122, 123, 124, 125, 126, 127, 128, 129, 130, 131, 132] (by decide +kernel) (by decide +kernel)
set_option maxRecDepth 20000 in
theorem gX6_pass_X2_elapse : GoodIn wsX6_pass (wsV RX6 72 RX2 yX2_elapse wsX2_elapse) := goodIn_app (goodIn_of _ (by decide +kernel)) ggX6_pass_X2_elapse
set_option maxRecDepth 20000 in
theorem ggX6_pass_X1_settle : GoodIn wsX6_pass wsX1_settle := goodIn_r _ [101, 9, 102, 103, 73, 74, 75, 110, 111, 112] (by decide +kernel) (by decide +kernel)
set_option maxRecDepth 20000 in
theorem gX6_pass_X1_settle : GoodIn wsX6_pass (wsV RX6 53 RX1 yX1_settle wsX1_settle) := goodIn_app (goodIn_of _ (by decide +kernel)) ggX6_pass_X1_settle
theorem dX6_pass_0 : decode cX6_pass 0 = .ok (.aload_n 0, 1) := by decide +kernel
theorem dX6_pass_1 : decode cX6_pass 1 = .ok (.getfield 33, 3) := by decide +kernel
theorem dX6_pass_4 : decode cX6_pass 4 = .ok (.aload_n 0, 1) := by decide +kernel
theorem dX6_pass_5 : decode cX6_pass 5 = .ok (.getfield 10, 3) := by decide +kernel
theorem dX6_pass_8 : decode cX6_pass 8 = .ok (.invokevirtual 45, 3) := by decide +kernel
theorem dX6_pass_11 : decode cX6_pass 11 = .ok (.aload_n 0, 1) := by decide +kernel
theorem dX6_pass_12 : decode cX6_pass 12 = .ok (.getfield 33, 3) := by decide +kernel
theorem dX6_pass_15 : decode cX6_pass 15 = .ok (.aload_n 0, 1) := by decide +kernel
theorem dX6_pass_16 : decode cX6_pass 16 = .ok (.getfield 10, 3) := by decide +kernel
theorem dX6_pass_19 : decode cX6_pass 19 = .ok (.iload_n 1, 1) := by decide +kernel
theorem dX6_pass_20 : decode cX6_pass 20 = .ok (.invokevirtual 72, 3) := by decide +kernel
theorem dX6_pass_23 : decode cX6_pass 23 = .ok (.invokevirtual 53, 3) := by decide +kernel
theorem dX6_pass_26 : decode cX6_pass 26 = .ok (.ireturn, 1) := by decide +kernel
set_option maxRecDepth 20000 in
theorem ggX6_write_X2_meterAt : GoodIn wsX6_write wsX2_meterAt := goodIn_r _ [12, 13, 14, 51, 52, 53, 54, 55, 56, 57] (by decide +kernel) (by decide +kernel)
set_option maxRecDepth 20000 in
theorem gX6_write_X2_meterAt : GoodIn wsX6_write (wsV RX6 75 RX2 yX2_meterAt wsX2_meterAt) := goodIn_app (goodIn_of _ (by decide +kernel)) ggX6_write_X2_meterAt
set_option maxRecDepth 20000 in
theorem ggX6_write_X5_clear : GoodIn wsX6_write wsX5_clear := goodIn_r _ [19, 20, 49, 50] (by decide +kernel) (by decide +kernel)
set_option maxRecDepth 20000 in
theorem gX6_write_X5_clear : GoodIn wsX6_write (wsV RX6 79 RX5 yX5_clear wsX5_clear) := goodIn_app (goodIn_of _ (by decide +kernel)) ggX6_write_X5_clear
set_option maxRecDepth 20000 in
theorem ggX6_write_X5_append : GoodIn wsX6_write wsX5_append := goodIn_r _ [24, 20, 25, 49, 50] (by decide +kernel) (by decide +kernel)
set_option maxRecDepth 20000 in
theorem gX6_write_X5_append : GoodIn wsX6_write (wsV RX6 82 RX5 yX5_append wsX5_append) := goodIn_app (goodIn_of _ (by decide +kernel)) ggX6_write_X5_append
set_option maxRecDepth 20000 in
theorem ggX6_write_X5_appendNumber : GoodIn wsX6_write wsX5_appendNumber := goodIn_r _ [29, 20, 25, 49, 50] (by decide +kernel) (by decide +kernel)
set_option maxRecDepth 20000 in
theorem gX6_write_X5_appendNumber : GoodIn wsX6_write (wsV RX6 90 RX5 yX5_appendNumber wsX5_appendNumber) := goodIn_app (goodIn_of _ (by decide +kernel)) ggX6_write_X5_appendNumber
theorem dX6_write_0 : decode cX6_write 0 = .ok (.aload_n 0, 1) := by decide +kernel
theorem dX6_write_1 : decode cX6_write 1 = .ok (.getfield 10, 3) := by decide +kernel
theorem dX6_write_4 : decode cX6_write 4 = .ok (.iload_n 1, 1) := by decide +kernel
theorem dX6_write_5 : decode cX6_write 5 = .ok (.invokevirtual 75, 3) := by decide +kernel
theorem dX6_write_8 : decode cX6_write 8 = .ok (.astore_n 2, 1) := by decide +kernel
theorem dX6_write_9 : decode cX6_write 9 = .ok (.aload_n 2, 1) := by decide +kernel
theorem dX6_write_10 : decode cX6_write 10 = .ok (.ifnonnull 5, 3) := by decide +kernel
theorem dX6_write_13 : decode cX6_write 13 = .ok (.iconst (-1), 1) := by decide +kernel
theorem dX6_write_14 : decode cX6_write 14 = .ok (.ireturn, 1) := by decide +kernel
theorem dX6_write_15 : decode cX6_write 15 = .ok (.aload_n 0, 1) := by decide +kernel
theorem dX6_write_16 : decode cX6_write 16 = .ok (.getfield 26, 3) := by decide +kernel
theorem dX6_write_19 : decode cX6_write 19 = .ok (.invokevirtual 79, 3) := by decide +kernel
theorem dX6_write_22 : decode cX6_write 22 = .ok (.aload_n 0, 1) := by decide +kernel
theorem dX6_write_23 : decode cX6_write 23 = .ok (.getfield 26, 3) := by decide +kernel
theorem dX6_write_26 : decode cX6_write 26 = .ok (.bipush 100, 2) := by decide +kernel
theorem dX6_write_28 : decode cX6_write 28 = .ok (.invokevirtual 82, 3) := by decide +kernel
theorem dX6_write_31 : decode cX6_write 31 = .ok (.aload_n 0, 1) := by decide +kernel
theorem dX6_write_32 : decode cX6_write 32 = .ok (.getfield 26, 3) := by decide +kernel
theorem dX6_write_35 : decode cX6_write 35 = .ok (.aload_n 2, 1) := by decide +kernel
theorem dX6_write_36 : decode cX6_write 36 = .ok (.getfield 86, 3) := by decide +kernel
theorem dX6_write_39 : decode cX6_write 39 = .ok (.invokevirtual 90, 3) := by decide +kernel
theorem dX6_write_42 : decode cX6_write 42 = .ok (.aload_n 0, 1) := by decide +kernel
theorem dX6_write_43 : decode cX6_write 43 = .ok (.getfield 26, 3) := by decide +kernel
theorem dX6_write_46 : decode cX6_write 46 = .ok (.bipush 110, 2) := by decide +kernel
theorem dX6_write_48 : decode cX6_write 48 = .ok (.invokevirtual 82, 3) := by decide +kernel
theorem dX6_write_51 : decode cX6_write 51 = .ok (.aload_n 0, 1) := by decide +kernel
theorem dX6_write_52 : decode cX6_write 52 = .ok (.getfield 26, 3) := by decide +kernel
theorem dX6_write_55 : decode cX6_write 55 = .ok (.aload_n 2, 1) := by decide +kernel
theorem dX6_write_56 : decode cX6_write 56 = .ok (.getfield 94, 3) := by decide +kernel
theorem dX6_write_59 : decode cX6_write 59 = .ok (.invokevirtual 90, 3) := by decide +kernel
theorem dX6_write_62 : decode cX6_write 62 = .ok (.aload_n 0, 1) := by decide +kernel
theorem dX6_write_63 : decode cX6_write 63 = .ok (.getfield 26, 3) := by decide +kernel
theorem dX6_write_66 : decode cX6_write 66 = .ok (.bipush 35, 2) := by decide +kernel
theorem dX6_write_68 : decode cX6_write 68 = .ok (.invokevirtual 82, 3) := by decide +kernel
theorem dX6_write_71 : decode cX6_write 71 = .ok (.aload_n 0, 1) := by decide +kernel
theorem dX6_write_72 : decode cX6_write 72 = .ok (.getfield 26, 3) := by decide +kernel
theorem dX6_write_75 : decode cX6_write 75 = .ok (.aload_n 2, 1) := by decide +kernel
theorem dX6_write_76 : decode cX6_write 76 = .ok (.getfield 97, 3) := by decide +kernel
theorem dX6_write_79 : decode cX6_write 79 = .ok (.invokevirtual 90, 3) := by decide +kernel
theorem dX6_write_82 : decode cX6_write 82 = .ok (.aload_n 2, 1) := by decide +kernel
theorem dX6_write_83 : decode cX6_write 83 = .ok (.getfield 100, 3) := by decide +kernel
theorem dX6_write_86 : decode cX6_write 86 = .ok (.ifCond .eq 12, 3) := by decide +kernel
theorem dX6_write_89 : decode cX6_write 89 = .ok (.aload_n 0, 1) := by decide +kernel
theorem dX6_write_90 : decode cX6_write 90 = .ok (.getfield 26, 3) := by decide +kernel
theorem dX6_write_93 : decode cX6_write 93 = .ok (.bipush 33, 2) := by decide +kernel
theorem dX6_write_95 : decode cX6_write 95 = .ok (.invokevirtual 82, 3) := by decide +kernel
theorem dX6_write_98 : decode cX6_write 98 = .ok (.aload_n 0, 1) := by decide +kernel
theorem dX6_write_99 : decode cX6_write 99 = .ok (.getfield 26, 3) := by decide +kernel
theorem dX6_write_102 : decode cX6_write 102 = .ok (.getfield 104, 3) := by decide +kernel
theorem dX6_write_105 : decode cX6_write 105 = .ok (.ireturn, 1) := by decide +kernel
set_option maxRecDepth 20000 in
theorem ggX6_sign_X5_signAt : GoodIn wsX6_sign wsX5_signAt := goodIn_r _ [6, 7, 8, 15, 16] (by decide +kernel) (by decide +kernel)
set_option maxRecDepth 20000 in
theorem gX6_sign_X5_signAt : GoodIn wsX6_sign (wsV RX6 107 RX5 yX5_signAt wsX5_signAt) := goodIn_app (goodIn_of _ (by decide +kernel)) ggX6_sign_X5_signAt
theorem dX6_sign_0 : decode cX6_sign 0 = .ok (.aload_n 0, 1) := by decide +kernel
theorem dX6_sign_1 : decode cX6_sign 1 = .ok (.getfield 26, 3) := by decide +kernel
theorem dX6_sign_4 : decode cX6_sign 4 = .ok (.iload_n 1, 1) := by decide +kernel
theorem dX6_sign_5 : decode cX6_sign 5 = .ok (.invokevirtual 107, 3) := by decide +kernel
theorem dX6_sign_8 : decode cX6_sign 8 = .ok (.ireturn, 1) := by decide +kernel
set_option maxRecDepth 20000 in
theorem ggX6_of_X2_meterAt : GoodIn wsX6_of wsX2_meterAt := goodIn_r _ [18, 19, 20, 72, 73, 74, 75, 76, 77, 78] (by decide +kernel) (by decide +kernel)
set_option maxRecDepth 20000 in
theorem gX6_of_X2_meterAt : GoodIn wsX6_of (wsV RX6 75 RX2 yX2_meterAt wsX2_meterAt) := goodIn_app (goodIn_of _ (by decide +kernel)) ggX6_of_X2_meterAt
set_option maxRecDepth 20000 in
theorem ggX6_of_X2_powerOf : GoodIn wsX6_of wsX2_powerOf := goodIn_r _ [24, 25, 26, 27, 28, 29, 30, 31, 32, 17, 33, 19, 20, 34, 35, 36, 37, 72, 73, 74, 75, 76, 77, 78, 79, 80, 81, 59, 60, 61, 62, 63, 64, 65, 66, 67, 68, 69, 70, 71] (by decide +kernel) (by decide +kernel)
set_option maxRecDepth 20000 in
theorem gX6_of_X2_powerOf : GoodIn wsX6_of (wsV RX6 113 RX2 yX2_powerOf wsX2_powerOf) := goodIn_app (goodIn_of _ (by decide +kernel)) ggX6_of_X2_powerOf
set_option maxRecDepth 20000 in
theorem ggX6_of_X4_minutesToWeaken : GoodIn wsX6_of wsX4_minutesToWeaken := goodIn_r _ [42, 43, 44, 45, 46, 41, 47, 48, 49, 50, 51, 52, 59, 60, 61, 62, 63, 64, 65, 66, 67, 68, 69, 70, 71] (by decide +kernel) (by decide +kernel)
set_option maxRecDepth 20000 in
theorem gX6_of_X4_minutesToWeaken : GoodIn wsX6_of (wsV RX6 135 RX4 yX4_minutesToWeaken wsX4_minutesToWeaken) := goodIn_app (goodIn_of _ (by decide +kernel)) ggX6_of_X4_minutesToWeaken
theorem dX6_of_0 : decode cX6_of 0 = .ok (.aload_n 0, 1) := by decide +kernel
theorem dX6_of_1 : decode cX6_of 1 = .ok (.getfield 10, 3) := by decide +kernel
theorem dX6_of_4 : decode cX6_of 4 = .ok (.iload_n 1, 1) := by decide +kernel
theorem dX6_of_5 : decode cX6_of 5 = .ok (.invokevirtual 75, 3) := by decide +kernel
theorem dX6_of_8 : decode cX6_of 8 = .ok (.astore_n 3, 1) := by decide +kernel
theorem dX6_of_9 : decode cX6_of 9 = .ok (.aload_n 3, 1) := by decide +kernel
theorem dX6_of_10 : decode cX6_of 10 = .ok (.ifnonnull 5, 3) := by decide +kernel
theorem dX6_of_13 : decode cX6_of 13 = .ok (.iconst (-1), 1) := by decide +kernel
theorem dX6_of_14 : decode cX6_of 14 = .ok (.ireturn, 1) := by decide +kernel
theorem dX6_of_15 : decode cX6_of 15 = .ok (.iload_n 2, 1) := by decide +kernel
theorem dX6_of_16 : decode cX6_of 16 = .ok (.tableswitch 150 0 11 #[64, 69, 78, 83, 88, 93, 98, 108, 113, 126, 131, 145], 64) := by decide +kernel
theorem dX6_of_80 : decode cX6_of 80 = .ok (.aload_n 3, 1) := by decide +kernel
theorem dX6_of_81 : decode cX6_of 81 = .ok (.getfield 110, 3) := by decide +kernel
theorem dX6_of_84 : decode cX6_of 84 = .ok (.ireturn, 1) := by decide +kernel
theorem dX6_of_85 : decode cX6_of 85 = .ok (.aload_n 0, 1) := by decide +kernel
theorem dX6_of_86 : decode cX6_of 86 = .ok (.getfield 10, 3) := by decide +kernel
theorem dX6_of_89 : decode cX6_of 89 = .ok (.iload_n 1, 1) := by decide +kernel
theorem dX6_of_90 : decode cX6_of 90 = .ok (.invokevirtual 113, 3) := by decide +kernel
theorem dX6_of_93 : decode cX6_of 93 = .ok (.ireturn, 1) := by decide +kernel
theorem dX6_of_94 : decode cX6_of 94 = .ok (.aload_n 3, 1) := by decide +kernel
theorem dX6_of_95 : decode cX6_of 95 = .ok (.getfield 116, 3) := by decide +kernel
theorem dX6_of_98 : decode cX6_of 98 = .ok (.ireturn, 1) := by decide +kernel
theorem dX6_of_99 : decode cX6_of 99 = .ok (.aload_n 3, 1) := by decide +kernel
theorem dX6_of_100 : decode cX6_of 100 = .ok (.getfield 119, 3) := by decide +kernel
theorem dX6_of_103 : decode cX6_of 103 = .ok (.ireturn, 1) := by decide +kernel
theorem dX6_of_104 : decode cX6_of 104 = .ok (.aload_n 3, 1) := by decide +kernel
theorem dX6_of_105 : decode cX6_of 105 = .ok (.getfield 86, 3) := by decide +kernel
theorem dX6_of_108 : decode cX6_of 108 = .ok (.ireturn, 1) := by decide +kernel
theorem dX6_of_109 : decode cX6_of 109 = .ok (.aload_n 3, 1) := by decide +kernel
theorem dX6_of_110 : decode cX6_of 110 = .ok (.getfield 94, 3) := by decide +kernel
theorem dX6_of_113 : decode cX6_of 113 = .ok (.ireturn, 1) := by decide +kernel
theorem dX6_of_114 : decode cX6_of 114 = .ok (.aload_n 3, 1) := by decide +kernel
theorem dX6_of_115 : decode cX6_of 115 = .ok (.getfield 122, 3) := by decide +kernel
theorem dX6_of_118 : decode cX6_of 118 = .ok (.ldc2_w 126, 3) := by decide +kernel
theorem dX6_of_121 : decode cX6_of 121 = .ok (.ldiv, 1) := by decide +kernel
theorem dX6_of_122 : decode cX6_of 122 = .ok (.l2i, 1) := by decide +kernel
theorem dX6_of_123 : decode cX6_of 123 = .ok (.ireturn, 1) := by decide +kernel
theorem dX6_of_124 : decode cX6_of 124 = .ok (.aload_n 3, 1) := by decide +kernel
theorem dX6_of_125 : decode cX6_of 125 = .ok (.getfield 97, 3) := by decide +kernel
theorem dX6_of_128 : decode cX6_of 128 = .ok (.ireturn, 1) := by decide +kernel
theorem dX6_of_129 : decode cX6_of 129 = .ok (.aload_n 3, 1) := by decide +kernel
theorem dX6_of_130 : decode cX6_of 130 = .ok (.getfield 100, 3) := by decide +kernel
theorem dX6_of_133 : decode cX6_of 133 = .ok (.ifCond .eq 7, 3) := by decide +kernel
theorem dX6_of_136 : decode cX6_of 136 = .ok (.iconst 1, 1) := by decide +kernel
theorem dX6_of_137 : decode cX6_of 137 = .ok (.goto 4, 3) := by decide +kernel
theorem dX6_of_140 : decode cX6_of 140 = .ok (.iconst 0, 1) := by decide +kernel
theorem dX6_of_141 : decode cX6_of 141 = .ok (.ireturn, 1) := by decide +kernel
theorem dX6_of_142 : decode cX6_of 142 = .ok (.aload_n 3, 1) := by decide +kernel
theorem dX6_of_143 : decode cX6_of 143 = .ok (.getfield 128, 3) := by decide +kernel
theorem dX6_of_146 : decode cX6_of 146 = .ok (.ireturn, 1) := by decide +kernel
theorem dX6_of_147 : decode cX6_of 147 = .ok (.aload_n 3, 1) := by decide +kernel
theorem dX6_of_148 : decode cX6_of 148 = .ok (.aload_n 0, 1) := by decide +kernel
theorem dX6_of_149 : decode cX6_of 149 = .ok (.getfield 10, 3) := by decide +kernel
theorem dX6_of_152 : decode cX6_of 152 = .ok (.getfield 131, 3) := by decide +kernel
theorem dX6_of_155 : decode cX6_of 155 = .ok (.iconst 3, 1) := by decide +kernel
theorem dX6_of_156 : decode cX6_of 156 = .ok (.iaload, 1) := by decide +kernel
theorem dX6_of_157 : decode cX6_of 157 = .ok (.invokevirtual 135, 3) := by decide +kernel
theorem dX6_of_160 : decode cX6_of 160 = .ok (.ireturn, 1) := by decide +kernel
theorem dX6_of_161 : decode cX6_of 161 = .ok (.aload_n 3, 1) := by decide +kernel
theorem dX6_of_162 : decode cX6_of 162 = .ok (.getfield 138, 3) := by decide +kernel
theorem dX6_of_165 : decode cX6_of 165 = .ok (.ireturn, 1) := by decide +kernel
theorem dX6_of_166 : decode cX6_of 166 = .ok (.bipush (-2), 2) := by decide +kernel
theorem dX6_of_168 : decode cX6_of 168 = .ok (.ireturn, 1) := by decide +kernel
set_option maxRecDepth 20000 in
theorem ggX6_ofLoad_X2_loadAt : GoodIn wsX6_ofLoad wsX2_loadAt := goodIn_r _ [9, 10, 11, 21, 22, 23, 24, 25, 26, 27] (by decide +kernel) (by decide +kernel)
set_option maxRecDepth 20000 in
theorem gX6_ofLoad_X2_loadAt : GoodIn wsX6_ofLoad (wsV RX6 141 RX2 yX2_loadAt wsX2_loadAt) := goodIn_app (goodIn_of _ (by decide +kernel)) ggX6_ofLoad_X2_loadAt
theorem dX6_ofLoad_0 : decode cX6_ofLoad 0 = .ok (.aload_n 0, 1) := by decide +kernel
theorem dX6_ofLoad_1 : decode cX6_ofLoad 1 = .ok (.getfield 10, 3) := by decide +kernel
theorem dX6_ofLoad_4 : decode cX6_ofLoad 4 = .ok (.iload_n 1, 1) := by decide +kernel
theorem dX6_ofLoad_5 : decode cX6_ofLoad 5 = .ok (.invokevirtual 141, 3) := by decide +kernel
theorem dX6_ofLoad_8 : decode cX6_ofLoad 8 = .ok (.astore_n 3, 1) := by decide +kernel
theorem dX6_ofLoad_9 : decode cX6_ofLoad 9 = .ok (.aload_n 3, 1) := by decide +kernel
theorem dX6_ofLoad_10 : decode cX6_ofLoad 10 = .ok (.ifnonnull 5, 3) := by decide +kernel
theorem dX6_ofLoad_13 : decode cX6_ofLoad 13 = .ok (.iconst (-1), 1) := by decide +kernel
theorem dX6_ofLoad_14 : decode cX6_ofLoad 14 = .ok (.ireturn, 1) := by decide +kernel
theorem dX6_ofLoad_15 : decode cX6_ofLoad 15 = .ok (.iload_n 2, 1) := by decide +kernel
theorem dX6_ofLoad_16 : decode cX6_ofLoad 16 = .ok (.tableswitch 51 0 2 #[28, 33, 38], 28) := by decide +kernel
theorem dX6_ofLoad_44 : decode cX6_ofLoad 44 = .ok (.aload_n 3, 1) := by decide +kernel
theorem dX6_ofLoad_45 : decode cX6_ofLoad 45 = .ok (.getfield 145, 3) := by decide +kernel
theorem dX6_ofLoad_48 : decode cX6_ofLoad 48 = .ok (.ireturn, 1) := by decide +kernel
theorem dX6_ofLoad_49 : decode cX6_ofLoad 49 = .ok (.aload_n 3, 1) := by decide +kernel
theorem dX6_ofLoad_50 : decode cX6_ofLoad 50 = .ok (.getfield 150, 3) := by decide +kernel
theorem dX6_ofLoad_53 : decode cX6_ofLoad 53 = .ok (.ireturn, 1) := by decide +kernel
theorem dX6_ofLoad_54 : decode cX6_ofLoad 54 = .ok (.aload_n 3, 1) := by decide +kernel
theorem dX6_ofLoad_55 : decode cX6_ofLoad 55 = .ok (.getfield 153, 3) := by decide +kernel
theorem dX6_ofLoad_58 : decode cX6_ofLoad 58 = .ok (.ifCond .eq 7, 3) := by decide +kernel
theorem dX6_ofLoad_61 : decode cX6_ofLoad 61 = .ok (.iconst 1, 1) := by decide +kernel
theorem dX6_ofLoad_62 : decode cX6_ofLoad 62 = .ok (.goto 4, 3) := by decide +kernel
theorem dX6_ofLoad_65 : decode cX6_ofLoad 65 = .ok (.iconst 0, 1) := by decide +kernel
theorem dX6_ofLoad_66 : decode cX6_ofLoad 66 = .ok (.ireturn, 1) := by decide +kernel
theorem dX6_ofLoad_67 : decode cX6_ofLoad 67 = .ok (.bipush (-2), 2) := by decide +kernel
theorem dX6_ofLoad_69 : decode cX6_ofLoad 69 = .ok (.ireturn, 1) := by decide +kernel
set_option maxRecDepth 20000 in
theorem ggX6_misses_X2_meterAt : GoodIn wsX6_misses wsX2_meterAt := goodIn_r _ [8, 9, 10, 31, 32, 33, 34, 35, 36, 37] (by decide +kernel) (by decide +kernel)
set_option maxRecDepth 20000 in
theorem gX6_misses_X2_meterAt : GoodIn wsX6_misses (wsV RX6 75 RX2 yX2_meterAt wsX2_meterAt) := goodIn_app (goodIn_of _ (by decide +kernel)) ggX6_misses_X2_meterAt
set_option maxRecDepth 20000 in
theorem ggX6_misses_X4_missed : GoodIn wsX6_misses wsX4_missed := goodIn_r _ [15, 16, 17, 18, 19, 20, 21, 14, 22, 23, 24, 38, 39, 40, 41, 42, 43, 44, 45, 46, 47, 48, 49, 50] (by decide +kernel) (by decide +kernel)
set_option maxRecDepth 20000 in
theorem gX6_misses_X4_missed : GoodIn wsX6_misses (wsV RX6 158 RX4 yX4_missed wsX4_missed) := goodIn_app (goodIn_of _ (by decide +kernel)) ggX6_misses_X4_missed
theorem dX6_misses_0 : decode cX6_misses 0 = .ok (.aload_n 0, 1) := by decide +kernel
theorem dX6_misses_1 : decode cX6_misses 1 = .ok (.getfield 10, 3) := by decide +kernel
theorem dX6_misses_4 : decode cX6_misses 4 = .ok (.iload_n 1, 1) := by decide +kernel
theorem dX6_misses_5 : decode cX6_misses 5 = .ok (.invokevirtual 75, 3) := by decide +kernel
theorem dX6_misses_8 : decode cX6_misses 8 = .ok (.astore_n 2, 1) := by decide +kernel
theorem dX6_misses_9 : decode cX6_misses 9 = .ok (.aload_n 2, 1) := by decide +kernel
theorem dX6_misses_10 : decode cX6_misses 10 = .ok (.ifnonnull 9, 3) := by decide +kernel
theorem dX6_misses_13 : decode cX6_misses 13 = .ok (.ldc2_w 156, 3) := by decide +kernel
theorem dX6_misses_16 : decode cX6_misses 16 = .ok (.goto 11, 3) := by decide +kernel
theorem dX6_misses_19 : decode cX6_misses 19 = .ok (.aload_n 2, 1) := by decide +kernel
theorem dX6_misses_20 : decode cX6_misses 20 = .ok (.invokevirtual 158, 3) := by decide +kernel
theorem dX6_misses_23 : decode cX6_misses 23 = .ok (.ldc2_w 162, 3) := by decide +kernel
theorem dX6_misses_26 : decode cX6_misses 26 = .ok (.ladd, 1) := by decide +kernel
theorem dX6_misses_27 : decode cX6_misses 27 = .ok (.lreturn, 1) := by decide +kernel
set_option maxRecDepth 20000 in
theorem ggX6_fed_X2_meterAt : GoodIn wsX6_fed wsX2_meterAt := goodIn_r _ [6, 7, 8, 23, 24, 25, 26, 27, 28, 29] (by decide +kernel) (by decide +kernel)
set_option maxRecDepth 20000 in
theorem gX6_fed_X2_meterAt : GoodIn wsX6_fed (wsV RX6 75 RX2 yX2_meterAt wsX2_meterAt) := goodIn_app (goodIn_of _ (by decide +kernel)) ggX6_fed_X2_meterAt
set_option maxRecDepth 20000 in
theorem ggX6_fed_X2_fedThrough : GoodIn wsX6_fed wsX2_fedThrough := goodIn_r _ [12, 7, 8, 13, 14, 15, 5, 16, 23, 24, 25, 26, 27, 28, 29, 30, 31, 32, 33, 34, 35, 36, 37, 38, 39, 40, 41, 42] (by decide +kernel) (by decide +kernel)
set_option maxRecDepth 20000 in
theorem gX6_fed_X2_fedThrough : GoodIn wsX6_fed (wsV RX6 164 RX2 yX2_fedThrough wsX2_fedThrough) := goodIn_app (goodIn_of _ (by decide +kernel)) ggX6_fed_X2_fedThrough
theorem dX6_fed_0 : decode cX6_fed 0 = .ok (.aload_n 0, 1) := by decide +kernel
theorem dX6_fed_1 : decode cX6_fed 1 = .ok (.getfield 10, 3) := by decide +kernel
theorem dX6_fed_4 : decode cX6_fed 4 = .ok (.iload_n 1, 1) := by decide +kernel
theorem dX6_fed_5 : decode cX6_fed 5 = .ok (.invokevirtual 75, 3) := by decide +kernel
theorem dX6_fed_8 : decode cX6_fed 8 = .ok (.ifnonnull 7, 3) := by decide +kernel
theorem dX6_fed_11 : decode cX6_fed 11 = .ok (.iconst (-1), 1) := by decide +kernel
theorem dX6_fed_12 : decode cX6_fed 12 = .ok (.goto 11, 3) := by decide +kernel
theorem dX6_fed_15 : decode cX6_fed 15 = .ok (.aload_n 0, 1) := by decide +kernel
theorem dX6_fed_16 : decode cX6_fed 16 = .ok (.getfield 10, 3) := by decide +kernel
theorem dX6_fed_19 : decode cX6_fed 19 = .ok (.iload_n 1, 1) := by decide +kernel
theorem dX6_fed_20 : decode cX6_fed 20 = .ok (.invokevirtual 164, 3) := by decide +kernel
theorem dX6_fed_23 : decode cX6_fed 23 = .ok (.ireturn, 1) := by decide +kernel
set_option maxRecDepth 20000 in
theorem ggX6_count_X6_isNight : GoodIn wsX6_count wsX6_isNight := goodIn_r _ [14] (by decide +kernel) (by decide +kernel)
set_option maxRecDepth 20000 in
theorem gX6_count_X6_isNight : GoodIn wsX6_count (va_wsS RX6 170 yX6_isNight wsX6_isNight) := goodIn_app (goodIn_of _ (by decide +kernel)) ggX6_count_X6_isNight
set_option maxRecDepth 20000 in
theorem ggX6_count_X2_loadsOn : GoodIn wsX6_count wsX2_loadsOn := goodIn_r _ [19, 20, 21, 22, 52, 53, 54, 55, 56, 57, 58, 64, 65, 66] (by decide +kernel) (by decide +kernel)
set_option maxRecDepth 20000 in
theorem gX6_count_X2_loadsOn : GoodIn wsX6_count (wsV RX6 180 RX2 yX2_loadsOn wsX2_loadsOn) := goodIn_app (goodIn_of _ (by decide +kernel)) ggX6_count_X2_loadsOn
set_option maxRecDepth 20000 in
theorem ggX6_count_X2_sealsBroken : GoodIn wsX6_count wsX2_sealsBroken := goodIn_r _ [26, 27, 28, 29, 52, 53, 54, 55, 56, 57, 58, 67, 68, 69, 70, 71, 72, 73, 74, 75, 76, 77, 78, 79] (by decide +kernel) (by decide +kernel)
set_option maxRecDepth 20000 in
theorem gX6_count_X2_sealsBroken : GoodIn wsX6_count (wsV RX6 184 RX2 yX2_sealsBroken wsX2_sealsBroken) := goodIn_app (goodIn_of _ (by decide +kernel)) ggX6_count_X2_sealsBroken
set_option maxRecDepth 20000 in
theorem ggX6_count_X2_allTurns : GoodIn wsX6_count wsX2_allTurns := goodIn_r _ [33, 27, 28, 34, 35, 36, 37, 38, 39, 40, 52, 53, 54, 55, 56, 57, 58, 67, 68, 69, 70, 71, 72, 73, 74, 75, 76, 77, 78, 79] (by decide +kernel) (by decide +kernel)
set_option maxRecDepth 20000 in
theorem gX6_count_X2_allTurns : GoodIn wsX6_count (wsV RX6 187 RX2 yX2_allTurns wsX2_allTurns) := goodIn_app (goodIn_of _ (by decide +kernel)) ggX6_count_X2_allTurns
set_option maxRecDepth 20000 in
theorem ggX6_count_X2_allBilled : GoodIn wsX6_count wsX2_allBilled := goodIn_r _ [44, 27, 28, 45, 52, 53, 54, 55, 56, 57, 58, 67, 68, 69, 70, 71, 72, 73, 74, 75, 76, 77, 78, 79] (by decide +kernel) (by decide +kernel)
set_option maxRecDepth 20000 in
theorem gX6_count_X2_allBilled : GoodIn wsX6_count (wsV RX6 190 RX2 yX2_allBilled wsX2_allBilled) := goodIn_app (goodIn_of _ (by decide +kernel)) ggX6_count_X2_allBilled
theorem dX6_count_0 : decode cX6_count 0 = .ok (.iload_n 1, 1) := by decide +kernel
theorem dX6_count_1 : decode cX6_count 1 = .ok (.tableswitch 242 0 16 #[83, 91, 110, 118, 126, 134, 142, 150, 158, 166, 176, 186, 196, 206, 216, 226, 234], 83) := by decide +kernel
theorem dX6_count_84 : decode cX6_count 84 = .ok (.aload_n 0, 1) := by decide +kernel
theorem dX6_count_85 : decode cX6_count 85 = .ok (.getfield 10, 3) := by decide +kernel
theorem dX6_count_88 : decode cX6_count 88 = .ok (.getfield 167, 3) := by decide +kernel
theorem dX6_count_91 : decode cX6_count 91 = .ok (.ireturn, 1) := by decide +kernel
theorem dX6_count_92 : decode cX6_count 92 = .ok (.aload_n 0, 1) := by decide +kernel
theorem dX6_count_93 : decode cX6_count 93 = .ok (.getfield 10, 3) := by decide +kernel
theorem dX6_count_96 : decode cX6_count 96 = .ok (.getfield 167, 3) := by decide +kernel
theorem dX6_count_99 : decode cX6_count 99 = .ok (.invokestatic 170, 3) := by decide +kernel
theorem dX6_count_102 : decode cX6_count 102 = .ok (.ifCond .eq 7, 3) := by decide +kernel
theorem dX6_count_105 : decode cX6_count 105 = .ok (.iconst 1, 1) := by decide +kernel
theorem dX6_count_106 : decode cX6_count 106 = .ok (.goto 4, 3) := by decide +kernel
theorem dX6_count_109 : decode cX6_count 109 = .ok (.iconst 0, 1) := by decide +kernel
theorem dX6_count_110 : decode cX6_count 110 = .ok (.ireturn, 1) := by decide +kernel
theorem dX6_count_111 : decode cX6_count 111 = .ok (.aload_n 0, 1) := by decide +kernel
theorem dX6_count_112 : decode cX6_count 112 = .ok (.getfield 10, 3) := by decide +kernel
theorem dX6_count_115 : decode cX6_count 115 = .ok (.getfield 174, 3) := by decide +kernel
theorem dX6_count_118 : decode cX6_count 118 = .ok (.ireturn, 1) := by decide +kernel
theorem dX6_count_119 : decode cX6_count 119 = .ok (.aload_n 0, 1) := by decide +kernel
theorem dX6_count_120 : decode cX6_count 120 = .ok (.getfield 10, 3) := by decide +kernel
theorem dX6_count_123 : decode cX6_count 123 = .ok (.getfield 177, 3) := by decide +kernel
theorem dX6_count_126 : decode cX6_count 126 = .ok (.ireturn, 1) := by decide +kernel
theorem dX6_count_127 : decode cX6_count 127 = .ok (.aload_n 0, 1) := by decide +kernel
theorem dX6_count_128 : decode cX6_count 128 = .ok (.getfield 10, 3) := by decide +kernel
theorem dX6_count_131 : decode cX6_count 131 = .ok (.invokevirtual 180, 3) := by decide +kernel
theorem dX6_count_134 : decode cX6_count 134 = .ok (.ireturn, 1) := by decide +kernel
theorem dX6_count_135 : decode cX6_count 135 = .ok (.aload_n 0, 1) := by decide +kernel
theorem dX6_count_136 : decode cX6_count 136 = .ok (.getfield 10, 3) := by decide +kernel
theorem dX6_count_139 : decode cX6_count 139 = .ok (.invokevirtual 184, 3) := by decide +kernel
theorem dX6_count_142 : decode cX6_count 142 = .ok (.ireturn, 1) := by decide +kernel
theorem dX6_count_143 : decode cX6_count 143 = .ok (.aload_n 0, 1) := by decide +kernel
theorem dX6_count_144 : decode cX6_count 144 = .ok (.getfield 10, 3) := by decide +kernel
theorem dX6_count_147 : decode cX6_count 147 = .ok (.invokevirtual 187, 3) := by decide +kernel
theorem dX6_count_150 : decode cX6_count 150 = .ok (.ireturn, 1) := by decide +kernel
theorem dX6_count_151 : decode cX6_count 151 = .ok (.aload_n 0, 1) := by decide +kernel
theorem dX6_count_152 : decode cX6_count 152 = .ok (.getfield 10, 3) := by decide +kernel
theorem dX6_count_155 : decode cX6_count 155 = .ok (.invokevirtual 190, 3) := by decide +kernel
theorem dX6_count_158 : decode cX6_count 158 = .ok (.ireturn, 1) := by decide +kernel
theorem dX6_count_159 : decode cX6_count 159 = .ok (.aload_n 0, 1) := by decide +kernel
theorem dX6_count_160 : decode cX6_count 160 = .ok (.getfield 10, 3) := by decide +kernel
theorem dX6_count_163 : decode cX6_count 163 = .ok (.getfield 193, 3) := by decide +kernel
theorem dX6_count_166 : decode cX6_count 166 = .ok (.ireturn, 1) := by decide +kernel
theorem dX6_count_167 : decode cX6_count 167 = .ok (.aload_n 0, 1) := by decide +kernel
theorem dX6_count_168 : decode cX6_count 168 = .ok (.getfield 10, 3) := by decide +kernel
theorem dX6_count_171 : decode cX6_count 171 = .ok (.getfield 131, 3) := by decide +kernel
theorem dX6_count_174 : decode cX6_count 174 = .ok (.iconst 0, 1) := by decide +kernel
theorem dX6_count_175 : decode cX6_count 175 = .ok (.iaload, 1) := by decide +kernel
theorem dX6_count_176 : decode cX6_count 176 = .ok (.ireturn, 1) := by decide +kernel
theorem dX6_count_177 : decode cX6_count 177 = .ok (.aload_n 0, 1) := by decide +kernel
theorem dX6_count_178 : decode cX6_count 178 = .ok (.getfield 10, 3) := by decide +kernel
theorem dX6_count_181 : decode cX6_count 181 = .ok (.getfield 131, 3) := by decide +kernel
theorem dX6_count_184 : decode cX6_count 184 = .ok (.iconst 1, 1) := by decide +kernel
theorem dX6_count_185 : decode cX6_count 185 = .ok (.iaload, 1) := by decide +kernel
theorem dX6_count_186 : decode cX6_count 186 = .ok (.ireturn, 1) := by decide +kernel
theorem dX6_count_187 : decode cX6_count 187 = .ok (.aload_n 0, 1) := by decide +kernel
theorem dX6_count_188 : decode cX6_count 188 = .ok (.getfield 10, 3) := by decide +kernel
theorem dX6_count_191 : decode cX6_count 191 = .ok (.getfield 131, 3) := by decide +kernel
theorem dX6_count_194 : decode cX6_count 194 = .ok (.iconst 2, 1) := by decide +kernel
theorem dX6_count_195 : decode cX6_count 195 = .ok (.iaload, 1) := by decide +kernel
theorem dX6_count_196 : decode cX6_count 196 = .ok (.ireturn, 1) := by decide +kernel
theorem dX6_count_197 : decode cX6_count 197 = .ok (.aload_n 0, 1) := by decide +kernel
theorem dX6_count_198 : decode cX6_count 198 = .ok (.getfield 10, 3) := by decide +kernel
theorem dX6_count_201 : decode cX6_count 201 = .ok (.getfield 131, 3) := by decide +kernel
theorem dX6_count_204 : decode cX6_count 204 = .ok (.iconst 3, 1) := by decide +kernel
theorem dX6_count_205 : decode cX6_count 205 = .ok (.iaload, 1) := by decide +kernel
theorem dX6_count_206 : decode cX6_count 206 = .ok (.ireturn, 1) := by decide +kernel
theorem dX6_count_207 : decode cX6_count 207 = .ok (.aload_n 0, 1) := by decide +kernel
theorem dX6_count_208 : decode cX6_count 208 = .ok (.getfield 10, 3) := by decide +kernel
theorem dX6_count_211 : decode cX6_count 211 = .ok (.getfield 131, 3) := by decide +kernel
theorem dX6_count_214 : decode cX6_count 214 = .ok (.iconst 4, 1) := by decide +kernel
theorem dX6_count_215 : decode cX6_count 215 = .ok (.iaload, 1) := by decide +kernel
theorem dX6_count_216 : decode cX6_count 216 = .ok (.ireturn, 1) := by decide +kernel
theorem dX6_count_217 : decode cX6_count 217 = .ok (.aload_n 0, 1) := by decide +kernel
theorem dX6_count_218 : decode cX6_count 218 = .ok (.getfield 10, 3) := by decide +kernel
theorem dX6_count_221 : decode cX6_count 221 = .ok (.getfield 131, 3) := by decide +kernel
theorem dX6_count_224 : decode cX6_count 224 = .ok (.iconst 5, 1) := by decide +kernel
theorem dX6_count_225 : decode cX6_count 225 = .ok (.iaload, 1) := by decide +kernel
theorem dX6_count_226 : decode cX6_count 226 = .ok (.ireturn, 1) := by decide +kernel
theorem dX6_count_227 : decode cX6_count 227 = .ok (.aload_n 0, 1) := by decide +kernel
theorem dX6_count_228 : decode cX6_count 228 = .ok (.getfield 26, 3) := by decide +kernel
theorem dX6_count_231 : decode cX6_count 231 = .ok (.getfield 104, 3) := by decide +kernel
theorem dX6_count_234 : decode cX6_count 234 = .ok (.ireturn, 1) := by decide +kernel
theorem dX6_count_235 : decode cX6_count 235 = .ok (.aload_n 0, 1) := by decide +kernel
theorem dX6_count_236 : decode cX6_count 236 = .ok (.getfield 33, 3) := by decide +kernel
theorem dX6_count_239 : decode cX6_count 239 = .ok (.getfield 196, 3) := by decide +kernel
theorem dX6_count_242 : decode cX6_count 242 = .ok (.ireturn, 1) := by decide +kernel
theorem dX6_count_243 : decode cX6_count 243 = .ok (.bipush (-2), 2) := by decide +kernel
theorem dX6_count_245 : decode cX6_count 245 = .ok (.ireturn, 1) := by decide +kernel
set_option maxRecDepth 20000 in
theorem ggX6_bill_X2_meterAt : GoodIn wsX6_bill wsX2_meterAt := goodIn_r _ [6, 7, 8, 33, 34, 35, 36, 37, 38, 39] (by decide +kernel) (by decide +kernel)
set_option maxRecDepth 20000 in
theorem gX6_bill_X2_meterAt : GoodIn wsX6_bill (wsV RX6 75 RX2 yX2_meterAt wsX2_meterAt) := goodIn_app (goodIn_of _ (by decide +kernel)) ggX6_bill_X2_meterAt
set_option maxRecDepth 20000 in
theorem ggX6_bill_X2_owedAt : GoodIn wsX6_bill wsX2_owedAt := goodIn_r _ [12, 13, 14, 15, 16, 17, 18, 19, 20, 21, 22, 23, 24, 25, 26, 33, 34, 35, 36, 37, 38, 39, 40, 41, 42, 43, 44, 45, 46, 47, 48, 49, 50, 51, 52] (by decide +kernel) (by decide +kernel)
set_option maxRecDepth 20000 in
theorem gX6_bill_X2_owedAt : GoodIn wsX6_bill (wsV RX6 199 RX2 yX2_owedAt wsX2_owedAt) := goodIn_app (goodIn_of _ (by decide +kernel)) ggX6_bill_X2_owedAt
theorem dX6_bill_0 : decode cX6_bill 0 = .ok (.aload_n 0, 1) := by decide +kernel
theorem dX6_bill_1 : decode cX6_bill 1 = .ok (.getfield 10, 3) := by decide +kernel
theorem dX6_bill_4 : decode cX6_bill 4 = .ok (.iload_n 1, 1) := by decide +kernel
theorem dX6_bill_5 : decode cX6_bill 5 = .ok (.invokevirtual 75, 3) := by decide +kernel
theorem dX6_bill_8 : decode cX6_bill 8 = .ok (.astore_n 2, 1) := by decide +kernel
theorem dX6_bill_9 : decode cX6_bill 9 = .ok (.aload_n 2, 1) := by decide +kernel
theorem dX6_bill_10 : decode cX6_bill 10 = .ok (.ifnonnull 7, 3) := by decide +kernel
theorem dX6_bill_13 : decode cX6_bill 13 = .ok (.iconst (-1), 1) := by decide +kernel
theorem dX6_bill_14 : decode cX6_bill 14 = .ok (.goto 11, 3) := by decide +kernel
theorem dX6_bill_17 : decode cX6_bill 17 = .ok (.aload_n 0, 1) := by decide +kernel
theorem dX6_bill_18 : decode cX6_bill 18 = .ok (.getfield 10, 3) := by decide +kernel
theorem dX6_bill_21 : decode cX6_bill 21 = .ok (.aload_n 2, 1) := by decide +kernel
theorem dX6_bill_22 : decode cX6_bill 22 = .ok (.invokevirtual 199, 3) := by decide +kernel
theorem dX6_bill_25 : decode cX6_bill 25 = .ok (.ireturn, 1) := by decide +kernel
set_option maxRecDepth 20000 in
theorem ggX6_turnsIn_X2_meterAt : GoodIn wsX6_turnsIn wsX2_meterAt := goodIn_r _ [7, 8, 9, 72, 73, 74, 75, 76, 77, 78] (by decide +kernel) (by decide +kernel)
set_option maxRecDepth 20000 in
theorem gX6_turnsIn_X2_meterAt : GoodIn wsX6_turnsIn (wsV RX6 75 RX2 yX2_meterAt wsX2_meterAt) := goodIn_app (goodIn_of _ (by decide +kernel)) ggX6_turnsIn_X2_meterAt
set_option maxRecDepth 20000 in
theorem ggX6_turnsIn_X4_copyFrom : GoodIn wsX6_turnsIn wsX4_copyFrom := goodIn_r _ [14, 15, 16, 17, 18, 19, 20, 21, 22, 23, 24, 25, 26, 27, 79, 80, 81, 82, 83, 84, 85, 86, 87, 88, 89, 90, 91] (by decide +kernel) (by decide +kernel)
set_option maxRecDepth 20000 in
theorem gX6_turnsIn_X4_copyFrom : GoodIn wsX6_turnsIn (wsV RX6 203 RX4 yX4_copyFrom wsX4_copyFrom) := goodIn_app (goodIn_of _ (by decide +kernel)) ggX6_turnsIn_X4_copyFrom
set_option maxRecDepth 20000 in
theorem ggX6_turnsIn_X2_powerOf : GoodIn wsX6_turnsIn wsX2_powerOf := goodIn_r _ [31, 32, 33, 34, 35, 36, 37, 38, 39, 6, 40, 8, 9, 41, 42, 43, 44, 72, 73, 74, 75, 76, 77, 78, 92, 93, 94, 79, 80, 81, 82, 83, 84, 85, 86, 87, 88, 89, 90, 91] (by decide +kernel) (by decide +kernel)
set_option maxRecDepth 20000 in
theorem gX6_turnsIn_X2_powerOf : GoodIn wsX6_turnsIn (wsV RX6 113 RX2 yX2_powerOf wsX2_powerOf) := goodIn_app (goodIn_of _ (by decide +kernel)) ggX6_turnsIn_X2_powerOf
set_option maxRecDepth 20000 in
theorem ggX6_turnsIn_X2_minutesToTurn : GoodIn wsX6_turnsIn wsX2_minutesToTurn := goodIn_r _ [48, 49, 50, 51, 52, 53, 54, 55, 56, 13, 57, 23, 16, 20, 19, 18, 17, 58, 59, 60, 61, 62, 63, 64, 65, 25, 72, 73, 74, 75, 76, 77, 78, 79, 80, 81, 82, 83, 84, 85, 86, 87, 88, 89, 90, 91] (by decide +kernel) (by decide +kernel)
set_option maxRecDepth 20000 in
theorem gX6_turnsIn_X2_minutesToTurn : GoodIn wsX6_turnsIn (wsV RX6 207 RX2 yX2_minutesToTurn wsX2_minutesToTurn) := goodIn_app (goodIn_of _ (by decide +kernel)) ggX6_turnsIn_X2_minutesToTurn
theorem dX6_turnsIn_0 : decode cX6_turnsIn 0 = .ok (.aload_n 0, 1) := by decide +kernel
theorem dX6_turnsIn_1 : decode cX6_turnsIn 1 = .ok (.getfield 10, 3) := by decide +kernel
theorem dX6_turnsIn_4 : decode cX6_turnsIn 4 = .ok (.iload_n 1, 1) := by decide +kernel
theorem dX6_turnsIn_5 : decode cX6_turnsIn 5 = .ok (.invokevirtual 75, 3) := by decide +kernel
theorem dX6_turnsIn_8 : decode cX6_turnsIn 8 = .ok (.astore_n 2, 1) := by decide +kernel
theorem dX6_turnsIn_9 : decode cX6_turnsIn 9 = .ok (.aload_n 2, 1) := by decide +kernel
theorem dX6_turnsIn_10 : decode cX6_turnsIn 10 = .ok (.ifnonnull 5, 3) := by decide +kernel
theorem dX6_turnsIn_13 : decode cX6_turnsIn 13 = .ok (.iconst (-1), 1) := by decide +kernel
theorem dX6_turnsIn_14 : decode cX6_turnsIn 14 = .ok (.ireturn, 1) := by decide +kernel
theorem dX6_turnsIn_15 : decode cX6_turnsIn 15 = .ok (.aload_n 0, 1) := by decide +kernel
theorem dX6_turnsIn_16 : decode cX6_turnsIn 16 = .ok (.getfield 19, 3) := by decide +kernel
theorem dX6_turnsIn_19 : decode cX6_turnsIn 19 = .ok (.aload_n 2, 1) := by decide +kernel
theorem dX6_turnsIn_20 : decode cX6_turnsIn 20 = .ok (.invokevirtual 203, 3) := by decide +kernel
theorem dX6_turnsIn_23 : decode cX6_turnsIn 23 = .ok (.aload_n 0, 1) := by decide +kernel
theorem dX6_turnsIn_24 : decode cX6_turnsIn 24 = .ok (.getfield 10, 3) := by decide +kernel
theorem dX6_turnsIn_27 : decode cX6_turnsIn 27 = .ok (.aload_n 0, 1) := by decide +kernel
theorem dX6_turnsIn_28 : decode cX6_turnsIn 28 = .ok (.getfield 19, 3) := by decide +kernel
theorem dX6_turnsIn_31 : decode cX6_turnsIn 31 = .ok (.aload_n 0, 1) := by decide +kernel
theorem dX6_turnsIn_32 : decode cX6_turnsIn 32 = .ok (.getfield 10, 3) := by decide +kernel
theorem dX6_turnsIn_35 : decode cX6_turnsIn 35 = .ok (.iload_n 1, 1) := by decide +kernel
theorem dX6_turnsIn_36 : decode cX6_turnsIn 36 = .ok (.invokevirtual 113, 3) := by decide +kernel
theorem dX6_turnsIn_39 : decode cX6_turnsIn 39 = .ok (.invokevirtual 207, 3) := by decide +kernel
theorem dX6_turnsIn_42 : decode cX6_turnsIn 42 = .ok (.ireturn, 1) := by decide +kernel
set_option maxRecDepth 20000 in
theorem ggX6_wouldTurn_X2_meterAt : GoodIn wsX6_wouldTurn wsX2_meterAt := goodIn_r _ [9, 10, 11, 98, 99, 100, 101, 102, 103, 104] (by decide +kernel) (by decide +kernel)
set_option maxRecDepth 20000 in
theorem gX6_wouldTurn_X2_meterAt : GoodIn wsX6_wouldTurn (wsV RX6 75 RX2 yX2_meterAt wsX2_meterAt) := goodIn_app (goodIn_of _ (by decide +kernel)) ggX6_wouldTurn_X2_meterAt
set_option maxRecDepth 20000 in
theorem ggX6_wouldTurn_X4_copyFrom : GoodIn wsX6_wouldTurn wsX4_copyFrom := goodIn_r _ [16, 17, 18, 19, 20, 21, 22, 23, 24, 25, 26, 27, 28, 29, 85, 86, 87, 88, 89, 90, 91, 92, 93, 94, 95, 96, 97] (by decide +kernel) (by decide +kernel)
set_option maxRecDepth 20000 in
theorem gX6_wouldTurn_X4_copyFrom : GoodIn wsX6_wouldTurn (wsV RX6 203 RX4 yX4_copyFrom wsX4_copyFrom) := goodIn_app (goodIn_of _ (by decide +kernel)) ggX6_wouldTurn_X4_copyFrom
set_option maxRecDepth 20000 in
theorem ggX6_wouldTurn_X2_powerOf : GoodIn wsX6_wouldTurn wsX2_powerOf := goodIn_r _ [33, 34, 35, 36, 37, 38, 39, 40, 41, 8, 42, 10, 11, 43, 44, 45, 46, 98, 99, 100, 101, 102, 103, 104, 105, 106, 107, 85, 86, 87, 88, 89, 90, 91, 92, 93, 94, 95, 96, 97] (by decide +kernel) (by decide +kernel)
set_option maxRecDepth 20000 in
theorem gX6_wouldTurn_X2_powerOf : GoodIn wsX6_wouldTurn (wsV RX6 113 RX2 yX2_powerOf wsX2_powerOf) := goodIn_app (goodIn_of _ (by decide +kernel)) ggX6_wouldTurn_X2_powerOf
set_option maxRecDepth 20000 in
theorem ggX6_wouldTurn_X2_runDisc : GoodIn wsX6_wouldTurn wsX2_runDisc := goodIn_r _ [50, 51, 52, 53, 54, 55, 56, 57, 58, 59, 60, 61, 62, 63, 64, 65, 15, 66, 20, 67, 68, 69, 70, 71, 72, 73, 25, 18, 22, 21, 19, 74, 75, 76, 77, 78, 27, 98, 99, 100, 101, 102, 103, 104, 85, 86, 87, 88, 89, 90, 91, 92, 93, 94, 95, 96, 97] (by decide +kernel) (by decide +kernel)
set_option maxRecDepth 20000 in
theorem gX6_wouldTurn_X2_runDisc : GoodIn wsX6_wouldTurn (wsV RX6 211 RX2 yX2_runDisc wsX2_runDisc) := goodIn_app (goodIn_of _ (by decide +kernel)) ggX6_wouldTurn_X2_runDisc
theorem dX6_wouldTurn_0 : decode cX6_wouldTurn 0 = .ok (.aload_n 0, 1) := by decide +kernel
theorem dX6_wouldTurn_1 : decode cX6_wouldTurn 1 = .ok (.getfield 10, 3) := by decide +kernel
theorem dX6_wouldTurn_4 : decode cX6_wouldTurn 4 = .ok (.iload_n 1, 1) := by decide +kernel
theorem dX6_wouldTurn_5 : decode cX6_wouldTurn 5 = .ok (.invokevirtual 75, 3) := by decide +kernel
theorem dX6_wouldTurn_8 : decode cX6_wouldTurn 8 = .ok (.astore 4, 2) := by decide +kernel
theorem dX6_wouldTurn_10 : decode cX6_wouldTurn 10 = .ok (.aload 4, 2) := by decide +kernel
theorem dX6_wouldTurn_12 : decode cX6_wouldTurn 12 = .ok (.ifnonnull 5, 3) := by decide +kernel
theorem dX6_wouldTurn_15 : decode cX6_wouldTurn 15 = .ok (.iconst (-1), 1) := by decide +kernel
theorem dX6_wouldTurn_16 : decode cX6_wouldTurn 16 = .ok (.ireturn, 1) := by decide +kernel
theorem dX6_wouldTurn_17 : decode cX6_wouldTurn 17 = .ok (.iload_n 2, 1) := by decide +kernel
theorem dX6_wouldTurn_18 : decode cX6_wouldTurn 18 = .ok (.iconst 1, 1) := by decide +kernel
theorem dX6_wouldTurn_19 : decode cX6_wouldTurn 19 = .ok (.if_icmp .lt 19, 3) := by decide +kernel
theorem dX6_wouldTurn_22 : decode cX6_wouldTurn 22 = .ok (.iload_n 2, 1) := by decide +kernel
theorem dX6_wouldTurn_23 : decode cX6_wouldTurn 23 = .ok (.sipush 1440, 3) := by decide +kernel
theorem dX6_wouldTurn_26 : decode cX6_wouldTurn 26 = .ok (.if_icmp .gt 12, 3) := by decide +kernel
theorem dX6_wouldTurn_29 : decode cX6_wouldTurn 29 = .ok (.iload_n 3, 1) := by decide +kernel
theorem dX6_wouldTurn_30 : decode cX6_wouldTurn 30 = .ok (.ifCond .lt 8, 3) := by decide +kernel
theorem dX6_wouldTurn_33 : decode cX6_wouldTurn 33 = .ok (.iload_n 3, 1) := by decide +kernel
theorem dX6_wouldTurn_34 : decode cX6_wouldTurn 34 = .ok (.iconst 1, 1) := by decide +kernel
theorem dX6_wouldTurn_35 : decode cX6_wouldTurn 35 = .ok (.if_icmp .le 6, 3) := by decide +kernel
theorem dX6_wouldTurn_38 : decode cX6_wouldTurn 38 = .ok (.bipush (-2), 2) := by decide +kernel
theorem dX6_wouldTurn_40 : decode cX6_wouldTurn 40 = .ok (.ireturn, 1) := by decide +kernel
theorem dX6_wouldTurn_41 : decode cX6_wouldTurn 41 = .ok (.aload_n 0, 1) := by decide +kernel
theorem dX6_wouldTurn_42 : decode cX6_wouldTurn 42 = .ok (.getfield 19, 3) := by decide +kernel
theorem dX6_wouldTurn_45 : decode cX6_wouldTurn 45 = .ok (.aload 4, 2) := by decide +kernel
theorem dX6_wouldTurn_47 : decode cX6_wouldTurn 47 = .ok (.invokevirtual 203, 3) := by decide +kernel
theorem dX6_wouldTurn_50 : decode cX6_wouldTurn 50 = .ok (.aload_n 0, 1) := by decide +kernel
theorem dX6_wouldTurn_51 : decode cX6_wouldTurn 51 = .ok (.getfield 10, 3) := by decide +kernel
theorem dX6_wouldTurn_54 : decode cX6_wouldTurn 54 = .ok (.aload_n 0, 1) := by decide +kernel
theorem dX6_wouldTurn_55 : decode cX6_wouldTurn 55 = .ok (.getfield 19, 3) := by decide +kernel
theorem dX6_wouldTurn_58 : decode cX6_wouldTurn 58 = .ok (.aload_n 0, 1) := by decide +kernel
theorem dX6_wouldTurn_59 : decode cX6_wouldTurn 59 = .ok (.getfield 10, 3) := by decide +kernel
theorem dX6_wouldTurn_62 : decode cX6_wouldTurn 62 = .ok (.iload_n 1, 1) := by decide +kernel
theorem dX6_wouldTurn_63 : decode cX6_wouldTurn 63 = .ok (.invokevirtual 113, 3) := by decide +kernel
theorem dX6_wouldTurn_66 : decode cX6_wouldTurn 66 = .ok (.iload_n 2, 1) := by decide +kernel
theorem dX6_wouldTurn_67 : decode cX6_wouldTurn 67 = .ok (.invokevirtual 211, 3) := by decide +kernel
theorem dX6_wouldTurn_70 : decode cX6_wouldTurn 70 = .ok (.pop, 1) := by decide +kernel
theorem dX6_wouldTurn_71 : decode cX6_wouldTurn 71 = .ok (.iload_n 3, 1) := by decide +kernel
theorem dX6_wouldTurn_72 : decode cX6_wouldTurn 72 = .ok (.iconst 1, 1) := by decide +kernel
theorem dX6_wouldTurn_73 : decode cX6_wouldTurn 73 = .ok (.if_icmp .ne 19, 3) := by decide +kernel
theorem dX6_wouldTurn_76 : decode cX6_wouldTurn 76 = .ok (.aload_n 0, 1) := by decide +kernel
theorem dX6_wouldTurn_77 : decode cX6_wouldTurn 77 = .ok (.getfield 19, 3) := by decide +kernel
theorem dX6_wouldTurn_80 : decode cX6_wouldTurn 80 = .ok (.getfield 94, 3) := by decide +kernel
theorem dX6_wouldTurn_83 : decode cX6_wouldTurn 83 = .ok (.aload 4, 2) := by decide +kernel
theorem dX6_wouldTurn_85 : decode cX6_wouldTurn 85 = .ok (.getfield 94, 3) := by decide +kernel
theorem dX6_wouldTurn_88 : decode cX6_wouldTurn 88 = .ok (.isub, 1) := by decide +kernel
theorem dX6_wouldTurn_89 : decode cX6_wouldTurn 89 = .ok (.goto 16, 3) := by decide +kernel
theorem dX6_wouldTurn_92 : decode cX6_wouldTurn 92 = .ok (.aload_n 0, 1) := by decide +kernel
theorem dX6_wouldTurn_93 : decode cX6_wouldTurn 93 = .ok (.getfield 19, 3) := by decide +kernel
theorem dX6_wouldTurn_96 : decode cX6_wouldTurn 96 = .ok (.getfield 86, 3) := by decide +kernel
theorem dX6_wouldTurn_99 : decode cX6_wouldTurn 99 = .ok (.aload 4, 2) := by decide +kernel
theorem dX6_wouldTurn_101 : decode cX6_wouldTurn 101 = .ok (.getfield 86, 3) := by decide +kernel
theorem dX6_wouldTurn_104 : decode cX6_wouldTurn 104 = .ok (.isub, 1) := by decide +kernel
theorem dX6_wouldTurn_105 : decode cX6_wouldTurn 105 = .ok (.ireturn, 1) := by decide +kernel
set_option maxRecDepth 20000 in
theorem ggX6_worst_X2_mostMissing : GoodIn wsX6_worst wsX2_mostMissing := goodIn_r _ [6, 7, 8, 9, 10, 11, 12, 13, 14, 15, 16, 17, 18, 19, 20, 21, 22, 29, 30, 31, 32, 33, 34, 35, 36, 37, 38, 39, 40, 41, 42, 43, 44, 45, 46, 47, 48] (by decide +kernel) (by decide +kernel)
set_option maxRecDepth 20000 in
theorem gX6_worst_X2_mostMissing : GoodIn wsX6_worst (wsV RX6 215 RX2 yX2_mostMissing wsX2_mostMissing) := goodIn_app (goodIn_of _ (by decide +kernel)) ggX6_worst_X2_mostMissing
theorem dX6_worst_0 : decode cX6_worst 0 = .ok (.aload_n 0, 1) := by decide +kernel
theorem dX6_worst_1 : decode cX6_worst 1 = .ok (.getfield 10, 3) := by decide +kernel
theorem dX6_worst_4 : decode cX6_worst 4 = .ok (.invokevirtual 215, 3) := by decide +kernel
theorem dX6_worst_7 : decode cX6_worst 7 = .ok (.ireturn, 1) := by decide +kernel
set_option maxRecDepth 20000 in
theorem ggX6_lags_X2_meterAt : GoodIn wsX6_lags wsX2_meterAt := goodIn_r _ [7, 8, 9, 28, 29, 30, 31, 32, 33, 34] (by decide +kernel) (by decide +kernel)
set_option maxRecDepth 20000 in
theorem gX6_lags_X2_meterAt : GoodIn wsX6_lags (wsV RX6 75 RX2 yX2_meterAt wsX2_meterAt) := goodIn_app (goodIn_of _ (by decide +kernel)) ggX6_lags_X2_meterAt
set_option maxRecDepth 20000 in
theorem ggX6_lags_X2_turnsBehind : GoodIn wsX6_lags wsX2_turnsBehind := goodIn_r _ [13, 8, 9, 14, 15, 16, 17, 18, 19, 20, 21, 28, 29, 30, 31, 32, 33, 34, 35, 36, 37, 38, 39, 40, 41, 42, 43, 44, 45, 46, 47] (by decide +kernel) (by decide +kernel)
set_option maxRecDepth 20000 in
theorem gX6_lags_X2_turnsBehind : GoodIn wsX6_lags (wsV RX6 218 RX2 yX2_turnsBehind wsX2_turnsBehind) := goodIn_app (goodIn_of _ (by decide +kernel)) ggX6_lags_X2_turnsBehind
theorem dX6_lags_0 : decode cX6_lags 0 = .ok (.aload_n 0, 1) := by decide +kernel
theorem dX6_lags_1 : decode cX6_lags 1 = .ok (.getfield 10, 3) := by decide +kernel
theorem dX6_lags_4 : decode cX6_lags 4 = .ok (.iload_n 1, 1) := by decide +kernel
theorem dX6_lags_5 : decode cX6_lags 5 = .ok (.invokevirtual 75, 3) := by decide +kernel
theorem dX6_lags_8 : decode cX6_lags 8 = .ok (.ifnonnull 7, 3) := by decide +kernel
theorem dX6_lags_11 : decode cX6_lags 11 = .ok (.iconst (-1), 1) := by decide +kernel
theorem dX6_lags_12 : decode cX6_lags 12 = .ok (.goto 14, 3) := by decide +kernel
theorem dX6_lags_15 : decode cX6_lags 15 = .ok (.aload_n 0, 1) := by decide +kernel
theorem dX6_lags_16 : decode cX6_lags 16 = .ok (.getfield 10, 3) := by decide +kernel
theorem dX6_lags_19 : decode cX6_lags 19 = .ok (.iload_n 1, 1) := by decide +kernel
theorem dX6_lags_20 : decode cX6_lags 20 = .ok (.invokevirtual 218, 3) := by decide +kernel
theorem dX6_lags_23 : decode cX6_lags 23 = .ok (.ldc 221, 2) := by decide +kernel
theorem dX6_lags_25 : decode cX6_lags 25 = .ok (.iadd, 1) := by decide +kernel
theorem dX6_lags_26 : decode cX6_lags 26 = .ok (.ireturn, 1) := by decide +kernel
set_option maxRecDepth 20000 in
theorem ggX6_wipe_X5_clear : GoodIn wsX6_wipe wsX5_clear := goodIn_r _ [7, 8, 15, 16] (by decide +kernel) (by decide +kernel)
set_option maxRecDepth 20000 in
theorem gX6_wipe_X5_clear : GoodIn wsX6_wipe (wsV RX6 79 RX5 yX5_clear wsX5_clear) := goodIn_app (goodIn_of _ (by decide +kernel)) ggX6_wipe_X5_clear
theorem dX6_wipe_0 : decode cX6_wipe 0 = .ok (.aload_n 0, 1) := by decide +kernel
theorem dX6_wipe_1 : decode cX6_wipe 1 = .ok (.getfield 26, 3) := by decide +kernel
theorem dX6_wipe_4 : decode cX6_wipe 4 = .ok (.getfield 104, 3) := by decide +kernel
theorem dX6_wipe_7 : decode cX6_wipe 7 = .ok (.istore_n 1, 1) := by decide +kernel
theorem dX6_wipe_8 : decode cX6_wipe 8 = .ok (.aload_n 0, 1) := by decide +kernel
theorem dX6_wipe_9 : decode cX6_wipe 9 = .ok (.getfield 26, 3) := by decide +kernel
theorem dX6_wipe_12 : decode cX6_wipe 12 = .ok (.invokevirtual 79, 3) := by decide +kernel
theorem dX6_wipe_15 : decode cX6_wipe 15 = .ok (.iload_n 1, 1) := by decide +kernel
theorem dX6_wipe_16 : decode cX6_wipe 16 = .ok (.ireturn, 1) := by decide +kernel
set_option maxRecDepth 20000 in
theorem ggX6_fault_X0_faultOf : GoodIn wsX6_fault wsX0_faultOf := goodIn_r _ [5, 6, 7, 8, 9, 10, 11, 12, 13, 14, 15, 4, 16, 17, 18, 19, 20, 21, 22, 23, 24, 25, 32, 33] (by decide +kernel) (by decide +kernel)
set_option maxRecDepth 20000 in
theorem gX6_fault_X0_faultOf : GoodIn wsX6_fault (va_wsS RX6 230 yX0_faultOf wsX0_faultOf) := goodIn_app (goodIn_of _ (by decide +kernel)) ggX6_fault_X0_faultOf
theorem dX6_fault_0 : decode cX6_fault 0 = .ok (.aload_n 0, 1) := by decide +kernel
theorem dX6_fault_1 : decode cX6_fault 1 = .ok (.getfield 26, 3) := by decide +kernel
theorem dX6_fault_4 : decode cX6_fault 4 = .ok (.invokestatic 230, 3) := by decide +kernel
theorem dX6_fault_7 : decode cX6_fault 7 = .ok (.ireturn, 1) := by decide +kernel
set_option maxRecDepth 20000 in
theorem ggX6_undo_X1_takeLatest : GoodIn wsX6_undo wsX1_takeLatest := goodIn_r _ [8, 9, 10, 11, 56, 57, 58] (by decide +kernel) (by decide +kernel)
set_option maxRecDepth 20000 in
theorem gX6_undo_X1_takeLatest : GoodIn wsX6_undo (wsV RX6 242 RX1 yX1_takeLatest wsX1_takeLatest) := goodIn_app (goodIn_of _ (by decide +kernel)) ggX6_undo_X1_takeLatest
set_option maxRecDepth 20000 in
theorem ggX6_undo_X2_copyFrom : GoodIn wsX6_undo wsX2_copyFrom := goodIn_r _ [16, 17, 18, 19, 20, 21, 22, 23, 24, 25, 26, 27, 28, 29, 30, 31, 32, 33, 34, 35, 36, 37, 38, 39, 40, 41, 42, 43, 44, 45, 46, 47, 48, 49, 59, 60, 61, 62, 63, 64, 65, 66, 67, 68, 69, 70, 71, 72, 73, 74, 75, 76, 77, 78, 79, 80, 81] (by decide +kernel) (by decide +kernel)
set_option maxRecDepth 20000 in
theorem gX6_undo_X2_copyFrom : GoodIn wsX6_undo (wsV RX6 246 RX2 yX2_copyFrom wsX2_copyFrom) := goodIn_app (goodIn_of _ (by decide +kernel)) ggX6_undo_X2_copyFrom
theorem dX6_undo_0 : decode cX6_undo 0 = .ok (.aload_n 0, 1) := by decide +kernel
theorem dX6_undo_1 : decode cX6_undo 1 = .ok (.getfield 33, 3) := by decide +kernel
theorem dX6_undo_4 : decode cX6_undo 4 = .ok (.getfield 196, 3) := by decide +kernel
theorem dX6_undo_7 : decode cX6_undo 7 = .ok (.ifCond .ne 6, 3) := by decide +kernel
theorem dX6_undo_10 : decode cX6_undo 10 = .ok (.bipush (-5), 2) := by decide +kernel
theorem dX6_undo_12 : decode cX6_undo 12 = .ok (.ireturn, 1) := by decide +kernel
theorem dX6_undo_13 : decode cX6_undo 13 = .ok (.aload_n 0, 1) := by decide +kernel
theorem dX6_undo_14 : decode cX6_undo 14 = .ok (.getfield 10, 3) := by decide +kernel
theorem dX6_undo_17 : decode cX6_undo 17 = .ok (.aload_n 0, 1) := by decide +kernel
theorem dX6_undo_18 : decode cX6_undo 18 = .ok (.getfield 33, 3) := by decide +kernel
theorem dX6_undo_21 : decode cX6_undo 21 = .ok (.invokevirtual 242, 3) := by decide +kernel
theorem dX6_undo_24 : decode cX6_undo 24 = .ok (.invokevirtual 246, 3) := by decide +kernel
theorem dX6_undo_27 : decode cX6_undo 27 = .ok (.aload_n 0, 1) := by decide +kernel
theorem dX6_undo_28 : decode cX6_undo 28 = .ok (.getfield 33, 3) := by decide +kernel
theorem dX6_undo_31 : decode cX6_undo 31 = .ok (.getfield 196, 3) := by decide +kernel
theorem dX6_undo_34 : decode cX6_undo 34 = .ok (.ireturn, 1) := by decide +kernel
theorem dX6_isNight_0 : decode cX6_isNight 0 = .ok (.iload_n 0, 1) := by decide +kernel
theorem dX6_isNight_1 : decode cX6_isNight 1 = .ok (.sipush 1440, 3) := by decide +kernel
theorem dX6_isNight_4 : decode cX6_isNight 4 = .ok (.irem, 1) := by decide +kernel
theorem dX6_isNight_5 : decode cX6_isNight 5 = .ok (.istore_n 1, 1) := by decide +kernel
theorem dX6_isNight_6 : decode cX6_isNight 6 = .ok (.iload_n 1, 1) := by decide +kernel
theorem dX6_isNight_7 : decode cX6_isNight 7 = .ok (.sipush 1320, 3) := by decide +kernel
theorem dX6_isNight_10 : decode cX6_isNight 10 = .ok (.if_icmp .ge 10, 3) := by decide +kernel
theorem dX6_isNight_13 : decode cX6_isNight 13 = .ok (.iload_n 1, 1) := by decide +kernel
theorem dX6_isNight_14 : decode cX6_isNight 14 = .ok (.sipush 360, 3) := by decide +kernel
theorem dX6_isNight_17 : decode cX6_isNight 17 = .ok (.if_icmp .ge 7, 3) := by decide +kernel
theorem dX6_isNight_20 : decode cX6_isNight 20 = .ok (.iconst 1, 1) := by decide +kernel
theorem dX6_isNight_21 : decode cX6_isNight 21 = .ok (.goto 4, 3) := by decide +kernel
theorem dX6_isNight_24 : decode cX6_isNight 24 = .ok (.iconst 0, 1) := by decide +kernel
theorem dX6_isNight_25 : decode cX6_isNight 25 = .ok (.ireturn, 1) := by decide +kernel
theorem dX6_minutesToSwitch_0 : decode cX6_minutesToSwitch 0 = .ok (.iload_n 0, 1) := by decide +kernel
theorem dX6_minutesToSwitch_1 : decode cX6_minutesToSwitch 1 = .ok (.sipush 1440, 3) := by decide +kernel
theorem dX6_minutesToSwitch_4 : decode cX6_minutesToSwitch 4 = .ok (.irem, 1) := by decide +kernel
theorem dX6_minutesToSwitch_5 : decode cX6_minutesToSwitch 5 = .ok (.istore_n 1, 1) := by decide +kernel
theorem dX6_minutesToSwitch_6 : decode cX6_minutesToSwitch 6 = .ok (.iload_n 1, 1) := by decide +kernel
theorem dX6_minutesToSwitch_7 : decode cX6_minutesToSwitch 7 = .ok (.sipush 360, 3) := by decide +kernel
theorem dX6_minutesToSwitch_10 : decode cX6_minutesToSwitch 10 = .ok (.if_icmp .ge 9, 3) := by decide +kernel
theorem dX6_minutesToSwitch_13 : decode cX6_minutesToSwitch 13 = .ok (.sipush 360, 3) := by decide +kernel
theorem dX6_minutesToSwitch_16 : decode cX6_minutesToSwitch 16 = .ok (.iload_n 1, 1) := by decide +kernel
theorem dX6_minutesToSwitch_17 : decode cX6_minutesToSwitch 17 = .ok (.isub, 1) := by decide +kernel
theorem dX6_minutesToSwitch_18 : decode cX6_minutesToSwitch 18 = .ok (.ireturn, 1) := by decide +kernel
theorem dX6_minutesToSwitch_19 : decode cX6_minutesToSwitch 19 = .ok (.iload_n 1, 1) := by decide +kernel
theorem dX6_minutesToSwitch_20 : decode cX6_minutesToSwitch 20 = .ok (.sipush 1320, 3) := by decide +kernel
theorem dX6_minutesToSwitch_23 : decode cX6_minutesToSwitch 23 = .ok (.if_icmp .ge 9, 3) := by decide +kernel
theorem dX6_minutesToSwitch_26 : decode cX6_minutesToSwitch 26 = .ok (.sipush 1320, 3) := by decide +kernel
theorem dX6_minutesToSwitch_29 : decode cX6_minutesToSwitch 29 = .ok (.goto 6, 3) := by decide +kernel
theorem dX6_minutesToSwitch_32 : decode cX6_minutesToSwitch 32 = .ok (.sipush 1440, 3) := by decide +kernel
theorem dX6_minutesToSwitch_35 : decode cX6_minutesToSwitch 35 = .ok (.iload_n 1, 1) := by decide +kernel
theorem dX6_minutesToSwitch_36 : decode cX6_minutesToSwitch 36 = .ok (.isub, 1) := by decide +kernel
theorem dX6_minutesToSwitch_37 : decode cX6_minutesToSwitch 37 = .ok (.ireturn, 1) := by decide +kernel
