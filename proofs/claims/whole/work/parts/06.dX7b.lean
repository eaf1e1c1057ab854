theorem dX7_sign_6 : decode cX7_sign 6 = .ok (.iconst 1, 1) := by decide +kernel
theorem dX7_sign_7 : decode cX7_sign 7 = .ok (.isub, 1) := by decide +kernel
theorem dX7_sign_8 : decode cX7_sign 8 = .ok (.invokestatic 41, 3) := by decide +kernel
theorem dX7_sign_11 : decode cX7_sign 11 = .ok (.ifCond .eq 12, 3) := by decide +kernel
theorem dX7_sign_14 : decode cX7_sign 14 = .ok (.aload_n 0, 1) := by decide +kernel
theorem dX7_sign_15 : decode cX7_sign 15 = .ok (.getfield 23, 3) := by decide +kernel
theorem dX7_sign_18 : decode cX7_sign 18 = .ok (.iload_n 1, 1) := by decide +kernel
theorem dX7_sign_19 : decode cX7_sign 19 = .ok (.iaload, 1) := by decide +kernel
theorem dX7_sign_20 : decode cX7_sign 20 = .ok (.goto 4, 3) := by decide +kernel
theorem dX7_sign_23 : decode cX7_sign 23 = .ok (.iconst (-1), 1) := by decide +kernel
theorem dX7_sign_24 : decode cX7_sign 24 = .ok (.ireturn, 1) := by decide +kernel
set_option maxRecDepth 20000 in
theorem ggX7_untilWeaker_X7_num : GoodIn wsX7_untilWeaker wsX7_num := goodIn_r _ [5, 6, 14, 15, 16, 17, 18, 19, 20] (by decide +kernel) (by decide +kernel)
set_option maxRecDepth 20000 in
theorem gX7_untilWeaker_X7_num : GoodIn wsX7_untilWeaker (wsV RX7 37 RX7 yX7_num wsX7_num) := goodIn_app (goodIn_of _ (by decide +kernel)) ggX7_untilWeaker_X7_num
set_option maxRecDepth 20000 in
theorem ggX7_untilWeaker_X7_its : GoodIn wsX7_untilWeaker wsX7_its := goodIn_r _ [10, 6, 11, 12, 4, 13, 14, 15, 16, 17, 18, 19, 20] (by decide +kernel) (by decide +kernel)
set_option maxRecDepth 20000 in
theorem gX7_untilWeaker_X7_its : GoodIn wsX7_untilWeaker (wsV RX7 53 RX7 yX7_its wsX7_its) := goodIn_app (goodIn_of _ (by decide +kernel)) ggX7_untilWeaker_X7_its
theorem dX7_untilWeaker_0 : decode cX7_untilWeaker 0 = .ok (.aload_n 0, 1) := by decide +kernel
theorem dX7_untilWeaker_1 : decode cX7_untilWeaker 1 = .ok (.iconst 3, 1) := by decide +kernel
theorem dX7_untilWeaker_2 : decode cX7_untilWeaker 2 = .ok (.invokevirtual 37, 3) := by decide +kernel
theorem dX7_untilWeaker_5 : decode cX7_untilWeaker 5 = .ok (.aload_n 0, 1) := by decide +kernel
theorem dX7_untilWeaker_6 : decode cX7_untilWeaker 6 = .ok (.iload_n 1, 1) := by decide +kernel
theorem dX7_untilWeaker_7 : decode cX7_untilWeaker 7 = .ok (.bipush 9, 2) := by decide +kernel
theorem dX7_untilWeaker_9 : decode cX7_untilWeaker 9 = .ok (.invokevirtual 53, 3) := by decide +kernel
theorem dX7_untilWeaker_12 : decode cX7_untilWeaker 12 = .ok (.isub, 1) := by decide +kernel
theorem dX7_untilWeaker_13 : decode cX7_untilWeaker 13 = .ok (.istore_n 2, 1) := by decide +kernel
theorem dX7_untilWeaker_14 : decode cX7_untilWeaker 14 = .ok (.aload_n 0, 1) := by decide +kernel
theorem dX7_untilWeaker_15 : decode cX7_untilWeaker 15 = .ok (.iload_n 1, 1) := by decide +kernel
theorem dX7_untilWeaker_16 : decode cX7_untilWeaker 16 = .ok (.iconst 2, 1) := by decide +kernel
theorem dX7_untilWeaker_17 : decode cX7_untilWeaker 17 = .ok (.invokevirtual 53, 3) := by decide +kernel
theorem dX7_untilWeaker_20 : decode cX7_untilWeaker 20 = .ok (.sipush 160, 3) := by decide +kernel
theorem dX7_untilWeaker_23 : decode cX7_untilWeaker 23 = .ok (.if_icmp .ne 8, 3) := by decide +kernel
theorem dX7_untilWeaker_26 : decode cX7_untilWeaker 26 = .ok (.bipush (-6), 2) := by decide +kernel
theorem dX7_untilWeaker_28 : decode cX7_untilWeaker 28 = .ok (.goto 13, 3) := by decide +kernel
theorem dX7_untilWeaker_31 : decode cX7_untilWeaker 31 = .ok (.iload_n 2, 1) := by decide +kernel
theorem dX7_untilWeaker_32 : decode cX7_untilWeaker 32 = .ok (.iconst 1, 1) := by decide +kernel
theorem dX7_untilWeaker_33 : decode cX7_untilWeaker 33 = .ok (.if_icmp .ge 7, 3) := by decide +kernel
theorem dX7_untilWeaker_36 : decode cX7_untilWeaker 36 = .ok (.iconst 1, 1) := by decide +kernel
theorem dX7_untilWeaker_37 : decode cX7_untilWeaker 37 = .ok (.goto 4, 3) := by decide +kernel
theorem dX7_untilWeaker_40 : decode cX7_untilWeaker 40 = .ok (.iload_n 2, 1) := by decide +kernel
theorem dX7_untilWeaker_41 : decode cX7_untilWeaker 41 = .ok (.ireturn, 1) := by decide +kernel
set_option maxRecDepth 20000 in
theorem ggX7_of_X7_isMeter : GoodIn wsX7_of wsX7_isMeter := goodIn_r _ [7, 8, 9, 10, 6, 11, 1, 12, 13, 14, 34, 35, 36, 37, 38, 39, 40] (by decide +kernel) (by decide +kernel)
set_option maxRecDepth 20000 in
theorem gX7_of_X7_isMeter : GoodIn wsX7_of (wsV RX7 95 RX7 yX7_isMeter wsX7_isMeter) := goodIn_app (goodIn_of _ (by decide +kernel)) ggX7_of_X7_isMeter
set_option maxRecDepth 20000 in
theorem ggX7_of_X7_its : GoodIn wsX7_of wsX7_its := goodIn_r _ [18, 1, 19, 20, 6, 21, 34, 35, 36, 37, 38, 39, 40] (by decide +kernel) (by decide +kernel)
set_option maxRecDepth 20000 in
theorem gX7_of_X7_its : GoodIn wsX7_of (wsV RX7 53 RX7 yX7_its wsX7_its) := goodIn_app (goodIn_of _ (by decide +kernel)) ggX7_of_X7_its
set_option maxRecDepth 20000 in
theorem ggX7_of_X7_power : GoodIn wsX7_of wsX7_power := goodIn_r _ [25, 1, 8, 9, 10, 6, 11, 26, 27, 28, 29, 15, 16, 17, 18, 19, 20, 21, 34, 35, 36, 37, 38, 39, 40] (by decide +kernel) (by decide +kernel)
set_option maxRecDepth 20000 in
theorem gX7_of_X7_power : GoodIn wsX7_of (wsV RX7 70 RX7 yX7_power wsX7_power) := goodIn_app (goodIn_of _ (by decide +kernel)) ggX7_of_X7_power
set_option maxRecDepth 20000 in
theorem ggX7_of_X7_at : GoodIn wsX7_of wsX7_at := goodIn_r _ [21] (by decide +kernel) (by decide +kernel)
set_option maxRecDepth 20000 in
theorem gX7_of_X7_at : GoodIn wsX7_of (va_wsS RX7 45 yX7_at wsX7_at) := goodIn_app (goodIn_of _ (by decide +kernel)) ggX7_of_X7_at
set_option maxRecDepth 20000 in
theorem ggX7_of_X7_untilWeaker : GoodIn wsX7_of wsX7_untilWeaker := goodIn_r _ [33, 8, 9, 10, 6, 11, 1, 15, 16, 17, 18, 19, 20, 21, 34, 35, 36, 37, 38, 39, 40] (by decide +kernel) (by decide +kernel)
set_option maxRecDepth 20000 in
theorem gX7_of_X7_untilWeaker : GoodIn wsX7_of (wsV RX7 145 RX7 yX7_untilWeaker wsX7_untilWeaker) := goodIn_app (goodIn_of _ (by decide +kernel)) ggX7_of_X7_untilWeaker
theorem dX7_of_0 : decode cX7_of 0 = .ok (.aload_n 0, 1) := by decide +kernel
theorem dX7_of_1 : decode cX7_of 1 = .ok (.iload_n 1, 1) := by decide +kernel
theorem dX7_of_2 : decode cX7_of 2 = .ok (.invokevirtual 95, 3) := by decide +kernel
theorem dX7_of_5 : decode cX7_of 5 = .ok (.ifCond .ne 5, 3) := by decide +kernel
theorem dX7_of_8 : decode cX7_of 8 = .ok (.iconst (-1), 1) := by decide +kernel
theorem dX7_of_9 : decode cX7_of 9 = .ok (.ireturn, 1) := by decide +kernel
theorem dX7_of_10 : decode cX7_of 10 = .ok (.iload_n 2, 1) := by decide +kernel
theorem dX7_of_11 : decode cX7_of 11 = .ok (.tableswitch 153 0 11 #[61, 82, 88, 88, 88, 88, 97, 115, 123, 131, 139, 145], 61) := by decide +kernel
theorem dX7_of_72 : decode cX7_of 72 = .ok (.aload_n 0, 1) := by decide +kernel
theorem dX7_of_73 : decode cX7_of 73 = .ok (.iload_n 1, 1) := by decide +kernel
theorem dX7_of_74 : decode cX7_of 74 = .ok (.iconst 0, 1) := by decide +kernel
theorem dX7_of_75 : decode cX7_of 75 = .ok (.invokevirtual 53, 3) := by decide +kernel
theorem dX7_of_78 : decode cX7_of 78 = .ok (.ifCond .ge 8, 3) := by decide +kernel
theorem dX7_of_81 : decode cX7_of 81 = .ok (.bipush (-6), 2) := by decide +kernel
theorem dX7_of_83 : decode cX7_of 83 = .ok (.goto 9, 3) := by decide +kernel
theorem dX7_of_86 : decode cX7_of 86 = .ok (.aload_n 0, 1) := by decide +kernel
theorem dX7_of_87 : decode cX7_of 87 = .ok (.iload_n 1, 1) := by decide +kernel
theorem dX7_of_88 : decode cX7_of 88 = .ok (.iconst 0, 1) := by decide +kernel
theorem dX7_of_89 : decode cX7_of 89 = .ok (.invokevirtual 53, 3) := by decide +kernel
theorem dX7_of_92 : decode cX7_of 92 = .ok (.ireturn, 1) := by decide +kernel
theorem dX7_of_93 : decode cX7_of 93 = .ok (.aload_n 0, 1) := by decide +kernel
theorem dX7_of_94 : decode cX7_of 94 = .ok (.iload_n 1, 1) := by decide +kernel
theorem dX7_of_95 : decode cX7_of 95 = .ok (.invokevirtual 70, 3) := by decide +kernel
theorem dX7_of_98 : decode cX7_of 98 = .ok (.ireturn, 1) := by decide +kernel
theorem dX7_of_99 : decode cX7_of 99 = .ok (.aload_n 0, 1) := by decide +kernel
theorem dX7_of_100 : decode cX7_of 100 = .ok (.iload_n 1, 1) := by decide +kernel
theorem dX7_of_101 : decode cX7_of 101 = .ok (.iload_n 2, 1) := by decide +kernel
theorem dX7_of_102 : decode cX7_of 102 = .ok (.iconst 1, 1) := by decide +kernel
theorem dX7_of_103 : decode cX7_of 103 = .ok (.isub, 1) := by decide +kernel
theorem dX7_of_104 : decode cX7_of 104 = .ok (.invokevirtual 53, 3) := by decide +kernel
theorem dX7_of_107 : decode cX7_of 107 = .ok (.ireturn, 1) := by decide +kernel
theorem dX7_of_108 : decode cX7_of 108 = .ok (.aload_n 0, 1) := by decide +kernel
theorem dX7_of_109 : decode cX7_of 109 = .ok (.getfield 7, 3) := by decide +kernel
theorem dX7_of_112 : decode cX7_of 112 = .ok (.iconst 0, 1) := by decide +kernel
theorem dX7_of_113 : decode cX7_of 113 = .ok (.iload_n 1, 1) := by decide +kernel
theorem dX7_of_114 : decode cX7_of 114 = .ok (.invokestatic 45, 3) := by decide +kernel
theorem dX7_of_117 : decode cX7_of 117 = .ok (.iconst 5, 1) := by decide +kernel
theorem dX7_of_118 : decode cX7_of 118 = .ok (.iadd, 1) := by decide +kernel
theorem dX7_of_119 : decode cX7_of 119 = .ok (.laload, 1) := by decide +kernel
theorem dX7_of_120 : decode cX7_of 120 = .ok (.ldc2_w 68, 3) := by decide +kernel
theorem dX7_of_123 : decode cX7_of 123 = .ok (.ldiv, 1) := by decide +kernel
theorem dX7_of_124 : decode cX7_of 124 = .ok (.l2i, 1) := by decide +kernel
theorem dX7_of_125 : decode cX7_of 125 = .ok (.ireturn, 1) := by decide +kernel
theorem dX7_of_126 : decode cX7_of 126 = .ok (.aload_n 0, 1) := by decide +kernel
theorem dX7_of_127 : decode cX7_of 127 = .ok (.iload_n 1, 1) := by decide +kernel
theorem dX7_of_128 : decode cX7_of 128 = .ok (.bipush 6, 2) := by decide +kernel
theorem dX7_of_130 : decode cX7_of 130 = .ok (.invokevirtual 53, 3) := by decide +kernel
theorem dX7_of_133 : decode cX7_of 133 = .ok (.ireturn, 1) := by decide +kernel
theorem dX7_of_134 : decode cX7_of 134 = .ok (.aload_n 0, 1) := by decide +kernel
theorem dX7_of_135 : decode cX7_of 135 = .ok (.iload_n 1, 1) := by decide +kernel
theorem dX7_of_136 : decode cX7_of 136 = .ok (.bipush 7, 2) := by decide +kernel
theorem dX7_of_138 : decode cX7_of 138 = .ok (.invokevirtual 53, 3) := by decide +kernel
theorem dX7_of_141 : decode cX7_of 141 = .ok (.ireturn, 1) := by decide +kernel
theorem dX7_of_142 : decode cX7_of 142 = .ok (.aload_n 0, 1) := by decide +kernel
theorem dX7_of_143 : decode cX7_of 143 = .ok (.iload_n 1, 1) := by decide +kernel
theorem dX7_of_144 : decode cX7_of 144 = .ok (.bipush 8, 2) := by decide +kernel
theorem dX7_of_146 : decode cX7_of 146 = .ok (.invokevirtual 53, 3) := by decide +kernel
theorem dX7_of_149 : decode cX7_of 149 = .ok (.ireturn, 1) := by decide +kernel
theorem dX7_of_150 : decode cX7_of 150 = .ok (.aload_n 0, 1) := by decide +kernel
theorem dX7_of_151 : decode cX7_of 151 = .ok (.iload_n 1, 1) := by decide +kernel
theorem dX7_of_152 : decode cX7_of 152 = .ok (.invokevirtual 145, 3) := by decide +kernel
theorem dX7_of_155 : decode cX7_of 155 = .ok (.ireturn, 1) := by decide +kernel
theorem dX7_of_156 : decode cX7_of 156 = .ok (.aload_n 0, 1) := by decide +kernel
theorem dX7_of_157 : decode cX7_of 157 = .ok (.iload_n 1, 1) := by decide +kernel
theorem dX7_of_158 : decode cX7_of 158 = .ok (.bipush 10, 2) := by decide +kernel
theorem dX7_of_160 : decode cX7_of 160 = .ok (.invokevirtual 53, 3) := by decide +kernel
theorem dX7_of_163 : decode cX7_of 163 = .ok (.ireturn, 1) := by decide +kernel
theorem dX7_of_164 : decode cX7_of 164 = .ok (.bipush (-2), 2) := by decide +kernel
theorem dX7_of_166 : decode cX7_of 166 = .ok (.ireturn, 1) := by decide +kernel
set_option maxRecDepth 20000 in
theorem ggX7_ofLoad_X7_isLoad : GoodIn wsX7_ofLoad wsX7_isLoad := goodIn_r _ [5, 6, 7, 8, 4, 9, 10, 11, 12, 13, 14, 15, 16, 17, 18, 19, 20] (by decide +kernel) (by decide +kernel)
set_option maxRecDepth 20000 in
theorem gX7_ofLoad_X7_isLoad : GoodIn wsX7_ofLoad (wsV RX7 113 RX7 yX7_isLoad wsX7_isLoad) := goodIn_app (goodIn_of _ (by decide +kernel)) ggX7_ofLoad_X7_isLoad
set_option maxRecDepth 20000 in
theorem ggX7_ofLoad_X7_in : GoodIn wsX7_ofLoad wsX7_in := goodIn_r _ [13] (by decide +kernel) (by decide +kernel)
set_option maxRecDepth 20000 in
theorem gX7_ofLoad_X7_in : GoodIn wsX7_ofLoad (va_wsS RX7 41 yX7_in wsX7_in) := goodIn_app (goodIn_of _ (by decide +kernel)) ggX7_ofLoad_X7_in
set_option maxRecDepth 20000 in
theorem ggX7_ofLoad_X7_num : GoodIn wsX7_ofLoad wsX7_num := goodIn_r _ [9, 10, 14, 15, 16, 17, 18, 19, 20] (by decide +kernel) (by decide +kernel)
set_option maxRecDepth 20000 in
theorem gX7_ofLoad_X7_num : GoodIn wsX7_ofLoad (wsV RX7 37 RX7 yX7_num wsX7_num) := goodIn_app (goodIn_of _ (by decide +kernel)) ggX7_ofLoad_X7_num
theorem dX7_ofLoad_0 : decode cX7_ofLoad 0 = .ok (.aload_n 0, 1) := by decide +kernel
theorem dX7_ofLoad_1 : decode cX7_ofLoad 1 = .ok (.iload_n 1, 1) := by decide +kernel
theorem dX7_ofLoad_2 : decode cX7_ofLoad 2 = .ok (.invokevirtual 113, 3) := by decide +kernel
theorem dX7_ofLoad_5 : decode cX7_ofLoad 5 = .ok (.ifCond .ne 5, 3) := by decide +kernel
theorem dX7_ofLoad_8 : decode cX7_ofLoad 8 = .ok (.iconst (-1), 1) := by decide +kernel
theorem dX7_ofLoad_9 : decode cX7_ofLoad 9 = .ok (.ireturn, 1) := by decide +kernel
theorem dX7_ofLoad_10 : decode cX7_ofLoad 10 = .ok (.iload_n 2, 1) := by decide +kernel
theorem dX7_ofLoad_11 : decode cX7_ofLoad 11 = .ok (.iconst 0, 1) := by decide +kernel
theorem dX7_ofLoad_12 : decode cX7_ofLoad 12 = .ok (.iconst 2, 1) := by decide +kernel
theorem dX7_ofLoad_13 : decode cX7_ofLoad 13 = .ok (.invokestatic 41, 3) := by decide +kernel
theorem dX7_ofLoad_16 : decode cX7_ofLoad 16 = .ok (.ifCond .eq 18, 3) := by decide +kernel
theorem dX7_ofLoad_19 : decode cX7_ofLoad 19 = .ok (.aload_n 0, 1) := by decide +kernel
theorem dX7_ofLoad_20 : decode cX7_ofLoad 20 = .ok (.bipush 102, 2) := by decide +kernel
theorem dX7_ofLoad_22 : decode cX7_ofLoad 22 = .ok (.iconst 3, 1) := by decide +kernel
theorem dX7_ofLoad_23 : decode cX7_ofLoad 23 = .ok (.iload_n 1, 1) := by decide +kernel
theorem dX7_ofLoad_24 : decode cX7_ofLoad 24 = .ok (.imul, 1) := by decide +kernel
theorem dX7_ofLoad_25 : decode cX7_ofLoad 25 = .ok (.iadd, 1) := by decide +kernel
theorem dX7_ofLoad_26 : decode cX7_ofLoad 26 = .ok (.iload_n 2, 1) := by decide +kernel
theorem dX7_ofLoad_27 : decode cX7_ofLoad 27 = .ok (.iadd, 1) := by decide +kernel
theorem dX7_ofLoad_28 : decode cX7_ofLoad 28 = .ok (.invokevirtual 37, 3) := by decide +kernel
theorem dX7_ofLoad_31 : decode cX7_ofLoad 31 = .ok (.goto 5, 3) := by decide +kernel
theorem dX7_ofLoad_34 : decode cX7_ofLoad 34 = .ok (.bipush (-2), 2) := by decide +kernel
theorem dX7_ofLoad_36 : decode cX7_ofLoad 36 = .ok (.ireturn, 1) := by decide +kernel
set_option maxRecDepth 20000 in
theorem ggX7_turnsOf_X7_its : GoodIn wsX7_turnsOf wsX7_its := goodIn_r _ [5, 6, 7, 8, 4, 9, 10, 11, 12, 13, 14, 15, 16] (by decide +kernel) (by decide +kernel)
set_option maxRecDepth 20000 in
theorem gX7_turnsOf_X7_its : GoodIn wsX7_turnsOf (wsV RX7 53 RX7 yX7_its wsX7_its) := goodIn_app (goodIn_of _ (by decide +kernel)) ggX7_turnsOf_X7_its
theorem dX7_turnsOf_0 : decode cX7_turnsOf 0 = .ok (.aload_n 0, 1) := by decide +kernel
theorem dX7_turnsOf_1 : decode cX7_turnsOf 1 = .ok (.iload_n 1, 1) := by decide +kernel
theorem dX7_turnsOf_2 : decode cX7_turnsOf 2 = .ok (.iconst 3, 1) := by decide +kernel
theorem dX7_turnsOf_3 : decode cX7_turnsOf 3 = .ok (.invokevirtual 53, 3) := by decide +kernel
theorem dX7_turnsOf_6 : decode cX7_turnsOf 6 = .ok (.aload_n 0, 1) := by decide +kernel
theorem dX7_turnsOf_7 : decode cX7_turnsOf 7 = .ok (.iload_n 1, 1) := by decide +kernel
theorem dX7_turnsOf_8 : decode cX7_turnsOf 8 = .ok (.iconst 4, 1) := by decide +kernel
theorem dX7_turnsOf_9 : decode cX7_turnsOf 9 = .ok (.invokevirtual 53, 3) := by decide +kernel
theorem dX7_turnsOf_12 : decode cX7_turnsOf 12 = .ok (.iadd, 1) := by decide +kernel
theorem dX7_turnsOf_13 : decode cX7_turnsOf 13 = .ok (.ireturn, 1) := by decide +kernel
set_option maxRecDepth 20000 in
theorem ggX7_misses_X7_isMeter : GoodIn wsX7_misses wsX7_isMeter := goodIn_r _ [9, 10, 11, 12, 8, 13, 2, 14, 15, 16, 28, 29, 30, 31, 32, 33, 34] (by decide +kernel) (by decide +kernel)
set_option maxRecDepth 20000 in
theorem gX7_misses_X7_isMeter : GoodIn wsX7_misses (wsV RX7 95 RX7 yX7_isMeter wsX7_isMeter) := goodIn_app (goodIn_of _ (by decide +kernel)) ggX7_misses_X7_isMeter
set_option maxRecDepth 20000 in
theorem ggX7_misses_X7_at : GoodIn wsX7_misses wsX7_at := goodIn_r _ [19] (by decide +kernel) (by decide +kernel)
set_option maxRecDepth 20000 in
theorem gX7_misses_X7_at : GoodIn wsX7_misses (va_wsS RX7 45 yX7_at wsX7_at) := goodIn_app (goodIn_of _ (by decide +kernel)) ggX7_misses_X7_at
set_option maxRecDepth 20000 in
theorem ggX7_misses_X7_turnsOf : GoodIn wsX7_misses wsX7_turnsOf := goodIn_r _ [23, 24, 25, 26, 8, 27, 2, 17, 18, 19, 28, 29, 30, 31, 32, 33, 34] (by decide +kernel) (by decide +kernel)
set_option maxRecDepth 20000 in
theorem gX7_misses_X7_turnsOf : GoodIn wsX7_misses (wsV RX7 148 RX7 yX7_turnsOf wsX7_turnsOf) := goodIn_app (goodIn_of _ (by decide +kernel)) ggX7_misses_X7_turnsOf
set_option maxRecDepth 20000 in
theorem ggX7_misses_X7_its : GoodIn wsX7_misses wsX7_its := goodIn_r _ [27, 2, 17, 18, 8, 19, 28, 29, 30, 31, 32, 33, 34] (by decide +kernel) (by decide +kernel)
set_option maxRecDepth 20000 in
theorem gX7_misses_X7_its : GoodIn wsX7_misses (wsV RX7 53 RX7 yX7_its wsX7_its) := goodIn_app (goodIn_of _ (by decide +kernel)) ggX7_misses_X7_its
theorem dX7_misses_0 : decode cX7_misses 0 = .ok (.aload_n 0, 1) := by decide +kernel
theorem dX7_misses_1 : decode cX7_misses 1 = .ok (.iload_n 1, 1) := by decide +kernel
theorem dX7_misses_2 : decode cX7_misses 2 = .ok (.invokevirtual 95, 3) := by decide +kernel
theorem dX7_misses_5 : decode cX7_misses 5 = .ok (.ifCond .ne 7, 3) := by decide +kernel
theorem dX7_misses_8 : decode cX7_misses 8 = .ok (.ldc2_w 99, 3) := by decide +kernel
theorem dX7_misses_11 : decode cX7_misses 11 = .ok (.lreturn, 1) := by decide +kernel
theorem dX7_misses_12 : decode cX7_misses 12 = .ok (.aload_n 0, 1) := by decide +kernel
theorem dX7_misses_13 : decode cX7_misses 13 = .ok (.getfield 7, 3) := by decide +kernel
theorem dX7_misses_16 : decode cX7_misses 16 = .ok (.iconst 0, 1) := by decide +kernel
theorem dX7_misses_17 : decode cX7_misses 17 = .ok (.iload_n 1, 1) := by decide +kernel
theorem dX7_misses_18 : decode cX7_misses 18 = .ok (.invokestatic 45, 3) := by decide +kernel
theorem dX7_misses_21 : decode cX7_misses 21 = .ok (.iconst 5, 1) := by decide +kernel
theorem dX7_misses_22 : decode cX7_misses 22 = .ok (.iadd, 1) := by decide +kernel
theorem dX7_misses_23 : decode cX7_misses 23 = .ok (.laload, 1) := by decide +kernel
theorem dX7_misses_24 : decode cX7_misses 24 = .ok (.ldc2_w 68, 3) := by decide +kernel
theorem dX7_misses_27 : decode cX7_misses 27 = .ok (.aload_n 0, 1) := by decide +kernel
theorem dX7_misses_28 : decode cX7_misses 28 = .ok (.iload_n 1, 1) := by decide +kernel
theorem dX7_misses_29 : decode cX7_misses 29 = .ok (.invokevirtual 148, 3) := by decide +kernel
theorem dX7_misses_32 : decode cX7_misses 32 = .ok (.i2l, 1) := by decide +kernel
theorem dX7_misses_33 : decode cX7_misses 33 = .ok (.lmul, 1) := by decide +kernel
theorem dX7_misses_34 : decode cX7_misses 34 = .ok (.lsub, 1) := by decide +kernel
theorem dX7_misses_35 : decode cX7_misses 35 = .ok (.aload_n 0, 1) := by decide +kernel
theorem dX7_misses_36 : decode cX7_misses 36 = .ok (.iload_n 1, 1) := by decide +kernel
theorem dX7_misses_37 : decode cX7_misses 37 = .ok (.iconst 1, 1) := by decide +kernel
theorem dX7_misses_38 : decode cX7_misses 38 = .ok (.invokevirtual 53, 3) := by decide +kernel
theorem dX7_misses_41 : decode cX7_misses 41 = .ok (.i2l, 1) := by decide +kernel
theorem dX7_misses_42 : decode cX7_misses 42 = .ok (.lsub, 1) := by decide +kernel
theorem dX7_misses_43 : decode cX7_misses 43 = .ok (.ldc2_w 151, 3) := by decide +kernel
theorem dX7_misses_46 : decode cX7_misses 46 = .ok (.ladd, 1) := by decide +kernel
theorem dX7_misses_47 : decode cX7_misses 47 = .ok (.lreturn, 1) := by decide +kernel
set_option maxRecDepth 20000 in
theorem ggX7_fed_X7_isMeter : GoodIn wsX7_fed wsX7_isMeter := goodIn_r _ [5, 6, 7, 8, 4, 9, 10, 11, 12, 13, 25, 26, 27, 28, 29, 30, 31] (by decide +kernel) (by decide +kernel)
set_option maxRecDepth 20000 in
theorem gX7_fed_X7_isMeter : GoodIn wsX7_fed (wsV RX7 95 RX7 yX7_isMeter wsX7_isMeter) := goodIn_app (goodIn_of _ (by decide +kernel)) ggX7_fed_X7_isMeter
set_option maxRecDepth 20000 in
theorem ggX7_fed_X7_num : GoodIn wsX7_fed wsX7_num := goodIn_r _ [9, 10, 25, 26, 27, 28, 29, 30, 31] (by decide +kernel) (by decide +kernel)
set_option maxRecDepth 20000 in
theorem gX7_fed_X7_num : GoodIn wsX7_fed (wsV RX7 37 RX7 yX7_num wsX7_num) := goodIn_app (goodIn_of _ (by decide +kernel)) ggX7_fed_X7_num
set_option maxRecDepth 20000 in
theorem ggX7_fed_X7_isThrough : GoodIn wsX7_fed wsX7_isThrough := goodIn_r _ [17, 18, 19, 20, 4, 21, 10, 22, 23, 24, 25, 26, 27, 28, 29, 30, 31] (by decide +kernel) (by decide +kernel)
set_option maxRecDepth 20000 in
theorem gX7_fed_X7_isThrough : GoodIn wsX7_fed (wsV RX7 56 RX7 yX7_isThrough wsX7_isThrough) := goodIn_app (goodIn_of _ (by decide +kernel)) ggX7_fed_X7_isThrough
theorem dX7_fed_0 : decode cX7_fed 0 = .ok (.aload_n 0, 1) := by decide +kernel
theorem dX7_fed_1 : decode cX7_fed 1 = .ok (.iload_n 1, 1) := by decide +kernel
theorem dX7_fed_2 : decode cX7_fed 2 = .ok (.invokevirtual 95, 3) := by decide +kernel
theorem dX7_fed_5 : decode cX7_fed 5 = .ok (.ifCond .eq 7, 3) := by decide +kernel
theorem dX7_fed_8 : decode cX7_fed 8 = .ok (.iconst 0, 1) := by decide +kernel
theorem dX7_fed_9 : decode cX7_fed 9 = .ok (.goto 4, 3) := by decide +kernel
theorem dX7_fed_12 : decode cX7_fed 12 = .ok (.iconst (-1), 1) := by decide +kernel
theorem dX7_fed_13 : decode cX7_fed 13 = .ok (.istore_n 2, 1) := by decide +kernel
theorem dX7_fed_14 : decode cX7_fed 14 = .ok (.iconst 0, 1) := by decide +kernel
theorem dX7_fed_15 : decode cX7_fed 15 = .ok (.istore_n 3, 1) := by decide +kernel
theorem dX7_fed_16 : decode cX7_fed 16 = .ok (.iload_n 3, 1) := by decide +kernel
theorem dX7_fed_17 : decode cX7_fed 17 = .ok (.aload_n 0, 1) := by decide +kernel
theorem dX7_fed_18 : decode cX7_fed 18 = .ok (.bipush 7, 2) := by decide +kernel
theorem dX7_fed_20 : decode cX7_fed 20 = .ok (.invokevirtual 37, 3) := by decide +kernel
theorem dX7_fed_23 : decode cX7_fed 23 = .ok (.if_icmp .ge 32, 3) := by decide +kernel
theorem dX7_fed_26 : decode cX7_fed 26 = .ok (.iload_n 2, 1) := by decide +kernel
theorem dX7_fed_27 : decode cX7_fed 27 = .ok (.ifCond .lt 28, 3) := by decide +kernel
theorem dX7_fed_30 : decode cX7_fed 30 = .ok (.iload_n 2, 1) := by decide +kernel
theorem dX7_fed_31 : decode cX7_fed 31 = .ok (.aload_n 0, 1) := by decide +kernel
theorem dX7_fed_32 : decode cX7_fed 32 = .ok (.iload_n 3, 1) := by decide +kernel
theorem dX7_fed_33 : decode cX7_fed 33 = .ok (.iload_n 1, 1) := by decide +kernel
theorem dX7_fed_34 : decode cX7_fed 34 = .ok (.invokevirtual 56, 3) := by decide +kernel
theorem dX7_fed_37 : decode cX7_fed 37 = .ok (.ifCond .eq 9, 3) := by decide +kernel
theorem dX7_fed_40 : decode cX7_fed 40 = .ok (.iconst 1, 1) := by decide +kernel
theorem dX7_fed_41 : decode cX7_fed 41 = .ok (.iload_n 3, 1) := by decide +kernel
theorem dX7_fed_42 : decode cX7_fed 42 = .ok (.ishl, 1) := by decide +kernel
theorem dX7_fed_43 : decode cX7_fed 43 = .ok (.goto 4, 3) := by decide +kernel
theorem dX7_fed_46 : decode cX7_fed 46 = .ok (.iconst 0, 1) := by decide +kernel
theorem dX7_fed_47 : decode cX7_fed 47 = .ok (.ior, 1) := by decide +kernel
theorem dX7_fed_48 : decode cX7_fed 48 = .ok (.istore_n 2, 1) := by decide +kernel
theorem dX7_fed_49 : decode cX7_fed 49 = .ok (.iinc 3 1, 3) := by decide +kernel
theorem dX7_fed_52 : decode cX7_fed 52 = .ok (.goto (-36), 3) := by decide +kernel
theorem dX7_fed_55 : decode cX7_fed 55 = .ok (.iload_n 2, 1) := by decide +kernel
theorem dX7_fed_56 : decode cX7_fed 56 = .ok (.ireturn, 1) := by decide +kernel
set_option maxRecDepth 20000 in
theorem ggX7_ofAll_X7_num : GoodIn wsX7_ofAll wsX7_num := goodIn_r _ [6, 1, 18, 19, 20, 21, 22, 23, 24] (by decide +kernel) (by decide +kernel)
set_option maxRecDepth 20000 in
theorem gX7_ofAll_X7_num : GoodIn wsX7_ofAll (wsV RX7 37 RX7 yX7_num wsX7_num) := goodIn_app (goodIn_of _ (by decide +kernel)) ggX7_ofAll_X7_num
set_option maxRecDepth 20000 in
theorem ggX7_ofAll_X7_its : GoodIn wsX7_ofAll wsX7_its := goodIn_r _ [10, 1, 11, 12, 5, 13, 18, 19, 20, 21, 22, 23, 24] (by decide +kernel) (by decide +kernel)
set_option maxRecDepth 20000 in
theorem gX7_ofAll_X7_its : GoodIn wsX7_ofAll (wsV RX7 53 RX7 yX7_its wsX7_its) := goodIn_app (goodIn_of _ (by decide +kernel)) ggX7_ofAll_X7_its
set_option maxRecDepth 20000 in
theorem ggX7_ofAll_X7_turnsOf : GoodIn wsX7_ofAll wsX7_turnsOf := goodIn_r _ [17, 7, 8, 9, 5, 10, 1, 11, 12, 13, 18, 19, 20, 21, 22, 23, 24] (by decide +kernel) (by decide +kernel)
set_option maxRecDepth 20000 in
theorem gX7_ofAll_X7_turnsOf : GoodIn wsX7_ofAll (wsV RX7 148 RX7 yX7_turnsOf wsX7_turnsOf) := goodIn_app (goodIn_of _ (by decide +kernel)) ggX7_ofAll_X7_turnsOf
theorem dX7_ofAll_0 : decode cX7_ofAll 0 = .ok (.iconst 0, 1) := by decide +kernel
theorem dX7_ofAll_1 : decode cX7_ofAll 1 = .ok (.istore_n 2, 1) := by decide +kernel
theorem dX7_ofAll_2 : decode cX7_ofAll 2 = .ok (.iconst 0, 1) := by decide +kernel
theorem dX7_ofAll_3 : decode cX7_ofAll 3 = .ok (.istore_n 3, 1) := by decide +kernel
theorem dX7_ofAll_4 : decode cX7_ofAll 4 = .ok (.iload_n 3, 1) := by decide +kernel
theorem dX7_ofAll_5 : decode cX7_ofAll 5 = .ok (.aload_n 0, 1) := by decide +kernel
theorem dX7_ofAll_6 : decode cX7_ofAll 6 = .ok (.bipush 8, 2) := by decide +kernel
theorem dX7_ofAll_8 : decode cX7_ofAll 8 = .ok (.invokevirtual 37, 3) := by decide +kernel
theorem dX7_ofAll_11 : decode cX7_ofAll 11 = .ok (.if_icmp .ge 42, 3) := by decide +kernel
theorem dX7_ofAll_14 : decode cX7_ofAll 14 = .ok (.iload_n 1, 1) := by decide +kernel
theorem dX7_ofAll_15 : decode cX7_ofAll 15 = .ok (.iconst 4, 1) := by decide +kernel
theorem dX7_ofAll_16 : decode cX7_ofAll 16 = .ok (.if_icmp .ne 37, 3) := by decide +kernel
theorem dX7_ofAll_19 : decode cX7_ofAll 19 = .ok (.iload_n 2, 1) := by decide +kernel
theorem dX7_ofAll_20 : decode cX7_ofAll 20 = .ok (.aload_n 0, 1) := by decide +kernel
theorem dX7_ofAll_21 : decode cX7_ofAll 21 = .ok (.getfield 7, 3) := by decide +kernel
theorem dX7_ofAll_24 : decode cX7_ofAll 24 = .ok (.bipush 102, 2) := by decide +kernel
theorem dX7_ofAll_26 : decode cX7_ofAll 26 = .ok (.iconst 3, 1) := by decide +kernel
theorem dX7_ofAll_27 : decode cX7_ofAll 27 = .ok (.iload_n 3, 1) := by decide +kernel
theorem dX7_ofAll_28 : decode cX7_ofAll 28 = .ok (.imul, 1) := by decide +kernel
theorem dX7_ofAll_29 : decode cX7_ofAll 29 = .ok (.iadd, 1) := by decide +kernel
theorem dX7_ofAll_30 : decode cX7_ofAll 30 = .ok (.iconst 2, 1) := by decide +kernel
theorem dX7_ofAll_31 : decode cX7_ofAll 31 = .ok (.iadd, 1) := by decide +kernel
theorem dX7_ofAll_32 : decode cX7_ofAll 32 = .ok (.laload, 1) := by decide +kernel
theorem dX7_ofAll_33 : decode cX7_ofAll 33 = .ok (.lconst 1, 1) := by decide +kernel
theorem dX7_ofAll_34 : decode cX7_ofAll 34 = .ok (.lcmp, 1) := by decide +kernel
theorem dX7_ofAll_35 : decode cX7_ofAll 35 = .ok (.ifCond .ne 9, 3) := by decide +kernel
theorem dX7_ofAll_38 : decode cX7_ofAll 38 = .ok (.iconst 1, 1) := by decide +kernel
theorem dX7_ofAll_39 : decode cX7_ofAll 39 = .ok (.iload_n 3, 1) := by decide +kernel
theorem dX7_ofAll_40 : decode cX7_ofAll 40 = .ok (.ishl, 1) := by decide +kernel
theorem dX7_ofAll_41 : decode cX7_ofAll 41 = .ok (.goto 4, 3) := by decide +kernel
theorem dX7_ofAll_44 : decode cX7_ofAll 44 = .ok (.iconst 0, 1) := by decide +kernel
theorem dX7_ofAll_45 : decode cX7_ofAll 45 = .ok (.ior, 1) := by decide +kernel
theorem dX7_ofAll_46 : decode cX7_ofAll 46 = .ok (.istore_n 2, 1) := by decide +kernel
theorem dX7_ofAll_47 : decode cX7_ofAll 47 = .ok (.iinc 3 1, 3) := by decide +kernel
theorem dX7_ofAll_50 : decode cX7_ofAll 50 = .ok (.goto (-46), 3) := by decide +kernel
theorem dX7_ofAll_53 : decode cX7_ofAll 53 = .ok (.iconst 0, 1) := by decide +kernel
theorem dX7_ofAll_54 : decode cX7_ofAll 54 = .ok (.istore_n 3, 1) := by decide +kernel
theorem dX7_ofAll_55 : decode cX7_ofAll 55 = .ok (.iload_n 3, 1) := by decide +kernel
theorem dX7_ofAll_56 : decode cX7_ofAll 56 = .ok (.aload_n 0, 1) := by decide +kernel
theorem dX7_ofAll_57 : decode cX7_ofAll 57 = .ok (.bipush 7, 2) := by decide +kernel
theorem dX7_ofAll_59 : decode cX7_ofAll 59 = .ok (.invokevirtual 37, 3) := by decide +kernel
theorem dX7_ofAll_62 : decode cX7_ofAll 62 = .ok (.if_icmp .ge 41, 3) := by decide +kernel
theorem dX7_ofAll_65 : decode cX7_ofAll 65 = .ok (.iload_n 1, 1) := by decide +kernel
theorem dX7_ofAll_66 : decode cX7_ofAll 66 = .ok (.iconst 4, 1) := by decide +kernel
theorem dX7_ofAll_67 : decode cX7_ofAll 67 = .ok (.if_icmp .le 36, 3) := by decide +kernel
theorem dX7_ofAll_70 : decode cX7_ofAll 70 = .ok (.iload_n 1, 1) := by decide +kernel
theorem dX7_ofAll_71 : decode cX7_ofAll 71 = .ok (.iconst 5, 1) := by decide +kernel
theorem dX7_ofAll_72 : decode cX7_ofAll 72 = .ok (.if_icmp .ne 17, 3) := by decide +kernel
theorem dX7_ofAll_75 : decode cX7_ofAll 75 = .ok (.iload_n 2, 1) := by decide +kernel
theorem dX7_ofAll_76 : decode cX7_ofAll 76 = .ok (.aload_n 0, 1) := by decide +kernel
theorem dX7_ofAll_77 : decode cX7_ofAll 77 = .ok (.iload_n 3, 1) := by decide +kernel
theorem dX7_ofAll_78 : decode cX7_ofAll 78 = .ok (.bipush 7, 2) := by decide +kernel
theorem dX7_ofAll_80 : decode cX7_ofAll 80 = .ok (.invokevirtual 53, 3) := by decide +kernel
theorem dX7_ofAll_83 : decode cX7_ofAll 83 = .ok (.iload_n 3, 1) := by decide +kernel
theorem dX7_ofAll_84 : decode cX7_ofAll 84 = .ok (.ishl, 1) := by decide +kernel
theorem dX7_ofAll_85 : decode cX7_ofAll 85 = .ok (.ior, 1) := by decide +kernel
theorem dX7_ofAll_86 : decode cX7_ofAll 86 = .ok (.goto 10, 3) := by decide +kernel
theorem dX7_ofAll_89 : decode cX7_ofAll 89 = .ok (.iload_n 2, 1) := by decide +kernel
theorem dX7_ofAll_90 : decode cX7_ofAll 90 = .ok (.aload_n 0, 1) := by decide +kernel
theorem dX7_ofAll_91 : decode cX7_ofAll 91 = .ok (.iload_n 3, 1) := by decide +kernel
theorem dX7_ofAll_92 : decode cX7_ofAll 92 = .ok (.invokevirtual 148, 3) := by decide +kernel
theorem dX7_ofAll_95 : decode cX7_ofAll 95 = .ok (.iadd, 1) := by decide +kernel
theorem dX7_ofAll_96 : decode cX7_ofAll 96 = .ok (.istore_n 2, 1) := by decide +kernel
theorem dX7_ofAll_97 : decode cX7_ofAll 97 = .ok (.iinc 3 1, 3) := by decide +kernel
theorem dX7_ofAll_100 : decode cX7_ofAll 100 = .ok (.goto (-45), 3) := by decide +kernel
theorem dX7_ofAll_103 : decode cX7_ofAll 103 = .ok (.iload_n 2, 1) := by decide +kernel
theorem dX7_ofAll_104 : decode cX7_ofAll 104 = .ok (.ireturn, 1) := by decide +kernel
set_option maxRecDepth 20000 in
theorem ggX7_count_X7_num : GoodIn wsX7_count wsX7_num := goodIn_r _ [8, 1, 33, 34, 35, 36, 37, 38, 39] (by decide +kernel) (by decide +kernel)
set_option maxRecDepth 20000 in
theorem gX7_count_X7_num : GoodIn wsX7_count (wsV RX7 37 RX7 yX7_num wsX7_num) := goodIn_app (goodIn_of _ (by decide +kernel)) ggX7_count_X7_num
set_option maxRecDepth 20000 in
theorem ggX7_count_X7_isNight : GoodIn wsX7_count wsX7_isNight := goodIn_r _ [11, 12, 13, 14] (by decide +kernel) (by decide +kernel)
set_option maxRecDepth 20000 in
theorem gX7_count_X7_isNight : GoodIn wsX7_count (va_wsS RX7 77 yX7_isNight wsX7_isNight) := goodIn_app (goodIn_of _ (by decide +kernel)) ggX7_count_X7_isNight
set_option maxRecDepth 20000 in
theorem ggX7_count_X7_ofAll : GoodIn wsX7_count wsX7_ofAll := goodIn_r _ [18, 1, 4, 5, 6, 7, 8, 19, 20, 21, 22, 23, 24, 25, 26, 27, 28, 29, 33, 34, 35, 36, 37, 38, 39] (by decide +kernel) (by decide +kernel)
set_option maxRecDepth 20000 in
theorem gX7_count_X7_ofAll : GoodIn wsX7_count (wsV RX7 153 RX7 yX7_ofAll wsX7_ofAll) := goodIn_app (goodIn_of _ (by decide +kernel)) ggX7_count_X7_ofAll
set_option maxRecDepth 20000 in
theorem ggX7_count_X7_in : GoodIn wsX7_count wsX7_in := goodIn_r _ [32] (by decide +kernel) (by decide +kernel)
set_option maxRecDepth 20000 in
theorem gX7_count_X7_in : GoodIn wsX7_count (va_wsS RX7 41 yX7_in wsX7_in) := goodIn_app (goodIn_of _ (by decide +kernel)) ggX7_count_X7_in
theorem dX7_count_0 : decode cX7_count 0 = .ok (.iload_n 1, 1) := by decide +kernel
theorem dX7_count_1 : decode cX7_count 1 = .ok (.tableswitch 148 0 16 #[83, 90, 109, 109, 120, 120, 120, 126, 126, 148, 148, 148, 148, 148, 148, 138, 143], 83) := by decide +kernel
theorem dX7_count_84 : decode cX7_count 84 = .ok (.aload_n 0, 1) := by decide +kernel
theorem dX7_count_85 : decode cX7_count 85 = .ok (.bipush 6, 2) := by decide +kernel
theorem dX7_count_87 : decode cX7_count 87 = .ok (.invokevirtual 37, 3) := by decide +kernel
theorem dX7_count_90 : decode cX7_count 90 = .ok (.ireturn, 1) := by decide +kernel
theorem dX7_count_91 : decode cX7_count 91 = .ok (.aload_n 0, 1) := by decide +kernel
theorem dX7_count_92 : decode cX7_count 92 = .ok (.getfield 7, 3) := by decide +kernel
theorem dX7_count_95 : decode cX7_count 95 = .ok (.bipush 6, 2) := by decide +kernel
theorem dX7_count_97 : decode cX7_count 97 = .ok (.laload, 1) := by decide +kernel
theorem dX7_count_98 : decode cX7_count 98 = .ok (.invokestatic 77, 3) := by decide +kernel
theorem dX7_count_101 : decode cX7_count 101 = .ok (.ifCond .eq 7, 3) := by decide +kernel
theorem dX7_count_104 : decode cX7_count 104 = .ok (.iconst 1, 1) := by decide +kernel
theorem dX7_count_105 : decode cX7_count 105 = .ok (.goto 4, 3) := by decide +kernel
theorem dX7_count_108 : decode cX7_count 108 = .ok (.iconst 0, 1) := by decide +kernel
theorem dX7_count_109 : decode cX7_count 109 = .ok (.ireturn, 1) := by decide +kernel
theorem dX7_count_110 : decode cX7_count 110 = .ok (.aload_n 0, 1) := by decide +kernel
theorem dX7_count_111 : decode cX7_count 111 = .ok (.bipush 7, 2) := by decide +kernel
theorem dX7_count_113 : decode cX7_count 113 = .ok (.iload_n 1, 1) := by decide +kernel
theorem dX7_count_114 : decode cX7_count 114 = .ok (.iadd, 1) := by decide +kernel
theorem dX7_count_115 : decode cX7_count 115 = .ok (.iconst 2, 1) := by decide +kernel
theorem dX7_count_116 : decode cX7_count 116 = .ok (.isub, 1) := by decide +kernel
theorem dX7_count_117 : decode cX7_count 117 = .ok (.invokevirtual 37, 3) := by decide +kernel
theorem dX7_count_120 : decode cX7_count 120 = .ok (.ireturn, 1) := by decide +kernel
theorem dX7_count_121 : decode cX7_count 121 = .ok (.aload_n 0, 1) := by decide +kernel
theorem dX7_count_122 : decode cX7_count 122 = .ok (.iload_n 1, 1) := by decide +kernel
theorem dX7_count_123 : decode cX7_count 123 = .ok (.invokevirtual 153, 3) := by decide +kernel
theorem dX7_count_126 : decode cX7_count 126 = .ok (.ireturn, 1) := by decide +kernel
theorem dX7_count_127 : decode cX7_count 127 = .ok (.aload_n 0, 1) := by decide +kernel
theorem dX7_count_128 : decode cX7_count 128 = .ok (.bipush 9, 2) := by decide +kernel
theorem dX7_count_130 : decode cX7_count 130 = .ok (.iload_n 1, 1) := by decide +kernel
theorem dX7_count_131 : decode cX7_count 131 = .ok (.iadd, 1) := by decide +kernel
theorem dX7_count_132 : decode cX7_count 132 = .ok (.bipush 7, 2) := by decide +kernel
theorem dX7_count_134 : decode cX7_count 134 = .ok (.isub, 1) := by decide +kernel
theorem dX7_count_135 : decode cX7_count 135 = .ok (.invokevirtual 37, 3) := by decide +kernel
theorem dX7_count_138 : decode cX7_count 138 = .ok (.ireturn, 1) := by decide +kernel
theorem dX7_count_139 : decode cX7_count 139 = .ok (.aload_n 0, 1) := by decide +kernel
theorem dX7_count_140 : decode cX7_count 140 = .ok (.getfield 135, 3) := by decide +kernel
theorem dX7_count_143 : decode cX7_count 143 = .ok (.ireturn, 1) := by decide +kernel
theorem dX7_count_144 : decode cX7_count 144 = .ok (.aload_n 0, 1) := by decide +kernel
theorem dX7_count_145 : decode cX7_count 145 = .ok (.getfield 49, 3) := by decide +kernel
theorem dX7_count_148 : decode cX7_count 148 = .ok (.ireturn, 1) := by decide +kernel
theorem dX7_count_149 : decode cX7_count 149 = .ok (.iload_n 1, 1) := by decide +kernel
theorem dX7_count_150 : decode cX7_count 150 = .ok (.bipush 9, 2) := by decide +kernel
theorem dX7_count_152 : decode cX7_count 152 = .ok (.bipush 14, 2) := by decide +kernel
theorem dX7_count_154 : decode cX7_count 154 = .ok (.invokestatic 41, 3) := by decide +kernel
theorem dX7_count_157 : decode cX7_count 157 = .ok (.ifCond .eq 14, 3) := by decide +kernel
theorem dX7_count_160 : decode cX7_count 160 = .ok (.aload_n 0, 1) := by decide +kernel
theorem dX7_count_161 : decode cX7_count 161 = .ok (.iload_n 1, 1) := by decide +kernel
theorem dX7_count_162 : decode cX7_count 162 = .ok (.bipush 9, 2) := by decide +kernel
theorem dX7_count_164 : decode cX7_count 164 = .ok (.isub, 1) := by decide +kernel
theorem dX7_count_165 : decode cX7_count 165 = .ok (.invokevirtual 37, 3) := by decide +kernel
theorem dX7_count_168 : decode cX7_count 168 = .ok (.goto 5, 3) := by decide +kernel
theorem dX7_count_171 : decode cX7_count 171 = .ok (.bipush (-2), 2) := by decide +kernel
theorem dX7_count_173 : decode cX7_count 173 = .ok (.ireturn, 1) := by decide +kernel
set_option maxRecDepth 20000 in
theorem ggX7_bill_X7_isMeter : GoodIn wsX7_bill wsX7_isMeter := goodIn_r _ [5, 6, 7, 8, 4, 9, 10, 11, 12, 13, 21, 22, 23, 24, 25, 26, 27] (by decide +kernel) (by decide +kernel)
set_option maxRecDepth 20000 in
theorem gX7_bill_X7_isMeter : GoodIn wsX7_bill (wsV RX7 95 RX7 yX7_isMeter wsX7_isMeter) := goodIn_app (goodIn_of _ (by decide +kernel)) ggX7_bill_X7_isMeter
set_option maxRecDepth 20000 in
theorem ggX7_bill_X7_billOf : GoodIn wsX7_bill wsX7_billOf := goodIn_r _ [17, 10, 18, 19, 4, 20, 21, 22, 23, 24, 25, 26, 27] (by decide +kernel) (by decide +kernel)
set_option maxRecDepth 20000 in
theorem gX7_bill_X7_billOf : GoodIn wsX7_bill (wsV RX7 122 RX7 yX7_billOf wsX7_billOf) := goodIn_app (goodIn_of _ (by decide +kernel)) ggX7_bill_X7_billOf
theorem dX7_bill_0 : decode cX7_bill 0 = .ok (.aload_n 0, 1) := by decide +kernel
theorem dX7_bill_1 : decode cX7_bill 1 = .ok (.iload_n 1, 1) := by decide +kernel
theorem dX7_bill_2 : decode cX7_bill 2 = .ok (.invokevirtual 95, 3) := by decide +kernel
theorem dX7_bill_5 : decode cX7_bill 5 = .ok (.ifCond .eq 11, 3) := by decide +kernel
theorem dX7_bill_8 : decode cX7_bill 8 = .ok (.aload_n 0, 1) := by decide +kernel
theorem dX7_bill_9 : decode cX7_bill 9 = .ok (.iload_n 1, 1) := by decide +kernel
theorem dX7_bill_10 : decode cX7_bill 10 = .ok (.invokevirtual 122, 3) := by decide +kernel
theorem dX7_bill_13 : decode cX7_bill 13 = .ok (.goto 4, 3) := by decide +kernel
theorem dX7_bill_16 : decode cX7_bill 16 = .ok (.iconst (-1), 1) := by decide +kernel
theorem dX7_bill_17 : decode cX7_bill 17 = .ok (.ireturn, 1) := by decide +kernel
set_option maxRecDepth 20000 in
theorem ggX7_turnsIn_X7_isMeter : GoodIn wsX7_turnsIn wsX7_isMeter := goodIn_r _ [6, 7, 8, 9, 5, 10, 1, 11, 12, 13, 51, 52, 53, 54, 55, 56, 57] (by decide +kernel) (by decide +kernel)
set_option maxRecDepth 20000 in
theorem gX7_turnsIn_X7_isMeter : GoodIn wsX7_turnsIn (wsV RX7 95 RX7 yX7_isMeter wsX7_isMeter) := goodIn_app (goodIn_of _ (by decide +kernel)) ggX7_turnsIn_X7_isMeter
set_option maxRecDepth 20000 in
theorem ggX7_turnsIn_X7_copies : GoodIn wsX7_turnsIn wsX7_copies := goodIn_r _ [17, 1, 51, 52, 53, 54, 55, 56, 57] (by decide +kernel) (by decide +kernel)
set_option maxRecDepth 20000 in
theorem gX7_turnsIn_X7_copies : GoodIn wsX7_turnsIn (wsV RX7 156 RX7 yX7_copies wsX7_copies) := goodIn_app (goodIn_of _ (by decide +kernel)) ggX7_turnsIn_X7_copies
set_option maxRecDepth 20000 in
theorem ggX7_turnsIn_X7_passesOne : GoodIn wsX7_turnsIn wsX7_passesOne := goodIn_r _ [21, 1, 22, 23, 24, 25, 5, 26, 27, 28, 29, 30, 7, 8, 9, 10, 31, 32, 33, 34, 35, 36, 37, 38, 39, 40, 41, 42, 43, 44, 45, 46, 47, 48, 49, 50, 51, 52, 53, 54, 55, 56, 57] (by decide +kernel) (by decide +kernel)
set_option maxRecDepth 20000 in
theorem gX7_turnsIn_X7_passesOne : GoodIn wsX7_turnsIn (wsV RX7 83 RX7 yX7_passesOne wsX7_passesOne) := goodIn_app (goodIn_of _ (by decide +kernel)) ggX7_turnsIn_X7_passesOne
theorem dX7_turnsIn_0 : decode cX7_turnsIn 0 = .ok (.aload_n 0, 1) := by decide +kernel
theorem dX7_turnsIn_1 : decode cX7_turnsIn 1 = .ok (.iload_n 1, 1) := by decide +kernel
theorem dX7_turnsIn_2 : decode cX7_turnsIn 2 = .ok (.invokevirtual 95, 3) := by decide +kernel
theorem dX7_turnsIn_5 : decode cX7_turnsIn 5 = .ok (.ifCond .ne 5, 3) := by decide +kernel
theorem dX7_turnsIn_8 : decode cX7_turnsIn 8 = .ok (.iconst (-1), 1) := by decide +kernel
theorem dX7_turnsIn_9 : decode cX7_turnsIn 9 = .ok (.ireturn, 1) := by decide +kernel
theorem dX7_turnsIn_10 : decode cX7_turnsIn 10 = .ok (.aload_n 0, 1) := by decide +kernel
theorem dX7_turnsIn_11 : decode cX7_turnsIn 11 = .ok (.invokevirtual 156, 3) := by decide +kernel
theorem dX7_turnsIn_14 : decode cX7_turnsIn 14 = .ok (.iconst 1, 1) := by decide +kernel
theorem dX7_turnsIn_15 : decode cX7_turnsIn 15 = .ok (.istore_n 2, 1) := by decide +kernel
theorem dX7_turnsIn_16 : decode cX7_turnsIn 16 = .ok (.iload_n 2, 1) := by decide +kernel
theorem dX7_turnsIn_17 : decode cX7_turnsIn 17 = .ok (.sipush 3000, 3) := by decide +kernel
theorem dX7_turnsIn_20 : decode cX7_turnsIn 20 = .ok (.if_icmp .gt 36, 3) := by decide +kernel
theorem dX7_turnsIn_23 : decode cX7_turnsIn 23 = .ok (.aload_n 0, 1) := by decide +kernel
theorem dX7_turnsIn_24 : decode cX7_turnsIn 24 = .ok (.sipush 138, 3) := by decide +kernel
theorem dX7_turnsIn_27 : decode cX7_turnsIn 27 = .ok (.iload_n 1, 1) := by decide +kernel
theorem dX7_turnsIn_28 : decode cX7_turnsIn 28 = .ok (.invokevirtual 83, 3) := by decide +kernel
theorem dX7_turnsIn_31 : decode cX7_turnsIn 31 = .ok (.istore_n 3, 1) := by decide +kernel
theorem dX7_turnsIn_32 : decode cX7_turnsIn 32 = .ok (.aload_n 0, 1) := by decide +kernel
theorem dX7_turnsIn_33 : decode cX7_turnsIn 33 = .ok (.getfield 7, 3) := by decide +kernel
theorem dX7_turnsIn_36 : decode cX7_turnsIn 36 = .ok (.sipush 144, 3) := by decide +kernel
theorem dX7_turnsIn_39 : decode cX7_turnsIn 39 = .ok (.dup2, 1) := by decide +kernel
theorem dX7_turnsIn_40 : decode cX7_turnsIn 40 = .ok (.laload, 1) := by decide +kernel
theorem dX7_turnsIn_41 : decode cX7_turnsIn 41 = .ok (.lconst 1, 1) := by decide +kernel
theorem dX7_turnsIn_42 : decode cX7_turnsIn 42 = .ok (.ladd, 1) := by decide +kernel
theorem dX7_turnsIn_43 : decode cX7_turnsIn 43 = .ok (.lastore, 1) := by decide +kernel
theorem dX7_turnsIn_44 : decode cX7_turnsIn 44 = .ok (.iload_n 3, 1) := by decide +kernel
theorem dX7_turnsIn_45 : decode cX7_turnsIn 45 = .ok (.ifCond .le 5, 3) := by decide +kernel
theorem dX7_turnsIn_48 : decode cX7_turnsIn 48 = .ok (.iload_n 2, 1) := by decide +kernel
theorem dX7_turnsIn_49 : decode cX7_turnsIn 49 = .ok (.ireturn, 1) := by decide +kernel
theorem dX7_turnsIn_50 : decode cX7_turnsIn 50 = .ok (.iinc 2 1, 3) := by decide +kernel
theorem dX7_turnsIn_53 : decode cX7_turnsIn 53 = .ok (.goto (-37), 3) := by decide +kernel
theorem dX7_turnsIn_56 : decode cX7_turnsIn 56 = .ok (.bipush (-6), 2) := by decide +kernel
theorem dX7_turnsIn_58 : decode cX7_turnsIn 58 = .ok (.ireturn, 1) := by decide +kernel
set_option maxRecDepth 20000 in
theorem ggX7_wouldTurn_X7_isMeter : GoodIn wsX7_wouldTurn wsX7_isMeter := goodIn_r _ [6, 7, 8, 9, 5, 10, 1, 11, 12, 13, 51, 52, 53, 54, 55, 56, 57] (by decide +kernel) (by decide +kernel)
set_option maxRecDepth 20000 in
theorem gX7_wouldTurn_X7_isMeter : GoodIn wsX7_wouldTurn (wsV RX7 95 RX7 yX7_isMeter wsX7_isMeter) := goodIn_app (goodIn_of _ (by decide +kernel)) ggX7_wouldTurn_X7_isMeter
set_option maxRecDepth 20000 in
theorem ggX7_wouldTurn_X7_in : GoodIn wsX7_wouldTurn wsX7_in := goodIn_r _ [13] (by decide +kernel) (by decide +kernel)
set_option maxRecDepth 20000 in
theorem gX7_wouldTurn_X7_in : GoodIn wsX7_wouldTurn (va_wsS RX7 41 yX7_in wsX7_in) := goodIn_app (goodIn_of _ (by decide +kernel)) ggX7_wouldTurn_X7_in
set_option maxRecDepth 20000 in
theorem ggX7_wouldTurn_X7_copies : GoodIn wsX7_wouldTurn wsX7_copies := goodIn_r _ [17, 1, 51, 52, 53, 54, 55, 56, 57] (by decide +kernel) (by decide +kernel)
set_option maxRecDepth 20000 in
theorem gX7_wouldTurn_X7_copies : GoodIn wsX7_wouldTurn (wsV RX7 156 RX7 yX7_copies wsX7_copies) := goodIn_app (goodIn_of _ (by decide +kernel)) ggX7_wouldTurn_X7_copies
set_option maxRecDepth 20000 in
theorem ggX7_wouldTurn_X7_at : GoodIn wsX7_wouldTurn wsX7_at := goodIn_r _ [20] (by decide +kernel) (by decide +kernel)
set_option maxRecDepth 20000 in
theorem gX7_wouldTurn_X7_at : GoodIn wsX7_wouldTurn (va_wsS RX7 45 yX7_at wsX7_at) := goodIn_app (goodIn_of _ (by decide +kernel)) ggX7_wouldTurn_X7_at
set_option maxRecDepth 20000 in
theorem ggX7_wouldTurn_X7_passesOne : GoodIn wsX7_wouldTurn wsX7_passesOne := goodIn_r _ [24, 1, 25, 26, 18, 19, 5, 20, 27, 28, 29, 30, 7, 8, 9, 10, 31, 32, 33, 34, 35, 36, 37, 38, 39, 40, 41, 42, 43, 44, 45, 46, 47, 48, 49, 50, 51, 52, 53, 54, 55, 56, 57] (by decide +kernel) (by decide +kernel)
set_option maxRecDepth 20000 in
theorem gX7_wouldTurn_X7_passesOne : GoodIn wsX7_wouldTurn (wsV RX7 83 RX7 yX7_passesOne wsX7_passesOne) := goodIn_app (goodIn_of _ (by decide +kernel)) ggX7_wouldTurn_X7_passesOne
theorem dX7_wouldTurn_0 : decode cX7_wouldTurn 0 = .ok (.aload_n 0, 1) := by decide +kernel
theorem dX7_wouldTurn_1 : decode cX7_wouldTurn 1 = .ok (.iload_n 1, 1) := by decide +kernel
theorem dX7_wouldTurn_2 : decode cX7_wouldTurn 2 = .ok (.invokevirtual 95, 3) := by decide +kernel
theorem dX7_wouldTurn_5 : decode cX7_wouldTurn 5 = .ok (.ifCond .ne 5, 3) := by decide +kernel
theorem dX7_wouldTurn_8 : decode cX7_wouldTurn 8 = .ok (.iconst (-1), 1) := by decide +kernel
theorem dX7_wouldTurn_9 : decode cX7_wouldTurn 9 = .ok (.ireturn, 1) := by decide +kernel
theorem dX7_wouldTurn_10 : decode cX7_wouldTurn 10 = .ok (.iload_n 2, 1) := by decide +kernel
theorem dX7_wouldTurn_11 : decode cX7_wouldTurn 11 = .ok (.iconst 1, 1) := by decide +kernel
theorem dX7_wouldTurn_12 : decode cX7_wouldTurn 12 = .ok (.sipush 1440, 3) := by decide +kernel
theorem dX7_wouldTurn_15 : decode cX7_wouldTurn 15 = .ok (.invokestatic 41, 3) := by decide +kernel
theorem dX7_wouldTurn_18 : decode cX7_wouldTurn 18 = .ok (.ifCond .eq 12, 3) := by decide +kernel
theorem dX7_wouldTurn_21 : decode cX7_wouldTurn 21 = .ok (.iload_n 3, 1) := by decide +kernel
theorem dX7_wouldTurn_22 : decode cX7_wouldTurn 22 = .ok (.iconst 0, 1) := by decide +kernel
theorem dX7_wouldTurn_23 : decode cX7_wouldTurn 23 = .ok (.iconst 1, 1) := by decide +kernel
theorem dX7_wouldTurn_24 : decode cX7_wouldTurn 24 = .ok (.invokestatic 41, 3) := by decide +kernel
theorem dX7_wouldTurn_27 : decode cX7_wouldTurn 27 = .ok (.ifCond .ne 6, 3) := by decide +kernel
theorem dX7_wouldTurn_30 : decode cX7_wouldTurn 30 = .ok (.bipush (-2), 2) := by decide +kernel
theorem dX7_wouldTurn_32 : decode cX7_wouldTurn 32 = .ok (.ireturn, 1) := by decide +kernel
theorem dX7_wouldTurn_33 : decode cX7_wouldTurn 33 = .ok (.aload_n 0, 1) := by decide +kernel
theorem dX7_wouldTurn_34 : decode cX7_wouldTurn 34 = .ok (.invokevirtual 156, 3) := by decide +kernel
theorem dX7_wouldTurn_37 : decode cX7_wouldTurn 37 = .ok (.iconst 0, 1) := by decide +kernel
theorem dX7_wouldTurn_38 : decode cX7_wouldTurn 38 = .ok (.iload_n 1, 1) := by decide +kernel
theorem dX7_wouldTurn_39 : decode cX7_wouldTurn 39 = .ok (.invokestatic 45, 3) := by decide +kernel
theorem dX7_wouldTurn_42 : decode cX7_wouldTurn 42 = .ok (.iload_n 3, 1) := by decide +kernel
theorem dX7_wouldTurn_43 : decode cX7_wouldTurn 43 = .ok (.iconst 1, 1) := by decide +kernel
theorem dX7_wouldTurn_44 : decode cX7_wouldTurn 44 = .ok (.if_icmp .ne 7, 3) := by decide +kernel
theorem dX7_wouldTurn_47 : decode cX7_wouldTurn 47 = .ok (.iconst 4, 1) := by decide +kernel
theorem dX7_wouldTurn_48 : decode cX7_wouldTurn 48 = .ok (.goto 4, 3) := by decide +kernel
theorem dX7_wouldTurn_51 : decode cX7_wouldTurn 51 = .ok (.iconst 3, 1) := by decide +kernel
theorem dX7_wouldTurn_52 : decode cX7_wouldTurn 52 = .ok (.iadd, 1) := by decide +kernel
theorem dX7_wouldTurn_53 : decode cX7_wouldTurn 53 = .ok (.istore 4, 2) := by decide +kernel
theorem dX7_wouldTurn_55 : decode cX7_wouldTurn 55 = .ok (.iconst 0, 1) := by decide +kernel
theorem dX7_wouldTurn_56 : decode cX7_wouldTurn 56 = .ok (.istore 5, 2) := by decide +kernel
theorem dX7_wouldTurn_58 : decode cX7_wouldTurn 58 = .ok (.iload 5, 2) := by decide +kernel
theorem dX7_wouldTurn_60 : decode cX7_wouldTurn 60 = .ok (.iload_n 2, 1) := by decide +kernel
theorem dX7_wouldTurn_61 : decode cX7_wouldTurn 61 = .ok (.if_icmp .ge 31, 3) := by decide +kernel
theorem dX7_wouldTurn_64 : decode cX7_wouldTurn 64 = .ok (.aload_n 0, 1) := by decide +kernel
theorem dX7_wouldTurn_65 : decode cX7_wouldTurn 65 = .ok (.sipush 138, 3) := by decide +kernel
theorem dX7_wouldTurn_68 : decode cX7_wouldTurn 68 = .ok (.iload_n 1, 1) := by decide +kernel
theorem dX7_wouldTurn_69 : decode cX7_wouldTurn 69 = .ok (.invokevirtual 83, 3) := by decide +kernel
theorem dX7_wouldTurn_72 : decode cX7_wouldTurn 72 = .ok (.istore 6, 2) := by decide +kernel
theorem dX7_wouldTurn_74 : decode cX7_wouldTurn 74 = .ok (.aload_n 0, 1) := by decide +kernel
theorem dX7_wouldTurn_75 : decode cX7_wouldTurn 75 = .ok (.getfield 7, 3) := by decide +kernel
theorem dX7_wouldTurn_78 : decode cX7_wouldTurn 78 = .ok (.sipush 144, 3) := by decide +kernel
theorem dX7_wouldTurn_81 : decode cX7_wouldTurn 81 = .ok (.dup2, 1) := by decide +kernel
theorem dX7_wouldTurn_82 : decode cX7_wouldTurn 82 = .ok (.laload, 1) := by decide +kernel
theorem dX7_wouldTurn_83 : decode cX7_wouldTurn 83 = .ok (.lconst 1, 1) := by decide +kernel
theorem dX7_wouldTurn_84 : decode cX7_wouldTurn 84 = .ok (.ladd, 1) := by decide +kernel
theorem dX7_wouldTurn_85 : decode cX7_wouldTurn 85 = .ok (.lastore, 1) := by decide +kernel
theorem dX7_wouldTurn_86 : decode cX7_wouldTurn 86 = .ok (.iinc 5 1, 3) := by decide +kernel
theorem dX7_wouldTurn_89 : decode cX7_wouldTurn 89 = .ok (.goto (-31), 3) := by decide +kernel
theorem dX7_wouldTurn_92 : decode cX7_wouldTurn 92 = .ok (.aload_n 0, 1) := by decide +kernel
theorem dX7_wouldTurn_93 : decode cX7_wouldTurn 93 = .ok (.getfield 7, 3) := by decide +kernel
theorem dX7_wouldTurn_96 : decode cX7_wouldTurn 96 = .ok (.sipush 138, 3) := by decide +kernel
theorem dX7_wouldTurn_99 : decode cX7_wouldTurn 99 = .ok (.iload 4, 2) := by decide +kernel
theorem dX7_wouldTurn_101 : decode cX7_wouldTurn 101 = .ok (.iadd, 1) := by decide +kernel
theorem dX7_wouldTurn_102 : decode cX7_wouldTurn 102 = .ok (.laload, 1) := by decide +kernel
theorem dX7_wouldTurn_103 : decode cX7_wouldTurn 103 = .ok (.aload_n 0, 1) := by decide +kernel
theorem dX7_wouldTurn_104 : decode cX7_wouldTurn 104 = .ok (.getfield 7, 3) := by decide +kernel
theorem dX7_wouldTurn_107 : decode cX7_wouldTurn 107 = .ok (.iload 4, 2) := by decide +kernel
theorem dX7_wouldTurn_109 : decode cX7_wouldTurn 109 = .ok (.laload, 1) := by decide +kernel
theorem dX7_wouldTurn_110 : decode cX7_wouldTurn 110 = .ok (.lsub, 1) := by decide +kernel
theorem dX7_wouldTurn_111 : decode cX7_wouldTurn 111 = .ok (.l2i, 1) := by decide +kernel
theorem dX7_wouldTurn_112 : decode cX7_wouldTurn 112 = .ok (.ireturn, 1) := by decide +kernel
set_option maxRecDepth 20000 in
theorem ggX7_worst_X7_num : GoodIn wsX7_worst wsX7_num := goodIn_r _ [5, 6, 32, 33, 34, 35, 36, 37, 38] (by decide +kernel) (by decide +kernel)
set_option maxRecDepth 20000 in
theorem gX7_worst_X7_num : GoodIn wsX7_worst (wsV RX7 37 RX7 yX7_num wsX7_num) := goodIn_app (goodIn_of _ (by decide +kernel)) ggX7_worst_X7_num
set_option maxRecDepth 20000 in
theorem ggX7_worst_X7_misses : GoodIn wsX7_worst wsX7_misses := goodIn_r _ [10, 11, 6, 12, 13, 14, 15, 16, 4, 17, 1, 2, 3, 5, 18, 19, 20, 21, 22, 23, 24, 25, 26, 27, 28, 29, 30, 31, 32, 33, 34, 35, 36, 37, 38] (by decide +kernel) (by decide +kernel)
set_option maxRecDepth 20000 in
theorem gX7_worst_X7_misses : GoodIn wsX7_worst (wsV RX7 159 RX7 yX7_misses wsX7_misses) := goodIn_app (goodIn_of _ (by decide +kernel)) ggX7_worst_X7_misses
theorem dX7_worst_0 : decode cX7_worst 0 = .ok (.bipush (-6), 2) := by decide +kernel
theorem dX7_worst_2 : decode cX7_worst 2 = .ok (.istore_n 1, 1) := by decide +kernel
theorem dX7_worst_3 : decode cX7_worst 3 = .ok (.iconst 0, 1) := by decide +kernel
theorem dX7_worst_4 : decode cX7_worst 4 = .ok (.istore_n 2, 1) := by decide +kernel
theorem dX7_worst_5 : decode cX7_worst 5 = .ok (.iload_n 2, 1) := by decide +kernel
theorem dX7_worst_6 : decode cX7_worst 6 = .ok (.aload_n 0, 1) := by decide +kernel
theorem dX7_worst_7 : decode cX7_worst 7 = .ok (.bipush 7, 2) := by decide +kernel
theorem dX7_worst_9 : decode cX7_worst 9 = .ok (.invokevirtual 37, 3) := by decide +kernel
theorem dX7_worst_12 : decode cX7_worst 12 = .ok (.if_icmp .ge 35, 3) := by decide +kernel
theorem dX7_worst_15 : decode cX7_worst 15 = .ok (.iload_n 1, 1) := by decide +kernel
theorem dX7_worst_16 : decode cX7_worst 16 = .ok (.bipush (-6), 2) := by decide +kernel
theorem dX7_worst_18 : decode cX7_worst 18 = .ok (.if_icmp .eq 17, 3) := by decide +kernel
theorem dX7_worst_21 : decode cX7_worst 21 = .ok (.aload_n 0, 1) := by decide +kernel
theorem dX7_worst_22 : decode cX7_worst 22 = .ok (.iload_n 2, 1) := by decide +kernel
theorem dX7_worst_23 : decode cX7_worst 23 = .ok (.invokevirtual 159, 3) := by decide +kernel
theorem dX7_worst_26 : decode cX7_worst 26 = .ok (.aload_n 0, 1) := by decide +kernel
theorem dX7_worst_27 : decode cX7_worst 27 = .ok (.iload_n 1, 1) := by decide +kernel
theorem dX7_worst_28 : decode cX7_worst 28 = .ok (.invokevirtual 159, 3) := by decide +kernel
theorem dX7_worst_31 : decode cX7_worst 31 = .ok (.lcmp, 1) := by decide +kernel
theorem dX7_worst_32 : decode cX7_worst 32 = .ok (.ifCond .le 7, 3) := by decide +kernel
theorem dX7_worst_35 : decode cX7_worst 35 = .ok (.iload_n 2, 1) := by decide +kernel
theorem dX7_worst_36 : decode cX7_worst 36 = .ok (.goto 4, 3) := by decide +kernel
theorem dX7_worst_39 : decode cX7_worst 39 = .ok (.iload_n 1, 1) := by decide +kernel
theorem dX7_worst_40 : decode cX7_worst 40 = .ok (.istore_n 1, 1) := by decide +kernel
theorem dX7_worst_41 : decode cX7_worst 41 = .ok (.iinc 2 1, 3) := by decide +kernel
theorem dX7_worst_44 : decode cX7_worst 44 = .ok (.goto (-39), 3) := by decide +kernel
theorem dX7_worst_47 : decode cX7_worst 47 = .ok (.iload_n 1, 1) := by decide +kernel
theorem dX7_worst_48 : decode cX7_worst 48 = .ok (.ireturn, 1) := by decide +kernel
set_option maxRecDepth 20000 in
theorem ggX7_lags_X7_isMeter : GoodIn wsX7_lags wsX7_isMeter := goodIn_r _ [6, 7, 8, 9, 5, 10, 11, 12, 13, 14, 26, 27, 28, 29, 30, 31, 32] (by decide +kernel) (by decide +kernel)
set_option maxRecDepth 20000 in
theorem gX7_lags_X7_isMeter : GoodIn wsX7_lags (wsV RX7 95 RX7 yX7_isMeter wsX7_isMeter) := goodIn_app (goodIn_of _ (by decide +kernel)) ggX7_lags_X7_isMeter
set_option maxRecDepth 20000 in
theorem ggX7_lags_X7_turnsOf : GoodIn wsX7_lags wsX7_turnsOf := goodIn_r _ [18, 19, 20, 21, 5, 22, 11, 23, 24, 25, 26, 27, 28, 29, 30, 31, 32] (by decide +kernel) (by decide +kernel)
set_option maxRecDepth 20000 in
theorem gX7_lags_X7_turnsOf : GoodIn wsX7_lags (wsV RX7 148 RX7 yX7_turnsOf wsX7_turnsOf) := goodIn_app (goodIn_of _ (by decide +kernel)) ggX7_lags_X7_turnsOf
set_option maxRecDepth 20000 in
theorem ggX7_lags_X7_num : GoodIn wsX7_lags wsX7_num := goodIn_r _ [10, 11, 26, 27, 28, 29, 30, 31, 32] (by decide +kernel) (by decide +kernel)
set_option maxRecDepth 20000 in
theorem gX7_lags_X7_num : GoodIn wsX7_lags (wsV RX7 37 RX7 yX7_num wsX7_num) := goodIn_app (goodIn_of _ (by decide +kernel)) ggX7_lags_X7_num
set_option maxRecDepth 20000 in
theorem ggX7_lags_X7_its : GoodIn wsX7_lags wsX7_its := goodIn_r _ [22, 11, 23, 24, 5, 25, 26, 27, 28, 29, 30, 31, 32] (by decide +kernel) (by decide +kernel)
set_option maxRecDepth 20000 in
theorem gX7_lags_X7_its : GoodIn wsX7_lags (wsV RX7 53 RX7 yX7_its wsX7_its) := goodIn_app (goodIn_of _ (by decide +kernel)) ggX7_lags_X7_its
theorem dX7_lags_0 : decode cX7_lags 0 = .ok (.aload_n 0, 1) := by decide +kernel
theorem dX7_lags_1 : decode cX7_lags 1 = .ok (.iload_n 1, 1) := by decide +kernel
theorem dX7_lags_2 : decode cX7_lags 2 = .ok (.invokevirtual 95, 3) := by decide +kernel
theorem dX7_lags_5 : decode cX7_lags 5 = .ok (.ifCond .ne 5, 3) := by decide +kernel
theorem dX7_lags_8 : decode cX7_lags 8 = .ok (.iconst (-1), 1) := by decide +kernel
theorem dX7_lags_9 : decode cX7_lags 9 = .ok (.ireturn, 1) := by decide +kernel
theorem dX7_lags_10 : decode cX7_lags 10 = .ok (.ldc 163, 2) := by decide +kernel
theorem dX7_lags_12 : decode cX7_lags 12 = .ok (.aload_n 0, 1) := by decide +kernel
theorem dX7_lags_13 : decode cX7_lags 13 = .ok (.iload_n 1, 1) := by decide +kernel
theorem dX7_lags_14 : decode cX7_lags 14 = .ok (.invokevirtual 148, 3) := by decide +kernel
theorem dX7_lags_17 : decode cX7_lags 17 = .ok (.isub, 1) := by decide +kernel
theorem dX7_lags_18 : decode cX7_lags 18 = .ok (.istore_n 2, 1) := by decide +kernel
theorem dX7_lags_19 : decode cX7_lags 19 = .ok (.iconst 1, 1) := by decide +kernel
theorem dX7_lags_20 : decode cX7_lags 20 = .ok (.istore_n 3, 1) := by decide +kernel
theorem dX7_lags_21 : decode cX7_lags 21 = .ok (.iload_n 3, 1) := by decide +kernel
theorem dX7_lags_22 : decode cX7_lags 22 = .ok (.aload_n 0, 1) := by decide +kernel
theorem dX7_lags_23 : decode cX7_lags 23 = .ok (.bipush 7, 2) := by decide +kernel
theorem dX7_lags_25 : decode cX7_lags 25 = .ok (.invokevirtual 37, 3) := by decide +kernel
theorem dX7_lags_28 : decode cX7_lags 28 = .ok (.if_icmp .ge 31, 3) := by decide +kernel
theorem dX7_lags_31 : decode cX7_lags 31 = .ok (.iload_n 2, 1) := by decide +kernel
theorem dX7_lags_32 : decode cX7_lags 32 = .ok (.aload_n 0, 1) := by decide +kernel
theorem dX7_lags_33 : decode cX7_lags 33 = .ok (.iload_n 3, 1) := by decide +kernel
theorem dX7_lags_34 : decode cX7_lags 34 = .ok (.iconst 0, 1) := by decide +kernel
theorem dX7_lags_35 : decode cX7_lags 35 = .ok (.invokevirtual 53, 3) := by decide +kernel
theorem dX7_lags_38 : decode cX7_lags 38 = .ok (.iload_n 1, 1) := by decide +kernel
theorem dX7_lags_39 : decode cX7_lags 39 = .ok (.if_icmp .ne 11, 3) := by decide +kernel
theorem dX7_lags_42 : decode cX7_lags 42 = .ok (.aload_n 0, 1) := by decide +kernel
theorem dX7_lags_43 : decode cX7_lags 43 = .ok (.iload_n 3, 1) := by decide +kernel
theorem dX7_lags_44 : decode cX7_lags 44 = .ok (.invokevirtual 148, 3) := by decide +kernel
theorem dX7_lags_47 : decode cX7_lags 47 = .ok (.goto 4, 3) := by decide +kernel
theorem dX7_lags_50 : decode cX7_lags 50 = .ok (.iconst 0, 1) := by decide +kernel
theorem dX7_lags_51 : decode cX7_lags 51 = .ok (.iadd, 1) := by decide +kernel
theorem dX7_lags_52 : decode cX7_lags 52 = .ok (.istore_n 2, 1) := by decide +kernel
theorem dX7_lags_53 : decode cX7_lags 53 = .ok (.iinc 3 1, 3) := by decide +kernel
theorem dX7_lags_56 : decode cX7_lags 56 = .ok (.goto (-35), 3) := by decide +kernel
theorem dX7_lags_59 : decode cX7_lags 59 = .ok (.iload_n 2, 1) := by decide +kernel
theorem dX7_lags_60 : decode cX7_lags 60 = .ok (.ireturn, 1) := by decide +kernel
set_option maxRecDepth 20000 in
theorem ggX7_put_X7_in : GoodIn wsX7_put wsX7_in := goodIn_r _ [6] (by decide +kernel) (by decide +kernel)
set_option maxRecDepth 20000 in
theorem gX7_put_X7_in : GoodIn wsX7_put (va_wsS RX7 41 yX7_in wsX7_in) := goodIn_app (goodIn_of _ (by decide +kernel)) ggX7_put_X7_in
set_option maxRecDepth 20000 in
theorem ggX7_put_X7_types : GoodIn wsX7_put wsX7_types := goodIn_r _ [10, 11, 2, 12, 13, 14, 15, 16, 17, 18] (by decide +kernel) (by decide +kernel)
set_option maxRecDepth 20000 in
theorem gX7_put_X7_types : GoodIn wsX7_put (wsV RX7 138 RX7 yX7_types wsX7_types) := goodIn_app (goodIn_of _ (by decide +kernel)) ggX7_put_X7_types
theorem dX7_put_0 : decode cX7_put 0 = .ok (.iconst 0, 1) := by decide +kernel
theorem dX7_put_1 : decode cX7_put 1 = .ok (.istore_n 3, 1) := by decide +kernel
theorem dX7_put_2 : decode cX7_put 2 = .ok (.iconst 1, 1) := by decide +kernel
theorem dX7_put_3 : decode cX7_put 3 = .ok (.istore 4, 2) := by decide +kernel
theorem dX7_put_5 : decode cX7_put 5 = .ok (.iconst 0, 1) := by decide +kernel
theorem dX7_put_6 : decode cX7_put 6 = .ok (.istore 5, 2) := by decide +kernel
theorem dX7_put_8 : decode cX7_put 8 = .ok (.iconst 0, 1) := by decide +kernel
theorem dX7_put_9 : decode cX7_put 9 = .ok (.istore 6, 2) := by decide +kernel
theorem dX7_put_11 : decode cX7_put 11 = .ok (.iload 6, 2) := by decide +kernel
theorem dX7_put_13 : decode cX7_put 13 = .ok (.bipush 8, 2) := by decide +kernel
theorem dX7_put_15 : decode cX7_put 15 = .ok (.if_icmp .ge 90, 3) := by decide +kernel
theorem dX7_put_18 : decode cX7_put 18 = .ok (.lload_n 1, 1) := by decide +kernel
theorem dX7_put_19 : decode cX7_put 19 = .ok (.bipush 8, 2) := by decide +kernel
theorem dX7_put_21 : decode cX7_put 21 = .ok (.iload 6, 2) := by decide +kernel
theorem dX7_put_23 : decode cX7_put 23 = .ok (.imul, 1) := by decide +kernel
theorem dX7_put_24 : decode cX7_put 24 = .ok (.lshr, 1) := by decide +kernel
theorem dX7_put_25 : decode cX7_put 25 = .ok (.ldc2_w 164, 3) := by decide +kernel
theorem dX7_put_28 : decode cX7_put 28 = .ok (.land, 1) := by decide +kernel
theorem dX7_put_29 : decode cX7_put 29 = .ok (.l2i, 1) := by decide +kernel
theorem dX7_put_30 : decode cX7_put 30 = .ok (.istore 7, 2) := by decide +kernel
theorem dX7_put_32 : decode cX7_put 32 = .ok (.iload 5, 2) := by decide +kernel
theorem dX7_put_34 : decode cX7_put 34 = .ok (.ifCond .ne 8, 3) := by decide +kernel
theorem dX7_put_37 : decode cX7_put 37 = .ok (.iload 7, 2) := by decide +kernel
theorem dX7_put_39 : decode cX7_put 39 = .ok (.ifCond .ne 7, 3) := by decide +kernel
theorem dX7_put_42 : decode cX7_put 42 = .ok (.iconst 1, 1) := by decide +kernel
theorem dX7_put_43 : decode cX7_put 43 = .ok (.goto 4, 3) := by decide +kernel
theorem dX7_put_46 : decode cX7_put 46 = .ok (.iconst 0, 1) := by decide +kernel
theorem dX7_put_47 : decode cX7_put 47 = .ok (.istore 5, 2) := by decide +kernel
theorem dX7_put_49 : decode cX7_put 49 = .ok (.iload 4, 2) := by decide +kernel
theorem dX7_put_51 : decode cX7_put 51 = .ok (.ifCond .eq 32, 3) := by decide +kernel
theorem dX7_put_54 : decode cX7_put 54 = .ok (.iload 5, 2) := by decide +kernel
theorem dX7_put_56 : decode cX7_put 56 = .ok (.ifCond .eq 11, 3) := by decide +kernel
theorem dX7_put_59 : decode cX7_put 59 = .ok (.iload 7, 2) := by decide +kernel
theorem dX7_put_61 : decode cX7_put 61 = .ok (.ifCond .ne 22, 3) := by decide +kernel
theorem dX7_put_64 : decode cX7_put 64 = .ok (.goto 15, 3) := by decide +kernel
theorem dX7_put_67 : decode cX7_put 67 = .ok (.iload 7, 2) := by decide +kernel
theorem dX7_put_69 : decode cX7_put 69 = .ok (.bipush 33, 2) := by decide +kernel
theorem dX7_put_71 : decode cX7_put 71 = .ok (.bipush 126, 2) := by decide +kernel
theorem dX7_put_73 : decode cX7_put 73 = .ok (.invokestatic 41, 3) := by decide +kernel
theorem dX7_put_76 : decode cX7_put 76 = .ok (.ifCond .eq 7, 3) := by decide +kernel
theorem dX7_put_79 : decode cX7_put 79 = .ok (.iconst 1, 1) := by decide +kernel
theorem dX7_put_80 : decode cX7_put 80 = .ok (.goto 4, 3) := by decide +kernel
theorem dX7_put_83 : decode cX7_put 83 = .ok (.iconst 0, 1) := by decide +kernel
theorem dX7_put_84 : decode cX7_put 84 = .ok (.istore 4, 2) := by decide +kernel
theorem dX7_put_86 : decode cX7_put 86 = .ok (.iload_n 3, 1) := by decide +kernel
theorem dX7_put_87 : decode cX7_put 87 = .ok (.iload 5, 2) := by decide +kernel
theorem dX7_put_89 : decode cX7_put 89 = .ok (.ifCond .eq 7, 3) := by decide +kernel
theorem dX7_put_92 : decode cX7_put 92 = .ok (.iconst 0, 1) := by decide +kernel
theorem dX7_put_93 : decode cX7_put 93 = .ok (.goto 4, 3) := by decide +kernel
theorem dX7_put_96 : decode cX7_put 96 = .ok (.iconst 1, 1) := by decide +kernel
theorem dX7_put_97 : decode cX7_put 97 = .ok (.iadd, 1) := by decide +kernel
theorem dX7_put_98 : decode cX7_put 98 = .ok (.istore_n 3, 1) := by decide +kernel
theorem dX7_put_99 : decode cX7_put 99 = .ok (.iinc 6 1, 3) := by decide +kernel
theorem dX7_put_102 : decode cX7_put 102 = .ok (.goto (-91), 3) := by decide +kernel
theorem dX7_put_105 : decode cX7_put 105 = .ok (.iload 4, 2) := by decide +kernel
theorem dX7_put_107 : decode cX7_put 107 = .ok (.ifCond .eq 7, 3) := by decide +kernel
theorem dX7_put_110 : decode cX7_put 110 = .ok (.iload_n 3, 1) := by decide +kernel
theorem dX7_put_111 : decode cX7_put 111 = .ok (.ifCond .ne 6, 3) := by decide +kernel
theorem dX7_put_114 : decode cX7_put 114 = .ok (.bipush (-2), 2) := by decide +kernel
theorem dX7_put_116 : decode cX7_put 116 = .ok (.ireturn, 1) := by decide +kernel
theorem dX7_put_117 : decode cX7_put 117 = .ok (.aload_n 0, 1) := by decide +kernel
theorem dX7_put_118 : decode cX7_put 118 = .ok (.getfield 135, 3) := by decide +kernel
theorem dX7_put_121 : decode cX7_put 121 = .ok (.iload_n 3, 1) := by decide +kernel
theorem dX7_put_122 : decode cX7_put 122 = .ok (.iadd, 1) := by decide +kernel
theorem dX7_put_123 : decode cX7_put 123 = .ok (.bipush 80, 2) := by decide +kernel
theorem dX7_put_125 : decode cX7_put 125 = .ok (.if_icmp .le 6, 3) := by decide +kernel
theorem dX7_put_128 : decode cX7_put 128 = .ok (.bipush (-4), 2) := by decide +kernel
theorem dX7_put_130 : decode cX7_put 130 = .ok (.ireturn, 1) := by decide +kernel
theorem dX7_put_131 : decode cX7_put 131 = .ok (.iload_n 3, 1) := by decide +kernel
theorem dX7_put_132 : decode cX7_put 132 = .ok (.iconst 1, 1) := by decide +kernel
theorem dX7_put_133 : decode cX7_put 133 = .ok (.isub, 1) := by decide +kernel
theorem dX7_put_134 : decode cX7_put 134 = .ok (.istore 6, 2) := by decide +kernel
theorem dX7_put_136 : decode cX7_put 136 = .ok (.iload 6, 2) := by decide +kernel
theorem dX7_put_138 : decode cX7_put 138 = .ok (.ifCond .lt 25, 3) := by decide +kernel
theorem dX7_put_141 : decode cX7_put 141 = .ok (.aload_n 0, 1) := by decide +kernel
theorem dX7_put_142 : decode cX7_put 142 = .ok (.lload_n 1, 1) := by decide +kernel
theorem dX7_put_143 : decode cX7_put 143 = .ok (.bipush 8, 2) := by decide +kernel
theorem dX7_put_145 : decode cX7_put 145 = .ok (.iload 6, 2) := by decide +kernel
theorem dX7_put_147 : decode cX7_put 147 = .ok (.imul, 1) := by decide +kernel
theorem dX7_put_148 : decode cX7_put 148 = .ok (.lshr, 1) := by decide +kernel
theorem dX7_put_149 : decode cX7_put 149 = .ok (.ldc2_w 164, 3) := by decide +kernel
theorem dX7_put_152 : decode cX7_put 152 = .ok (.land, 1) := by decide +kernel
theorem dX7_put_153 : decode cX7_put 153 = .ok (.l2i, 1) := by decide +kernel
theorem dX7_put_154 : decode cX7_put 154 = .ok (.invokevirtual 138, 3) := by decide +kernel
theorem dX7_put_157 : decode cX7_put 157 = .ok (.iinc 6 (-1), 3) := by decide +kernel
theorem dX7_put_160 : decode cX7_put 160 = .ok (.goto (-24), 3) := by decide +kernel
theorem dX7_put_163 : decode cX7_put 163 = .ok (.aload_n 0, 1) := by decide +kernel
theorem dX7_put_164 : decode cX7_put 164 = .ok (.getfield 135, 3) := by decide +kernel
theorem dX7_put_167 : decode cX7_put 167 = .ok (.ireturn, 1) := by decide +kernel
theorem dX7_wipe_0 : decode cX7_wipe 0 = .ok (.aload_n 0, 1) := by decide +kernel
theorem dX7_wipe_1 : decode cX7_wipe 1 = .ok (.getfield 135, 3) := by decide +kernel
theorem dX7_wipe_4 : decode cX7_wipe 4 = .ok (.istore_n 1, 1) := by decide +kernel
theorem dX7_wipe_5 : decode cX7_wipe 5 = .ok (.aload_n 0, 1) := by decide +kernel
theorem dX7_wipe_6 : decode cX7_wipe 6 = .ok (.iconst 0, 1) := by decide +kernel
theorem dX7_wipe_7 : decode cX7_wipe 7 = .ok (.putfield 135, 3) := by decide +kernel
theorem dX7_wipe_10 : decode cX7_wipe 10 = .ok (.iload_n 1, 1) := by decide +kernel
theorem dX7_wipe_11 : decode cX7_wipe 11 = .ok (.ireturn, 1) := by decide +kernel
set_option maxRecDepth 20000 in
theorem ggX7_digit_X7_in : GoodIn wsX7_digit wsX7_in := goodIn_r _ [6] (by decide +kernel) (by decide +kernel)
set_option maxRecDepth 20000 in
theorem gX7_digit_X7_in : GoodIn wsX7_digit (va_wsS RX7 41 yX7_in wsX7_in) := goodIn_app (goodIn_of _ (by decide +kernel)) ggX7_digit_X7_in
theorem dX7_digit_0 : decode cX7_digit 0 = .ok (.iload_n 1, 1) := by decide +kernel
theorem dX7_digit_1 : decode cX7_digit 1 = .ok (.aload_n 0, 1) := by decide +kernel
theorem dX7_digit_2 : decode cX7_digit 2 = .ok (.getfield 135, 3) := by decide +kernel
theorem dX7_digit_5 : decode cX7_digit 5 = .ok (.if_icmp .ge 31, 3) := by decide +kernel
theorem dX7_digit_8 : decode cX7_digit 8 = .ok (.aload_n 0, 1) := by decide +kernel
theorem dX7_digit_9 : decode cX7_digit 9 = .ok (.getfield 23, 3) := by decide +kernel
theorem dX7_digit_12 : decode cX7_digit 12 = .ok (.iload_n 1, 1) := by decide +kernel
theorem dX7_digit_13 : decode cX7_digit 13 = .ok (.iaload, 1) := by decide +kernel
theorem dX7_digit_14 : decode cX7_digit 14 = .ok (.bipush 48, 2) := by decide +kernel
theorem dX7_digit_16 : decode cX7_digit 16 = .ok (.bipush 57, 2) := by decide +kernel
theorem dX7_digit_18 : decode cX7_digit 18 = .ok (.invokestatic 41, 3) := by decide +kernel
theorem dX7_digit_21 : decode cX7_digit 21 = .ok (.ifCond .eq 15, 3) := by decide +kernel
theorem dX7_digit_24 : decode cX7_digit 24 = .ok (.aload_n 0, 1) := by decide +kernel
theorem dX7_digit_25 : decode cX7_digit 25 = .ok (.getfield 23, 3) := by decide +kernel
theorem dX7_digit_28 : decode cX7_digit 28 = .ok (.iload_n 1, 1) := by decide +kernel
theorem dX7_digit_29 : decode cX7_digit 29 = .ok (.iaload, 1) := by decide +kernel
theorem dX7_digit_30 : decode cX7_digit 30 = .ok (.bipush 48, 2) := by decide +kernel
theorem dX7_digit_32 : decode cX7_digit 32 = .ok (.isub, 1) := by decide +kernel
theorem dX7_digit_33 : decode cX7_digit 33 = .ok (.goto 4, 3) := by decide +kernel
theorem dX7_digit_36 : decode cX7_digit 36 = .ok (.iconst (-1), 1) := by decide +kernel
theorem dX7_digit_37 : decode cX7_digit 37 = .ok (.ireturn, 1) := by decide +kernel
theorem dX7_code_0 : decode cX7_code 0 = .ok (.iload_n 1, 1) := by decide +kernel
theorem dX7_code_1 : decode cX7_code 1 = .ok (.aload_n 0, 1) := by decide +kernel
theorem dX7_code_2 : decode cX7_code 2 = .ok (.getfield 135, 3) := by decide +kernel
theorem dX7_code_5 : decode cX7_code 5 = .ok (.if_icmp .ge 12, 3) := by decide +kernel
theorem dX7_code_8 : decode cX7_code 8 = .ok (.aload_n 0, 1) := by decide +kernel
theorem dX7_code_9 : decode cX7_code 9 = .ok (.getfield 23, 3) := by decide +kernel
theorem dX7_code_12 : decode cX7_code 12 = .ok (.iload_n 1, 1) := by decide +kernel
theorem dX7_code_13 : decode cX7_code 13 = .ok (.iaload, 1) := by decide +kernel
theorem dX7_code_14 : decode cX7_code 14 = .ok (.goto 4, 3) := by decide +kernel
theorem dX7_code_17 : decode cX7_code 17 = .ok (.iconst (-1), 1) := by decide +kernel
theorem dX7_code_18 : decode cX7_code 18 = .ok (.ireturn, 1) := by decide +kernel
set_option maxRecDepth 20000 in
theorem ggX7_numberEnd_X7_digit : GoodIn wsX7_numberEnd wsX7_digit := goodIn_r _ [5, 6, 7, 8, 9, 4, 10, 11, 12, 13, 14, 15, 16, 17] (by decide +kernel) (by decide +kernel)
set_option maxRecDepth 20000 in
theorem gX7_numberEnd_X7_digit : GoodIn wsX7_numberEnd (wsV RX7 166 RX7 yX7_digit wsX7_digit) := goodIn_app (goodIn_of _ (by decide +kernel)) ggX7_numberEnd_X7_digit
theorem dX7_numberEnd_0 : decode cX7_numberEnd 0 = .ok (.aload_n 0, 1) := by decide +kernel
theorem dX7_numberEnd_1 : decode cX7_numberEnd 1 = .ok (.iload_n 1, 1) := by decide +kernel
theorem dX7_numberEnd_2 : decode cX7_numberEnd 2 = .ok (.invokevirtual 166, 3) := by decide +kernel
theorem dX7_numberEnd_5 : decode cX7_numberEnd 5 = .ok (.ifCond .ge 7, 3) := by decide +kernel
theorem dX7_numberEnd_8 : decode cX7_numberEnd 8 = .ok (.iconst (-1), 1) := by decide +kernel
theorem dX7_numberEnd_9 : decode cX7_numberEnd 9 = .ok (.iload_n 1, 1) := by decide +kernel
theorem dX7_numberEnd_10 : decode cX7_numberEnd 10 = .ok (.isub, 1) := by decide +kernel
theorem dX7_numberEnd_11 : decode cX7_numberEnd 11 = .ok (.ireturn, 1) := by decide +kernel
theorem dX7_numberEnd_12 : decode cX7_numberEnd 12 = .ok (.iload_n 1, 1) := by decide +kernel
theorem dX7_numberEnd_13 : decode cX7_numberEnd 13 = .ok (.iconst 1, 1) := by decide +kernel
theorem dX7_numberEnd_14 : decode cX7_numberEnd 14 = .ok (.iadd, 1) := by decide +kernel
theorem dX7_numberEnd_15 : decode cX7_numberEnd 15 = .ok (.istore_n 2, 1) := by decide +kernel
theorem dX7_numberEnd_16 : decode cX7_numberEnd 16 = .ok (.aload_n 0, 1) := by decide +kernel
theorem dX7_numberEnd_17 : decode cX7_numberEnd 17 = .ok (.iload_n 1, 1) := by decide +kernel
theorem dX7_numberEnd_18 : decode cX7_numberEnd 18 = .ok (.invokevirtual 166, 3) := by decide +kernel
theorem dX7_numberEnd_21 : decode cX7_numberEnd 21 = .ok (.ifCond .le 24, 3) := by decide +kernel
theorem dX7_numberEnd_24 : decode cX7_numberEnd 24 = .ok (.iload_n 2, 1) := by decide +kernel
theorem dX7_numberEnd_25 : decode cX7_numberEnd 25 = .ok (.iload_n 1, 1) := by decide +kernel
theorem dX7_numberEnd_26 : decode cX7_numberEnd 26 = .ok (.iconst 4, 1) := by decide +kernel
theorem dX7_numberEnd_27 : decode cX7_numberEnd 27 = .ok (.iadd, 1) := by decide +kernel
theorem dX7_numberEnd_28 : decode cX7_numberEnd 28 = .ok (.if_icmp .ge 17, 3) := by decide +kernel
theorem dX7_numberEnd_31 : decode cX7_numberEnd 31 = .ok (.aload_n 0, 1) := by decide +kernel
theorem dX7_numberEnd_32 : decode cX7_numberEnd 32 = .ok (.iload_n 2, 1) := by decide +kernel
theorem dX7_numberEnd_33 : decode cX7_numberEnd 33 = .ok (.invokevirtual 166, 3) := by decide +kernel
theorem dX7_numberEnd_36 : decode cX7_numberEnd 36 = .ok (.ifCond .lt 9, 3) := by decide +kernel
theorem dX7_numberEnd_39 : decode cX7_numberEnd 39 = .ok (.iinc 2 1, 3) := by decide +kernel
theorem dX7_numberEnd_42 : decode cX7_numberEnd 42 = .ok (.goto (-26), 3) := by decide +kernel
theorem dX7_numberEnd_45 : decode cX7_numberEnd 45 = .ok (.iload_n 2, 1) := by decide +kernel
theorem dX7_numberEnd_46 : decode cX7_numberEnd 46 = .ok (.ireturn, 1) := by decide +kernel
set_option maxRecDepth 20000 in
theorem ggX7_numberAt_X7_numberEnd : GoodIn wsX7_numberAt wsX7_numberEnd := goodIn_r _ [5, 6, 7, 8, 4, 9, 10, 11, 12, 13, 14, 15, 16, 17, 18, 19, 20, 21] (by decide +kernel) (by decide +kernel)
set_option maxRecDepth 20000 in
theorem gX7_numberAt_X7_numberEnd : GoodIn wsX7_numberAt (wsV RX7 169 RX7 yX7_numberEnd wsX7_numberEnd) := goodIn_app (goodIn_of _ (by decide +kernel)) ggX7_numberAt_X7_numberEnd
set_option maxRecDepth 20000 in
theorem ggX7_numberAt_X7_digit : GoodIn wsX7_numberAt wsX7_digit := goodIn_r _ [9, 10, 11, 12, 13, 4, 14, 15, 16, 17, 18, 19, 20, 21] (by decide +kernel) (by decide +kernel)
set_option maxRecDepth 20000 in
theorem gX7_numberAt_X7_digit : GoodIn wsX7_numberAt (wsV RX7 166 RX7 yX7_digit wsX7_digit) := goodIn_app (goodIn_of _ (by decide +kernel)) ggX7_numberAt_X7_digit
theorem dX7_numberAt_0 : decode cX7_numberAt 0 = .ok (.iconst 0, 1) := by decide +kernel
theorem dX7_numberAt_1 : decode cX7_numberAt 1 = .ok (.istore_n 2, 1) := by decide +kernel
theorem dX7_numberAt_2 : decode cX7_numberAt 2 = .ok (.iload_n 1, 1) := by decide +kernel
theorem dX7_numberAt_3 : decode cX7_numberAt 3 = .ok (.istore_n 3, 1) := by decide +kernel
theorem dX7_numberAt_4 : decode cX7_numberAt 4 = .ok (.iload_n 3, 1) := by decide +kernel
theorem dX7_numberAt_5 : decode cX7_numberAt 5 = .ok (.aload_n 0, 1) := by decide +kernel
theorem dX7_numberAt_6 : decode cX7_numberAt 6 = .ok (.iload_n 1, 1) := by decide +kernel
theorem dX7_numberAt_7 : decode cX7_numberAt 7 = .ok (.invokevirtual 169, 3) := by decide +kernel
theorem dX7_numberAt_10 : decode cX7_numberAt 10 = .ok (.if_icmp .ge 20, 3) := by decide +kernel
theorem dX7_numberAt_13 : decode cX7_numberAt 13 = .ok (.bipush 10, 2) := by decide +kernel
theorem dX7_numberAt_15 : decode cX7_numberAt 15 = .ok (.iload_n 2, 1) := by decide +kernel
theorem dX7_numberAt_16 : decode cX7_numberAt 16 = .ok (.imul, 1) := by decide +kernel
theorem dX7_numberAt_17 : decode cX7_numberAt 17 = .ok (.aload_n 0, 1) := by decide +kernel
theorem dX7_numberAt_18 : decode cX7_numberAt 18 = .ok (.iload_n 3, 1) := by decide +kernel
theorem dX7_numberAt_19 : decode cX7_numberAt 19 = .ok (.invokevirtual 166, 3) := by decide +kernel
theorem dX7_numberAt_22 : decode cX7_numberAt 22 = .ok (.iadd, 1) := by decide +kernel
theorem dX7_numberAt_23 : decode cX7_numberAt 23 = .ok (.istore_n 2, 1) := by decide +kernel
theorem dX7_numberAt_24 : decode cX7_numberAt 24 = .ok (.iinc 3 1, 3) := by decide +kernel
theorem dX7_numberAt_27 : decode cX7_numberAt 27 = .ok (.goto (-23), 3) := by decide +kernel
theorem dX7_numberAt_30 : decode cX7_numberAt 30 = .ok (.iload_n 2, 1) := by decide +kernel
theorem dX7_numberAt_31 : decode cX7_numberAt 31 = .ok (.ireturn, 1) := by decide +kernel
set_option maxRecDepth 20000 in
theorem ggX7_orderEnd_X7_code : GoodIn wsX7_orderEnd wsX7_code := goodIn_r _ [5, 6, 7, 19, 20, 21, 22, 23, 24, 25] (by decide +kernel) (by decide +kernel)
set_option maxRecDepth 20000 in
theorem gX7_orderEnd_X7_code : GoodIn wsX7_orderEnd (wsV RX7 172 RX7 yX7_code wsX7_code) := goodIn_app (goodIn_of _ (by decide +kernel)) ggX7_orderEnd_X7_code
set_option maxRecDepth 20000 in
theorem ggX7_orderEnd_X7_digit : GoodIn wsX7_orderEnd wsX7_digit := goodIn_r _ [11, 6, 7, 12, 13, 4, 14, 19, 20, 21, 22, 23, 24, 25] (by decide +kernel) (by decide +kernel)
set_option maxRecDepth 20000 in
theorem gX7_orderEnd_X7_digit : GoodIn wsX7_orderEnd (wsV RX7 166 RX7 yX7_digit wsX7_digit) := goodIn_app (goodIn_of _ (by decide +kernel)) ggX7_orderEnd_X7_digit
set_option maxRecDepth 20000 in
theorem ggX7_orderEnd_X7_numberEnd : GoodIn wsX7_orderEnd wsX7_numberEnd := goodIn_r _ [18, 8, 9, 10, 4, 11, 6, 7, 12, 13, 14, 19, 20, 21, 22, 23, 24, 25] (by decide +kernel) (by decide +kernel)
set_option maxRecDepth 20000 in
theorem gX7_orderEnd_X7_numberEnd : GoodIn wsX7_orderEnd (wsV RX7 169 RX7 yX7_numberEnd wsX7_numberEnd) := goodIn_app (goodIn_of _ (by decide +kernel)) ggX7_orderEnd_X7_numberEnd
theorem dX7_orderEnd_0 : decode cX7_orderEnd 0 = .ok (.aload_n 0, 1) := by decide +kernel
theorem dX7_orderEnd_1 : decode cX7_orderEnd 1 = .ok (.iload_n 1, 1) := by decide +kernel
theorem dX7_orderEnd_2 : decode cX7_orderEnd 2 = .ok (.invokevirtual 172, 3) := by decide +kernel
theorem dX7_orderEnd_5 : decode cX7_orderEnd 5 = .ok (.lookupswitch 150 #[(98, 129), (108, 79), (109, 59), (115, 121), (116, 121), (118, 129)], 59) := by decide +kernel
theorem dX7_orderEnd_64 : decode cX7_orderEnd 64 = .ok (.aload_n 0, 1) := by decide +kernel
theorem dX7_orderEnd_65 : decode cX7_orderEnd 65 = .ok (.iload_n 1, 1) := by decide +kernel
theorem dX7_orderEnd_66 : decode cX7_orderEnd 66 = .ok (.iconst 1, 1) := by decide +kernel
theorem dX7_orderEnd_67 : decode cX7_orderEnd 67 = .ok (.iadd, 1) := by decide +kernel
theorem dX7_orderEnd_68 : decode cX7_orderEnd 68 = .ok (.invokevirtual 166, 3) := by decide +kernel
theorem dX7_orderEnd_71 : decode cX7_orderEnd 71 = .ok (.ifCond .ge 9, 3) := by decide +kernel
theorem dX7_orderEnd_74 : decode cX7_orderEnd 74 = .ok (.iload_n 1, 1) := by decide +kernel
theorem dX7_orderEnd_75 : decode cX7_orderEnd 75 = .ok (.iconst 1, 1) := by decide +kernel
theorem dX7_orderEnd_76 : decode cX7_orderEnd 76 = .ok (.iadd, 1) := by decide +kernel
theorem dX7_orderEnd_77 : decode cX7_orderEnd 77 = .ok (.goto 6, 3) := by decide +kernel
theorem dX7_orderEnd_80 : decode cX7_orderEnd 80 = .ok (.iload_n 1, 1) := by decide +kernel
theorem dX7_orderEnd_81 : decode cX7_orderEnd 81 = .ok (.iconst 2, 1) := by decide +kernel
theorem dX7_orderEnd_82 : decode cX7_orderEnd 82 = .ok (.iadd, 1) := by decide +kernel
theorem dX7_orderEnd_83 : decode cX7_orderEnd 83 = .ok (.ireturn, 1) := by decide +kernel
theorem dX7_orderEnd_84 : decode cX7_orderEnd 84 = .ok (.aload_n 0, 1) := by decide +kernel
theorem dX7_orderEnd_85 : decode cX7_orderEnd 85 = .ok (.iload_n 1, 1) := by decide +kernel
theorem dX7_orderEnd_86 : decode cX7_orderEnd 86 = .ok (.iconst 1, 1) := by decide +kernel
theorem dX7_orderEnd_87 : decode cX7_orderEnd 87 = .ok (.iadd, 1) := by decide +kernel
theorem dX7_orderEnd_88 : decode cX7_orderEnd 88 = .ok (.invokevirtual 166, 3) := by decide +kernel
theorem dX7_orderEnd_91 : decode cX7_orderEnd 91 = .ok (.ifCond .ge 8, 3) := by decide +kernel
theorem dX7_orderEnd_94 : decode cX7_orderEnd 94 = .ok (.bipush (-2), 2) := by decide +kernel
theorem dX7_orderEnd_96 : decode cX7_orderEnd 96 = .ok (.iload_n 1, 1) := by decide +kernel
theorem dX7_orderEnd_97 : decode cX7_orderEnd 97 = .ok (.isub, 1) := by decide +kernel
theorem dX7_orderEnd_98 : decode cX7_orderEnd 98 = .ok (.ireturn, 1) := by decide +kernel
theorem dX7_orderEnd_99 : decode cX7_orderEnd 99 = .ok (.aload_n 0, 1) := by decide +kernel
theorem dX7_orderEnd_100 : decode cX7_orderEnd 100 = .ok (.iload_n 1, 1) := by decide +kernel
theorem dX7_orderEnd_101 : decode cX7_orderEnd 101 = .ok (.iconst 2, 1) := by decide +kernel
theorem dX7_orderEnd_102 : decode cX7_orderEnd 102 = .ok (.iadd, 1) := by decide +kernel
theorem dX7_orderEnd_103 : decode cX7_orderEnd 103 = .ok (.invokevirtual 172, 3) := by decide +kernel
theorem dX7_orderEnd_106 : decode cX7_orderEnd 106 = .ok (.bipush 61, 2) := by decide +kernel
theorem dX7_orderEnd_108 : decode cX7_orderEnd 108 = .ok (.if_icmp .ne 13, 3) := by decide +kernel
theorem dX7_orderEnd_111 : decode cX7_orderEnd 111 = .ok (.aload_n 0, 1) := by decide +kernel
theorem dX7_orderEnd_112 : decode cX7_orderEnd 112 = .ok (.iload_n 1, 1) := by decide +kernel
theorem dX7_orderEnd_113 : decode cX7_orderEnd 113 = .ok (.iconst 3, 1) := by decide +kernel
theorem dX7_orderEnd_114 : decode cX7_orderEnd 114 = .ok (.iadd, 1) := by decide +kernel
theorem dX7_orderEnd_115 : decode cX7_orderEnd 115 = .ok (.invokevirtual 169, 3) := by decide +kernel
theorem dX7_orderEnd_118 : decode cX7_orderEnd 118 = .ok (.goto 7, 3) := by decide +kernel
theorem dX7_orderEnd_121 : decode cX7_orderEnd 121 = .ok (.bipush (-3), 2) := by decide +kernel
theorem dX7_orderEnd_123 : decode cX7_orderEnd 123 = .ok (.iload_n 1, 1) := by decide +kernel
theorem dX7_orderEnd_124 : decode cX7_orderEnd 124 = .ok (.isub, 1) := by decide +kernel
theorem dX7_orderEnd_125 : decode cX7_orderEnd 125 = .ok (.ireturn, 1) := by decide +kernel
theorem dX7_orderEnd_126 : decode cX7_orderEnd 126 = .ok (.aload_n 0, 1) := by decide +kernel
theorem dX7_orderEnd_127 : decode cX7_orderEnd 127 = .ok (.iload_n 1, 1) := by decide +kernel
theorem dX7_orderEnd_128 : decode cX7_orderEnd 128 = .ok (.iconst 1, 1) := by decide +kernel
theorem dX7_orderEnd_129 : decode cX7_orderEnd 129 = .ok (.iadd, 1) := by decide +kernel
theorem dX7_orderEnd_130 : decode cX7_orderEnd 130 = .ok (.invokevirtual 169, 3) := by decide +kernel
theorem dX7_orderEnd_133 : decode cX7_orderEnd 133 = .ok (.ireturn, 1) := by decide +kernel
theorem dX7_orderEnd_134 : decode cX7_orderEnd 134 = .ok (.aload_n 0, 1) := by decide +kernel
theorem dX7_orderEnd_135 : decode cX7_orderEnd 135 = .ok (.iload_n 1, 1) := by decide +kernel
theorem dX7_orderEnd_136 : decode cX7_orderEnd 136 = .ok (.iconst 1, 1) := by decide +kernel
theorem dX7_orderEnd_137 : decode cX7_orderEnd 137 = .ok (.iadd, 1) := by decide +kernel
theorem dX7_orderEnd_138 : decode cX7_orderEnd 138 = .ok (.invokevirtual 166, 3) := by decide +kernel
theorem dX7_orderEnd_141 : decode cX7_orderEnd 141 = .ok (.ifCond .ge 10, 3) := by decide +kernel
theorem dX7_orderEnd_144 : decode cX7_orderEnd 144 = .ok (.bipush (-2), 2) := by decide +kernel
theorem dX7_orderEnd_146 : decode cX7_orderEnd 146 = .ok (.iload_n 1, 1) := by decide +kernel
theorem dX7_orderEnd_147 : decode cX7_orderEnd 147 = .ok (.isub, 1) := by decide +kernel
theorem dX7_orderEnd_148 : decode cX7_orderEnd 148 = .ok (.goto 6, 3) := by decide +kernel
theorem dX7_orderEnd_151 : decode cX7_orderEnd 151 = .ok (.iload_n 1, 1) := by decide +kernel
theorem dX7_orderEnd_152 : decode cX7_orderEnd 152 = .ok (.iconst 2, 1) := by decide +kernel
theorem dX7_orderEnd_153 : decode cX7_orderEnd 153 = .ok (.iadd, 1) := by decide +kernel
theorem dX7_orderEnd_154 : decode cX7_orderEnd 154 = .ok (.ireturn, 1) := by decide +kernel
theorem dX7_orderEnd_155 : decode cX7_orderEnd 155 = .ok (.iconst (-1), 1) := by decide +kernel
theorem dX7_orderEnd_156 : decode cX7_orderEnd 156 = .ok (.iload_n 1, 1) := by decide +kernel
theorem dX7_orderEnd_157 : decode cX7_orderEnd 157 = .ok (.isub, 1) := by decide +kernel
theorem dX7_orderEnd_158 : decode cX7_orderEnd 158 = .ok (.ireturn, 1) := by decide +kernel
set_option maxRecDepth 20000 in
theorem ggX7_fault_X7_orderEnd : GoodIn wsX7_fault wsX7_orderEnd := goodIn_r _ [6, 7, 8, 9, 5, 10, 1, 11, 12, 13, 14, 15, 16, 17, 18, 19, 20, 21, 22, 23, 24, 25, 26, 27, 28, 29] (by decide +kernel) (by decide +kernel)
set_option maxRecDepth 20000 in
theorem gX7_fault_X7_orderEnd : GoodIn wsX7_fault (wsV RX7 175 RX7 yX7_orderEnd wsX7_orderEnd) := goodIn_app (goodIn_of _ (by decide +kernel)) ggX7_fault_X7_orderEnd
set_option maxRecDepth 20000 in
theorem ggX7_fault_X7_code : GoodIn wsX7_fault wsX7_code := goodIn_r _ [10, 1, 11, 23, 24, 25, 26, 27, 28, 29] (by decide +kernel) (by decide +kernel)
set_option maxRecDepth 20000 in
theorem gX7_fault_X7_code : GoodIn wsX7_fault (wsV RX7 172 RX7 yX7_code wsX7_code) := goodIn_app (goodIn_of _ (by decide +kernel)) ggX7_fault_X7_code
theorem dX7_fault_0 : decode cX7_fault 0 = .ok (.iconst 0, 1) := by decide +kernel
theorem dX7_fault_1 : decode cX7_fault 1 = .ok (.istore_n 1, 1) := by decide +kernel
theorem dX7_fault_2 : decode cX7_fault 2 = .ok (.iconst 0, 1) := by decide +kernel
theorem dX7_fault_3 : decode cX7_fault 3 = .ok (.istore_n 2, 1) := by decide +kernel
theorem dX7_fault_4 : decode cX7_fault 4 = .ok (.iload_n 2, 1) := by decide +kernel
theorem dX7_fault_5 : decode cX7_fault 5 = .ok (.bipush 80, 2) := by decide +kernel
theorem dX7_fault_7 : decode cX7_fault 7 = .ok (.if_icmp .ge 50, 3) := by decide +kernel
theorem dX7_fault_10 : decode cX7_fault 10 = .ok (.aload_n 0, 1) := by decide +kernel
theorem dX7_fault_11 : decode cX7_fault 11 = .ok (.iload_n 1, 1) := by decide +kernel
theorem dX7_fault_12 : decode cX7_fault 12 = .ok (.invokevirtual 175, 3) := by decide +kernel
theorem dX7_fault_15 : decode cX7_fault 15 = .ok (.istore_n 3, 1) := by decide +kernel
theorem dX7_fault_16 : decode cX7_fault 16 = .ok (.iload_n 3, 1) := by decide +kernel
theorem dX7_fault_17 : decode cX7_fault 17 = .ok (.ifCond .ge 7, 3) := by decide +kernel
theorem dX7_fault_20 : decode cX7_fault 20 = .ok (.iconst (-1), 1) := by decide +kernel
theorem dX7_fault_21 : decode cX7_fault 21 = .ok (.iload_n 3, 1) := by decide +kernel
theorem dX7_fault_22 : decode cX7_fault 22 = .ok (.isub, 1) := by decide +kernel
theorem dX7_fault_23 : decode cX7_fault 23 = .ok (.ireturn, 1) := by decide +kernel
theorem dX7_fault_24 : decode cX7_fault 24 = .ok (.iload_n 3, 1) := by decide +kernel
theorem dX7_fault_25 : decode cX7_fault 25 = .ok (.aload_n 0, 1) := by decide +kernel
theorem dX7_fault_26 : decode cX7_fault 26 = .ok (.getfield 135, 3) := by decide +kernel
theorem dX7_fault_29 : decode cX7_fault 29 = .ok (.if_icmp .ne 6, 3) := by decide +kernel
theorem dX7_fault_32 : decode cX7_fault 32 = .ok (.bipush (-6), 2) := by decide +kernel
theorem dX7_fault_34 : decode cX7_fault 34 = .ok (.ireturn, 1) := by decide +kernel
theorem dX7_fault_35 : decode cX7_fault 35 = .ok (.aload_n 0, 1) := by decide +kernel
theorem dX7_fault_36 : decode cX7_fault 36 = .ok (.iload_n 3, 1) := by decide +kernel
theorem dX7_fault_37 : decode cX7_fault 37 = .ok (.invokevirtual 172, 3) := by decide +kernel
theorem dX7_fault_40 : decode cX7_fault 40 = .ok (.bipush 59, 2) := by decide +kernel
theorem dX7_fault_42 : decode cX7_fault 42 = .ok (.if_icmp .eq 5, 3) := by decide +kernel
theorem dX7_fault_45 : decode cX7_fault 45 = .ok (.iload_n 3, 1) := by decide +kernel
theorem dX7_fault_46 : decode cX7_fault 46 = .ok (.ireturn, 1) := by decide +kernel
theorem dX7_fault_47 : decode cX7_fault 47 = .ok (.iload_n 3, 1) := by decide +kernel
theorem dX7_fault_48 : decode cX7_fault 48 = .ok (.iconst 1, 1) := by decide +kernel
theorem dX7_fault_49 : decode cX7_fault 49 = .ok (.iadd, 1) := by decide +kernel
theorem dX7_fault_50 : decode cX7_fault 50 = .ok (.istore_n 1, 1) := by decide +kernel
theorem dX7_fault_51 : decode cX7_fault 51 = .ok (.iinc 2 1, 3) := by decide +kernel
theorem dX7_fault_54 : decode cX7_fault 54 = .ok (.goto (-50), 3) := by decide +kernel
theorem dX7_fault_57 : decode cX7_fault 57 = .ok (.bipush (-6), 2) := by decide +kernel
theorem dX7_fault_59 : decode cX7_fault 59 = .ok (.ireturn, 1) := by decide +kernel
set_option maxRecDepth 20000 in
theorem ggX7_whyNot_X7_digit : GoodIn wsX7_whyNot wsX7_digit := goodIn_r _ [5, 6, 7, 8, 9, 4, 10, 60, 61, 62, 63, 64, 65, 66] (by decide +kernel) (by decide +kernel)
set_option maxRecDepth 20000 in
theorem gX7_whyNot_X7_digit : GoodIn wsX7_whyNot (wsV RX7 166 RX7 yX7_digit wsX7_digit) := goodIn_app (goodIn_of _ (by decide +kernel)) ggX7_whyNot_X7_digit
set_option maxRecDepth 20000 in
theorem ggX7_whyNot_X7_code : GoodIn wsX7_whyNot wsX7_code := goodIn_r _ [14, 6, 7, 60, 61, 62, 63, 64, 65, 66] (by decide +kernel) (by decide +kernel)
set_option maxRecDepth 20000 in
theorem gX7_whyNot_X7_code : GoodIn wsX7_whyNot (wsV RX7 172 RX7 yX7_code wsX7_code) := goodIn_app (goodIn_of _ (by decide +kernel)) ggX7_whyNot_X7_code
set_option maxRecDepth 20000 in
theorem ggX7_whyNot_X7_whyNotMeter : GoodIn wsX7_whyNot wsX7_whyNotMeter := goodIn_r _ [18, 19, 20, 21, 4, 22, 23, 24, 25, 26, 27, 8, 9, 10, 60, 61, 62, 63, 64, 65, 66] (by decide +kernel) (by decide +kernel)
set_option maxRecDepth 20000 in
theorem gX7_whyNot_X7_whyNotMeter : GoodIn wsX7_whyNot (wsV RX7 101 RX7 yX7_whyNotMeter wsX7_whyNotMeter) := goodIn_app (goodIn_of _ (by decide +kernel)) ggX7_whyNot_X7_whyNotMeter
set_option maxRecDepth 20000 in
theorem ggX7_whyNot_X7_numberAt : GoodIn wsX7_whyNot wsX7_numberAt := goodIn_r _ [31, 32, 33, 34, 4, 35, 1, 2, 3, 5, 6, 7, 8, 9, 10, 60, 61, 62, 63, 64, 65, 66] (by decide +kernel) (by decide +kernel)
set_option maxRecDepth 20000 in
theorem gX7_whyNot_X7_numberAt : GoodIn wsX7_whyNot (wsV RX7 178 RX7 yX7_numberAt wsX7_numberAt) := goodIn_app (goodIn_of _ (by decide +kernel)) ggX7_whyNot_X7_numberAt
set_option maxRecDepth 20000 in
theorem ggX7_whyNot_X7_whyNotLoad : GoodIn wsX7_whyNot wsX7_whyNotLoad := goodIn_r _ [39, 24, 25, 26, 4, 27, 19, 20, 21, 22, 23, 8, 9, 10, 60, 61, 62, 63, 64, 65, 66] (by decide +kernel) (by decide +kernel)
set_option maxRecDepth 20000 in
theorem gX7_whyNot_X7_whyNotLoad : GoodIn wsX7_whyNot (wsV RX7 107 RX7 yX7_whyNotLoad wsX7_whyNotLoad) := goodIn_app (goodIn_of _ (by decide +kernel)) ggX7_whyNot_X7_whyNotLoad
set_option maxRecDepth 20000 in
theorem ggX7_whyNot_X7_isLoad : GoodIn wsX7_whyNot wsX7_isLoad := goodIn_r _ [43, 19, 20, 21, 4, 22, 23, 8, 9, 10, 60, 61, 62, 63, 64, 65, 66] (by decide +kernel) (by decide +kernel)
set_option maxRecDepth 20000 in
theorem gX7_whyNot_X7_isLoad : GoodIn wsX7_whyNot (wsV RX7 113 RX7 yX7_isLoad wsX7_isLoad) := goodIn_app (goodIn_of _ (by decide +kernel)) ggX7_whyNot_X7_isLoad
set_option maxRecDepth 20000 in
theorem ggX7_whyNot_X7_whyNotPass : GoodIn wsX7_whyNot wsX7_whyNotPass := goodIn_r _ [47, 48, 8, 9, 4, 10, 19, 20, 21, 22, 23, 60, 61, 62, 63, 64, 65, 66] (by decide +kernel) (by decide +kernel)
set_option maxRecDepth 20000 in
theorem gX7_whyNot_X7_whyNotPass : GoodIn wsX7_whyNot (wsV RX7 129 RX7 yX7_whyNotPass wsX7_whyNotPass) := goodIn_app (goodIn_of _ (by decide +kernel)) ggX7_whyNot_X7_whyNotPass
set_option maxRecDepth 20000 in
theorem ggX7_whyNot_X7_whyNotTamper : GoodIn wsX7_whyNot wsX7_whyNotTamper := goodIn_r _ [52, 24, 25, 26, 4, 27, 19, 20, 21, 22, 23, 8, 9, 10, 53, 54, 55, 56, 57, 58, 59, 60, 61, 62, 63, 64, 65, 66] (by decide +kernel) (by decide +kernel)
set_option maxRecDepth 20000 in
theorem gX7_whyNot_X7_whyNotTamper : GoodIn wsX7_whyNot (wsV RX7 119 RX7 yX7_whyNotTamper wsX7_whyNotTamper) := goodIn_app (goodIn_of _ (by decide +kernel)) ggX7_whyNot_X7_whyNotTamper
set_option maxRecDepth 20000 in
theorem ggX7_whyNot_X7_isMeter : GoodIn wsX7_whyNot wsX7_isMeter := goodIn_r _ [27, 19, 20, 21, 4, 22, 23, 8, 9, 10, 60, 61, 62, 63, 64, 65, 66] (by decide +kernel) (by decide +kernel)
set_option maxRecDepth 20000 in
theorem gX7_whyNot_X7_isMeter : GoodIn wsX7_whyNot (wsV RX7 95 RX7 yX7_isMeter wsX7_isMeter) := goodIn_app (goodIn_of _ (by decide +kernel)) ggX7_whyNot_X7_isMeter
theorem dX7_whyNot_0 : decode cX7_whyNot 0 = .ok (.aload_n 0, 1) := by decide +kernel
theorem dX7_whyNot_1 : decode cX7_whyNot 1 = .ok (.iload_n 1, 1) := by decide +kernel
theorem dX7_whyNot_2 : decode cX7_whyNot 2 = .ok (.iconst 1, 1) := by decide +kernel
theorem dX7_whyNot_3 : decode cX7_whyNot 3 = .ok (.iadd, 1) := by decide +kernel
theorem dX7_whyNot_4 : decode cX7_whyNot 4 = .ok (.invokevirtual 166, 3) := by decide +kernel
theorem dX7_whyNot_7 : decode cX7_whyNot 7 = .ok (.istore_n 2, 1) := by decide +kernel
theorem dX7_whyNot_8 : decode cX7_whyNot 8 = .ok (.aload_n 0, 1) := by decide +kernel
theorem dX7_whyNot_9 : decode cX7_whyNot 9 = .ok (.iload_n 1, 1) := by decide +kernel
theorem dX7_whyNot_10 : decode cX7_whyNot 10 = .ok (.invokevirtual 172, 3) := by decide +kernel
theorem dX7_whyNot_13 : decode cX7_whyNot 13 = .ok (.lookupswitch 116 #[(98, 110), (108, 65), (109, 51), (115, 78), (116, 98)], 51) := by decide +kernel
theorem dX7_whyNot_64 : decode cX7_whyNot 64 = .ok (.aload_n 0, 1) := by decide +kernel
theorem dX7_whyNot_65 : decode cX7_whyNot 65 = .ok (.iload_n 2, 1) := by decide +kernel
theorem dX7_whyNot_66 : decode cX7_whyNot 66 = .ok (.ifCond .ge 7, 3) := by decide +kernel
theorem dX7_whyNot_69 : decode cX7_whyNot 69 = .ok (.iconst 0, 1) := by decide +kernel
theorem dX7_whyNot_70 : decode cX7_whyNot 70 = .ok (.goto 4, 3) := by decide +kernel
theorem dX7_whyNot_73 : decode cX7_whyNot 73 = .ok (.iload_n 2, 1) := by decide +kernel
theorem dX7_whyNot_74 : decode cX7_whyNot 74 = .ok (.invokevirtual 101, 3) := by decide +kernel
theorem dX7_whyNot_77 : decode cX7_whyNot 77 = .ok (.ireturn, 1) := by decide +kernel
theorem dX7_whyNot_78 : decode cX7_whyNot 78 = .ok (.aload_n 0, 1) := by decide +kernel
theorem dX7_whyNot_79 : decode cX7_whyNot 79 = .ok (.iload_n 2, 1) := by decide +kernel
theorem dX7_whyNot_80 : decode cX7_whyNot 80 = .ok (.aload_n 0, 1) := by decide +kernel
theorem dX7_whyNot_81 : decode cX7_whyNot 81 = .ok (.iload_n 1, 1) := by decide +kernel
theorem dX7_whyNot_82 : decode cX7_whyNot 82 = .ok (.iconst 3, 1) := by decide +kernel
theorem dX7_whyNot_83 : decode cX7_whyNot 83 = .ok (.iadd, 1) := by decide +kernel
theorem dX7_whyNot_84 : decode cX7_whyNot 84 = .ok (.invokevirtual 178, 3) := by decide +kernel
theorem dX7_whyNot_87 : decode cX7_whyNot 87 = .ok (.invokevirtual 107, 3) := by decide +kernel
theorem dX7_whyNot_90 : decode cX7_whyNot 90 = .ok (.ireturn, 1) := by decide +kernel
theorem dX7_whyNot_91 : decode cX7_whyNot 91 = .ok (.aload_n 0, 1) := by decide +kernel
theorem dX7_whyNot_92 : decode cX7_whyNot 92 = .ok (.aload_n 0, 1) := by decide +kernel
theorem dX7_whyNot_93 : decode cX7_whyNot 93 = .ok (.iload_n 1, 1) := by decide +kernel
theorem dX7_whyNot_94 : decode cX7_whyNot 94 = .ok (.iconst 1, 1) := by decide +kernel
theorem dX7_whyNot_95 : decode cX7_whyNot 95 = .ok (.iadd, 1) := by decide +kernel
theorem dX7_whyNot_96 : decode cX7_whyNot 96 = .ok (.invokevirtual 178, 3) := by decide +kernel
theorem dX7_whyNot_99 : decode cX7_whyNot 99 = .ok (.invokevirtual 113, 3) := by decide +kernel
theorem dX7_whyNot_102 : decode cX7_whyNot 102 = .ok (.ifCond .eq 7, 3) := by decide +kernel
theorem dX7_whyNot_105 : decode cX7_whyNot 105 = .ok (.iconst 0, 1) := by decide +kernel
theorem dX7_whyNot_106 : decode cX7_whyNot 106 = .ok (.goto 4, 3) := by decide +kernel
theorem dX7_whyNot_109 : decode cX7_whyNot 109 = .ok (.iconst (-1), 1) := by decide +kernel
theorem dX7_whyNot_110 : decode cX7_whyNot 110 = .ok (.ireturn, 1) := by decide +kernel
theorem dX7_whyNot_111 : decode cX7_whyNot 111 = .ok (.aload_n 0, 1) := by decide +kernel
theorem dX7_whyNot_112 : decode cX7_whyNot 112 = .ok (.aload_n 0, 1) := by decide +kernel
theorem dX7_whyNot_113 : decode cX7_whyNot 113 = .ok (.iload_n 1, 1) := by decide +kernel
theorem dX7_whyNot_114 : decode cX7_whyNot 114 = .ok (.iconst 1, 1) := by decide +kernel
theorem dX7_whyNot_115 : decode cX7_whyNot 115 = .ok (.iadd, 1) := by decide +kernel
theorem dX7_whyNot_116 : decode cX7_whyNot 116 = .ok (.invokevirtual 178, 3) := by decide +kernel
theorem dX7_whyNot_119 : decode cX7_whyNot 119 = .ok (.invokevirtual 129, 3) := by decide +kernel
theorem dX7_whyNot_122 : decode cX7_whyNot 122 = .ok (.ireturn, 1) := by decide +kernel
theorem dX7_whyNot_123 : decode cX7_whyNot 123 = .ok (.aload_n 0, 1) := by decide +kernel
theorem dX7_whyNot_124 : decode cX7_whyNot 124 = .ok (.iload_n 2, 1) := by decide +kernel
theorem dX7_whyNot_125 : decode cX7_whyNot 125 = .ok (.invokevirtual 119, 3) := by decide +kernel
theorem dX7_whyNot_128 : decode cX7_whyNot 128 = .ok (.ireturn, 1) := by decide +kernel
theorem dX7_whyNot_129 : decode cX7_whyNot 129 = .ok (.aload_n 0, 1) := by decide +kernel
theorem dX7_whyNot_130 : decode cX7_whyNot 130 = .ok (.iload_n 2, 1) := by decide +kernel
theorem dX7_whyNot_131 : decode cX7_whyNot 131 = .ok (.invokevirtual 95, 3) := by decide +kernel
theorem dX7_whyNot_134 : decode cX7_whyNot 134 = .ok (.ifCond .eq 7, 3) := by decide +kernel
theorem dX7_whyNot_137 : decode cX7_whyNot 137 = .ok (.iconst 0, 1) := by decide +kernel
theorem dX7_whyNot_138 : decode cX7_whyNot 138 = .ok (.goto 4, 3) := by decide +kernel
theorem dX7_whyNot_141 : decode cX7_whyNot 141 = .ok (.iconst (-1), 1) := by decide +kernel
theorem dX7_whyNot_142 : decode cX7_whyNot 142 = .ok (.ireturn, 1) := by decide +kernel
set_option maxRecDepth 20000 in
theorem ggX7_does_X7_digit : GoodIn wsX7_does wsX7_digit := goodIn_r _ [6, 7, 8, 9, 10, 5, 11, 86, 87, 88, 89, 90, 91, 92] (by decide +kernel) (by decide +kernel)
set_option maxRecDepth 20000 in
theorem gX7_does_X7_digit : GoodIn wsX7_does (wsV RX7 166 RX7 yX7_digit wsX7_digit) := goodIn_app (goodIn_of _ (by decide +kernel)) ggX7_does_X7_digit
set_option maxRecDepth 20000 in
theorem ggX7_does_X7_code : GoodIn wsX7_does wsX7_code := goodIn_r _ [15, 7, 8, 86, 87, 88, 89, 90, 91, 92] (by decide +kernel) (by decide +kernel)
set_option maxRecDepth 20000 in
theorem gX7_does_X7_code : GoodIn wsX7_does (wsV RX7 172 RX7 yX7_code wsX7_code) := goodIn_app (goodIn_of _ (by decide +kernel)) ggX7_does_X7_code
set_option maxRecDepth 20000 in
theorem ggX7_does_X7_comes : GoodIn wsX7_does wsX7_comes := goodIn_r _ [19, 1, 20, 21, 22, 23, 24, 5, 25, 26, 27, 28, 86, 87, 88, 89, 90, 91, 92] (by decide +kernel) (by decide +kernel)
set_option maxRecDepth 20000 in
theorem gX7_does_X7_comes : GoodIn wsX7_does (wsV RX7 104 RX7 yX7_comes wsX7_comes) := goodIn_app (goodIn_of _ (by decide +kernel)) ggX7_does_X7_comes
set_option maxRecDepth 20000 in
theorem ggX7_does_X7_numberAt : GoodIn wsX7_does wsX7_numberAt := goodIn_r _ [32, 33, 34, 35, 5, 36, 2, 3, 4, 6, 7, 8, 9, 10, 11, 86, 87, 88, 89, 90, 91, 92] (by decide +kernel) (by decide +kernel)
set_option maxRecDepth 20000 in
theorem gX7_does_X7_numberAt : GoodIn wsX7_does (wsV RX7 178 RX7 yX7_numberAt wsX7_numberAt) := goodIn_app (goodIn_of _ (by decide +kernel)) ggX7_does_X7_numberAt
set_option maxRecDepth 20000 in
theorem ggX7_does_X7_loads : GoodIn wsX7_does wsX7_loads := goodIn_r _ [40, 1, 22, 23, 24, 5, 25, 86, 87, 88, 89, 90, 91, 92] (by decide +kernel) (by decide +kernel)
set_option maxRecDepth 20000 in
theorem gX7_does_X7_loads : GoodIn wsX7_does (wsV RX7 110 RX7 yX7_loads wsX7_loads) := goodIn_app (goodIn_of _ (by decide +kernel)) ggX7_does_X7_loads
set_option maxRecDepth 20000 in
theorem ggX7_does_X7_turns : GoodIn wsX7_does wsX7_turns := goodIn_r _ [44, 1, 22, 23, 24, 5, 25, 86, 87, 88, 89, 90, 91, 92] (by decide +kernel) (by decide +kernel)
set_option maxRecDepth 20000 in
theorem gX7_does_X7_turns : GoodIn wsX7_does (wsV RX7 116 RX7 yX7_turns wsX7_turns) := goodIn_app (goodIn_of _ (by decide +kernel)) ggX7_does_X7_turns
set_option maxRecDepth 20000 in
theorem ggX7_does_X7_passes : GoodIn wsX7_does wsX7_passes := goodIn_r _ [48, 1, 22, 23, 24, 5, 25, 49, 50, 51, 52, 53, 54, 26, 27, 28, 55, 56, 57, 58, 59, 60, 61, 62, 63, 64, 65, 66, 67, 68, 69, 70, 21, 71, 72, 73, 74, 75, 76, 77, 86, 87, 88, 89, 90, 91, 92] (by decide +kernel) (by decide +kernel)
set_option maxRecDepth 20000 in
theorem gX7_does_X7_passes : GoodIn wsX7_does (wsV RX7 132 RX7 yX7_passes wsX7_passes) := goodIn_app (goodIn_of _ (by decide +kernel)) ggX7_does_X7_passes
set_option maxRecDepth 20000 in
theorem ggX7_does_X7_at : GoodIn wsX7_does wsX7_at := goodIn_r _ [28] (by decide +kernel) (by decide +kernel)
set_option maxRecDepth 20000 in
theorem gX7_does_X7_at : GoodIn wsX7_does (va_wsS RX7 45 yX7_at wsX7_at) := goodIn_app (goodIn_of _ (by decide +kernel)) ggX7_does_X7_at
set_option maxRecDepth 20000 in
theorem ggX7_does_X7_visits : GoodIn wsX7_does wsX7_visits := goodIn_r _ [81, 1, 21, 26, 27, 5, 28, 82, 83, 84, 85, 86, 87, 88, 89, 90, 91, 92] (by decide +kernel) (by decide +kernel)
set_option maxRecDepth 20000 in
theorem gX7_does_X7_visits : GoodIn wsX7_does (wsV RX7 125 RX7 yX7_visits wsX7_visits) := goodIn_app (goodIn_of _ (by decide +kernel)) ggX7_does_X7_visits
theorem dX7_does_0 : decode cX7_does 0 = .ok (.aload_n 0, 1) := by decide +kernel
theorem dX7_does_1 : decode cX7_does 1 = .ok (.iload_n 1, 1) := by decide +kernel
theorem dX7_does_2 : decode cX7_does 2 = .ok (.iconst 1, 1) := by decide +kernel
theorem dX7_does_3 : decode cX7_does 3 = .ok (.iadd, 1) := by decide +kernel
theorem dX7_does_4 : decode cX7_does 4 = .ok (.invokevirtual 166, 3) := by decide +kernel
theorem dX7_does_7 : decode cX7_does 7 = .ok (.istore_n 2, 1) := by decide +kernel
theorem dX7_does_8 : decode cX7_does 8 = .ok (.aload_n 0, 1) := by decide +kernel
theorem dX7_does_9 : decode cX7_does 9 = .ok (.iload_n 1, 1) := by decide +kernel
theorem dX7_does_10 : decode cX7_does 10 = .ok (.invokevirtual 172, 3) := by decide +kernel
theorem dX7_does_13 : decode cX7_does 13 = .ok (.lookupswitch 119 #[(98, 103), (108, 65), (109, 51), (115, 78), (116, 90)], 51) := by decide +kernel
theorem dX7_does_64 : decode cX7_does 64 = .ok (.aload_n 0, 1) := by decide +kernel
theorem dX7_does_65 : decode cX7_does 65 = .ok (.iload_n 2, 1) := by decide +kernel
theorem dX7_does_66 : decode cX7_does 66 = .ok (.ifCond .ge 7, 3) := by decide +kernel
theorem dX7_does_69 : decode cX7_does 69 = .ok (.iconst 0, 1) := by decide +kernel
theorem dX7_does_70 : decode cX7_does 70 = .ok (.goto 4, 3) := by decide +kernel
theorem dX7_does_73 : decode cX7_does 73 = .ok (.iload_n 2, 1) := by decide +kernel
theorem dX7_does_74 : decode cX7_does 74 = .ok (.invokevirtual 104, 3) := by decide +kernel
theorem dX7_does_77 : decode cX7_does 77 = .ok (.ireturn, 1) := by decide +kernel
theorem dX7_does_78 : decode cX7_does 78 = .ok (.aload_n 0, 1) := by decide +kernel
theorem dX7_does_79 : decode cX7_does 79 = .ok (.iload_n 2, 1) := by decide +kernel
theorem dX7_does_80 : decode cX7_does 80 = .ok (.aload_n 0, 1) := by decide +kernel
theorem dX7_does_81 : decode cX7_does 81 = .ok (.iload_n 1, 1) := by decide +kernel
theorem dX7_does_82 : decode cX7_does 82 = .ok (.iconst 3, 1) := by decide +kernel
theorem dX7_does_83 : decode cX7_does 83 = .ok (.iadd, 1) := by decide +kernel
theorem dX7_does_84 : decode cX7_does 84 = .ok (.invokevirtual 178, 3) := by decide +kernel
theorem dX7_does_87 : decode cX7_does 87 = .ok (.invokevirtual 110, 3) := by decide +kernel
theorem dX7_does_90 : decode cX7_does 90 = .ok (.ireturn, 1) := by decide +kernel
theorem dX7_does_91 : decode cX7_does 91 = .ok (.aload_n 0, 1) := by decide +kernel
theorem dX7_does_92 : decode cX7_does 92 = .ok (.aload_n 0, 1) := by decide +kernel
theorem dX7_does_93 : decode cX7_does 93 = .ok (.iload_n 1, 1) := by decide +kernel
theorem dX7_does_94 : decode cX7_does 94 = .ok (.iconst 1, 1) := by decide +kernel
theorem dX7_does_95 : decode cX7_does 95 = .ok (.iadd, 1) := by decide +kernel
theorem dX7_does_96 : decode cX7_does 96 = .ok (.invokevirtual 178, 3) := by decide +kernel
theorem dX7_does_99 : decode cX7_does 99 = .ok (.invokevirtual 116, 3) := by decide +kernel
theorem dX7_does_102 : decode cX7_does 102 = .ok (.ireturn, 1) := by decide +kernel
theorem dX7_does_103 : decode cX7_does 103 = .ok (.aload_n 0, 1) := by decide +kernel
theorem dX7_does_104 : decode cX7_does 104 = .ok (.iconst 0, 1) := by decide +kernel
theorem dX7_does_105 : decode cX7_does 105 = .ok (.aload_n 0, 1) := by decide +kernel
theorem dX7_does_106 : decode cX7_does 106 = .ok (.iload_n 1, 1) := by decide +kernel
theorem dX7_does_107 : decode cX7_does 107 = .ok (.iconst 1, 1) := by decide +kernel
theorem dX7_does_108 : decode cX7_does 108 = .ok (.iadd, 1) := by decide +kernel
theorem dX7_does_109 : decode cX7_does 109 = .ok (.invokevirtual 178, 3) := by decide +kernel
theorem dX7_does_112 : decode cX7_does 112 = .ok (.invokevirtual 132, 3) := by decide +kernel
theorem dX7_does_115 : decode cX7_does 115 = .ok (.ireturn, 1) := by decide +kernel
theorem dX7_does_116 : decode cX7_does 116 = .ok (.aload_n 0, 1) := by decide +kernel
theorem dX7_does_117 : decode cX7_does 117 = .ok (.getfield 7, 3) := by decide +kernel
theorem dX7_does_120 : decode cX7_does 120 = .ok (.iconst 0, 1) := by decide +kernel
theorem dX7_does_121 : decode cX7_does 121 = .ok (.iload_n 2, 1) := by decide +kernel
theorem dX7_does_122 : decode cX7_does 122 = .ok (.invokestatic 45, 3) := by decide +kernel
theorem dX7_does_125 : decode cX7_does 125 = .ok (.bipush 7, 2) := by decide +kernel
theorem dX7_does_127 : decode cX7_does 127 = .ok (.iadd, 1) := by decide +kernel
theorem dX7_does_128 : decode cX7_does 128 = .ok (.lconst 1, 1) := by decide +kernel
theorem dX7_does_129 : decode cX7_does 129 = .ok (.lastore, 1) := by decide +kernel
theorem dX7_does_130 : decode cX7_does 130 = .ok (.iload_n 2, 1) := by decide +kernel
theorem dX7_does_131 : decode cX7_does 131 = .ok (.ireturn, 1) := by decide +kernel
theorem dX7_does_132 : decode cX7_does 132 = .ok (.aload_n 0, 1) := by decide +kernel
theorem dX7_does_133 : decode cX7_does 133 = .ok (.iload_n 2, 1) := by decide +kernel
theorem dX7_does_134 : decode cX7_does 134 = .ok (.invokevirtual 125, 3) := by decide +kernel
theorem dX7_does_137 : decode cX7_does 137 = .ok (.ireturn, 1) := by decide +kernel
set_option maxRecDepth 20000 in
theorem ggX7_carryOut_X7_fault : GoodIn wsX7_carryOut wsX7_fault := goodIn_r _ [6, 1, 7, 8, 9, 5, 10, 11, 12, 13, 14, 15, 16, 17, 18, 19, 20, 21, 22, 23, 24, 25, 26, 133, 134, 135, 136, 137, 138, 139] (by decide +kernel) (by decide +kernel)
set_option maxRecDepth 20000 in
theorem gX7_carryOut_X7_fault : GoodIn wsX7_carryOut (wsV RX7 181 RX7 yX7_fault wsX7_fault) := goodIn_app (goodIn_of _ (by decide +kernel)) ggX7_carryOut_X7_fault
set_option maxRecDepth 20000 in
theorem ggX7_carryOut_X7_remembers : GoodIn wsX7_carryOut wsX7_remembers := goodIn_r _ [30, 31, 32, 33, 133, 134, 135, 136, 137, 138, 139] (by decide +kernel) (by decide +kernel)
set_option maxRecDepth 20000 in
theorem gX7_carryOut_X7_remembers : GoodIn wsX7_carryOut (wsV RX7 92 RX7 yX7_remembers wsX7_remembers) := goodIn_app (goodIn_of _ (by decide +kernel)) ggX7_carryOut_X7_remembers
set_option maxRecDepth 20000 in
theorem ggX7_carryOut_X7_whyNot : GoodIn wsX7_carryOut wsX7_whyNot := goodIn_r _ [37, 16, 17, 18, 5, 19, 1, 15, 20, 21, 22, 11, 12, 13, 14, 38, 39, 40, 41, 42, 43, 44, 45, 33, 46, 47, 48, 49, 50, 51, 52, 53, 23, 24, 25, 26, 54, 55, 56, 57, 58, 59, 60, 61, 62, 63, 64, 65, 66, 67, 68, 69, 70, 71, 72, 73, 74, 75, 76, 77, 133, 134, 135, 136, 137, 138, 139] (by decide +kernel) (by decide +kernel)
set_option maxRecDepth 20000 in
theorem gX7_carryOut_X7_whyNot : GoodIn wsX7_carryOut (wsV RX7 185 RX7 yX7_whyNot wsX7_whyNot) := goodIn_app (goodIn_of _ (by decide +kernel)) ggX7_carryOut_X7_whyNot
set_option maxRecDepth 20000 in
theorem ggX7_carryOut_X7_does : GoodIn wsX7_carryOut wsX7_does := goodIn_r _ [81, 33, 16, 17, 18, 5, 19, 1, 15, 20, 21, 22, 11, 12, 13, 14, 82, 83, 84, 85, 86, 87, 42, 43, 44, 45, 75, 76, 77, 50, 51, 52, 53, 23, 24, 25, 26, 88, 89, 90, 91, 92, 93, 94, 95, 96, 97, 98, 99, 100, 101, 102, 103, 104, 105, 106, 107, 108, 109, 110, 111, 112, 113, 71, 72, 73, 74, 114, 115, 116, 117, 118, 119, 120, 121, 122, 123, 124, 125, 126, 127, 128, 129, 130, 131, 132, 133, 134, 135, 136, 137, 138, 139] (by decide +kernel) (by decide +kernel)
set_option maxRecDepth 20000 in
theorem gX7_carryOut_X7_does : GoodIn wsX7_carryOut (wsV RX7 188 RX7 yX7_does wsX7_does) := goodIn_app (goodIn_of _ (by decide +kernel)) ggX7_carryOut_X7_does
set_option maxRecDepth 20000 in
theorem ggX7_carryOut_X7_orderEnd : GoodIn wsX7_carryOut wsX7_orderEnd := goodIn_r _ [10, 11, 12, 13, 5, 14, 1, 15, 16, 17, 18, 19, 20, 21, 22, 23, 24, 25, 26, 133, 134, 135, 136, 137, 138, 139] (by decide +kernel) (by decide +kernel)
set_option maxRecDepth 20000 in
theorem gX7_carryOut_X7_orderEnd : GoodIn wsX7_carryOut (wsV RX7 175 RX7 yX7_orderEnd wsX7_orderEnd) := goodIn_app (goodIn_of _ (by decide +kernel)) ggX7_carryOut_X7_orderEnd
theorem dX7_carryOut_0 : decode cX7_carryOut 0 = .ok (.aload_n 0, 1) := by decide +kernel
theorem dX7_carryOut_1 : decode cX7_carryOut 1 = .ok (.invokevirtual 181, 3) := by decide +kernel
theorem dX7_carryOut_4 : decode cX7_carryOut 4 = .ok (.bipush (-6), 2) := by decide +kernel
theorem dX7_carryOut_6 : decode cX7_carryOut 6 = .ok (.if_icmp .eq 6, 3) := by decide +kernel
theorem dX7_carryOut_9 : decode cX7_carryOut 9 = .ok (.bipush (-3), 2) := by decide +kernel
theorem dX7_carryOut_11 : decode cX7_carryOut 11 = .ok (.ireturn, 1) := by decide +kernel
theorem dX7_carryOut_12 : decode cX7_carryOut 12 = .ok (.aload_n 0, 1) := by decide +kernel
theorem dX7_carryOut_13 : decode cX7_carryOut 13 = .ok (.invokevirtual 92, 3) := by decide +kernel
theorem dX7_carryOut_16 : decode cX7_carryOut 16 = .ok (.iconst 0, 1) := by decide +kernel
theorem dX7_carryOut_17 : decode cX7_carryOut 17 = .ok (.istore_n 1, 1) := by decide +kernel
theorem dX7_carryOut_18 : decode cX7_carryOut 18 = .ok (.iconst 0, 1) := by decide +kernel
theorem dX7_carryOut_19 : decode cX7_carryOut 19 = .ok (.istore_n 2, 1) := by decide +kernel
theorem dX7_carryOut_20 : decode cX7_carryOut 20 = .ok (.iload_n 2, 1) := by decide +kernel
theorem dX7_carryOut_21 : decode cX7_carryOut 21 = .ok (.aload_n 0, 1) := by decide +kernel
theorem dX7_carryOut_22 : decode cX7_carryOut 22 = .ok (.getfield 135, 3) := by decide +kernel
theorem dX7_carryOut_25 : decode cX7_carryOut 25 = .ok (.if_icmp .ge 31, 3) := by decide +kernel
theorem dX7_carryOut_28 : decode cX7_carryOut 28 = .ok (.aload_n 0, 1) := by decide +kernel
theorem dX7_carryOut_29 : decode cX7_carryOut 29 = .ok (.iload_n 2, 1) := by decide +kernel
theorem dX7_carryOut_30 : decode cX7_carryOut 30 = .ok (.invokevirtual 185, 3) := by decide +kernel
theorem dX7_carryOut_33 : decode cX7_carryOut 33 = .ok (.ifCond .ne 23, 3) := by decide +kernel
theorem dX7_carryOut_36 : decode cX7_carryOut 36 = .ok (.aload_n 0, 1) := by decide +kernel
theorem dX7_carryOut_37 : decode cX7_carryOut 37 = .ok (.iload_n 2, 1) := by decide +kernel
theorem dX7_carryOut_38 : decode cX7_carryOut 38 = .ok (.invokevirtual 188, 3) := by decide +kernel
theorem dX7_carryOut_41 : decode cX7_carryOut 41 = .ok (.istore_n 3, 1) := by decide +kernel
theorem dX7_carryOut_42 : decode cX7_carryOut 42 = .ok (.iinc 1 1, 3) := by decide +kernel
theorem dX7_carryOut_45 : decode cX7_carryOut 45 = .ok (.aload_n 0, 1) := by decide +kernel
theorem dX7_carryOut_46 : decode cX7_carryOut 46 = .ok (.iload_n 2, 1) := by decide +kernel
theorem dX7_carryOut_47 : decode cX7_carryOut 47 = .ok (.invokevirtual 175, 3) := by decide +kernel
theorem dX7_carryOut_50 : decode cX7_carryOut 50 = .ok (.iconst 1, 1) := by decide +kernel
theorem dX7_carryOut_51 : decode cX7_carryOut 51 = .ok (.iadd, 1) := by decide +kernel
theorem dX7_carryOut_52 : decode cX7_carryOut 52 = .ok (.istore_n 2, 1) := by decide +kernel
theorem dX7_carryOut_53 : decode cX7_carryOut 53 = .ok (.goto (-33), 3) := by decide +kernel
theorem dX7_carryOut_56 : decode cX7_carryOut 56 = .ok (.aload_n 0, 1) := by decide +kernel
theorem dX7_carryOut_57 : decode cX7_carryOut 57 = .ok (.iconst 0, 1) := by decide +kernel
theorem dX7_carryOut_58 : decode cX7_carryOut 58 = .ok (.putfield 135, 3) := by decide +kernel
theorem dX7_carryOut_61 : decode cX7_carryOut 61 = .ok (.iload_n 1, 1) := by decide +kernel
theorem dX7_carryOut_62 : decode cX7_carryOut 62 = .ok (.ireturn, 1) := by decide +kernel
theorem dX7_undo_0 : decode cX7_undo 0 = .ok (.aload_n 0, 1) := by decide +kernel
theorem dX7_undo_1 : decode cX7_undo 1 = .ok (.getfield 49, 3) := by decide +kernel
theorem dX7_undo_4 : decode cX7_undo 4 = .ok (.ifCond .ne 6, 3) := by decide +kernel
theorem dX7_undo_7 : decode cX7_undo 7 = .ok (.bipush (-5), 2) := by decide +kernel
theorem dX7_undo_9 : decode cX7_undo 9 = .ok (.ireturn, 1) := by decide +kernel
theorem dX7_undo_10 : decode cX7_undo 10 = .ok (.aload_n 0, 1) := by decide +kernel
theorem dX7_undo_11 : decode cX7_undo 11 = .ok (.dup, 1) := by decide +kernel
theorem dX7_undo_12 : decode cX7_undo 12 = .ok (.getfield 49, 3) := by decide +kernel
theorem dX7_undo_15 : decode cX7_undo 15 = .ok (.iconst 1, 1) := by decide +kernel
theorem dX7_undo_16 : decode cX7_undo 16 = .ok (.isub, 1) := by decide +kernel
theorem dX7_undo_17 : decode cX7_undo 17 = .ok (.putfield 49, 3) := by decide +kernel
theorem dX7_undo_20 : decode cX7_undo 20 = .ok (.iconst 0, 1) := by decide +kernel
theorem dX7_undo_21 : decode cX7_undo 21 = .ok (.istore_n 1, 1) := by decide +kernel
theorem dX7_undo_22 : decode cX7_undo 22 = .ok (.iload_n 1, 1) := by decide +kernel
theorem dX7_undo_23 : decode cX7_undo 23 = .ok (.sipush 138, 3) := by decide +kernel
theorem dX7_undo_26 : decode cX7_undo 26 = .ok (.if_icmp .ge 30, 3) := by decide +kernel
theorem dX7_undo_29 : decode cX7_undo 29 = .ok (.aload_n 0, 1) := by decide +kernel
theorem dX7_undo_30 : decode cX7_undo 30 = .ok (.getfield 7, 3) := by decide +kernel
theorem dX7_undo_33 : decode cX7_undo 33 = .ok (.iload_n 1, 1) := by decide +kernel
theorem dX7_undo_34 : decode cX7_undo 34 = .ok (.aload_n 0, 1) := by decide +kernel
theorem dX7_undo_35 : decode cX7_undo 35 = .ok (.getfield 13, 3) := by decide +kernel
theorem dX7_undo_38 : decode cX7_undo 38 = .ok (.sipush 138, 3) := by decide +kernel
theorem dX7_undo_41 : decode cX7_undo 41 = .ok (.aload_n 0, 1) := by decide +kernel
theorem dX7_undo_42 : decode cX7_undo 42 = .ok (.getfield 49, 3) := by decide +kernel
theorem dX7_undo_45 : decode cX7_undo 45 = .ok (.imul, 1) := by decide +kernel
theorem dX7_undo_46 : decode cX7_undo 46 = .ok (.iload_n 1, 1) := by decide +kernel
theorem dX7_undo_47 : decode cX7_undo 47 = .ok (.iadd, 1) := by decide +kernel
theorem dX7_undo_48 : decode cX7_undo 48 = .ok (.laload, 1) := by decide +kernel
theorem dX7_undo_49 : decode cX7_undo 49 = .ok (.lastore, 1) := by decide +kernel
theorem dX7_undo_50 : decode cX7_undo 50 = .ok (.iinc 1 1, 3) := by decide +kernel
theorem dX7_undo_53 : decode cX7_undo 53 = .ok (.goto (-31), 3) := by decide +kernel
theorem dX7_undo_56 : decode cX7_undo 56 = .ok (.aload_n 0, 1) := by decide +kernel
theorem dX7_undo_57 : decode cX7_undo 57 = .ok (.getfield 49, 3) := by decide +kernel
theorem dX7_undo_60 : decode cX7_undo 60 = .ok (.ireturn, 1) := by decide +kernel
set_option maxRecDepth 20000 in
theorem ggX7_save_X7_in : GoodIn wsX7_save wsX7_in := goodIn_r _ [7] (by decide +kernel) (by decide +kernel)
set_option maxRecDepth 20000 in
theorem gX7_save_X7_in : GoodIn wsX7_save (va_wsS RX7 41 yX7_in wsX7_in) := goodIn_app (goodIn_of _ (by decide +kernel)) ggX7_save_X7_in
set_option maxRecDepth 20000 in
theorem ggX7_save_X7_num : GoodIn wsX7_save wsX7_num := goodIn_r _ [11, 2, 12, 13, 14, 15, 16, 17, 18] (by decide +kernel) (by decide +kernel)
set_option maxRecDepth 20000 in
theorem gX7_save_X7_num : GoodIn wsX7_save (wsV RX7 37 RX7 yX7_num wsX7_num) := goodIn_app (goodIn_of _ (by decide +kernel)) ggX7_save_X7_num
theorem dX7_save_0 : decode cX7_save 0 = .ok (.iload_n 1, 1) := by decide +kernel
theorem dX7_save_1 : decode cX7_save 1 = .ok (.iconst 0, 1) := by decide +kernel
theorem dX7_save_2 : decode cX7_save 2 = .ok (.iconst 1, 1) := by decide +kernel
theorem dX7_save_3 : decode cX7_save 3 = .ok (.invokestatic 41, 3) := by decide +kernel
theorem dX7_save_6 : decode cX7_save 6 = .ok (.ifCond .ne 6, 3) := by decide +kernel
theorem dX7_save_9 : decode cX7_save 9 = .ok (.bipush (-2), 2) := by decide +kernel
theorem dX7_save_11 : decode cX7_save 11 = .ok (.ireturn, 1) := by decide +kernel
theorem dX7_save_12 : decode cX7_save 12 = .ok (.iconst 0, 1) := by decide +kernel
theorem dX7_save_13 : decode cX7_save 13 = .ok (.istore_n 2, 1) := by decide +kernel
theorem dX7_save_14 : decode cX7_save 14 = .ok (.iload_n 2, 1) := by decide +kernel
theorem dX7_save_15 : decode cX7_save 15 = .ok (.sipush 138, 3) := by decide +kernel
theorem dX7_save_18 : decode cX7_save 18 = .ok (.if_icmp .ge 27, 3) := by decide +kernel
theorem dX7_save_21 : decode cX7_save 21 = .ok (.aload_n 0, 1) := by decide +kernel
theorem dX7_save_22 : decode cX7_save 22 = .ok (.getfield 16, 3) := by decide +kernel
theorem dX7_save_25 : decode cX7_save 25 = .ok (.sipush 138, 3) := by decide +kernel
theorem dX7_save_28 : decode cX7_save 28 = .ok (.iload_n 1, 1) := by decide +kernel
theorem dX7_save_29 : decode cX7_save 29 = .ok (.imul, 1) := by decide +kernel
theorem dX7_save_30 : decode cX7_save 30 = .ok (.iload_n 2, 1) := by decide +kernel
theorem dX7_save_31 : decode cX7_save 31 = .ok (.iadd, 1) := by decide +kernel
theorem dX7_save_32 : decode cX7_save 32 = .ok (.aload_n 0, 1) := by decide +kernel
theorem dX7_save_33 : decode cX7_save 33 = .ok (.getfield 7, 3) := by decide +kernel
theorem dX7_save_36 : decode cX7_save 36 = .ok (.iload_n 2, 1) := by decide +kernel
theorem dX7_save_37 : decode cX7_save 37 = .ok (.laload, 1) := by decide +kernel
theorem dX7_save_38 : decode cX7_save 38 = .ok (.lastore, 1) := by decide +kernel
theorem dX7_save_39 : decode cX7_save 39 = .ok (.iinc 2 1, 3) := by decide +kernel
theorem dX7_save_42 : decode cX7_save 42 = .ok (.goto (-28), 3) := by decide +kernel
theorem dX7_save_45 : decode cX7_save 45 = .ok (.aload_n 0, 1) := by decide +kernel
theorem dX7_save_46 : decode cX7_save 46 = .ok (.getfield 19, 3) := by decide +kernel
theorem dX7_save_49 : decode cX7_save 49 = .ok (.iload_n 1, 1) := by decide +kernel
theorem dX7_save_50 : decode cX7_save 50 = .ok (.iconst 1, 1) := by decide +kernel
theorem dX7_save_51 : decode cX7_save 51 = .ok (.bastore, 1) := by decide +kernel
theorem dX7_save_52 : decode cX7_save 52 = .ok (.aload_n 0, 1) := by decide +kernel
theorem dX7_save_53 : decode cX7_save 53 = .ok (.bipush 7, 2) := by decide +kernel
theorem dX7_save_55 : decode cX7_save 55 = .ok (.invokevirtual 37, 3) := by decide +kernel
theorem dX7_save_58 : decode cX7_save 58 = .ok (.ireturn, 1) := by decide +kernel
set_option maxRecDepth 20000 in
theorem ggX7_restore_X7_in : GoodIn wsX7_restore wsX7_in := goodIn_r _ [7] (by decide +kernel) (by decide +kernel)
set_option maxRecDepth 20000 in
theorem gX7_restore_X7_in : GoodIn wsX7_restore (va_wsS RX7 41 yX7_in wsX7_in) := goodIn_app (goodIn_of _ (by decide +kernel)) ggX7_restore_X7_in
set_option maxRecDepth 20000 in
theorem ggX7_restore_X7_remembers : GoodIn wsX7_restore wsX7_remembers := goodIn_r _ [11, 12, 13, 2, 18, 19, 20, 21, 22, 23, 24] (by decide +kernel) (by decide +kernel)
set_option maxRecDepth 20000 in
theorem gX7_restore_X7_remembers : GoodIn wsX7_restore (wsV RX7 92 RX7 yX7_remembers wsX7_remembers) := goodIn_app (goodIn_of _ (by decide +kernel)) ggX7_restore_X7_remembers
set_option maxRecDepth 20000 in
theorem ggX7_restore_X7_num : GoodIn wsX7_restore wsX7_num := goodIn_r _ [17, 2, 18, 19, 20, 21, 22, 23, 24] (by decide +kernel) (by decide +kernel)
set_option maxRecDepth 20000 in
theorem gX7_restore_X7_num : GoodIn wsX7_restore (wsV RX7 37 RX7 yX7_num wsX7_num) := goodIn_app (goodIn_of _ (by decide +kernel)) ggX7_restore_X7_num
theorem dX7_restore_0 : decode cX7_restore 0 = .ok (.iload_n 1, 1) := by decide +kernel
theorem dX7_restore_1 : decode cX7_restore 1 = .ok (.iconst 0, 1) := by decide +kernel
theorem dX7_restore_2 : decode cX7_restore 2 = .ok (.iconst 1, 1) := by decide +kernel
theorem dX7_restore_3 : decode cX7_restore 3 = .ok (.invokestatic 41, 3) := by decide +kernel
theorem dX7_restore_6 : decode cX7_restore 6 = .ok (.ifCond .ne 6, 3) := by decide +kernel
theorem dX7_restore_9 : decode cX7_restore 9 = .ok (.bipush (-2), 2) := by decide +kernel
theorem dX7_restore_11 : decode cX7_restore 11 = .ok (.ireturn, 1) := by decide +kernel
theorem dX7_restore_12 : decode cX7_restore 12 = .ok (.aload_n 0, 1) := by decide +kernel
theorem dX7_restore_13 : decode cX7_restore 13 = .ok (.getfield 19, 3) := by decide +kernel
theorem dX7_restore_16 : decode cX7_restore 16 = .ok (.iload_n 1, 1) := by decide +kernel
theorem dX7_restore_17 : decode cX7_restore 17 = .ok (.baload, 1) := by decide +kernel
theorem dX7_restore_18 : decode cX7_restore 18 = .ok (.ifCond .ne 6, 3) := by decide +kernel
theorem dX7_restore_21 : decode cX7_restore 21 = .ok (.bipush (-5), 2) := by decide +kernel
theorem dX7_restore_23 : decode cX7_restore 23 = .ok (.ireturn, 1) := by decide +kernel
theorem dX7_restore_24 : decode cX7_restore 24 = .ok (.aload_n 0, 1) := by decide +kernel
theorem dX7_restore_25 : decode cX7_restore 25 = .ok (.invokevirtual 92, 3) := by decide +kernel
theorem dX7_restore_28 : decode cX7_restore 28 = .ok (.iconst 0, 1) := by decide +kernel
theorem dX7_restore_29 : decode cX7_restore 29 = .ok (.istore_n 2, 1) := by decide +kernel
theorem dX7_restore_30 : decode cX7_restore 30 = .ok (.iload_n 2, 1) := by decide +kernel
theorem dX7_restore_31 : decode cX7_restore 31 = .ok (.sipush 138, 3) := by decide +kernel
theorem dX7_restore_34 : decode cX7_restore 34 = .ok (.if_icmp .ge 27, 3) := by decide +kernel
theorem dX7_restore_37 : decode cX7_restore 37 = .ok (.aload_n 0, 1) := by decide +kernel
theorem dX7_restore_38 : decode cX7_restore 38 = .ok (.getfield 7, 3) := by decide +kernel
theorem dX7_restore_41 : decode cX7_restore 41 = .ok (.iload_n 2, 1) := by decide +kernel
theorem dX7_restore_42 : decode cX7_restore 42 = .ok (.aload_n 0, 1) := by decide +kernel
theorem dX7_restore_43 : decode cX7_restore 43 = .ok (.getfield 16, 3) := by decide +kernel
theorem dX7_restore_46 : decode cX7_restore 46 = .ok (.sipush 138, 3) := by decide +kernel
theorem dX7_restore_49 : decode cX7_restore 49 = .ok (.iload_n 1, 1) := by decide +kernel
theorem dX7_restore_50 : decode cX7_restore 50 = .ok (.imul, 1) := by decide +kernel
theorem dX7_restore_51 : decode cX7_restore 51 = .ok (.iload_n 2, 1) := by decide +kernel
theorem dX7_restore_52 : decode cX7_restore 52 = .ok (.iadd, 1) := by decide +kernel
theorem dX7_restore_53 : decode cX7_restore 53 = .ok (.laload, 1) := by decide +kernel
theorem dX7_restore_54 : decode cX7_restore 54 = .ok (.lastore, 1) := by decide +kernel
theorem dX7_restore_55 : decode cX7_restore 55 = .ok (.iinc 2 1, 3) := by decide +kernel
theorem dX7_restore_58 : decode cX7_restore 58 = .ok (.goto (-28), 3) := by decide +kernel
theorem dX7_restore_61 : decode cX7_restore 61 = .ok (.aload_n 0, 1) := by decide +kernel
theorem dX7_restore_62 : decode cX7_restore 62 = .ok (.bipush 7, 2) := by decide +kernel
theorem dX7_restore_64 : decode cX7_restore 64 = .ok (.invokevirtual 37, 3) := by decide +kernel
theorem dX7_restore_67 : decode cX7_restore 67 = .ok (.ireturn, 1) := by decide +kernel
