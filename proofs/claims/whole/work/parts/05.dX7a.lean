theorem dX7_init_0 : decode cX7_init 0 = .ok (.aload_n 0, 1) := by decide +kernel
theorem dX7_init_1 : decode cX7_init 1 = .ok (.invokespecial 1, 3) := by decide +kernel
theorem dX7_init_4 : decode cX7_init 4 = .ok (.aload_n 0, 1) := by decide +kernel
theorem dX7_init_5 : decode cX7_init 5 = .ok (.sipush 276, 3) := by decide +kernel
theorem dX7_init_8 : decode cX7_init 8 = .ok (.newarray .long, 2) := by decide +kernel
theorem dX7_init_10 : decode cX7_init 10 = .ok (.putfield 7, 3) := by decide +kernel
theorem dX7_init_13 : decode cX7_init 13 = .ok (.aload_n 0, 1) := by decide +kernel
theorem dX7_init_14 : decode cX7_init 14 = .ok (.sipush 828, 3) := by decide +kernel
theorem dX7_init_17 : decode cX7_init 17 = .ok (.newarray .long, 2) := by decide +kernel
theorem dX7_init_19 : decode cX7_init 19 = .ok (.putfield 13, 3) := by decide +kernel
theorem dX7_init_22 : decode cX7_init 22 = .ok (.aload_n 0, 1) := by decide +kernel
theorem dX7_init_23 : decode cX7_init 23 = .ok (.sipush 276, 3) := by decide +kernel
theorem dX7_init_26 : decode cX7_init 26 = .ok (.newarray .long, 2) := by decide +kernel
theorem dX7_init_28 : decode cX7_init 28 = .ok (.putfield 16, 3) := by decide +kernel
theorem dX7_init_31 : decode cX7_init 31 = .ok (.aload_n 0, 1) := by decide +kernel
theorem dX7_init_32 : decode cX7_init 32 = .ok (.iconst 2, 1) := by decide +kernel
theorem dX7_init_33 : decode cX7_init 33 = .ok (.newarray .boolean, 2) := by decide +kernel
theorem dX7_init_35 : decode cX7_init 35 = .ok (.putfield 19, 3) := by decide +kernel
theorem dX7_init_38 : decode cX7_init 38 = .ok (.aload_n 0, 1) := by decide +kernel
theorem dX7_init_39 : decode cX7_init 39 = .ok (.bipush 80, 2) := by decide +kernel
theorem dX7_init_41 : decode cX7_init 41 = .ok (.newarray .int, 2) := by decide +kernel
theorem dX7_init_43 : decode cX7_init 43 = .ok (.putfield 23, 3) := by decide +kernel
theorem dX7_init_46 : decode cX7_init 46 = .ok (.aload_n 0, 1) := by decide +kernel
theorem dX7_init_47 : decode cX7_init 47 = .ok (.getfield 7, 3) := by decide +kernel
theorem dX7_init_50 : decode cX7_init 50 = .ok (.iconst 0, 1) := by decide +kernel
theorem dX7_init_51 : decode cX7_init 51 = .ok (.ldc2_w 27, 3) := by decide +kernel
theorem dX7_init_54 : decode cX7_init 54 = .ok (.lastore, 1) := by decide +kernel
theorem dX7_init_55 : decode cX7_init 55 = .ok (.aload_n 0, 1) := by decide +kernel
theorem dX7_init_56 : decode cX7_init 56 = .ok (.getfield 7, 3) := by decide +kernel
theorem dX7_init_59 : decode cX7_init 59 = .ok (.iconst 1, 1) := by decide +kernel
theorem dX7_init_60 : decode cX7_init 60 = .ok (.ldc2_w 29, 3) := by decide +kernel
theorem dX7_init_63 : decode cX7_init 63 = .ok (.lastore, 1) := by decide +kernel
theorem dX7_init_64 : decode cX7_init 64 = .ok (.aload_n 0, 1) := by decide +kernel
theorem dX7_init_65 : decode cX7_init 65 = .ok (.getfield 7, 3) := by decide +kernel
theorem dX7_init_68 : decode cX7_init 68 = .ok (.iconst 2, 1) := by decide +kernel
theorem dX7_init_69 : decode cX7_init 69 = .ok (.lconst 1, 1) := by decide +kernel
theorem dX7_init_70 : decode cX7_init 70 = .ok (.lastore, 1) := by decide +kernel
theorem dX7_init_71 : decode cX7_init 71 = .ok (.aload_n 0, 1) := by decide +kernel
theorem dX7_init_72 : decode cX7_init 72 = .ok (.getfield 7, 3) := by decide +kernel
theorem dX7_init_75 : decode cX7_init 75 = .ok (.iconst 3, 1) := by decide +kernel
theorem dX7_init_76 : decode cX7_init 76 = .ok (.ldc2_w 31, 3) := by decide +kernel
theorem dX7_init_79 : decode cX7_init 79 = .ok (.lastore, 1) := by decide +kernel
theorem dX7_init_80 : decode cX7_init 80 = .ok (.aload_n 0, 1) := by decide +kernel
theorem dX7_init_81 : decode cX7_init 81 = .ok (.getfield 7, 3) := by decide +kernel
theorem dX7_init_84 : decode cX7_init 84 = .ok (.iconst 4, 1) := by decide +kernel
theorem dX7_init_85 : decode cX7_init 85 = .ok (.ldc2_w 33, 3) := by decide +kernel
theorem dX7_init_88 : decode cX7_init 88 = .ok (.lastore, 1) := by decide +kernel
theorem dX7_init_89 : decode cX7_init 89 = .ok (.aload_n 0, 1) := by decide +kernel
theorem dX7_init_90 : decode cX7_init 90 = .ok (.getfield 7, 3) := by decide +kernel
theorem dX7_init_93 : decode cX7_init 93 = .ok (.iconst 5, 1) := by decide +kernel
theorem dX7_init_94 : decode cX7_init 94 = .ok (.ldc2_w 35, 3) := by decide +kernel
theorem dX7_init_97 : decode cX7_init 97 = .ok (.lastore, 1) := by decide +kernel
theorem dX7_init_98 : decode cX7_init 98 = .ok (.return_, 1) := by decide +kernel
theorem dX7_in_0 : decode cX7_in 0 = .ok (.iload_n 0, 1) := by decide +kernel
theorem dX7_in_1 : decode cX7_in 1 = .ok (.iload_n 1, 1) := by decide +kernel
theorem dX7_in_2 : decode cX7_in 2 = .ok (.if_icmp .lt 12, 3) := by decide +kernel
theorem dX7_in_5 : decode cX7_in 5 = .ok (.iload_n 0, 1) := by decide +kernel
theorem dX7_in_6 : decode cX7_in 6 = .ok (.iload_n 2, 1) := by decide +kernel
theorem dX7_in_7 : decode cX7_in 7 = .ok (.if_icmp .gt 7, 3) := by decide +kernel
theorem dX7_in_10 : decode cX7_in 10 = .ok (.iconst 1, 1) := by decide +kernel
theorem dX7_in_11 : decode cX7_in 11 = .ok (.goto 4, 3) := by decide +kernel
theorem dX7_in_14 : decode cX7_in 14 = .ok (.iconst 0, 1) := by decide +kernel
theorem dX7_in_15 : decode cX7_in 15 = .ok (.ireturn, 1) := by decide +kernel
theorem dX7_num_0 : decode cX7_num 0 = .ok (.aload_n 0, 1) := by decide +kernel
theorem dX7_num_1 : decode cX7_num 1 = .ok (.getfield 7, 3) := by decide +kernel
theorem dX7_num_4 : decode cX7_num 4 = .ok (.iload_n 1, 1) := by decide +kernel
theorem dX7_num_5 : decode cX7_num 5 = .ok (.laload, 1) := by decide +kernel
theorem dX7_num_6 : decode cX7_num 6 = .ok (.l2i, 1) := by decide +kernel
theorem dX7_num_7 : decode cX7_num 7 = .ok (.ireturn, 1) := by decide +kernel
set_option maxRecDepth 20000 in
theorem ggX7_isMeter_X7_num : GoodIn wsX7_isMeter wsX7_num := goodIn_r _ [5, 6, 10, 11, 12, 13, 14, 15, 16] (by decide +kernel) (by decide +kernel)
set_option maxRecDepth 20000 in
theorem gX7_isMeter_X7_num : GoodIn wsX7_isMeter (wsV RX7 37 RX7 yX7_num wsX7_num) := goodIn_app (goodIn_of _ (by decide +kernel)) ggX7_isMeter_X7_num
set_option maxRecDepth 20000 in
theorem ggX7_isMeter_X7_in : GoodIn wsX7_isMeter wsX7_in := goodIn_r _ [9] (by decide +kernel) (by decide +kernel)
set_option maxRecDepth 20000 in
theorem gX7_isMeter_X7_in : GoodIn wsX7_isMeter (va_wsS RX7 41 yX7_in wsX7_in) := goodIn_app (goodIn_of _ (by decide +kernel)) ggX7_isMeter_X7_in
theorem dX7_isMeter_0 : decode cX7_isMeter 0 = .ok (.iload_n 1, 1) := by decide +kernel
theorem dX7_isMeter_1 : decode cX7_isMeter 1 = .ok (.iconst 0, 1) := by decide +kernel
theorem dX7_isMeter_2 : decode cX7_isMeter 2 = .ok (.aload_n 0, 1) := by decide +kernel
theorem dX7_isMeter_3 : decode cX7_isMeter 3 = .ok (.bipush 7, 2) := by decide +kernel
theorem dX7_isMeter_5 : decode cX7_isMeter 5 = .ok (.invokevirtual 37, 3) := by decide +kernel
theorem dX7_isMeter_8 : decode cX7_isMeter 8 = .ok (.iconst 1, 1) := by decide +kernel
theorem dX7_isMeter_9 : decode cX7_isMeter 9 = .ok (.isub, 1) := by decide +kernel
theorem dX7_isMeter_10 : decode cX7_isMeter 10 = .ok (.invokestatic 41, 3) := by decide +kernel
theorem dX7_isMeter_13 : decode cX7_isMeter 13 = .ok (.ireturn, 1) := by decide +kernel
theorem dX7_at_0 : decode cX7_at 0 = .ok (.iload_n 0, 1) := by decide +kernel
theorem dX7_at_1 : decode cX7_at 1 = .ok (.bipush 11, 2) := by decide +kernel
theorem dX7_at_3 : decode cX7_at 3 = .ok (.iadd, 1) := by decide +kernel
theorem dX7_at_4 : decode cX7_at 4 = .ok (.bipush 13, 2) := by decide +kernel
theorem dX7_at_6 : decode cX7_at 6 = .ok (.iload_n 1, 1) := by decide +kernel
theorem dX7_at_7 : decode cX7_at 7 = .ok (.imul, 1) := by decide +kernel
theorem dX7_at_8 : decode cX7_at 8 = .ok (.iadd, 1) := by decide +kernel
theorem dX7_at_9 : decode cX7_at 9 = .ok (.ireturn, 1) := by decide +kernel
set_option maxRecDepth 20000 in
theorem ggX7_its_X7_at : GoodIn wsX7_its wsX7_at := goodIn_r _ [5] (by decide +kernel) (by decide +kernel)
set_option maxRecDepth 20000 in
theorem gX7_its_X7_at : GoodIn wsX7_its (va_wsS RX7 45 yX7_at wsX7_at) := goodIn_app (goodIn_of _ (by decide +kernel)) ggX7_its_X7_at
theorem dX7_its_0 : decode cX7_its 0 = .ok (.aload_n 0, 1) := by decide +kernel
theorem dX7_its_1 : decode cX7_its 1 = .ok (.getfield 7, 3) := by decide +kernel
theorem dX7_its_4 : decode cX7_its 4 = .ok (.iconst 0, 1) := by decide +kernel
theorem dX7_its_5 : decode cX7_its 5 = .ok (.iload_n 1, 1) := by decide +kernel
theorem dX7_its_6 : decode cX7_its 6 = .ok (.invokestatic 45, 3) := by decide +kernel
theorem dX7_its_9 : decode cX7_its 9 = .ok (.iload_n 2, 1) := by decide +kernel
theorem dX7_its_10 : decode cX7_its 10 = .ok (.iadd, 1) := by decide +kernel
theorem dX7_its_11 : decode cX7_its 11 = .ok (.laload, 1) := by decide +kernel
theorem dX7_its_12 : decode cX7_its 12 = .ok (.l2i, 1) := by decide +kernel
theorem dX7_its_13 : decode cX7_its 13 = .ok (.ireturn, 1) := by decide +kernel
theorem dX7_remembers_0 : decode cX7_remembers 0 = .ok (.aload_n 0, 1) := by decide +kernel
theorem dX7_remembers_1 : decode cX7_remembers 1 = .ok (.getfield 49, 3) := by decide +kernel
theorem dX7_remembers_4 : decode cX7_remembers 4 = .ok (.bipush 6, 2) := by decide +kernel
theorem dX7_remembers_6 : decode cX7_remembers 6 = .ok (.if_icmp .ne 44, 3) := by decide +kernel
theorem dX7_remembers_9 : decode cX7_remembers 9 = .ok (.iconst 0, 1) := by decide +kernel
theorem dX7_remembers_10 : decode cX7_remembers 10 = .ok (.istore_n 1, 1) := by decide +kernel
theorem dX7_remembers_11 : decode cX7_remembers 11 = .ok (.iload_n 1, 1) := by decide +kernel
theorem dX7_remembers_12 : decode cX7_remembers 12 = .ok (.sipush 690, 3) := by decide +kernel
theorem dX7_remembers_15 : decode cX7_remembers 15 = .ok (.if_icmp .ge 25, 3) := by decide +kernel
theorem dX7_remembers_18 : decode cX7_remembers 18 = .ok (.aload_n 0, 1) := by decide +kernel
theorem dX7_remembers_19 : decode cX7_remembers 19 = .ok (.getfield 13, 3) := by decide +kernel
theorem dX7_remembers_22 : decode cX7_remembers 22 = .ok (.iload_n 1, 1) := by decide +kernel
theorem dX7_remembers_23 : decode cX7_remembers 23 = .ok (.aload_n 0, 1) := by decide +kernel
theorem dX7_remembers_24 : decode cX7_remembers 24 = .ok (.getfield 13, 3) := by decide +kernel
theorem dX7_remembers_27 : decode cX7_remembers 27 = .ok (.sipush 138, 3) := by decide +kernel
theorem dX7_remembers_30 : decode cX7_remembers 30 = .ok (.iload_n 1, 1) := by decide +kernel
theorem dX7_remembers_31 : decode cX7_remembers 31 = .ok (.iadd, 1) := by decide +kernel
theorem dX7_remembers_32 : decode cX7_remembers 32 = .ok (.laload, 1) := by decide +kernel
theorem dX7_remembers_33 : decode cX7_remembers 33 = .ok (.lastore, 1) := by decide +kernel
theorem dX7_remembers_34 : decode cX7_remembers 34 = .ok (.iinc 1 1, 3) := by decide +kernel
theorem dX7_remembers_37 : decode cX7_remembers 37 = .ok (.goto (-26), 3) := by decide +kernel
theorem dX7_remembers_40 : decode cX7_remembers 40 = .ok (.aload_n 0, 1) := by decide +kernel
theorem dX7_remembers_41 : decode cX7_remembers 41 = .ok (.dup, 1) := by decide +kernel
theorem dX7_remembers_42 : decode cX7_remembers 42 = .ok (.getfield 49, 3) := by decide +kernel
theorem dX7_remembers_45 : decode cX7_remembers 45 = .ok (.iconst 1, 1) := by decide +kernel
theorem dX7_remembers_46 : decode cX7_remembers 46 = .ok (.isub, 1) := by decide +kernel
theorem dX7_remembers_47 : decode cX7_remembers 47 = .ok (.putfield 49, 3) := by decide +kernel
theorem dX7_remembers_50 : decode cX7_remembers 50 = .ok (.iconst 0, 1) := by decide +kernel
theorem dX7_remembers_51 : decode cX7_remembers 51 = .ok (.istore_n 1, 1) := by decide +kernel
theorem dX7_remembers_52 : decode cX7_remembers 52 = .ok (.iload_n 1, 1) := by decide +kernel
theorem dX7_remembers_53 : decode cX7_remembers 53 = .ok (.sipush 138, 3) := by decide +kernel
theorem dX7_remembers_56 : decode cX7_remembers 56 = .ok (.if_icmp .ge 30, 3) := by decide +kernel
theorem dX7_remembers_59 : decode cX7_remembers 59 = .ok (.aload_n 0, 1) := by decide +kernel
theorem dX7_remembers_60 : decode cX7_remembers 60 = .ok (.getfield 13, 3) := by decide +kernel
theorem dX7_remembers_63 : decode cX7_remembers 63 = .ok (.sipush 138, 3) := by decide +kernel
theorem dX7_remembers_66 : decode cX7_remembers 66 = .ok (.aload_n 0, 1) := by decide +kernel
theorem dX7_remembers_67 : decode cX7_remembers 67 = .ok (.getfield 49, 3) := by decide +kernel
theorem dX7_remembers_70 : decode cX7_remembers 70 = .ok (.imul, 1) := by decide +kernel
theorem dX7_remembers_71 : decode cX7_remembers 71 = .ok (.iload_n 1, 1) := by decide +kernel
theorem dX7_remembers_72 : decode cX7_remembers 72 = .ok (.iadd, 1) := by decide +kernel
theorem dX7_remembers_73 : decode cX7_remembers 73 = .ok (.aload_n 0, 1) := by decide +kernel
theorem dX7_remembers_74 : decode cX7_remembers 74 = .ok (.getfield 7, 3) := by decide +kernel
theorem dX7_remembers_77 : decode cX7_remembers 77 = .ok (.iload_n 1, 1) := by decide +kernel
theorem dX7_remembers_78 : decode cX7_remembers 78 = .ok (.laload, 1) := by decide +kernel
theorem dX7_remembers_79 : decode cX7_remembers 79 = .ok (.lastore, 1) := by decide +kernel
theorem dX7_remembers_80 : decode cX7_remembers 80 = .ok (.iinc 1 1, 3) := by decide +kernel
theorem dX7_remembers_83 : decode cX7_remembers 83 = .ok (.goto (-31), 3) := by decide +kernel
theorem dX7_remembers_86 : decode cX7_remembers 86 = .ok (.aload_n 0, 1) := by decide +kernel
theorem dX7_remembers_87 : decode cX7_remembers 87 = .ok (.dup, 1) := by decide +kernel
theorem dX7_remembers_88 : decode cX7_remembers 88 = .ok (.getfield 49, 3) := by decide +kernel
theorem dX7_remembers_91 : decode cX7_remembers 91 = .ok (.iconst 1, 1) := by decide +kernel
theorem dX7_remembers_92 : decode cX7_remembers 92 = .ok (.iadd, 1) := by decide +kernel
theorem dX7_remembers_93 : decode cX7_remembers 93 = .ok (.putfield 49, 3) := by decide +kernel
theorem dX7_remembers_96 : decode cX7_remembers 96 = .ok (.return_, 1) := by decide +kernel
theorem dX7_copies_0 : decode cX7_copies 0 = .ok (.iconst 0, 1) := by decide +kernel
theorem dX7_copies_1 : decode cX7_copies 1 = .ok (.istore_n 1, 1) := by decide +kernel
theorem dX7_copies_2 : decode cX7_copies 2 = .ok (.iload_n 1, 1) := by decide +kernel
theorem dX7_copies_3 : decode cX7_copies 3 = .ok (.sipush 138, 3) := by decide +kernel
theorem dX7_copies_6 : decode cX7_copies 6 = .ok (.if_icmp .ge 25, 3) := by decide +kernel
theorem dX7_copies_9 : decode cX7_copies 9 = .ok (.aload_n 0, 1) := by decide +kernel
theorem dX7_copies_10 : decode cX7_copies 10 = .ok (.getfield 7, 3) := by decide +kernel
theorem dX7_copies_13 : decode cX7_copies 13 = .ok (.sipush 138, 3) := by decide +kernel
theorem dX7_copies_16 : decode cX7_copies 16 = .ok (.iload_n 1, 1) := by decide +kernel
theorem dX7_copies_17 : decode cX7_copies 17 = .ok (.iadd, 1) := by decide +kernel
theorem dX7_copies_18 : decode cX7_copies 18 = .ok (.aload_n 0, 1) := by decide +kernel
theorem dX7_copies_19 : decode cX7_copies 19 = .ok (.getfield 7, 3) := by decide +kernel
theorem dX7_copies_22 : decode cX7_copies 22 = .ok (.iload_n 1, 1) := by decide +kernel
theorem dX7_copies_23 : decode cX7_copies 23 = .ok (.laload, 1) := by decide +kernel
theorem dX7_copies_24 : decode cX7_copies 24 = .ok (.lastore, 1) := by decide +kernel
theorem dX7_copies_25 : decode cX7_copies 25 = .ok (.iinc 1 1, 3) := by decide +kernel
theorem dX7_copies_28 : decode cX7_copies 28 = .ok (.goto (-26), 3) := by decide +kernel
theorem dX7_copies_31 : decode cX7_copies 31 = .ok (.return_, 1) := by decide +kernel
set_option maxRecDepth 20000 in
theorem ggX7_isThrough_X7_its : GoodIn wsX7_isThrough wsX7_its := goodIn_r _ [5, 6, 7, 8, 4, 9, 10, 11, 12, 13, 14, 15, 16] (by decide +kernel) (by decide +kernel)
set_option maxRecDepth 20000 in
theorem gX7_isThrough_X7_its : GoodIn wsX7_isThrough (wsV RX7 53 RX7 yX7_its wsX7_its) := goodIn_app (goodIn_of _ (by decide +kernel)) ggX7_isThrough_X7_its
theorem dX7_isThrough_0 : decode cX7_isThrough 0 = .ok (.iload_n 1, 1) := by decide +kernel
theorem dX7_isThrough_1 : decode cX7_isThrough 1 = .ok (.istore_n 3, 1) := by decide +kernel
theorem dX7_isThrough_2 : decode cX7_isThrough 2 = .ok (.iload_n 3, 1) := by decide +kernel
theorem dX7_isThrough_3 : decode cX7_isThrough 3 = .ok (.iload_n 2, 1) := by decide +kernel
theorem dX7_isThrough_4 : decode cX7_isThrough 4 = .ok (.if_icmp .le 13, 3) := by decide +kernel
theorem dX7_isThrough_7 : decode cX7_isThrough 7 = .ok (.aload_n 0, 1) := by decide +kernel
theorem dX7_isThrough_8 : decode cX7_isThrough 8 = .ok (.iload_n 3, 1) := by decide +kernel
theorem dX7_isThrough_9 : decode cX7_isThrough 9 = .ok (.iconst 0, 1) := by decide +kernel
theorem dX7_isThrough_10 : decode cX7_isThrough 10 = .ok (.invokevirtual 53, 3) := by decide +kernel
theorem dX7_isThrough_13 : decode cX7_isThrough 13 = .ok (.istore_n 3, 1) := by decide +kernel
theorem dX7_isThrough_14 : decode cX7_isThrough 14 = .ok (.goto (-12), 3) := by decide +kernel
theorem dX7_isThrough_17 : decode cX7_isThrough 17 = .ok (.iload_n 3, 1) := by decide +kernel
theorem dX7_isThrough_18 : decode cX7_isThrough 18 = .ok (.iload_n 2, 1) := by decide +kernel
theorem dX7_isThrough_19 : decode cX7_isThrough 19 = .ok (.if_icmp .ne 7, 3) := by decide +kernel
theorem dX7_isThrough_22 : decode cX7_isThrough 22 = .ok (.iconst 1, 1) := by decide +kernel
theorem dX7_isThrough_23 : decode cX7_isThrough 23 = .ok (.goto 4, 3) := by decide +kernel
theorem dX7_isThrough_26 : decode cX7_isThrough 26 = .ok (.iconst 0, 1) := by decide +kernel
theorem dX7_isThrough_27 : decode cX7_isThrough 27 = .ok (.ireturn, 1) := by decide +kernel
set_option maxRecDepth 20000 in
theorem ggX7_power_X7_num : GoodIn wsX7_power wsX7_num := goodIn_r _ [6, 1, 18, 19, 20, 21, 22, 23, 24] (by decide +kernel) (by decide +kernel)
set_option maxRecDepth 20000 in
theorem gX7_power_X7_num : GoodIn wsX7_power (wsV RX7 37 RX7 yX7_num wsX7_num) := goodIn_app (goodIn_of _ (by decide +kernel)) ggX7_power_X7_num
set_option maxRecDepth 20000 in
theorem ggX7_power_X7_isThrough : GoodIn wsX7_power wsX7_isThrough := goodIn_r _ [10, 11, 12, 13, 5, 14, 1, 15, 16, 17, 18, 19, 20, 21, 22, 23, 24] (by decide +kernel) (by decide +kernel)
set_option maxRecDepth 20000 in
theorem gX7_power_X7_isThrough : GoodIn wsX7_power (wsV RX7 56 RX7 yX7_isThrough wsX7_isThrough) := goodIn_app (goodIn_of _ (by decide +kernel)) ggX7_power_X7_isThrough
theorem dX7_power_0 : decode cX7_power 0 = .ok (.iconst 0, 1) := by decide +kernel
theorem dX7_power_1 : decode cX7_power 1 = .ok (.istore_n 2, 1) := by decide +kernel
theorem dX7_power_2 : decode cX7_power 2 = .ok (.iconst 0, 1) := by decide +kernel
theorem dX7_power_3 : decode cX7_power 3 = .ok (.istore_n 3, 1) := by decide +kernel
theorem dX7_power_4 : decode cX7_power 4 = .ok (.iload_n 3, 1) := by decide +kernel
theorem dX7_power_5 : decode cX7_power 5 = .ok (.aload_n 0, 1) := by decide +kernel
theorem dX7_power_6 : decode cX7_power 6 = .ok (.bipush 8, 2) := by decide +kernel
theorem dX7_power_8 : decode cX7_power 8 = .ok (.invokevirtual 37, 3) := by decide +kernel
theorem dX7_power_11 : decode cX7_power 11 = .ok (.if_icmp .ge 80, 3) := by decide +kernel
theorem dX7_power_14 : decode cX7_power 14 = .ok (.aload_n 0, 1) := by decide +kernel
theorem dX7_power_15 : decode cX7_power 15 = .ok (.getfield 7, 3) := by decide +kernel
theorem dX7_power_18 : decode cX7_power 18 = .ok (.bipush 102, 2) := by decide +kernel
theorem dX7_power_20 : decode cX7_power 20 = .ok (.iconst 3, 1) := by decide +kernel
theorem dX7_power_21 : decode cX7_power 21 = .ok (.iload_n 3, 1) := by decide +kernel
theorem dX7_power_22 : decode cX7_power 22 = .ok (.imul, 1) := by decide +kernel
theorem dX7_power_23 : decode cX7_power 23 = .ok (.iadd, 1) := by decide +kernel
theorem dX7_power_24 : decode cX7_power 24 = .ok (.iconst 2, 1) := by decide +kernel
theorem dX7_power_25 : decode cX7_power 25 = .ok (.iadd, 1) := by decide +kernel
theorem dX7_power_26 : decode cX7_power 26 = .ok (.laload, 1) := by decide +kernel
theorem dX7_power_27 : decode cX7_power 27 = .ok (.lconst 1, 1) := by decide +kernel
theorem dX7_power_28 : decode cX7_power 28 = .ok (.lcmp, 1) := by decide +kernel
theorem dX7_power_29 : decode cX7_power 29 = .ok (.ifCond .ne 27, 3) := by decide +kernel
theorem dX7_power_32 : decode cX7_power 32 = .ok (.aload_n 0, 1) := by decide +kernel
theorem dX7_power_33 : decode cX7_power 33 = .ok (.aload_n 0, 1) := by decide +kernel
theorem dX7_power_34 : decode cX7_power 34 = .ok (.getfield 7, 3) := by decide +kernel
theorem dX7_power_37 : decode cX7_power 37 = .ok (.bipush 102, 2) := by decide +kernel
theorem dX7_power_39 : decode cX7_power 39 = .ok (.iconst 3, 1) := by decide +kernel
theorem dX7_power_40 : decode cX7_power 40 = .ok (.iload_n 3, 1) := by decide +kernel
theorem dX7_power_41 : decode cX7_power 41 = .ok (.imul, 1) := by decide +kernel
theorem dX7_power_42 : decode cX7_power 42 = .ok (.iadd, 1) := by decide +kernel
theorem dX7_power_43 : decode cX7_power 43 = .ok (.laload, 1) := by decide +kernel
theorem dX7_power_44 : decode cX7_power 44 = .ok (.l2i, 1) := by decide +kernel
theorem dX7_power_45 : decode cX7_power 45 = .ok (.iload_n 1, 1) := by decide +kernel
theorem dX7_power_46 : decode cX7_power 46 = .ok (.invokevirtual 56, 3) := by decide +kernel
theorem dX7_power_49 : decode cX7_power 49 = .ok (.ifCond .eq 7, 3) := by decide +kernel
theorem dX7_power_52 : decode cX7_power 52 = .ok (.iconst 1, 1) := by decide +kernel
theorem dX7_power_53 : decode cX7_power 53 = .ok (.goto 4, 3) := by decide +kernel
theorem dX7_power_56 : decode cX7_power 56 = .ok (.iconst 0, 1) := by decide +kernel
theorem dX7_power_57 : decode cX7_power 57 = .ok (.istore 4, 2) := by decide +kernel
theorem dX7_power_59 : decode cX7_power 59 = .ok (.iload_n 2, 1) := by decide +kernel
theorem dX7_power_60 : decode cX7_power 60 = .ok (.iload 4, 2) := by decide +kernel
theorem dX7_power_62 : decode cX7_power 62 = .ok (.ifCond .eq 20, 3) := by decide +kernel
theorem dX7_power_65 : decode cX7_power 65 = .ok (.aload_n 0, 1) := by decide +kernel
theorem dX7_power_66 : decode cX7_power 66 = .ok (.getfield 7, 3) := by decide +kernel
theorem dX7_power_69 : decode cX7_power 69 = .ok (.bipush 102, 2) := by decide +kernel
theorem dX7_power_71 : decode cX7_power 71 = .ok (.iconst 3, 1) := by decide +kernel
theorem dX7_power_72 : decode cX7_power 72 = .ok (.iload_n 3, 1) := by decide +kernel
theorem dX7_power_73 : decode cX7_power 73 = .ok (.imul, 1) := by decide +kernel
theorem dX7_power_74 : decode cX7_power 74 = .ok (.iadd, 1) := by decide +kernel
theorem dX7_power_75 : decode cX7_power 75 = .ok (.iconst 1, 1) := by decide +kernel
theorem dX7_power_76 : decode cX7_power 76 = .ok (.iadd, 1) := by decide +kernel
theorem dX7_power_77 : decode cX7_power 77 = .ok (.laload, 1) := by decide +kernel
theorem dX7_power_78 : decode cX7_power 78 = .ok (.l2i, 1) := by decide +kernel
theorem dX7_power_79 : decode cX7_power 79 = .ok (.goto 4, 3) := by decide +kernel
theorem dX7_power_82 : decode cX7_power 82 = .ok (.iconst 0, 1) := by decide +kernel
theorem dX7_power_83 : decode cX7_power 83 = .ok (.iadd, 1) := by decide +kernel
theorem dX7_power_84 : decode cX7_power 84 = .ok (.istore_n 2, 1) := by decide +kernel
theorem dX7_power_85 : decode cX7_power 85 = .ok (.iinc 3 1, 3) := by decide +kernel
theorem dX7_power_88 : decode cX7_power 88 = .ok (.goto (-84), 3) := by decide +kernel
theorem dX7_power_91 : decode cX7_power 91 = .ok (.iload_n 2, 1) := by decide +kernel
theorem dX7_power_92 : decode cX7_power 92 = .ok (.ireturn, 1) := by decide +kernel
theorem dX7_isNight_0 : decode cX7_isNight 0 = .ok (.lload_n 0, 1) := by decide +kernel
theorem dX7_isNight_1 : decode cX7_isNight 1 = .ok (.ldc2_w 60, 3) := by decide +kernel
theorem dX7_isNight_4 : decode cX7_isNight 4 = .ok (.lrem, 1) := by decide +kernel
theorem dX7_isNight_5 : decode cX7_isNight 5 = .ok (.lstore_n 2, 1) := by decide +kernel
theorem dX7_isNight_6 : decode cX7_isNight 6 = .ok (.lload_n 2, 1) := by decide +kernel
theorem dX7_isNight_7 : decode cX7_isNight 7 = .ok (.ldc2_w 62, 3) := by decide +kernel
theorem dX7_isNight_10 : decode cX7_isNight 10 = .ok (.lcmp, 1) := by decide +kernel
theorem dX7_isNight_11 : decode cX7_isNight 11 = .ok (.ifCond .ge 11, 3) := by decide +kernel
theorem dX7_isNight_14 : decode cX7_isNight 14 = .ok (.lload_n 2, 1) := by decide +kernel
theorem dX7_isNight_15 : decode cX7_isNight 15 = .ok (.ldc2_w 64, 3) := by decide +kernel
theorem dX7_isNight_18 : decode cX7_isNight 18 = .ok (.lcmp, 1) := by decide +kernel
theorem dX7_isNight_19 : decode cX7_isNight 19 = .ok (.ifCond .ge 7, 3) := by decide +kernel
theorem dX7_isNight_22 : decode cX7_isNight 22 = .ok (.iconst 1, 1) := by decide +kernel
theorem dX7_isNight_23 : decode cX7_isNight 23 = .ok (.goto 4, 3) := by decide +kernel
theorem dX7_isNight_26 : decode cX7_isNight 26 = .ok (.iconst 0, 1) := by decide +kernel
theorem dX7_isNight_27 : decode cX7_isNight 27 = .ok (.ireturn, 1) := by decide +kernel
set_option maxRecDepth 20000 in
theorem ggX7_goes_X7_at : GoodIn wsX7_goes wsX7_at := goodIn_r _ [8] (by decide +kernel) (by decide +kernel)
set_option maxRecDepth 20000 in
theorem gX7_goes_X7_at : GoodIn wsX7_goes (va_wsS RX7 45 yX7_at wsX7_at) := goodIn_app (goodIn_of _ (by decide +kernel)) ggX7_goes_X7_at
theorem dX7_goes_0 : decode cX7_goes 0 = .ok (.aload_n 0, 1) := by decide +kernel
theorem dX7_goes_1 : decode cX7_goes 1 = .ok (.getfield 7, 3) := by decide +kernel
theorem dX7_goes_4 : decode cX7_goes 4 = .ok (.iload_n 1, 1) := by decide +kernel
theorem dX7_goes_5 : decode cX7_goes 5 = .ok (.iload_n 2, 1) := by decide +kernel
theorem dX7_goes_6 : decode cX7_goes 6 = .ok (.invokestatic 45, 3) := by decide +kernel
theorem dX7_goes_9 : decode cX7_goes 9 = .ok (.iconst 1, 1) := by decide +kernel
theorem dX7_goes_10 : decode cX7_goes 10 = .ok (.iadd, 1) := by decide +kernel
theorem dX7_goes_11 : decode cX7_goes 11 = .ok (.laload, 1) := by decide +kernel
theorem dX7_goes_12 : decode cX7_goes 12 = .ok (.lstore 4, 2) := by decide +kernel
theorem dX7_goes_14 : decode cX7_goes 14 = .ok (.aload_n 0, 1) := by decide +kernel
theorem dX7_goes_15 : decode cX7_goes 15 = .ok (.getfield 7, 3) := by decide +kernel
theorem dX7_goes_18 : decode cX7_goes 18 = .ok (.iload_n 1, 1) := by decide +kernel
theorem dX7_goes_19 : decode cX7_goes 19 = .ok (.iload_n 2, 1) := by decide +kernel
theorem dX7_goes_20 : decode cX7_goes 20 = .ok (.invokestatic 45, 3) := by decide +kernel
theorem dX7_goes_23 : decode cX7_goes 23 = .ok (.bipush 7, 2) := by decide +kernel
theorem dX7_goes_25 : decode cX7_goes 25 = .ok (.iadd, 1) := by decide +kernel
theorem dX7_goes_26 : decode cX7_goes 26 = .ok (.laload, 1) := by decide +kernel
theorem dX7_goes_27 : decode cX7_goes 27 = .ok (.lconst 1, 1) := by decide +kernel
theorem dX7_goes_28 : decode cX7_goes 28 = .ok (.lcmp, 1) := by decide +kernel
theorem dX7_goes_29 : decode cX7_goes 29 = .ok (.ifCond .ne 7, 3) := by decide +kernel
theorem dX7_goes_32 : decode cX7_goes 32 = .ok (.iconst 1, 1) := by decide +kernel
theorem dX7_goes_33 : decode cX7_goes 33 = .ok (.goto 4, 3) := by decide +kernel
theorem dX7_goes_36 : decode cX7_goes 36 = .ok (.iconst 0, 1) := by decide +kernel
theorem dX7_goes_37 : decode cX7_goes 37 = .ok (.istore 6, 2) := by decide +kernel
theorem dX7_goes_39 : decode cX7_goes 39 = .ok (.iload_n 3, 1) := by decide +kernel
theorem dX7_goes_40 : decode cX7_goes 40 = .ok (.i2l, 1) := by decide +kernel
theorem dX7_goes_41 : decode cX7_goes 41 = .ok (.aload_n 0, 1) := by decide +kernel
theorem dX7_goes_42 : decode cX7_goes 42 = .ok (.getfield 7, 3) := by decide +kernel
theorem dX7_goes_45 : decode cX7_goes 45 = .ok (.iload_n 1, 1) := by decide +kernel
theorem dX7_goes_46 : decode cX7_goes 46 = .ok (.iconst 0, 1) := by decide +kernel
theorem dX7_goes_47 : decode cX7_goes 47 = .ok (.iadd, 1) := by decide +kernel
theorem dX7_goes_48 : decode cX7_goes 48 = .ok (.laload, 1) := by decide +kernel
theorem dX7_goes_49 : decode cX7_goes 49 = .ok (.lcmp, 1) := by decide +kernel
theorem dX7_goes_50 : decode cX7_goes 50 = .ok (.ifCond .le 44, 3) := by decide +kernel
theorem dX7_goes_53 : decode cX7_goes 53 = .ok (.iload_n 3, 1) := by decide +kernel
theorem dX7_goes_54 : decode cX7_goes 54 = .ok (.i2l, 1) := by decide +kernel
theorem dX7_goes_55 : decode cX7_goes 55 = .ok (.aload_n 0, 1) := by decide +kernel
theorem dX7_goes_56 : decode cX7_goes 56 = .ok (.getfield 7, 3) := by decide +kernel
theorem dX7_goes_59 : decode cX7_goes 59 = .ok (.iload_n 1, 1) := by decide +kernel
theorem dX7_goes_60 : decode cX7_goes 60 = .ok (.iload_n 2, 1) := by decide +kernel
theorem dX7_goes_61 : decode cX7_goes 61 = .ok (.invokestatic 45, 3) := by decide +kernel
theorem dX7_goes_64 : decode cX7_goes 64 = .ok (.iconst 2, 1) := by decide +kernel
theorem dX7_goes_65 : decode cX7_goes 65 = .ok (.iadd, 1) := by decide +kernel
theorem dX7_goes_66 : decode cX7_goes 66 = .ok (.laload, 1) := by decide +kernel
theorem dX7_goes_67 : decode cX7_goes 67 = .ok (.lmul, 1) := by decide +kernel
theorem dX7_goes_68 : decode cX7_goes 68 = .ok (.ldc2_w 66, 3) := by decide +kernel
theorem dX7_goes_71 : decode cX7_goes 71 = .ok (.ldiv, 1) := by decide +kernel
theorem dX7_goes_72 : decode cX7_goes 72 = .ok (.lstore 7, 2) := by decide +kernel
theorem dX7_goes_74 : decode cX7_goes 74 = .ok (.lload 4, 2) := by decide +kernel
theorem dX7_goes_76 : decode cX7_goes 76 = .ok (.iload 6, 2) := by decide +kernel
theorem dX7_goes_78 : decode cX7_goes 78 = .ok (.ifCond .eq 12, 3) := by decide +kernel
theorem dX7_goes_81 : decode cX7_goes 81 = .ok (.lload 7, 2) := by decide +kernel
theorem dX7_goes_83 : decode cX7_goes 83 = .ok (.ldc2_w 29, 3) := by decide +kernel
theorem dX7_goes_86 : decode cX7_goes 86 = .ok (.ldiv, 1) := by decide +kernel
theorem dX7_goes_87 : decode cX7_goes 87 = .ok (.goto 5, 3) := by decide +kernel
theorem dX7_goes_90 : decode cX7_goes 90 = .ok (.lload 7, 2) := by decide +kernel
theorem dX7_goes_92 : decode cX7_goes 92 = .ok (.ladd, 1) := by decide +kernel
theorem dX7_goes_93 : decode cX7_goes 93 = .ok (.lreturn, 1) := by decide +kernel
theorem dX7_goes_94 : decode cX7_goes 94 = .ok (.iload_n 3, 1) := by decide +kernel
theorem dX7_goes_95 : decode cX7_goes 95 = .ok (.ifCond .gt 8, 3) := by decide +kernel
theorem dX7_goes_98 : decode cX7_goes 98 = .ok (.iload 6, 2) := by decide +kernel
theorem dX7_goes_100 : decode cX7_goes 100 = .ok (.ifCond .eq 6, 3) := by decide +kernel
theorem dX7_goes_103 : decode cX7_goes 103 = .ok (.lload 4, 2) := by decide +kernel
theorem dX7_goes_105 : decode cX7_goes 105 = .ok (.lreturn, 1) := by decide +kernel
theorem dX7_goes_106 : decode cX7_goes 106 = .ok (.aload_n 0, 1) := by decide +kernel
theorem dX7_goes_107 : decode cX7_goes 107 = .ok (.getfield 7, 3) := by decide +kernel
theorem dX7_goes_110 : decode cX7_goes 110 = .ok (.iload_n 1, 1) := by decide +kernel
theorem dX7_goes_111 : decode cX7_goes 111 = .ok (.iconst 2, 1) := by decide +kernel
theorem dX7_goes_112 : decode cX7_goes 112 = .ok (.iadd, 1) := by decide +kernel
theorem dX7_goes_113 : decode cX7_goes 113 = .ok (.laload, 1) := by decide +kernel
theorem dX7_goes_114 : decode cX7_goes 114 = .ok (.lconst 0, 1) := by decide +kernel
theorem dX7_goes_115 : decode cX7_goes 115 = .ok (.lcmp, 1) := by decide +kernel
theorem dX7_goes_116 : decode cX7_goes 116 = .ok (.ifCond .ne 15, 3) := by decide +kernel
theorem dX7_goes_119 : decode cX7_goes 119 = .ok (.lload 4, 2) := by decide +kernel
theorem dX7_goes_121 : decode cX7_goes 121 = .ok (.aload_n 0, 1) := by decide +kernel
theorem dX7_goes_122 : decode cX7_goes 122 = .ok (.getfield 7, 3) := by decide +kernel
theorem dX7_goes_125 : decode cX7_goes 125 = .ok (.iload_n 1, 1) := by decide +kernel
theorem dX7_goes_126 : decode cX7_goes 126 = .ok (.iconst 1, 1) := by decide +kernel
theorem dX7_goes_127 : decode cX7_goes 127 = .ok (.iadd, 1) := by decide +kernel
theorem dX7_goes_128 : decode cX7_goes 128 = .ok (.laload, 1) := by decide +kernel
theorem dX7_goes_129 : decode cX7_goes 129 = .ok (.ladd, 1) := by decide +kernel
theorem dX7_goes_130 : decode cX7_goes 130 = .ok (.lreturn, 1) := by decide +kernel
theorem dX7_goes_131 : decode cX7_goes 131 = .ok (.lload 4, 2) := by decide +kernel
theorem dX7_goes_133 : decode cX7_goes 133 = .ok (.lconst 0, 1) := by decide +kernel
theorem dX7_goes_134 : decode cX7_goes 134 = .ok (.lcmp, 1) := by decide +kernel
theorem dX7_goes_135 : decode cX7_goes 135 = .ok (.ifCond .ne 7, 3) := by decide +kernel
theorem dX7_goes_138 : decode cX7_goes 138 = .ok (.lconst 0, 1) := by decide +kernel
theorem dX7_goes_139 : decode cX7_goes 139 = .ok (.goto 14, 3) := by decide +kernel
theorem dX7_goes_142 : decode cX7_goes 142 = .ok (.lload 4, 2) := by decide +kernel
theorem dX7_goes_144 : decode cX7_goes 144 = .ok (.aload_n 0, 1) := by decide +kernel
theorem dX7_goes_145 : decode cX7_goes 145 = .ok (.getfield 7, 3) := by decide +kernel
theorem dX7_goes_148 : decode cX7_goes 148 = .ok (.iload_n 1, 1) := by decide +kernel
theorem dX7_goes_149 : decode cX7_goes 149 = .ok (.iconst 1, 1) := by decide +kernel
theorem dX7_goes_150 : decode cX7_goes 150 = .ok (.iadd, 1) := by decide +kernel
theorem dX7_goes_151 : decode cX7_goes 151 = .ok (.laload, 1) := by decide +kernel
theorem dX7_goes_152 : decode cX7_goes 152 = .ok (.ladd, 1) := by decide +kernel
theorem dX7_goes_153 : decode cX7_goes 153 = .ok (.lstore 7, 2) := by decide +kernel
theorem dX7_goes_155 : decode cX7_goes 155 = .ok (.lload 7, 2) := by decide +kernel
theorem dX7_goes_157 : decode cX7_goes 157 = .ok (.ldc2_w 68, 3) := by decide +kernel
theorem dX7_goes_160 : decode cX7_goes 160 = .ok (.lcmp, 1) := by decide +kernel
theorem dX7_goes_161 : decode cX7_goes 161 = .ok (.ifCond .le 9, 3) := by decide +kernel
theorem dX7_goes_164 : decode cX7_goes 164 = .ok (.ldc2_w 68, 3) := by decide +kernel
theorem dX7_goes_167 : decode cX7_goes 167 = .ok (.goto 5, 3) := by decide +kernel
theorem dX7_goes_170 : decode cX7_goes 170 = .ok (.lload 7, 2) := by decide +kernel
theorem dX7_goes_172 : decode cX7_goes 172 = .ok (.lreturn, 1) := by decide +kernel
set_option maxRecDepth 20000 in
theorem ggX7_passesOne_X7_at : GoodIn wsX7_passesOne wsX7_at := goodIn_r _ [7] (by decide +kernel) (by decide +kernel)
set_option maxRecDepth 20000 in
theorem gX7_passesOne_X7_at : GoodIn wsX7_passesOne (va_wsS RX7 45 yX7_at wsX7_at) := goodIn_app (goodIn_of _ (by decide +kernel)) ggX7_passesOne_X7_at
set_option maxRecDepth 20000 in
theorem ggX7_passesOne_X7_power : GoodIn wsX7_passesOne wsX7_power := goodIn_r _ [11, 1, 12, 13, 14, 6, 15, 16, 17, 18, 19, 20, 21, 22, 23, 4, 5, 7, 36, 37, 38, 39, 40, 41, 42] (by decide +kernel) (by decide +kernel)
set_option maxRecDepth 20000 in
theorem gX7_passesOne_X7_power : GoodIn wsX7_passesOne (wsV RX7 70 RX7 yX7_power wsX7_power) := goodIn_app (goodIn_of _ (by decide +kernel)) ggX7_passesOne_X7_power
set_option maxRecDepth 20000 in
theorem ggX7_passesOne_X7_goes : GoodIn wsX7_passesOne wsX7_goes := goodIn_r _ [27, 1, 28, 29, 2, 4, 5, 6, 7, 36, 37, 38, 39, 40, 41, 42] (by decide +kernel) (by decide +kernel)
set_option maxRecDepth 20000 in
theorem gX7_passesOne_X7_goes : GoodIn wsX7_passesOne (wsV RX7 73 RX7 yX7_goes wsX7_goes) := goodIn_app (goodIn_of _ (by decide +kernel)) ggX7_passesOne_X7_goes
set_option maxRecDepth 20000 in
theorem ggX7_passesOne_X7_isNight : GoodIn wsX7_passesOne wsX7_isNight := goodIn_r _ [32, 33, 34, 35] (by decide +kernel) (by decide +kernel)
set_option maxRecDepth 20000 in
theorem gX7_passesOne_X7_isNight : GoodIn wsX7_passesOne (va_wsS RX7 77 yX7_isNight wsX7_isNight) := goodIn_app (goodIn_of _ (by decide +kernel)) ggX7_passesOne_X7_isNight
theorem dX7_passesOne_0 : decode cX7_passesOne 0 = .ok (.iload_n 1, 1) := by decide +kernel
theorem dX7_passesOne_1 : decode cX7_passesOne 1 = .ok (.iload_n 2, 1) := by decide +kernel
theorem dX7_passesOne_2 : decode cX7_passesOne 2 = .ok (.invokestatic 45, 3) := by decide +kernel
theorem dX7_passesOne_5 : decode cX7_passesOne 5 = .ok (.istore_n 3, 1) := by decide +kernel
theorem dX7_passesOne_6 : decode cX7_passesOne 6 = .ok (.aload_n 0, 1) := by decide +kernel
theorem dX7_passesOne_7 : decode cX7_passesOne 7 = .ok (.iload_n 2, 1) := by decide +kernel
theorem dX7_passesOne_8 : decode cX7_passesOne 8 = .ok (.invokevirtual 70, 3) := by decide +kernel
theorem dX7_passesOne_11 : decode cX7_passesOne 11 = .ok (.istore 4, 2) := by decide +kernel
theorem dX7_passesOne_13 : decode cX7_passesOne 13 = .ok (.aload_n 0, 1) := by decide +kernel
theorem dX7_passesOne_14 : decode cX7_passesOne 14 = .ok (.getfield 7, 3) := by decide +kernel
theorem dX7_passesOne_17 : decode cX7_passesOne 17 = .ok (.iload_n 3, 1) := by decide +kernel
theorem dX7_passesOne_18 : decode cX7_passesOne 18 = .ok (.iconst 5, 1) := by decide +kernel
theorem dX7_passesOne_19 : decode cX7_passesOne 19 = .ok (.iadd, 1) := by decide +kernel
theorem dX7_passesOne_20 : decode cX7_passesOne 20 = .ok (.dup2, 1) := by decide +kernel
theorem dX7_passesOne_21 : decode cX7_passesOne 21 = .ok (.laload, 1) := by decide +kernel
theorem dX7_passesOne_22 : decode cX7_passesOne 22 = .ok (.iload 4, 2) := by decide +kernel
theorem dX7_passesOne_24 : decode cX7_passesOne 24 = .ok (.i2l, 1) := by decide +kernel
theorem dX7_passesOne_25 : decode cX7_passesOne 25 = .ok (.ladd, 1) := by decide +kernel
theorem dX7_passesOne_26 : decode cX7_passesOne 26 = .ok (.lastore, 1) := by decide +kernel
theorem dX7_passesOne_27 : decode cX7_passesOne 27 = .ok (.aload_n 0, 1) := by decide +kernel
theorem dX7_passesOne_28 : decode cX7_passesOne 28 = .ok (.iload_n 1, 1) := by decide +kernel
theorem dX7_passesOne_29 : decode cX7_passesOne 29 = .ok (.iload_n 2, 1) := by decide +kernel
theorem dX7_passesOne_30 : decode cX7_passesOne 30 = .ok (.iload 4, 2) := by decide +kernel
theorem dX7_passesOne_32 : decode cX7_passesOne 32 = .ok (.invokevirtual 73, 3) := by decide +kernel
theorem dX7_passesOne_35 : decode cX7_passesOne 35 = .ok (.lstore 5, 2) := by decide +kernel
theorem dX7_passesOne_37 : decode cX7_passesOne 37 = .ok (.lload 5, 2) := by decide +kernel
theorem dX7_passesOne_39 : decode cX7_passesOne 39 = .ok (.ldc2_w 68, 3) := by decide +kernel
theorem dX7_passesOne_42 : decode cX7_passesOne 42 = .ok (.ldiv, 1) := by decide +kernel
theorem dX7_passesOne_43 : decode cX7_passesOne 43 = .ok (.lstore 7, 2) := by decide +kernel
theorem dX7_passesOne_45 : decode cX7_passesOne 45 = .ok (.aload_n 0, 1) := by decide +kernel
theorem dX7_passesOne_46 : decode cX7_passesOne 46 = .ok (.getfield 7, 3) := by decide +kernel
theorem dX7_passesOne_49 : decode cX7_passesOne 49 = .ok (.iload_n 3, 1) := by decide +kernel
theorem dX7_passesOne_50 : decode cX7_passesOne 50 = .ok (.iconst 1, 1) := by decide +kernel
theorem dX7_passesOne_51 : decode cX7_passesOne 51 = .ok (.iadd, 1) := by decide +kernel
theorem dX7_passesOne_52 : decode cX7_passesOne 52 = .ok (.lload 5, 2) := by decide +kernel
theorem dX7_passesOne_54 : decode cX7_passesOne 54 = .ok (.ldc2_w 68, 3) := by decide +kernel
theorem dX7_passesOne_57 : decode cX7_passesOne 57 = .ok (.lrem, 1) := by decide +kernel
theorem dX7_passesOne_58 : decode cX7_passesOne 58 = .ok (.lastore, 1) := by decide +kernel
theorem dX7_passesOne_59 : decode cX7_passesOne 59 = .ok (.aload_n 0, 1) := by decide +kernel
theorem dX7_passesOne_60 : decode cX7_passesOne 60 = .ok (.getfield 7, 3) := by decide +kernel
theorem dX7_passesOne_63 : decode cX7_passesOne 63 = .ok (.iload_n 3, 1) := by decide +kernel
theorem dX7_passesOne_64 : decode cX7_passesOne 64 = .ok (.aload_n 0, 1) := by decide +kernel
theorem dX7_passesOne_65 : decode cX7_passesOne 65 = .ok (.getfield 7, 3) := by decide +kernel
theorem dX7_passesOne_68 : decode cX7_passesOne 68 = .ok (.iload_n 1, 1) := by decide +kernel
theorem dX7_passesOne_69 : decode cX7_passesOne 69 = .ok (.bipush 6, 2) := by decide +kernel
theorem dX7_passesOne_71 : decode cX7_passesOne 71 = .ok (.iadd, 1) := by decide +kernel
theorem dX7_passesOne_72 : decode cX7_passesOne 72 = .ok (.laload, 1) := by decide +kernel
theorem dX7_passesOne_73 : decode cX7_passesOne 73 = .ok (.invokestatic 77, 3) := by decide +kernel
theorem dX7_passesOne_76 : decode cX7_passesOne 76 = .ok (.ifCond .eq 7, 3) := by decide +kernel
theorem dX7_passesOne_79 : decode cX7_passesOne 79 = .ok (.iconst 4, 1) := by decide +kernel
theorem dX7_passesOne_80 : decode cX7_passesOne 80 = .ok (.goto 4, 3) := by decide +kernel
theorem dX7_passesOne_83 : decode cX7_passesOne 83 = .ok (.iconst 3, 1) := by decide +kernel
theorem dX7_passesOne_84 : decode cX7_passesOne 84 = .ok (.iadd, 1) := by decide +kernel
theorem dX7_passesOne_85 : decode cX7_passesOne 85 = .ok (.dup2, 1) := by decide +kernel
theorem dX7_passesOne_86 : decode cX7_passesOne 86 = .ok (.laload, 1) := by decide +kernel
theorem dX7_passesOne_87 : decode cX7_passesOne 87 = .ok (.lload 7, 2) := by decide +kernel
theorem dX7_passesOne_89 : decode cX7_passesOne 89 = .ok (.ladd, 1) := by decide +kernel
theorem dX7_passesOne_90 : decode cX7_passesOne 90 = .ok (.lastore, 1) := by decide +kernel
theorem dX7_passesOne_91 : decode cX7_passesOne 91 = .ok (.aload_n 0, 1) := by decide +kernel
theorem dX7_passesOne_92 : decode cX7_passesOne 92 = .ok (.getfield 7, 3) := by decide +kernel
theorem dX7_passesOne_95 : decode cX7_passesOne 95 = .ok (.iload_n 3, 1) := by decide +kernel
theorem dX7_passesOne_96 : decode cX7_passesOne 96 = .ok (.bipush 9, 2) := by decide +kernel
theorem dX7_passesOne_98 : decode cX7_passesOne 98 = .ok (.iadd, 1) := by decide +kernel
theorem dX7_passesOne_99 : decode cX7_passesOne 99 = .ok (.dup2, 1) := by decide +kernel
theorem dX7_passesOne_100 : decode cX7_passesOne 100 = .ok (.laload, 1) := by decide +kernel
theorem dX7_passesOne_101 : decode cX7_passesOne 101 = .ok (.lconst 1, 1) := by decide +kernel
theorem dX7_passesOne_102 : decode cX7_passesOne 102 = .ok (.ladd, 1) := by decide +kernel
theorem dX7_passesOne_103 : decode cX7_passesOne 103 = .ok (.lastore, 1) := by decide +kernel
theorem dX7_passesOne_104 : decode cX7_passesOne 104 = .ok (.aload_n 0, 1) := by decide +kernel
theorem dX7_passesOne_105 : decode cX7_passesOne 105 = .ok (.getfield 7, 3) := by decide +kernel
theorem dX7_passesOne_108 : decode cX7_passesOne 108 = .ok (.iload_n 3, 1) := by decide +kernel
theorem dX7_passesOne_109 : decode cX7_passesOne 109 = .ok (.bipush 9, 2) := by decide +kernel
theorem dX7_passesOne_111 : decode cX7_passesOne 111 = .ok (.iadd, 1) := by decide +kernel
theorem dX7_passesOne_112 : decode cX7_passesOne 112 = .ok (.laload, 1) := by decide +kernel
theorem dX7_passesOne_113 : decode cX7_passesOne 113 = .ok (.aload_n 0, 1) := by decide +kernel
theorem dX7_passesOne_114 : decode cX7_passesOne 114 = .ok (.getfield 7, 3) := by decide +kernel
theorem dX7_passesOne_117 : decode cX7_passesOne 117 = .ok (.iload_n 1, 1) := by decide +kernel
theorem dX7_passesOne_118 : decode cX7_passesOne 118 = .ok (.iconst 3, 1) := by decide +kernel
theorem dX7_passesOne_119 : decode cX7_passesOne 119 = .ok (.iadd, 1) := by decide +kernel
theorem dX7_passesOne_120 : decode cX7_passesOne 120 = .ok (.laload, 1) := by decide +kernel
theorem dX7_passesOne_121 : decode cX7_passesOne 121 = .ok (.lcmp, 1) := by decide +kernel
theorem dX7_passesOne_122 : decode cX7_passesOne 122 = .ok (.ifCond .lt 44, 3) := by decide +kernel
theorem dX7_passesOne_125 : decode cX7_passesOne 125 = .ok (.aload_n 0, 1) := by decide +kernel
theorem dX7_passesOne_126 : decode cX7_passesOne 126 = .ok (.getfield 7, 3) := by decide +kernel
theorem dX7_passesOne_129 : decode cX7_passesOne 129 = .ok (.iload_n 3, 1) := by decide +kernel
theorem dX7_passesOne_130 : decode cX7_passesOne 130 = .ok (.bipush 9, 2) := by decide +kernel
theorem dX7_passesOne_132 : decode cX7_passesOne 132 = .ok (.iadd, 1) := by decide +kernel
theorem dX7_passesOne_133 : decode cX7_passesOne 133 = .ok (.lconst 0, 1) := by decide +kernel
theorem dX7_passesOne_134 : decode cX7_passesOne 134 = .ok (.lastore, 1) := by decide +kernel
theorem dX7_passesOne_135 : decode cX7_passesOne 135 = .ok (.aload_n 0, 1) := by decide +kernel
theorem dX7_passesOne_136 : decode cX7_passesOne 136 = .ok (.getfield 7, 3) := by decide +kernel
theorem dX7_passesOne_139 : decode cX7_passesOne 139 = .ok (.iload_n 3, 1) := by decide +kernel
theorem dX7_passesOne_140 : decode cX7_passesOne 140 = .ok (.iconst 2, 1) := by decide +kernel
theorem dX7_passesOne_141 : decode cX7_passesOne 141 = .ok (.iadd, 1) := by decide +kernel
theorem dX7_passesOne_142 : decode cX7_passesOne 142 = .ok (.dup2, 1) := by decide +kernel
theorem dX7_passesOne_143 : decode cX7_passesOne 143 = .ok (.laload, 1) := by decide +kernel
theorem dX7_passesOne_144 : decode cX7_passesOne 144 = .ok (.aload_n 0, 1) := by decide +kernel
theorem dX7_passesOne_145 : decode cX7_passesOne 145 = .ok (.getfield 7, 3) := by decide +kernel
theorem dX7_passesOne_148 : decode cX7_passesOne 148 = .ok (.iload_n 3, 1) := by decide +kernel
theorem dX7_passesOne_149 : decode cX7_passesOne 149 = .ok (.iconst 2, 1) := by decide +kernel
theorem dX7_passesOne_150 : decode cX7_passesOne 150 = .ok (.iadd, 1) := by decide +kernel
theorem dX7_passesOne_151 : decode cX7_passesOne 151 = .ok (.laload, 1) := by decide +kernel
theorem dX7_passesOne_152 : decode cX7_passesOne 152 = .ok (.ldc2_w 81, 3) := by decide +kernel
theorem dX7_passesOne_155 : decode cX7_passesOne 155 = .ok (.lcmp, 1) := by decide +kernel
theorem dX7_passesOne_156 : decode cX7_passesOne 156 = .ok (.ifCond .ge 7, 3) := by decide +kernel
theorem dX7_passesOne_159 : decode cX7_passesOne 159 = .ok (.lconst 1, 1) := by decide +kernel
theorem dX7_passesOne_160 : decode cX7_passesOne 160 = .ok (.goto 4, 3) := by decide +kernel
theorem dX7_passesOne_163 : decode cX7_passesOne 163 = .ok (.lconst 0, 1) := by decide +kernel
theorem dX7_passesOne_164 : decode cX7_passesOne 164 = .ok (.ladd, 1) := by decide +kernel
theorem dX7_passesOne_165 : decode cX7_passesOne 165 = .ok (.lastore, 1) := by decide +kernel
theorem dX7_passesOne_166 : decode cX7_passesOne 166 = .ok (.lload 7, 2) := by decide +kernel
theorem dX7_passesOne_168 : decode cX7_passesOne 168 = .ok (.l2i, 1) := by decide +kernel
theorem dX7_passesOne_169 : decode cX7_passesOne 169 = .ok (.ireturn, 1) := by decide +kernel
set_option maxRecDepth 20000 in
theorem ggX7_passes_X7_num : GoodIn wsX7_passes wsX7_num := goodIn_r _ [6, 1, 40, 41, 42, 43, 44, 45, 46] (by decide +kernel) (by decide +kernel)
set_option maxRecDepth 20000 in
theorem gX7_passes_X7_num : GoodIn wsX7_passes (wsV RX7 37 RX7 yX7_num wsX7_num) := goodIn_app (goodIn_of _ (by decide +kernel)) ggX7_passes_X7_num
set_option maxRecDepth 20000 in
theorem ggX7_passes_X7_passesOne : GoodIn wsX7_passes wsX7_passesOne := goodIn_r _ [10, 1, 11, 12, 13, 14, 5, 15, 16, 17, 18, 19, 2, 3, 4, 6, 20, 21, 22, 23, 24, 25, 26, 27, 28, 29, 30, 31, 32, 33, 34, 35, 36, 37, 38, 39, 40, 41, 42, 43, 44, 45, 46] (by decide +kernel) (by decide +kernel)
set_option maxRecDepth 20000 in
theorem gX7_passes_X7_passesOne : GoodIn wsX7_passes (wsV RX7 83 RX7 yX7_passesOne wsX7_passesOne) := goodIn_app (goodIn_of _ (by decide +kernel)) ggX7_passes_X7_passesOne
theorem dX7_passes_0 : decode cX7_passes 0 = .ok (.iconst 0, 1) := by decide +kernel
theorem dX7_passes_1 : decode cX7_passes 1 = .ok (.istore_n 3, 1) := by decide +kernel
theorem dX7_passes_2 : decode cX7_passes 2 = .ok (.iconst 0, 1) := by decide +kernel
theorem dX7_passes_3 : decode cX7_passes 3 = .ok (.istore 4, 2) := by decide +kernel
theorem dX7_passes_5 : decode cX7_passes 5 = .ok (.iload 4, 2) := by decide +kernel
theorem dX7_passes_7 : decode cX7_passes 7 = .ok (.iload_n 2, 1) := by decide +kernel
theorem dX7_passes_8 : decode cX7_passes 8 = .ok (.if_icmp .ge 52, 3) := by decide +kernel
theorem dX7_passes_11 : decode cX7_passes 11 = .ok (.iconst 0, 1) := by decide +kernel
theorem dX7_passes_12 : decode cX7_passes 12 = .ok (.istore 5, 2) := by decide +kernel
theorem dX7_passes_14 : decode cX7_passes 14 = .ok (.iload 5, 2) := by decide +kernel
theorem dX7_passes_16 : decode cX7_passes 16 = .ok (.aload_n 0, 1) := by decide +kernel
theorem dX7_passes_17 : decode cX7_passes 17 = .ok (.bipush 7, 2) := by decide +kernel
theorem dX7_passes_19 : decode cX7_passes 19 = .ok (.invokevirtual 37, 3) := by decide +kernel
theorem dX7_passes_22 : decode cX7_passes 22 = .ok (.if_icmp .ge 19, 3) := by decide +kernel
theorem dX7_passes_25 : decode cX7_passes 25 = .ok (.iload_n 3, 1) := by decide +kernel
theorem dX7_passes_26 : decode cX7_passes 26 = .ok (.aload_n 0, 1) := by decide +kernel
theorem dX7_passes_27 : decode cX7_passes 27 = .ok (.iload_n 1, 1) := by decide +kernel
theorem dX7_passes_28 : decode cX7_passes 28 = .ok (.iload 5, 2) := by decide +kernel
theorem dX7_passes_30 : decode cX7_passes 30 = .ok (.invokevirtual 83, 3) := by decide +kernel
theorem dX7_passes_33 : decode cX7_passes 33 = .ok (.iadd, 1) := by decide +kernel
theorem dX7_passes_34 : decode cX7_passes 34 = .ok (.istore_n 3, 1) := by decide +kernel
theorem dX7_passes_35 : decode cX7_passes 35 = .ok (.iinc 5 1, 3) := by decide +kernel
theorem dX7_passes_38 : decode cX7_passes 38 = .ok (.goto (-24), 3) := by decide +kernel
theorem dX7_passes_41 : decode cX7_passes 41 = .ok (.aload_n 0, 1) := by decide +kernel
theorem dX7_passes_42 : decode cX7_passes 42 = .ok (.getfield 7, 3) := by decide +kernel
theorem dX7_passes_45 : decode cX7_passes 45 = .ok (.iload_n 1, 1) := by decide +kernel
theorem dX7_passes_46 : decode cX7_passes 46 = .ok (.bipush 6, 2) := by decide +kernel
theorem dX7_passes_48 : decode cX7_passes 48 = .ok (.iadd, 1) := by decide +kernel
theorem dX7_passes_49 : decode cX7_passes 49 = .ok (.dup2, 1) := by decide +kernel
theorem dX7_passes_50 : decode cX7_passes 50 = .ok (.laload, 1) := by decide +kernel
theorem dX7_passes_51 : decode cX7_passes 51 = .ok (.lconst 1, 1) := by decide +kernel
theorem dX7_passes_52 : decode cX7_passes 52 = .ok (.ladd, 1) := by decide +kernel
theorem dX7_passes_53 : decode cX7_passes 53 = .ok (.lastore, 1) := by decide +kernel
theorem dX7_passes_54 : decode cX7_passes 54 = .ok (.iinc 4 1, 3) := by decide +kernel
theorem dX7_passes_57 : decode cX7_passes 57 = .ok (.goto (-52), 3) := by decide +kernel
theorem dX7_passes_60 : decode cX7_passes 60 = .ok (.iload_n 3, 1) := by decide +kernel
theorem dX7_passes_61 : decode cX7_passes 61 = .ok (.ireturn, 1) := by decide +kernel
theorem dX7_lowOf_0 : decode cX7_lowOf 0 = .ok (.iload_n 0, 1) := by decide +kernel
theorem dX7_lowOf_1 : decode cX7_lowOf 1 = .ok (.iconst 3, 1) := by decide +kernel
theorem dX7_lowOf_2 : decode cX7_lowOf 2 = .ok (.if_icmp .ne 8, 3) := by decide +kernel
theorem dX7_lowOf_5 : decode cX7_lowOf 5 = .ok (.bipush 100, 2) := by decide +kernel
theorem dX7_lowOf_7 : decode cX7_lowOf 7 = .ok (.goto 4, 3) := by decide +kernel
theorem dX7_lowOf_10 : decode cX7_lowOf 10 = .ok (.iconst 0, 1) := by decide +kernel
theorem dX7_lowOf_11 : decode cX7_lowOf 11 = .ok (.ireturn, 1) := by decide +kernel
theorem dX7_highOf_0 : decode cX7_highOf 0 = .ok (.iload_n 0, 1) := by decide +kernel
theorem dX7_highOf_1 : decode cX7_highOf 1 = .ok (.tableswitch 36 1 3 #[27, 30, 32], 27) := by decide +kernel
theorem dX7_highOf_28 : decode cX7_highOf 28 = .ok (.bipush 9, 2) := by decide +kernel
theorem dX7_highOf_30 : decode cX7_highOf 30 = .ok (.ireturn, 1) := by decide +kernel
theorem dX7_highOf_31 : decode cX7_highOf 31 = .ok (.iconst 1, 1) := by decide +kernel
theorem dX7_highOf_32 : decode cX7_highOf 32 = .ok (.ireturn, 1) := by decide +kernel
theorem dX7_highOf_33 : decode cX7_highOf 33 = .ok (.sipush 5000, 3) := by decide +kernel
theorem dX7_highOf_36 : decode cX7_highOf 36 = .ok (.ireturn, 1) := by decide +kernel
theorem dX7_highOf_37 : decode cX7_highOf 37 = .ok (.bipush 99, 2) := by decide +kernel
theorem dX7_highOf_39 : decode cX7_highOf 39 = .ok (.ireturn, 1) := by decide +kernel
set_option maxRecDepth 20000 in
theorem ggX7_set_X7_in : GoodIn wsX7_set wsX7_in := goodIn_r _ [5] (by decide +kernel) (by decide +kernel)
set_option maxRecDepth 20000 in
theorem gX7_set_X7_in : GoodIn wsX7_set (va_wsS RX7 41 yX7_in wsX7_in) := goodIn_app (goodIn_of _ (by decide +kernel)) ggX7_set_X7_in
set_option maxRecDepth 20000 in
theorem ggX7_set_X7_lowOf : GoodIn wsX7_set wsX7_lowOf := goodIn_r _ [8] (by decide +kernel) (by decide +kernel)
set_option maxRecDepth 20000 in
theorem gX7_set_X7_lowOf : GoodIn wsX7_set (va_wsS RX7 86 yX7_lowOf wsX7_lowOf) := goodIn_app (goodIn_of _ (by decide +kernel)) ggX7_set_X7_lowOf
set_option maxRecDepth 20000 in
theorem ggX7_set_X7_highOf : GoodIn wsX7_set wsX7_highOf := goodIn_r _ [11] (by decide +kernel) (by decide +kernel)
set_option maxRecDepth 20000 in
theorem gX7_set_X7_highOf : GoodIn wsX7_set (va_wsS RX7 89 yX7_highOf wsX7_highOf) := goodIn_app (goodIn_of _ (by decide +kernel)) ggX7_set_X7_highOf
set_option maxRecDepth 20000 in
theorem ggX7_set_X7_remembers : GoodIn wsX7_set wsX7_remembers := goodIn_r _ [15, 16, 17, 1, 22, 23, 24, 25, 26, 27, 28] (by decide +kernel) (by decide +kernel)
set_option maxRecDepth 20000 in
theorem gX7_set_X7_remembers : GoodIn wsX7_set (wsV RX7 92 RX7 yX7_remembers wsX7_remembers) := goodIn_app (goodIn_of _ (by decide +kernel)) ggX7_set_X7_remembers
set_option maxRecDepth 20000 in
theorem ggX7_set_X7_num : GoodIn wsX7_set wsX7_num := goodIn_r _ [21, 1, 22, 23, 24, 25, 26, 27, 28] (by decide +kernel) (by decide +kernel)
set_option maxRecDepth 20000 in
theorem gX7_set_X7_num : GoodIn wsX7_set (wsV RX7 37 RX7 yX7_num wsX7_num) := goodIn_app (goodIn_of _ (by decide +kernel)) ggX7_set_X7_num
theorem dX7_set_0 : decode cX7_set 0 = .ok (.iload_n 1, 1) := by decide +kernel
theorem dX7_set_1 : decode cX7_set 1 = .ok (.iconst 0, 1) := by decide +kernel
theorem dX7_set_2 : decode cX7_set 2 = .ok (.iconst 5, 1) := by decide +kernel
theorem dX7_set_3 : decode cX7_set 3 = .ok (.invokestatic 41, 3) := by decide +kernel
theorem dX7_set_6 : decode cX7_set 6 = .ok (.ifCond .eq 18, 3) := by decide +kernel
theorem dX7_set_9 : decode cX7_set 9 = .ok (.iload_n 2, 1) := by decide +kernel
theorem dX7_set_10 : decode cX7_set 10 = .ok (.iload_n 1, 1) := by decide +kernel
theorem dX7_set_11 : decode cX7_set 11 = .ok (.invokestatic 86, 3) := by decide +kernel
theorem dX7_set_14 : decode cX7_set 14 = .ok (.iload_n 1, 1) := by decide +kernel
theorem dX7_set_15 : decode cX7_set 15 = .ok (.invokestatic 89, 3) := by decide +kernel
theorem dX7_set_18 : decode cX7_set 18 = .ok (.invokestatic 41, 3) := by decide +kernel
theorem dX7_set_21 : decode cX7_set 21 = .ok (.ifCond .ne 6, 3) := by decide +kernel
theorem dX7_set_24 : decode cX7_set 24 = .ok (.bipush (-2), 2) := by decide +kernel
theorem dX7_set_26 : decode cX7_set 26 = .ok (.ireturn, 1) := by decide +kernel
theorem dX7_set_27 : decode cX7_set 27 = .ok (.aload_n 0, 1) := by decide +kernel
theorem dX7_set_28 : decode cX7_set 28 = .ok (.invokevirtual 92, 3) := by decide +kernel
theorem dX7_set_31 : decode cX7_set 31 = .ok (.aload_n 0, 1) := by decide +kernel
theorem dX7_set_32 : decode cX7_set 32 = .ok (.iload_n 1, 1) := by decide +kernel
theorem dX7_set_33 : decode cX7_set 33 = .ok (.invokevirtual 37, 3) := by decide +kernel
theorem dX7_set_36 : decode cX7_set 36 = .ok (.istore_n 3, 1) := by decide +kernel
theorem dX7_set_37 : decode cX7_set 37 = .ok (.aload_n 0, 1) := by decide +kernel
theorem dX7_set_38 : decode cX7_set 38 = .ok (.getfield 7, 3) := by decide +kernel
theorem dX7_set_41 : decode cX7_set 41 = .ok (.iload_n 1, 1) := by decide +kernel
theorem dX7_set_42 : decode cX7_set 42 = .ok (.iload_n 2, 1) := by decide +kernel
theorem dX7_set_43 : decode cX7_set 43 = .ok (.i2l, 1) := by decide +kernel
theorem dX7_set_44 : decode cX7_set 44 = .ok (.lastore, 1) := by decide +kernel
theorem dX7_set_45 : decode cX7_set 45 = .ok (.iload_n 3, 1) := by decide +kernel
theorem dX7_set_46 : decode cX7_set 46 = .ok (.ireturn, 1) := by decide +kernel
set_option maxRecDepth 20000 in
theorem ggX7_whyNotMeter_X7_num : GoodIn wsX7_whyNotMeter wsX7_num := goodIn_r _ [5, 6, 14, 15, 16, 17, 18, 19, 20] (by decide +kernel) (by decide +kernel)
set_option maxRecDepth 20000 in
theorem gX7_whyNotMeter_X7_num : GoodIn wsX7_whyNotMeter (wsV RX7 37 RX7 yX7_num wsX7_num) := goodIn_app (goodIn_of _ (by decide +kernel)) ggX7_whyNotMeter_X7_num
set_option maxRecDepth 20000 in
theorem ggX7_whyNotMeter_X7_isMeter : GoodIn wsX7_whyNotMeter wsX7_isMeter := goodIn_r _ [10, 1, 2, 3, 4, 5, 6, 11, 12, 13, 14, 15, 16, 17, 18, 19, 20] (by decide +kernel) (by decide +kernel)
set_option maxRecDepth 20000 in
theorem gX7_whyNotMeter_X7_isMeter : GoodIn wsX7_whyNotMeter (wsV RX7 95 RX7 yX7_isMeter wsX7_isMeter) := goodIn_app (goodIn_of _ (by decide +kernel)) ggX7_whyNotMeter_X7_isMeter
theorem dX7_whyNotMeter_0 : decode cX7_whyNotMeter 0 = .ok (.aload_n 0, 1) := by decide +kernel
theorem dX7_whyNotMeter_1 : decode cX7_whyNotMeter 1 = .ok (.bipush 7, 2) := by decide +kernel
theorem dX7_whyNotMeter_3 : decode cX7_whyNotMeter 3 = .ok (.invokevirtual 37, 3) := by decide +kernel
theorem dX7_whyNotMeter_6 : decode cX7_whyNotMeter 6 = .ok (.ifCond .le 15, 3) := by decide +kernel
theorem dX7_whyNotMeter_9 : decode cX7_whyNotMeter 9 = .ok (.aload_n 0, 1) := by decide +kernel
theorem dX7_whyNotMeter_10 : decode cX7_whyNotMeter 10 = .ok (.iload_n 1, 1) := by decide +kernel
theorem dX7_whyNotMeter_11 : decode cX7_whyNotMeter 11 = .ok (.invokevirtual 95, 3) := by decide +kernel
theorem dX7_whyNotMeter_14 : decode cX7_whyNotMeter 14 = .ok (.ifCond .ne 7, 3) := by decide +kernel
theorem dX7_whyNotMeter_17 : decode cX7_whyNotMeter 17 = .ok (.iconst (-1), 1) := by decide +kernel
theorem dX7_whyNotMeter_18 : decode cX7_whyNotMeter 18 = .ok (.goto 20, 3) := by decide +kernel
theorem dX7_whyNotMeter_21 : decode cX7_whyNotMeter 21 = .ok (.aload_n 0, 1) := by decide +kernel
theorem dX7_whyNotMeter_22 : decode cX7_whyNotMeter 22 = .ok (.bipush 7, 2) := by decide +kernel
theorem dX7_whyNotMeter_24 : decode cX7_whyNotMeter 24 = .ok (.invokevirtual 37, 3) := by decide +kernel
theorem dX7_whyNotMeter_27 : decode cX7_whyNotMeter 27 = .ok (.bipush 7, 2) := by decide +kernel
theorem dX7_whyNotMeter_29 : decode cX7_whyNotMeter 29 = .ok (.if_icmp .ne 8, 3) := by decide +kernel
theorem dX7_whyNotMeter_32 : decode cX7_whyNotMeter 32 = .ok (.bipush (-4), 2) := by decide +kernel
theorem dX7_whyNotMeter_34 : decode cX7_whyNotMeter 34 = .ok (.goto 4, 3) := by decide +kernel
theorem dX7_whyNotMeter_37 : decode cX7_whyNotMeter 37 = .ok (.iconst 0, 1) := by decide +kernel
theorem dX7_whyNotMeter_38 : decode cX7_whyNotMeter 38 = .ok (.ireturn, 1) := by decide +kernel
set_option maxRecDepth 20000 in
theorem ggX7_comes_X7_num : GoodIn wsX7_comes wsX7_num := goodIn_r _ [8, 1, 12, 13, 14, 15, 16, 17, 18] (by decide +kernel) (by decide +kernel)
set_option maxRecDepth 20000 in
theorem gX7_comes_X7_num : GoodIn wsX7_comes (wsV RX7 37 RX7 yX7_num wsX7_num) := goodIn_app (goodIn_of _ (by decide +kernel)) ggX7_comes_X7_num
set_option maxRecDepth 20000 in
theorem ggX7_comes_X7_at : GoodIn wsX7_comes wsX7_at := goodIn_r _ [11] (by decide +kernel) (by decide +kernel)
set_option maxRecDepth 20000 in
theorem gX7_comes_X7_at : GoodIn wsX7_comes (va_wsS RX7 45 yX7_at wsX7_at) := goodIn_app (goodIn_of _ (by decide +kernel)) ggX7_comes_X7_at
theorem dX7_comes_0 : decode cX7_comes 0 = .ok (.iconst 0, 1) := by decide +kernel
theorem dX7_comes_1 : decode cX7_comes 1 = .ok (.aload_n 0, 1) := by decide +kernel
theorem dX7_comes_2 : decode cX7_comes 2 = .ok (.bipush 7, 2) := by decide +kernel
theorem dX7_comes_4 : decode cX7_comes 4 = .ok (.invokevirtual 37, 3) := by decide +kernel
theorem dX7_comes_7 : decode cX7_comes 7 = .ok (.invokestatic 45, 3) := by decide +kernel
theorem dX7_comes_10 : decode cX7_comes 10 = .ok (.istore_n 2, 1) := by decide +kernel
theorem dX7_comes_11 : decode cX7_comes 11 = .ok (.iconst 0, 1) := by decide +kernel
theorem dX7_comes_12 : decode cX7_comes 12 = .ok (.istore_n 3, 1) := by decide +kernel
theorem dX7_comes_13 : decode cX7_comes 13 = .ok (.iload_n 3, 1) := by decide +kernel
theorem dX7_comes_14 : decode cX7_comes 14 = .ok (.bipush 13, 2) := by decide +kernel
theorem dX7_comes_16 : decode cX7_comes 16 = .ok (.if_icmp .ge 18, 3) := by decide +kernel
theorem dX7_comes_19 : decode cX7_comes 19 = .ok (.aload_n 0, 1) := by decide +kernel
theorem dX7_comes_20 : decode cX7_comes 20 = .ok (.getfield 7, 3) := by decide +kernel
theorem dX7_comes_23 : decode cX7_comes 23 = .ok (.iload_n 2, 1) := by decide +kernel
theorem dX7_comes_24 : decode cX7_comes 24 = .ok (.iload_n 3, 1) := by decide +kernel
theorem dX7_comes_25 : decode cX7_comes 25 = .ok (.iadd, 1) := by decide +kernel
theorem dX7_comes_26 : decode cX7_comes 26 = .ok (.lconst 0, 1) := by decide +kernel
theorem dX7_comes_27 : decode cX7_comes 27 = .ok (.lastore, 1) := by decide +kernel
theorem dX7_comes_28 : decode cX7_comes 28 = .ok (.iinc 3 1, 3) := by decide +kernel
theorem dX7_comes_31 : decode cX7_comes 31 = .ok (.goto (-18), 3) := by decide +kernel
theorem dX7_comes_34 : decode cX7_comes 34 = .ok (.aload_n 0, 1) := by decide +kernel
theorem dX7_comes_35 : decode cX7_comes 35 = .ok (.getfield 7, 3) := by decide +kernel
theorem dX7_comes_38 : decode cX7_comes 38 = .ok (.bipush 10, 2) := by decide +kernel
theorem dX7_comes_40 : decode cX7_comes 40 = .ok (.dup2, 1) := by decide +kernel
theorem dX7_comes_41 : decode cX7_comes 41 = .ok (.laload, 1) := by decide +kernel
theorem dX7_comes_42 : decode cX7_comes 42 = .ok (.lconst 1, 1) := by decide +kernel
theorem dX7_comes_43 : decode cX7_comes 43 = .ok (.ladd, 1) := by decide +kernel
theorem dX7_comes_44 : decode cX7_comes 44 = .ok (.lastore, 1) := by decide +kernel
theorem dX7_comes_45 : decode cX7_comes 45 = .ok (.aload_n 0, 1) := by decide +kernel
theorem dX7_comes_46 : decode cX7_comes 46 = .ok (.getfield 7, 3) := by decide +kernel
theorem dX7_comes_49 : decode cX7_comes 49 = .ok (.iload_n 2, 1) := by decide +kernel
theorem dX7_comes_50 : decode cX7_comes 50 = .ok (.iconst 0, 1) := by decide +kernel
theorem dX7_comes_51 : decode cX7_comes 51 = .ok (.iadd, 1) := by decide +kernel
theorem dX7_comes_52 : decode cX7_comes 52 = .ok (.aload_n 0, 1) := by decide +kernel
theorem dX7_comes_53 : decode cX7_comes 53 = .ok (.bipush 7, 2) := by decide +kernel
theorem dX7_comes_55 : decode cX7_comes 55 = .ok (.invokevirtual 37, 3) := by decide +kernel
theorem dX7_comes_58 : decode cX7_comes 58 = .ok (.ifCond .ne 9, 3) := by decide +kernel
theorem dX7_comes_61 : decode cX7_comes 61 = .ok (.ldc2_w 99, 3) := by decide +kernel
theorem dX7_comes_64 : decode cX7_comes 64 = .ok (.goto 5, 3) := by decide +kernel
theorem dX7_comes_67 : decode cX7_comes 67 = .ok (.iload_n 1, 1) := by decide +kernel
theorem dX7_comes_68 : decode cX7_comes 68 = .ok (.i2l, 1) := by decide +kernel
theorem dX7_comes_69 : decode cX7_comes 69 = .ok (.lastore, 1) := by decide +kernel
theorem dX7_comes_70 : decode cX7_comes 70 = .ok (.aload_n 0, 1) := by decide +kernel
theorem dX7_comes_71 : decode cX7_comes 71 = .ok (.getfield 7, 3) := by decide +kernel
theorem dX7_comes_74 : decode cX7_comes 74 = .ok (.iload_n 2, 1) := by decide +kernel
theorem dX7_comes_75 : decode cX7_comes 75 = .ok (.iconst 2, 1) := by decide +kernel
theorem dX7_comes_76 : decode cX7_comes 76 = .ok (.iadd, 1) := by decide +kernel
theorem dX7_comes_77 : decode cX7_comes 77 = .ok (.ldc2_w 66, 3) := by decide +kernel
theorem dX7_comes_80 : decode cX7_comes 80 = .ok (.lastore, 1) := by decide +kernel
theorem dX7_comes_81 : decode cX7_comes 81 = .ok (.aload_n 0, 1) := by decide +kernel
theorem dX7_comes_82 : decode cX7_comes 82 = .ok (.getfield 7, 3) := by decide +kernel
theorem dX7_comes_85 : decode cX7_comes 85 = .ok (.iload_n 2, 1) := by decide +kernel
theorem dX7_comes_86 : decode cX7_comes 86 = .ok (.bipush 6, 2) := by decide +kernel
theorem dX7_comes_88 : decode cX7_comes 88 = .ok (.iadd, 1) := by decide +kernel
theorem dX7_comes_89 : decode cX7_comes 89 = .ok (.aload_n 0, 1) := by decide +kernel
theorem dX7_comes_90 : decode cX7_comes 90 = .ok (.getfield 7, 3) := by decide +kernel
theorem dX7_comes_93 : decode cX7_comes 93 = .ok (.bipush 10, 2) := by decide +kernel
theorem dX7_comes_95 : decode cX7_comes 95 = .ok (.laload, 1) := by decide +kernel
theorem dX7_comes_96 : decode cX7_comes 96 = .ok (.lastore, 1) := by decide +kernel
theorem dX7_comes_97 : decode cX7_comes 97 = .ok (.aload_n 0, 1) := by decide +kernel
theorem dX7_comes_98 : decode cX7_comes 98 = .ok (.getfield 7, 3) := by decide +kernel
theorem dX7_comes_101 : decode cX7_comes 101 = .ok (.bipush 7, 2) := by decide +kernel
theorem dX7_comes_103 : decode cX7_comes 103 = .ok (.dup2, 1) := by decide +kernel
theorem dX7_comes_104 : decode cX7_comes 104 = .ok (.laload, 1) := by decide +kernel
theorem dX7_comes_105 : decode cX7_comes 105 = .ok (.lconst 1, 1) := by decide +kernel
theorem dX7_comes_106 : decode cX7_comes 106 = .ok (.ladd, 1) := by decide +kernel
theorem dX7_comes_107 : decode cX7_comes 107 = .ok (.lastore, 1) := by decide +kernel
theorem dX7_comes_108 : decode cX7_comes 108 = .ok (.aload_n 0, 1) := by decide +kernel
theorem dX7_comes_109 : decode cX7_comes 109 = .ok (.bipush 7, 2) := by decide +kernel
theorem dX7_comes_111 : decode cX7_comes 111 = .ok (.invokevirtual 37, 3) := by decide +kernel
theorem dX7_comes_114 : decode cX7_comes 114 = .ok (.iconst 1, 1) := by decide +kernel
theorem dX7_comes_115 : decode cX7_comes 115 = .ok (.isub, 1) := by decide +kernel
theorem dX7_comes_116 : decode cX7_comes 116 = .ok (.ireturn, 1) := by decide +kernel
set_option maxRecDepth 20000 in
theorem ggX7_meter_X7_whyNotMeter : GoodIn wsX7_meter wsX7_whyNotMeter := goodIn_r _ [5, 6, 7, 8, 4, 9, 10, 11, 12, 13, 14, 15, 16, 17, 33, 34, 35, 36, 37, 38, 39] (by decide +kernel) (by decide +kernel)
set_option maxRecDepth 20000 in
theorem gX7_meter_X7_whyNotMeter : GoodIn wsX7_meter (wsV RX7 101 RX7 yX7_whyNotMeter wsX7_whyNotMeter) := goodIn_app (goodIn_of _ (by decide +kernel)) ggX7_meter_X7_whyNotMeter
set_option maxRecDepth 20000 in
theorem ggX7_meter_X7_remembers : GoodIn wsX7_meter wsX7_remembers := goodIn_r _ [21, 22, 23, 10, 33, 34, 35, 36, 37, 38, 39] (by decide +kernel) (by decide +kernel)
set_option maxRecDepth 20000 in
theorem gX7_meter_X7_remembers : GoodIn wsX7_meter (wsV RX7 92 RX7 yX7_remembers wsX7_remembers) := goodIn_app (goodIn_of _ (by decide +kernel)) ggX7_meter_X7_remembers
set_option maxRecDepth 20000 in
theorem ggX7_meter_X7_comes : GoodIn wsX7_meter wsX7_comes := goodIn_r _ [27, 10, 28, 29, 6, 7, 8, 4, 9, 30, 31, 32, 33, 34, 35, 36, 37, 38, 39] (by decide +kernel) (by decide +kernel)
set_option maxRecDepth 20000 in
theorem gX7_meter_X7_comes : GoodIn wsX7_meter (wsV RX7 104 RX7 yX7_comes wsX7_comes) := goodIn_app (goodIn_of _ (by decide +kernel)) ggX7_meter_X7_comes
theorem dX7_meter_0 : decode cX7_meter 0 = .ok (.aload_n 0, 1) := by decide +kernel
theorem dX7_meter_1 : decode cX7_meter 1 = .ok (.iload_n 1, 1) := by decide +kernel
theorem dX7_meter_2 : decode cX7_meter 2 = .ok (.invokevirtual 101, 3) := by decide +kernel
theorem dX7_meter_5 : decode cX7_meter 5 = .ok (.istore_n 2, 1) := by decide +kernel
theorem dX7_meter_6 : decode cX7_meter 6 = .ok (.iload_n 2, 1) := by decide +kernel
theorem dX7_meter_7 : decode cX7_meter 7 = .ok (.ifCond .ge 5, 3) := by decide +kernel
theorem dX7_meter_10 : decode cX7_meter 10 = .ok (.iload_n 2, 1) := by decide +kernel
theorem dX7_meter_11 : decode cX7_meter 11 = .ok (.ireturn, 1) := by decide +kernel
theorem dX7_meter_12 : decode cX7_meter 12 = .ok (.aload_n 0, 1) := by decide +kernel
theorem dX7_meter_13 : decode cX7_meter 13 = .ok (.invokevirtual 92, 3) := by decide +kernel
theorem dX7_meter_16 : decode cX7_meter 16 = .ok (.aload_n 0, 1) := by decide +kernel
theorem dX7_meter_17 : decode cX7_meter 17 = .ok (.iload_n 1, 1) := by decide +kernel
theorem dX7_meter_18 : decode cX7_meter 18 = .ok (.invokevirtual 104, 3) := by decide +kernel
theorem dX7_meter_21 : decode cX7_meter 21 = .ok (.ireturn, 1) := by decide +kernel
set_option maxRecDepth 20000 in
theorem ggX7_whyNotLoad_X7_isMeter : GoodIn wsX7_whyNotLoad wsX7_isMeter := goodIn_r _ [5, 6, 7, 8, 4, 9, 10, 11, 12, 13, 14, 15, 16, 17, 18, 19, 20] (by decide +kernel) (by decide +kernel)
set_option maxRecDepth 20000 in
theorem gX7_whyNotLoad_X7_isMeter : GoodIn wsX7_whyNotLoad (wsV RX7 95 RX7 yX7_isMeter wsX7_isMeter) := goodIn_app (goodIn_of _ (by decide +kernel)) ggX7_whyNotLoad_X7_isMeter
set_option maxRecDepth 20000 in
theorem ggX7_whyNotLoad_X7_in : GoodIn wsX7_whyNotLoad wsX7_in := goodIn_r _ [13] (by decide +kernel) (by decide +kernel)
set_option maxRecDepth 20000 in
theorem gX7_whyNotLoad_X7_in : GoodIn wsX7_whyNotLoad (va_wsS RX7 41 yX7_in wsX7_in) := goodIn_app (goodIn_of _ (by decide +kernel)) ggX7_whyNotLoad_X7_in
set_option maxRecDepth 20000 in
theorem ggX7_whyNotLoad_X7_num : GoodIn wsX7_whyNotLoad wsX7_num := goodIn_r _ [9, 10, 14, 15, 16, 17, 18, 19, 20] (by decide +kernel) (by decide +kernel)
set_option maxRecDepth 20000 in
theorem gX7_whyNotLoad_X7_num : GoodIn wsX7_whyNotLoad (wsV RX7 37 RX7 yX7_num wsX7_num) := goodIn_app (goodIn_of _ (by decide +kernel)) ggX7_whyNotLoad_X7_num
theorem dX7_whyNotLoad_0 : decode cX7_whyNotLoad 0 = .ok (.aload_n 0, 1) := by decide +kernel
theorem dX7_whyNotLoad_1 : decode cX7_whyNotLoad 1 = .ok (.iload_n 1, 1) := by decide +kernel
theorem dX7_whyNotLoad_2 : decode cX7_whyNotLoad 2 = .ok (.invokevirtual 95, 3) := by decide +kernel
theorem dX7_whyNotLoad_5 : decode cX7_whyNotLoad 5 = .ok (.ifCond .ne 7, 3) := by decide +kernel
theorem dX7_whyNotLoad_8 : decode cX7_whyNotLoad 8 = .ok (.iconst (-1), 1) := by decide +kernel
theorem dX7_whyNotLoad_9 : decode cX7_whyNotLoad 9 = .ok (.goto 36, 3) := by decide +kernel
theorem dX7_whyNotLoad_12 : decode cX7_whyNotLoad 12 = .ok (.iload_n 2, 1) := by decide +kernel
theorem dX7_whyNotLoad_13 : decode cX7_whyNotLoad 13 = .ok (.iconst 1, 1) := by decide +kernel
theorem dX7_whyNotLoad_14 : decode cX7_whyNotLoad 14 = .ok (.sipush 4000, 3) := by decide +kernel
theorem dX7_whyNotLoad_17 : decode cX7_whyNotLoad 17 = .ok (.invokestatic 41, 3) := by decide +kernel
theorem dX7_whyNotLoad_20 : decode cX7_whyNotLoad 20 = .ok (.ifCond .ne 8, 3) := by decide +kernel
theorem dX7_whyNotLoad_23 : decode cX7_whyNotLoad 23 = .ok (.bipush (-2), 2) := by decide +kernel
theorem dX7_whyNotLoad_25 : decode cX7_whyNotLoad 25 = .ok (.goto 20, 3) := by decide +kernel
theorem dX7_whyNotLoad_28 : decode cX7_whyNotLoad 28 = .ok (.aload_n 0, 1) := by decide +kernel
theorem dX7_whyNotLoad_29 : decode cX7_whyNotLoad 29 = .ok (.bipush 8, 2) := by decide +kernel
theorem dX7_whyNotLoad_31 : decode cX7_whyNotLoad 31 = .ok (.invokevirtual 37, 3) := by decide +kernel
theorem dX7_whyNotLoad_34 : decode cX7_whyNotLoad 34 = .ok (.bipush 12, 2) := by decide +kernel
theorem dX7_whyNotLoad_36 : decode cX7_whyNotLoad 36 = .ok (.if_icmp .ne 8, 3) := by decide +kernel
theorem dX7_whyNotLoad_39 : decode cX7_whyNotLoad 39 = .ok (.bipush (-4), 2) := by decide +kernel
theorem dX7_whyNotLoad_41 : decode cX7_whyNotLoad 41 = .ok (.goto 4, 3) := by decide +kernel
theorem dX7_whyNotLoad_44 : decode cX7_whyNotLoad 44 = .ok (.iconst 0, 1) := by decide +kernel
theorem dX7_whyNotLoad_45 : decode cX7_whyNotLoad 45 = .ok (.ireturn, 1) := by decide +kernel
set_option maxRecDepth 20000 in
theorem ggX7_loads_X7_num : GoodIn wsX7_loads wsX7_num := goodIn_r _ [6, 1, 7, 8, 9, 10, 11, 12, 13] (by decide +kernel) (by decide +kernel)
set_option maxRecDepth 20000 in
theorem gX7_loads_X7_num : GoodIn wsX7_loads (wsV RX7 37 RX7 yX7_num wsX7_num) := goodIn_app (goodIn_of _ (by decide +kernel)) ggX7_loads_X7_num
theorem dX7_loads_0 : decode cX7_loads 0 = .ok (.bipush 102, 2) := by decide +kernel
theorem dX7_loads_2 : decode cX7_loads 2 = .ok (.iconst 3, 1) := by decide +kernel
theorem dX7_loads_3 : decode cX7_loads 3 = .ok (.aload_n 0, 1) := by decide +kernel
theorem dX7_loads_4 : decode cX7_loads 4 = .ok (.bipush 8, 2) := by decide +kernel
theorem dX7_loads_6 : decode cX7_loads 6 = .ok (.invokevirtual 37, 3) := by decide +kernel
theorem dX7_loads_9 : decode cX7_loads 9 = .ok (.imul, 1) := by decide +kernel
theorem dX7_loads_10 : decode cX7_loads 10 = .ok (.iadd, 1) := by decide +kernel
theorem dX7_loads_11 : decode cX7_loads 11 = .ok (.istore_n 3, 1) := by decide +kernel
theorem dX7_loads_12 : decode cX7_loads 12 = .ok (.aload_n 0, 1) := by decide +kernel
theorem dX7_loads_13 : decode cX7_loads 13 = .ok (.getfield 7, 3) := by decide +kernel
theorem dX7_loads_16 : decode cX7_loads 16 = .ok (.iload_n 3, 1) := by decide +kernel
theorem dX7_loads_17 : decode cX7_loads 17 = .ok (.iload_n 1, 1) := by decide +kernel
theorem dX7_loads_18 : decode cX7_loads 18 = .ok (.i2l, 1) := by decide +kernel
theorem dX7_loads_19 : decode cX7_loads 19 = .ok (.lastore, 1) := by decide +kernel
theorem dX7_loads_20 : decode cX7_loads 20 = .ok (.aload_n 0, 1) := by decide +kernel
theorem dX7_loads_21 : decode cX7_loads 21 = .ok (.getfield 7, 3) := by decide +kernel
theorem dX7_loads_24 : decode cX7_loads 24 = .ok (.iload_n 3, 1) := by decide +kernel
theorem dX7_loads_25 : decode cX7_loads 25 = .ok (.iconst 1, 1) := by decide +kernel
theorem dX7_loads_26 : decode cX7_loads 26 = .ok (.iadd, 1) := by decide +kernel
theorem dX7_loads_27 : decode cX7_loads 27 = .ok (.iload_n 2, 1) := by decide +kernel
theorem dX7_loads_28 : decode cX7_loads 28 = .ok (.i2l, 1) := by decide +kernel
theorem dX7_loads_29 : decode cX7_loads 29 = .ok (.lastore, 1) := by decide +kernel
theorem dX7_loads_30 : decode cX7_loads 30 = .ok (.aload_n 0, 1) := by decide +kernel
theorem dX7_loads_31 : decode cX7_loads 31 = .ok (.getfield 7, 3) := by decide +kernel
theorem dX7_loads_34 : decode cX7_loads 34 = .ok (.iload_n 3, 1) := by decide +kernel
theorem dX7_loads_35 : decode cX7_loads 35 = .ok (.iconst 2, 1) := by decide +kernel
theorem dX7_loads_36 : decode cX7_loads 36 = .ok (.iadd, 1) := by decide +kernel
theorem dX7_loads_37 : decode cX7_loads 37 = .ok (.lconst 0, 1) := by decide +kernel
theorem dX7_loads_38 : decode cX7_loads 38 = .ok (.lastore, 1) := by decide +kernel
theorem dX7_loads_39 : decode cX7_loads 39 = .ok (.aload_n 0, 1) := by decide +kernel
theorem dX7_loads_40 : decode cX7_loads 40 = .ok (.getfield 7, 3) := by decide +kernel
theorem dX7_loads_43 : decode cX7_loads 43 = .ok (.bipush 8, 2) := by decide +kernel
theorem dX7_loads_45 : decode cX7_loads 45 = .ok (.dup2, 1) := by decide +kernel
theorem dX7_loads_46 : decode cX7_loads 46 = .ok (.laload, 1) := by decide +kernel
theorem dX7_loads_47 : decode cX7_loads 47 = .ok (.lconst 1, 1) := by decide +kernel
theorem dX7_loads_48 : decode cX7_loads 48 = .ok (.ladd, 1) := by decide +kernel
theorem dX7_loads_49 : decode cX7_loads 49 = .ok (.lastore, 1) := by decide +kernel
theorem dX7_loads_50 : decode cX7_loads 50 = .ok (.aload_n 0, 1) := by decide +kernel
theorem dX7_loads_51 : decode cX7_loads 51 = .ok (.bipush 8, 2) := by decide +kernel
theorem dX7_loads_53 : decode cX7_loads 53 = .ok (.invokevirtual 37, 3) := by decide +kernel
theorem dX7_loads_56 : decode cX7_loads 56 = .ok (.iconst 1, 1) := by decide +kernel
theorem dX7_loads_57 : decode cX7_loads 57 = .ok (.isub, 1) := by decide +kernel
theorem dX7_loads_58 : decode cX7_loads 58 = .ok (.ireturn, 1) := by decide +kernel
set_option maxRecDepth 20000 in
theorem ggX7_load_X7_whyNotLoad : GoodIn wsX7_load wsX7_whyNotLoad := goodIn_r _ [5, 6, 7, 8, 4, 9, 10, 11, 12, 13, 14, 15, 16, 17, 28, 29, 30, 31, 32, 33, 34] (by decide +kernel) (by decide +kernel)
set_option maxRecDepth 20000 in
theorem gX7_load_X7_whyNotLoad : GoodIn wsX7_load (wsV RX7 107 RX7 yX7_whyNotLoad wsX7_whyNotLoad) := goodIn_app (goodIn_of _ (by decide +kernel)) ggX7_load_X7_whyNotLoad
set_option maxRecDepth 20000 in
theorem ggX7_load_X7_remembers : GoodIn wsX7_load wsX7_remembers := goodIn_r _ [21, 22, 23, 14, 28, 29, 30, 31, 32, 33, 34] (by decide +kernel) (by decide +kernel)
set_option maxRecDepth 20000 in
theorem gX7_load_X7_remembers : GoodIn wsX7_load (wsV RX7 92 RX7 yX7_remembers wsX7_remembers) := goodIn_app (goodIn_of _ (by decide +kernel)) ggX7_load_X7_remembers
set_option maxRecDepth 20000 in
theorem ggX7_load_X7_loads : GoodIn wsX7_load wsX7_loads := goodIn_r _ [27, 14, 10, 11, 12, 4, 13, 28, 29, 30, 31, 32, 33, 34] (by decide +kernel) (by decide +kernel)
set_option maxRecDepth 20000 in
theorem gX7_load_X7_loads : GoodIn wsX7_load (wsV RX7 110 RX7 yX7_loads wsX7_loads) := goodIn_app (goodIn_of _ (by decide +kernel)) ggX7_load_X7_loads
theorem dX7_load_0 : decode cX7_load 0 = .ok (.aload_n 0, 1) := by decide +kernel
theorem dX7_load_1 : decode cX7_load 1 = .ok (.iload_n 1, 1) := by decide +kernel
theorem dX7_load_2 : decode cX7_load 2 = .ok (.iload_n 2, 1) := by decide +kernel
theorem dX7_load_3 : decode cX7_load 3 = .ok (.invokevirtual 107, 3) := by decide +kernel
theorem dX7_load_6 : decode cX7_load 6 = .ok (.istore_n 3, 1) := by decide +kernel
theorem dX7_load_7 : decode cX7_load 7 = .ok (.iload_n 3, 1) := by decide +kernel
theorem dX7_load_8 : decode cX7_load 8 = .ok (.ifCond .ge 5, 3) := by decide +kernel
theorem dX7_load_11 : decode cX7_load 11 = .ok (.iload_n 3, 1) := by decide +kernel
theorem dX7_load_12 : decode cX7_load 12 = .ok (.ireturn, 1) := by decide +kernel
theorem dX7_load_13 : decode cX7_load 13 = .ok (.aload_n 0, 1) := by decide +kernel
theorem dX7_load_14 : decode cX7_load 14 = .ok (.invokevirtual 92, 3) := by decide +kernel
theorem dX7_load_17 : decode cX7_load 17 = .ok (.aload_n 0, 1) := by decide +kernel
theorem dX7_load_18 : decode cX7_load 18 = .ok (.iload_n 1, 1) := by decide +kernel
theorem dX7_load_19 : decode cX7_load 19 = .ok (.iload_n 2, 1) := by decide +kernel
theorem dX7_load_20 : decode cX7_load 20 = .ok (.invokevirtual 110, 3) := by decide +kernel
theorem dX7_load_23 : decode cX7_load 23 = .ok (.ireturn, 1) := by decide +kernel
set_option maxRecDepth 20000 in
theorem ggX7_isLoad_X7_num : GoodIn wsX7_isLoad wsX7_num := goodIn_r _ [5, 6, 10, 11, 12, 13, 14, 15, 16] (by decide +kernel) (by decide +kernel)
set_option maxRecDepth 20000 in
theorem gX7_isLoad_X7_num : GoodIn wsX7_isLoad (wsV RX7 37 RX7 yX7_num wsX7_num) := goodIn_app (goodIn_of _ (by decide +kernel)) ggX7_isLoad_X7_num
set_option maxRecDepth 20000 in
theorem ggX7_isLoad_X7_in : GoodIn wsX7_isLoad wsX7_in := goodIn_r _ [9] (by decide +kernel) (by decide +kernel)
set_option maxRecDepth 20000 in
theorem gX7_isLoad_X7_in : GoodIn wsX7_isLoad (va_wsS RX7 41 yX7_in wsX7_in) := goodIn_app (goodIn_of _ (by decide +kernel)) ggX7_isLoad_X7_in
theorem dX7_isLoad_0 : decode cX7_isLoad 0 = .ok (.iload_n 1, 1) := by decide +kernel
theorem dX7_isLoad_1 : decode cX7_isLoad 1 = .ok (.iconst 0, 1) := by decide +kernel
theorem dX7_isLoad_2 : decode cX7_isLoad 2 = .ok (.aload_n 0, 1) := by decide +kernel
theorem dX7_isLoad_3 : decode cX7_isLoad 3 = .ok (.bipush 8, 2) := by decide +kernel
theorem dX7_isLoad_5 : decode cX7_isLoad 5 = .ok (.invokevirtual 37, 3) := by decide +kernel
theorem dX7_isLoad_8 : decode cX7_isLoad 8 = .ok (.iconst 1, 1) := by decide +kernel
theorem dX7_isLoad_9 : decode cX7_isLoad 9 = .ok (.isub, 1) := by decide +kernel
theorem dX7_isLoad_10 : decode cX7_isLoad 10 = .ok (.invokestatic 41, 3) := by decide +kernel
theorem dX7_isLoad_13 : decode cX7_isLoad 13 = .ok (.ireturn, 1) := by decide +kernel
set_option maxRecDepth 20000 in
theorem ggX7_turns_X7_num : GoodIn wsX7_turns wsX7_num := goodIn_r _ [6, 1, 7, 8, 9, 10, 11, 12, 13] (by decide +kernel) (by decide +kernel)
set_option maxRecDepth 20000 in
theorem gX7_turns_X7_num : GoodIn wsX7_turns (wsV RX7 37 RX7 yX7_num wsX7_num) := goodIn_app (goodIn_of _ (by decide +kernel)) ggX7_turns_X7_num
theorem dX7_turns_0 : decode cX7_turns 0 = .ok (.bipush 102, 2) := by decide +kernel
theorem dX7_turns_2 : decode cX7_turns 2 = .ok (.iconst 3, 1) := by decide +kernel
theorem dX7_turns_3 : decode cX7_turns 3 = .ok (.iload_n 1, 1) := by decide +kernel
theorem dX7_turns_4 : decode cX7_turns 4 = .ok (.imul, 1) := by decide +kernel
theorem dX7_turns_5 : decode cX7_turns 5 = .ok (.iadd, 1) := by decide +kernel
theorem dX7_turns_6 : decode cX7_turns 6 = .ok (.iconst 2, 1) := by decide +kernel
theorem dX7_turns_7 : decode cX7_turns 7 = .ok (.iadd, 1) := by decide +kernel
theorem dX7_turns_8 : decode cX7_turns 8 = .ok (.istore_n 2, 1) := by decide +kernel
theorem dX7_turns_9 : decode cX7_turns 9 = .ok (.aload_n 0, 1) := by decide +kernel
theorem dX7_turns_10 : decode cX7_turns 10 = .ok (.getfield 7, 3) := by decide +kernel
theorem dX7_turns_13 : decode cX7_turns 13 = .ok (.iload_n 2, 1) := by decide +kernel
theorem dX7_turns_14 : decode cX7_turns 14 = .ok (.lconst 1, 1) := by decide +kernel
theorem dX7_turns_15 : decode cX7_turns 15 = .ok (.aload_n 0, 1) := by decide +kernel
theorem dX7_turns_16 : decode cX7_turns 16 = .ok (.getfield 7, 3) := by decide +kernel
theorem dX7_turns_19 : decode cX7_turns 19 = .ok (.iload_n 2, 1) := by decide +kernel
theorem dX7_turns_20 : decode cX7_turns 20 = .ok (.laload, 1) := by decide +kernel
theorem dX7_turns_21 : decode cX7_turns 21 = .ok (.lsub, 1) := by decide +kernel
theorem dX7_turns_22 : decode cX7_turns 22 = .ok (.lastore, 1) := by decide +kernel
theorem dX7_turns_23 : decode cX7_turns 23 = .ok (.aload_n 0, 1) := by decide +kernel
theorem dX7_turns_24 : decode cX7_turns 24 = .ok (.iload_n 2, 1) := by decide +kernel
theorem dX7_turns_25 : decode cX7_turns 25 = .ok (.invokevirtual 37, 3) := by decide +kernel
theorem dX7_turns_28 : decode cX7_turns 28 = .ok (.ireturn, 1) := by decide +kernel
set_option maxRecDepth 20000 in
theorem ggX7_turn_X7_isLoad : GoodIn wsX7_turn wsX7_isLoad := goodIn_r _ [5, 6, 7, 8, 4, 9, 10, 11, 12, 13, 24, 25, 26, 27, 28, 29, 30] (by decide +kernel) (by decide +kernel)
set_option maxRecDepth 20000 in
theorem gX7_turn_X7_isLoad : GoodIn wsX7_turn (wsV RX7 113 RX7 yX7_isLoad wsX7_isLoad) := goodIn_app (goodIn_of _ (by decide +kernel)) ggX7_turn_X7_isLoad
set_option maxRecDepth 20000 in
theorem ggX7_turn_X7_remembers : GoodIn wsX7_turn wsX7_remembers := goodIn_r _ [17, 18, 19, 10, 24, 25, 26, 27, 28, 29, 30] (by decide +kernel) (by decide +kernel)
set_option maxRecDepth 20000 in
theorem gX7_turn_X7_remembers : GoodIn wsX7_turn (wsV RX7 92 RX7 yX7_remembers wsX7_remembers) := goodIn_app (goodIn_of _ (by decide +kernel)) ggX7_turn_X7_remembers
set_option maxRecDepth 20000 in
theorem ggX7_turn_X7_turns : GoodIn wsX7_turn wsX7_turns := goodIn_r _ [23, 10, 6, 7, 8, 4, 9, 24, 25, 26, 27, 28, 29, 30] (by decide +kernel) (by decide +kernel)
set_option maxRecDepth 20000 in
theorem gX7_turn_X7_turns : GoodIn wsX7_turn (wsV RX7 116 RX7 yX7_turns wsX7_turns) := goodIn_app (goodIn_of _ (by decide +kernel)) ggX7_turn_X7_turns
theorem dX7_turn_0 : decode cX7_turn 0 = .ok (.aload_n 0, 1) := by decide +kernel
theorem dX7_turn_1 : decode cX7_turn 1 = .ok (.iload_n 1, 1) := by decide +kernel
theorem dX7_turn_2 : decode cX7_turn 2 = .ok (.invokevirtual 113, 3) := by decide +kernel
theorem dX7_turn_5 : decode cX7_turn 5 = .ok (.ifCond .ne 5, 3) := by decide +kernel
theorem dX7_turn_8 : decode cX7_turn 8 = .ok (.iconst (-1), 1) := by decide +kernel
theorem dX7_turn_9 : decode cX7_turn 9 = .ok (.ireturn, 1) := by decide +kernel
theorem dX7_turn_10 : decode cX7_turn 10 = .ok (.aload_n 0, 1) := by decide +kernel
theorem dX7_turn_11 : decode cX7_turn 11 = .ok (.invokevirtual 92, 3) := by decide +kernel
theorem dX7_turn_14 : decode cX7_turn 14 = .ok (.aload_n 0, 1) := by decide +kernel
theorem dX7_turn_15 : decode cX7_turn 15 = .ok (.iload_n 1, 1) := by decide +kernel
theorem dX7_turn_16 : decode cX7_turn 16 = .ok (.invokevirtual 116, 3) := by decide +kernel
theorem dX7_turn_19 : decode cX7_turn 19 = .ok (.ireturn, 1) := by decide +kernel
set_option maxRecDepth 20000 in
theorem ggX7_whyNotTamper_X7_isMeter : GoodIn wsX7_whyNotTamper wsX7_isMeter := goodIn_r _ [5, 6, 7, 8, 4, 9, 10, 11, 12, 13, 21, 22, 23, 24, 25, 26, 27] (by decide +kernel) (by decide +kernel)
set_option maxRecDepth 20000 in
theorem gX7_whyNotTamper_X7_isMeter : GoodIn wsX7_whyNotTamper (wsV RX7 95 RX7 yX7_isMeter wsX7_isMeter) := goodIn_app (goodIn_of _ (by decide +kernel)) ggX7_whyNotTamper_X7_isMeter
set_option maxRecDepth 20000 in
theorem ggX7_whyNotTamper_X7_its : GoodIn wsX7_whyNotTamper wsX7_its := goodIn_r _ [17, 10, 18, 19, 4, 20, 21, 22, 23, 24, 25, 26, 27] (by decide +kernel) (by decide +kernel)
set_option maxRecDepth 20000 in
theorem gX7_whyNotTamper_X7_its : GoodIn wsX7_whyNotTamper (wsV RX7 53 RX7 yX7_its wsX7_its) := goodIn_app (goodIn_of _ (by decide +kernel)) ggX7_whyNotTamper_X7_its
theorem dX7_whyNotTamper_0 : decode cX7_whyNotTamper 0 = .ok (.aload_n 0, 1) := by decide +kernel
theorem dX7_whyNotTamper_1 : decode cX7_whyNotTamper 1 = .ok (.iload_n 1, 1) := by decide +kernel
theorem dX7_whyNotTamper_2 : decode cX7_whyNotTamper 2 = .ok (.invokevirtual 95, 3) := by decide +kernel
theorem dX7_whyNotTamper_5 : decode cX7_whyNotTamper 5 = .ok (.ifCond .ne 7, 3) := by decide +kernel
theorem dX7_whyNotTamper_8 : decode cX7_whyNotTamper 8 = .ok (.iconst (-1), 1) := by decide +kernel
theorem dX7_whyNotTamper_9 : decode cX7_whyNotTamper 9 = .ok (.goto 20, 3) := by decide +kernel
theorem dX7_whyNotTamper_12 : decode cX7_whyNotTamper 12 = .ok (.aload_n 0, 1) := by decide +kernel
theorem dX7_whyNotTamper_13 : decode cX7_whyNotTamper 13 = .ok (.iload_n 1, 1) := by decide +kernel
theorem dX7_whyNotTamper_14 : decode cX7_whyNotTamper 14 = .ok (.bipush 7, 2) := by decide +kernel
theorem dX7_whyNotTamper_16 : decode cX7_whyNotTamper 16 = .ok (.invokevirtual 53, 3) := by decide +kernel
theorem dX7_whyNotTamper_19 : decode cX7_whyNotTamper 19 = .ok (.iconst 1, 1) := by decide +kernel
theorem dX7_whyNotTamper_20 : decode cX7_whyNotTamper 20 = .ok (.if_icmp .ne 8, 3) := by decide +kernel
theorem dX7_whyNotTamper_23 : decode cX7_whyNotTamper 23 = .ok (.bipush (-5), 2) := by decide +kernel
theorem dX7_whyNotTamper_25 : decode cX7_whyNotTamper 25 = .ok (.goto 4, 3) := by decide +kernel
theorem dX7_whyNotTamper_28 : decode cX7_whyNotTamper 28 = .ok (.iconst 0, 1) := by decide +kernel
theorem dX7_whyNotTamper_29 : decode cX7_whyNotTamper 29 = .ok (.ireturn, 1) := by decide +kernel
set_option maxRecDepth 20000 in
theorem ggX7_tamper_X7_whyNotTamper : GoodIn wsX7_tamper wsX7_whyNotTamper := goodIn_r _ [6, 7, 8, 9, 5, 10, 11, 12, 13, 14, 1, 15, 16, 17, 18, 19, 20, 21, 22, 23, 24, 31, 32, 33, 34, 35, 36, 37] (by decide +kernel) (by decide +kernel)
set_option maxRecDepth 20000 in
theorem gX7_tamper_X7_whyNotTamper : GoodIn wsX7_tamper (wsV RX7 119 RX7 yX7_whyNotTamper wsX7_whyNotTamper) := goodIn_app (goodIn_of _ (by decide +kernel)) ggX7_tamper_X7_whyNotTamper
set_option maxRecDepth 20000 in
theorem ggX7_tamper_X7_remembers : GoodIn wsX7_tamper wsX7_remembers := goodIn_r _ [28, 29, 30, 1, 31, 32, 33, 34, 35, 36, 37] (by decide +kernel) (by decide +kernel)
set_option maxRecDepth 20000 in
theorem gX7_tamper_X7_remembers : GoodIn wsX7_tamper (wsV RX7 92 RX7 yX7_remembers wsX7_remembers) := goodIn_app (goodIn_of _ (by decide +kernel)) ggX7_tamper_X7_remembers
set_option maxRecDepth 20000 in
theorem ggX7_tamper_X7_at : GoodIn wsX7_tamper wsX7_at := goodIn_r _ [24] (by decide +kernel) (by decide +kernel)
set_option maxRecDepth 20000 in
theorem gX7_tamper_X7_at : GoodIn wsX7_tamper (va_wsS RX7 45 yX7_at wsX7_at) := goodIn_app (goodIn_of _ (by decide +kernel)) ggX7_tamper_X7_at
set_option maxRecDepth 20000 in
theorem ggX7_tamper_X7_its : GoodIn wsX7_tamper wsX7_its := goodIn_r _ [21, 1, 22, 23, 5, 24, 31, 32, 33, 34, 35, 36, 37] (by decide +kernel) (by decide +kernel)
set_option maxRecDepth 20000 in
theorem gX7_tamper_X7_its : GoodIn wsX7_tamper (wsV RX7 53 RX7 yX7_its wsX7_its) := goodIn_app (goodIn_of _ (by decide +kernel)) ggX7_tamper_X7_its
theorem dX7_tamper_0 : decode cX7_tamper 0 = .ok (.aload_n 0, 1) := by decide +kernel
theorem dX7_tamper_1 : decode cX7_tamper 1 = .ok (.iload_n 1, 1) := by decide +kernel
theorem dX7_tamper_2 : decode cX7_tamper 2 = .ok (.invokevirtual 119, 3) := by decide +kernel
theorem dX7_tamper_5 : decode cX7_tamper 5 = .ok (.istore_n 2, 1) := by decide +kernel
theorem dX7_tamper_6 : decode cX7_tamper 6 = .ok (.iload_n 2, 1) := by decide +kernel
theorem dX7_tamper_7 : decode cX7_tamper 7 = .ok (.ifCond .ge 5, 3) := by decide +kernel
theorem dX7_tamper_10 : decode cX7_tamper 10 = .ok (.iload_n 2, 1) := by decide +kernel
theorem dX7_tamper_11 : decode cX7_tamper 11 = .ok (.ireturn, 1) := by decide +kernel
theorem dX7_tamper_12 : decode cX7_tamper 12 = .ok (.aload_n 0, 1) := by decide +kernel
theorem dX7_tamper_13 : decode cX7_tamper 13 = .ok (.invokevirtual 92, 3) := by decide +kernel
theorem dX7_tamper_16 : decode cX7_tamper 16 = .ok (.aload_n 0, 1) := by decide +kernel
theorem dX7_tamper_17 : decode cX7_tamper 17 = .ok (.getfield 7, 3) := by decide +kernel
theorem dX7_tamper_20 : decode cX7_tamper 20 = .ok (.iconst 0, 1) := by decide +kernel
theorem dX7_tamper_21 : decode cX7_tamper 21 = .ok (.iload_n 1, 1) := by decide +kernel
theorem dX7_tamper_22 : decode cX7_tamper 22 = .ok (.invokestatic 45, 3) := by decide +kernel
theorem dX7_tamper_25 : decode cX7_tamper 25 = .ok (.bipush 7, 2) := by decide +kernel
theorem dX7_tamper_27 : decode cX7_tamper 27 = .ok (.iadd, 1) := by decide +kernel
theorem dX7_tamper_28 : decode cX7_tamper 28 = .ok (.lconst 1, 1) := by decide +kernel
theorem dX7_tamper_29 : decode cX7_tamper 29 = .ok (.lastore, 1) := by decide +kernel
theorem dX7_tamper_30 : decode cX7_tamper 30 = .ok (.aload_n 0, 1) := by decide +kernel
theorem dX7_tamper_31 : decode cX7_tamper 31 = .ok (.iload_n 1, 1) := by decide +kernel
theorem dX7_tamper_32 : decode cX7_tamper 32 = .ok (.bipush 6, 2) := by decide +kernel
theorem dX7_tamper_34 : decode cX7_tamper 34 = .ok (.invokevirtual 53, 3) := by decide +kernel
theorem dX7_tamper_37 : decode cX7_tamper 37 = .ok (.ireturn, 1) := by decide +kernel
set_option maxRecDepth 20000 in
theorem ggX7_billOf_X7_at : GoodIn wsX7_billOf wsX7_at := goodIn_r _ [5] (by decide +kernel) (by decide +kernel)
set_option maxRecDepth 20000 in
theorem gX7_billOf_X7_at : GoodIn wsX7_billOf (va_wsS RX7 45 yX7_at wsX7_at) := goodIn_app (goodIn_of _ (by decide +kernel)) ggX7_billOf_X7_at
theorem dX7_billOf_0 : decode cX7_billOf 0 = .ok (.iconst 0, 1) := by decide +kernel
theorem dX7_billOf_1 : decode cX7_billOf 1 = .ok (.iload_n 1, 1) := by decide +kernel
theorem dX7_billOf_2 : decode cX7_billOf 2 = .ok (.invokestatic 45, 3) := by decide +kernel
theorem dX7_billOf_5 : decode cX7_billOf 5 = .ok (.istore_n 2, 1) := by decide +kernel
theorem dX7_billOf_6 : decode cX7_billOf 6 = .ok (.aload_n 0, 1) := by decide +kernel
theorem dX7_billOf_7 : decode cX7_billOf 7 = .ok (.getfield 7, 3) := by decide +kernel
theorem dX7_billOf_10 : decode cX7_billOf 10 = .ok (.iconst 4, 1) := by decide +kernel
theorem dX7_billOf_11 : decode cX7_billOf 11 = .ok (.laload, 1) := by decide +kernel
theorem dX7_billOf_12 : decode cX7_billOf 12 = .ok (.aload_n 0, 1) := by decide +kernel
theorem dX7_billOf_13 : decode cX7_billOf 13 = .ok (.getfield 7, 3) := by decide +kernel
theorem dX7_billOf_16 : decode cX7_billOf 16 = .ok (.iload_n 2, 1) := by decide +kernel
theorem dX7_billOf_17 : decode cX7_billOf 17 = .ok (.iconst 3, 1) := by decide +kernel
theorem dX7_billOf_18 : decode cX7_billOf 18 = .ok (.iadd, 1) := by decide +kernel
theorem dX7_billOf_19 : decode cX7_billOf 19 = .ok (.laload, 1) := by decide +kernel
theorem dX7_billOf_20 : decode cX7_billOf 20 = .ok (.aload_n 0, 1) := by decide +kernel
theorem dX7_billOf_21 : decode cX7_billOf 21 = .ok (.getfield 7, 3) := by decide +kernel
theorem dX7_billOf_24 : decode cX7_billOf 24 = .ok (.iload_n 2, 1) := by decide +kernel
theorem dX7_billOf_25 : decode cX7_billOf 25 = .ok (.bipush 11, 2) := by decide +kernel
theorem dX7_billOf_27 : decode cX7_billOf 27 = .ok (.iadd, 1) := by decide +kernel
theorem dX7_billOf_28 : decode cX7_billOf 28 = .ok (.laload, 1) := by decide +kernel
theorem dX7_billOf_29 : decode cX7_billOf 29 = .ok (.lsub, 1) := by decide +kernel
theorem dX7_billOf_30 : decode cX7_billOf 30 = .ok (.lmul, 1) := by decide +kernel
theorem dX7_billOf_31 : decode cX7_billOf 31 = .ok (.aload_n 0, 1) := by decide +kernel
theorem dX7_billOf_32 : decode cX7_billOf 32 = .ok (.getfield 7, 3) := by decide +kernel
theorem dX7_billOf_35 : decode cX7_billOf 35 = .ok (.iconst 5, 1) := by decide +kernel
theorem dX7_billOf_36 : decode cX7_billOf 36 = .ok (.laload, 1) := by decide +kernel
theorem dX7_billOf_37 : decode cX7_billOf 37 = .ok (.aload_n 0, 1) := by decide +kernel
theorem dX7_billOf_38 : decode cX7_billOf 38 = .ok (.getfield 7, 3) := by decide +kernel
theorem dX7_billOf_41 : decode cX7_billOf 41 = .ok (.iload_n 2, 1) := by decide +kernel
theorem dX7_billOf_42 : decode cX7_billOf 42 = .ok (.iconst 4, 1) := by decide +kernel
theorem dX7_billOf_43 : decode cX7_billOf 43 = .ok (.iadd, 1) := by decide +kernel
theorem dX7_billOf_44 : decode cX7_billOf 44 = .ok (.laload, 1) := by decide +kernel
theorem dX7_billOf_45 : decode cX7_billOf 45 = .ok (.aload_n 0, 1) := by decide +kernel
theorem dX7_billOf_46 : decode cX7_billOf 46 = .ok (.getfield 7, 3) := by decide +kernel
theorem dX7_billOf_49 : decode cX7_billOf 49 = .ok (.iload_n 2, 1) := by decide +kernel
theorem dX7_billOf_50 : decode cX7_billOf 50 = .ok (.bipush 12, 2) := by decide +kernel
theorem dX7_billOf_52 : decode cX7_billOf 52 = .ok (.iadd, 1) := by decide +kernel
theorem dX7_billOf_53 : decode cX7_billOf 53 = .ok (.laload, 1) := by decide +kernel
theorem dX7_billOf_54 : decode cX7_billOf 54 = .ok (.lsub, 1) := by decide +kernel
theorem dX7_billOf_55 : decode cX7_billOf 55 = .ok (.lmul, 1) := by decide +kernel
theorem dX7_billOf_56 : decode cX7_billOf 56 = .ok (.ladd, 1) := by decide +kernel
theorem dX7_billOf_57 : decode cX7_billOf 57 = .ok (.l2i, 1) := by decide +kernel
theorem dX7_billOf_58 : decode cX7_billOf 58 = .ok (.ireturn, 1) := by decide +kernel
set_option maxRecDepth 20000 in
theorem ggX7_visits_X7_at : GoodIn wsX7_visits wsX7_at := goodIn_r _ [6] (by decide +kernel) (by decide +kernel)
set_option maxRecDepth 20000 in
theorem gX7_visits_X7_at : GoodIn wsX7_visits (va_wsS RX7 45 yX7_at wsX7_at) := goodIn_app (goodIn_of _ (by decide +kernel)) ggX7_visits_X7_at
set_option maxRecDepth 20000 in
theorem ggX7_visits_X7_billOf : GoodIn wsX7_visits wsX7_billOf := goodIn_r _ [10, 1, 3, 4, 5, 6, 11, 12, 13, 14, 15, 16, 17] (by decide +kernel) (by decide +kernel)
set_option maxRecDepth 20000 in
theorem gX7_visits_X7_billOf : GoodIn wsX7_visits (wsV RX7 122 RX7 yX7_billOf wsX7_billOf) := goodIn_app (goodIn_of _ (by decide +kernel)) ggX7_visits_X7_billOf
theorem dX7_visits_0 : decode cX7_visits 0 = .ok (.iconst 0, 1) := by decide +kernel
theorem dX7_visits_1 : decode cX7_visits 1 = .ok (.iload_n 1, 1) := by decide +kernel
theorem dX7_visits_2 : decode cX7_visits 2 = .ok (.invokestatic 45, 3) := by decide +kernel
theorem dX7_visits_5 : decode cX7_visits 5 = .ok (.istore_n 2, 1) := by decide +kernel
theorem dX7_visits_6 : decode cX7_visits 6 = .ok (.aload_n 0, 1) := by decide +kernel
theorem dX7_visits_7 : decode cX7_visits 7 = .ok (.iload_n 1, 1) := by decide +kernel
theorem dX7_visits_8 : decode cX7_visits 8 = .ok (.invokevirtual 122, 3) := by decide +kernel
theorem dX7_visits_11 : decode cX7_visits 11 = .ok (.istore_n 3, 1) := by decide +kernel
theorem dX7_visits_12 : decode cX7_visits 12 = .ok (.aload_n 0, 1) := by decide +kernel
theorem dX7_visits_13 : decode cX7_visits 13 = .ok (.getfield 7, 3) := by decide +kernel
theorem dX7_visits_16 : decode cX7_visits 16 = .ok (.iload_n 2, 1) := by decide +kernel
theorem dX7_visits_17 : decode cX7_visits 17 = .ok (.bipush 11, 2) := by decide +kernel
theorem dX7_visits_19 : decode cX7_visits 19 = .ok (.iadd, 1) := by decide +kernel
theorem dX7_visits_20 : decode cX7_visits 20 = .ok (.aload_n 0, 1) := by decide +kernel
theorem dX7_visits_21 : decode cX7_visits 21 = .ok (.getfield 7, 3) := by decide +kernel
theorem dX7_visits_24 : decode cX7_visits 24 = .ok (.iload_n 2, 1) := by decide +kernel
theorem dX7_visits_25 : decode cX7_visits 25 = .ok (.iconst 3, 1) := by decide +kernel
theorem dX7_visits_26 : decode cX7_visits 26 = .ok (.iadd, 1) := by decide +kernel
theorem dX7_visits_27 : decode cX7_visits 27 = .ok (.laload, 1) := by decide +kernel
theorem dX7_visits_28 : decode cX7_visits 28 = .ok (.lastore, 1) := by decide +kernel
theorem dX7_visits_29 : decode cX7_visits 29 = .ok (.aload_n 0, 1) := by decide +kernel
theorem dX7_visits_30 : decode cX7_visits 30 = .ok (.getfield 7, 3) := by decide +kernel
theorem dX7_visits_33 : decode cX7_visits 33 = .ok (.iload_n 2, 1) := by decide +kernel
theorem dX7_visits_34 : decode cX7_visits 34 = .ok (.bipush 12, 2) := by decide +kernel
theorem dX7_visits_36 : decode cX7_visits 36 = .ok (.iadd, 1) := by decide +kernel
theorem dX7_visits_37 : decode cX7_visits 37 = .ok (.aload_n 0, 1) := by decide +kernel
theorem dX7_visits_38 : decode cX7_visits 38 = .ok (.getfield 7, 3) := by decide +kernel
theorem dX7_visits_41 : decode cX7_visits 41 = .ok (.iload_n 2, 1) := by decide +kernel
theorem dX7_visits_42 : decode cX7_visits 42 = .ok (.iconst 4, 1) := by decide +kernel
theorem dX7_visits_43 : decode cX7_visits 43 = .ok (.iadd, 1) := by decide +kernel
theorem dX7_visits_44 : decode cX7_visits 44 = .ok (.laload, 1) := by decide +kernel
theorem dX7_visits_45 : decode cX7_visits 45 = .ok (.lastore, 1) := by decide +kernel
theorem dX7_visits_46 : decode cX7_visits 46 = .ok (.aload_n 0, 1) := by decide +kernel
theorem dX7_visits_47 : decode cX7_visits 47 = .ok (.getfield 7, 3) := by decide +kernel
theorem dX7_visits_50 : decode cX7_visits 50 = .ok (.iload_n 2, 1) := by decide +kernel
theorem dX7_visits_51 : decode cX7_visits 51 = .ok (.bipush 8, 2) := by decide +kernel
theorem dX7_visits_53 : decode cX7_visits 53 = .ok (.iadd, 1) := by decide +kernel
theorem dX7_visits_54 : decode cX7_visits 54 = .ok (.dup2, 1) := by decide +kernel
theorem dX7_visits_55 : decode cX7_visits 55 = .ok (.laload, 1) := by decide +kernel
theorem dX7_visits_56 : decode cX7_visits 56 = .ok (.iload_n 3, 1) := by decide +kernel
theorem dX7_visits_57 : decode cX7_visits 57 = .ok (.i2l, 1) := by decide +kernel
theorem dX7_visits_58 : decode cX7_visits 58 = .ok (.ladd, 1) := by decide +kernel
theorem dX7_visits_59 : decode cX7_visits 59 = .ok (.lastore, 1) := by decide +kernel
theorem dX7_visits_60 : decode cX7_visits 60 = .ok (.aload_n 0, 1) := by decide +kernel
theorem dX7_visits_61 : decode cX7_visits 61 = .ok (.getfield 7, 3) := by decide +kernel
theorem dX7_visits_64 : decode cX7_visits 64 = .ok (.bipush 9, 2) := by decide +kernel
theorem dX7_visits_66 : decode cX7_visits 66 = .ok (.dup2, 1) := by decide +kernel
theorem dX7_visits_67 : decode cX7_visits 67 = .ok (.laload, 1) := by decide +kernel
theorem dX7_visits_68 : decode cX7_visits 68 = .ok (.iload_n 3, 1) := by decide +kernel
theorem dX7_visits_69 : decode cX7_visits 69 = .ok (.i2l, 1) := by decide +kernel
theorem dX7_visits_70 : decode cX7_visits 70 = .ok (.ladd, 1) := by decide +kernel
theorem dX7_visits_71 : decode cX7_visits 71 = .ok (.lastore, 1) := by decide +kernel
theorem dX7_visits_72 : decode cX7_visits 72 = .ok (.aload_n 0, 1) := by decide +kernel
theorem dX7_visits_73 : decode cX7_visits 73 = .ok (.getfield 7, 3) := by decide +kernel
theorem dX7_visits_76 : decode cX7_visits 76 = .ok (.iload_n 2, 1) := by decide +kernel
theorem dX7_visits_77 : decode cX7_visits 77 = .ok (.iconst 2, 1) := by decide +kernel
theorem dX7_visits_78 : decode cX7_visits 78 = .ok (.iadd, 1) := by decide +kernel
theorem dX7_visits_79 : decode cX7_visits 79 = .ok (.ldc2_w 66, 3) := by decide +kernel
theorem dX7_visits_82 : decode cX7_visits 82 = .ok (.lastore, 1) := by decide +kernel
theorem dX7_visits_83 : decode cX7_visits 83 = .ok (.aload_n 0, 1) := by decide +kernel
theorem dX7_visits_84 : decode cX7_visits 84 = .ok (.getfield 7, 3) := by decide +kernel
theorem dX7_visits_87 : decode cX7_visits 87 = .ok (.iload_n 2, 1) := by decide +kernel
theorem dX7_visits_88 : decode cX7_visits 88 = .ok (.bipush 9, 2) := by decide +kernel
theorem dX7_visits_90 : decode cX7_visits 90 = .ok (.iadd, 1) := by decide +kernel
theorem dX7_visits_91 : decode cX7_visits 91 = .ok (.lconst 0, 1) := by decide +kernel
theorem dX7_visits_92 : decode cX7_visits 92 = .ok (.lastore, 1) := by decide +kernel
theorem dX7_visits_93 : decode cX7_visits 93 = .ok (.aload_n 0, 1) := by decide +kernel
theorem dX7_visits_94 : decode cX7_visits 94 = .ok (.getfield 7, 3) := by decide +kernel
theorem dX7_visits_97 : decode cX7_visits 97 = .ok (.iload_n 2, 1) := by decide +kernel
theorem dX7_visits_98 : decode cX7_visits 98 = .ok (.bipush 10, 2) := by decide +kernel
theorem dX7_visits_100 : decode cX7_visits 100 = .ok (.iadd, 1) := by decide +kernel
theorem dX7_visits_101 : decode cX7_visits 101 = .ok (.dup2, 1) := by decide +kernel
theorem dX7_visits_102 : decode cX7_visits 102 = .ok (.laload, 1) := by decide +kernel
theorem dX7_visits_103 : decode cX7_visits 103 = .ok (.lconst 1, 1) := by decide +kernel
theorem dX7_visits_104 : decode cX7_visits 104 = .ok (.ladd, 1) := by decide +kernel
theorem dX7_visits_105 : decode cX7_visits 105 = .ok (.lastore, 1) := by decide +kernel
theorem dX7_visits_106 : decode cX7_visits 106 = .ok (.aload_n 0, 1) := by decide +kernel
theorem dX7_visits_107 : decode cX7_visits 107 = .ok (.getfield 7, 3) := by decide +kernel
theorem dX7_visits_110 : decode cX7_visits 110 = .ok (.iload_n 2, 1) := by decide +kernel
theorem dX7_visits_111 : decode cX7_visits 111 = .ok (.bipush 7, 2) := by decide +kernel
theorem dX7_visits_113 : decode cX7_visits 113 = .ok (.iadd, 1) := by decide +kernel
theorem dX7_visits_114 : decode cX7_visits 114 = .ok (.laload, 1) := by decide +kernel
theorem dX7_visits_115 : decode cX7_visits 115 = .ok (.lconst 1, 1) := by decide +kernel
theorem dX7_visits_116 : decode cX7_visits 116 = .ok (.lcmp, 1) := by decide +kernel
theorem dX7_visits_117 : decode cX7_visits 117 = .ok (.ifCond .ne 40, 3) := by decide +kernel
theorem dX7_visits_120 : decode cX7_visits 120 = .ok (.aload_n 0, 1) := by decide +kernel
theorem dX7_visits_121 : decode cX7_visits 121 = .ok (.getfield 7, 3) := by decide +kernel
theorem dX7_visits_124 : decode cX7_visits 124 = .ok (.bipush 10, 2) := by decide +kernel
theorem dX7_visits_126 : decode cX7_visits 126 = .ok (.dup2, 1) := by decide +kernel
theorem dX7_visits_127 : decode cX7_visits 127 = .ok (.laload, 1) := by decide +kernel
theorem dX7_visits_128 : decode cX7_visits 128 = .ok (.lconst 1, 1) := by decide +kernel
theorem dX7_visits_129 : decode cX7_visits 129 = .ok (.ladd, 1) := by decide +kernel
theorem dX7_visits_130 : decode cX7_visits 130 = .ok (.lastore, 1) := by decide +kernel
theorem dX7_visits_131 : decode cX7_visits 131 = .ok (.aload_n 0, 1) := by decide +kernel
theorem dX7_visits_132 : decode cX7_visits 132 = .ok (.getfield 7, 3) := by decide +kernel
theorem dX7_visits_135 : decode cX7_visits 135 = .ok (.iload_n 2, 1) := by decide +kernel
theorem dX7_visits_136 : decode cX7_visits 136 = .ok (.bipush 6, 2) := by decide +kernel
theorem dX7_visits_138 : decode cX7_visits 138 = .ok (.iadd, 1) := by decide +kernel
theorem dX7_visits_139 : decode cX7_visits 139 = .ok (.aload_n 0, 1) := by decide +kernel
theorem dX7_visits_140 : decode cX7_visits 140 = .ok (.getfield 7, 3) := by decide +kernel
theorem dX7_visits_143 : decode cX7_visits 143 = .ok (.bipush 10, 2) := by decide +kernel
theorem dX7_visits_145 : decode cX7_visits 145 = .ok (.laload, 1) := by decide +kernel
theorem dX7_visits_146 : decode cX7_visits 146 = .ok (.lastore, 1) := by decide +kernel
theorem dX7_visits_147 : decode cX7_visits 147 = .ok (.aload_n 0, 1) := by decide +kernel
theorem dX7_visits_148 : decode cX7_visits 148 = .ok (.getfield 7, 3) := by decide +kernel
theorem dX7_visits_151 : decode cX7_visits 151 = .ok (.iload_n 2, 1) := by decide +kernel
theorem dX7_visits_152 : decode cX7_visits 152 = .ok (.bipush 7, 2) := by decide +kernel
theorem dX7_visits_154 : decode cX7_visits 154 = .ok (.iadd, 1) := by decide +kernel
theorem dX7_visits_155 : decode cX7_visits 155 = .ok (.lconst 0, 1) := by decide +kernel
theorem dX7_visits_156 : decode cX7_visits 156 = .ok (.lastore, 1) := by decide +kernel
theorem dX7_visits_157 : decode cX7_visits 157 = .ok (.iload_n 3, 1) := by decide +kernel
theorem dX7_visits_158 : decode cX7_visits 158 = .ok (.ireturn, 1) := by decide +kernel
set_option maxRecDepth 20000 in
theorem ggX7_visit_X7_isMeter : GoodIn wsX7_visit wsX7_isMeter := goodIn_r _ [5, 6, 7, 8, 4, 9, 10, 11, 12, 13, 32, 33, 34, 35, 36, 37, 38] (by decide +kernel) (by decide +kernel)
set_option maxRecDepth 20000 in
theorem gX7_visit_X7_isMeter : GoodIn wsX7_visit (wsV RX7 95 RX7 yX7_isMeter wsX7_isMeter) := goodIn_app (goodIn_of _ (by decide +kernel)) ggX7_visit_X7_isMeter
set_option maxRecDepth 20000 in
theorem ggX7_visit_X7_remembers : GoodIn wsX7_visit wsX7_remembers := goodIn_r _ [17, 18, 19, 10, 32, 33, 34, 35, 36, 37, 38] (by decide +kernel) (by decide +kernel)
set_option maxRecDepth 20000 in
theorem gX7_visit_X7_remembers : GoodIn wsX7_visit (wsV RX7 92 RX7 yX7_remembers wsX7_remembers) := goodIn_app (goodIn_of _ (by decide +kernel)) ggX7_visit_X7_remembers
set_option maxRecDepth 20000 in
theorem ggX7_visit_X7_visits : GoodIn wsX7_visit wsX7_visits := goodIn_r _ [23, 10, 24, 25, 26, 4, 27, 28, 29, 30, 31, 32, 33, 34, 35, 36, 37, 38] (by decide +kernel) (by decide +kernel)
set_option maxRecDepth 20000 in
theorem gX7_visit_X7_visits : GoodIn wsX7_visit (wsV RX7 125 RX7 yX7_visits wsX7_visits) := goodIn_app (goodIn_of _ (by decide +kernel)) ggX7_visit_X7_visits
theorem dX7_visit_0 : decode cX7_visit 0 = .ok (.aload_n 0, 1) := by decide +kernel
theorem dX7_visit_1 : decode cX7_visit 1 = .ok (.iload_n 1, 1) := by decide +kernel
theorem dX7_visit_2 : decode cX7_visit 2 = .ok (.invokevirtual 95, 3) := by decide +kernel
theorem dX7_visit_5 : decode cX7_visit 5 = .ok (.ifCond .ne 5, 3) := by decide +kernel
theorem dX7_visit_8 : decode cX7_visit 8 = .ok (.iconst (-1), 1) := by decide +kernel
theorem dX7_visit_9 : decode cX7_visit 9 = .ok (.ireturn, 1) := by decide +kernel
theorem dX7_visit_10 : decode cX7_visit 10 = .ok (.aload_n 0, 1) := by decide +kernel
theorem dX7_visit_11 : decode cX7_visit 11 = .ok (.invokevirtual 92, 3) := by decide +kernel
theorem dX7_visit_14 : decode cX7_visit 14 = .ok (.aload_n 0, 1) := by decide +kernel
theorem dX7_visit_15 : decode cX7_visit 15 = .ok (.iload_n 1, 1) := by decide +kernel
theorem dX7_visit_16 : decode cX7_visit 16 = .ok (.invokevirtual 125, 3) := by decide +kernel
theorem dX7_visit_19 : decode cX7_visit 19 = .ok (.ireturn, 1) := by decide +kernel
set_option maxRecDepth 20000 in
theorem ggX7_whyNotPass_X7_in : GoodIn wsX7_whyNotPass wsX7_in := goodIn_r _ [5] (by decide +kernel) (by decide +kernel)
set_option maxRecDepth 20000 in
theorem gX7_whyNotPass_X7_in : GoodIn wsX7_whyNotPass (va_wsS RX7 41 yX7_in wsX7_in) := goodIn_app (goodIn_of _ (by decide +kernel)) ggX7_whyNotPass_X7_in
set_option maxRecDepth 20000 in
theorem ggX7_whyNotPass_X7_num : GoodIn wsX7_whyNotPass wsX7_num := goodIn_r _ [9, 10, 11, 12, 13, 14, 15, 16, 17] (by decide +kernel) (by decide +kernel)
set_option maxRecDepth 20000 in
theorem gX7_whyNotPass_X7_num : GoodIn wsX7_whyNotPass (wsV RX7 37 RX7 yX7_num wsX7_num) := goodIn_app (goodIn_of _ (by decide +kernel)) ggX7_whyNotPass_X7_num
theorem dX7_whyNotPass_0 : decode cX7_whyNotPass 0 = .ok (.iload_n 1, 1) := by decide +kernel
theorem dX7_whyNotPass_1 : decode cX7_whyNotPass 1 = .ok (.iconst 1, 1) := by decide +kernel
theorem dX7_whyNotPass_2 : decode cX7_whyNotPass 2 = .ok (.sipush 1440, 3) := by decide +kernel
theorem dX7_whyNotPass_5 : decode cX7_whyNotPass 5 = .ok (.invokestatic 41, 3) := by decide +kernel
theorem dX7_whyNotPass_8 : decode cX7_whyNotPass 8 = .ok (.ifCond .ne 8, 3) := by decide +kernel
theorem dX7_whyNotPass_11 : decode cX7_whyNotPass 11 = .ok (.bipush (-2), 2) := by decide +kernel
theorem dX7_whyNotPass_13 : decode cX7_whyNotPass 13 = .ok (.goto 22, 3) := by decide +kernel
theorem dX7_whyNotPass_16 : decode cX7_whyNotPass 16 = .ok (.aload_n 0, 1) := by decide +kernel
theorem dX7_whyNotPass_17 : decode cX7_whyNotPass 17 = .ok (.bipush 6, 2) := by decide +kernel
theorem dX7_whyNotPass_19 : decode cX7_whyNotPass 19 = .ok (.invokevirtual 37, 3) := by decide +kernel
theorem dX7_whyNotPass_22 : decode cX7_whyNotPass 22 = .ok (.iload_n 1, 1) := by decide +kernel
theorem dX7_whyNotPass_23 : decode cX7_whyNotPass 23 = .ok (.iadd, 1) := by decide +kernel
theorem dX7_whyNotPass_24 : decode cX7_whyNotPass 24 = .ok (.ldc 128, 2) := by decide +kernel
theorem dX7_whyNotPass_26 : decode cX7_whyNotPass 26 = .ok (.if_icmp .le 8, 3) := by decide +kernel
theorem dX7_whyNotPass_29 : decode cX7_whyNotPass 29 = .ok (.bipush (-5), 2) := by decide +kernel
theorem dX7_whyNotPass_31 : decode cX7_whyNotPass 31 = .ok (.goto 4, 3) := by decide +kernel
theorem dX7_whyNotPass_34 : decode cX7_whyNotPass 34 = .ok (.iconst 0, 1) := by decide +kernel
theorem dX7_whyNotPass_35 : decode cX7_whyNotPass 35 = .ok (.ireturn, 1) := by decide +kernel
set_option maxRecDepth 20000 in
theorem ggX7_pass_X7_whyNotPass : GoodIn wsX7_pass wsX7_whyNotPass := goodIn_r _ [5, 6, 7, 8, 4, 9, 10, 11, 12, 13, 14, 58, 59, 60, 61, 62, 63, 64] (by decide +kernel) (by decide +kernel)
set_option maxRecDepth 20000 in
theorem gX7_pass_X7_whyNotPass : GoodIn wsX7_pass (wsV RX7 129 RX7 yX7_whyNotPass wsX7_whyNotPass) := goodIn_app (goodIn_of _ (by decide +kernel)) ggX7_pass_X7_whyNotPass
set_option maxRecDepth 20000 in
theorem ggX7_pass_X7_remembers : GoodIn wsX7_pass wsX7_remembers := goodIn_r _ [18, 19, 20, 14, 58, 59, 60, 61, 62, 63, 64] (by decide +kernel) (by decide +kernel)
set_option maxRecDepth 20000 in
theorem gX7_pass_X7_remembers : GoodIn wsX7_pass (wsV RX7 92 RX7 yX7_remembers wsX7_remembers) := goodIn_app (goodIn_of _ (by decide +kernel)) ggX7_pass_X7_remembers
set_option maxRecDepth 20000 in
theorem ggX7_pass_X7_passes : GoodIn wsX7_pass wsX7_passes := goodIn_r _ [24, 14, 10, 11, 12, 4, 13, 25, 26, 27, 28, 29, 30, 31, 32, 33, 34, 35, 36, 37, 38, 39, 40, 41, 42, 43, 44, 45, 46, 47, 48, 49, 50, 51, 52, 53, 54, 55, 56, 57, 58, 59, 60, 61, 62, 63, 64] (by decide +kernel) (by decide +kernel)
set_option maxRecDepth 20000 in
theorem gX7_pass_X7_passes : GoodIn wsX7_pass (wsV RX7 132 RX7 yX7_passes wsX7_passes) := goodIn_app (goodIn_of _ (by decide +kernel)) ggX7_pass_X7_passes
theorem dX7_pass_0 : decode cX7_pass 0 = .ok (.aload_n 0, 1) := by decide +kernel
theorem dX7_pass_1 : decode cX7_pass 1 = .ok (.iload_n 1, 1) := by decide +kernel
theorem dX7_pass_2 : decode cX7_pass 2 = .ok (.invokevirtual 129, 3) := by decide +kernel
theorem dX7_pass_5 : decode cX7_pass 5 = .ok (.istore_n 2, 1) := by decide +kernel
theorem dX7_pass_6 : decode cX7_pass 6 = .ok (.iload_n 2, 1) := by decide +kernel
theorem dX7_pass_7 : decode cX7_pass 7 = .ok (.ifCond .ge 5, 3) := by decide +kernel
theorem dX7_pass_10 : decode cX7_pass 10 = .ok (.iload_n 2, 1) := by decide +kernel
theorem dX7_pass_11 : decode cX7_pass 11 = .ok (.ireturn, 1) := by decide +kernel
theorem dX7_pass_12 : decode cX7_pass 12 = .ok (.aload_n 0, 1) := by decide +kernel
theorem dX7_pass_13 : decode cX7_pass 13 = .ok (.invokevirtual 92, 3) := by decide +kernel
theorem dX7_pass_16 : decode cX7_pass 16 = .ok (.aload_n 0, 1) := by decide +kernel
theorem dX7_pass_17 : decode cX7_pass 17 = .ok (.iconst 0, 1) := by decide +kernel
theorem dX7_pass_18 : decode cX7_pass 18 = .ok (.iload_n 1, 1) := by decide +kernel
theorem dX7_pass_19 : decode cX7_pass 19 = .ok (.invokevirtual 132, 3) := by decide +kernel
theorem dX7_pass_22 : decode cX7_pass 22 = .ok (.ireturn, 1) := by decide +kernel
theorem dX7_types_0 : decode cX7_types 0 = .ok (.aload_n 0, 1) := by decide +kernel
theorem dX7_types_1 : decode cX7_types 1 = .ok (.getfield 23, 3) := by decide +kernel
theorem dX7_types_4 : decode cX7_types 4 = .ok (.aload_n 0, 1) := by decide +kernel
theorem dX7_types_5 : decode cX7_types 5 = .ok (.getfield 135, 3) := by decide +kernel
theorem dX7_types_8 : decode cX7_types 8 = .ok (.iload_n 1, 1) := by decide +kernel
theorem dX7_types_9 : decode cX7_types 9 = .ok (.iastore, 1) := by decide +kernel
theorem dX7_types_10 : decode cX7_types 10 = .ok (.aload_n 0, 1) := by decide +kernel
theorem dX7_types_11 : decode cX7_types 11 = .ok (.dup, 1) := by decide +kernel
theorem dX7_types_12 : decode cX7_types 12 = .ok (.getfield 135, 3) := by decide +kernel
theorem dX7_types_15 : decode cX7_types 15 = .ok (.iconst 1, 1) := by decide +kernel
theorem dX7_types_16 : decode cX7_types 16 = .ok (.iadd, 1) := by decide +kernel
theorem dX7_types_17 : decode cX7_types 17 = .ok (.putfield 135, 3) := by decide +kernel
theorem dX7_types_20 : decode cX7_types 20 = .ok (.return_, 1) := by decide +kernel
set_option maxRecDepth 20000 in
theorem ggX7_typesNumber_X7_types : GoodIn wsX7_typesNumber wsX7_types := goodIn_r _ [5, 6, 7, 8, 9, 10, 11, 12, 13, 14] (by decide +kernel) (by decide +kernel)
set_option maxRecDepth 20000 in
theorem gX7_typesNumber_X7_types : GoodIn wsX7_typesNumber (wsV RX7 138 RX7 yX7_types wsX7_types) := goodIn_app (goodIn_of _ (by decide +kernel)) ggX7_typesNumber_X7_types
theorem dX7_typesNumber_0 : decode cX7_typesNumber 0 = .ok (.iconst 1, 1) := by decide +kernel
theorem dX7_typesNumber_1 : decode cX7_typesNumber 1 = .ok (.istore_n 2, 1) := by decide +kernel
theorem dX7_typesNumber_2 : decode cX7_typesNumber 2 = .ok (.iload_n 1, 1) := by decide +kernel
theorem dX7_typesNumber_3 : decode cX7_typesNumber 3 = .ok (.iload_n 2, 1) := by decide +kernel
theorem dX7_typesNumber_4 : decode cX7_typesNumber 4 = .ok (.idiv, 1) := by decide +kernel
theorem dX7_typesNumber_5 : decode cX7_typesNumber 5 = .ok (.bipush 9, 2) := by decide +kernel
theorem dX7_typesNumber_7 : decode cX7_typesNumber 7 = .ok (.if_icmp .le 11, 3) := by decide +kernel
theorem dX7_typesNumber_10 : decode cX7_typesNumber 10 = .ok (.iload_n 2, 1) := by decide +kernel
theorem dX7_typesNumber_11 : decode cX7_typesNumber 11 = .ok (.bipush 10, 2) := by decide +kernel
theorem dX7_typesNumber_13 : decode cX7_typesNumber 13 = .ok (.imul, 1) := by decide +kernel
theorem dX7_typesNumber_14 : decode cX7_typesNumber 14 = .ok (.istore_n 2, 1) := by decide +kernel
theorem dX7_typesNumber_15 : decode cX7_typesNumber 15 = .ok (.goto (-13), 3) := by decide +kernel
theorem dX7_typesNumber_18 : decode cX7_typesNumber 18 = .ok (.iload_n 2, 1) := by decide +kernel
theorem dX7_typesNumber_19 : decode cX7_typesNumber 19 = .ok (.ifCond .le 24, 3) := by decide +kernel
theorem dX7_typesNumber_22 : decode cX7_typesNumber 22 = .ok (.aload_n 0, 1) := by decide +kernel
theorem dX7_typesNumber_23 : decode cX7_typesNumber 23 = .ok (.bipush 48, 2) := by decide +kernel
theorem dX7_typesNumber_25 : decode cX7_typesNumber 25 = .ok (.iload_n 1, 1) := by decide +kernel
theorem dX7_typesNumber_26 : decode cX7_typesNumber 26 = .ok (.iload_n 2, 1) := by decide +kernel
theorem dX7_typesNumber_27 : decode cX7_typesNumber 27 = .ok (.idiv, 1) := by decide +kernel
theorem dX7_typesNumber_28 : decode cX7_typesNumber 28 = .ok (.bipush 10, 2) := by decide +kernel
theorem dX7_typesNumber_30 : decode cX7_typesNumber 30 = .ok (.irem, 1) := by decide +kernel
theorem dX7_typesNumber_31 : decode cX7_typesNumber 31 = .ok (.iadd, 1) := by decide +kernel
theorem dX7_typesNumber_32 : decode cX7_typesNumber 32 = .ok (.invokevirtual 138, 3) := by decide +kernel
theorem dX7_typesNumber_35 : decode cX7_typesNumber 35 = .ok (.iload_n 2, 1) := by decide +kernel
theorem dX7_typesNumber_36 : decode cX7_typesNumber 36 = .ok (.bipush 10, 2) := by decide +kernel
theorem dX7_typesNumber_38 : decode cX7_typesNumber 38 = .ok (.idiv, 1) := by decide +kernel
theorem dX7_typesNumber_39 : decode cX7_typesNumber 39 = .ok (.istore_n 2, 1) := by decide +kernel
theorem dX7_typesNumber_40 : decode cX7_typesNumber 40 = .ok (.goto (-22), 3) := by decide +kernel
theorem dX7_typesNumber_43 : decode cX7_typesNumber 43 = .ok (.return_, 1) := by decide +kernel
set_option maxRecDepth 20000 in
theorem ggX7_write_X7_isMeter : GoodIn wsX7_write wsX7_isMeter := goodIn_r _ [6, 7, 8, 9, 5, 10, 11, 12, 13, 14, 31, 32, 33, 34, 35, 36, 37] (by decide +kernel) (by decide +kernel)
set_option maxRecDepth 20000 in
theorem gX7_write_X7_isMeter : GoodIn wsX7_write (wsV RX7 95 RX7 yX7_isMeter wsX7_isMeter) := goodIn_app (goodIn_of _ (by decide +kernel)) ggX7_write_X7_isMeter
set_option maxRecDepth 20000 in
theorem ggX7_write_X7_types : GoodIn wsX7_write wsX7_types := goodIn_r _ [18, 19, 1, 31, 32, 33, 34, 35, 36, 37] (by decide +kernel) (by decide +kernel)
set_option maxRecDepth 20000 in
theorem gX7_write_X7_types : GoodIn wsX7_write (wsV RX7 138 RX7 yX7_types wsX7_types) := goodIn_app (goodIn_of _ (by decide +kernel)) ggX7_write_X7_types
set_option maxRecDepth 20000 in
theorem ggX7_write_X7_its : GoodIn wsX7_write wsX7_its := goodIn_r _ [23, 11, 24, 25, 5, 26, 31, 32, 33, 34, 35, 36, 37] (by decide +kernel) (by decide +kernel)
set_option maxRecDepth 20000 in
theorem gX7_write_X7_its : GoodIn wsX7_write (wsV RX7 53 RX7 yX7_its wsX7_its) := goodIn_app (goodIn_of _ (by decide +kernel)) ggX7_write_X7_its
set_option maxRecDepth 20000 in
theorem ggX7_write_X7_typesNumber : GoodIn wsX7_write wsX7_typesNumber := goodIn_r _ [30, 15, 16, 17, 5, 18, 19, 1, 31, 32, 33, 34, 35, 36, 37] (by decide +kernel) (by decide +kernel)
set_option maxRecDepth 20000 in
theorem gX7_write_X7_typesNumber : GoodIn wsX7_write (wsV RX7 142 RX7 yX7_typesNumber wsX7_typesNumber) := goodIn_app (goodIn_of _ (by decide +kernel)) ggX7_write_X7_typesNumber
theorem dX7_write_0 : decode cX7_write 0 = .ok (.aload_n 0, 1) := by decide +kernel
theorem dX7_write_1 : decode cX7_write 1 = .ok (.iload_n 1, 1) := by decide +kernel
theorem dX7_write_2 : decode cX7_write 2 = .ok (.invokevirtual 95, 3) := by decide +kernel
theorem dX7_write_5 : decode cX7_write 5 = .ok (.ifCond .ne 5, 3) := by decide +kernel
theorem dX7_write_8 : decode cX7_write 8 = .ok (.iconst (-1), 1) := by decide +kernel
theorem dX7_write_9 : decode cX7_write 9 = .ok (.ireturn, 1) := by decide +kernel
theorem dX7_write_10 : decode cX7_write 10 = .ok (.aload_n 0, 1) := by decide +kernel
theorem dX7_write_11 : decode cX7_write 11 = .ok (.iconst 0, 1) := by decide +kernel
theorem dX7_write_12 : decode cX7_write 12 = .ok (.putfield 135, 3) := by decide +kernel
theorem dX7_write_15 : decode cX7_write 15 = .ok (.aload_n 0, 1) := by decide +kernel
theorem dX7_write_16 : decode cX7_write 16 = .ok (.bipush 100, 2) := by decide +kernel
theorem dX7_write_18 : decode cX7_write 18 = .ok (.invokevirtual 138, 3) := by decide +kernel
theorem dX7_write_21 : decode cX7_write 21 = .ok (.aload_n 0, 1) := by decide +kernel
theorem dX7_write_22 : decode cX7_write 22 = .ok (.aload_n 0, 1) := by decide +kernel
theorem dX7_write_23 : decode cX7_write 23 = .ok (.iload_n 1, 1) := by decide +kernel
theorem dX7_write_24 : decode cX7_write 24 = .ok (.iconst 3, 1) := by decide +kernel
theorem dX7_write_25 : decode cX7_write 25 = .ok (.invokevirtual 53, 3) := by decide +kernel
theorem dX7_write_28 : decode cX7_write 28 = .ok (.invokevirtual 142, 3) := by decide +kernel
theorem dX7_write_31 : decode cX7_write 31 = .ok (.aload_n 0, 1) := by decide +kernel
theorem dX7_write_32 : decode cX7_write 32 = .ok (.bipush 110, 2) := by decide +kernel
theorem dX7_write_34 : decode cX7_write 34 = .ok (.invokevirtual 138, 3) := by decide +kernel
theorem dX7_write_37 : decode cX7_write 37 = .ok (.aload_n 0, 1) := by decide +kernel
theorem dX7_write_38 : decode cX7_write 38 = .ok (.aload_n 0, 1) := by decide +kernel
theorem dX7_write_39 : decode cX7_write 39 = .ok (.iload_n 1, 1) := by decide +kernel
theorem dX7_write_40 : decode cX7_write 40 = .ok (.iconst 4, 1) := by decide +kernel
theorem dX7_write_41 : decode cX7_write 41 = .ok (.invokevirtual 53, 3) := by decide +kernel
theorem dX7_write_44 : decode cX7_write 44 = .ok (.invokevirtual 142, 3) := by decide +kernel
theorem dX7_write_47 : decode cX7_write 47 = .ok (.aload_n 0, 1) := by decide +kernel
theorem dX7_write_48 : decode cX7_write 48 = .ok (.bipush 35, 2) := by decide +kernel
theorem dX7_write_50 : decode cX7_write 50 = .ok (.invokevirtual 138, 3) := by decide +kernel
theorem dX7_write_53 : decode cX7_write 53 = .ok (.aload_n 0, 1) := by decide +kernel
theorem dX7_write_54 : decode cX7_write 54 = .ok (.aload_n 0, 1) := by decide +kernel
theorem dX7_write_55 : decode cX7_write 55 = .ok (.iload_n 1, 1) := by decide +kernel
theorem dX7_write_56 : decode cX7_write 56 = .ok (.bipush 6, 2) := by decide +kernel
theorem dX7_write_58 : decode cX7_write 58 = .ok (.invokevirtual 53, 3) := by decide +kernel
theorem dX7_write_61 : decode cX7_write 61 = .ok (.invokevirtual 142, 3) := by decide +kernel
theorem dX7_write_64 : decode cX7_write 64 = .ok (.aload_n 0, 1) := by decide +kernel
theorem dX7_write_65 : decode cX7_write 65 = .ok (.iload_n 1, 1) := by decide +kernel
theorem dX7_write_66 : decode cX7_write 66 = .ok (.bipush 7, 2) := by decide +kernel
theorem dX7_write_68 : decode cX7_write 68 = .ok (.invokevirtual 53, 3) := by decide +kernel
theorem dX7_write_71 : decode cX7_write 71 = .ok (.iconst 1, 1) := by decide +kernel
theorem dX7_write_72 : decode cX7_write 72 = .ok (.if_icmp .ne 9, 3) := by decide +kernel
theorem dX7_write_75 : decode cX7_write 75 = .ok (.aload_n 0, 1) := by decide +kernel
theorem dX7_write_76 : decode cX7_write 76 = .ok (.bipush 33, 2) := by decide +kernel
theorem dX7_write_78 : decode cX7_write 78 = .ok (.invokevirtual 138, 3) := by decide +kernel
theorem dX7_write_81 : decode cX7_write 81 = .ok (.aload_n 0, 1) := by decide +kernel
theorem dX7_write_82 : decode cX7_write 82 = .ok (.getfield 135, 3) := by decide +kernel
theorem dX7_write_85 : decode cX7_write 85 = .ok (.ireturn, 1) := by decide +kernel
set_option maxRecDepth 20000 in
theorem ggX7_sign_X7_in : GoodIn wsX7_sign wsX7_in := goodIn_r _ [6] (by decide +kernel) (by decide +kernel)
set_option maxRecDepth 20000 in
theorem gX7_sign_X7_in : GoodIn wsX7_sign (va_wsS RX7 41 yX7_in wsX7_in) := goodIn_app (goodIn_of _ (by decide +kernel)) ggX7_sign_X7_in
theorem dX7_sign_0 : decode cX7_sign 0 = .ok (.iload_n 1, 1) := by decide +kernel
theorem dX7_sign_1 : decode cX7_sign 1 = .ok (.iconst 0, 1) := by decide +kernel
theorem dX7_sign_2 : decode cX7_sign 2 = .ok (.aload_n 0, 1) := by decide +kernel
theorem dX7_sign_3 : decode cX7_sign 3 = .ok (.getfield 135, 3) := by decide +kernel
