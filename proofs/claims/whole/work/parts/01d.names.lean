theorem dX5_isPermit_3 : decode cX5_isPermit 3 = .ok (.getfield 7, 3) := by decide +kernel
theorem dX5_isPermit_6 : decode cX5_isPermit 6 = .ok (.sipush 442, 3) := by decide +kernel
theorem dX5_isPermit_9 : decode cX5_isPermit 9 = .ok (.iaload, 1) := by decide +kernel
theorem dX5_isPermit_10 : decode cX5_isPermit 10 = .ok (.iconst 1, 1) := by decide +kernel
theorem dX5_isPermit_11 : decode cX5_isPermit 11 = .ok (.isub, 1) := by decide +kernel
theorem dX5_isPermit_12 : decode cX5_isPermit 12 = .ok (.invokestatic 26, 3) := by decide +kernel
theorem dX5_isPermit_15 : decode cX5_isPermit 15 = .ok (.ireturn, 1) := by decide +kernel
set_option maxRecDepth 20000 in
theorem ggX5_isNight_X5_in : GoodIn wsX5_isNight wsX5_in := goodIn_r _ [4] (by decide +kernel) (by decide +kernel)
set_option maxRecDepth 20000 in
theorem gX5_isNight_X5_in : GoodIn wsX5_isNight (va_wsS RX5 26 yX5_in wsX5_in) := goodIn_app (goodIn_of _ (by decide +kernel)) ggX5_isNight_X5_in
theorem dX5_isNight_0 : decode cX5_isNight 0 = .ok (.iload_n 0, 1) := by decide +kernel
theorem dX5_isNight_1 : decode cX5_isNight 1 = .ok (.iconst 0, 1) := by decide +kernel
theorem dX5_isNight_2 : decode cX5_isNight 2 = .ok (.bipush 29, 2) := by decide +kernel
theorem dX5_isNight_4 : decode cX5_isNight 4 = .ok (.invokestatic 26, 3) := by decide +kernel
theorem dX5_isNight_7 : decode cX5_isNight 7 = .ok (.ireturn, 1) := by decide +kernel
set_option maxRecDepth 20000 in
theorem ggX5_isStreet_X5_in : GoodIn wsX5_isStreet wsX5_in := goodIn_r _ [4] (by decide +kernel) (by decide +kernel)
set_option maxRecDepth 20000 in
theorem gX5_isStreet_X5_in : GoodIn wsX5_isStreet (va_wsS RX5 26 yX5_in wsX5_in) := goodIn_app (goodIn_of _ (by decide +kernel)) ggX5_isStreet_X5_in
theorem dX5_isStreet_0 : decode cX5_isStreet 0 = .ok (.iload_n 0, 1) := by decide +kernel
theorem dX5_isStreet_1 : decode cX5_isStreet 1 = .ok (.iconst 0, 1) := by decide +kernel
theorem dX5_isStreet_2 : decode cX5_isStreet 2 = .ok (.iconst 3, 1) := by decide +kernel
theorem dX5_isStreet_3 : decode cX5_isStreet 3 = .ok (.invokestatic 26, 3) := by decide +kernel
theorem dX5_isStreet_6 : decode cX5_isStreet 6 = .ok (.ireturn, 1) := by decide +kernel
set_option maxRecDepth 20000 in
theorem ggX5_isSwing_X5_in : GoodIn wsX5_isSwing wsX5_in := goodIn_r _ [4] (by decide +kernel) (by decide +kernel)
set_option maxRecDepth 20000 in
theorem gX5_isSwing_X5_in : GoodIn wsX5_isSwing (va_wsS RX5 26 yX5_in wsX5_in) := goodIn_app (goodIn_of _ (by decide +kernel)) ggX5_isSwing_X5_in
theorem dX5_isSwing_0 : decode cX5_isSwing 0 = .ok (.iload_n 0, 1) := by decide +kernel
theorem dX5_isSwing_1 : decode cX5_isSwing 1 = .ok (.iconst 1, 1) := by decide +kernel
theorem dX5_isSwing_2 : decode cX5_isSwing 2 = .ok (.sipush 255, 3) := by decide +kernel
theorem dX5_isSwing_5 : decode cX5_isSwing 5 = .ok (.invokestatic 26, 3) := by decide +kernel
theorem dX5_isSwing_8 : decode cX5_isSwing 8 = .ok (.ireturn, 1) := by decide +kernel
set_option maxRecDepth 20000 in
theorem ggX5_areHours_X5_in : GoodIn wsX5_areHours wsX5_in := goodIn_r _ [4] (by decide +kernel) (by decide +kernel)
set_option maxRecDepth 20000 in
theorem gX5_areHours_X5_in : GoodIn wsX5_areHours (va_wsS RX5 26 yX5_in wsX5_in) := goodIn_app (goodIn_of _ (by decide +kernel)) ggX5_areHours_X5_in
theorem dX5_areHours_0 : decode cX5_areHours 0 = .ok (.iload_n 0, 1) := by decide +kernel
theorem dX5_areHours_1 : decode cX5_areHours 1 = .ok (.iconst 0, 1) := by decide +kernel
theorem dX5_areHours_2 : decode cX5_areHours 2 = .ok (.bipush 99, 2) := by decide +kernel
theorem dX5_areHours_4 : decode cX5_areHours 4 = .ok (.invokestatic 26, 3) := by decide +kernel
theorem dX5_areHours_7 : decode cX5_areHours 7 = .ok (.ifCond .eq 18, 3) := by decide +kernel
theorem dX5_areHours_10 : decode cX5_areHours 10 = .ok (.iload_n 0, 1) := by decide +kernel
theorem dX5_areHours_11 : decode cX5_areHours 11 = .ok (.bipush 10, 2) := by decide +kernel
theorem dX5_areHours_13 : decode cX5_areHours 13 = .ok (.idiv, 1) := by decide +kernel
theorem dX5_areHours_14 : decode cX5_areHours 14 = .ok (.iload_n 0, 1) := by decide +kernel
theorem dX5_areHours_15 : decode cX5_areHours 15 = .ok (.bipush 10, 2) := by decide +kernel
theorem dX5_areHours_17 : decode cX5_areHours 17 = .ok (.irem, 1) := by decide +kernel
theorem dX5_areHours_18 : decode cX5_areHours 18 = .ok (.if_icmp .gt 7, 3) := by decide +kernel
theorem dX5_areHours_21 : decode cX5_areHours 21 = .ok (.iconst 1, 1) := by decide +kernel
theorem dX5_areHours_22 : decode cX5_areHours 22 = .ok (.goto 4, 3) := by decide +kernel
theorem dX5_areHours_25 : decode cX5_areHours 25 = .ok (.iconst 0, 1) := by decide +kernel
theorem dX5_areHours_26 : decode cX5_areHours 26 = .ok (.ireturn, 1) := by decide +kernel
theorem dX5_craned_0 : decode cX5_craned 0 = .ok (.aload_n 0, 1) := by decide +kernel
theorem dX5_craned_1 : decode cX5_craned 1 = .ok (.getfield 7, 3) := by decide +kernel
theorem dX5_craned_4 : decode cX5_craned 4 = .ok (.iconst 4, 1) := by decide +kernel
theorem dX5_craned_5 : decode cX5_craned 5 = .ok (.bipush 6, 2) := by decide +kernel
theorem dX5_craned_7 : decode cX5_craned 7 = .ok (.iload_n 1, 1) := by decide +kernel
theorem dX5_craned_8 : decode cX5_craned 8 = .ok (.imul, 1) := by decide +kernel
theorem dX5_craned_9 : decode cX5_craned 9 = .ok (.iadd, 1) := by decide +kernel
theorem dX5_craned_10 : decode cX5_craned 10 = .ok (.iload_n 2, 1) := by decide +kernel
theorem dX5_craned_11 : decode cX5_craned 11 = .ok (.iadd, 1) := by decide +kernel
theorem dX5_craned_12 : decode cX5_craned 12 = .ok (.iaload, 1) := by decide +kernel
theorem dX5_craned_13 : decode cX5_craned 13 = .ok (.ireturn, 1) := by decide +kernel
theorem dX5_of_0 : decode cX5_of 0 = .ok (.aload_n 0, 1) := by decide +kernel
theorem dX5_of_1 : decode cX5_of 1 = .ok (.getfield 7, 3) := by decide +kernel
theorem dX5_of_4 : decode cX5_of 4 = .ok (.sipush 445, 3) := by decide +kernel
theorem dX5_of_7 : decode cX5_of 7 = .ok (.iconst 5, 1) := by decide +kernel
theorem dX5_of_8 : decode cX5_of 8 = .ok (.iload_n 1, 1) := by decide +kernel
theorem dX5_of_9 : decode cX5_of 9 = .ok (.imul, 1) := by decide +kernel
theorem dX5_of_10 : decode cX5_of 10 = .ok (.iadd, 1) := by decide +kernel
theorem dX5_of_11 : decode cX5_of 11 = .ok (.iload_n 2, 1) := by decide +kernel
theorem dX5_of_12 : decode cX5_of 12 = .ok (.iadd, 1) := by decide +kernel
theorem dX5_of_13 : decode cX5_of 13 = .ok (.iaload, 1) := by decide +kernel
theorem dX5_of_14 : decode cX5_of 14 = .ok (.ireturn, 1) := by decide +kernel
theorem dX5_spot_0 : decode cX5_spot 0 = .ok (.bipush 30, 2) := by decide +kernel
theorem dX5_spot_2 : decode cX5_spot 2 = .ok (.iload_n 0, 1) := by decide +kernel
theorem dX5_spot_3 : decode cX5_spot 3 = .ok (.imul, 1) := by decide +kernel
theorem dX5_spot_4 : decode cX5_spot 4 = .ok (.iload_n 1, 1) := by decide +kernel
theorem dX5_spot_5 : decode cX5_spot 5 = .ok (.iadd, 1) := by decide +kernel
theorem dX5_spot_6 : decode cX5_spot 6 = .ok (.ireturn, 1) := by decide +kernel
theorem dX5_records_0 : decode cX5_records 0 = .ok (.aload_n 0, 1) := by decide +kernel
theorem dX5_records_1 : decode cX5_records 1 = .ok (.getfield 30, 3) := by decide +kernel
theorem dX5_records_4 : decode cX5_records 4 = .ok (.iconst 4, 1) := by decide +kernel
theorem dX5_records_5 : decode cX5_records 5 = .ok (.if_icmp .ne 44, 3) := by decide +kernel
theorem dX5_records_8 : decode cX5_records 8 = .ok (.iconst 0, 1) := by decide +kernel
theorem dX5_records_9 : decode cX5_records 9 = .ok (.istore_n 1, 1) := by decide +kernel
theorem dX5_records_10 : decode cX5_records 10 = .ok (.iload_n 1, 1) := by decide +kernel
theorem dX5_records_11 : decode cX5_records 11 = .ok (.sipush 4335, 3) := by decide +kernel
theorem dX5_records_14 : decode cX5_records 14 = .ok (.if_icmp .ge 25, 3) := by decide +kernel
theorem dX5_records_17 : decode cX5_records 17 = .ok (.aload_n 0, 1) := by decide +kernel
theorem dX5_records_18 : decode cX5_records 18 = .ok (.getfield 13, 3) := by decide +kernel
theorem dX5_records_21 : decode cX5_records 21 = .ok (.iload_n 1, 1) := by decide +kernel
theorem dX5_records_22 : decode cX5_records 22 = .ok (.aload_n 0, 1) := by decide +kernel
theorem dX5_records_23 : decode cX5_records 23 = .ok (.getfield 13, 3) := by decide +kernel
theorem dX5_records_26 : decode cX5_records 26 = .ok (.iload_n 1, 1) := by decide +kernel
theorem dX5_records_27 : decode cX5_records 27 = .ok (.sipush 1445, 3) := by decide +kernel
theorem dX5_records_30 : decode cX5_records 30 = .ok (.iadd, 1) := by decide +kernel
theorem dX5_records_31 : decode cX5_records 31 = .ok (.iaload, 1) := by decide +kernel
theorem dX5_records_32 : decode cX5_records 32 = .ok (.iastore, 1) := by decide +kernel
theorem dX5_records_33 : decode cX5_records 33 = .ok (.iinc 1 1, 3) := by decide +kernel
theorem dX5_records_36 : decode cX5_records 36 = .ok (.goto (-26), 3) := by decide +kernel
theorem dX5_records_39 : decode cX5_records 39 = .ok (.aload_n 0, 1) := by decide +kernel
theorem dX5_records_40 : decode cX5_records 40 = .ok (.dup, 1) := by decide +kernel
theorem dX5_records_41 : decode cX5_records 41 = .ok (.getfield 30, 3) := by decide +kernel
theorem dX5_records_44 : decode cX5_records 44 = .ok (.iconst 1, 1) := by decide +kernel
theorem dX5_records_45 : decode cX5_records 45 = .ok (.isub, 1) := by decide +kernel
theorem dX5_records_46 : decode cX5_records 46 = .ok (.putfield 30, 3) := by decide +kernel
theorem dX5_records_49 : decode cX5_records 49 = .ok (.iconst 0, 1) := by decide +kernel
theorem dX5_records_50 : decode cX5_records 50 = .ok (.istore_n 1, 1) := by decide +kernel
theorem dX5_records_51 : decode cX5_records 51 = .ok (.iload_n 1, 1) := by decide +kernel
theorem dX5_records_52 : decode cX5_records 52 = .ok (.sipush 1445, 3) := by decide +kernel
theorem dX5_records_55 : decode cX5_records 55 = .ok (.if_icmp .ge 30, 3) := by decide +kernel
theorem dX5_records_58 : decode cX5_records 58 = .ok (.aload_n 0, 1) := by decide +kernel
theorem dX5_records_59 : decode cX5_records 59 = .ok (.getfield 13, 3) := by decide +kernel
theorem dX5_records_62 : decode cX5_records 62 = .ok (.sipush 1445, 3) := by decide +kernel
theorem dX5_records_65 : decode cX5_records 65 = .ok (.aload_n 0, 1) := by decide +kernel
theorem dX5_records_66 : decode cX5_records 66 = .ok (.getfield 30, 3) := by decide +kernel
theorem dX5_records_69 : decode cX5_records 69 = .ok (.imul, 1) := by decide +kernel
theorem dX5_records_70 : decode cX5_records 70 = .ok (.iload_n 1, 1) := by decide +kernel
theorem dX5_records_71 : decode cX5_records 71 = .ok (.iadd, 1) := by decide +kernel
theorem dX5_records_72 : decode cX5_records 72 = .ok (.aload_n 0, 1) := by decide +kernel
theorem dX5_records_73 : decode cX5_records 73 = .ok (.getfield 7, 3) := by decide +kernel
theorem dX5_records_76 : decode cX5_records 76 = .ok (.iload_n 1, 1) := by decide +kernel
theorem dX5_records_77 : decode cX5_records 77 = .ok (.iaload, 1) := by decide +kernel
theorem dX5_records_78 : decode cX5_records 78 = .ok (.iastore, 1) := by decide +kernel
theorem dX5_records_79 : decode cX5_records 79 = .ok (.iinc 1 1, 3) := by decide +kernel
theorem dX5_records_82 : decode cX5_records 82 = .ok (.goto (-31), 3) := by decide +kernel
theorem dX5_records_85 : decode cX5_records 85 = .ok (.aload_n 0, 1) := by decide +kernel
theorem dX5_records_86 : decode cX5_records 86 = .ok (.dup, 1) := by decide +kernel
theorem dX5_records_87 : decode cX5_records 87 = .ok (.getfield 30, 3) := by decide +kernel
theorem dX5_records_90 : decode cX5_records 90 = .ok (.iconst 1, 1) := by decide +kernel
theorem dX5_records_91 : decode cX5_records 91 = .ok (.iadd, 1) := by decide +kernel
theorem dX5_records_92 : decode cX5_records 92 = .ok (.putfield 30, 3) := by decide +kernel
theorem dX5_records_95 : decode cX5_records 95 = .ok (.return_, 1) := by decide +kernel
theorem dX5_direction_0 : decode cX5_direction 0 = .ok (.iload_n 0, 1) := by decide +kernel
theorem dX5_direction_1 : decode cX5_direction 1 = .ok (.ifCond .le 18, 3) := by decide +kernel
theorem dX5_direction_4 : decode cX5_direction 4 = .ok (.iload_n 1, 1) := by decide +kernel
theorem dX5_direction_5 : decode cX5_direction 5 = .ok (.ifCond .lt 14, 3) := by decide +kernel
theorem dX5_direction_8 : decode cX5_direction 8 = .ok (.iload_n 1, 1) := by decide +kernel
theorem dX5_direction_9 : decode cX5_direction 9 = .ok (.iload_n 0, 1) := by decide +kernel
theorem dX5_direction_10 : decode cX5_direction 10 = .ok (.if_icmp .ge 7, 3) := by decide +kernel
theorem dX5_direction_13 : decode cX5_direction 13 = .ok (.iconst 0, 1) := by decide +kernel
theorem dX5_direction_14 : decode cX5_direction 14 = .ok (.goto 4, 3) := by decide +kernel
theorem dX5_direction_17 : decode cX5_direction 17 = .ok (.iconst 1, 1) := by decide +kernel
theorem dX5_direction_18 : decode cX5_direction 18 = .ok (.ireturn, 1) := by decide +kernel
theorem dX5_direction_19 : decode cX5_direction 19 = .ok (.iload_n 0, 1) := by decide +kernel
theorem dX5_direction_20 : decode cX5_direction 20 = .ok (.ifCond .gt 19, 3) := by decide +kernel
theorem dX5_direction_23 : decode cX5_direction 23 = .ok (.iload_n 1, 1) := by decide +kernel
theorem dX5_direction_24 : decode cX5_direction 24 = .ok (.ifCond .le 15, 3) := by decide +kernel
theorem dX5_direction_27 : decode cX5_direction 27 = .ok (.iload_n 0, 1) := by decide +kernel
theorem dX5_direction_28 : decode cX5_direction 28 = .ok (.ineg, 1) := by decide +kernel
theorem dX5_direction_29 : decode cX5_direction 29 = .ok (.iload_n 1, 1) := by decide +kernel
theorem dX5_direction_30 : decode cX5_direction 30 = .ok (.if_icmp .ge 7, 3) := by decide +kernel
theorem dX5_direction_33 : decode cX5_direction 33 = .ok (.iconst 2, 1) := by decide +kernel
theorem dX5_direction_34 : decode cX5_direction 34 = .ok (.goto 4, 3) := by decide +kernel
theorem dX5_direction_37 : decode cX5_direction 37 = .ok (.iconst 3, 1) := by decide +kernel
theorem dX5_direction_38 : decode cX5_direction 38 = .ok (.ireturn, 1) := by decide +kernel
theorem dX5_direction_39 : decode cX5_direction 39 = .ok (.iload_n 0, 1) := by decide +kernel
theorem dX5_direction_40 : decode cX5_direction 40 = .ok (.ifCond .ge 20, 3) := by decide +kernel
theorem dX5_direction_43 : decode cX5_direction 43 = .ok (.iload_n 1, 1) := by decide +kernel
theorem dX5_direction_44 : decode cX5_direction 44 = .ok (.ifCond .gt 16, 3) := by decide +kernel
theorem dX5_direction_47 : decode cX5_direction 47 = .ok (.iload_n 1, 1) := by decide +kernel
theorem dX5_direction_48 : decode cX5_direction 48 = .ok (.ineg, 1) := by decide +kernel
theorem dX5_direction_49 : decode cX5_direction 49 = .ok (.iload_n 0, 1) := by decide +kernel
theorem dX5_direction_50 : decode cX5_direction 50 = .ok (.ineg, 1) := by decide +kernel
theorem dX5_direction_51 : decode cX5_direction 51 = .ok (.if_icmp .ge 7, 3) := by decide +kernel
theorem dX5_direction_54 : decode cX5_direction 54 = .ok (.iconst 4, 1) := by decide +kernel
theorem dX5_direction_55 : decode cX5_direction 55 = .ok (.goto 4, 3) := by decide +kernel
theorem dX5_direction_58 : decode cX5_direction 58 = .ok (.iconst 5, 1) := by decide +kernel
theorem dX5_direction_59 : decode cX5_direction 59 = .ok (.ireturn, 1) := by decide +kernel
theorem dX5_direction_60 : decode cX5_direction 60 = .ok (.iload_n 0, 1) := by decide +kernel
theorem dX5_direction_61 : decode cX5_direction 61 = .ok (.iload_n 1, 1) := by decide +kernel
theorem dX5_direction_62 : decode cX5_direction 62 = .ok (.ineg, 1) := by decide +kernel
theorem dX5_direction_63 : decode cX5_direction 63 = .ok (.if_icmp .ge 8, 3) := by decide +kernel
theorem dX5_direction_66 : decode cX5_direction 66 = .ok (.bipush 6, 2) := by decide +kernel
theorem dX5_direction_68 : decode cX5_direction 68 = .ok (.goto 5, 3) := by decide +kernel
theorem dX5_direction_71 : decode cX5_direction 71 = .ok (.bipush 7, 2) := by decide +kernel
theorem dX5_direction_73 : decode cX5_direction 73 = .ok (.ireturn, 1) := by decide +kernel
set_option maxRecDepth 20000 in
theorem ggX5_isCovered_X5_craned : GoodIn wsX5_isCovered wsX5_craned := goodIn_r _ [5, 6, 10, 11, 12, 13, 14, 15, 16, 17, 18] (by decide +kernel) (by decide +kernel)
set_option maxRecDepth 20000 in
theorem gX5_isCovered_X5_craned : GoodIn wsX5_isCovered (wsV RX5 34 RX5 yX5_craned wsX5_craned) := goodIn_app (goodIn_of _ (by decide +kernel)) ggX5_isCovered_X5_craned
set_option maxRecDepth 20000 in
theorem ggX5_isCovered_X5_direction : GoodIn wsX5_isCovered wsX5_direction := goodIn_r _ [9] (by decide +kernel) (by decide +kernel)
set_option maxRecDepth 20000 in
theorem gX5_isCovered_X5_direction : GoodIn wsX5_isCovered (va_wsS RX5 38 yX5_direction wsX5_direction) := goodIn_app (goodIn_of _ (by decide +kernel)) ggX5_isCovered_X5_direction
theorem dX5_isCovered_0 : decode cX5_isCovered 0 = .ok (.iload_n 3, 1) := by decide +kernel
theorem dX5_isCovered_1 : decode cX5_isCovered 1 = .ok (.aload_n 0, 1) := by decide +kernel
theorem dX5_isCovered_2 : decode cX5_isCovered 2 = .ok (.iload_n 1, 1) := by decide +kernel
theorem dX5_isCovered_3 : decode cX5_isCovered 3 = .ok (.iconst 0, 1) := by decide +kernel
theorem dX5_isCovered_4 : decode cX5_isCovered 4 = .ok (.invokevirtual 34, 3) := by decide +kernel
theorem dX5_isCovered_7 : decode cX5_isCovered 7 = .ok (.isub, 1) := by decide +kernel
theorem dX5_isCovered_8 : decode cX5_isCovered 8 = .ok (.istore 5, 2) := by decide +kernel
theorem dX5_isCovered_10 : decode cX5_isCovered 10 = .ok (.iload 4, 2) := by decide +kernel
theorem dX5_isCovered_12 : decode cX5_isCovered 12 = .ok (.aload_n 0, 1) := by decide +kernel
theorem dX5_isCovered_13 : decode cX5_isCovered 13 = .ok (.iload_n 1, 1) := by decide +kernel
theorem dX5_isCovered_14 : decode cX5_isCovered 14 = .ok (.iconst 1, 1) := by decide +kernel
theorem dX5_isCovered_15 : decode cX5_isCovered 15 = .ok (.invokevirtual 34, 3) := by decide +kernel
theorem dX5_isCovered_18 : decode cX5_isCovered 18 = .ok (.isub, 1) := by decide +kernel
theorem dX5_isCovered_19 : decode cX5_isCovered 19 = .ok (.istore 6, 2) := by decide +kernel
theorem dX5_isCovered_21 : decode cX5_isCovered 21 = .ok (.iload 5, 2) := by decide +kernel
theorem dX5_isCovered_23 : decode cX5_isCovered 23 = .ok (.ifCond .ne 10, 3) := by decide +kernel
theorem dX5_isCovered_26 : decode cX5_isCovered 26 = .ok (.iload 6, 2) := by decide +kernel
theorem dX5_isCovered_28 : decode cX5_isCovered 28 = .ok (.ifCond .ne 5, 3) := by decide +kernel
theorem dX5_isCovered_31 : decode cX5_isCovered 31 = .ok (.iconst 1, 1) := by decide +kernel
theorem dX5_isCovered_32 : decode cX5_isCovered 32 = .ok (.ireturn, 1) := by decide +kernel
theorem dX5_isCovered_33 : decode cX5_isCovered 33 = .ok (.iload 5, 2) := by decide +kernel
theorem dX5_isCovered_35 : decode cX5_isCovered 35 = .ok (.iload 5, 2) := by decide +kernel
theorem dX5_isCovered_37 : decode cX5_isCovered 37 = .ok (.imul, 1) := by decide +kernel
theorem dX5_isCovered_38 : decode cX5_isCovered 38 = .ok (.iload 6, 2) := by decide +kernel
theorem dX5_isCovered_40 : decode cX5_isCovered 40 = .ok (.iload 6, 2) := by decide +kernel
theorem dX5_isCovered_42 : decode cX5_isCovered 42 = .ok (.imul, 1) := by decide +kernel
theorem dX5_isCovered_43 : decode cX5_isCovered 43 = .ok (.iadd, 1) := by decide +kernel
theorem dX5_isCovered_44 : decode cX5_isCovered 44 = .ok (.aload_n 0, 1) := by decide +kernel
theorem dX5_isCovered_45 : decode cX5_isCovered 45 = .ok (.iload_n 1, 1) := by decide +kernel
theorem dX5_isCovered_46 : decode cX5_isCovered 46 = .ok (.iconst 2, 1) := by decide +kernel
theorem dX5_isCovered_47 : decode cX5_isCovered 47 = .ok (.invokevirtual 34, 3) := by decide +kernel
theorem dX5_isCovered_50 : decode cX5_isCovered 50 = .ok (.aload_n 0, 1) := by decide +kernel
theorem dX5_isCovered_51 : decode cX5_isCovered 51 = .ok (.iload_n 1, 1) := by decide +kernel
theorem dX5_isCovered_52 : decode cX5_isCovered 52 = .ok (.iconst 2, 1) := by decide +kernel
theorem dX5_isCovered_53 : decode cX5_isCovered 53 = .ok (.invokevirtual 34, 3) := by decide +kernel
theorem dX5_isCovered_56 : decode cX5_isCovered 56 = .ok (.imul, 1) := by decide +kernel
theorem dX5_isCovered_57 : decode cX5_isCovered 57 = .ok (.if_icmp .gt 22, 3) := by decide +kernel
theorem dX5_isCovered_60 : decode cX5_isCovered 60 = .ok (.iload_n 2, 1) := by decide +kernel
theorem dX5_isCovered_61 : decode cX5_isCovered 61 = .ok (.iload 5, 2) := by decide +kernel
theorem dX5_isCovered_63 : decode cX5_isCovered 63 = .ok (.iload 6, 2) := by decide +kernel
theorem dX5_isCovered_65 : decode cX5_isCovered 65 = .ok (.invokestatic 38, 3) := by decide +kernel
theorem dX5_isCovered_68 : decode cX5_isCovered 68 = .ok (.ishr, 1) := by decide +kernel
theorem dX5_isCovered_69 : decode cX5_isCovered 69 = .ok (.iconst 1, 1) := by decide +kernel
theorem dX5_isCovered_70 : decode cX5_isCovered 70 = .ok (.iand, 1) := by decide +kernel
theorem dX5_isCovered_71 : decode cX5_isCovered 71 = .ok (.iconst 1, 1) := by decide +kernel
theorem dX5_isCovered_72 : decode cX5_isCovered 72 = .ok (.if_icmp .ne 7, 3) := by decide +kernel
theorem dX5_isCovered_75 : decode cX5_isCovered 75 = .ok (.iconst 1, 1) := by decide +kernel
theorem dX5_isCovered_76 : decode cX5_isCovered 76 = .ok (.goto 4, 3) := by decide +kernel
theorem dX5_isCovered_79 : decode cX5_isCovered 79 = .ok (.iconst 0, 1) := by decide +kernel
theorem dX5_isCovered_80 : decode cX5_isCovered 80 = .ok (.ireturn, 1) := by decide +kernel
set_option maxRecDepth 20000 in
theorem ggX5_areaMeets_X5_isCovered : GoodIn wsX5_areaMeets wsX5_isCovered := goodIn_r _ [5, 6, 7, 8, 4, 9, 10, 11, 12, 13, 14, 15, 16, 17, 18, 19, 20, 21, 22] (by decide +kernel) (by decide +kernel)
set_option maxRecDepth 20000 in
theorem gX5_areaMeets_X5_isCovered : GoodIn wsX5_areaMeets (wsV RX5 41 RX5 yX5_isCovered wsX5_isCovered) := goodIn_app (goodIn_of _ (by decide +kernel)) ggX5_areaMeets_X5_isCovered
theorem dX5_areaMeets_0 : decode cX5_areaMeets 0 = .ok (.iconst 0, 1) := by decide +kernel
theorem dX5_areaMeets_1 : decode cX5_areaMeets 1 = .ok (.istore 5, 2) := by decide +kernel
theorem dX5_areaMeets_3 : decode cX5_areaMeets 3 = .ok (.iload 5, 2) := by decide +kernel
theorem dX5_areaMeets_5 : decode cX5_areaMeets 5 = .ok (.sipush 256, 3) := by decide +kernel
theorem dX5_areaMeets_8 : decode cX5_areaMeets 8 = .ok (.if_icmp .ge 50, 3) := by decide +kernel
theorem dX5_areaMeets_11 : decode cX5_areaMeets 11 = .ok (.aload_n 0, 1) := by decide +kernel
theorem dX5_areaMeets_12 : decode cX5_areaMeets 12 = .ok (.iload_n 1, 1) := by decide +kernel
theorem dX5_areaMeets_13 : decode cX5_areaMeets 13 = .ok (.iload_n 2, 1) := by decide +kernel
theorem dX5_areaMeets_14 : decode cX5_areaMeets 14 = .ok (.iload 5, 2) := by decide +kernel
theorem dX5_areaMeets_16 : decode cX5_areaMeets 16 = .ok (.bipush 16, 2) := by decide +kernel
theorem dX5_areaMeets_18 : decode cX5_areaMeets 18 = .ok (.irem, 1) := by decide +kernel
theorem dX5_areaMeets_19 : decode cX5_areaMeets 19 = .ok (.iload 5, 2) := by decide +kernel
theorem dX5_areaMeets_21 : decode cX5_areaMeets 21 = .ok (.bipush 16, 2) := by decide +kernel
theorem dX5_areaMeets_23 : decode cX5_areaMeets 23 = .ok (.idiv, 1) := by decide +kernel
theorem dX5_areaMeets_24 : decode cX5_areaMeets 24 = .ok (.invokevirtual 41, 3) := by decide +kernel
theorem dX5_areaMeets_27 : decode cX5_areaMeets 27 = .ok (.ifCond .eq 25, 3) := by decide +kernel
theorem dX5_areaMeets_30 : decode cX5_areaMeets 30 = .ok (.aload_n 0, 1) := by decide +kernel
theorem dX5_areaMeets_31 : decode cX5_areaMeets 31 = .ok (.iload_n 3, 1) := by decide +kernel
theorem dX5_areaMeets_32 : decode cX5_areaMeets 32 = .ok (.iload 4, 2) := by decide +kernel
theorem dX5_areaMeets_34 : decode cX5_areaMeets 34 = .ok (.iload 5, 2) := by decide +kernel
theorem dX5_areaMeets_36 : decode cX5_areaMeets 36 = .ok (.bipush 16, 2) := by decide +kernel
theorem dX5_areaMeets_38 : decode cX5_areaMeets 38 = .ok (.irem, 1) := by decide +kernel
theorem dX5_areaMeets_39 : decode cX5_areaMeets 39 = .ok (.iload 5, 2) := by decide +kernel
theorem dX5_areaMeets_41 : decode cX5_areaMeets 41 = .ok (.bipush 16, 2) := by decide +kernel
theorem dX5_areaMeets_43 : decode cX5_areaMeets 43 = .ok (.idiv, 1) := by decide +kernel
theorem dX5_areaMeets_44 : decode cX5_areaMeets 44 = .ok (.invokevirtual 41, 3) := by decide +kernel
theorem dX5_areaMeets_47 : decode cX5_areaMeets 47 = .ok (.ifCond .eq 5, 3) := by decide +kernel
theorem dX5_areaMeets_50 : decode cX5_areaMeets 50 = .ok (.iconst 1, 1) := by decide +kernel
theorem dX5_areaMeets_51 : decode cX5_areaMeets 51 = .ok (.ireturn, 1) := by decide +kernel
theorem dX5_areaMeets_52 : decode cX5_areaMeets 52 = .ok (.iinc 5 1, 3) := by decide +kernel
theorem dX5_areaMeets_55 : decode cX5_areaMeets 55 = .ok (.goto (-52), 3) := by decide +kernel
theorem dX5_areaMeets_58 : decode cX5_areaMeets 58 = .ok (.iconst 0, 1) := by decide +kernel
theorem dX5_areaMeets_59 : decode cX5_areaMeets 59 = .ok (.ireturn, 1) := by decide +kernel
theorem dX5_hoursMeet_0 : decode cX5_hoursMeet 0 = .ok (.iload_n 0, 1) := by decide +kernel
theorem dX5_hoursMeet_1 : decode cX5_hoursMeet 1 = .ok (.bipush 10, 2) := by decide +kernel
theorem dX5_hoursMeet_3 : decode cX5_hoursMeet 3 = .ok (.idiv, 1) := by decide +kernel
theorem dX5_hoursMeet_4 : decode cX5_hoursMeet 4 = .ok (.iload_n 1, 1) := by decide +kernel
theorem dX5_hoursMeet_5 : decode cX5_hoursMeet 5 = .ok (.bipush 10, 2) := by decide +kernel
theorem dX5_hoursMeet_7 : decode cX5_hoursMeet 7 = .ok (.irem, 1) := by decide +kernel
theorem dX5_hoursMeet_8 : decode cX5_hoursMeet 8 = .ok (.if_icmp .gt 18, 3) := by decide +kernel
theorem dX5_hoursMeet_11 : decode cX5_hoursMeet 11 = .ok (.iload_n 1, 1) := by decide +kernel
theorem dX5_hoursMeet_12 : decode cX5_hoursMeet 12 = .ok (.bipush 10, 2) := by decide +kernel
theorem dX5_hoursMeet_14 : decode cX5_hoursMeet 14 = .ok (.idiv, 1) := by decide +kernel
theorem dX5_hoursMeet_15 : decode cX5_hoursMeet 15 = .ok (.iload_n 0, 1) := by decide +kernel
theorem dX5_hoursMeet_16 : decode cX5_hoursMeet 16 = .ok (.bipush 10, 2) := by decide +kernel
theorem dX5_hoursMeet_18 : decode cX5_hoursMeet 18 = .ok (.irem, 1) := by decide +kernel
theorem dX5_hoursMeet_19 : decode cX5_hoursMeet 19 = .ok (.if_icmp .gt 7, 3) := by decide +kernel
theorem dX5_hoursMeet_22 : decode cX5_hoursMeet 22 = .ok (.iconst 1, 1) := by decide +kernel
theorem dX5_hoursMeet_23 : decode cX5_hoursMeet 23 = .ok (.goto 4, 3) := by decide +kernel
theorem dX5_hoursMeet_26 : decode cX5_hoursMeet 26 = .ok (.iconst 0, 1) := by decide +kernel
theorem dX5_hoursMeet_27 : decode cX5_hoursMeet 27 = .ok (.ireturn, 1) := by decide +kernel
set_option maxRecDepth 20000 in
theorem ggX5_air_X5_of : GoodIn wsX5_air wsX5_of := goodIn_r _ [6, 1, 25, 26, 27, 28, 29, 30, 31, 32, 33] (by decide +kernel) (by decide +kernel)
set_option maxRecDepth 20000 in
theorem gX5_air_X5_of : GoodIn wsX5_air (wsV RX5 45 RX5 yX5_of wsX5_of) := goodIn_app (goodIn_of _ (by decide +kernel)) ggX5_air_X5_of
set_option maxRecDepth 20000 in
theorem ggX5_air_X5_craned : GoodIn wsX5_air wsX5_craned := goodIn_r _ [10, 1, 25, 26, 27, 28, 29, 30, 31, 32, 33] (by decide +kernel) (by decide +kernel)
set_option maxRecDepth 20000 in
theorem gX5_air_X5_craned : GoodIn wsX5_air (wsV RX5 34 RX5 yX5_craned wsX5_craned) := goodIn_app (goodIn_of _ (by decide +kernel)) ggX5_air_X5_craned
set_option maxRecDepth 20000 in
theorem ggX5_air_X5_hoursMeet : GoodIn wsX5_air wsX5_hoursMeet := goodIn_r _ [13] (by decide +kernel) (by decide +kernel)
set_option maxRecDepth 20000 in
theorem gX5_air_X5_hoursMeet : GoodIn wsX5_air (va_wsS RX5 48 yX5_hoursMeet wsX5_hoursMeet) := goodIn_app (goodIn_of _ (by decide +kernel)) ggX5_air_X5_hoursMeet
set_option maxRecDepth 20000 in
theorem ggX5_air_X5_areaMeets : GoodIn wsX5_air wsX5_areaMeets := goodIn_r _ [17, 18, 19, 20, 5, 21, 7, 8, 9, 10, 1, 22, 23, 24, 25, 26, 27, 28, 29, 30, 31, 32, 33] (by decide +kernel) (by decide +kernel)
set_option maxRecDepth 20000 in
theorem gX5_air_X5_areaMeets : GoodIn wsX5_air (wsV RX5 52 RX5 yX5_areaMeets wsX5_areaMeets) := goodIn_app (goodIn_of _ (by decide +kernel)) ggX5_air_X5_areaMeets
theorem dX5_air_0 : decode cX5_air 0 = .ok (.aload_n 0, 1) := by decide +kernel
theorem dX5_air_1 : decode cX5_air 1 = .ok (.iload 5, 2) := by decide +kernel
theorem dX5_air_3 : decode cX5_air 3 = .ok (.iconst 0, 1) := by decide +kernel
theorem dX5_air_4 : decode cX5_air 4 = .ok (.invokevirtual 45, 3) := by decide +kernel
theorem dX5_air_7 : decode cX5_air 7 = .ok (.istore 6, 2) := by decide +kernel
theorem dX5_air_9 : decode cX5_air 9 = .ok (.aload_n 0, 1) := by decide +kernel
theorem dX5_air_10 : decode cX5_air 10 = .ok (.iload_n 1, 1) := by decide +kernel
theorem dX5_air_11 : decode cX5_air 11 = .ok (.iconst 3, 1) := by decide +kernel
theorem dX5_air_12 : decode cX5_air 12 = .ok (.invokevirtual 34, 3) := by decide +kernel
theorem dX5_air_15 : decode cX5_air 15 = .ok (.aload_n 0, 1) := by decide +kernel
theorem dX5_air_16 : decode cX5_air 16 = .ok (.iload 6, 2) := by decide +kernel
theorem dX5_air_18 : decode cX5_air 18 = .ok (.iconst 3, 1) := by decide +kernel
theorem dX5_air_19 : decode cX5_air 19 = .ok (.invokevirtual 34, 3) := by decide +kernel
theorem dX5_air_22 : decode cX5_air 22 = .ok (.isub, 1) := by decide +kernel
theorem dX5_air_23 : decode cX5_air 23 = .ok (.istore 7, 2) := by decide +kernel
theorem dX5_air_25 : decode cX5_air 25 = .ok (.iload 7, 2) := by decide +kernel
theorem dX5_air_27 : decode cX5_air 27 = .ok (.ifCond .ge 9, 3) := by decide +kernel
theorem dX5_air_30 : decode cX5_air 30 = .ok (.iload 7, 2) := by decide +kernel
theorem dX5_air_32 : decode cX5_air 32 = .ok (.ineg, 1) := by decide +kernel
theorem dX5_air_33 : decode cX5_air 33 = .ok (.goto 5, 3) := by decide +kernel
theorem dX5_air_36 : decode cX5_air 36 = .ok (.iload 7, 2) := by decide +kernel
theorem dX5_air_38 : decode cX5_air 38 = .ok (.istore 7, 2) := by decide +kernel
theorem dX5_air_40 : decode cX5_air 40 = .ok (.iload_n 1, 1) := by decide +kernel
theorem dX5_air_41 : decode cX5_air 41 = .ok (.iload 6, 2) := by decide +kernel
theorem dX5_air_43 : decode cX5_air 43 = .ok (.if_icmp .eq 62, 3) := by decide +kernel
theorem dX5_air_46 : decode cX5_air 46 = .ok (.iload_n 2, 1) := by decide +kernel
theorem dX5_air_47 : decode cX5_air 47 = .ok (.aload_n 0, 1) := by decide +kernel
theorem dX5_air_48 : decode cX5_air 48 = .ok (.iload 5, 2) := by decide +kernel
theorem dX5_air_50 : decode cX5_air 50 = .ok (.iconst 1, 1) := by decide +kernel
theorem dX5_air_51 : decode cX5_air 51 = .ok (.invokevirtual 45, 3) := by decide +kernel
theorem dX5_air_54 : decode cX5_air 54 = .ok (.if_icmp .ne 51, 3) := by decide +kernel
theorem dX5_air_57 : decode cX5_air 57 = .ok (.iload_n 3, 1) := by decide +kernel
theorem dX5_air_58 : decode cX5_air 58 = .ok (.aload_n 0, 1) := by decide +kernel
theorem dX5_air_59 : decode cX5_air 59 = .ok (.iload 5, 2) := by decide +kernel
theorem dX5_air_61 : decode cX5_air 61 = .ok (.iconst 2, 1) := by decide +kernel
theorem dX5_air_62 : decode cX5_air 62 = .ok (.invokevirtual 45, 3) := by decide +kernel
theorem dX5_air_65 : decode cX5_air 65 = .ok (.invokestatic 48, 3) := by decide +kernel
theorem dX5_air_68 : decode cX5_air 68 = .ok (.ifCond .eq 37, 3) := by decide +kernel
theorem dX5_air_71 : decode cX5_air 71 = .ok (.iload 7, 2) := by decide +kernel
theorem dX5_air_73 : decode cX5_air 73 = .ok (.aload_n 0, 1) := by decide +kernel
theorem dX5_air_74 : decode cX5_air 74 = .ok (.getfield 7, 3) := by decide +kernel
theorem dX5_air_77 : decode cX5_air 77 = .ok (.iconst 3, 1) := by decide +kernel
theorem dX5_air_78 : decode cX5_air 78 = .ok (.iaload, 1) := by decide +kernel
theorem dX5_air_79 : decode cX5_air 79 = .ok (.if_icmp .ge 26, 3) := by decide +kernel
theorem dX5_air_82 : decode cX5_air 82 = .ok (.aload_n 0, 1) := by decide +kernel
theorem dX5_air_83 : decode cX5_air 83 = .ok (.iload_n 1, 1) := by decide +kernel
theorem dX5_air_84 : decode cX5_air 84 = .ok (.iload 4, 2) := by decide +kernel
theorem dX5_air_86 : decode cX5_air 86 = .ok (.iload 6, 2) := by decide +kernel
theorem dX5_air_88 : decode cX5_air 88 = .ok (.aload_n 0, 1) := by decide +kernel
theorem dX5_air_89 : decode cX5_air 89 = .ok (.iload 5, 2) := by decide +kernel
theorem dX5_air_91 : decode cX5_air 91 = .ok (.iconst 3, 1) := by decide +kernel
theorem dX5_air_92 : decode cX5_air 92 = .ok (.invokevirtual 45, 3) := by decide +kernel
theorem dX5_air_95 : decode cX5_air 95 = .ok (.invokevirtual 52, 3) := by decide +kernel
theorem dX5_air_98 : decode cX5_air 98 = .ok (.ifCond .eq 7, 3) := by decide +kernel
theorem dX5_air_101 : decode cX5_air 101 = .ok (.iconst 1, 1) := by decide +kernel
theorem dX5_air_102 : decode cX5_air 102 = .ok (.goto 4, 3) := by decide +kernel
theorem dX5_air_105 : decode cX5_air 105 = .ok (.iconst 0, 1) := by decide +kernel
theorem dX5_air_106 : decode cX5_air 106 = .ok (.ireturn, 1) := by decide +kernel
set_option maxRecDepth 20000 in
theorem ggX5_firstInAir_X5_of : GoodIn wsX5_firstInAir wsX5_of := goodIn_r _ [6, 1, 29, 30, 31, 32, 33, 34, 35, 36, 37] (by decide +kernel) (by decide +kernel)
set_option maxRecDepth 20000 in
theorem gX5_firstInAir_X5_of : GoodIn wsX5_firstInAir (wsV RX5 45 RX5 yX5_of wsX5_of) := goodIn_app (goodIn_of _ (by decide +kernel)) ggX5_firstInAir_X5_of
set_option maxRecDepth 20000 in
theorem ggX5_firstInAir_X5_air : GoodIn wsX5_firstInAir wsX5_air := goodIn_r _ [10, 1, 2, 3, 4, 5, 6, 11, 12, 13, 14, 15, 16, 17, 18, 19, 20, 21, 22, 23, 24, 25, 26, 27, 28, 29, 30, 31, 32, 33, 34, 35, 36, 37] (by decide +kernel) (by decide +kernel)
set_option maxRecDepth 20000 in
theorem gX5_firstInAir_X5_air : GoodIn wsX5_firstInAir (wsV RX5 55 RX5 yX5_air wsX5_air) := goodIn_app (goodIn_of _ (by decide +kernel)) ggX5_firstInAir_X5_air
theorem dX5_firstInAir_0 : decode cX5_firstInAir 0 = .ok (.iconst 0, 1) := by decide +kernel
theorem dX5_firstInAir_1 : decode cX5_firstInAir 1 = .ok (.istore 5, 2) := by decide +kernel
theorem dX5_firstInAir_3 : decode cX5_firstInAir 3 = .ok (.iload 5, 2) := by decide +kernel
theorem dX5_firstInAir_5 : decode cX5_firstInAir 5 = .ok (.aload_n 0, 1) := by decide +kernel
theorem dX5_firstInAir_6 : decode cX5_firstInAir 6 = .ok (.getfield 7, 3) := by decide +kernel
theorem dX5_firstInAir_9 : decode cX5_firstInAir 9 = .ok (.sipush 442, 3) := by decide +kernel
theorem dX5_firstInAir_12 : decode cX5_firstInAir 12 = .ok (.iaload, 1) := by decide +kernel
theorem dX5_firstInAir_13 : decode cX5_firstInAir 13 = .ok (.if_icmp .ge 37, 3) := by decide +kernel
theorem dX5_firstInAir_16 : decode cX5_firstInAir 16 = .ok (.aload_n 0, 1) := by decide +kernel
theorem dX5_firstInAir_17 : decode cX5_firstInAir 17 = .ok (.iload 5, 2) := by decide +kernel
theorem dX5_firstInAir_19 : decode cX5_firstInAir 19 = .ok (.iconst 4, 1) := by decide +kernel
theorem dX5_firstInAir_20 : decode cX5_firstInAir 20 = .ok (.invokevirtual 45, 3) := by decide +kernel
theorem dX5_firstInAir_23 : decode cX5_firstInAir 23 = .ok (.iconst 1, 1) := by decide +kernel
theorem dX5_firstInAir_24 : decode cX5_firstInAir 24 = .ok (.if_icmp .ne 20, 3) := by decide +kernel
theorem dX5_firstInAir_27 : decode cX5_firstInAir 27 = .ok (.aload_n 0, 1) := by decide +kernel
theorem dX5_firstInAir_28 : decode cX5_firstInAir 28 = .ok (.iload_n 1, 1) := by decide +kernel
theorem dX5_firstInAir_29 : decode cX5_firstInAir 29 = .ok (.iload_n 2, 1) := by decide +kernel
theorem dX5_firstInAir_30 : decode cX5_firstInAir 30 = .ok (.iload_n 3, 1) := by decide +kernel
theorem dX5_firstInAir_31 : decode cX5_firstInAir 31 = .ok (.iload 4, 2) := by decide +kernel
theorem dX5_firstInAir_33 : decode cX5_firstInAir 33 = .ok (.iload 5, 2) := by decide +kernel
theorem dX5_firstInAir_35 : decode cX5_firstInAir 35 = .ok (.invokevirtual 55, 3) := by decide +kernel
theorem dX5_firstInAir_38 : decode cX5_firstInAir 38 = .ok (.ifCond .eq 6, 3) := by decide +kernel
theorem dX5_firstInAir_41 : decode cX5_firstInAir 41 = .ok (.iload 5, 2) := by decide +kernel
theorem dX5_firstInAir_43 : decode cX5_firstInAir 43 = .ok (.ireturn, 1) := by decide +kernel
theorem dX5_firstInAir_44 : decode cX5_firstInAir 44 = .ok (.iinc 5 1, 3) := by decide +kernel
theorem dX5_firstInAir_47 : decode cX5_firstInAir 47 = .ok (.goto (-44), 3) := by decide +kernel
theorem dX5_firstInAir_50 : decode cX5_firstInAir 50 = .ok (.iconst (-1), 1) := by decide +kernel
theorem dX5_firstInAir_51 : decode cX5_firstInAir 51 = .ok (.ireturn, 1) := by decide +kernel
set_option maxRecDepth 20000 in
theorem ggX5_allowed_X5_spot : GoodIn wsX5_allowed wsX5_spot := goodIn_r _ [5] (by decide +kernel) (by decide +kernel)
set_option maxRecDepth 20000 in
theorem gX5_allowed_X5_spot : GoodIn wsX5_allowed (va_wsS RX5 59 yX5_spot wsX5_spot) := goodIn_app (goodIn_of _ (by decide +kernel)) ggX5_allowed_X5_spot
theorem dX5_allowed_0 : decode cX5_allowed 0 = .ok (.aload_n 0, 1) := by decide +kernel
theorem dX5_allowed_1 : decode cX5_allowed 1 = .ok (.getfield 7, 3) := by decide +kernel
theorem dX5_allowed_4 : decode cX5_allowed 4 = .ok (.bipush 82, 2) := by decide +kernel
theorem dX5_allowed_6 : decode cX5_allowed 6 = .ok (.iload_n 1, 1) := by decide +kernel
theorem dX5_allowed_7 : decode cX5_allowed 7 = .ok (.iload_n 2, 1) := by decide +kernel
theorem dX5_allowed_8 : decode cX5_allowed 8 = .ok (.invokestatic 59, 3) := by decide +kernel
theorem dX5_allowed_11 : decode cX5_allowed 11 = .ok (.iadd, 1) := by decide +kernel
theorem dX5_allowed_12 : decode cX5_allowed 12 = .ok (.iaload, 1) := by decide +kernel
theorem dX5_allowed_13 : decode cX5_allowed 13 = .ok (.istore_n 3, 1) := by decide +kernel
theorem dX5_allowed_14 : decode cX5_allowed 14 = .ok (.iload_n 3, 1) := by decide +kernel
theorem dX5_allowed_15 : decode cX5_allowed 15 = .ok (.iconst (-1), 1) := by decide +kernel
theorem dX5_allowed_16 : decode cX5_allowed 16 = .ok (.if_icmp .ne 12, 3) := by decide +kernel
theorem dX5_allowed_19 : decode cX5_allowed 19 = .ok (.aload_n 0, 1) := by decide +kernel
theorem dX5_allowed_20 : decode cX5_allowed 20 = .ok (.getfield 7, 3) := by decide +kernel
theorem dX5_allowed_23 : decode cX5_allowed 23 = .ok (.iconst 2, 1) := by decide +kernel
theorem dX5_allowed_24 : decode cX5_allowed 24 = .ok (.iaload, 1) := by decide +kernel
theorem dX5_allowed_25 : decode cX5_allowed 25 = .ok (.goto 4, 3) := by decide +kernel
theorem dX5_allowed_28 : decode cX5_allowed 28 = .ok (.iload_n 3, 1) := by decide +kernel
theorem dX5_allowed_29 : decode cX5_allowed 29 = .ok (.ireturn, 1) := by decide +kernel
set_option maxRecDepth 20000 in
theorem ggX5_credits_X5_spot : GoodIn wsX5_credits wsX5_spot := goodIn_r _ [5] (by decide +kernel) (by decide +kernel)
set_option maxRecDepth 20000 in
theorem gX5_credits_X5_spot : GoodIn wsX5_credits (va_wsS RX5 59 yX5_spot wsX5_spot) := goodIn_app (goodIn_of _ (by decide +kernel)) ggX5_credits_X5_spot
set_option maxRecDepth 20000 in
theorem ggX5_credits_X5_allowed : GoodIn wsX5_credits wsX5_allowed := goodIn_r _ [9, 1, 2, 3, 4, 5, 10, 11, 12, 13, 14, 15, 16, 17, 18] (by decide +kernel) (by decide +kernel)
set_option maxRecDepth 20000 in
theorem gX5_credits_X5_allowed : GoodIn wsX5_credits (wsV RX5 62 RX5 yX5_allowed wsX5_allowed) := goodIn_app (goodIn_of _ (by decide +kernel)) ggX5_credits_X5_allowed
theorem dX5_credits_0 : decode cX5_credits 0 = .ok (.iload_n 1, 1) := by decide +kernel
theorem dX5_credits_1 : decode cX5_credits 1 = .ok (.iload_n 2, 1) := by decide +kernel
theorem dX5_credits_2 : decode cX5_credits 2 = .ok (.invokestatic 59, 3) := by decide +kernel
theorem dX5_credits_5 : decode cX5_credits 5 = .ok (.istore_n 3, 1) := by decide +kernel
theorem dX5_credits_6 : decode cX5_credits 6 = .ok (.aload_n 0, 1) := by decide +kernel
theorem dX5_credits_7 : decode cX5_credits 7 = .ok (.iload_n 1, 1) := by decide +kernel
theorem dX5_credits_8 : decode cX5_credits 8 = .ok (.iload_n 2, 1) := by decide +kernel
theorem dX5_credits_9 : decode cX5_credits 9 = .ok (.invokevirtual 62, 3) := by decide +kernel
theorem dX5_credits_12 : decode cX5_credits 12 = .ok (.aload_n 0, 1) := by decide +kernel
theorem dX5_credits_13 : decode cX5_credits 13 = .ok (.getfield 7, 3) := by decide +kernel
theorem dX5_credits_16 : decode cX5_credits 16 = .ok (.sipush 202, 3) := by decide +kernel
theorem dX5_credits_19 : decode cX5_credits 19 = .ok (.iload_n 3, 1) := by decide +kernel
theorem dX5_credits_20 : decode cX5_credits 20 = .ok (.iadd, 1) := by decide +kernel
theorem dX5_credits_21 : decode cX5_credits 21 = .ok (.iaload, 1) := by decide +kernel
theorem dX5_credits_22 : decode cX5_credits 22 = .ok (.iadd, 1) := by decide +kernel
theorem dX5_credits_23 : decode cX5_credits 23 = .ok (.aload_n 0, 1) := by decide +kernel
theorem dX5_credits_24 : decode cX5_credits 24 = .ok (.getfield 7, 3) := by decide +kernel
theorem dX5_credits_27 : decode cX5_credits 27 = .ok (.sipush 322, 3) := by decide +kernel
theorem dX5_credits_30 : decode cX5_credits 30 = .ok (.iload_n 3, 1) := by decide +kernel
theorem dX5_credits_31 : decode cX5_credits 31 = .ok (.iadd, 1) := by decide +kernel
theorem dX5_credits_32 : decode cX5_credits 32 = .ok (.iaload, 1) := by decide +kernel
theorem dX5_credits_33 : decode cX5_credits 33 = .ok (.isub, 1) := by decide +kernel
theorem dX5_credits_34 : decode cX5_credits 34 = .ok (.ireturn, 1) := by decide +kernel
theorem dX5_hoursIn_0 : decode cX5_hoursIn 0 = .ok (.iload_n 0, 1) := by decide +kernel
theorem dX5_hoursIn_1 : decode cX5_hoursIn 1 = .ok (.bipush 10, 2) := by decide +kernel
theorem dX5_hoursIn_3 : decode cX5_hoursIn 3 = .ok (.irem, 1) := by decide +kernel
theorem dX5_hoursIn_4 : decode cX5_hoursIn 4 = .ok (.iload_n 0, 1) := by decide +kernel
theorem dX5_hoursIn_5 : decode cX5_hoursIn 5 = .ok (.bipush 10, 2) := by decide +kernel
theorem dX5_hoursIn_7 : decode cX5_hoursIn 7 = .ok (.idiv, 1) := by decide +kernel
theorem dX5_hoursIn_8 : decode cX5_hoursIn 8 = .ok (.isub, 1) := by decide +kernel
theorem dX5_hoursIn_9 : decode cX5_hoursIn 9 = .ok (.iconst 1, 1) := by decide +kernel
theorem dX5_hoursIn_10 : decode cX5_hoursIn 10 = .ok (.iadd, 1) := by decide +kernel
theorem dX5_hoursIn_11 : decode cX5_hoursIn 11 = .ok (.ireturn, 1) := by decide +kernel
set_option maxRecDepth 20000 in
theorem ggX5_uses_X5_of : GoodIn wsX5_uses wsX5_of := goodIn_r _ [5, 6, 14, 15, 16, 17, 18, 19, 20, 21, 22] (by decide +kernel) (by decide +kernel)
set_option maxRecDepth 20000 in
theorem gX5_uses_X5_of : GoodIn wsX5_uses (wsV RX5 45 RX5 yX5_of wsX5_of) := goodIn_app (goodIn_of _ (by decide +kernel)) ggX5_uses_X5_of
set_option maxRecDepth 20000 in
theorem ggX5_uses_X5_hoursIn : GoodIn wsX5_uses wsX5_hoursIn := goodIn_r _ [9] (by decide +kernel) (by decide +kernel)
set_option maxRecDepth 20000 in
theorem gX5_uses_X5_hoursIn : GoodIn wsX5_uses (va_wsS RX5 65 yX5_hoursIn wsX5_hoursIn) := goodIn_app (goodIn_of _ (by decide +kernel)) ggX5_uses_X5_hoursIn
set_option maxRecDepth 20000 in
theorem ggX5_uses_X5_craned : GoodIn wsX5_uses wsX5_craned := goodIn_r _ [13, 6, 14, 15, 16, 17, 18, 19, 20, 21, 22] (by decide +kernel) (by decide +kernel)
set_option maxRecDepth 20000 in
theorem gX5_uses_X5_craned : GoodIn wsX5_uses (wsV RX5 34 RX5 yX5_craned wsX5_craned) := goodIn_app (goodIn_of _ (by decide +kernel)) ggX5_uses_X5_craned
theorem dX5_uses_0 : decode cX5_uses 0 = .ok (.aload_n 0, 1) := by decide +kernel
theorem dX5_uses_1 : decode cX5_uses 1 = .ok (.iload_n 1, 1) := by decide +kernel
theorem dX5_uses_2 : decode cX5_uses 2 = .ok (.iconst 2, 1) := by decide +kernel
theorem dX5_uses_3 : decode cX5_uses 3 = .ok (.invokevirtual 45, 3) := by decide +kernel
theorem dX5_uses_6 : decode cX5_uses 6 = .ok (.invokestatic 65, 3) := by decide +kernel
theorem dX5_uses_9 : decode cX5_uses 9 = .ok (.aload_n 0, 1) := by decide +kernel
theorem dX5_uses_10 : decode cX5_uses 10 = .ok (.aload_n 0, 1) := by decide +kernel
theorem dX5_uses_11 : decode cX5_uses 11 = .ok (.iload_n 1, 1) := by decide +kernel
theorem dX5_uses_12 : decode cX5_uses 12 = .ok (.iconst 0, 1) := by decide +kernel
theorem dX5_uses_13 : decode cX5_uses 13 = .ok (.invokevirtual 45, 3) := by decide +kernel
theorem dX5_uses_16 : decode cX5_uses 16 = .ok (.iconst 5, 1) := by decide +kernel
theorem dX5_uses_17 : decode cX5_uses 17 = .ok (.invokevirtual 34, 3) := by decide +kernel
theorem dX5_uses_20 : decode cX5_uses 20 = .ok (.imul, 1) := by decide +kernel
theorem dX5_uses_21 : decode cX5_uses 21 = .ok (.ireturn, 1) := by decide +kernel
set_option maxRecDepth 20000 in
theorem ggX5_isOf_X5_of : GoodIn wsX5_isOf wsX5_of := goodIn_r _ [5, 6, 11, 12, 13, 14, 15, 16, 17, 18, 19] (by decide +kernel) (by decide +kernel)
set_option maxRecDepth 20000 in
theorem gX5_isOf_X5_of : GoodIn wsX5_isOf (wsV RX5 45 RX5 yX5_of wsX5_of) := goodIn_app (goodIn_of _ (by decide +kernel)) ggX5_isOf_X5_of
set_option maxRecDepth 20000 in
theorem ggX5_isOf_X5_craned : GoodIn wsX5_isOf wsX5_craned := goodIn_r _ [10, 6, 11, 12, 13, 14, 15, 16, 17, 18, 19] (by decide +kernel) (by decide +kernel)
set_option maxRecDepth 20000 in
theorem gX5_isOf_X5_craned : GoodIn wsX5_isOf (wsV RX5 34 RX5 yX5_craned wsX5_craned) := goodIn_app (goodIn_of _ (by decide +kernel)) ggX5_isOf_X5_craned
theorem dX5_isOf_0 : decode cX5_isOf 0 = .ok (.aload_n 0, 1) := by decide +kernel
theorem dX5_isOf_1 : decode cX5_isOf 1 = .ok (.iload_n 1, 1) := by decide +kernel
theorem dX5_isOf_2 : decode cX5_isOf 2 = .ok (.iconst 4, 1) := by decide +kernel
theorem dX5_isOf_3 : decode cX5_isOf 3 = .ok (.invokevirtual 45, 3) := by decide +kernel
theorem dX5_isOf_6 : decode cX5_isOf 6 = .ok (.iconst 1, 1) := by decide +kernel
theorem dX5_isOf_7 : decode cX5_isOf 7 = .ok (.if_icmp .ne 32, 3) := by decide +kernel
theorem dX5_isOf_10 : decode cX5_isOf 10 = .ok (.aload_n 0, 1) := by decide +kernel
theorem dX5_isOf_11 : decode cX5_isOf 11 = .ok (.iload_n 1, 1) := by decide +kernel
theorem dX5_isOf_12 : decode cX5_isOf 12 = .ok (.iconst 1, 1) := by decide +kernel
theorem dX5_isOf_13 : decode cX5_isOf 13 = .ok (.invokevirtual 45, 3) := by decide +kernel
theorem dX5_isOf_16 : decode cX5_isOf 16 = .ok (.iload_n 3, 1) := by decide +kernel
theorem dX5_isOf_17 : decode cX5_isOf 17 = .ok (.if_icmp .ne 22, 3) := by decide +kernel
theorem dX5_isOf_20 : decode cX5_isOf 20 = .ok (.aload_n 0, 1) := by decide +kernel
theorem dX5_isOf_21 : decode cX5_isOf 21 = .ok (.aload_n 0, 1) := by decide +kernel
theorem dX5_isOf_22 : decode cX5_isOf 22 = .ok (.iload_n 1, 1) := by decide +kernel
theorem dX5_isOf_23 : decode cX5_isOf 23 = .ok (.iconst 0, 1) := by decide +kernel
theorem dX5_isOf_24 : decode cX5_isOf 24 = .ok (.invokevirtual 45, 3) := by decide +kernel
theorem dX5_isOf_27 : decode cX5_isOf 27 = .ok (.iconst 4, 1) := by decide +kernel
theorem dX5_isOf_28 : decode cX5_isOf 28 = .ok (.invokevirtual 34, 3) := by decide +kernel
theorem dX5_isOf_31 : decode cX5_isOf 31 = .ok (.iload_n 2, 1) := by decide +kernel
theorem dX5_isOf_32 : decode cX5_isOf 32 = .ok (.if_icmp .ne 7, 3) := by decide +kernel
theorem dX5_isOf_35 : decode cX5_isOf 35 = .ok (.iconst 1, 1) := by decide +kernel
theorem dX5_isOf_36 : decode cX5_isOf 36 = .ok (.goto 4, 3) := by decide +kernel
theorem dX5_isOf_39 : decode cX5_isOf 39 = .ok (.iconst 0, 1) := by decide +kernel
theorem dX5_isOf_40 : decode cX5_isOf 40 = .ok (.ireturn, 1) := by decide +kernel
set_option maxRecDepth 20000 in
theorem ggX5_used_X5_isOf : GoodIn wsX5_used wsX5_isOf := goodIn_r _ [6, 7, 8, 9, 5, 10, 1, 11, 12, 13, 14, 22, 23, 24, 25, 26, 27, 28, 29, 30] (by decide +kernel) (by decide +kernel)
set_option maxRecDepth 20000 in
theorem gX5_used_X5_isOf : GoodIn wsX5_used (wsV RX5 69 RX5 yX5_isOf wsX5_isOf) := goodIn_app (goodIn_of _ (by decide +kernel)) ggX5_used_X5_isOf
set_option maxRecDepth 20000 in
theorem ggX5_used_X5_uses : GoodIn wsX5_used wsX5_uses := goodIn_r _ [18, 7, 8, 9, 5, 10, 1, 19, 20, 21, 11, 12, 13, 14, 22, 23, 24, 25, 26, 27, 28, 29, 30] (by decide +kernel) (by decide +kernel)
set_option maxRecDepth 20000 in
theorem gX5_used_X5_uses : GoodIn wsX5_used (wsV RX5 72 RX5 yX5_uses wsX5_uses) := goodIn_app (goodIn_of _ (by decide +kernel)) ggX5_used_X5_uses
theorem dX5_used_0 : decode cX5_used 0 = .ok (.iconst 0, 1) := by decide +kernel
theorem dX5_used_1 : decode cX5_used 1 = .ok (.istore_n 3, 1) := by decide +kernel
theorem dX5_used_2 : decode cX5_used 2 = .ok (.iconst 0, 1) := by decide +kernel
theorem dX5_used_3 : decode cX5_used 3 = .ok (.istore 4, 2) := by decide +kernel
theorem dX5_used_5 : decode cX5_used 5 = .ok (.iload 4, 2) := by decide +kernel
theorem dX5_used_7 : decode cX5_used 7 = .ok (.aload_n 0, 1) := by decide +kernel
theorem dX5_used_8 : decode cX5_used 8 = .ok (.getfield 7, 3) := by decide +kernel
theorem dX5_used_11 : decode cX5_used 11 = .ok (.sipush 442, 3) := by decide +kernel
theorem dX5_used_14 : decode cX5_used 14 = .ok (.iaload, 1) := by decide +kernel
theorem dX5_used_15 : decode cX5_used 15 = .ok (.if_icmp .ge 33, 3) := by decide +kernel
theorem dX5_used_18 : decode cX5_used 18 = .ok (.iload_n 3, 1) := by decide +kernel
theorem dX5_used_19 : decode cX5_used 19 = .ok (.aload_n 0, 1) := by decide +kernel
theorem dX5_used_20 : decode cX5_used 20 = .ok (.iload 4, 2) := by decide +kernel
theorem dX5_used_22 : decode cX5_used 22 = .ok (.iload_n 1, 1) := by decide +kernel
theorem dX5_used_23 : decode cX5_used 23 = .ok (.iload_n 2, 1) := by decide +kernel
theorem dX5_used_24 : decode cX5_used 24 = .ok (.invokevirtual 69, 3) := by decide +kernel
theorem dX5_used_27 : decode cX5_used 27 = .ok (.ifCond .eq 12, 3) := by decide +kernel
theorem dX5_used_30 : decode cX5_used 30 = .ok (.aload_n 0, 1) := by decide +kernel
theorem dX5_used_31 : decode cX5_used 31 = .ok (.iload 4, 2) := by decide +kernel
theorem dX5_used_33 : decode cX5_used 33 = .ok (.invokevirtual 72, 3) := by decide +kernel
theorem dX5_used_36 : decode cX5_used 36 = .ok (.goto 4, 3) := by decide +kernel
theorem dX5_used_39 : decode cX5_used 39 = .ok (.iconst 0, 1) := by decide +kernel
theorem dX5_used_40 : decode cX5_used 40 = .ok (.iadd, 1) := by decide +kernel
theorem dX5_used_41 : decode cX5_used 41 = .ok (.istore_n 3, 1) := by decide +kernel
theorem dX5_used_42 : decode cX5_used 42 = .ok (.iinc 4 1, 3) := by decide +kernel
theorem dX5_used_45 : decode cX5_used 45 = .ok (.goto (-40), 3) := by decide +kernel
theorem dX5_used_48 : decode cX5_used 48 = .ok (.iload_n 3, 1) := by decide +kernel
theorem dX5_used_49 : decode cX5_used 49 = .ok (.ireturn, 1) := by decide +kernel
set_option maxRecDepth 20000 in
theorem ggX5_stops_X5_craned : GoodIn wsX5_stops wsX5_craned := goodIn_r _ [6, 1, 7, 8, 9, 10, 11, 12, 13, 14, 15] (by decide +kernel) (by decide +kernel)
set_option maxRecDepth 20000 in
theorem gX5_stops_X5_craned : GoodIn wsX5_stops (wsV RX5 34 RX5 yX5_craned wsX5_craned) := goodIn_app (goodIn_of _ (by decide +kernel)) ggX5_stops_X5_craned
theorem dX5_stops_0 : decode cX5_stops 0 = .ok (.aload_n 0, 1) := by decide +kernel
theorem dX5_stops_1 : decode cX5_stops 1 = .ok (.getfield 7, 3) := by decide +kernel
theorem dX5_stops_4 : decode cX5_stops 4 = .ok (.bipush 52, 2) := by decide +kernel
theorem dX5_stops_6 : decode cX5_stops 6 = .ok (.iload_n 2, 1) := by decide +kernel
theorem dX5_stops_7 : decode cX5_stops 7 = .ok (.iadd, 1) := by decide +kernel
theorem dX5_stops_8 : decode cX5_stops 8 = .ok (.iaload, 1) := by decide +kernel
theorem dX5_stops_9 : decode cX5_stops 9 = .ok (.aload_n 0, 1) := by decide +kernel
theorem dX5_stops_10 : decode cX5_stops 10 = .ok (.getfield 7, 3) := by decide +kernel
theorem dX5_stops_13 : decode cX5_stops 13 = .ok (.iconst 1, 1) := by decide +kernel
theorem dX5_stops_14 : decode cX5_stops 14 = .ok (.iaload, 1) := by decide +kernel
theorem dX5_stops_15 : decode cX5_stops 15 = .ok (.aload_n 0, 1) := by decide +kernel
theorem dX5_stops_16 : decode cX5_stops 16 = .ok (.iload_n 1, 1) := by decide +kernel
theorem dX5_stops_17 : decode cX5_stops 17 = .ok (.iconst 3, 1) := by decide +kernel
theorem dX5_stops_18 : decode cX5_stops 18 = .ok (.invokevirtual 34, 3) := by decide +kernel
theorem dX5_stops_21 : decode cX5_stops 21 = .ok (.iconst 2, 1) := by decide +kernel
theorem dX5_stops_22 : decode cX5_stops 22 = .ok (.idiv, 1) := by decide +kernel
theorem dX5_stops_23 : decode cX5_stops 23 = .ok (.isub, 1) := by decide +kernel
theorem dX5_stops_24 : decode cX5_stops 24 = .ok (.if_icmp .lt 7, 3) := by decide +kernel
theorem dX5_stops_27 : decode cX5_stops 27 = .ok (.iconst 1, 1) := by decide +kernel
theorem dX5_stops_28 : decode cX5_stops 28 = .ok (.goto 4, 3) := by decide +kernel
theorem dX5_stops_31 : decode cX5_stops 31 = .ok (.iconst 0, 1) := by decide +kernel
theorem dX5_stops_32 : decode cX5_stops 32 = .ok (.ireturn, 1) := by decide +kernel
set_option maxRecDepth 20000 in
theorem ggX5_calms_X5_of : GoodIn wsX5_calms wsX5_of := goodIn_r _ [6, 1, 15, 16, 17, 18, 19, 20, 21, 22, 23] (by decide +kernel) (by decide +kernel)
set_option maxRecDepth 20000 in
theorem gX5_calms_X5_of : GoodIn wsX5_calms (wsV RX5 45 RX5 yX5_of wsX5_of) := goodIn_app (goodIn_of _ (by decide +kernel)) ggX5_calms_X5_of
set_option maxRecDepth 20000 in
theorem ggX5_calms_X5_stops : GoodIn wsX5_calms wsX5_stops := goodIn_r _ [10, 1, 11, 12, 13, 5, 14, 15, 16, 17, 18, 19, 20, 21, 22, 23] (by decide +kernel) (by decide +kernel)
set_option maxRecDepth 20000 in
theorem gX5_calms_X5_stops : GoodIn wsX5_calms (wsV RX5 75 RX5 yX5_stops wsX5_stops) := goodIn_app (goodIn_of _ (by decide +kernel)) ggX5_calms_X5_stops
theorem dX5_calms_0 : decode cX5_calms 0 = .ok (.iconst 0, 1) := by decide +kernel
theorem dX5_calms_1 : decode cX5_calms 1 = .ok (.istore_n 2, 1) := by decide +kernel
theorem dX5_calms_2 : decode cX5_calms 2 = .ok (.iconst 0, 1) := by decide +kernel
theorem dX5_calms_3 : decode cX5_calms 3 = .ok (.istore_n 3, 1) := by decide +kernel
theorem dX5_calms_4 : decode cX5_calms 4 = .ok (.iload_n 3, 1) := by decide +kernel
theorem dX5_calms_5 : decode cX5_calms 5 = .ok (.aload_n 0, 1) := by decide +kernel
theorem dX5_calms_6 : decode cX5_calms 6 = .ok (.getfield 7, 3) := by decide +kernel
theorem dX5_calms_9 : decode cX5_calms 9 = .ok (.sipush 442, 3) := by decide +kernel
theorem dX5_calms_12 : decode cX5_calms 12 = .ok (.iaload, 1) := by decide +kernel
theorem dX5_calms_13 : decode cX5_calms 13 = .ok (.if_icmp .ge 61, 3) := by decide +kernel
theorem dX5_calms_16 : decode cX5_calms 16 = .ok (.aload_n 0, 1) := by decide +kernel
theorem dX5_calms_17 : decode cX5_calms 17 = .ok (.iload_n 3, 1) := by decide +kernel
theorem dX5_calms_18 : decode cX5_calms 18 = .ok (.iconst 4, 1) := by decide +kernel
theorem dX5_calms_19 : decode cX5_calms 19 = .ok (.invokevirtual 45, 3) := by decide +kernel
theorem dX5_calms_22 : decode cX5_calms 22 = .ok (.iconst 1, 1) := by decide +kernel
theorem dX5_calms_23 : decode cX5_calms 23 = .ok (.if_icmp .ne 45, 3) := by decide +kernel
theorem dX5_calms_26 : decode cX5_calms 26 = .ok (.aload_n 0, 1) := by decide +kernel
theorem dX5_calms_27 : decode cX5_calms 27 = .ok (.iload_n 3, 1) := by decide +kernel
theorem dX5_calms_28 : decode cX5_calms 28 = .ok (.iconst 1, 1) := by decide +kernel
theorem dX5_calms_29 : decode cX5_calms 29 = .ok (.invokevirtual 45, 3) := by decide +kernel
theorem dX5_calms_32 : decode cX5_calms 32 = .ok (.iload_n 1, 1) := by decide +kernel
theorem dX5_calms_33 : decode cX5_calms 33 = .ok (.if_icmp .ne 35, 3) := by decide +kernel
theorem dX5_calms_36 : decode cX5_calms 36 = .ok (.aload_n 0, 1) := by decide +kernel
theorem dX5_calms_37 : decode cX5_calms 37 = .ok (.aload_n 0, 1) := by decide +kernel
theorem dX5_calms_38 : decode cX5_calms 38 = .ok (.iload_n 3, 1) := by decide +kernel
theorem dX5_calms_39 : decode cX5_calms 39 = .ok (.iconst 0, 1) := by decide +kernel
theorem dX5_calms_40 : decode cX5_calms 40 = .ok (.invokevirtual 45, 3) := by decide +kernel
theorem dX5_calms_43 : decode cX5_calms 43 = .ok (.iload_n 1, 1) := by decide +kernel
theorem dX5_calms_44 : decode cX5_calms 44 = .ok (.invokevirtual 75, 3) := by decide +kernel
theorem dX5_calms_47 : decode cX5_calms 47 = .ok (.ifCond .eq 21, 3) := by decide +kernel
theorem dX5_calms_50 : decode cX5_calms 50 = .ok (.aload_n 0, 1) := by decide +kernel
theorem dX5_calms_51 : decode cX5_calms 51 = .ok (.getfield 7, 3) := by decide +kernel
theorem dX5_calms_54 : decode cX5_calms 54 = .ok (.sipush 445, 3) := by decide +kernel
theorem dX5_calms_57 : decode cX5_calms 57 = .ok (.iconst 5, 1) := by decide +kernel
theorem dX5_calms_58 : decode cX5_calms 58 = .ok (.iload_n 3, 1) := by decide +kernel
theorem dX5_calms_59 : decode cX5_calms 59 = .ok (.imul, 1) := by decide +kernel
theorem dX5_calms_60 : decode cX5_calms 60 = .ok (.iadd, 1) := by decide +kernel
theorem dX5_calms_61 : decode cX5_calms 61 = .ok (.iconst 4, 1) := by decide +kernel
theorem dX5_calms_62 : decode cX5_calms 62 = .ok (.iadd, 1) := by decide +kernel
theorem dX5_calms_63 : decode cX5_calms 63 = .ok (.iconst 3, 1) := by decide +kernel
theorem dX5_calms_64 : decode cX5_calms 64 = .ok (.iastore, 1) := by decide +kernel
theorem dX5_calms_65 : decode cX5_calms 65 = .ok (.iinc 2 1, 3) := by decide +kernel
theorem dX5_calms_68 : decode cX5_calms 68 = .ok (.iinc 3 1, 3) := by decide +kernel
theorem dX5_calms_71 : decode cX5_calms 71 = .ok (.goto (-67), 3) := by decide +kernel
theorem dX5_calms_74 : decode cX5_calms 74 = .ok (.aload_n 0, 1) := by decide +kernel
theorem dX5_calms_75 : decode cX5_calms 75 = .ok (.getfield 7, 3) := by decide +kernel
theorem dX5_calms_78 : decode cX5_calms 78 = .ok (.sipush 444, 3) := by decide +kernel
theorem dX5_calms_81 : decode cX5_calms 81 = .ok (.dup2, 1) := by decide +kernel
theorem dX5_calms_82 : decode cX5_calms 82 = .ok (.iaload, 1) := by decide +kernel
theorem dX5_calms_83 : decode cX5_calms 83 = .ok (.iload_n 2, 1) := by decide +kernel
theorem dX5_calms_84 : decode cX5_calms 84 = .ok (.iadd, 1) := by decide +kernel
theorem dX5_calms_85 : decode cX5_calms 85 = .ok (.iastore, 1) := by decide +kernel
theorem dX5_calms_86 : decode cX5_calms 86 = .ok (.iload_n 2, 1) := by decide +kernel
theorem dX5_calms_87 : decode cX5_calms 87 = .ok (.ireturn, 1) := by decide +kernel
set_option maxRecDepth 20000 in
theorem ggX5_saves_X5_isOf : GoodIn wsX5_saves wsX5_isOf := goodIn_r _ [6, 7, 8, 9, 5, 10, 1, 11, 12, 13, 14, 37, 38, 39, 40, 41, 42, 43, 44, 45] (by decide +kernel) (by decide +kernel)
set_option maxRecDepth 20000 in
theorem gX5_saves_X5_isOf : GoodIn wsX5_saves (wsV RX5 69 RX5 yX5_isOf wsX5_isOf) := goodIn_app (goodIn_of _ (by decide +kernel)) ggX5_saves_X5_isOf
set_option maxRecDepth 20000 in
theorem ggX5_saves_X5_used : GoodIn wsX5_saves wsX5_used := goodIn_r _ [18, 1, 2, 3, 4, 5, 6, 7, 8, 9, 10, 11, 12, 13, 14, 19, 20, 21, 22, 23, 24, 25, 37, 38, 39, 40, 41, 42, 43, 44, 45] (by decide +kernel) (by decide +kernel)
set_option maxRecDepth 20000 in
theorem gX5_saves_X5_used : GoodIn wsX5_saves (wsV RX5 78 RX5 yX5_used wsX5_used) := goodIn_app (goodIn_of _ (by decide +kernel)) ggX5_saves_X5_used
set_option maxRecDepth 20000 in
theorem ggX5_saves_X5_credits : GoodIn wsX5_saves wsX5_credits := goodIn_r _ [29, 1, 30, 31, 5, 32, 33, 34, 35, 36, 37, 38, 39, 40, 41, 42, 43, 44, 45] (by decide +kernel) (by decide +kernel)
set_option maxRecDepth 20000 in
theorem gX5_saves_X5_credits : GoodIn wsX5_saves (wsV RX5 81 RX5 yX5_credits wsX5_credits) := goodIn_app (goodIn_of _ (by decide +kernel)) ggX5_saves_X5_credits
theorem dX5_saves_0 : decode cX5_saves 0 = .ok (.iconst 0, 1) := by decide +kernel
theorem dX5_saves_1 : decode cX5_saves 1 = .ok (.istore_n 3, 1) := by decide +kernel
theorem dX5_saves_2 : decode cX5_saves 2 = .ok (.aload_n 0, 1) := by decide +kernel
theorem dX5_saves_3 : decode cX5_saves 3 = .ok (.getfield 7, 3) := by decide +kernel
theorem dX5_saves_6 : decode cX5_saves 6 = .ok (.sipush 442, 3) := by decide +kernel
theorem dX5_saves_9 : decode cX5_saves 9 = .ok (.iaload, 1) := by decide +kernel
theorem dX5_saves_10 : decode cX5_saves 10 = .ok (.iconst 1, 1) := by decide +kernel
theorem dX5_saves_11 : decode cX5_saves 11 = .ok (.isub, 1) := by decide +kernel
theorem dX5_saves_12 : decode cX5_saves 12 = .ok (.istore 4, 2) := by decide +kernel
theorem dX5_saves_14 : decode cX5_saves 14 = .ok (.iload 4, 2) := by decide +kernel
theorem dX5_saves_16 : decode cX5_saves 16 = .ok (.ifCond .lt 54, 3) := by decide +kernel
theorem dX5_saves_19 : decode cX5_saves 19 = .ok (.aload_n 0, 1) := by decide +kernel
theorem dX5_saves_20 : decode cX5_saves 20 = .ok (.iload 4, 2) := by decide +kernel
theorem dX5_saves_22 : decode cX5_saves 22 = .ok (.iload_n 1, 1) := by decide +kernel
theorem dX5_saves_23 : decode cX5_saves 23 = .ok (.iload_n 2, 1) := by decide +kernel
theorem dX5_saves_24 : decode cX5_saves 24 = .ok (.invokevirtual 69, 3) := by decide +kernel
theorem dX5_saves_27 : decode cX5_saves 27 = .ok (.ifCond .eq 37, 3) := by decide +kernel
theorem dX5_saves_30 : decode cX5_saves 30 = .ok (.aload_n 0, 1) := by decide +kernel
theorem dX5_saves_31 : decode cX5_saves 31 = .ok (.iload_n 1, 1) := by decide +kernel
theorem dX5_saves_32 : decode cX5_saves 32 = .ok (.iload_n 2, 1) := by decide +kernel
theorem dX5_saves_33 : decode cX5_saves 33 = .ok (.invokevirtual 78, 3) := by decide +kernel
theorem dX5_saves_36 : decode cX5_saves 36 = .ok (.aload_n 0, 1) := by decide +kernel
theorem dX5_saves_37 : decode cX5_saves 37 = .ok (.iload_n 1, 1) := by decide +kernel
theorem dX5_saves_38 : decode cX5_saves 38 = .ok (.iload_n 2, 1) := by decide +kernel
theorem dX5_saves_39 : decode cX5_saves 39 = .ok (.invokevirtual 81, 3) := by decide +kernel
theorem dX5_saves_42 : decode cX5_saves 42 = .ok (.if_icmp .le 22, 3) := by decide +kernel
theorem dX5_saves_45 : decode cX5_saves 45 = .ok (.aload_n 0, 1) := by decide +kernel
theorem dX5_saves_46 : decode cX5_saves 46 = .ok (.getfield 7, 3) := by decide +kernel
theorem dX5_saves_49 : decode cX5_saves 49 = .ok (.sipush 445, 3) := by decide +kernel
theorem dX5_saves_52 : decode cX5_saves 52 = .ok (.iconst 5, 1) := by decide +kernel
theorem dX5_saves_53 : decode cX5_saves 53 = .ok (.iload 4, 2) := by decide +kernel
theorem dX5_saves_55 : decode cX5_saves 55 = .ok (.imul, 1) := by decide +kernel
theorem dX5_saves_56 : decode cX5_saves 56 = .ok (.iadd, 1) := by decide +kernel
theorem dX5_saves_57 : decode cX5_saves 57 = .ok (.iconst 4, 1) := by decide +kernel
theorem dX5_saves_58 : decode cX5_saves 58 = .ok (.iadd, 1) := by decide +kernel
theorem dX5_saves_59 : decode cX5_saves 59 = .ok (.iconst 3, 1) := by decide +kernel
theorem dX5_saves_60 : decode cX5_saves 60 = .ok (.iastore, 1) := by decide +kernel
theorem dX5_saves_61 : decode cX5_saves 61 = .ok (.iinc 3 1, 3) := by decide +kernel
theorem dX5_saves_64 : decode cX5_saves 64 = .ok (.iinc 4 (-1), 3) := by decide +kernel
theorem dX5_saves_67 : decode cX5_saves 67 = .ok (.goto (-53), 3) := by decide +kernel
theorem dX5_saves_70 : decode cX5_saves 70 = .ok (.aload_n 0, 1) := by decide +kernel
theorem dX5_saves_71 : decode cX5_saves 71 = .ok (.getfield 7, 3) := by decide +kernel
theorem dX5_saves_74 : decode cX5_saves 74 = .ok (.sipush 444, 3) := by decide +kernel
theorem dX5_saves_77 : decode cX5_saves 77 = .ok (.dup2, 1) := by decide +kernel
theorem dX5_saves_78 : decode cX5_saves 78 = .ok (.iaload, 1) := by decide +kernel
theorem dX5_saves_79 : decode cX5_saves 79 = .ok (.iload_n 3, 1) := by decide +kernel
theorem dX5_saves_80 : decode cX5_saves 80 = .ok (.iadd, 1) := by decide +kernel
theorem dX5_saves_81 : decode cX5_saves 81 = .ok (.iastore, 1) := by decide +kernel
theorem dX5_saves_82 : decode cX5_saves 82 = .ok (.iload_n 3, 1) := by decide +kernel
theorem dX5_saves_83 : decode cX5_saves 83 = .ok (.ireturn, 1) := by decide +kernel
set_option maxRecDepth 20000 in
theorem ggX5_savesAll_X5_saves : GoodIn wsX5_savesAll wsX5_saves := goodIn_r _ [5, 6, 7, 8, 9, 4, 10, 11, 12, 13, 14, 15, 16, 17, 18, 19, 20, 21, 22, 23, 24, 25, 26, 27, 28, 29, 30, 31, 32, 33, 34, 35, 36, 37, 38, 39, 40, 41, 42, 43, 44, 45, 46, 47, 48, 49] (by decide +kernel) (by decide +kernel)
set_option maxRecDepth 20000 in
theorem gX5_savesAll_X5_saves : GoodIn wsX5_savesAll (wsV RX5 84 RX5 yX5_saves wsX5_saves) := goodIn_app (goodIn_of _ (by decide +kernel)) ggX5_savesAll_X5_saves
theorem dX5_savesAll_0 : decode cX5_savesAll 0 = .ok (.iconst 0, 1) := by decide +kernel
theorem dX5_savesAll_1 : decode cX5_savesAll 1 = .ok (.istore_n 1, 1) := by decide +kernel
theorem dX5_savesAll_2 : decode cX5_savesAll 2 = .ok (.iconst 0, 1) := by decide +kernel
theorem dX5_savesAll_3 : decode cX5_savesAll 3 = .ok (.istore_n 2, 1) := by decide +kernel
theorem dX5_savesAll_4 : decode cX5_savesAll 4 = .ok (.iload_n 2, 1) := by decide +kernel
theorem dX5_savesAll_5 : decode cX5_savesAll 5 = .ok (.bipush 120, 2) := by decide +kernel
theorem dX5_savesAll_7 : decode cX5_savesAll 7 = .ok (.if_icmp .ge 24, 3) := by decide +kernel
theorem dX5_savesAll_10 : decode cX5_savesAll 10 = .ok (.iload_n 1, 1) := by decide +kernel
theorem dX5_savesAll_11 : decode cX5_savesAll 11 = .ok (.aload_n 0, 1) := by decide +kernel
theorem dX5_savesAll_12 : decode cX5_savesAll 12 = .ok (.iload_n 2, 1) := by decide +kernel
theorem dX5_savesAll_13 : decode cX5_savesAll 13 = .ok (.bipush 30, 2) := by decide +kernel
theorem dX5_savesAll_15 : decode cX5_savesAll 15 = .ok (.idiv, 1) := by decide +kernel
theorem dX5_savesAll_16 : decode cX5_savesAll 16 = .ok (.iload_n 2, 1) := by decide +kernel
theorem dX5_savesAll_17 : decode cX5_savesAll 17 = .ok (.bipush 30, 2) := by decide +kernel
theorem dX5_savesAll_19 : decode cX5_savesAll 19 = .ok (.irem, 1) := by decide +kernel
theorem dX5_savesAll_20 : decode cX5_savesAll 20 = .ok (.invokevirtual 84, 3) := by decide +kernel
theorem dX5_savesAll_23 : decode cX5_savesAll 23 = .ok (.iadd, 1) := by decide +kernel
theorem dX5_savesAll_24 : decode cX5_savesAll 24 = .ok (.istore_n 1, 1) := by decide +kernel
theorem dX5_savesAll_25 : decode cX5_savesAll 25 = .ok (.iinc 2 1, 3) := by decide +kernel
theorem dX5_savesAll_28 : decode cX5_savesAll 28 = .ok (.goto (-24), 3) := by decide +kernel
theorem dX5_savesAll_31 : decode cX5_savesAll 31 = .ok (.iload_n 1, 1) := by decide +kernel
theorem dX5_savesAll_32 : decode cX5_savesAll 32 = .ok (.ireturn, 1) := by decide +kernel
set_option maxRecDepth 20000 in
theorem ggX5_crane_X5_in : GoodIn wsX5_crane wsX5_in := goodIn_r _ [5] (by decide +kernel) (by decide +kernel)
set_option maxRecDepth 20000 in
theorem gX5_crane_X5_in : GoodIn wsX5_crane (va_wsS RX5 26 yX5_in wsX5_in) := goodIn_app (goodIn_of _ (by decide +kernel)) ggX5_crane_X5_in
set_option maxRecDepth 20000 in
theorem ggX5_crane_X5_isStreet : GoodIn wsX5_crane wsX5_isStreet := goodIn_r _ [8, 2, 3, 4, 5] (by decide +kernel) (by decide +kernel)
set_option maxRecDepth 20000 in
theorem gX5_crane_X5_isStreet : GoodIn wsX5_crane (va_wsS RX5 87 yX5_isStreet wsX5_isStreet) := goodIn_app (goodIn_of _ (by decide +kernel)) ggX5_crane_X5_isStreet
set_option maxRecDepth 20000 in
theorem ggX5_crane_X5_craned : GoodIn wsX5_crane wsX5_craned := goodIn_r _ [12, 1, 19, 20, 21, 22, 23, 24, 25, 26, 27] (by decide +kernel) (by decide +kernel)
set_option maxRecDepth 20000 in
theorem gX5_crane_X5_craned : GoodIn wsX5_crane (wsV RX5 34 RX5 yX5_craned wsX5_craned) := goodIn_app (goodIn_of _ (by decide +kernel)) ggX5_crane_X5_craned
set_option maxRecDepth 20000 in
theorem ggX5_crane_X5_records : GoodIn wsX5_crane wsX5_records := goodIn_r _ [16, 17, 18, 1, 19, 20, 21, 22, 23, 24, 25, 26, 27] (by decide +kernel) (by decide +kernel)
set_option maxRecDepth 20000 in
theorem gX5_crane_X5_records : GoodIn wsX5_crane (wsV RX5 91 RX5 yX5_records wsX5_records) := goodIn_app (goodIn_of _ (by decide +kernel)) ggX5_crane_X5_records
theorem dX5_crane_0 : decode cX5_crane 0 = .ok (.iload_n 1, 1) := by decide +kernel
theorem dX5_crane_1 : decode cX5_crane 1 = .ok (.iconst 0, 1) := by decide +kernel
theorem dX5_crane_2 : decode cX5_crane 2 = .ok (.bipush 15, 2) := by decide +kernel
theorem dX5_crane_4 : decode cX5_crane 4 = .ok (.invokestatic 26, 3) := by decide +kernel
theorem dX5_crane_7 : decode cX5_crane 7 = .ok (.ifCond .eq 54, 3) := by decide +kernel
theorem dX5_crane_10 : decode cX5_crane 10 = .ok (.iload_n 2, 1) := by decide +kernel
theorem dX5_crane_11 : decode cX5_crane 11 = .ok (.iconst 0, 1) := by decide +kernel
theorem dX5_crane_12 : decode cX5_crane 12 = .ok (.bipush 15, 2) := by decide +kernel
theorem dX5_crane_14 : decode cX5_crane 14 = .ok (.invokestatic 26, 3) := by decide +kernel
theorem dX5_crane_17 : decode cX5_crane 17 = .ok (.ifCond .eq 44, 3) := by decide +kernel
theorem dX5_crane_20 : decode cX5_crane 20 = .ok (.iload_n 3, 1) := by decide +kernel
theorem dX5_crane_21 : decode cX5_crane 21 = .ok (.iconst 1, 1) := by decide +kernel
theorem dX5_crane_22 : decode cX5_crane 22 = .ok (.bipush 8, 2) := by decide +kernel
theorem dX5_crane_24 : decode cX5_crane 24 = .ok (.invokestatic 26, 3) := by decide +kernel
theorem dX5_crane_27 : decode cX5_crane 27 = .ok (.ifCond .eq 34, 3) := by decide +kernel
theorem dX5_crane_30 : decode cX5_crane 30 = .ok (.iload 4, 2) := by decide +kernel
theorem dX5_crane_32 : decode cX5_crane 32 = .ok (.bipush 10, 2) := by decide +kernel
theorem dX5_crane_34 : decode cX5_crane 34 = .ok (.bipush 99, 2) := by decide +kernel
theorem dX5_crane_36 : decode cX5_crane 36 = .ok (.invokestatic 26, 3) := by decide +kernel
theorem dX5_crane_39 : decode cX5_crane 39 = .ok (.ifCond .eq 22, 3) := by decide +kernel
theorem dX5_crane_42 : decode cX5_crane 42 = .ok (.iload 5, 2) := by decide +kernel
theorem dX5_crane_44 : decode cX5_crane 44 = .ok (.invokestatic 87, 3) := by decide +kernel
theorem dX5_crane_47 : decode cX5_crane 47 = .ok (.ifCond .eq 14, 3) := by decide +kernel
theorem dX5_crane_50 : decode cX5_crane 50 = .ok (.iload 6, 2) := by decide +kernel
theorem dX5_crane_52 : decode cX5_crane 52 = .ok (.iconst 1, 1) := by decide +kernel
theorem dX5_crane_53 : decode cX5_crane 53 = .ok (.bipush 9, 2) := by decide +kernel
theorem dX5_crane_55 : decode cX5_crane 55 = .ok (.invokestatic 26, 3) := by decide +kernel
theorem dX5_crane_58 : decode cX5_crane 58 = .ok (.ifCond .ne 7, 3) := by decide +kernel
theorem dX5_crane_61 : decode cX5_crane 61 = .ok (.sipush (-1001), 3) := by decide +kernel
theorem dX5_crane_64 : decode cX5_crane 64 = .ok (.ireturn, 1) := by decide +kernel
theorem dX5_crane_65 : decode cX5_crane 65 = .ok (.iconst 0, 1) := by decide +kernel
theorem dX5_crane_66 : decode cX5_crane 66 = .ok (.istore 7, 2) := by decide +kernel
theorem dX5_crane_68 : decode cX5_crane 68 = .ok (.iload 7, 2) := by decide +kernel
theorem dX5_crane_70 : decode cX5_crane 70 = .ok (.aload_n 0, 1) := by decide +kernel
theorem dX5_crane_71 : decode cX5_crane 71 = .ok (.getfield 7, 3) := by decide +kernel
theorem dX5_crane_74 : decode cX5_crane 74 = .ok (.iconst 0, 1) := by decide +kernel
theorem dX5_crane_75 : decode cX5_crane 75 = .ok (.iaload, 1) := by decide +kernel
theorem dX5_crane_76 : decode cX5_crane 76 = .ok (.if_icmp .ge 35, 3) := by decide +kernel
theorem dX5_crane_79 : decode cX5_crane 79 = .ok (.aload_n 0, 1) := by decide +kernel
theorem dX5_crane_80 : decode cX5_crane 80 = .ok (.iload 7, 2) := by decide +kernel
theorem dX5_crane_82 : decode cX5_crane 82 = .ok (.iconst 0, 1) := by decide +kernel
theorem dX5_crane_83 : decode cX5_crane 83 = .ok (.invokevirtual 34, 3) := by decide +kernel
theorem dX5_crane_86 : decode cX5_crane 86 = .ok (.iload_n 1, 1) := by decide +kernel
theorem dX5_crane_87 : decode cX5_crane 87 = .ok (.if_icmp .ne 18, 3) := by decide +kernel
theorem dX5_crane_90 : decode cX5_crane 90 = .ok (.aload_n 0, 1) := by decide +kernel
theorem dX5_crane_91 : decode cX5_crane 91 = .ok (.iload 7, 2) := by decide +kernel
theorem dX5_crane_93 : decode cX5_crane 93 = .ok (.iconst 1, 1) := by decide +kernel
theorem dX5_crane_94 : decode cX5_crane 94 = .ok (.invokevirtual 34, 3) := by decide +kernel
theorem dX5_crane_97 : decode cX5_crane 97 = .ok (.iload_n 2, 1) := by decide +kernel
theorem dX5_crane_98 : decode cX5_crane 98 = .ok (.if_icmp .ne 7, 3) := by decide +kernel
theorem dX5_crane_101 : decode cX5_crane 101 = .ok (.sipush (-1002), 3) := by decide +kernel
theorem dX5_crane_104 : decode cX5_crane 104 = .ok (.ireturn, 1) := by decide +kernel
theorem dX5_crane_105 : decode cX5_crane 105 = .ok (.iinc 7 1, 3) := by decide +kernel
theorem dX5_crane_108 : decode cX5_crane 108 = .ok (.goto (-40), 3) := by decide +kernel
theorem dX5_crane_111 : decode cX5_crane 111 = .ok (.aload_n 0, 1) := by decide +kernel
theorem dX5_crane_112 : decode cX5_crane 112 = .ok (.getfield 7, 3) := by decide +kernel
theorem dX5_crane_115 : decode cX5_crane 115 = .ok (.iconst 0, 1) := by decide +kernel
theorem dX5_crane_116 : decode cX5_crane 116 = .ok (.iaload, 1) := by decide +kernel
theorem dX5_crane_117 : decode cX5_crane 117 = .ok (.bipush 8, 2) := by decide +kernel
theorem dX5_crane_119 : decode cX5_crane 119 = .ok (.if_icmp .ne 7, 3) := by decide +kernel
theorem dX5_crane_122 : decode cX5_crane 122 = .ok (.sipush (-1003), 3) := by decide +kernel
theorem dX5_crane_125 : decode cX5_crane 125 = .ok (.ireturn, 1) := by decide +kernel
theorem dX5_crane_126 : decode cX5_crane 126 = .ok (.aload_n 0, 1) := by decide +kernel
theorem dX5_crane_127 : decode cX5_crane 127 = .ok (.invokevirtual 91, 3) := by decide +kernel
theorem dX5_crane_130 : decode cX5_crane 130 = .ok (.iconst 4, 1) := by decide +kernel
theorem dX5_crane_131 : decode cX5_crane 131 = .ok (.bipush 6, 2) := by decide +kernel
theorem dX5_crane_133 : decode cX5_crane 133 = .ok (.aload_n 0, 1) := by decide +kernel
theorem dX5_crane_134 : decode cX5_crane 134 = .ok (.getfield 7, 3) := by decide +kernel
theorem dX5_crane_137 : decode cX5_crane 137 = .ok (.iconst 0, 1) := by decide +kernel
theorem dX5_crane_138 : decode cX5_crane 138 = .ok (.iaload, 1) := by decide +kernel
theorem dX5_crane_139 : decode cX5_crane 139 = .ok (.imul, 1) := by decide +kernel
theorem dX5_crane_140 : decode cX5_crane 140 = .ok (.iadd, 1) := by decide +kernel
theorem dX5_crane_141 : decode cX5_crane 141 = .ok (.istore 7, 2) := by decide +kernel
theorem dX5_crane_143 : decode cX5_crane 143 = .ok (.aload_n 0, 1) := by decide +kernel
theorem dX5_crane_144 : decode cX5_crane 144 = .ok (.getfield 7, 3) := by decide +kernel
theorem dX5_crane_147 : decode cX5_crane 147 = .ok (.iload 7, 2) := by decide +kernel
theorem dX5_crane_149 : decode cX5_crane 149 = .ok (.iload_n 1, 1) := by decide +kernel
theorem dX5_crane_150 : decode cX5_crane 150 = .ok (.iastore, 1) := by decide +kernel
theorem dX5_crane_151 : decode cX5_crane 151 = .ok (.aload_n 0, 1) := by decide +kernel
theorem dX5_crane_152 : decode cX5_crane 152 = .ok (.getfield 7, 3) := by decide +kernel
theorem dX5_crane_155 : decode cX5_crane 155 = .ok (.iload 7, 2) := by decide +kernel
theorem dX5_crane_157 : decode cX5_crane 157 = .ok (.iconst 1, 1) := by decide +kernel
theorem dX5_crane_158 : decode cX5_crane 158 = .ok (.iadd, 1) := by decide +kernel
theorem dX5_crane_159 : decode cX5_crane 159 = .ok (.iload_n 2, 1) := by decide +kernel
theorem dX5_crane_160 : decode cX5_crane 160 = .ok (.iastore, 1) := by decide +kernel
theorem dX5_crane_161 : decode cX5_crane 161 = .ok (.aload_n 0, 1) := by decide +kernel
theorem dX5_crane_162 : decode cX5_crane 162 = .ok (.getfield 7, 3) := by decide +kernel
theorem dX5_crane_165 : decode cX5_crane 165 = .ok (.iload 7, 2) := by decide +kernel
theorem dX5_crane_167 : decode cX5_crane 167 = .ok (.iconst 2, 1) := by decide +kernel
theorem dX5_crane_168 : decode cX5_crane 168 = .ok (.iadd, 1) := by decide +kernel
theorem dX5_crane_169 : decode cX5_crane 169 = .ok (.iload_n 3, 1) := by decide +kernel
theorem dX5_crane_170 : decode cX5_crane 170 = .ok (.iastore, 1) := by decide +kernel
theorem dX5_crane_171 : decode cX5_crane 171 = .ok (.aload_n 0, 1) := by decide +kernel
theorem dX5_crane_172 : decode cX5_crane 172 = .ok (.getfield 7, 3) := by decide +kernel
theorem dX5_crane_175 : decode cX5_crane 175 = .ok (.iload 7, 2) := by decide +kernel
theorem dX5_crane_177 : decode cX5_crane 177 = .ok (.iconst 3, 1) := by decide +kernel
theorem dX5_crane_178 : decode cX5_crane 178 = .ok (.iadd, 1) := by decide +kernel
theorem dX5_crane_179 : decode cX5_crane 179 = .ok (.iload 4, 2) := by decide +kernel
theorem dX5_crane_181 : decode cX5_crane 181 = .ok (.iastore, 1) := by decide +kernel
theorem dX5_crane_182 : decode cX5_crane 182 = .ok (.aload_n 0, 1) := by decide +kernel
theorem dX5_crane_183 : decode cX5_crane 183 = .ok (.getfield 7, 3) := by decide +kernel
theorem dX5_crane_186 : decode cX5_crane 186 = .ok (.iload 7, 2) := by decide +kernel
theorem dX5_crane_188 : decode cX5_crane 188 = .ok (.iconst 4, 1) := by decide +kernel
theorem dX5_crane_189 : decode cX5_crane 189 = .ok (.iadd, 1) := by decide +kernel
theorem dX5_crane_190 : decode cX5_crane 190 = .ok (.iload 5, 2) := by decide +kernel
theorem dX5_crane_192 : decode cX5_crane 192 = .ok (.iastore, 1) := by decide +kernel
theorem dX5_crane_193 : decode cX5_crane 193 = .ok (.aload_n 0, 1) := by decide +kernel
theorem dX5_crane_194 : decode cX5_crane 194 = .ok (.getfield 7, 3) := by decide +kernel
theorem dX5_crane_197 : decode cX5_crane 197 = .ok (.iload 7, 2) := by decide +kernel
theorem dX5_crane_199 : decode cX5_crane 199 = .ok (.iconst 5, 1) := by decide +kernel
theorem dX5_crane_200 : decode cX5_crane 200 = .ok (.iadd, 1) := by decide +kernel
theorem dX5_crane_201 : decode cX5_crane 201 = .ok (.iload 6, 2) := by decide +kernel
theorem dX5_crane_203 : decode cX5_crane 203 = .ok (.iastore, 1) := by decide +kernel
theorem dX5_crane_204 : decode cX5_crane 204 = .ok (.aload_n 0, 1) := by decide +kernel
theorem dX5_crane_205 : decode cX5_crane 205 = .ok (.getfield 7, 3) := by decide +kernel
theorem dX5_crane_208 : decode cX5_crane 208 = .ok (.iconst 0, 1) := by decide +kernel
theorem dX5_crane_209 : decode cX5_crane 209 = .ok (.dup2, 1) := by decide +kernel
theorem dX5_crane_210 : decode cX5_crane 210 = .ok (.iaload, 1) := by decide +kernel
theorem dX5_crane_211 : decode cX5_crane 211 = .ok (.iconst 1, 1) := by decide +kernel
theorem dX5_crane_212 : decode cX5_crane 212 = .ok (.iadd, 1) := by decide +kernel
theorem dX5_crane_213 : decode cX5_crane 213 = .ok (.iastore, 1) := by decide +kernel
theorem dX5_crane_214 : decode cX5_crane 214 = .ok (.aload_n 0, 1) := by decide +kernel
theorem dX5_crane_215 : decode cX5_crane 215 = .ok (.getfield 7, 3) := by decide +kernel
theorem dX5_crane_218 : decode cX5_crane 218 = .ok (.iconst 0, 1) := by decide +kernel
theorem dX5_crane_219 : decode cX5_crane 219 = .ok (.iaload, 1) := by decide +kernel
theorem dX5_crane_220 : decode cX5_crane 220 = .ok (.iconst 1, 1) := by decide +kernel
theorem dX5_crane_221 : decode cX5_crane 221 = .ok (.isub, 1) := by decide +kernel
theorem dX5_crane_222 : decode cX5_crane 222 = .ok (.ireturn, 1) := by decide +kernel
set_option maxRecDepth 20000 in
theorem ggX5_noise_X5_isCrane : GoodIn wsX5_noise wsX5_isCrane := goodIn_r _ [6, 1, 7, 8, 5, 9, 58, 59, 60, 61, 62, 63, 64, 65, 66] (by decide +kernel) (by decide +kernel)
set_option maxRecDepth 20000 in
theorem gX5_noise_X5_isCrane : GoodIn wsX5_noise (wsV RX5 94 RX5 yX5_isCrane wsX5_isCrane) := goodIn_app (goodIn_of _ (by decide +kernel)) ggX5_noise_X5_isCrane
set_option maxRecDepth 20000 in
theorem ggX5_noise_X5_in : GoodIn wsX5_noise wsX5_in := goodIn_r _ [9] (by decide +kernel) (by decide +kernel)
set_option maxRecDepth 20000 in
theorem gX5_noise_X5_in : GoodIn wsX5_noise (va_wsS RX5 26 yX5_in wsX5_in) := goodIn_app (goodIn_of _ (by decide +kernel)) ggX5_noise_X5_in
set_option maxRecDepth 20000 in
theorem ggX5_noise_X5_records : GoodIn wsX5_noise wsX5_records := goodIn_r _ [13, 14, 15, 1, 58, 59, 60, 61, 62, 63, 64, 65, 66] (by decide +kernel) (by decide +kernel)
set_option maxRecDepth 20000 in
theorem gX5_noise_X5_records : GoodIn wsX5_noise (wsV RX5 91 RX5 yX5_records wsX5_records) := goodIn_app (goodIn_of _ (by decide +kernel)) ggX5_noise_X5_records
set_option maxRecDepth 20000 in
theorem ggX5_noise_X5_savesAll : GoodIn wsX5_noise wsX5_savesAll := goodIn_r _ [19, 20, 21, 22, 5, 23, 1, 24, 25, 26, 27, 28, 29, 30, 31, 32, 33, 34, 35, 36, 37, 38, 39, 40, 41, 42, 43, 44, 45, 46, 47, 48, 49, 50, 51, 52, 53, 54, 55, 56, 57, 58, 59, 60, 61, 62, 63, 64, 65, 66] (by decide +kernel) (by decide +kernel)
set_option maxRecDepth 20000 in
theorem gX5_noise_X5_savesAll : GoodIn wsX5_noise (wsV RX5 97 RX5 yX5_savesAll wsX5_savesAll) := goodIn_app (goodIn_of _ (by decide +kernel)) ggX5_noise_X5_savesAll
theorem dX5_noise_0 : decode cX5_noise 0 = .ok (.aload_n 0, 1) := by decide +kernel
theorem dX5_noise_1 : decode cX5_noise 1 = .ok (.iload_n 1, 1) := by decide +kernel
theorem dX5_noise_2 : decode cX5_noise 2 = .ok (.invokevirtual 94, 3) := by decide +kernel
theorem dX5_noise_5 : decode cX5_noise 5 = .ok (.ifCond .eq 13, 3) := by decide +kernel
theorem dX5_noise_8 : decode cX5_noise 8 = .ok (.iload_n 2, 1) := by decide +kernel
theorem dX5_noise_9 : decode cX5_noise 9 = .ok (.iconst 1, 1) := by decide +kernel
theorem dX5_noise_10 : decode cX5_noise 10 = .ok (.bipush 9, 2) := by decide +kernel
theorem dX5_noise_12 : decode cX5_noise 12 = .ok (.invokestatic 26, 3) := by decide +kernel
theorem dX5_noise_15 : decode cX5_noise 15 = .ok (.ifCond .ne 7, 3) := by decide +kernel
theorem dX5_noise_18 : decode cX5_noise 18 = .ok (.sipush (-1001), 3) := by decide +kernel
theorem dX5_noise_21 : decode cX5_noise 21 = .ok (.ireturn, 1) := by decide +kernel
theorem dX5_noise_22 : decode cX5_noise 22 = .ok (.aload_n 0, 1) := by decide +kernel
theorem dX5_noise_23 : decode cX5_noise 23 = .ok (.invokevirtual 91, 3) := by decide +kernel
theorem dX5_noise_26 : decode cX5_noise 26 = .ok (.aload_n 0, 1) := by decide +kernel
theorem dX5_noise_27 : decode cX5_noise 27 = .ok (.getfield 7, 3) := by decide +kernel
theorem dX5_noise_30 : decode cX5_noise 30 = .ok (.iconst 4, 1) := by decide +kernel
theorem dX5_noise_31 : decode cX5_noise 31 = .ok (.bipush 6, 2) := by decide +kernel
theorem dX5_noise_33 : decode cX5_noise 33 = .ok (.iload_n 1, 1) := by decide +kernel
theorem dX5_noise_34 : decode cX5_noise 34 = .ok (.imul, 1) := by decide +kernel
theorem dX5_noise_35 : decode cX5_noise 35 = .ok (.iadd, 1) := by decide +kernel
theorem dX5_noise_36 : decode cX5_noise 36 = .ok (.iconst 5, 1) := by decide +kernel
theorem dX5_noise_37 : decode cX5_noise 37 = .ok (.iadd, 1) := by decide +kernel
theorem dX5_noise_38 : decode cX5_noise 38 = .ok (.iload_n 2, 1) := by decide +kernel
theorem dX5_noise_39 : decode cX5_noise 39 = .ok (.iastore, 1) := by decide +kernel
theorem dX5_noise_40 : decode cX5_noise 40 = .ok (.aload_n 0, 1) := by decide +kernel
theorem dX5_noise_41 : decode cX5_noise 41 = .ok (.invokevirtual 97, 3) := by decide +kernel
theorem dX5_noise_44 : decode cX5_noise 44 = .ok (.ireturn, 1) := by decide +kernel
set_option maxRecDepth 20000 in
theorem ggX5_valid_X5_of : GoodIn wsX5_valid wsX5_of := goodIn_r _ [6, 1, 7, 8, 9, 10, 11, 12, 13, 14, 15] (by decide +kernel) (by decide +kernel)
set_option maxRecDepth 20000 in
theorem gX5_valid_X5_of : GoodIn wsX5_valid (wsV RX5 45 RX5 yX5_of wsX5_of) := goodIn_app (goodIn_of _ (by decide +kernel)) ggX5_valid_X5_of
theorem dX5_valid_0 : decode cX5_valid 0 = .ok (.iconst 0, 1) := by decide +kernel
theorem dX5_valid_1 : decode cX5_valid 1 = .ok (.istore_n 2, 1) := by decide +kernel
theorem dX5_valid_2 : decode cX5_valid 2 = .ok (.iconst 0, 1) := by decide +kernel
theorem dX5_valid_3 : decode cX5_valid 3 = .ok (.istore_n 3, 1) := by decide +kernel
theorem dX5_valid_4 : decode cX5_valid 4 = .ok (.iload_n 3, 1) := by decide +kernel
theorem dX5_valid_5 : decode cX5_valid 5 = .ok (.aload_n 0, 1) := by decide +kernel
theorem dX5_valid_6 : decode cX5_valid 6 = .ok (.getfield 7, 3) := by decide +kernel
theorem dX5_valid_9 : decode cX5_valid 9 = .ok (.sipush 442, 3) := by decide +kernel
theorem dX5_valid_12 : decode cX5_valid 12 = .ok (.iaload, 1) := by decide +kernel
theorem dX5_valid_13 : decode cX5_valid 13 = .ok (.if_icmp .ge 42, 3) := by decide +kernel
theorem dX5_valid_16 : decode cX5_valid 16 = .ok (.iload_n 2, 1) := by decide +kernel
theorem dX5_valid_17 : decode cX5_valid 17 = .ok (.aload_n 0, 1) := by decide +kernel
theorem dX5_valid_18 : decode cX5_valid 18 = .ok (.iload_n 3, 1) := by decide +kernel
theorem dX5_valid_19 : decode cX5_valid 19 = .ok (.iconst 4, 1) := by decide +kernel
theorem dX5_valid_20 : decode cX5_valid 20 = .ok (.invokevirtual 45, 3) := by decide +kernel
theorem dX5_valid_23 : decode cX5_valid 23 = .ok (.iconst 1, 1) := by decide +kernel
theorem dX5_valid_24 : decode cX5_valid 24 = .ok (.if_icmp .ne 22, 3) := by decide +kernel
theorem dX5_valid_27 : decode cX5_valid 27 = .ok (.iload_n 1, 1) := by decide +kernel
theorem dX5_valid_28 : decode cX5_valid 28 = .ok (.iconst (-1), 1) := by decide +kernel
theorem dX5_valid_29 : decode cX5_valid 29 = .ok (.if_icmp .eq 13, 3) := by decide +kernel
theorem dX5_valid_32 : decode cX5_valid 32 = .ok (.aload_n 0, 1) := by decide +kernel
theorem dX5_valid_33 : decode cX5_valid 33 = .ok (.iload_n 3, 1) := by decide +kernel
theorem dX5_valid_34 : decode cX5_valid 34 = .ok (.iconst 0, 1) := by decide +kernel
theorem dX5_valid_35 : decode cX5_valid 35 = .ok (.invokevirtual 45, 3) := by decide +kernel
theorem dX5_valid_38 : decode cX5_valid 38 = .ok (.iload_n 1, 1) := by decide +kernel
theorem dX5_valid_39 : decode cX5_valid 39 = .ok (.if_icmp .ne 7, 3) := by decide +kernel
theorem dX5_valid_42 : decode cX5_valid 42 = .ok (.iconst 1, 1) := by decide +kernel
theorem dX5_valid_43 : decode cX5_valid 43 = .ok (.goto 4, 3) := by decide +kernel
theorem dX5_valid_46 : decode cX5_valid 46 = .ok (.iconst 0, 1) := by decide +kernel
theorem dX5_valid_47 : decode cX5_valid 47 = .ok (.iadd, 1) := by decide +kernel
theorem dX5_valid_48 : decode cX5_valid 48 = .ok (.istore_n 2, 1) := by decide +kernel
theorem dX5_valid_49 : decode cX5_valid 49 = .ok (.iinc 3 1, 3) := by decide +kernel
theorem dX5_valid_52 : decode cX5_valid 52 = .ok (.goto (-48), 3) := by decide +kernel
theorem dX5_valid_55 : decode cX5_valid 55 = .ok (.iload_n 2, 1) := by decide +kernel
theorem dX5_valid_56 : decode cX5_valid 56 = .ok (.ireturn, 1) := by decide +kernel
set_option maxRecDepth 20000 in
theorem ggX5_craneOf_X5_isCrane : GoodIn wsX5_craneOf wsX5_isCrane := goodIn_r _ [6, 1, 7, 8, 5, 9, 22, 23, 24, 25, 26, 27, 28, 29, 30] (by decide +kernel) (by decide +kernel)
set_option maxRecDepth 20000 in
theorem gX5_craneOf_X5_isCrane : GoodIn wsX5_craneOf (wsV RX5 94 RX5 yX5_isCrane wsX5_isCrane) := goodIn_app (goodIn_of _ (by decide +kernel)) ggX5_craneOf_X5_isCrane
set_option maxRecDepth 20000 in
theorem ggX5_craneOf_X5_in : GoodIn wsX5_craneOf wsX5_in := goodIn_r _ [9] (by decide +kernel) (by decide +kernel)
set_option maxRecDepth 20000 in
theorem gX5_craneOf_X5_in : GoodIn wsX5_craneOf (va_wsS RX5 26 yX5_in wsX5_in) := goodIn_app (goodIn_of _ (by decide +kernel)) ggX5_craneOf_X5_in
set_option maxRecDepth 20000 in
theorem ggX5_craneOf_X5_craned : GoodIn wsX5_craneOf wsX5_craned := goodIn_r _ [13, 1, 22, 23, 24, 25, 26, 27, 28, 29, 30] (by decide +kernel) (by decide +kernel)
set_option maxRecDepth 20000 in
theorem gX5_craneOf_X5_craned : GoodIn wsX5_craneOf (wsV RX5 34 RX5 yX5_craned wsX5_craned) := goodIn_app (goodIn_of _ (by decide +kernel)) ggX5_craneOf_X5_craned
set_option maxRecDepth 20000 in
theorem ggX5_craneOf_X5_valid : GoodIn wsX5_craneOf wsX5_valid := goodIn_r _ [17, 1, 18, 19, 20, 5, 21, 22, 23, 24, 25, 26, 27, 28, 29, 30] (by decide +kernel) (by decide +kernel)
set_option maxRecDepth 20000 in
theorem gX5_craneOf_X5_valid : GoodIn wsX5_craneOf (wsV RX5 101 RX5 yX5_valid wsX5_valid) := goodIn_app (goodIn_of _ (by decide +kernel)) ggX5_craneOf_X5_valid
theorem dX5_craneOf_0 : decode cX5_craneOf 0 = .ok (.aload_n 0, 1) := by decide +kernel
theorem dX5_craneOf_1 : decode cX5_craneOf 1 = .ok (.iload_n 1, 1) := by decide +kernel
theorem dX5_craneOf_2 : decode cX5_craneOf 2 = .ok (.invokevirtual 94, 3) := by decide +kernel
theorem dX5_craneOf_5 : decode cX5_craneOf 5 = .ok (.ifCond .eq 13, 3) := by decide +kernel
theorem dX5_craneOf_8 : decode cX5_craneOf 8 = .ok (.iload_n 2, 1) := by decide +kernel
theorem dX5_craneOf_9 : decode cX5_craneOf 9 = .ok (.iconst 0, 1) := by decide +kernel
theorem dX5_craneOf_10 : decode cX5_craneOf 10 = .ok (.bipush 7, 2) := by decide +kernel
theorem dX5_craneOf_12 : decode cX5_craneOf 12 = .ok (.invokestatic 26, 3) := by decide +kernel
theorem dX5_craneOf_15 : decode cX5_craneOf 15 = .ok (.ifCond .ne 7, 3) := by decide +kernel
theorem dX5_craneOf_18 : decode cX5_craneOf 18 = .ok (.sipush (-1001), 3) := by decide +kernel
theorem dX5_craneOf_21 : decode cX5_craneOf 21 = .ok (.ireturn, 1) := by decide +kernel
theorem dX5_craneOf_22 : decode cX5_craneOf 22 = .ok (.iload_n 2, 1) := by decide +kernel
theorem dX5_craneOf_23 : decode cX5_craneOf 23 = .ok (.bipush 6, 2) := by decide +kernel
theorem dX5_craneOf_25 : decode cX5_craneOf 25 = .ok (.if_icmp .ge 12, 3) := by decide +kernel
theorem dX5_craneOf_28 : decode cX5_craneOf 28 = .ok (.aload_n 0, 1) := by decide +kernel
theorem dX5_craneOf_29 : decode cX5_craneOf 29 = .ok (.iload_n 1, 1) := by decide +kernel
theorem dX5_craneOf_30 : decode cX5_craneOf 30 = .ok (.iload_n 2, 1) := by decide +kernel
theorem dX5_craneOf_31 : decode cX5_craneOf 31 = .ok (.invokevirtual 34, 3) := by decide +kernel
theorem dX5_craneOf_34 : decode cX5_craneOf 34 = .ok (.goto 32, 3) := by decide +kernel
theorem dX5_craneOf_37 : decode cX5_craneOf 37 = .ok (.iload_n 2, 1) := by decide +kernel
theorem dX5_craneOf_38 : decode cX5_craneOf 38 = .ok (.bipush 6, 2) := by decide +kernel
theorem dX5_craneOf_40 : decode cX5_craneOf 40 = .ok (.if_icmp .ne 11, 3) := by decide +kernel
theorem dX5_craneOf_43 : decode cX5_craneOf 43 = .ok (.aload_n 0, 1) := by decide +kernel
theorem dX5_craneOf_44 : decode cX5_craneOf 44 = .ok (.iload_n 1, 1) := by decide +kernel
theorem dX5_craneOf_45 : decode cX5_craneOf 45 = .ok (.invokevirtual 101, 3) := by decide +kernel
theorem dX5_craneOf_48 : decode cX5_craneOf 48 = .ok (.goto 18, 3) := by decide +kernel
theorem dX5_craneOf_51 : decode cX5_craneOf 51 = .ok (.aload_n 0, 1) := by decide +kernel
theorem dX5_craneOf_52 : decode cX5_craneOf 52 = .ok (.getfield 7, 3) := by decide +kernel
theorem dX5_craneOf_55 : decode cX5_craneOf 55 = .ok (.iconst 1, 1) := by decide +kernel
theorem dX5_craneOf_56 : decode cX5_craneOf 56 = .ok (.iaload, 1) := by decide +kernel
theorem dX5_craneOf_57 : decode cX5_craneOf 57 = .ok (.aload_n 0, 1) := by decide +kernel
theorem dX5_craneOf_58 : decode cX5_craneOf 58 = .ok (.iload_n 1, 1) := by decide +kernel
theorem dX5_craneOf_59 : decode cX5_craneOf 59 = .ok (.iconst 3, 1) := by decide +kernel
theorem dX5_craneOf_60 : decode cX5_craneOf 60 = .ok (.invokevirtual 34, 3) := by decide +kernel
theorem dX5_craneOf_63 : decode cX5_craneOf 63 = .ok (.iconst 2, 1) := by decide +kernel
theorem dX5_craneOf_64 : decode cX5_craneOf 64 = .ok (.idiv, 1) := by decide +kernel
theorem dX5_craneOf_65 : decode cX5_craneOf 65 = .ok (.isub, 1) := by decide +kernel
theorem dX5_craneOf_66 : decode cX5_craneOf 66 = .ok (.ireturn, 1) := by decide +kernel
set_option maxRecDepth 20000 in
theorem ggX5_set_X5_in : GoodIn wsX5_set wsX5_in := goodIn_r _ [5] (by decide +kernel) (by decide +kernel)
set_option maxRecDepth 20000 in
theorem gX5_set_X5_in : GoodIn wsX5_set (va_wsS RX5 26 yX5_in wsX5_in) := goodIn_app (goodIn_of _ (by decide +kernel)) ggX5_set_X5_in
set_option maxRecDepth 20000 in
theorem ggX5_set_X5_records : GoodIn wsX5_set wsX5_records := goodIn_r _ [9, 10, 11, 1, 62, 63, 64, 65, 66, 67, 68, 69, 70] (by decide +kernel) (by decide +kernel)
set_option maxRecDepth 20000 in
theorem gX5_set_X5_records : GoodIn wsX5_set (wsV RX5 91 RX5 yX5_records wsX5_records) := goodIn_app (goodIn_of _ (by decide +kernel)) ggX5_set_X5_records
set_option maxRecDepth 20000 in
theorem ggX5_set_X5_savesAll : GoodIn wsX5_set wsX5_savesAll := goodIn_r _ [15, 16, 17, 18, 4, 19, 1, 20, 21, 22, 23, 24, 25, 26, 27, 28, 29, 30, 31, 32, 33, 34, 35, 36, 37, 38, 39, 40, 41, 42, 43, 44, 45, 46, 47, 48, 49, 50, 51, 52, 53, 62, 63, 64, 65, 66, 67, 68, 69, 70] (by decide +kernel) (by decide +kernel)
set_option maxRecDepth 20000 in
theorem gX5_set_X5_savesAll : GoodIn wsX5_set (wsV RX5 97 RX5 yX5_savesAll wsX5_savesAll) := goodIn_app (goodIn_of _ (by decide +kernel)) ggX5_set_X5_savesAll
set_option maxRecDepth 20000 in
theorem ggX5_set_X5_calms : GoodIn wsX5_set wsX5_calms := goodIn_r _ [57, 1, 24, 25, 26, 4, 27, 58, 59, 60, 61, 28, 29, 30, 31, 62, 63, 64, 65, 66, 67, 68, 69, 70] (by decide +kernel) (by decide +kernel)
set_option maxRecDepth 20000 in
theorem gX5_set_X5_calms : GoodIn wsX5_set (wsV RX5 104 RX5 yX5_calms wsX5_calms) := goodIn_app (goodIn_of _ (by decide +kernel)) ggX5_set_X5_calms
theorem dX5_set_0 : decode cX5_set 0 = .ok (.iload_n 1, 1) := by decide +kernel
theorem dX5_set_1 : decode cX5_set 1 = .ok (.ifCond .ne 15, 3) := by decide +kernel
theorem dX5_set_4 : decode cX5_set 4 = .ok (.iload_n 2, 1) := by decide +kernel
theorem dX5_set_5 : decode cX5_set 5 = .ok (.bipush 50, 2) := by decide +kernel
theorem dX5_set_7 : decode cX5_set 7 = .ok (.sipush 150, 3) := by decide +kernel
theorem dX5_set_10 : decode cX5_set 10 = .ok (.invokestatic 26, 3) := by decide +kernel
theorem dX5_set_13 : decode cX5_set 13 = .ok (.goto 39, 3) := by decide +kernel
theorem dX5_set_16 : decode cX5_set 16 = .ok (.iload_n 1, 1) := by decide +kernel
theorem dX5_set_17 : decode cX5_set 17 = .ok (.iconst 1, 1) := by decide +kernel
theorem dX5_set_18 : decode cX5_set 18 = .ok (.if_icmp .ne 14, 3) := by decide +kernel
theorem dX5_set_21 : decode cX5_set 21 = .ok (.iload_n 2, 1) := by decide +kernel
theorem dX5_set_22 : decode cX5_set 22 = .ok (.iconst 0, 1) := by decide +kernel
theorem dX5_set_23 : decode cX5_set 23 = .ok (.sipush 200, 3) := by decide +kernel
theorem dX5_set_26 : decode cX5_set 26 = .ok (.invokestatic 26, 3) := by decide +kernel
theorem dX5_set_29 : decode cX5_set 29 = .ok (.goto 23, 3) := by decide +kernel
theorem dX5_set_32 : decode cX5_set 32 = .ok (.iload_n 1, 1) := by decide +kernel
theorem dX5_set_33 : decode cX5_set 33 = .ok (.iconst 2, 1) := by decide +kernel
theorem dX5_set_34 : decode cX5_set 34 = .ok (.if_icmp .ne 17, 3) := by decide +kernel
theorem dX5_set_37 : decode cX5_set 37 = .ok (.iload_n 2, 1) := by decide +kernel
theorem dX5_set_38 : decode cX5_set 38 = .ok (.iconst 0, 1) := by decide +kernel
theorem dX5_set_39 : decode cX5_set 39 = .ok (.bipush 50, 2) := by decide +kernel
theorem dX5_set_41 : decode cX5_set 41 = .ok (.invokestatic 26, 3) := by decide +kernel
theorem dX5_set_44 : decode cX5_set 44 = .ok (.ifCond .eq 7, 3) := by decide +kernel
theorem dX5_set_47 : decode cX5_set 47 = .ok (.iconst 1, 1) := by decide +kernel
theorem dX5_set_48 : decode cX5_set 48 = .ok (.goto 4, 3) := by decide +kernel
theorem dX5_set_51 : decode cX5_set 51 = .ok (.iconst 0, 1) := by decide +kernel
theorem dX5_set_52 : decode cX5_set 52 = .ok (.istore_n 3, 1) := by decide +kernel
theorem dX5_set_53 : decode cX5_set 53 = .ok (.iload_n 3, 1) := by decide +kernel
theorem dX5_set_54 : decode cX5_set 54 = .ok (.ifCond .ne 7, 3) := by decide +kernel
theorem dX5_set_57 : decode cX5_set 57 = .ok (.sipush (-1001), 3) := by decide +kernel
theorem dX5_set_60 : decode cX5_set 60 = .ok (.ireturn, 1) := by decide +kernel
theorem dX5_set_61 : decode cX5_set 61 = .ok (.aload_n 0, 1) := by decide +kernel
theorem dX5_set_62 : decode cX5_set 62 = .ok (.invokevirtual 91, 3) := by decide +kernel
theorem dX5_set_65 : decode cX5_set 65 = .ok (.aload_n 0, 1) := by decide +kernel
theorem dX5_set_66 : decode cX5_set 66 = .ok (.getfield 7, 3) := by decide +kernel
theorem dX5_set_69 : decode cX5_set 69 = .ok (.iconst 1, 1) := by decide +kernel
theorem dX5_set_70 : decode cX5_set 70 = .ok (.iload_n 1, 1) := by decide +kernel
theorem dX5_set_71 : decode cX5_set 71 = .ok (.iadd, 1) := by decide +kernel
theorem dX5_set_72 : decode cX5_set 72 = .ok (.iload_n 2, 1) := by decide +kernel
theorem dX5_set_73 : decode cX5_set 73 = .ok (.iastore, 1) := by decide +kernel
theorem dX5_set_74 : decode cX5_set 74 = .ok (.iload_n 1, 1) := by decide +kernel
theorem dX5_set_75 : decode cX5_set 75 = .ok (.iconst 1, 1) := by decide +kernel
theorem dX5_set_76 : decode cX5_set 76 = .ok (.if_icmp .ne 10, 3) := by decide +kernel
theorem dX5_set_79 : decode cX5_set 79 = .ok (.aload_n 0, 1) := by decide +kernel
theorem dX5_set_80 : decode cX5_set 80 = .ok (.invokevirtual 97, 3) := by decide +kernel
theorem dX5_set_83 : decode cX5_set 83 = .ok (.goto 4, 3) := by decide +kernel
theorem dX5_set_86 : decode cX5_set 86 = .ok (.iconst 0, 1) := by decide +kernel
theorem dX5_set_87 : decode cX5_set 87 = .ok (.istore 4, 2) := by decide +kernel
theorem dX5_set_89 : decode cX5_set 89 = .ok (.iconst 0, 1) := by decide +kernel
theorem dX5_set_90 : decode cX5_set 90 = .ok (.istore 5, 2) := by decide +kernel
theorem dX5_set_92 : decode cX5_set 92 = .ok (.iload 5, 2) := by decide +kernel
theorem dX5_set_94 : decode cX5_set 94 = .ok (.bipush 30, 2) := by decide +kernel
theorem dX5_set_96 : decode cX5_set 96 = .ok (.if_icmp .ge 24, 3) := by decide +kernel
theorem dX5_set_99 : decode cX5_set 99 = .ok (.iload_n 1, 1) := by decide +kernel
theorem dX5_set_100 : decode cX5_set 100 = .ok (.ifCond .ne 20, 3) := by decide +kernel
theorem dX5_set_103 : decode cX5_set 103 = .ok (.iload 4, 2) := by decide +kernel
theorem dX5_set_105 : decode cX5_set 105 = .ok (.aload_n 0, 1) := by decide +kernel
theorem dX5_set_106 : decode cX5_set 106 = .ok (.iload 5, 2) := by decide +kernel
theorem dX5_set_108 : decode cX5_set 108 = .ok (.invokevirtual 104, 3) := by decide +kernel
theorem dX5_set_111 : decode cX5_set 111 = .ok (.iadd, 1) := by decide +kernel
theorem dX5_set_112 : decode cX5_set 112 = .ok (.istore 4, 2) := by decide +kernel
theorem dX5_set_114 : decode cX5_set 114 = .ok (.iinc 5 1, 3) := by decide +kernel
theorem dX5_set_117 : decode cX5_set 117 = .ok (.goto (-25), 3) := by decide +kernel
theorem dX5_set_120 : decode cX5_set 120 = .ok (.iload 4, 2) := by decide +kernel
theorem dX5_set_122 : decode cX5_set 122 = .ok (.ireturn, 1) := by decide +kernel
set_option maxRecDepth 20000 in
theorem ggX5_wind_X5_isNight : GoodIn wsX5_wind wsX5_isNight := goodIn_r _ [5, 6, 7, 4, 8] (by decide +kernel) (by decide +kernel)
set_option maxRecDepth 20000 in
theorem gX5_wind_X5_isNight : GoodIn wsX5_wind (va_wsS RX5 107 yX5_isNight wsX5_isNight) := goodIn_app (goodIn_of _ (by decide +kernel)) ggX5_wind_X5_isNight
set_option maxRecDepth 20000 in
theorem ggX5_wind_X5_in : GoodIn wsX5_wind wsX5_in := goodIn_r _ [8] (by decide +kernel) (by decide +kernel)
set_option maxRecDepth 20000 in
theorem gX5_wind_X5_in : GoodIn wsX5_wind (va_wsS RX5 26 yX5_in wsX5_in) := goodIn_app (goodIn_of _ (by decide +kernel)) ggX5_wind_X5_in
set_option maxRecDepth 20000 in
theorem ggX5_wind_X5_records : GoodIn wsX5_wind wsX5_records := goodIn_r _ [12, 13, 14, 1, 31, 32, 33, 34, 35, 36, 37, 38, 39] (by decide +kernel) (by decide +kernel)
set_option maxRecDepth 20000 in
theorem gX5_wind_X5_records : GoodIn wsX5_wind (wsV RX5 91 RX5 yX5_records wsX5_records) := goodIn_app (goodIn_of _ (by decide +kernel)) ggX5_wind_X5_records
set_option maxRecDepth 20000 in
theorem ggX5_wind_X5_calms : GoodIn wsX5_wind wsX5_calms := goodIn_r _ [18, 1, 19, 20, 21, 4, 22, 23, 24, 25, 26, 27, 28, 29, 30, 31, 32, 33, 34, 35, 36, 37, 38, 39] (by decide +kernel) (by decide +kernel)
set_option maxRecDepth 20000 in
theorem gX5_wind_X5_calms : GoodIn wsX5_wind (wsV RX5 104 RX5 yX5_calms wsX5_calms) := goodIn_app (goodIn_of _ (by decide +kernel)) ggX5_wind_X5_calms
theorem dX5_wind_0 : decode cX5_wind 0 = .ok (.iload_n 1, 1) := by decide +kernel
theorem dX5_wind_1 : decode cX5_wind 1 = .ok (.invokestatic 107, 3) := by decide +kernel
theorem dX5_wind_4 : decode cX5_wind 4 = .ok (.ifCond .eq 13, 3) := by decide +kernel
theorem dX5_wind_7 : decode cX5_wind 7 = .ok (.iload_n 2, 1) := by decide +kernel
theorem dX5_wind_8 : decode cX5_wind 8 = .ok (.iconst 0, 1) := by decide +kernel
theorem dX5_wind_9 : decode cX5_wind 9 = .ok (.bipush 99, 2) := by decide +kernel
theorem dX5_wind_11 : decode cX5_wind 11 = .ok (.invokestatic 26, 3) := by decide +kernel
theorem dX5_wind_14 : decode cX5_wind 14 = .ok (.ifCond .ne 7, 3) := by decide +kernel
theorem dX5_wind_17 : decode cX5_wind 17 = .ok (.sipush (-1001), 3) := by decide +kernel
theorem dX5_wind_20 : decode cX5_wind 20 = .ok (.ireturn, 1) := by decide +kernel
theorem dX5_wind_21 : decode cX5_wind 21 = .ok (.aload_n 0, 1) := by decide +kernel
theorem dX5_wind_22 : decode cX5_wind 22 = .ok (.invokevirtual 91, 3) := by decide +kernel
theorem dX5_wind_25 : decode cX5_wind 25 = .ok (.aload_n 0, 1) := by decide +kernel
theorem dX5_wind_26 : decode cX5_wind 26 = .ok (.getfield 7, 3) := by decide +kernel
theorem dX5_wind_29 : decode cX5_wind 29 = .ok (.bipush 52, 2) := by decide +kernel
theorem dX5_wind_31 : decode cX5_wind 31 = .ok (.iload_n 1, 1) := by decide +kernel
theorem dX5_wind_32 : decode cX5_wind 32 = .ok (.iadd, 1) := by decide +kernel
theorem dX5_wind_33 : decode cX5_wind 33 = .ok (.iload_n 2, 1) := by decide +kernel
theorem dX5_wind_34 : decode cX5_wind 34 = .ok (.iastore, 1) := by decide +kernel
theorem dX5_wind_35 : decode cX5_wind 35 = .ok (.aload_n 0, 1) := by decide +kernel
theorem dX5_wind_36 : decode cX5_wind 36 = .ok (.iload_n 1, 1) := by decide +kernel
theorem dX5_wind_37 : decode cX5_wind 37 = .ok (.invokevirtual 104, 3) := by decide +kernel
theorem dX5_wind_40 : decode cX5_wind 40 = .ok (.ireturn, 1) := by decide +kernel
set_option maxRecDepth 20000 in
theorem ggX5_allow_X5_isStreet : GoodIn wsX5_allow wsX5_isStreet := goodIn_r _ [5, 6, 7, 4, 8] (by decide +kernel) (by decide +kernel)
set_option maxRecDepth 20000 in
theorem gX5_allow_X5_isStreet : GoodIn wsX5_allow (va_wsS RX5 87 yX5_isStreet wsX5_isStreet) := goodIn_app (goodIn_of _ (by decide +kernel)) ggX5_allow_X5_isStreet
set_option maxRecDepth 20000 in
theorem ggX5_allow_X5_isNight : GoodIn wsX5_allow wsX5_isNight := goodIn_r _ [11, 6, 7, 4, 8] (by decide +kernel) (by decide +kernel)
set_option maxRecDepth 20000 in
theorem gX5_allow_X5_isNight : GoodIn wsX5_allow (va_wsS RX5 107 yX5_isNight wsX5_isNight) := goodIn_app (goodIn_of _ (by decide +kernel)) ggX5_allow_X5_isNight
set_option maxRecDepth 20000 in
theorem ggX5_allow_X5_in : GoodIn wsX5_allow wsX5_in := goodIn_r _ [8] (by decide +kernel) (by decide +kernel)
set_option maxRecDepth 20000 in
theorem gX5_allow_X5_in : GoodIn wsX5_allow (va_wsS RX5 26 yX5_in wsX5_in) := goodIn_app (goodIn_of _ (by decide +kernel)) ggX5_allow_X5_in
set_option maxRecDepth 20000 in
theorem ggX5_allow_X5_records : GoodIn wsX5_allow wsX5_records := goodIn_r _ [15, 16, 17, 1, 56, 57, 58, 59, 60, 61, 62, 63, 64] (by decide +kernel) (by decide +kernel)
set_option maxRecDepth 20000 in
theorem gX5_allow_X5_records : GoodIn wsX5_allow (wsV RX5 91 RX5 yX5_records wsX5_records) := goodIn_app (goodIn_of _ (by decide +kernel)) ggX5_allow_X5_records
set_option maxRecDepth 20000 in
theorem ggX5_allow_X5_spot : GoodIn wsX5_allow wsX5_spot := goodIn_r _ [20] (by decide +kernel) (by decide +kernel)
set_option maxRecDepth 20000 in
theorem gX5_allow_X5_spot : GoodIn wsX5_allow (va_wsS RX5 59 yX5_spot wsX5_spot) := goodIn_app (goodIn_of _ (by decide +kernel)) ggX5_allow_X5_spot
set_option maxRecDepth 20000 in
theorem ggX5_allow_X5_saves : GoodIn wsX5_allow wsX5_saves := goodIn_r _ [24, 1, 25, 26, 27, 4, 28, 29, 30, 31, 32, 33, 34, 35, 36, 37, 38, 39, 40, 41, 42, 43, 44, 45, 46, 47, 48, 49, 50, 51, 18, 19, 20, 52, 53, 54, 55, 56, 57, 58, 59, 60, 61, 62, 63, 64] (by decide +kernel) (by decide +kernel)
set_option maxRecDepth 20000 in
theorem gX5_allow_X5_saves : GoodIn wsX5_allow (wsV RX5 84 RX5 yX5_saves wsX5_saves) := goodIn_app (goodIn_of _ (by decide +kernel)) ggX5_allow_X5_saves
theorem dX5_allow_0 : decode cX5_allow 0 = .ok (.iload_n 1, 1) := by decide +kernel
theorem dX5_allow_1 : decode cX5_allow 1 = .ok (.invokestatic 87, 3) := by decide +kernel
theorem dX5_allow_4 : decode cX5_allow 4 = .ok (.ifCond .eq 21, 3) := by decide +kernel
theorem dX5_allow_7 : decode cX5_allow 7 = .ok (.iload_n 2, 1) := by decide +kernel
theorem dX5_allow_8 : decode cX5_allow 8 = .ok (.invokestatic 107, 3) := by decide +kernel
theorem dX5_allow_11 : decode cX5_allow 11 = .ok (.ifCond .eq 14, 3) := by decide +kernel
theorem dX5_allow_14 : decode cX5_allow 14 = .ok (.iload_n 3, 1) := by decide +kernel
theorem dX5_allow_15 : decode cX5_allow 15 = .ok (.iconst 0, 1) := by decide +kernel
theorem dX5_allow_16 : decode cX5_allow 16 = .ok (.sipush 200, 3) := by decide +kernel
theorem dX5_allow_19 : decode cX5_allow 19 = .ok (.invokestatic 26, 3) := by decide +kernel
theorem dX5_allow_22 : decode cX5_allow 22 = .ok (.ifCond .ne 7, 3) := by decide +kernel
theorem dX5_allow_25 : decode cX5_allow 25 = .ok (.sipush (-1001), 3) := by decide +kernel
theorem dX5_allow_28 : decode cX5_allow 28 = .ok (.ireturn, 1) := by decide +kernel
theorem dX5_allow_29 : decode cX5_allow 29 = .ok (.aload_n 0, 1) := by decide +kernel
theorem dX5_allow_30 : decode cX5_allow 30 = .ok (.invokevirtual 91, 3) := by decide +kernel
theorem dX5_allow_33 : decode cX5_allow 33 = .ok (.aload_n 0, 1) := by decide +kernel
theorem dX5_allow_34 : decode cX5_allow 34 = .ok (.getfield 7, 3) := by decide +kernel
theorem dX5_allow_37 : decode cX5_allow 37 = .ok (.bipush 82, 2) := by decide +kernel
theorem dX5_allow_39 : decode cX5_allow 39 = .ok (.iload_n 1, 1) := by decide +kernel
theorem dX5_allow_40 : decode cX5_allow 40 = .ok (.iload_n 2, 1) := by decide +kernel
theorem dX5_allow_41 : decode cX5_allow 41 = .ok (.invokestatic 59, 3) := by decide +kernel
theorem dX5_allow_44 : decode cX5_allow 44 = .ok (.iadd, 1) := by decide +kernel
theorem dX5_allow_45 : decode cX5_allow 45 = .ok (.iload_n 3, 1) := by decide +kernel
theorem dX5_allow_46 : decode cX5_allow 46 = .ok (.iastore, 1) := by decide +kernel
theorem dX5_allow_47 : decode cX5_allow 47 = .ok (.aload_n 0, 1) := by decide +kernel
theorem dX5_allow_48 : decode cX5_allow 48 = .ok (.iload_n 1, 1) := by decide +kernel
theorem dX5_allow_49 : decode cX5_allow 49 = .ok (.iload_n 2, 1) := by decide +kernel
theorem dX5_allow_50 : decode cX5_allow 50 = .ok (.invokevirtual 84, 3) := by decide +kernel
theorem dX5_allow_53 : decode cX5_allow 53 = .ok (.ireturn, 1) := by decide +kernel
set_option maxRecDepth 20000 in
theorem ggX5_transfer_X5_isStreet : GoodIn wsX5_transfer wsX5_isStreet := goodIn_r _ [5, 6, 7, 4, 8] (by decide +kernel) (by decide +kernel)
set_option maxRecDepth 20000 in
theorem gX5_transfer_X5_isStreet : GoodIn wsX5_transfer (va_wsS RX5 87 yX5_isStreet wsX5_isStreet) := goodIn_app (goodIn_of _ (by decide +kernel)) ggX5_transfer_X5_isStreet
set_option maxRecDepth 20000 in
theorem ggX5_transfer_X5_isNight : GoodIn wsX5_transfer wsX5_isNight := goodIn_r _ [11, 6, 7, 4, 8] (by decide +kernel) (by decide +kernel)
set_option maxRecDepth 20000 in
theorem gX5_transfer_X5_isNight : GoodIn wsX5_transfer (va_wsS RX5 107 yX5_isNight wsX5_isNight) := goodIn_app (goodIn_of _ (by decide +kernel)) ggX5_transfer_X5_isNight
set_option maxRecDepth 20000 in
theorem ggX5_transfer_X5_in : GoodIn wsX5_transfer wsX5_in := goodIn_r _ [8] (by decide +kernel) (by decide +kernel)
set_option maxRecDepth 20000 in
theorem gX5_transfer_X5_in : GoodIn wsX5_transfer (va_wsS RX5 26 yX5_in wsX5_in) := goodIn_app (goodIn_of _ (by decide +kernel)) ggX5_transfer_X5_in
set_option maxRecDepth 20000 in
theorem ggX5_transfer_X5_credits : GoodIn wsX5_transfer wsX5_credits := goodIn_r _ [15, 1, 16, 17, 4, 18, 19, 20, 21, 22, 52, 53, 54, 55, 56, 57, 58, 59, 60] (by decide +kernel) (by decide +kernel)
set_option maxRecDepth 20000 in
theorem gX5_transfer_X5_credits : GoodIn wsX5_transfer (wsV RX5 81 RX5 yX5_credits wsX5_credits) := goodIn_app (goodIn_of _ (by decide +kernel)) ggX5_transfer_X5_credits
set_option maxRecDepth 20000 in
theorem ggX5_transfer_X5_used : GoodIn wsX5_transfer wsX5_used := goodIn_r _ [26, 1, 27, 28, 29, 4, 30, 31, 32, 33, 34, 35, 36, 37, 38, 39, 40, 41, 42, 43, 44, 45, 52, 53, 54, 55, 56, 57, 58, 59, 60] (by decide +kernel) (by decide +kernel)
set_option maxRecDepth 20000 in
theorem gX5_transfer_X5_used : GoodIn wsX5_transfer (wsV RX5 78 RX5 yX5_used wsX5_used) := goodIn_app (goodIn_of _ (by decide +kernel)) ggX5_transfer_X5_used
set_option maxRecDepth 20000 in
theorem ggX5_transfer_X5_records : GoodIn wsX5_transfer wsX5_records := goodIn_r _ [49, 50, 51, 1, 52, 53, 54, 55, 56, 57, 58, 59, 60] (by decide +kernel) (by decide +kernel)
set_option maxRecDepth 20000 in
theorem gX5_transfer_X5_records : GoodIn wsX5_transfer (wsV RX5 91 RX5 yX5_records wsX5_records) := goodIn_app (goodIn_of _ (by decide +kernel)) ggX5_transfer_X5_records
set_option maxRecDepth 20000 in
theorem ggX5_transfer_X5_spot : GoodIn wsX5_transfer wsX5_spot := goodIn_r _ [18] (by decide +kernel) (by decide +kernel)
set_option maxRecDepth 20000 in
theorem gX5_transfer_X5_spot : GoodIn wsX5_transfer (va_wsS RX5 59 yX5_spot wsX5_spot) := goodIn_app (goodIn_of _ (by decide +kernel)) ggX5_transfer_X5_spot
theorem dX5_transfer_0 : decode cX5_transfer 0 = .ok (.iload_n 1, 1) := by decide +kernel
theorem dX5_transfer_1 : decode cX5_transfer 1 = .ok (.invokestatic 87, 3) := by decide +kernel
theorem dX5_transfer_4 : decode cX5_transfer 4 = .ok (.ifCond .eq 34, 3) := by decide +kernel
theorem dX5_transfer_7 : decode cX5_transfer 7 = .ok (.iload_n 2, 1) := by decide +kernel
theorem dX5_transfer_8 : decode cX5_transfer 8 = .ok (.invokestatic 87, 3) := by decide +kernel
theorem dX5_transfer_11 : decode cX5_transfer 11 = .ok (.ifCond .eq 27, 3) := by decide +kernel
theorem dX5_transfer_14 : decode cX5_transfer 14 = .ok (.iload_n 1, 1) := by decide +kernel
theorem dX5_transfer_15 : decode cX5_transfer 15 = .ok (.iload_n 2, 1) := by decide +kernel
theorem dX5_transfer_16 : decode cX5_transfer 16 = .ok (.if_icmp .eq 22, 3) := by decide +kernel
theorem dX5_transfer_19 : decode cX5_transfer 19 = .ok (.iload_n 3, 1) := by decide +kernel
theorem dX5_transfer_20 : decode cX5_transfer 20 = .ok (.invokestatic 107, 3) := by decide +kernel
theorem dX5_transfer_23 : decode cX5_transfer 23 = .ok (.ifCond .eq 15, 3) := by decide +kernel
theorem dX5_transfer_26 : decode cX5_transfer 26 = .ok (.iload 4, 2) := by decide +kernel
theorem dX5_transfer_28 : decode cX5_transfer 28 = .ok (.iconst 1, 1) := by decide +kernel
theorem dX5_transfer_29 : decode cX5_transfer 29 = .ok (.sipush 200, 3) := by decide +kernel
theorem dX5_transfer_32 : decode cX5_transfer 32 = .ok (.invokestatic 26, 3) := by decide +kernel
theorem dX5_transfer_35 : decode cX5_transfer 35 = .ok (.ifCond .ne 7, 3) := by decide +kernel
theorem dX5_transfer_38 : decode cX5_transfer 38 = .ok (.sipush (-1001), 3) := by decide +kernel
theorem dX5_transfer_41 : decode cX5_transfer 41 = .ok (.ireturn, 1) := by decide +kernel
theorem dX5_transfer_42 : decode cX5_transfer 42 = .ok (.aload_n 0, 1) := by decide +kernel
theorem dX5_transfer_43 : decode cX5_transfer 43 = .ok (.iload_n 1, 1) := by decide +kernel
theorem dX5_transfer_44 : decode cX5_transfer 44 = .ok (.iload_n 3, 1) := by decide +kernel
theorem dX5_transfer_45 : decode cX5_transfer 45 = .ok (.invokevirtual 81, 3) := by decide +kernel
theorem dX5_transfer_48 : decode cX5_transfer 48 = .ok (.aload_n 0, 1) := by decide +kernel
theorem dX5_transfer_49 : decode cX5_transfer 49 = .ok (.iload_n 1, 1) := by decide +kernel
theorem dX5_transfer_50 : decode cX5_transfer 50 = .ok (.iload_n 3, 1) := by decide +kernel
theorem dX5_transfer_51 : decode cX5_transfer 51 = .ok (.invokevirtual 78, 3) := by decide +kernel
theorem dX5_transfer_54 : decode cX5_transfer 54 = .ok (.isub, 1) := by decide +kernel
theorem dX5_transfer_55 : decode cX5_transfer 55 = .ok (.istore 5, 2) := by decide +kernel
theorem dX5_transfer_57 : decode cX5_transfer 57 = .ok (.iload 5, 2) := by decide +kernel
theorem dX5_transfer_59 : decode cX5_transfer 59 = .ok (.iload 4, 2) := by decide +kernel
theorem dX5_transfer_61 : decode cX5_transfer 61 = .ok (.if_icmp .ge 7, 3) := by decide +kernel
theorem dX5_transfer_64 : decode cX5_transfer 64 = .ok (.sipush (-1002), 3) := by decide +kernel
theorem dX5_transfer_67 : decode cX5_transfer 67 = .ok (.ireturn, 1) := by decide +kernel
theorem dX5_transfer_68 : decode cX5_transfer 68 = .ok (.aload_n 0, 1) := by decide +kernel
theorem dX5_transfer_69 : decode cX5_transfer 69 = .ok (.invokevirtual 91, 3) := by decide +kernel
theorem dX5_transfer_72 : decode cX5_transfer 72 = .ok (.aload_n 0, 1) := by decide +kernel
theorem dX5_transfer_73 : decode cX5_transfer 73 = .ok (.getfield 7, 3) := by decide +kernel
theorem dX5_transfer_76 : decode cX5_transfer 76 = .ok (.sipush 322, 3) := by decide +kernel
theorem dX5_transfer_79 : decode cX5_transfer 79 = .ok (.iload_n 1, 1) := by decide +kernel
theorem dX5_transfer_80 : decode cX5_transfer 80 = .ok (.iload_n 3, 1) := by decide +kernel
theorem dX5_transfer_81 : decode cX5_transfer 81 = .ok (.invokestatic 59, 3) := by decide +kernel
theorem dX5_transfer_84 : decode cX5_transfer 84 = .ok (.iadd, 1) := by decide +kernel
theorem dX5_transfer_85 : decode cX5_transfer 85 = .ok (.dup2, 1) := by decide +kernel
theorem dX5_transfer_86 : decode cX5_transfer 86 = .ok (.iaload, 1) := by decide +kernel
theorem dX5_transfer_87 : decode cX5_transfer 87 = .ok (.iload 4, 2) := by decide +kernel
theorem dX5_transfer_89 : decode cX5_transfer 89 = .ok (.iadd, 1) := by decide +kernel
theorem dX5_transfer_90 : decode cX5_transfer 90 = .ok (.iastore, 1) := by decide +kernel
theorem dX5_transfer_91 : decode cX5_transfer 91 = .ok (.aload_n 0, 1) := by decide +kernel
theorem dX5_transfer_92 : decode cX5_transfer 92 = .ok (.getfield 7, 3) := by decide +kernel
theorem dX5_transfer_95 : decode cX5_transfer 95 = .ok (.sipush 202, 3) := by decide +kernel
theorem dX5_transfer_98 : decode cX5_transfer 98 = .ok (.iload_n 2, 1) := by decide +kernel
theorem dX5_transfer_99 : decode cX5_transfer 99 = .ok (.iload_n 3, 1) := by decide +kernel
theorem dX5_transfer_100 : decode cX5_transfer 100 = .ok (.invokestatic 59, 3) := by decide +kernel
theorem dX5_transfer_103 : decode cX5_transfer 103 = .ok (.iadd, 1) := by decide +kernel
theorem dX5_transfer_104 : decode cX5_transfer 104 = .ok (.dup2, 1) := by decide +kernel
theorem dX5_transfer_105 : decode cX5_transfer 105 = .ok (.iaload, 1) := by decide +kernel
theorem dX5_transfer_106 : decode cX5_transfer 106 = .ok (.iload 4, 2) := by decide +kernel
theorem dX5_transfer_108 : decode cX5_transfer 108 = .ok (.iadd, 1) := by decide +kernel
theorem dX5_transfer_109 : decode cX5_transfer 109 = .ok (.iastore, 1) := by decide +kernel
theorem dX5_transfer_110 : decode cX5_transfer 110 = .ok (.iload 5, 2) := by decide +kernel
theorem dX5_transfer_112 : decode cX5_transfer 112 = .ok (.iload 4, 2) := by decide +kernel
theorem dX5_transfer_114 : decode cX5_transfer 114 = .ok (.isub, 1) := by decide +kernel
theorem dX5_transfer_115 : decode cX5_transfer 115 = .ok (.ireturn, 1) := by decide +kernel
set_option maxRecDepth 20000 in
theorem ggX5_validOf_X5_isOf : GoodIn wsX5_validOf wsX5_isOf := goodIn_r _ [6, 7, 8, 9, 5, 10, 1, 11, 12, 13, 14, 15, 16, 17, 18, 19, 20, 21, 22, 23] (by decide +kernel) (by decide +kernel)
set_option maxRecDepth 20000 in
theorem gX5_validOf_X5_isOf : GoodIn wsX5_validOf (wsV RX5 69 RX5 yX5_isOf wsX5_isOf) := goodIn_app (goodIn_of _ (by decide +kernel)) ggX5_validOf_X5_isOf
theorem dX5_validOf_0 : decode cX5_validOf 0 = .ok (.iconst 0, 1) := by decide +kernel
theorem dX5_validOf_1 : decode cX5_validOf 1 = .ok (.istore_n 3, 1) := by decide +kernel
theorem dX5_validOf_2 : decode cX5_validOf 2 = .ok (.iconst 0, 1) := by decide +kernel
theorem dX5_validOf_3 : decode cX5_validOf 3 = .ok (.istore 4, 2) := by decide +kernel
theorem dX5_validOf_5 : decode cX5_validOf 5 = .ok (.iload 4, 2) := by decide +kernel
theorem dX5_validOf_7 : decode cX5_validOf 7 = .ok (.aload_n 0, 1) := by decide +kernel
theorem dX5_validOf_8 : decode cX5_validOf 8 = .ok (.getfield 7, 3) := by decide +kernel
theorem dX5_validOf_11 : decode cX5_validOf 11 = .ok (.sipush 442, 3) := by decide +kernel
theorem dX5_validOf_14 : decode cX5_validOf 14 = .ok (.iaload, 1) := by decide +kernel
theorem dX5_validOf_15 : decode cX5_validOf 15 = .ok (.if_icmp .ge 28, 3) := by decide +kernel
theorem dX5_validOf_18 : decode cX5_validOf 18 = .ok (.iload_n 3, 1) := by decide +kernel
theorem dX5_validOf_19 : decode cX5_validOf 19 = .ok (.aload_n 0, 1) := by decide +kernel
theorem dX5_validOf_20 : decode cX5_validOf 20 = .ok (.iload 4, 2) := by decide +kernel
theorem dX5_validOf_22 : decode cX5_validOf 22 = .ok (.iload_n 1, 1) := by decide +kernel
theorem dX5_validOf_23 : decode cX5_validOf 23 = .ok (.iload_n 2, 1) := by decide +kernel
theorem dX5_validOf_24 : decode cX5_validOf 24 = .ok (.invokevirtual 69, 3) := by decide +kernel
theorem dX5_validOf_27 : decode cX5_validOf 27 = .ok (.ifCond .eq 7, 3) := by decide +kernel
theorem dX5_validOf_30 : decode cX5_validOf 30 = .ok (.iconst 1, 1) := by decide +kernel
theorem dX5_validOf_31 : decode cX5_validOf 31 = .ok (.goto 4, 3) := by decide +kernel
theorem dX5_validOf_34 : decode cX5_validOf 34 = .ok (.iconst 0, 1) := by decide +kernel
theorem dX5_validOf_35 : decode cX5_validOf 35 = .ok (.iadd, 1) := by decide +kernel
theorem dX5_validOf_36 : decode cX5_validOf 36 = .ok (.istore_n 3, 1) := by decide +kernel
theorem dX5_validOf_37 : decode cX5_validOf 37 = .ok (.iinc 4 1, 3) := by decide +kernel
theorem dX5_validOf_40 : decode cX5_validOf 40 = .ok (.goto (-35), 3) := by decide +kernel
theorem dX5_validOf_43 : decode cX5_validOf 43 = .ok (.iload_n 3, 1) := by decide +kernel
theorem dX5_validOf_44 : decode cX5_validOf 44 = .ok (.ireturn, 1) := by decide +kernel
set_option maxRecDepth 20000 in
theorem ggX5_street_X5_isStreet : GoodIn wsX5_street wsX5_isStreet := goodIn_r _ [5, 6, 7, 4, 8] (by decide +kernel) (by decide +kernel)
set_option maxRecDepth 20000 in
theorem gX5_street_X5_isStreet : GoodIn wsX5_street (va_wsS RX5 87 yX5_isStreet wsX5_isStreet) := goodIn_app (goodIn_of _ (by decide +kernel)) ggX5_street_X5_isStreet
set_option maxRecDepth 20000 in
theorem ggX5_street_X5_isNight : GoodIn wsX5_street wsX5_isNight := goodIn_r _ [11, 6, 7, 4, 8] (by decide +kernel) (by decide +kernel)
set_option maxRecDepth 20000 in
theorem gX5_street_X5_isNight : GoodIn wsX5_street (va_wsS RX5 107 yX5_isNight wsX5_isNight) := goodIn_app (goodIn_of _ (by decide +kernel)) ggX5_street_X5_isNight
set_option maxRecDepth 20000 in
theorem ggX5_street_X5_in : GoodIn wsX5_street wsX5_in := goodIn_r _ [8] (by decide +kernel) (by decide +kernel)
set_option maxRecDepth 20000 in
theorem gX5_street_X5_in : GoodIn wsX5_street (va_wsS RX5 26 yX5_in wsX5_in) := goodIn_app (goodIn_of _ (by decide +kernel)) ggX5_street_X5_in
set_option maxRecDepth 20000 in
theorem ggX5_street_X5_allowed : GoodIn wsX5_street wsX5_allowed := goodIn_r _ [15, 1, 16, 17, 4, 18, 50, 51, 52, 53, 54, 55, 56, 57, 58] (by decide +kernel) (by decide +kernel)
set_option maxRecDepth 20000 in
theorem gX5_street_X5_allowed : GoodIn wsX5_street (wsV RX5 62 RX5 yX5_allowed wsX5_allowed) := goodIn_app (goodIn_of _ (by decide +kernel)) ggX5_street_X5_allowed
set_option maxRecDepth 20000 in
theorem ggX5_street_X5_spot : GoodIn wsX5_street wsX5_spot := goodIn_r _ [18] (by decide +kernel) (by decide +kernel)
set_option maxRecDepth 20000 in
theorem gX5_street_X5_spot : GoodIn wsX5_street (va_wsS RX5 59 yX5_spot wsX5_spot) := goodIn_app (goodIn_of _ (by decide +kernel)) ggX5_street_X5_spot
set_option maxRecDepth 20000 in
theorem ggX5_street_X5_credits : GoodIn wsX5_street wsX5_credits := goodIn_r _ [22, 1, 16, 17, 4, 18, 12, 13, 14, 15, 50, 51, 52, 53, 54, 55, 56, 57, 58] (by decide +kernel) (by decide +kernel)
set_option maxRecDepth 20000 in
theorem gX5_street_X5_credits : GoodIn wsX5_street (wsV RX5 81 RX5 yX5_credits wsX5_credits) := goodIn_app (goodIn_of _ (by decide +kernel)) ggX5_street_X5_credits
set_option maxRecDepth 20000 in
theorem ggX5_street_X5_used : GoodIn wsX5_street wsX5_used := goodIn_r _ [26, 1, 27, 28, 29, 4, 30, 31, 32, 33, 34, 35, 36, 37, 38, 39, 40, 41, 42, 43, 44, 45, 50, 51, 52, 53, 54, 55, 56, 57, 58] (by decide +kernel) (by decide +kernel)
set_option maxRecDepth 20000 in
theorem gX5_street_X5_used : GoodIn wsX5_street (wsV RX5 78 RX5 yX5_used wsX5_used) := goodIn_app (goodIn_of _ (by decide +kernel)) ggX5_street_X5_used
set_option maxRecDepth 20000 in
theorem ggX5_street_X5_validOf : GoodIn wsX5_street wsX5_validOf := goodIn_r _ [49, 1, 27, 28, 29, 4, 30, 31, 32, 33, 34, 35, 36, 37, 38, 50, 51, 52, 53, 54, 55, 56, 57, 58] (by decide +kernel) (by decide +kernel)
set_option maxRecDepth 20000 in
theorem gX5_street_X5_validOf : GoodIn wsX5_street (wsV RX5 110 RX5 yX5_validOf wsX5_validOf) := goodIn_app (goodIn_of _ (by decide +kernel)) ggX5_street_X5_validOf
theorem dX5_street_0 : decode cX5_street 0 = .ok (.iload_n 1, 1) := by decide +kernel
theorem dX5_street_1 : decode cX5_street 1 = .ok (.invokestatic 87, 3) := by decide +kernel
theorem dX5_street_4 : decode cX5_street 4 = .ok (.ifCond .eq 20, 3) := by decide +kernel
theorem dX5_street_7 : decode cX5_street 7 = .ok (.iload_n 2, 1) := by decide +kernel
theorem dX5_street_8 : decode cX5_street 8 = .ok (.invokestatic 107, 3) := by decide +kernel
theorem dX5_street_11 : decode cX5_street 11 = .ok (.ifCond .eq 13, 3) := by decide +kernel
theorem dX5_street_14 : decode cX5_street 14 = .ok (.iload_n 3, 1) := by decide +kernel
theorem dX5_street_15 : decode cX5_street 15 = .ok (.iconst 0, 1) := by decide +kernel
theorem dX5_street_16 : decode cX5_street 16 = .ok (.bipush 6, 2) := by decide +kernel
theorem dX5_street_18 : decode cX5_street 18 = .ok (.invokestatic 26, 3) := by decide +kernel
theorem dX5_street_21 : decode cX5_street 21 = .ok (.ifCond .ne 7, 3) := by decide +kernel
theorem dX5_street_24 : decode cX5_street 24 = .ok (.sipush (-1001), 3) := by decide +kernel
theorem dX5_street_27 : decode cX5_street 27 = .ok (.ireturn, 1) := by decide +kernel
theorem dX5_street_28 : decode cX5_street 28 = .ok (.iload_n 3, 1) := by decide +kernel
theorem dX5_street_29 : decode cX5_street 29 = .ok (.tableswitch 97 0 5 #[39, 46, 61, 76, 83, 90], 39) := by decide +kernel
theorem dX5_street_68 : decode cX5_street 68 = .ok (.aload_n 0, 1) := by decide +kernel
theorem dX5_street_69 : decode cX5_street 69 = .ok (.iload_n 1, 1) := by decide +kernel
theorem dX5_street_70 : decode cX5_street 70 = .ok (.iload_n 2, 1) := by decide +kernel
theorem dX5_street_71 : decode cX5_street 71 = .ok (.invokevirtual 62, 3) := by decide +kernel
theorem dX5_street_74 : decode cX5_street 74 = .ok (.ireturn, 1) := by decide +kernel
theorem dX5_street_75 : decode cX5_street 75 = .ok (.aload_n 0, 1) := by decide +kernel
theorem dX5_street_76 : decode cX5_street 76 = .ok (.getfield 7, 3) := by decide +kernel
theorem dX5_street_79 : decode cX5_street 79 = .ok (.sipush 202, 3) := by decide +kernel
theorem dX5_street_82 : decode cX5_street 82 = .ok (.iload_n 1, 1) := by decide +kernel
theorem dX5_street_83 : decode cX5_street 83 = .ok (.iload_n 2, 1) := by decide +kernel
theorem dX5_street_84 : decode cX5_street 84 = .ok (.invokestatic 59, 3) := by decide +kernel
theorem dX5_street_87 : decode cX5_street 87 = .ok (.iadd, 1) := by decide +kernel
theorem dX5_street_88 : decode cX5_street 88 = .ok (.iaload, 1) := by decide +kernel
theorem dX5_street_89 : decode cX5_street 89 = .ok (.ireturn, 1) := by decide +kernel
theorem dX5_street_90 : decode cX5_street 90 = .ok (.aload_n 0, 1) := by decide +kernel
theorem dX5_street_91 : decode cX5_street 91 = .ok (.getfield 7, 3) := by decide +kernel
theorem dX5_street_94 : decode cX5_street 94 = .ok (.sipush 322, 3) := by decide +kernel
theorem dX5_street_97 : decode cX5_street 97 = .ok (.iload_n 1, 1) := by decide +kernel
theorem dX5_street_98 : decode cX5_street 98 = .ok (.iload_n 2, 1) := by decide +kernel
theorem dX5_street_99 : decode cX5_street 99 = .ok (.invokestatic 59, 3) := by decide +kernel
theorem dX5_street_102 : decode cX5_street 102 = .ok (.iadd, 1) := by decide +kernel
theorem dX5_street_103 : decode cX5_street 103 = .ok (.iaload, 1) := by decide +kernel
theorem dX5_street_104 : decode cX5_street 104 = .ok (.ireturn, 1) := by decide +kernel
theorem dX5_street_105 : decode cX5_street 105 = .ok (.aload_n 0, 1) := by decide +kernel
theorem dX5_street_106 : decode cX5_street 106 = .ok (.iload_n 1, 1) := by decide +kernel
theorem dX5_street_107 : decode cX5_street 107 = .ok (.iload_n 2, 1) := by decide +kernel
theorem dX5_street_108 : decode cX5_street 108 = .ok (.invokevirtual 81, 3) := by decide +kernel
theorem dX5_street_111 : decode cX5_street 111 = .ok (.ireturn, 1) := by decide +kernel
theorem dX5_street_112 : decode cX5_street 112 = .ok (.aload_n 0, 1) := by decide +kernel
theorem dX5_street_113 : decode cX5_street 113 = .ok (.iload_n 1, 1) := by decide +kernel
theorem dX5_street_114 : decode cX5_street 114 = .ok (.iload_n 2, 1) := by decide +kernel
theorem dX5_street_115 : decode cX5_street 115 = .ok (.invokevirtual 78, 3) := by decide +kernel
theorem dX5_street_118 : decode cX5_street 118 = .ok (.ireturn, 1) := by decide +kernel
theorem dX5_street_119 : decode cX5_street 119 = .ok (.aload_n 0, 1) := by decide +kernel
theorem dX5_street_120 : decode cX5_street 120 = .ok (.iload_n 1, 1) := by decide +kernel
theorem dX5_street_121 : decode cX5_street 121 = .ok (.iload_n 2, 1) := by decide +kernel
theorem dX5_street_122 : decode cX5_street 122 = .ok (.invokevirtual 110, 3) := by decide +kernel
theorem dX5_street_125 : decode cX5_street 125 = .ok (.ireturn, 1) := by decide +kernel
theorem dX5_street_126 : decode cX5_street 126 = .ok (.aload_n 0, 1) := by decide +kernel
theorem dX5_street_127 : decode cX5_street 127 = .ok (.getfield 7, 3) := by decide +kernel
theorem dX5_street_130 : decode cX5_street 130 = .ok (.bipush 52, 2) := by decide +kernel
theorem dX5_street_132 : decode cX5_street 132 = .ok (.iload_n 2, 1) := by decide +kernel
theorem dX5_street_133 : decode cX5_street 133 = .ok (.iadd, 1) := by decide +kernel
theorem dX5_street_134 : decode cX5_street 134 = .ok (.iaload, 1) := by decide +kernel
theorem dX5_street_135 : decode cX5_street 135 = .ok (.ireturn, 1) := by decide +kernel
set_option maxRecDepth 20000 in
theorem ggX5_together_X5_of : GoodIn wsX5_together wsX5_of := goodIn_r _ [6, 1, 36, 37, 38, 39, 40, 41, 42, 43, 44] (by decide +kernel) (by decide +kernel)
set_option maxRecDepth 20000 in
theorem gX5_together_X5_of : GoodIn wsX5_together (wsV RX5 45 RX5 yX5_of wsX5_of) := goodIn_app (goodIn_of _ (by decide +kernel)) ggX5_together_X5_of
set_option maxRecDepth 20000 in
theorem ggX5_together_X5_uses : GoodIn wsX5_together wsX5_uses := goodIn_r _ [10, 2, 3, 4, 5, 6, 1, 11, 12, 13, 14, 15, 16, 17, 36, 37, 38, 39, 40, 41, 42, 43, 44] (by decide +kernel) (by decide +kernel)
set_option maxRecDepth 20000 in
theorem gX5_together_X5_uses : GoodIn wsX5_together (wsV RX5 72 RX5 yX5_uses wsX5_uses) := goodIn_app (goodIn_of _ (by decide +kernel)) ggX5_together_X5_uses
set_option maxRecDepth 20000 in
theorem ggX5_together_X5_air : GoodIn wsX5_together wsX5_air := goodIn_r _ [21, 1, 2, 3, 4, 5, 6, 14, 15, 16, 17, 22, 23, 24, 25, 26, 27, 28, 29, 30, 31, 32, 33, 34, 35, 36, 37, 38, 39, 40, 41, 42, 43, 44] (by decide +kernel) (by decide +kernel)
set_option maxRecDepth 20000 in
theorem gX5_together_X5_air : GoodIn wsX5_together (wsV RX5 55 RX5 yX5_air wsX5_air) := goodIn_app (goodIn_of _ (by decide +kernel)) ggX5_together_X5_air
theorem dX5_together_0 : decode cX5_together 0 = .ok (.iconst 0, 1) := by decide +kernel
theorem dX5_together_1 : decode cX5_together 1 = .ok (.istore_n 2, 1) := by decide +kernel
theorem dX5_together_2 : decode cX5_together 2 = .ok (.iconst 0, 1) := by decide +kernel
theorem dX5_together_3 : decode cX5_together 3 = .ok (.istore_n 3, 1) := by decide +kernel
theorem dX5_together_4 : decode cX5_together 4 = .ok (.iload_n 3, 1) := by decide +kernel
theorem dX5_together_5 : decode cX5_together 5 = .ok (.aload_n 0, 1) := by decide +kernel
theorem dX5_together_6 : decode cX5_together 6 = .ok (.getfield 7, 3) := by decide +kernel
theorem dX5_together_9 : decode cX5_together 9 = .ok (.sipush 442, 3) := by decide +kernel
theorem dX5_together_12 : decode cX5_together 12 = .ok (.iaload, 1) := by decide +kernel
theorem dX5_together_13 : decode cX5_together 13 = .ok (.if_icmp .ge 116, 3) := by decide +kernel
theorem dX5_together_16 : decode cX5_together 16 = .ok (.iload_n 2, 1) := by decide +kernel
theorem dX5_together_17 : decode cX5_together 17 = .ok (.iload_n 1, 1) := by decide +kernel
theorem dX5_together_18 : decode cX5_together 18 = .ok (.ifCond .ne 21, 3) := by decide +kernel
theorem dX5_together_21 : decode cX5_together 21 = .ok (.aload_n 0, 1) := by decide +kernel
theorem dX5_together_22 : decode cX5_together 22 = .ok (.iload_n 3, 1) := by decide +kernel
theorem dX5_together_23 : decode cX5_together 23 = .ok (.iconst 4, 1) := by decide +kernel
theorem dX5_together_24 : decode cX5_together 24 = .ok (.invokevirtual 45, 3) := by decide +kernel
theorem dX5_together_27 : decode cX5_together 27 = .ok (.iconst 1, 1) := by decide +kernel
theorem dX5_together_28 : decode cX5_together 28 = .ok (.if_icmp .ne 11, 3) := by decide +kernel
theorem dX5_together_31 : decode cX5_together 31 = .ok (.aload_n 0, 1) := by decide +kernel
theorem dX5_together_32 : decode cX5_together 32 = .ok (.iload_n 3, 1) := by decide +kernel
theorem dX5_together_33 : decode cX5_together 33 = .ok (.invokevirtual 72, 3) := by decide +kernel
theorem dX5_together_36 : decode cX5_together 36 = .ok (.goto 4, 3) := by decide +kernel
theorem dX5_together_39 : decode cX5_together 39 = .ok (.iconst 0, 1) := by decide +kernel
theorem dX5_together_40 : decode cX5_together 40 = .ok (.iadd, 1) := by decide +kernel
theorem dX5_together_41 : decode cX5_together 41 = .ok (.istore_n 2, 1) := by decide +kernel
theorem dX5_together_42 : decode cX5_together 42 = .ok (.iconst 0, 1) := by decide +kernel
theorem dX5_together_43 : decode cX5_together 43 = .ok (.istore 4, 2) := by decide +kernel
theorem dX5_together_45 : decode cX5_together 45 = .ok (.iload 4, 2) := by decide +kernel
theorem dX5_together_47 : decode cX5_together 47 = .ok (.iload_n 3, 1) := by decide +kernel
theorem dX5_together_48 : decode cX5_together 48 = .ok (.if_icmp .ge 75, 3) := by decide +kernel
theorem dX5_together_51 : decode cX5_together 51 = .ok (.iload_n 1, 1) := by decide +kernel
theorem dX5_together_52 : decode cX5_together 52 = .ok (.ifCond .eq 71, 3) := by decide +kernel
theorem dX5_together_55 : decode cX5_together 55 = .ok (.aload_n 0, 1) := by decide +kernel
theorem dX5_together_56 : decode cX5_together 56 = .ok (.iload_n 3, 1) := by decide +kernel
theorem dX5_together_57 : decode cX5_together 57 = .ok (.iconst 4, 1) := by decide +kernel
theorem dX5_together_58 : decode cX5_together 58 = .ok (.invokevirtual 45, 3) := by decide +kernel
theorem dX5_together_61 : decode cX5_together 61 = .ok (.iconst 1, 1) := by decide +kernel
theorem dX5_together_62 : decode cX5_together 62 = .ok (.if_icmp .ne 61, 3) := by decide +kernel
theorem dX5_together_65 : decode cX5_together 65 = .ok (.iload_n 2, 1) := by decide +kernel
theorem dX5_together_66 : decode cX5_together 66 = .ok (.aload_n 0, 1) := by decide +kernel
theorem dX5_together_67 : decode cX5_together 67 = .ok (.iload 4, 2) := by decide +kernel
theorem dX5_together_69 : decode cX5_together 69 = .ok (.iconst 4, 1) := by decide +kernel
theorem dX5_together_70 : decode cX5_together 70 = .ok (.invokevirtual 45, 3) := by decide +kernel
theorem dX5_together_73 : decode cX5_together 73 = .ok (.iconst 1, 1) := by decide +kernel
theorem dX5_together_74 : decode cX5_together 74 = .ok (.if_icmp .ne 40, 3) := by decide +kernel
theorem dX5_together_77 : decode cX5_together 77 = .ok (.aload_n 0, 1) := by decide +kernel
theorem dX5_together_78 : decode cX5_together 78 = .ok (.aload_n 0, 1) := by decide +kernel
theorem dX5_together_79 : decode cX5_together 79 = .ok (.iload_n 3, 1) := by decide +kernel
theorem dX5_together_80 : decode cX5_together 80 = .ok (.iconst 0, 1) := by decide +kernel
theorem dX5_together_81 : decode cX5_together 81 = .ok (.invokevirtual 45, 3) := by decide +kernel
theorem dX5_together_84 : decode cX5_together 84 = .ok (.aload_n 0, 1) := by decide +kernel
theorem dX5_together_85 : decode cX5_together 85 = .ok (.iload_n 3, 1) := by decide +kernel
theorem dX5_together_86 : decode cX5_together 86 = .ok (.iconst 1, 1) := by decide +kernel
theorem dX5_together_87 : decode cX5_together 87 = .ok (.invokevirtual 45, 3) := by decide +kernel
theorem dX5_together_90 : decode cX5_together 90 = .ok (.aload_n 0, 1) := by decide +kernel
theorem dX5_together_91 : decode cX5_together 91 = .ok (.iload_n 3, 1) := by decide +kernel
theorem dX5_together_92 : decode cX5_together 92 = .ok (.iconst 2, 1) := by decide +kernel
theorem dX5_together_93 : decode cX5_together 93 = .ok (.invokevirtual 45, 3) := by decide +kernel
theorem dX5_together_96 : decode cX5_together 96 = .ok (.aload_n 0, 1) := by decide +kernel
theorem dX5_together_97 : decode cX5_together 97 = .ok (.iload_n 3, 1) := by decide +kernel
theorem dX5_together_98 : decode cX5_together 98 = .ok (.iconst 3, 1) := by decide +kernel
theorem dX5_together_99 : decode cX5_together 99 = .ok (.invokevirtual 45, 3) := by decide +kernel
theorem dX5_together_102 : decode cX5_together 102 = .ok (.iload 4, 2) := by decide +kernel
theorem dX5_together_104 : decode cX5_together 104 = .ok (.invokevirtual 55, 3) := by decide +kernel
theorem dX5_together_107 : decode cX5_together 107 = .ok (.ifCond .eq 7, 3) := by decide +kernel
theorem dX5_together_110 : decode cX5_together 110 = .ok (.iconst 1, 1) := by decide +kernel
theorem dX5_together_111 : decode cX5_together 111 = .ok (.goto 4, 3) := by decide +kernel
theorem dX5_together_114 : decode cX5_together 114 = .ok (.iconst 0, 1) := by decide +kernel
theorem dX5_together_115 : decode cX5_together 115 = .ok (.iadd, 1) := by decide +kernel
theorem dX5_together_116 : decode cX5_together 116 = .ok (.istore_n 2, 1) := by decide +kernel
theorem dX5_together_117 : decode cX5_together 117 = .ok (.iinc 4 1, 3) := by decide +kernel
theorem dX5_together_120 : decode cX5_together 120 = .ok (.goto (-75), 3) := by decide +kernel
theorem dX5_together_123 : decode cX5_together 123 = .ok (.iinc 3 1, 3) := by decide +kernel
theorem dX5_together_126 : decode cX5_together 126 = .ok (.goto (-122), 3) := by decide +kernel
theorem dX5_together_129 : decode cX5_together 129 = .ok (.iload_n 2, 1) := by decide +kernel
theorem dX5_together_130 : decode cX5_together 130 = .ok (.ireturn, 1) := by decide +kernel
set_option maxRecDepth 20000 in
theorem ggX5_count_X5_valid : GoodIn wsX5_count wsX5_valid := goodIn_r _ [8, 1, 9, 10, 11, 7, 12, 46, 47, 48, 49, 50, 51, 52, 53, 54] (by decide +kernel) (by decide +kernel)
set_option maxRecDepth 20000 in
theorem gX5_count_X5_valid : GoodIn wsX5_count (wsV RX5 101 RX5 yX5_valid wsX5_valid) := goodIn_app (goodIn_of _ (by decide +kernel)) ggX5_count_X5_valid
set_option maxRecDepth 20000 in
theorem ggX5_count_X5_together : GoodIn wsX5_count wsX5_together := goodIn_r _ [16, 1, 9, 10, 11, 7, 12, 17, 18, 19, 20, 21, 22, 23, 24, 25, 26, 27, 28, 29, 30, 31, 32, 33, 34, 35, 36, 37, 38, 39, 40, 41, 42, 43, 44, 45, 46, 47, 48, 49, 50, 51, 52, 53, 54] (by decide +kernel) (by decide +kernel)
set_option maxRecDepth 20000 in
theorem gX5_count_X5_together : GoodIn wsX5_count (wsV RX5 113 RX5 yX5_together wsX5_together) := goodIn_app (goodIn_of _ (by decide +kernel)) ggX5_count_X5_together
theorem dX5_count_0 : decode cX5_count 0 = .ok (.iload_n 1, 1) := by decide +kernel
theorem dX5_count_1 : decode cX5_count 1 = .ok (.tableswitch 127 0 12 #[67, 74, 80, 80, 80, 93, 99, 105, 110, 127, 115, 115, 115], 67) := by decide +kernel
theorem dX5_count_68 : decode cX5_count 68 = .ok (.aload_n 0, 1) := by decide +kernel
theorem dX5_count_69 : decode cX5_count 69 = .ok (.getfield 7, 3) := by decide +kernel
theorem dX5_count_72 : decode cX5_count 72 = .ok (.iconst 0, 1) := by decide +kernel
theorem dX5_count_73 : decode cX5_count 73 = .ok (.iaload, 1) := by decide +kernel
theorem dX5_count_74 : decode cX5_count 74 = .ok (.ireturn, 1) := by decide +kernel
theorem dX5_count_75 : decode cX5_count 75 = .ok (.aload_n 0, 1) := by decide +kernel
theorem dX5_count_76 : decode cX5_count 76 = .ok (.iconst (-1), 1) := by decide +kernel
theorem dX5_count_77 : decode cX5_count 77 = .ok (.invokevirtual 101, 3) := by decide +kernel
theorem dX5_count_80 : decode cX5_count 80 = .ok (.ireturn, 1) := by decide +kernel
theorem dX5_count_81 : decode cX5_count 81 = .ok (.aload_n 0, 1) := by decide +kernel
theorem dX5_count_82 : decode cX5_count 82 = .ok (.getfield 7, 3) := by decide +kernel
theorem dX5_count_85 : decode cX5_count 85 = .ok (.sipush 442, 3) := by decide +kernel
theorem dX5_count_88 : decode cX5_count 88 = .ok (.iload_n 1, 1) := by decide +kernel
theorem dX5_count_89 : decode cX5_count 89 = .ok (.iadd, 1) := by decide +kernel
theorem dX5_count_90 : decode cX5_count 90 = .ok (.iconst 2, 1) := by decide +kernel
theorem dX5_count_91 : decode cX5_count 91 = .ok (.isub, 1) := by decide +kernel
theorem dX5_count_92 : decode cX5_count 92 = .ok (.iaload, 1) := by decide +kernel
theorem dX5_count_93 : decode cX5_count 93 = .ok (.ireturn, 1) := by decide +kernel
theorem dX5_count_94 : decode cX5_count 94 = .ok (.aload_n 0, 1) := by decide +kernel
theorem dX5_count_95 : decode cX5_count 95 = .ok (.iconst 0, 1) := by decide +kernel
theorem dX5_count_96 : decode cX5_count 96 = .ok (.invokevirtual 113, 3) := by decide +kernel
theorem dX5_count_99 : decode cX5_count 99 = .ok (.ireturn, 1) := by decide +kernel
theorem dX5_count_100 : decode cX5_count 100 = .ok (.aload_n 0, 1) := by decide +kernel
theorem dX5_count_101 : decode cX5_count 101 = .ok (.iconst 1, 1) := by decide +kernel
theorem dX5_count_102 : decode cX5_count 102 = .ok (.invokevirtual 113, 3) := by decide +kernel
theorem dX5_count_105 : decode cX5_count 105 = .ok (.ireturn, 1) := by decide +kernel
theorem dX5_count_106 : decode cX5_count 106 = .ok (.aload_n 0, 1) := by decide +kernel
theorem dX5_count_107 : decode cX5_count 107 = .ok (.getfield 30, 3) := by decide +kernel
theorem dX5_count_110 : decode cX5_count 110 = .ok (.ireturn, 1) := by decide +kernel
theorem dX5_count_111 : decode cX5_count 111 = .ok (.aload_n 0, 1) := by decide +kernel
theorem dX5_count_112 : decode cX5_count 112 = .ok (.getfield 117, 3) := by decide +kernel
theorem dX5_count_115 : decode cX5_count 115 = .ok (.ireturn, 1) := by decide +kernel
theorem dX5_count_116 : decode cX5_count 116 = .ok (.aload_n 0, 1) := by decide +kernel
theorem dX5_count_117 : decode cX5_count 117 = .ok (.getfield 7, 3) := by decide +kernel
theorem dX5_count_120 : decode cX5_count 120 = .ok (.iconst 1, 1) := by decide +kernel
theorem dX5_count_121 : decode cX5_count 121 = .ok (.iload_n 1, 1) := by decide +kernel
theorem dX5_count_122 : decode cX5_count 122 = .ok (.iadd, 1) := by decide +kernel
theorem dX5_count_123 : decode cX5_count 123 = .ok (.bipush 10, 2) := by decide +kernel
theorem dX5_count_125 : decode cX5_count 125 = .ok (.isub, 1) := by decide +kernel
theorem dX5_count_126 : decode cX5_count 126 = .ok (.iaload, 1) := by decide +kernel
theorem dX5_count_127 : decode cX5_count 127 = .ok (.ireturn, 1) := by decide +kernel
theorem dX5_count_128 : decode cX5_count 128 = .ok (.sipush (-1001), 3) := by decide +kernel
theorem dX5_count_131 : decode cX5_count 131 = .ok (.ireturn, 1) := by decide +kernel
theorem dX5_undo_0 : decode cX5_undo 0 = .ok (.aload_n 0, 1) := by decide +kernel
theorem dX5_undo_1 : decode cX5_undo 1 = .ok (.getfield 30, 3) := by decide +kernel
theorem dX5_undo_4 : decode cX5_undo 4 = .ok (.ifCond .ne 7, 3) := by decide +kernel
theorem dX5_undo_7 : decode cX5_undo 7 = .ok (.sipush (-1002), 3) := by decide +kernel
theorem dX5_undo_10 : decode cX5_undo 10 = .ok (.ireturn, 1) := by decide +kernel
theorem dX5_undo_11 : decode cX5_undo 11 = .ok (.aload_n 0, 1) := by decide +kernel
theorem dX5_undo_12 : decode cX5_undo 12 = .ok (.dup, 1) := by decide +kernel
theorem dX5_undo_13 : decode cX5_undo 13 = .ok (.getfield 30, 3) := by decide +kernel
theorem dX5_undo_16 : decode cX5_undo 16 = .ok (.iconst 1, 1) := by decide +kernel
theorem dX5_undo_17 : decode cX5_undo 17 = .ok (.isub, 1) := by decide +kernel
theorem dX5_undo_18 : decode cX5_undo 18 = .ok (.putfield 30, 3) := by decide +kernel
theorem dX5_undo_21 : decode cX5_undo 21 = .ok (.iconst 0, 1) := by decide +kernel
theorem dX5_undo_22 : decode cX5_undo 22 = .ok (.istore_n 1, 1) := by decide +kernel
theorem dX5_undo_23 : decode cX5_undo 23 = .ok (.iload_n 1, 1) := by decide +kernel
theorem dX5_undo_24 : decode cX5_undo 24 = .ok (.sipush 1445, 3) := by decide +kernel
theorem dX5_undo_27 : decode cX5_undo 27 = .ok (.if_icmp .ge 30, 3) := by decide +kernel
theorem dX5_undo_30 : decode cX5_undo 30 = .ok (.aload_n 0, 1) := by decide +kernel
theorem dX5_undo_31 : decode cX5_undo 31 = .ok (.getfield 7, 3) := by decide +kernel
theorem dX5_undo_34 : decode cX5_undo 34 = .ok (.iload_n 1, 1) := by decide +kernel
theorem dX5_undo_35 : decode cX5_undo 35 = .ok (.aload_n 0, 1) := by decide +kernel
theorem dX5_undo_36 : decode cX5_undo 36 = .ok (.getfield 13, 3) := by decide +kernel
theorem dX5_undo_39 : decode cX5_undo 39 = .ok (.sipush 1445, 3) := by decide +kernel
theorem dX5_undo_42 : decode cX5_undo 42 = .ok (.aload_n 0, 1) := by decide +kernel
theorem dX5_undo_43 : decode cX5_undo 43 = .ok (.getfield 30, 3) := by decide +kernel
theorem dX5_undo_46 : decode cX5_undo 46 = .ok (.imul, 1) := by decide +kernel
theorem dX5_undo_47 : decode cX5_undo 47 = .ok (.iload_n 1, 1) := by decide +kernel
theorem dX5_undo_48 : decode cX5_undo 48 = .ok (.iadd, 1) := by decide +kernel
theorem dX5_undo_49 : decode cX5_undo 49 = .ok (.iaload, 1) := by decide +kernel
theorem dX5_undo_50 : decode cX5_undo 50 = .ok (.iastore, 1) := by decide +kernel
theorem dX5_undo_51 : decode cX5_undo 51 = .ok (.iinc 1 1, 3) := by decide +kernel
theorem dX5_undo_54 : decode cX5_undo 54 = .ok (.goto (-31), 3) := by decide +kernel
theorem dX5_undo_57 : decode cX5_undo 57 = .ok (.aload_n 0, 1) := by decide +kernel
theorem dX5_undo_58 : decode cX5_undo 58 = .ok (.getfield 30, 3) := by decide +kernel
theorem dX5_undo_61 : decode cX5_undo 61 = .ok (.ireturn, 1) := by decide +kernel
set_option maxRecDepth 20000 in
theorem ggX5_covers_X5_isCrane : GoodIn wsX5_covers wsX5_isCrane := goodIn_r _ [5, 6, 7, 8, 4, 9, 24, 25, 26, 27, 28, 29, 30, 31, 32] (by decide +kernel) (by decide +kernel)
set_option maxRecDepth 20000 in
theorem gX5_covers_X5_isCrane : GoodIn wsX5_covers (wsV RX5 94 RX5 yX5_isCrane wsX5_isCrane) := goodIn_app (goodIn_of _ (by decide +kernel)) ggX5_covers_X5_isCrane
set_option maxRecDepth 20000 in
theorem ggX5_covers_X5_isSwing : GoodIn wsX5_covers wsX5_isSwing := goodIn_r _ [12, 7, 8, 4, 9] (by decide +kernel) (by decide +kernel)
set_option maxRecDepth 20000 in
theorem gX5_covers_X5_isSwing : GoodIn wsX5_covers (va_wsS RX5 120 yX5_isSwing wsX5_isSwing) := goodIn_app (goodIn_of _ (by decide +kernel)) ggX5_covers_X5_isSwing
set_option maxRecDepth 20000 in
theorem ggX5_covers_X5_in : GoodIn wsX5_covers wsX5_in := goodIn_r _ [9] (by decide +kernel) (by decide +kernel)
set_option maxRecDepth 20000 in
theorem gX5_covers_X5_in : GoodIn wsX5_covers (va_wsS RX5 26 yX5_in wsX5_in) := goodIn_app (goodIn_of _ (by decide +kernel)) ggX5_covers_X5_in
set_option maxRecDepth 20000 in
theorem ggX5_covers_X5_isCovered : GoodIn wsX5_covers wsX5_isCovered := goodIn_r _ [16, 17, 18, 19, 4, 20, 6, 21, 22, 23, 24, 25, 26, 27, 28, 29, 30, 31, 32] (by decide +kernel) (by decide +kernel)
set_option maxRecDepth 20000 in
theorem gX5_covers_X5_isCovered : GoodIn wsX5_covers (wsV RX5 41 RX5 yX5_isCovered wsX5_isCovered) := goodIn_app (goodIn_of _ (by decide +kernel)) ggX5_covers_X5_isCovered
theorem dX5_covers_0 : decode cX5_covers 0 = .ok (.aload_n 0, 1) := by decide +kernel
theorem dX5_covers_1 : decode cX5_covers 1 = .ok (.iload_n 1, 1) := by decide +kernel
theorem dX5_covers_2 : decode cX5_covers 2 = .ok (.invokevirtual 94, 3) := by decide +kernel
