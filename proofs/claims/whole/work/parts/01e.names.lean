theorem dX5_covers_5 : decode cX5_covers 5 = .ok (.ifCond .eq 31, 3) := by decide +kernel
theorem dX5_covers_8 : decode cX5_covers 8 = .ok (.iload_n 2, 1) := by decide +kernel
theorem dX5_covers_9 : decode cX5_covers 9 = .ok (.invokestatic 120, 3) := by decide +kernel
theorem dX5_covers_12 : decode cX5_covers 12 = .ok (.ifCond .eq 24, 3) := by decide +kernel
theorem dX5_covers_15 : decode cX5_covers 15 = .ok (.iload_n 3, 1) := by decide +kernel
theorem dX5_covers_16 : decode cX5_covers 16 = .ok (.iconst 0, 1) := by decide +kernel
theorem dX5_covers_17 : decode cX5_covers 17 = .ok (.bipush 15, 2) := by decide +kernel
theorem dX5_covers_19 : decode cX5_covers 19 = .ok (.invokestatic 26, 3) := by decide +kernel
theorem dX5_covers_22 : decode cX5_covers 22 = .ok (.ifCond .eq 14, 3) := by decide +kernel
theorem dX5_covers_25 : decode cX5_covers 25 = .ok (.iload 4, 2) := by decide +kernel
theorem dX5_covers_27 : decode cX5_covers 27 = .ok (.iconst 0, 1) := by decide +kernel
theorem dX5_covers_28 : decode cX5_covers 28 = .ok (.bipush 15, 2) := by decide +kernel
theorem dX5_covers_30 : decode cX5_covers 30 = .ok (.invokestatic 26, 3) := by decide +kernel
theorem dX5_covers_33 : decode cX5_covers 33 = .ok (.ifCond .ne 7, 3) := by decide +kernel
theorem dX5_covers_36 : decode cX5_covers 36 = .ok (.sipush (-1001), 3) := by decide +kernel
theorem dX5_covers_39 : decode cX5_covers 39 = .ok (.ireturn, 1) := by decide +kernel
theorem dX5_covers_40 : decode cX5_covers 40 = .ok (.aload_n 0, 1) := by decide +kernel
theorem dX5_covers_41 : decode cX5_covers 41 = .ok (.iload_n 1, 1) := by decide +kernel
theorem dX5_covers_42 : decode cX5_covers 42 = .ok (.iload_n 2, 1) := by decide +kernel
theorem dX5_covers_43 : decode cX5_covers 43 = .ok (.iload_n 3, 1) := by decide +kernel
theorem dX5_covers_44 : decode cX5_covers 44 = .ok (.iload 4, 2) := by decide +kernel
theorem dX5_covers_46 : decode cX5_covers 46 = .ok (.invokevirtual 41, 3) := by decide +kernel
theorem dX5_covers_49 : decode cX5_covers 49 = .ok (.ifCond .eq 7, 3) := by decide +kernel
theorem dX5_covers_52 : decode cX5_covers 52 = .ok (.iconst 1, 1) := by decide +kernel
theorem dX5_covers_53 : decode cX5_covers 53 = .ok (.goto 4, 3) := by decide +kernel
theorem dX5_covers_56 : decode cX5_covers 56 = .ok (.iconst 0, 1) := by decide +kernel
theorem dX5_covers_57 : decode cX5_covers 57 = .ok (.ireturn, 1) := by decide +kernel
set_option maxRecDepth 20000 in
theorem ggX5_area_X5_isCrane : GoodIn wsX5_area wsX5_isCrane := goodIn_r _ [5, 6, 7, 8, 4, 9, 24, 25, 26, 27, 28, 29, 30, 31, 32] (by decide +kernel) (by decide +kernel)
set_option maxRecDepth 20000 in
theorem gX5_area_X5_isCrane : GoodIn wsX5_area (wsV RX5 94 RX5 yX5_isCrane wsX5_isCrane) := goodIn_app (goodIn_of _ (by decide +kernel)) ggX5_area_X5_isCrane
set_option maxRecDepth 20000 in
theorem ggX5_area_X5_isSwing : GoodIn wsX5_area wsX5_isSwing := goodIn_r _ [12, 7, 8, 4, 9] (by decide +kernel) (by decide +kernel)
set_option maxRecDepth 20000 in
theorem gX5_area_X5_isSwing : GoodIn wsX5_area (va_wsS RX5 120 yX5_isSwing wsX5_isSwing) := goodIn_app (goodIn_of _ (by decide +kernel)) ggX5_area_X5_isSwing
set_option maxRecDepth 20000 in
theorem ggX5_area_X5_isCovered : GoodIn wsX5_area wsX5_isCovered := goodIn_r _ [16, 17, 18, 19, 4, 20, 6, 21, 22, 23, 24, 25, 26, 27, 28, 29, 30, 31, 32] (by decide +kernel) (by decide +kernel)
set_option maxRecDepth 20000 in
theorem gX5_area_X5_isCovered : GoodIn wsX5_area (wsV RX5 41 RX5 yX5_isCovered wsX5_isCovered) := goodIn_app (goodIn_of _ (by decide +kernel)) ggX5_area_X5_isCovered
theorem dX5_area_0 : decode cX5_area 0 = .ok (.aload_n 0, 1) := by decide +kernel
theorem dX5_area_1 : decode cX5_area 1 = .ok (.iload_n 1, 1) := by decide +kernel
theorem dX5_area_2 : decode cX5_area 2 = .ok (.invokevirtual 94, 3) := by decide +kernel
theorem dX5_area_5 : decode cX5_area 5 = .ok (.ifCond .eq 10, 3) := by decide +kernel
theorem dX5_area_8 : decode cX5_area 8 = .ok (.iload_n 2, 1) := by decide +kernel
theorem dX5_area_9 : decode cX5_area 9 = .ok (.invokestatic 120, 3) := by decide +kernel
theorem dX5_area_12 : decode cX5_area 12 = .ok (.ifCond .ne 7, 3) := by decide +kernel
theorem dX5_area_15 : decode cX5_area 15 = .ok (.sipush (-1001), 3) := by decide +kernel
theorem dX5_area_18 : decode cX5_area 18 = .ok (.ireturn, 1) := by decide +kernel
theorem dX5_area_19 : decode cX5_area 19 = .ok (.iconst 0, 1) := by decide +kernel
theorem dX5_area_20 : decode cX5_area 20 = .ok (.istore_n 3, 1) := by decide +kernel
theorem dX5_area_21 : decode cX5_area 21 = .ok (.iconst 0, 1) := by decide +kernel
theorem dX5_area_22 : decode cX5_area 22 = .ok (.istore 4, 2) := by decide +kernel
theorem dX5_area_24 : decode cX5_area 24 = .ok (.iload 4, 2) := by decide +kernel
theorem dX5_area_26 : decode cX5_area 26 = .ok (.sipush 256, 3) := by decide +kernel
theorem dX5_area_29 : decode cX5_area 29 = .ok (.if_icmp .ge 36, 3) := by decide +kernel
theorem dX5_area_32 : decode cX5_area 32 = .ok (.iload_n 3, 1) := by decide +kernel
theorem dX5_area_33 : decode cX5_area 33 = .ok (.aload_n 0, 1) := by decide +kernel
theorem dX5_area_34 : decode cX5_area 34 = .ok (.iload_n 1, 1) := by decide +kernel
theorem dX5_area_35 : decode cX5_area 35 = .ok (.iload_n 2, 1) := by decide +kernel
theorem dX5_area_36 : decode cX5_area 36 = .ok (.iload 4, 2) := by decide +kernel
theorem dX5_area_38 : decode cX5_area 38 = .ok (.bipush 16, 2) := by decide +kernel
theorem dX5_area_40 : decode cX5_area 40 = .ok (.irem, 1) := by decide +kernel
theorem dX5_area_41 : decode cX5_area 41 = .ok (.iload 4, 2) := by decide +kernel
theorem dX5_area_43 : decode cX5_area 43 = .ok (.bipush 16, 2) := by decide +kernel
theorem dX5_area_45 : decode cX5_area 45 = .ok (.idiv, 1) := by decide +kernel
theorem dX5_area_46 : decode cX5_area 46 = .ok (.invokevirtual 41, 3) := by decide +kernel
theorem dX5_area_49 : decode cX5_area 49 = .ok (.ifCond .eq 7, 3) := by decide +kernel
theorem dX5_area_52 : decode cX5_area 52 = .ok (.iconst 1, 1) := by decide +kernel
theorem dX5_area_53 : decode cX5_area 53 = .ok (.goto 4, 3) := by decide +kernel
theorem dX5_area_56 : decode cX5_area 56 = .ok (.iconst 0, 1) := by decide +kernel
theorem dX5_area_57 : decode cX5_area 57 = .ok (.iadd, 1) := by decide +kernel
theorem dX5_area_58 : decode cX5_area 58 = .ok (.istore_n 3, 1) := by decide +kernel
theorem dX5_area_59 : decode cX5_area 59 = .ok (.iinc 4 1, 3) := by decide +kernel
theorem dX5_area_62 : decode cX5_area 62 = .ok (.goto (-38), 3) := by decide +kernel
theorem dX5_area_65 : decode cX5_area 65 = .ok (.iload_n 3, 1) := by decide +kernel
theorem dX5_area_66 : decode cX5_area 66 = .ok (.ireturn, 1) := by decide +kernel
set_option maxRecDepth 20000 in
theorem ggX5_isApplication_X5_isCrane : GoodIn wsX5_isApplication wsX5_isCrane := goodIn_r _ [5, 6, 7, 8, 4, 9, 19, 20, 21, 22, 23, 24, 25, 26, 27] (by decide +kernel) (by decide +kernel)
set_option maxRecDepth 20000 in
theorem gX5_isApplication_X5_isCrane : GoodIn wsX5_isApplication (wsV RX5 94 RX5 yX5_isCrane wsX5_isCrane) := goodIn_app (goodIn_of _ (by decide +kernel)) ggX5_isApplication_X5_isCrane
set_option maxRecDepth 20000 in
theorem ggX5_isApplication_X5_isNight : GoodIn wsX5_isApplication wsX5_isNight := goodIn_r _ [12, 7, 8, 4, 9] (by decide +kernel) (by decide +kernel)
set_option maxRecDepth 20000 in
theorem gX5_isApplication_X5_isNight : GoodIn wsX5_isApplication (va_wsS RX5 107 yX5_isNight wsX5_isNight) := goodIn_app (goodIn_of _ (by decide +kernel)) ggX5_isApplication_X5_isNight
set_option maxRecDepth 20000 in
theorem ggX5_isApplication_X5_areHours : GoodIn wsX5_isApplication wsX5_areHours := goodIn_r _ [15, 7, 8, 4, 9] (by decide +kernel) (by decide +kernel)
set_option maxRecDepth 20000 in
theorem gX5_isApplication_X5_areHours : GoodIn wsX5_isApplication (va_wsS RX5 123 yX5_areHours wsX5_areHours) := goodIn_app (goodIn_of _ (by decide +kernel)) ggX5_isApplication_X5_areHours
set_option maxRecDepth 20000 in
theorem ggX5_isApplication_X5_isSwing : GoodIn wsX5_isApplication wsX5_isSwing := goodIn_r _ [18, 7, 8, 4, 9] (by decide +kernel) (by decide +kernel)
set_option maxRecDepth 20000 in
theorem gX5_isApplication_X5_isSwing : GoodIn wsX5_isApplication (va_wsS RX5 120 yX5_isSwing wsX5_isSwing) := goodIn_app (goodIn_of _ (by decide +kernel)) ggX5_isApplication_X5_isSwing
theorem dX5_isApplication_0 : decode cX5_isApplication 0 = .ok (.aload_n 0, 1) := by decide +kernel
theorem dX5_isApplication_1 : decode cX5_isApplication 1 = .ok (.iload_n 1, 1) := by decide +kernel
theorem dX5_isApplication_2 : decode cX5_isApplication 2 = .ok (.invokevirtual 94, 3) := by decide +kernel
theorem dX5_isApplication_5 : decode cX5_isApplication 5 = .ok (.ifCond .eq 29, 3) := by decide +kernel
theorem dX5_isApplication_8 : decode cX5_isApplication 8 = .ok (.iload_n 2, 1) := by decide +kernel
theorem dX5_isApplication_9 : decode cX5_isApplication 9 = .ok (.invokestatic 107, 3) := by decide +kernel
theorem dX5_isApplication_12 : decode cX5_isApplication 12 = .ok (.ifCond .eq 22, 3) := by decide +kernel
theorem dX5_isApplication_15 : decode cX5_isApplication 15 = .ok (.iload_n 3, 1) := by decide +kernel
theorem dX5_isApplication_16 : decode cX5_isApplication 16 = .ok (.invokestatic 123, 3) := by decide +kernel
theorem dX5_isApplication_19 : decode cX5_isApplication 19 = .ok (.ifCond .eq 15, 3) := by decide +kernel
theorem dX5_isApplication_22 : decode cX5_isApplication 22 = .ok (.iload 4, 2) := by decide +kernel
theorem dX5_isApplication_24 : decode cX5_isApplication 24 = .ok (.invokestatic 120, 3) := by decide +kernel
theorem dX5_isApplication_27 : decode cX5_isApplication 27 = .ok (.ifCond .eq 7, 3) := by decide +kernel
theorem dX5_isApplication_30 : decode cX5_isApplication 30 = .ok (.iconst 1, 1) := by decide +kernel
theorem dX5_isApplication_31 : decode cX5_isApplication 31 = .ok (.goto 4, 3) := by decide +kernel
theorem dX5_isApplication_34 : decode cX5_isApplication 34 = .ok (.iconst 0, 1) := by decide +kernel
theorem dX5_isApplication_35 : decode cX5_isApplication 35 = .ok (.ireturn, 1) := by decide +kernel
set_option maxRecDepth 20000 in
theorem ggX5_refuses_X5_of : GoodIn wsX5_refuses wsX5_of := goodIn_r _ [6, 1, 63, 64, 65, 66, 67, 68, 69, 70, 71] (by decide +kernel) (by decide +kernel)
set_option maxRecDepth 20000 in
theorem gX5_refuses_X5_of : GoodIn wsX5_refuses (wsV RX5 45 RX5 yX5_of wsX5_of) := goodIn_app (goodIn_of _ (by decide +kernel)) ggX5_refuses_X5_of
set_option maxRecDepth 20000 in
theorem ggX5_refuses_X5_hoursMeet : GoodIn wsX5_refuses wsX5_hoursMeet := goodIn_r _ [9] (by decide +kernel) (by decide +kernel)
set_option maxRecDepth 20000 in
theorem gX5_refuses_X5_hoursMeet : GoodIn wsX5_refuses (va_wsS RX5 48 yX5_hoursMeet wsX5_hoursMeet) := goodIn_app (goodIn_of _ (by decide +kernel)) ggX5_refuses_X5_hoursMeet
set_option maxRecDepth 20000 in
theorem ggX5_refuses_X5_stops : GoodIn wsX5_refuses wsX5_stops := goodIn_r _ [13, 1, 14, 15, 16, 5, 17, 63, 64, 65, 66, 67, 68, 69, 70, 71] (by decide +kernel) (by decide +kernel)
set_option maxRecDepth 20000 in
theorem gX5_refuses_X5_stops : GoodIn wsX5_refuses (wsV RX5 75 RX5 yX5_stops wsX5_stops) := goodIn_app (goodIn_of _ (by decide +kernel)) ggX5_refuses_X5_stops
set_option maxRecDepth 20000 in
theorem ggX5_refuses_X5_firstInAir : GoodIn wsX5_refuses wsX5_firstInAir := goodIn_r _ [21, 1, 2, 3, 4, 5, 6, 22, 23, 24, 25, 14, 15, 16, 17, 7, 8, 9, 26, 27, 28, 29, 30, 31, 32, 33, 34, 35, 36, 63, 64, 65, 66, 67, 68, 69, 70, 71] (by decide +kernel) (by decide +kernel)
set_option maxRecDepth 20000 in
theorem gX5_refuses_X5_firstInAir : GoodIn wsX5_refuses (wsV RX5 126 RX5 yX5_firstInAir wsX5_firstInAir) := goodIn_app (goodIn_of _ (by decide +kernel)) ggX5_refuses_X5_firstInAir
set_option maxRecDepth 20000 in
theorem ggX5_refuses_X5_craned : GoodIn wsX5_refuses wsX5_craned := goodIn_r _ [17, 1, 63, 64, 65, 66, 67, 68, 69, 70, 71] (by decide +kernel) (by decide +kernel)
set_option maxRecDepth 20000 in
theorem gX5_refuses_X5_craned : GoodIn wsX5_refuses (wsV RX5 34 RX5 yX5_craned wsX5_craned) := goodIn_app (goodIn_of _ (by decide +kernel)) ggX5_refuses_X5_craned
set_option maxRecDepth 20000 in
theorem ggX5_refuses_X5_used : GoodIn wsX5_refuses wsX5_used := goodIn_r _ [40, 1, 41, 42, 43, 5, 44, 2, 3, 4, 6, 14, 15, 16, 17, 45, 46, 47, 48, 49, 50, 51, 63, 64, 65, 66, 67, 68, 69, 70, 71] (by decide +kernel) (by decide +kernel)
set_option maxRecDepth 20000 in
theorem gX5_refuses_X5_used : GoodIn wsX5_refuses (wsV RX5 78 RX5 yX5_used wsX5_used) := goodIn_app (goodIn_of _ (by decide +kernel)) ggX5_refuses_X5_used
set_option maxRecDepth 20000 in
theorem ggX5_refuses_X5_hoursIn : GoodIn wsX5_refuses wsX5_hoursIn := goodIn_r _ [51] (by decide +kernel) (by decide +kernel)
set_option maxRecDepth 20000 in
theorem gX5_refuses_X5_hoursIn : GoodIn wsX5_refuses (va_wsS RX5 65 yX5_hoursIn wsX5_hoursIn) := goodIn_app (goodIn_of _ (by decide +kernel)) ggX5_refuses_X5_hoursIn
set_option maxRecDepth 20000 in
theorem ggX5_refuses_X5_credits : GoodIn wsX5_refuses wsX5_credits := goodIn_r _ [55, 1, 56, 57, 5, 58, 59, 60, 61, 62, 63, 64, 65, 66, 67, 68, 69, 70, 71] (by decide +kernel) (by decide +kernel)
set_option maxRecDepth 20000 in
theorem gX5_refuses_X5_credits : GoodIn wsX5_refuses (wsV RX5 81 RX5 yX5_credits wsX5_credits) := goodIn_app (goodIn_of _ (by decide +kernel)) ggX5_refuses_X5_credits
theorem dX5_refuses_0 : decode cX5_refuses 0 = .ok (.iconst 0, 1) := by decide +kernel
theorem dX5_refuses_1 : decode cX5_refuses 1 = .ok (.istore 5, 2) := by decide +kernel
theorem dX5_refuses_3 : decode cX5_refuses 3 = .ok (.iload 5, 2) := by decide +kernel
theorem dX5_refuses_5 : decode cX5_refuses 5 = .ok (.aload_n 0, 1) := by decide +kernel
theorem dX5_refuses_6 : decode cX5_refuses 6 = .ok (.getfield 7, 3) := by decide +kernel
theorem dX5_refuses_9 : decode cX5_refuses 9 = .ok (.sipush 442, 3) := by decide +kernel
theorem dX5_refuses_12 : decode cX5_refuses 12 = .ok (.iaload, 1) := by decide +kernel
theorem dX5_refuses_13 : decode cX5_refuses 13 = .ok (.if_icmp .ge 58, 3) := by decide +kernel
theorem dX5_refuses_16 : decode cX5_refuses 16 = .ok (.aload_n 0, 1) := by decide +kernel
theorem dX5_refuses_17 : decode cX5_refuses 17 = .ok (.iload 5, 2) := by decide +kernel
theorem dX5_refuses_19 : decode cX5_refuses 19 = .ok (.iconst 4, 1) := by decide +kernel
theorem dX5_refuses_20 : decode cX5_refuses 20 = .ok (.invokevirtual 45, 3) := by decide +kernel
theorem dX5_refuses_23 : decode cX5_refuses 23 = .ok (.iconst 1, 1) := by decide +kernel
theorem dX5_refuses_24 : decode cX5_refuses 24 = .ok (.if_icmp .ne 41, 3) := by decide +kernel
theorem dX5_refuses_27 : decode cX5_refuses 27 = .ok (.aload_n 0, 1) := by decide +kernel
theorem dX5_refuses_28 : decode cX5_refuses 28 = .ok (.iload 5, 2) := by decide +kernel
theorem dX5_refuses_30 : decode cX5_refuses 30 = .ok (.iconst 0, 1) := by decide +kernel
theorem dX5_refuses_31 : decode cX5_refuses 31 = .ok (.invokevirtual 45, 3) := by decide +kernel
theorem dX5_refuses_34 : decode cX5_refuses 34 = .ok (.iload_n 1, 1) := by decide +kernel
theorem dX5_refuses_35 : decode cX5_refuses 35 = .ok (.if_icmp .ne 30, 3) := by decide +kernel
theorem dX5_refuses_38 : decode cX5_refuses 38 = .ok (.aload_n 0, 1) := by decide +kernel
theorem dX5_refuses_39 : decode cX5_refuses 39 = .ok (.iload 5, 2) := by decide +kernel
theorem dX5_refuses_41 : decode cX5_refuses 41 = .ok (.iconst 1, 1) := by decide +kernel
theorem dX5_refuses_42 : decode cX5_refuses 42 = .ok (.invokevirtual 45, 3) := by decide +kernel
theorem dX5_refuses_45 : decode cX5_refuses 45 = .ok (.iload_n 2, 1) := by decide +kernel
theorem dX5_refuses_46 : decode cX5_refuses 46 = .ok (.if_icmp .ne 19, 3) := by decide +kernel
theorem dX5_refuses_49 : decode cX5_refuses 49 = .ok (.iload_n 3, 1) := by decide +kernel
theorem dX5_refuses_50 : decode cX5_refuses 50 = .ok (.aload_n 0, 1) := by decide +kernel
theorem dX5_refuses_51 : decode cX5_refuses 51 = .ok (.iload 5, 2) := by decide +kernel
theorem dX5_refuses_53 : decode cX5_refuses 53 = .ok (.iconst 2, 1) := by decide +kernel
theorem dX5_refuses_54 : decode cX5_refuses 54 = .ok (.invokevirtual 45, 3) := by decide +kernel
theorem dX5_refuses_57 : decode cX5_refuses 57 = .ok (.invokestatic 48, 3) := by decide +kernel
theorem dX5_refuses_60 : decode cX5_refuses 60 = .ok (.ifCond .eq 5, 3) := by decide +kernel
theorem dX5_refuses_63 : decode cX5_refuses 63 = .ok (.iconst 1, 1) := by decide +kernel
theorem dX5_refuses_64 : decode cX5_refuses 64 = .ok (.ireturn, 1) := by decide +kernel
theorem dX5_refuses_65 : decode cX5_refuses 65 = .ok (.iinc 5 1, 3) := by decide +kernel
theorem dX5_refuses_68 : decode cX5_refuses 68 = .ok (.goto (-65), 3) := by decide +kernel
theorem dX5_refuses_71 : decode cX5_refuses 71 = .ok (.aload_n 0, 1) := by decide +kernel
theorem dX5_refuses_72 : decode cX5_refuses 72 = .ok (.iload_n 1, 1) := by decide +kernel
theorem dX5_refuses_73 : decode cX5_refuses 73 = .ok (.iload_n 2, 1) := by decide +kernel
theorem dX5_refuses_74 : decode cX5_refuses 74 = .ok (.invokevirtual 75, 3) := by decide +kernel
theorem dX5_refuses_77 : decode cX5_refuses 77 = .ok (.ifCond .eq 5, 3) := by decide +kernel
theorem dX5_refuses_80 : decode cX5_refuses 80 = .ok (.iconst 2, 1) := by decide +kernel
theorem dX5_refuses_81 : decode cX5_refuses 81 = .ok (.ireturn, 1) := by decide +kernel
theorem dX5_refuses_82 : decode cX5_refuses 82 = .ok (.aload_n 0, 1) := by decide +kernel
theorem dX5_refuses_83 : decode cX5_refuses 83 = .ok (.iload_n 1, 1) := by decide +kernel
theorem dX5_refuses_84 : decode cX5_refuses 84 = .ok (.iload_n 2, 1) := by decide +kernel
theorem dX5_refuses_85 : decode cX5_refuses 85 = .ok (.iload_n 3, 1) := by decide +kernel
theorem dX5_refuses_86 : decode cX5_refuses 86 = .ok (.iload 4, 2) := by decide +kernel
theorem dX5_refuses_88 : decode cX5_refuses 88 = .ok (.invokevirtual 126, 3) := by decide +kernel
theorem dX5_refuses_91 : decode cX5_refuses 91 = .ok (.iconst (-1), 1) := by decide +kernel
theorem dX5_refuses_92 : decode cX5_refuses 92 = .ok (.if_icmp .eq 5, 3) := by decide +kernel
theorem dX5_refuses_95 : decode cX5_refuses 95 = .ok (.iconst 3, 1) := by decide +kernel
theorem dX5_refuses_96 : decode cX5_refuses 96 = .ok (.ireturn, 1) := by decide +kernel
theorem dX5_refuses_97 : decode cX5_refuses 97 = .ok (.aload_n 0, 1) := by decide +kernel
theorem dX5_refuses_98 : decode cX5_refuses 98 = .ok (.iload_n 1, 1) := by decide +kernel
theorem dX5_refuses_99 : decode cX5_refuses 99 = .ok (.iconst 4, 1) := by decide +kernel
theorem dX5_refuses_100 : decode cX5_refuses 100 = .ok (.invokevirtual 34, 3) := by decide +kernel
theorem dX5_refuses_103 : decode cX5_refuses 103 = .ok (.istore 5, 2) := by decide +kernel
theorem dX5_refuses_105 : decode cX5_refuses 105 = .ok (.aload_n 0, 1) := by decide +kernel
theorem dX5_refuses_106 : decode cX5_refuses 106 = .ok (.iload 5, 2) := by decide +kernel
theorem dX5_refuses_108 : decode cX5_refuses 108 = .ok (.iload_n 2, 1) := by decide +kernel
theorem dX5_refuses_109 : decode cX5_refuses 109 = .ok (.invokevirtual 78, 3) := by decide +kernel
theorem dX5_refuses_112 : decode cX5_refuses 112 = .ok (.iload_n 3, 1) := by decide +kernel
theorem dX5_refuses_113 : decode cX5_refuses 113 = .ok (.invokestatic 65, 3) := by decide +kernel
theorem dX5_refuses_116 : decode cX5_refuses 116 = .ok (.aload_n 0, 1) := by decide +kernel
theorem dX5_refuses_117 : decode cX5_refuses 117 = .ok (.iload_n 1, 1) := by decide +kernel
theorem dX5_refuses_118 : decode cX5_refuses 118 = .ok (.iconst 5, 1) := by decide +kernel
theorem dX5_refuses_119 : decode cX5_refuses 119 = .ok (.invokevirtual 34, 3) := by decide +kernel
theorem dX5_refuses_122 : decode cX5_refuses 122 = .ok (.imul, 1) := by decide +kernel
theorem dX5_refuses_123 : decode cX5_refuses 123 = .ok (.iadd, 1) := by decide +kernel
theorem dX5_refuses_124 : decode cX5_refuses 124 = .ok (.aload_n 0, 1) := by decide +kernel
theorem dX5_refuses_125 : decode cX5_refuses 125 = .ok (.iload 5, 2) := by decide +kernel
theorem dX5_refuses_127 : decode cX5_refuses 127 = .ok (.iload_n 2, 1) := by decide +kernel
theorem dX5_refuses_128 : decode cX5_refuses 128 = .ok (.invokevirtual 81, 3) := by decide +kernel
theorem dX5_refuses_131 : decode cX5_refuses 131 = .ok (.if_icmp .le 7, 3) := by decide +kernel
theorem dX5_refuses_134 : decode cX5_refuses 134 = .ok (.iconst 4, 1) := by decide +kernel
theorem dX5_refuses_135 : decode cX5_refuses 135 = .ok (.goto 4, 3) := by decide +kernel
theorem dX5_refuses_138 : decode cX5_refuses 138 = .ok (.iconst 0, 1) := by decide +kernel
theorem dX5_refuses_139 : decode cX5_refuses 139 = .ok (.ireturn, 1) := by decide +kernel
set_option maxRecDepth 20000 in
theorem ggX5_refusal_X5_isApplication : GoodIn wsX5_refusal wsX5_isApplication := goodIn_r _ [5, 6, 7, 8, 4, 9, 10, 11, 12, 13, 14, 15, 16, 17, 18, 19, 20, 21, 22, 87, 88, 89, 90, 91, 92, 93, 94, 95] (by decide +kernel) (by decide +kernel)
set_option maxRecDepth 20000 in
theorem gX5_refusal_X5_isApplication : GoodIn wsX5_refusal (wsV RX5 130 RX5 yX5_isApplication wsX5_isApplication) := goodIn_app (goodIn_of _ (by decide +kernel)) ggX5_refusal_X5_isApplication
set_option maxRecDepth 20000 in
theorem ggX5_refusal_X5_refuses : GoodIn wsX5_refusal wsX5_refuses := goodIn_r _ [26, 10, 27, 28, 29, 4, 30, 31, 32, 33, 34, 35, 36, 37, 38, 39, 40, 41, 42, 43, 44, 45, 46, 47, 48, 49, 50, 51, 52, 53, 54, 55, 56, 57, 58, 59, 60, 61, 62, 63, 64, 65, 66, 67, 68, 69, 70, 71, 72, 73, 74, 75, 76, 77, 78, 79, 80, 81, 82, 83, 84, 85, 86, 87, 88, 89, 90, 91, 92, 93, 94, 95] (by decide +kernel) (by decide +kernel)
set_option maxRecDepth 20000 in
theorem gX5_refusal_X5_refuses : GoodIn wsX5_refusal (wsV RX5 133 RX5 yX5_refuses wsX5_refuses) := goodIn_app (goodIn_of _ (by decide +kernel)) ggX5_refusal_X5_refuses
theorem dX5_refusal_0 : decode cX5_refusal 0 = .ok (.aload_n 0, 1) := by decide +kernel
theorem dX5_refusal_1 : decode cX5_refusal 1 = .ok (.iload_n 1, 1) := by decide +kernel
theorem dX5_refusal_2 : decode cX5_refusal 2 = .ok (.iload_n 2, 1) := by decide +kernel
theorem dX5_refusal_3 : decode cX5_refusal 3 = .ok (.iload_n 3, 1) := by decide +kernel
theorem dX5_refusal_4 : decode cX5_refusal 4 = .ok (.iload 4, 2) := by decide +kernel
theorem dX5_refusal_6 : decode cX5_refusal 6 = .ok (.invokevirtual 130, 3) := by decide +kernel
theorem dX5_refusal_9 : decode cX5_refusal 9 = .ok (.ifCond .eq 15, 3) := by decide +kernel
theorem dX5_refusal_12 : decode cX5_refusal 12 = .ok (.aload_n 0, 1) := by decide +kernel
theorem dX5_refusal_13 : decode cX5_refusal 13 = .ok (.iload_n 1, 1) := by decide +kernel
theorem dX5_refusal_14 : decode cX5_refusal 14 = .ok (.iload_n 2, 1) := by decide +kernel
theorem dX5_refusal_15 : decode cX5_refusal 15 = .ok (.iload_n 3, 1) := by decide +kernel
theorem dX5_refusal_16 : decode cX5_refusal 16 = .ok (.iload 4, 2) := by decide +kernel
theorem dX5_refusal_18 : decode cX5_refusal 18 = .ok (.invokevirtual 133, 3) := by decide +kernel
theorem dX5_refusal_21 : decode cX5_refusal 21 = .ok (.goto 6, 3) := by decide +kernel
theorem dX5_refusal_24 : decode cX5_refusal 24 = .ok (.sipush (-1001), 3) := by decide +kernel
theorem dX5_refusal_27 : decode cX5_refusal 27 = .ok (.ireturn, 1) := by decide +kernel
set_option maxRecDepth 20000 in
theorem ggX5_isFull_X5_valid : GoodIn wsX5_isFull wsX5_valid := goodIn_r _ [6, 1, 7, 8, 9, 5, 10, 11, 12, 13, 14, 15, 16, 17, 18, 19] (by decide +kernel) (by decide +kernel)
set_option maxRecDepth 20000 in
theorem gX5_isFull_X5_valid : GoodIn wsX5_isFull (wsV RX5 101 RX5 yX5_valid wsX5_valid) := goodIn_app (goodIn_of _ (by decide +kernel)) ggX5_isFull_X5_valid
theorem dX5_isFull_0 : decode cX5_isFull 0 = .ok (.aload_n 0, 1) := by decide +kernel
theorem dX5_isFull_1 : decode cX5_isFull 1 = .ok (.iconst (-1), 1) := by decide +kernel
theorem dX5_isFull_2 : decode cX5_isFull 2 = .ok (.invokevirtual 101, 3) := by decide +kernel
theorem dX5_isFull_5 : decode cX5_isFull 5 = .ok (.bipush 24, 2) := by decide +kernel
theorem dX5_isFull_7 : decode cX5_isFull 7 = .ok (.if_icmp .eq 17, 3) := by decide +kernel
theorem dX5_isFull_10 : decode cX5_isFull 10 = .ok (.aload_n 0, 1) := by decide +kernel
theorem dX5_isFull_11 : decode cX5_isFull 11 = .ok (.getfield 7, 3) := by decide +kernel
theorem dX5_isFull_14 : decode cX5_isFull 14 = .ok (.sipush 442, 3) := by decide +kernel
theorem dX5_isFull_17 : decode cX5_isFull 17 = .ok (.iaload, 1) := by decide +kernel
theorem dX5_isFull_18 : decode cX5_isFull 18 = .ok (.sipush 200, 3) := by decide +kernel
theorem dX5_isFull_21 : decode cX5_isFull 21 = .ok (.if_icmp .ne 7, 3) := by decide +kernel
theorem dX5_isFull_24 : decode cX5_isFull 24 = .ok (.iconst 1, 1) := by decide +kernel
theorem dX5_isFull_25 : decode cX5_isFull 25 = .ok (.goto 4, 3) := by decide +kernel
theorem dX5_isFull_28 : decode cX5_isFull 28 = .ok (.iconst 0, 1) := by decide +kernel
theorem dX5_isFull_29 : decode cX5_isFull 29 = .ok (.ireturn, 1) := by decide +kernel
theorem dX5_grants_0 : decode cX5_grants 0 = .ok (.sipush 445, 3) := by decide +kernel
theorem dX5_grants_3 : decode cX5_grants 3 = .ok (.iconst 5, 1) := by decide +kernel
theorem dX5_grants_4 : decode cX5_grants 4 = .ok (.aload_n 0, 1) := by decide +kernel
theorem dX5_grants_5 : decode cX5_grants 5 = .ok (.getfield 7, 3) := by decide +kernel
theorem dX5_grants_8 : decode cX5_grants 8 = .ok (.sipush 442, 3) := by decide +kernel
theorem dX5_grants_11 : decode cX5_grants 11 = .ok (.iaload, 1) := by decide +kernel
theorem dX5_grants_12 : decode cX5_grants 12 = .ok (.imul, 1) := by decide +kernel
theorem dX5_grants_13 : decode cX5_grants 13 = .ok (.iadd, 1) := by decide +kernel
theorem dX5_grants_14 : decode cX5_grants 14 = .ok (.istore 5, 2) := by decide +kernel
theorem dX5_grants_16 : decode cX5_grants 16 = .ok (.aload_n 0, 1) := by decide +kernel
theorem dX5_grants_17 : decode cX5_grants 17 = .ok (.getfield 7, 3) := by decide +kernel
theorem dX5_grants_20 : decode cX5_grants 20 = .ok (.iload 5, 2) := by decide +kernel
theorem dX5_grants_22 : decode cX5_grants 22 = .ok (.iload_n 1, 1) := by decide +kernel
theorem dX5_grants_23 : decode cX5_grants 23 = .ok (.iastore, 1) := by decide +kernel
theorem dX5_grants_24 : decode cX5_grants 24 = .ok (.aload_n 0, 1) := by decide +kernel
theorem dX5_grants_25 : decode cX5_grants 25 = .ok (.getfield 7, 3) := by decide +kernel
theorem dX5_grants_28 : decode cX5_grants 28 = .ok (.iload 5, 2) := by decide +kernel
theorem dX5_grants_30 : decode cX5_grants 30 = .ok (.iconst 1, 1) := by decide +kernel
theorem dX5_grants_31 : decode cX5_grants 31 = .ok (.iadd, 1) := by decide +kernel
theorem dX5_grants_32 : decode cX5_grants 32 = .ok (.iload_n 2, 1) := by decide +kernel
theorem dX5_grants_33 : decode cX5_grants 33 = .ok (.iastore, 1) := by decide +kernel
theorem dX5_grants_34 : decode cX5_grants 34 = .ok (.aload_n 0, 1) := by decide +kernel
theorem dX5_grants_35 : decode cX5_grants 35 = .ok (.getfield 7, 3) := by decide +kernel
theorem dX5_grants_38 : decode cX5_grants 38 = .ok (.iload 5, 2) := by decide +kernel
theorem dX5_grants_40 : decode cX5_grants 40 = .ok (.iconst 2, 1) := by decide +kernel
theorem dX5_grants_41 : decode cX5_grants 41 = .ok (.iadd, 1) := by decide +kernel
theorem dX5_grants_42 : decode cX5_grants 42 = .ok (.iload_n 3, 1) := by decide +kernel
theorem dX5_grants_43 : decode cX5_grants 43 = .ok (.iastore, 1) := by decide +kernel
theorem dX5_grants_44 : decode cX5_grants 44 = .ok (.aload_n 0, 1) := by decide +kernel
theorem dX5_grants_45 : decode cX5_grants 45 = .ok (.getfield 7, 3) := by decide +kernel
theorem dX5_grants_48 : decode cX5_grants 48 = .ok (.iload 5, 2) := by decide +kernel
theorem dX5_grants_50 : decode cX5_grants 50 = .ok (.iconst 3, 1) := by decide +kernel
theorem dX5_grants_51 : decode cX5_grants 51 = .ok (.iadd, 1) := by decide +kernel
theorem dX5_grants_52 : decode cX5_grants 52 = .ok (.iload 4, 2) := by decide +kernel
theorem dX5_grants_54 : decode cX5_grants 54 = .ok (.iastore, 1) := by decide +kernel
theorem dX5_grants_55 : decode cX5_grants 55 = .ok (.aload_n 0, 1) := by decide +kernel
theorem dX5_grants_56 : decode cX5_grants 56 = .ok (.getfield 7, 3) := by decide +kernel
theorem dX5_grants_59 : decode cX5_grants 59 = .ok (.iload 5, 2) := by decide +kernel
theorem dX5_grants_61 : decode cX5_grants 61 = .ok (.iconst 4, 1) := by decide +kernel
theorem dX5_grants_62 : decode cX5_grants 62 = .ok (.iadd, 1) := by decide +kernel
theorem dX5_grants_63 : decode cX5_grants 63 = .ok (.iconst 1, 1) := by decide +kernel
theorem dX5_grants_64 : decode cX5_grants 64 = .ok (.iastore, 1) := by decide +kernel
theorem dX5_grants_65 : decode cX5_grants 65 = .ok (.aload_n 0, 1) := by decide +kernel
theorem dX5_grants_66 : decode cX5_grants 66 = .ok (.getfield 7, 3) := by decide +kernel
theorem dX5_grants_69 : decode cX5_grants 69 = .ok (.sipush 442, 3) := by decide +kernel
theorem dX5_grants_72 : decode cX5_grants 72 = .ok (.dup2, 1) := by decide +kernel
theorem dX5_grants_73 : decode cX5_grants 73 = .ok (.iaload, 1) := by decide +kernel
theorem dX5_grants_74 : decode cX5_grants 74 = .ok (.iconst 1, 1) := by decide +kernel
theorem dX5_grants_75 : decode cX5_grants 75 = .ok (.iadd, 1) := by decide +kernel
theorem dX5_grants_76 : decode cX5_grants 76 = .ok (.iastore, 1) := by decide +kernel
theorem dX5_grants_77 : decode cX5_grants 77 = .ok (.aload_n 0, 1) := by decide +kernel
theorem dX5_grants_78 : decode cX5_grants 78 = .ok (.getfield 7, 3) := by decide +kernel
theorem dX5_grants_81 : decode cX5_grants 81 = .ok (.sipush 442, 3) := by decide +kernel
theorem dX5_grants_84 : decode cX5_grants 84 = .ok (.iaload, 1) := by decide +kernel
theorem dX5_grants_85 : decode cX5_grants 85 = .ok (.iconst 1, 1) := by decide +kernel
theorem dX5_grants_86 : decode cX5_grants 86 = .ok (.isub, 1) := by decide +kernel
theorem dX5_grants_87 : decode cX5_grants 87 = .ok (.ireturn, 1) := by decide +kernel
set_option maxRecDepth 20000 in
theorem ggX5_apply_X5_isApplication : GoodIn wsX5_apply wsX5_isApplication := goodIn_r _ [5, 6, 7, 8, 4, 9, 10, 11, 12, 13, 14, 15, 16, 17, 18, 19, 20, 21, 22, 105, 106, 107, 108, 109, 110, 111, 112, 113] (by decide +kernel) (by decide +kernel)
set_option maxRecDepth 20000 in
theorem gX5_apply_X5_isApplication : GoodIn wsX5_apply (wsV RX5 130 RX5 yX5_isApplication wsX5_isApplication) := goodIn_app (goodIn_of _ (by decide +kernel)) ggX5_apply_X5_isApplication
set_option maxRecDepth 20000 in
theorem ggX5_apply_X5_refuses : GoodIn wsX5_apply wsX5_refuses := goodIn_r _ [26, 10, 27, 28, 29, 4, 30, 31, 32, 33, 34, 35, 36, 37, 38, 39, 40, 41, 42, 43, 44, 45, 46, 47, 48, 49, 50, 51, 52, 53, 54, 55, 56, 57, 58, 59, 60, 61, 62, 63, 64, 65, 66, 67, 68, 69, 70, 71, 72, 73, 74, 75, 76, 77, 78, 79, 80, 81, 82, 83, 84, 85, 86, 105, 106, 107, 108, 109, 110, 111, 112, 113] (by decide +kernel) (by decide +kernel)
set_option maxRecDepth 20000 in
theorem gX5_apply_X5_refuses : GoodIn wsX5_apply (wsV RX5 133 RX5 yX5_refuses wsX5_refuses) := goodIn_app (goodIn_of _ (by decide +kernel)) ggX5_apply_X5_refuses
set_option maxRecDepth 20000 in
theorem ggX5_apply_X5_isFull : GoodIn wsX5_apply wsX5_isFull := goodIn_r _ [90, 10, 91, 92, 93, 4, 94, 27, 28, 29, 30, 105, 106, 107, 108, 109, 110, 111, 112, 113] (by decide +kernel) (by decide +kernel)
set_option maxRecDepth 20000 in
theorem gX5_apply_X5_isFull : GoodIn wsX5_apply (wsV RX5 136 RX5 yX5_isFull wsX5_isFull) := goodIn_app (goodIn_of _ (by decide +kernel)) ggX5_apply_X5_isFull
set_option maxRecDepth 20000 in
theorem ggX5_apply_X5_records : GoodIn wsX5_apply wsX5_records := goodIn_r _ [98, 99, 100, 10, 105, 106, 107, 108, 109, 110, 111, 112, 113] (by decide +kernel) (by decide +kernel)
set_option maxRecDepth 20000 in
theorem gX5_apply_X5_records : GoodIn wsX5_apply (wsV RX5 91 RX5 yX5_records wsX5_records) := goodIn_app (goodIn_of _ (by decide +kernel)) ggX5_apply_X5_records
set_option maxRecDepth 20000 in
theorem ggX5_apply_X5_grants : GoodIn wsX5_apply wsX5_grants := goodIn_r _ [104, 10, 105, 106, 107, 108, 109, 110, 111, 112, 113] (by decide +kernel) (by decide +kernel)
set_option maxRecDepth 20000 in
theorem gX5_apply_X5_grants : GoodIn wsX5_apply (wsV RX5 140 RX5 yX5_grants wsX5_grants) := goodIn_app (goodIn_of _ (by decide +kernel)) ggX5_apply_X5_grants
theorem dX5_apply_0 : decode cX5_apply 0 = .ok (.aload_n 0, 1) := by decide +kernel
theorem dX5_apply_1 : decode cX5_apply 1 = .ok (.iload_n 1, 1) := by decide +kernel
theorem dX5_apply_2 : decode cX5_apply 2 = .ok (.iload_n 2, 1) := by decide +kernel
theorem dX5_apply_3 : decode cX5_apply 3 = .ok (.iload_n 3, 1) := by decide +kernel
theorem dX5_apply_4 : decode cX5_apply 4 = .ok (.iload 4, 2) := by decide +kernel
theorem dX5_apply_6 : decode cX5_apply 6 = .ok (.invokevirtual 130, 3) := by decide +kernel
theorem dX5_apply_9 : decode cX5_apply 9 = .ok (.ifCond .ne 7, 3) := by decide +kernel
theorem dX5_apply_12 : decode cX5_apply 12 = .ok (.sipush (-1001), 3) := by decide +kernel
theorem dX5_apply_15 : decode cX5_apply 15 = .ok (.ireturn, 1) := by decide +kernel
theorem dX5_apply_16 : decode cX5_apply 16 = .ok (.aload_n 0, 1) := by decide +kernel
theorem dX5_apply_17 : decode cX5_apply 17 = .ok (.iload_n 1, 1) := by decide +kernel
theorem dX5_apply_18 : decode cX5_apply 18 = .ok (.iload_n 2, 1) := by decide +kernel
theorem dX5_apply_19 : decode cX5_apply 19 = .ok (.iload_n 3, 1) := by decide +kernel
theorem dX5_apply_20 : decode cX5_apply 20 = .ok (.iload 4, 2) := by decide +kernel
theorem dX5_apply_22 : decode cX5_apply 22 = .ok (.invokevirtual 133, 3) := by decide +kernel
theorem dX5_apply_25 : decode cX5_apply 25 = .ok (.ifCond .le 7, 3) := by decide +kernel
theorem dX5_apply_28 : decode cX5_apply 28 = .ok (.sipush (-1002), 3) := by decide +kernel
theorem dX5_apply_31 : decode cX5_apply 31 = .ok (.ireturn, 1) := by decide +kernel
theorem dX5_apply_32 : decode cX5_apply 32 = .ok (.aload_n 0, 1) := by decide +kernel
theorem dX5_apply_33 : decode cX5_apply 33 = .ok (.invokevirtual 136, 3) := by decide +kernel
theorem dX5_apply_36 : decode cX5_apply 36 = .ok (.ifCond .eq 7, 3) := by decide +kernel
theorem dX5_apply_39 : decode cX5_apply 39 = .ok (.sipush (-1003), 3) := by decide +kernel
theorem dX5_apply_42 : decode cX5_apply 42 = .ok (.ireturn, 1) := by decide +kernel
theorem dX5_apply_43 : decode cX5_apply 43 = .ok (.aload_n 0, 1) := by decide +kernel
theorem dX5_apply_44 : decode cX5_apply 44 = .ok (.invokevirtual 91, 3) := by decide +kernel
theorem dX5_apply_47 : decode cX5_apply 47 = .ok (.aload_n 0, 1) := by decide +kernel
theorem dX5_apply_48 : decode cX5_apply 48 = .ok (.iload_n 1, 1) := by decide +kernel
theorem dX5_apply_49 : decode cX5_apply 49 = .ok (.iload_n 2, 1) := by decide +kernel
theorem dX5_apply_50 : decode cX5_apply 50 = .ok (.iload_n 3, 1) := by decide +kernel
theorem dX5_apply_51 : decode cX5_apply 51 = .ok (.iload 4, 2) := by decide +kernel
theorem dX5_apply_53 : decode cX5_apply 53 = .ok (.invokevirtual 140, 3) := by decide +kernel
theorem dX5_apply_56 : decode cX5_apply 56 = .ok (.ireturn, 1) := by decide +kernel
set_option maxRecDepth 20000 in
theorem ggX5_withdraw_X5_isPermit : GoodIn wsX5_withdraw wsX5_isPermit := goodIn_r _ [6, 1, 7, 8, 5, 9, 31, 32, 33, 34, 35, 36, 37, 38, 39] (by decide +kernel) (by decide +kernel)
set_option maxRecDepth 20000 in
theorem gX5_withdraw_X5_isPermit : GoodIn wsX5_withdraw (wsV RX5 143 RX5 yX5_isPermit wsX5_isPermit) := goodIn_app (goodIn_of _ (by decide +kernel)) ggX5_withdraw_X5_isPermit
set_option maxRecDepth 20000 in
theorem ggX5_withdraw_X5_of : GoodIn wsX5_withdraw wsX5_of := goodIn_r _ [13, 1, 31, 32, 33, 34, 35, 36, 37, 38, 39] (by decide +kernel) (by decide +kernel)
set_option maxRecDepth 20000 in
theorem gX5_withdraw_X5_of : GoodIn wsX5_withdraw (wsV RX5 45 RX5 yX5_of wsX5_of) := goodIn_app (goodIn_of _ (by decide +kernel)) ggX5_withdraw_X5_of
set_option maxRecDepth 20000 in
theorem ggX5_withdraw_X5_records : GoodIn wsX5_withdraw wsX5_records := goodIn_r _ [17, 18, 19, 1, 31, 32, 33, 34, 35, 36, 37, 38, 39] (by decide +kernel) (by decide +kernel)
set_option maxRecDepth 20000 in
theorem gX5_withdraw_X5_records : GoodIn wsX5_withdraw (wsV RX5 91 RX5 yX5_records wsX5_records) := goodIn_app (goodIn_of _ (by decide +kernel)) ggX5_withdraw_X5_records
set_option maxRecDepth 20000 in
theorem ggX5_withdraw_X5_uses : GoodIn wsX5_withdraw wsX5_uses := goodIn_r _ [23, 10, 11, 12, 5, 13, 1, 24, 25, 26, 27, 28, 29, 30, 31, 32, 33, 34, 35, 36, 37, 38, 39] (by decide +kernel) (by decide +kernel)
set_option maxRecDepth 20000 in
theorem gX5_withdraw_X5_uses : GoodIn wsX5_withdraw (wsV RX5 72 RX5 yX5_uses wsX5_uses) := goodIn_app (goodIn_of _ (by decide +kernel)) ggX5_withdraw_X5_uses
theorem dX5_withdraw_0 : decode cX5_withdraw 0 = .ok (.aload_n 0, 1) := by decide +kernel
theorem dX5_withdraw_1 : decode cX5_withdraw 1 = .ok (.iload_n 1, 1) := by decide +kernel
theorem dX5_withdraw_2 : decode cX5_withdraw 2 = .ok (.invokevirtual 143, 3) := by decide +kernel
theorem dX5_withdraw_5 : decode cX5_withdraw 5 = .ok (.ifCond .ne 7, 3) := by decide +kernel
theorem dX5_withdraw_8 : decode cX5_withdraw 8 = .ok (.sipush (-1001), 3) := by decide +kernel
theorem dX5_withdraw_11 : decode cX5_withdraw 11 = .ok (.ireturn, 1) := by decide +kernel
theorem dX5_withdraw_12 : decode cX5_withdraw 12 = .ok (.aload_n 0, 1) := by decide +kernel
theorem dX5_withdraw_13 : decode cX5_withdraw 13 = .ok (.iload_n 1, 1) := by decide +kernel
theorem dX5_withdraw_14 : decode cX5_withdraw 14 = .ok (.iconst 4, 1) := by decide +kernel
theorem dX5_withdraw_15 : decode cX5_withdraw 15 = .ok (.invokevirtual 45, 3) := by decide +kernel
theorem dX5_withdraw_18 : decode cX5_withdraw 18 = .ok (.iconst 1, 1) := by decide +kernel
theorem dX5_withdraw_19 : decode cX5_withdraw 19 = .ok (.if_icmp .eq 7, 3) := by decide +kernel
theorem dX5_withdraw_22 : decode cX5_withdraw 22 = .ok (.sipush (-1002), 3) := by decide +kernel
theorem dX5_withdraw_25 : decode cX5_withdraw 25 = .ok (.ireturn, 1) := by decide +kernel
theorem dX5_withdraw_26 : decode cX5_withdraw 26 = .ok (.aload_n 0, 1) := by decide +kernel
theorem dX5_withdraw_27 : decode cX5_withdraw 27 = .ok (.invokevirtual 91, 3) := by decide +kernel
theorem dX5_withdraw_30 : decode cX5_withdraw 30 = .ok (.aload_n 0, 1) := by decide +kernel
theorem dX5_withdraw_31 : decode cX5_withdraw 31 = .ok (.getfield 7, 3) := by decide +kernel
theorem dX5_withdraw_34 : decode cX5_withdraw 34 = .ok (.sipush 445, 3) := by decide +kernel
theorem dX5_withdraw_37 : decode cX5_withdraw 37 = .ok (.iconst 5, 1) := by decide +kernel
theorem dX5_withdraw_38 : decode cX5_withdraw 38 = .ok (.iload_n 1, 1) := by decide +kernel
theorem dX5_withdraw_39 : decode cX5_withdraw 39 = .ok (.imul, 1) := by decide +kernel
theorem dX5_withdraw_40 : decode cX5_withdraw 40 = .ok (.iadd, 1) := by decide +kernel
theorem dX5_withdraw_41 : decode cX5_withdraw 41 = .ok (.iconst 4, 1) := by decide +kernel
theorem dX5_withdraw_42 : decode cX5_withdraw 42 = .ok (.iadd, 1) := by decide +kernel
theorem dX5_withdraw_43 : decode cX5_withdraw 43 = .ok (.iconst 2, 1) := by decide +kernel
theorem dX5_withdraw_44 : decode cX5_withdraw 44 = .ok (.iastore, 1) := by decide +kernel
theorem dX5_withdraw_45 : decode cX5_withdraw 45 = .ok (.aload_n 0, 1) := by decide +kernel
theorem dX5_withdraw_46 : decode cX5_withdraw 46 = .ok (.getfield 7, 3) := by decide +kernel
theorem dX5_withdraw_49 : decode cX5_withdraw 49 = .ok (.sipush 443, 3) := by decide +kernel
theorem dX5_withdraw_52 : decode cX5_withdraw 52 = .ok (.dup2, 1) := by decide +kernel
theorem dX5_withdraw_53 : decode cX5_withdraw 53 = .ok (.iaload, 1) := by decide +kernel
theorem dX5_withdraw_54 : decode cX5_withdraw 54 = .ok (.iconst 1, 1) := by decide +kernel
theorem dX5_withdraw_55 : decode cX5_withdraw 55 = .ok (.iadd, 1) := by decide +kernel
theorem dX5_withdraw_56 : decode cX5_withdraw 56 = .ok (.iastore, 1) := by decide +kernel
theorem dX5_withdraw_57 : decode cX5_withdraw 57 = .ok (.aload_n 0, 1) := by decide +kernel
theorem dX5_withdraw_58 : decode cX5_withdraw 58 = .ok (.iload_n 1, 1) := by decide +kernel
theorem dX5_withdraw_59 : decode cX5_withdraw 59 = .ok (.invokevirtual 72, 3) := by decide +kernel
theorem dX5_withdraw_62 : decode cX5_withdraw 62 = .ok (.ireturn, 1) := by decide +kernel
set_option maxRecDepth 20000 in
theorem ggX5_permit_X5_isPermit : GoodIn wsX5_permit wsX5_isPermit := goodIn_r _ [5, 6, 7, 8, 4, 9, 25, 26, 27, 28, 29, 30, 31, 32, 33] (by decide +kernel) (by decide +kernel)
set_option maxRecDepth 20000 in
theorem gX5_permit_X5_isPermit : GoodIn wsX5_permit (wsV RX5 143 RX5 yX5_isPermit wsX5_isPermit) := goodIn_app (goodIn_of _ (by decide +kernel)) ggX5_permit_X5_isPermit
set_option maxRecDepth 20000 in
theorem ggX5_permit_X5_in : GoodIn wsX5_permit wsX5_in := goodIn_r _ [9] (by decide +kernel) (by decide +kernel)
set_option maxRecDepth 20000 in
theorem gX5_permit_X5_in : GoodIn wsX5_permit (va_wsS RX5 26 yX5_in wsX5_in) := goodIn_app (goodIn_of _ (by decide +kernel)) ggX5_permit_X5_in
set_option maxRecDepth 20000 in
theorem ggX5_permit_X5_of : GoodIn wsX5_permit wsX5_of := goodIn_r _ [13, 6, 25, 26, 27, 28, 29, 30, 31, 32, 33] (by decide +kernel) (by decide +kernel)
set_option maxRecDepth 20000 in
theorem gX5_permit_X5_of : GoodIn wsX5_permit (wsV RX5 45 RX5 yX5_of wsX5_of) := goodIn_app (goodIn_of _ (by decide +kernel)) ggX5_permit_X5_of
set_option maxRecDepth 20000 in
theorem ggX5_permit_X5_uses : GoodIn wsX5_permit wsX5_uses := goodIn_r _ [17, 10, 11, 12, 4, 13, 6, 18, 19, 20, 21, 22, 23, 24, 25, 26, 27, 28, 29, 30, 31, 32, 33] (by decide +kernel) (by decide +kernel)
set_option maxRecDepth 20000 in
theorem gX5_permit_X5_uses : GoodIn wsX5_permit (wsV RX5 72 RX5 yX5_uses wsX5_uses) := goodIn_app (goodIn_of _ (by decide +kernel)) ggX5_permit_X5_uses
theorem dX5_permit_0 : decode cX5_permit 0 = .ok (.aload_n 0, 1) := by decide +kernel
theorem dX5_permit_1 : decode cX5_permit 1 = .ok (.iload_n 1, 1) := by decide +kernel
theorem dX5_permit_2 : decode cX5_permit 2 = .ok (.invokevirtual 143, 3) := by decide +kernel
theorem dX5_permit_5 : decode cX5_permit 5 = .ok (.ifCond .eq 12, 3) := by decide +kernel
theorem dX5_permit_8 : decode cX5_permit 8 = .ok (.iload_n 2, 1) := by decide +kernel
theorem dX5_permit_9 : decode cX5_permit 9 = .ok (.iconst 0, 1) := by decide +kernel
theorem dX5_permit_10 : decode cX5_permit 10 = .ok (.iconst 5, 1) := by decide +kernel
theorem dX5_permit_11 : decode cX5_permit 11 = .ok (.invokestatic 26, 3) := by decide +kernel
theorem dX5_permit_14 : decode cX5_permit 14 = .ok (.ifCond .ne 7, 3) := by decide +kernel
theorem dX5_permit_17 : decode cX5_permit 17 = .ok (.sipush (-1001), 3) := by decide +kernel
theorem dX5_permit_20 : decode cX5_permit 20 = .ok (.ireturn, 1) := by decide +kernel
theorem dX5_permit_21 : decode cX5_permit 21 = .ok (.iload_n 2, 1) := by decide +kernel
theorem dX5_permit_22 : decode cX5_permit 22 = .ok (.iconst 4, 1) := by decide +kernel
theorem dX5_permit_23 : decode cX5_permit 23 = .ok (.if_icmp .ge 12, 3) := by decide +kernel
theorem dX5_permit_26 : decode cX5_permit 26 = .ok (.aload_n 0, 1) := by decide +kernel
theorem dX5_permit_27 : decode cX5_permit 27 = .ok (.iload_n 1, 1) := by decide +kernel
theorem dX5_permit_28 : decode cX5_permit 28 = .ok (.iload_n 2, 1) := by decide +kernel
theorem dX5_permit_29 : decode cX5_permit 29 = .ok (.invokevirtual 45, 3) := by decide +kernel
theorem dX5_permit_32 : decode cX5_permit 32 = .ok (.goto 22, 3) := by decide +kernel
theorem dX5_permit_35 : decode cX5_permit 35 = .ok (.iload_n 2, 1) := by decide +kernel
theorem dX5_permit_36 : decode cX5_permit 36 = .ok (.iconst 4, 1) := by decide +kernel
theorem dX5_permit_37 : decode cX5_permit 37 = .ok (.if_icmp .ne 11, 3) := by decide +kernel
theorem dX5_permit_40 : decode cX5_permit 40 = .ok (.aload_n 0, 1) := by decide +kernel
theorem dX5_permit_41 : decode cX5_permit 41 = .ok (.iload_n 1, 1) := by decide +kernel
theorem dX5_permit_42 : decode cX5_permit 42 = .ok (.invokevirtual 72, 3) := by decide +kernel
theorem dX5_permit_45 : decode cX5_permit 45 = .ok (.goto 9, 3) := by decide +kernel
theorem dX5_permit_48 : decode cX5_permit 48 = .ok (.aload_n 0, 1) := by decide +kernel
theorem dX5_permit_49 : decode cX5_permit 49 = .ok (.iload_n 1, 1) := by decide +kernel
theorem dX5_permit_50 : decode cX5_permit 50 = .ok (.iconst 4, 1) := by decide +kernel
theorem dX5_permit_51 : decode cX5_permit 51 = .ok (.invokevirtual 45, 3) := by decide +kernel
theorem dX5_permit_54 : decode cX5_permit 54 = .ok (.ireturn, 1) := by decide +kernel
set_option maxRecDepth 20000 in
theorem ggX5_isAhead_X5_of : GoodIn wsX5_isAhead wsX5_of := goodIn_r _ [5, 6, 7, 8, 9, 10, 11, 12, 13, 14, 15] (by decide +kernel) (by decide +kernel)
set_option maxRecDepth 20000 in
theorem gX5_isAhead_X5_of : GoodIn wsX5_isAhead (wsV RX5 45 RX5 yX5_of wsX5_of) := goodIn_app (goodIn_of _ (by decide +kernel)) ggX5_isAhead_X5_of
theorem dX5_isAhead_0 : decode cX5_isAhead 0 = .ok (.bipush 10, 2) := by decide +kernel
theorem dX5_isAhead_2 : decode cX5_isAhead 2 = .ok (.aload_n 0, 1) := by decide +kernel
theorem dX5_isAhead_3 : decode cX5_isAhead 3 = .ok (.iload_n 1, 1) := by decide +kernel
theorem dX5_isAhead_4 : decode cX5_isAhead 4 = .ok (.iconst 1, 1) := by decide +kernel
theorem dX5_isAhead_5 : decode cX5_isAhead 5 = .ok (.invokevirtual 45, 3) := by decide +kernel
theorem dX5_isAhead_8 : decode cX5_isAhead 8 = .ok (.imul, 1) := by decide +kernel
theorem dX5_isAhead_9 : decode cX5_isAhead 9 = .ok (.aload_n 0, 1) := by decide +kernel
theorem dX5_isAhead_10 : decode cX5_isAhead 10 = .ok (.iload_n 1, 1) := by decide +kernel
theorem dX5_isAhead_11 : decode cX5_isAhead 11 = .ok (.iconst 2, 1) := by decide +kernel
theorem dX5_isAhead_12 : decode cX5_isAhead 12 = .ok (.invokevirtual 45, 3) := by decide +kernel
theorem dX5_isAhead_15 : decode cX5_isAhead 15 = .ok (.bipush 10, 2) := by decide +kernel
theorem dX5_isAhead_17 : decode cX5_isAhead 17 = .ok (.idiv, 1) := by decide +kernel
theorem dX5_isAhead_18 : decode cX5_isAhead 18 = .ok (.iadd, 1) := by decide +kernel
theorem dX5_isAhead_19 : decode cX5_isAhead 19 = .ok (.istore_n 3, 1) := by decide +kernel
theorem dX5_isAhead_20 : decode cX5_isAhead 20 = .ok (.bipush 10, 2) := by decide +kernel
theorem dX5_isAhead_22 : decode cX5_isAhead 22 = .ok (.aload_n 0, 1) := by decide +kernel
theorem dX5_isAhead_23 : decode cX5_isAhead 23 = .ok (.iload_n 2, 1) := by decide +kernel
theorem dX5_isAhead_24 : decode cX5_isAhead 24 = .ok (.iconst 1, 1) := by decide +kernel
theorem dX5_isAhead_25 : decode cX5_isAhead 25 = .ok (.invokevirtual 45, 3) := by decide +kernel
theorem dX5_isAhead_28 : decode cX5_isAhead 28 = .ok (.imul, 1) := by decide +kernel
theorem dX5_isAhead_29 : decode cX5_isAhead 29 = .ok (.aload_n 0, 1) := by decide +kernel
theorem dX5_isAhead_30 : decode cX5_isAhead 30 = .ok (.iload_n 2, 1) := by decide +kernel
theorem dX5_isAhead_31 : decode cX5_isAhead 31 = .ok (.iconst 2, 1) := by decide +kernel
theorem dX5_isAhead_32 : decode cX5_isAhead 32 = .ok (.invokevirtual 45, 3) := by decide +kernel
theorem dX5_isAhead_35 : decode cX5_isAhead 35 = .ok (.bipush 10, 2) := by decide +kernel
theorem dX5_isAhead_37 : decode cX5_isAhead 37 = .ok (.idiv, 1) := by decide +kernel
theorem dX5_isAhead_38 : decode cX5_isAhead 38 = .ok (.iadd, 1) := by decide +kernel
theorem dX5_isAhead_39 : decode cX5_isAhead 39 = .ok (.istore 4, 2) := by decide +kernel
theorem dX5_isAhead_41 : decode cX5_isAhead 41 = .ok (.iload_n 3, 1) := by decide +kernel
theorem dX5_isAhead_42 : decode cX5_isAhead 42 = .ok (.iload 4, 2) := by decide +kernel
theorem dX5_isAhead_44 : decode cX5_isAhead 44 = .ok (.if_icmp .lt 14, 3) := by decide +kernel
theorem dX5_isAhead_47 : decode cX5_isAhead 47 = .ok (.iload_n 3, 1) := by decide +kernel
theorem dX5_isAhead_48 : decode cX5_isAhead 48 = .ok (.iload 4, 2) := by decide +kernel
theorem dX5_isAhead_50 : decode cX5_isAhead 50 = .ok (.if_icmp .ne 12, 3) := by decide +kernel
theorem dX5_isAhead_53 : decode cX5_isAhead 53 = .ok (.iload_n 1, 1) := by decide +kernel
theorem dX5_isAhead_54 : decode cX5_isAhead 54 = .ok (.iload_n 2, 1) := by decide +kernel
theorem dX5_isAhead_55 : decode cX5_isAhead 55 = .ok (.if_icmp .ge 7, 3) := by decide +kernel
theorem dX5_isAhead_58 : decode cX5_isAhead 58 = .ok (.iconst 1, 1) := by decide +kernel
theorem dX5_isAhead_59 : decode cX5_isAhead 59 = .ok (.goto 4, 3) := by decide +kernel
theorem dX5_isAhead_62 : decode cX5_isAhead 62 = .ok (.iconst 0, 1) := by decide +kernel
theorem dX5_isAhead_63 : decode cX5_isAhead 63 = .ok (.ireturn, 1) := by decide +kernel
set_option maxRecDepth 20000 in
theorem ggX5_inOrder_X5_of : GoodIn wsX5_inOrder wsX5_of := goodIn_r _ [6, 1, 11, 12, 13, 14, 15, 16, 17, 18, 19] (by decide +kernel) (by decide +kernel)
set_option maxRecDepth 20000 in
theorem gX5_inOrder_X5_of : GoodIn wsX5_inOrder (wsV RX5 45 RX5 yX5_of wsX5_of) := goodIn_app (goodIn_of _ (by decide +kernel)) ggX5_inOrder_X5_of
set_option maxRecDepth 20000 in
theorem ggX5_inOrder_X5_isAhead : GoodIn wsX5_inOrder wsX5_isAhead := goodIn_r _ [10, 2, 3, 4, 5, 6, 1, 11, 12, 13, 14, 15, 16, 17, 18, 19] (by decide +kernel) (by decide +kernel)
set_option maxRecDepth 20000 in
theorem gX5_inOrder_X5_isAhead : GoodIn wsX5_inOrder (wsV RX5 146 RX5 yX5_isAhead wsX5_isAhead) := goodIn_app (goodIn_of _ (by decide +kernel)) ggX5_inOrder_X5_isAhead
theorem dX5_inOrder_0 : decode cX5_inOrder 0 = .ok (.iload_n 1, 1) := by decide +kernel
theorem dX5_inOrder_1 : decode cX5_inOrder 1 = .ok (.ifCond .ge 7, 3) := by decide +kernel
theorem dX5_inOrder_4 : decode cX5_inOrder 4 = .ok (.sipush (-1001), 3) := by decide +kernel
theorem dX5_inOrder_7 : decode cX5_inOrder 7 = .ok (.ireturn, 1) := by decide +kernel
theorem dX5_inOrder_8 : decode cX5_inOrder 8 = .ok (.iconst 0, 1) := by decide +kernel
theorem dX5_inOrder_9 : decode cX5_inOrder 9 = .ok (.istore_n 2, 1) := by decide +kernel
theorem dX5_inOrder_10 : decode cX5_inOrder 10 = .ok (.iload_n 2, 1) := by decide +kernel
theorem dX5_inOrder_11 : decode cX5_inOrder 11 = .ok (.aload_n 0, 1) := by decide +kernel
theorem dX5_inOrder_12 : decode cX5_inOrder 12 = .ok (.getfield 7, 3) := by decide +kernel
theorem dX5_inOrder_15 : decode cX5_inOrder 15 = .ok (.sipush 442, 3) := by decide +kernel
theorem dX5_inOrder_18 : decode cX5_inOrder 18 = .ok (.iaload, 1) := by decide +kernel
theorem dX5_inOrder_19 : decode cX5_inOrder 19 = .ok (.if_icmp .ge 79, 3) := by decide +kernel
theorem dX5_inOrder_22 : decode cX5_inOrder 22 = .ok (.iconst 0, 1) := by decide +kernel
theorem dX5_inOrder_23 : decode cX5_inOrder 23 = .ok (.istore_n 3, 1) := by decide +kernel
theorem dX5_inOrder_24 : decode cX5_inOrder 24 = .ok (.iconst 0, 1) := by decide +kernel
theorem dX5_inOrder_25 : decode cX5_inOrder 25 = .ok (.istore 4, 2) := by decide +kernel
theorem dX5_inOrder_27 : decode cX5_inOrder 27 = .ok (.iload 4, 2) := by decide +kernel
theorem dX5_inOrder_29 : decode cX5_inOrder 29 = .ok (.aload_n 0, 1) := by decide +kernel
theorem dX5_inOrder_30 : decode cX5_inOrder 30 = .ok (.getfield 7, 3) := by decide +kernel
theorem dX5_inOrder_33 : decode cX5_inOrder 33 = .ok (.sipush 442, 3) := by decide +kernel
theorem dX5_inOrder_36 : decode cX5_inOrder 36 = .ok (.iaload, 1) := by decide +kernel
theorem dX5_inOrder_37 : decode cX5_inOrder 37 = .ok (.if_icmp .ge 38, 3) := by decide +kernel
theorem dX5_inOrder_40 : decode cX5_inOrder 40 = .ok (.iload_n 3, 1) := by decide +kernel
theorem dX5_inOrder_41 : decode cX5_inOrder 41 = .ok (.aload_n 0, 1) := by decide +kernel
theorem dX5_inOrder_42 : decode cX5_inOrder 42 = .ok (.iload 4, 2) := by decide +kernel
theorem dX5_inOrder_44 : decode cX5_inOrder 44 = .ok (.iconst 4, 1) := by decide +kernel
theorem dX5_inOrder_45 : decode cX5_inOrder 45 = .ok (.invokevirtual 45, 3) := by decide +kernel
theorem dX5_inOrder_48 : decode cX5_inOrder 48 = .ok (.iconst 1, 1) := by decide +kernel
theorem dX5_inOrder_49 : decode cX5_inOrder 49 = .ok (.if_icmp .ne 17, 3) := by decide +kernel
theorem dX5_inOrder_52 : decode cX5_inOrder 52 = .ok (.aload_n 0, 1) := by decide +kernel
theorem dX5_inOrder_53 : decode cX5_inOrder 53 = .ok (.iload 4, 2) := by decide +kernel
theorem dX5_inOrder_55 : decode cX5_inOrder 55 = .ok (.iload_n 2, 1) := by decide +kernel
theorem dX5_inOrder_56 : decode cX5_inOrder 56 = .ok (.invokevirtual 146, 3) := by decide +kernel
theorem dX5_inOrder_59 : decode cX5_inOrder 59 = .ok (.ifCond .eq 7, 3) := by decide +kernel
theorem dX5_inOrder_62 : decode cX5_inOrder 62 = .ok (.iconst 1, 1) := by decide +kernel
theorem dX5_inOrder_63 : decode cX5_inOrder 63 = .ok (.goto 4, 3) := by decide +kernel
theorem dX5_inOrder_66 : decode cX5_inOrder 66 = .ok (.iconst 0, 1) := by decide +kernel
theorem dX5_inOrder_67 : decode cX5_inOrder 67 = .ok (.iadd, 1) := by decide +kernel
theorem dX5_inOrder_68 : decode cX5_inOrder 68 = .ok (.istore_n 3, 1) := by decide +kernel
theorem dX5_inOrder_69 : decode cX5_inOrder 69 = .ok (.iinc 4 1, 3) := by decide +kernel
theorem dX5_inOrder_72 : decode cX5_inOrder 72 = .ok (.goto (-45), 3) := by decide +kernel
theorem dX5_inOrder_75 : decode cX5_inOrder 75 = .ok (.aload_n 0, 1) := by decide +kernel
theorem dX5_inOrder_76 : decode cX5_inOrder 76 = .ok (.iload_n 2, 1) := by decide +kernel
theorem dX5_inOrder_77 : decode cX5_inOrder 77 = .ok (.iconst 4, 1) := by decide +kernel
theorem dX5_inOrder_78 : decode cX5_inOrder 78 = .ok (.invokevirtual 45, 3) := by decide +kernel
theorem dX5_inOrder_81 : decode cX5_inOrder 81 = .ok (.iconst 1, 1) := by decide +kernel
theorem dX5_inOrder_82 : decode cX5_inOrder 82 = .ok (.if_icmp .ne 10, 3) := by decide +kernel
theorem dX5_inOrder_85 : decode cX5_inOrder 85 = .ok (.iload_n 3, 1) := by decide +kernel
theorem dX5_inOrder_86 : decode cX5_inOrder 86 = .ok (.iload_n 1, 1) := by decide +kernel
theorem dX5_inOrder_87 : decode cX5_inOrder 87 = .ok (.if_icmp .ne 5, 3) := by decide +kernel
theorem dX5_inOrder_90 : decode cX5_inOrder 90 = .ok (.iload_n 2, 1) := by decide +kernel
theorem dX5_inOrder_91 : decode cX5_inOrder 91 = .ok (.ireturn, 1) := by decide +kernel
theorem dX5_inOrder_92 : decode cX5_inOrder 92 = .ok (.iinc 2 1, 3) := by decide +kernel
theorem dX5_inOrder_95 : decode cX5_inOrder 95 = .ok (.goto (-85), 3) := by decide +kernel
theorem dX5_inOrder_98 : decode cX5_inOrder 98 = .ok (.sipush (-1004), 3) := by decide +kernel
theorem dX5_inOrder_101 : decode cX5_inOrder 101 = .ok (.ireturn, 1) := by decide +kernel
set_option maxRecDepth 20000 in
theorem ggX5_shares_X5_isPermit : GoodIn wsX5_shares wsX5_isPermit := goodIn_r _ [5, 6, 7, 8, 4, 9, 36, 37, 38, 39, 40, 41, 42, 43, 44] (by decide +kernel) (by decide +kernel)
set_option maxRecDepth 20000 in
theorem gX5_shares_X5_isPermit : GoodIn wsX5_shares (wsV RX5 143 RX5 yX5_isPermit wsX5_isPermit) := goodIn_app (goodIn_of _ (by decide +kernel)) ggX5_shares_X5_isPermit
set_option maxRecDepth 20000 in
theorem ggX5_shares_X5_of : GoodIn wsX5_shares wsX5_of := goodIn_r _ [13, 6, 36, 37, 38, 39, 40, 41, 42, 43, 44] (by decide +kernel) (by decide +kernel)
set_option maxRecDepth 20000 in
theorem gX5_shares_X5_of : GoodIn wsX5_shares (wsV RX5 45 RX5 yX5_of wsX5_of) := goodIn_app (goodIn_of _ (by decide +kernel)) ggX5_shares_X5_of
set_option maxRecDepth 20000 in
theorem ggX5_shares_X5_air : GoodIn wsX5_shares wsX5_air := goodIn_r _ [17, 6, 10, 11, 12, 4, 13, 18, 19, 20, 21, 22, 23, 24, 25, 26, 27, 28, 29, 30, 31, 32, 33, 34, 35, 36, 37, 38, 39, 40, 41, 42, 43, 44] (by decide +kernel) (by decide +kernel)
set_option maxRecDepth 20000 in
theorem gX5_shares_X5_air : GoodIn wsX5_shares (wsV RX5 55 RX5 yX5_air wsX5_air) := goodIn_app (goodIn_of _ (by decide +kernel)) ggX5_shares_X5_air
theorem dX5_shares_0 : decode cX5_shares 0 = .ok (.aload_n 0, 1) := by decide +kernel
theorem dX5_shares_1 : decode cX5_shares 1 = .ok (.iload_n 1, 1) := by decide +kernel
theorem dX5_shares_2 : decode cX5_shares 2 = .ok (.invokevirtual 143, 3) := by decide +kernel
theorem dX5_shares_5 : decode cX5_shares 5 = .ok (.ifCond .eq 11, 3) := by decide +kernel
theorem dX5_shares_8 : decode cX5_shares 8 = .ok (.aload_n 0, 1) := by decide +kernel
theorem dX5_shares_9 : decode cX5_shares 9 = .ok (.iload_n 2, 1) := by decide +kernel
theorem dX5_shares_10 : decode cX5_shares 10 = .ok (.invokevirtual 143, 3) := by decide +kernel
theorem dX5_shares_13 : decode cX5_shares 13 = .ok (.ifCond .ne 7, 3) := by decide +kernel
theorem dX5_shares_16 : decode cX5_shares 16 = .ok (.sipush (-1001), 3) := by decide +kernel
theorem dX5_shares_19 : decode cX5_shares 19 = .ok (.ireturn, 1) := by decide +kernel
theorem dX5_shares_20 : decode cX5_shares 20 = .ok (.aload_n 0, 1) := by decide +kernel
theorem dX5_shares_21 : decode cX5_shares 21 = .ok (.aload_n 0, 1) := by decide +kernel
theorem dX5_shares_22 : decode cX5_shares 22 = .ok (.iload_n 1, 1) := by decide +kernel
theorem dX5_shares_23 : decode cX5_shares 23 = .ok (.iconst 0, 1) := by decide +kernel
theorem dX5_shares_24 : decode cX5_shares 24 = .ok (.invokevirtual 45, 3) := by decide +kernel
theorem dX5_shares_27 : decode cX5_shares 27 = .ok (.aload_n 0, 1) := by decide +kernel
theorem dX5_shares_28 : decode cX5_shares 28 = .ok (.iload_n 1, 1) := by decide +kernel
theorem dX5_shares_29 : decode cX5_shares 29 = .ok (.iconst 1, 1) := by decide +kernel
theorem dX5_shares_30 : decode cX5_shares 30 = .ok (.invokevirtual 45, 3) := by decide +kernel
theorem dX5_shares_33 : decode cX5_shares 33 = .ok (.aload_n 0, 1) := by decide +kernel
theorem dX5_shares_34 : decode cX5_shares 34 = .ok (.iload_n 1, 1) := by decide +kernel
theorem dX5_shares_35 : decode cX5_shares 35 = .ok (.iconst 2, 1) := by decide +kernel
theorem dX5_shares_36 : decode cX5_shares 36 = .ok (.invokevirtual 45, 3) := by decide +kernel
theorem dX5_shares_39 : decode cX5_shares 39 = .ok (.aload_n 0, 1) := by decide +kernel
theorem dX5_shares_40 : decode cX5_shares 40 = .ok (.iload_n 1, 1) := by decide +kernel
theorem dX5_shares_41 : decode cX5_shares 41 = .ok (.iconst 3, 1) := by decide +kernel
theorem dX5_shares_42 : decode cX5_shares 42 = .ok (.invokevirtual 45, 3) := by decide +kernel
theorem dX5_shares_45 : decode cX5_shares 45 = .ok (.iload_n 2, 1) := by decide +kernel
theorem dX5_shares_46 : decode cX5_shares 46 = .ok (.invokevirtual 55, 3) := by decide +kernel
theorem dX5_shares_49 : decode cX5_shares 49 = .ok (.ifCond .eq 7, 3) := by decide +kernel
theorem dX5_shares_52 : decode cX5_shares 52 = .ok (.iconst 1, 1) := by decide +kernel
theorem dX5_shares_53 : decode cX5_shares 53 = .ok (.goto 4, 3) := by decide +kernel
theorem dX5_shares_56 : decode cX5_shares 56 = .ok (.iconst 0, 1) := by decide +kernel
theorem dX5_shares_57 : decode cX5_shares 57 = .ok (.ireturn, 1) := by decide +kernel
set_option maxRecDepth 20000 in
theorem ggX5_inTheWay_X5_isApplication : GoodIn wsX5_inTheWay wsX5_isApplication := goodIn_r _ [5, 6, 7, 8, 4, 9, 10, 11, 12, 13, 14, 15, 16, 17, 18, 19, 20, 21, 22, 53, 54, 55, 56, 57, 58, 59, 60, 61] (by decide +kernel) (by decide +kernel)
set_option maxRecDepth 20000 in
theorem gX5_inTheWay_X5_isApplication : GoodIn wsX5_inTheWay (wsV RX5 130 RX5 yX5_isApplication wsX5_isApplication) := goodIn_app (goodIn_of _ (by decide +kernel)) ggX5_inTheWay_X5_isApplication
set_option maxRecDepth 20000 in
theorem ggX5_inTheWay_X5_firstInAir : GoodIn wsX5_inTheWay wsX5_firstInAir := goodIn_r _ [26, 10, 27, 28, 29, 4, 30, 31, 32, 33, 34, 35, 36, 37, 38, 39, 40, 41, 42, 43, 44, 45, 46, 47, 48, 49, 50, 51, 52, 53, 54, 55, 56, 57, 58, 59, 60, 61] (by decide +kernel) (by decide +kernel)
set_option maxRecDepth 20000 in
theorem gX5_inTheWay_X5_firstInAir : GoodIn wsX5_inTheWay (wsV RX5 126 RX5 yX5_firstInAir wsX5_firstInAir) := goodIn_app (goodIn_of _ (by decide +kernel)) ggX5_inTheWay_X5_firstInAir
theorem dX5_inTheWay_0 : decode cX5_inTheWay 0 = .ok (.aload_n 0, 1) := by decide +kernel
theorem dX5_inTheWay_1 : decode cX5_inTheWay 1 = .ok (.iload_n 1, 1) := by decide +kernel
theorem dX5_inTheWay_2 : decode cX5_inTheWay 2 = .ok (.iload_n 2, 1) := by decide +kernel
theorem dX5_inTheWay_3 : decode cX5_inTheWay 3 = .ok (.iload_n 3, 1) := by decide +kernel
theorem dX5_inTheWay_4 : decode cX5_inTheWay 4 = .ok (.iload 4, 2) := by decide +kernel
theorem dX5_inTheWay_6 : decode cX5_inTheWay 6 = .ok (.invokevirtual 130, 3) := by decide +kernel
theorem dX5_inTheWay_9 : decode cX5_inTheWay 9 = .ok (.ifCond .ne 7, 3) := by decide +kernel
theorem dX5_inTheWay_12 : decode cX5_inTheWay 12 = .ok (.sipush (-1001), 3) := by decide +kernel
theorem dX5_inTheWay_15 : decode cX5_inTheWay 15 = .ok (.ireturn, 1) := by decide +kernel
theorem dX5_inTheWay_16 : decode cX5_inTheWay 16 = .ok (.aload_n 0, 1) := by decide +kernel
theorem dX5_inTheWay_17 : decode cX5_inTheWay 17 = .ok (.iload_n 1, 1) := by decide +kernel
theorem dX5_inTheWay_18 : decode cX5_inTheWay 18 = .ok (.iload_n 2, 1) := by decide +kernel
theorem dX5_inTheWay_19 : decode cX5_inTheWay 19 = .ok (.iload_n 3, 1) := by decide +kernel
theorem dX5_inTheWay_20 : decode cX5_inTheWay 20 = .ok (.iload 4, 2) := by decide +kernel
theorem dX5_inTheWay_22 : decode cX5_inTheWay 22 = .ok (.invokevirtual 126, 3) := by decide +kernel
theorem dX5_inTheWay_25 : decode cX5_inTheWay 25 = .ok (.istore 5, 2) := by decide +kernel
theorem dX5_inTheWay_27 : decode cX5_inTheWay 27 = .ok (.iload 5, 2) := by decide +kernel
theorem dX5_inTheWay_29 : decode cX5_inTheWay 29 = .ok (.iconst (-1), 1) := by decide +kernel
theorem dX5_inTheWay_30 : decode cX5_inTheWay 30 = .ok (.if_icmp .ne 9, 3) := by decide +kernel
theorem dX5_inTheWay_33 : decode cX5_inTheWay 33 = .ok (.sipush (-1004), 3) := by decide +kernel
theorem dX5_inTheWay_36 : decode cX5_inTheWay 36 = .ok (.goto 5, 3) := by decide +kernel
theorem dX5_inTheWay_39 : decode cX5_inTheWay 39 = .ok (.iload 5, 2) := by decide +kernel
theorem dX5_inTheWay_41 : decode cX5_inTheWay 41 = .ok (.ireturn, 1) := by decide +kernel
set_option maxRecDepth 20000 in
theorem ggX5_firstFree_X5_isCrane : GoodIn wsX5_firstFree wsX5_isCrane := goodIn_r _ [5, 6, 7, 8, 4, 9, 80, 81, 82, 83, 84, 85, 86, 87, 88] (by decide +kernel) (by decide +kernel)
set_option maxRecDepth 20000 in
theorem gX5_firstFree_X5_isCrane : GoodIn wsX5_firstFree (wsV RX5 94 RX5 yX5_isCrane wsX5_isCrane) := goodIn_app (goodIn_of _ (by decide +kernel)) ggX5_firstFree_X5_isCrane
set_option maxRecDepth 20000 in
theorem ggX5_firstFree_X5_isSwing : GoodIn wsX5_firstFree wsX5_isSwing := goodIn_r _ [12, 7, 8, 4, 9] (by decide +kernel) (by decide +kernel)
set_option maxRecDepth 20000 in
theorem gX5_firstFree_X5_isSwing : GoodIn wsX5_firstFree (va_wsS RX5 120 yX5_isSwing wsX5_isSwing) := goodIn_app (goodIn_of _ (by decide +kernel)) ggX5_firstFree_X5_isSwing
set_option maxRecDepth 20000 in
theorem ggX5_firstFree_X5_in : GoodIn wsX5_firstFree wsX5_in := goodIn_r _ [9] (by decide +kernel) (by decide +kernel)
set_option maxRecDepth 20000 in
theorem gX5_firstFree_X5_in : GoodIn wsX5_firstFree (va_wsS RX5 26 yX5_in wsX5_in) := goodIn_app (goodIn_of _ (by decide +kernel)) ggX5_firstFree_X5_in
set_option maxRecDepth 20000 in
theorem ggX5_firstFree_X5_isNight : GoodIn wsX5_firstFree wsX5_isNight := goodIn_r _ [15, 7, 8, 4, 9] (by decide +kernel) (by decide +kernel)
set_option maxRecDepth 20000 in
theorem gX5_firstFree_X5_isNight : GoodIn wsX5_firstFree (va_wsS RX5 107 yX5_isNight wsX5_isNight) := goodIn_app (goodIn_of _ (by decide +kernel)) ggX5_firstFree_X5_isNight
set_option maxRecDepth 20000 in
theorem ggX5_firstFree_X5_refuses : GoodIn wsX5_firstFree wsX5_refuses := goodIn_r _ [19, 6, 20, 21, 22, 4, 23, 24, 25, 26, 27, 28, 29, 30, 31, 32, 33, 34, 35, 36, 37, 38, 39, 40, 41, 42, 43, 44, 45, 46, 47, 48, 49, 50, 51, 52, 53, 54, 55, 56, 57, 58, 59, 60, 61, 62, 63, 64, 65, 66, 67, 68, 69, 70, 71, 72, 73, 74, 75, 76, 77, 78, 79, 80, 81, 82, 83, 84, 85, 86, 87, 88] (by decide +kernel) (by decide +kernel)
set_option maxRecDepth 20000 in
theorem gX5_firstFree_X5_refuses : GoodIn wsX5_firstFree (wsV RX5 133 RX5 yX5_refuses wsX5_refuses) := goodIn_app (goodIn_of _ (by decide +kernel)) ggX5_firstFree_X5_refuses
theorem dX5_firstFree_0 : decode cX5_firstFree 0 = .ok (.aload_n 0, 1) := by decide +kernel
theorem dX5_firstFree_1 : decode cX5_firstFree 1 = .ok (.iload_n 1, 1) := by decide +kernel
theorem dX5_firstFree_2 : decode cX5_firstFree 2 = .ok (.invokevirtual 94, 3) := by decide +kernel
theorem dX5_firstFree_5 : decode cX5_firstFree 5 = .ok (.ifCond .eq 28, 3) := by decide +kernel
theorem dX5_firstFree_8 : decode cX5_firstFree 8 = .ok (.iload_n 2, 1) := by decide +kernel
theorem dX5_firstFree_9 : decode cX5_firstFree 9 = .ok (.invokestatic 120, 3) := by decide +kernel
theorem dX5_firstFree_12 : decode cX5_firstFree 12 = .ok (.ifCond .eq 21, 3) := by decide +kernel
theorem dX5_firstFree_15 : decode cX5_firstFree 15 = .ok (.iload_n 3, 1) := by decide +kernel
theorem dX5_firstFree_16 : decode cX5_firstFree 16 = .ok (.iconst 1, 1) := by decide +kernel
theorem dX5_firstFree_17 : decode cX5_firstFree 17 = .ok (.bipush 10, 2) := by decide +kernel
theorem dX5_firstFree_19 : decode cX5_firstFree 19 = .ok (.invokestatic 26, 3) := by decide +kernel
theorem dX5_firstFree_22 : decode cX5_firstFree 22 = .ok (.ifCond .eq 11, 3) := by decide +kernel
theorem dX5_firstFree_25 : decode cX5_firstFree 25 = .ok (.iload 4, 2) := by decide +kernel
theorem dX5_firstFree_27 : decode cX5_firstFree 27 = .ok (.invokestatic 107, 3) := by decide +kernel
theorem dX5_firstFree_30 : decode cX5_firstFree 30 = .ok (.ifCond .ne 7, 3) := by decide +kernel
theorem dX5_firstFree_33 : decode cX5_firstFree 33 = .ok (.sipush (-1001), 3) := by decide +kernel
theorem dX5_firstFree_36 : decode cX5_firstFree 36 = .ok (.ireturn, 1) := by decide +kernel
theorem dX5_firstFree_37 : decode cX5_firstFree 37 = .ok (.iload 4, 2) := by decide +kernel
theorem dX5_firstFree_39 : decode cX5_firstFree 39 = .ok (.istore 5, 2) := by decide +kernel
theorem dX5_firstFree_41 : decode cX5_firstFree 41 = .ok (.iload 5, 2) := by decide +kernel
theorem dX5_firstFree_43 : decode cX5_firstFree 43 = .ok (.bipush 30, 2) := by decide +kernel
theorem dX5_firstFree_45 : decode cX5_firstFree 45 = .ok (.if_icmp .ge 59, 3) := by decide +kernel
theorem dX5_firstFree_48 : decode cX5_firstFree 48 = .ok (.iconst 0, 1) := by decide +kernel
theorem dX5_firstFree_49 : decode cX5_firstFree 49 = .ok (.istore 6, 2) := by decide +kernel
theorem dX5_firstFree_51 : decode cX5_firstFree 51 = .ok (.iload 6, 2) := by decide +kernel
theorem dX5_firstFree_53 : decode cX5_firstFree 53 = .ok (.iload_n 3, 1) := by decide +kernel
theorem dX5_firstFree_54 : decode cX5_firstFree 54 = .ok (.iadd, 1) := by decide +kernel
theorem dX5_firstFree_55 : decode cX5_firstFree 55 = .ok (.bipush 10, 2) := by decide +kernel
theorem dX5_firstFree_57 : decode cX5_firstFree 57 = .ok (.if_icmp .gt 41, 3) := by decide +kernel
theorem dX5_firstFree_60 : decode cX5_firstFree 60 = .ok (.aload_n 0, 1) := by decide +kernel
theorem dX5_firstFree_61 : decode cX5_firstFree 61 = .ok (.iload_n 1, 1) := by decide +kernel
theorem dX5_firstFree_62 : decode cX5_firstFree 62 = .ok (.iload 5, 2) := by decide +kernel
theorem dX5_firstFree_64 : decode cX5_firstFree 64 = .ok (.bipush 10, 2) := by decide +kernel
theorem dX5_firstFree_66 : decode cX5_firstFree 66 = .ok (.iload 6, 2) := by decide +kernel
theorem dX5_firstFree_68 : decode cX5_firstFree 68 = .ok (.imul, 1) := by decide +kernel
theorem dX5_firstFree_69 : decode cX5_firstFree 69 = .ok (.iload 6, 2) := by decide +kernel
theorem dX5_firstFree_71 : decode cX5_firstFree 71 = .ok (.iadd, 1) := by decide +kernel
theorem dX5_firstFree_72 : decode cX5_firstFree 72 = .ok (.iload_n 3, 1) := by decide +kernel
theorem dX5_firstFree_73 : decode cX5_firstFree 73 = .ok (.iadd, 1) := by decide +kernel
theorem dX5_firstFree_74 : decode cX5_firstFree 74 = .ok (.iconst 1, 1) := by decide +kernel
theorem dX5_firstFree_75 : decode cX5_firstFree 75 = .ok (.isub, 1) := by decide +kernel
theorem dX5_firstFree_76 : decode cX5_firstFree 76 = .ok (.iload_n 2, 1) := by decide +kernel
theorem dX5_firstFree_77 : decode cX5_firstFree 77 = .ok (.invokevirtual 133, 3) := by decide +kernel
theorem dX5_firstFree_80 : decode cX5_firstFree 80 = .ok (.ifCond .ne 12, 3) := by decide +kernel
theorem dX5_firstFree_83 : decode cX5_firstFree 83 = .ok (.bipush 10, 2) := by decide +kernel
theorem dX5_firstFree_85 : decode cX5_firstFree 85 = .ok (.iload 5, 2) := by decide +kernel
theorem dX5_firstFree_87 : decode cX5_firstFree 87 = .ok (.imul, 1) := by decide +kernel
theorem dX5_firstFree_88 : decode cX5_firstFree 88 = .ok (.iload 6, 2) := by decide +kernel
theorem dX5_firstFree_90 : decode cX5_firstFree 90 = .ok (.iadd, 1) := by decide +kernel
theorem dX5_firstFree_91 : decode cX5_firstFree 91 = .ok (.ireturn, 1) := by decide +kernel
theorem dX5_firstFree_92 : decode cX5_firstFree 92 = .ok (.iinc 6 1, 3) := by decide +kernel
theorem dX5_firstFree_95 : decode cX5_firstFree 95 = .ok (.goto (-44), 3) := by decide +kernel
theorem dX5_firstFree_98 : decode cX5_firstFree 98 = .ok (.iinc 5 1, 3) := by decide +kernel
theorem dX5_firstFree_101 : decode cX5_firstFree 101 = .ok (.goto (-60), 3) := by decide +kernel
theorem dX5_firstFree_104 : decode cX5_firstFree 104 = .ok (.sipush (-1004), 3) := by decide +kernel
theorem dX5_firstFree_107 : decode cX5_firstFree 107 = .ok (.ireturn, 1) := by decide +kernel
set_option maxRecDepth 20000 in
theorem ggX5_type_X5_in : GoodIn wsX5_type wsX5_in := goodIn_r _ [6] (by decide +kernel) (by decide +kernel)
set_option maxRecDepth 20000 in
theorem gX5_type_X5_in : GoodIn wsX5_type (va_wsS RX5 26 yX5_in wsX5_in) := goodIn_app (goodIn_of _ (by decide +kernel)) ggX5_type_X5_in
theorem dX5_type_0 : decode cX5_type 0 = .ok (.iload_n 1, 1) := by decide +kernel
theorem dX5_type_1 : decode cX5_type 1 = .ok (.bipush 32, 2) := by decide +kernel
theorem dX5_type_3 : decode cX5_type 3 = .ok (.bipush 126, 2) := by decide +kernel
theorem dX5_type_5 : decode cX5_type 5 = .ok (.invokestatic 26, 3) := by decide +kernel
theorem dX5_type_8 : decode cX5_type 8 = .ok (.ifCond .ne 7, 3) := by decide +kernel
theorem dX5_type_11 : decode cX5_type 11 = .ok (.sipush (-1001), 3) := by decide +kernel
theorem dX5_type_14 : decode cX5_type 14 = .ok (.ireturn, 1) := by decide +kernel
theorem dX5_type_15 : decode cX5_type 15 = .ok (.aload_n 0, 1) := by decide +kernel
theorem dX5_type_16 : decode cX5_type 16 = .ok (.getfield 117, 3) := by decide +kernel
theorem dX5_type_19 : decode cX5_type 19 = .ok (.bipush 80, 2) := by decide +kernel
theorem dX5_type_21 : decode cX5_type 21 = .ok (.if_icmp .ne 7, 3) := by decide +kernel
theorem dX5_type_24 : decode cX5_type 24 = .ok (.sipush (-1003), 3) := by decide +kernel
theorem dX5_type_27 : decode cX5_type 27 = .ok (.ireturn, 1) := by decide +kernel
theorem dX5_type_28 : decode cX5_type 28 = .ok (.aload_n 0, 1) := by decide +kernel
theorem dX5_type_29 : decode cX5_type 29 = .ok (.getfield 19, 3) := by decide +kernel
theorem dX5_type_32 : decode cX5_type 32 = .ok (.aload_n 0, 1) := by decide +kernel
theorem dX5_type_33 : decode cX5_type 33 = .ok (.getfield 117, 3) := by decide +kernel
theorem dX5_type_36 : decode cX5_type 36 = .ok (.iload_n 1, 1) := by decide +kernel
theorem dX5_type_37 : decode cX5_type 37 = .ok (.i2c, 1) := by decide +kernel
theorem dX5_type_38 : decode cX5_type 38 = .ok (.castore, 1) := by decide +kernel
theorem dX5_type_39 : decode cX5_type 39 = .ok (.aload_n 0, 1) := by decide +kernel
theorem dX5_type_40 : decode cX5_type 40 = .ok (.dup, 1) := by decide +kernel
theorem dX5_type_41 : decode cX5_type 41 = .ok (.getfield 117, 3) := by decide +kernel
theorem dX5_type_44 : decode cX5_type 44 = .ok (.iconst 1, 1) := by decide +kernel
theorem dX5_type_45 : decode cX5_type 45 = .ok (.iadd, 1) := by decide +kernel
theorem dX5_type_46 : decode cX5_type 46 = .ok (.putfield 117, 3) := by decide +kernel
theorem dX5_type_49 : decode cX5_type 49 = .ok (.aload_n 0, 1) := by decide +kernel
theorem dX5_type_50 : decode cX5_type 50 = .ok (.getfield 117, 3) := by decide +kernel
theorem dX5_type_53 : decode cX5_type 53 = .ok (.ireturn, 1) := by decide +kernel
theorem dX5_clearText_0 : decode cX5_clearText 0 = .ok (.aload_n 0, 1) := by decide +kernel
theorem dX5_clearText_1 : decode cX5_clearText 1 = .ok (.getfield 117, 3) := by decide +kernel
theorem dX5_clearText_4 : decode cX5_clearText 4 = .ok (.istore_n 1, 1) := by decide +kernel
theorem dX5_clearText_5 : decode cX5_clearText 5 = .ok (.aload_n 0, 1) := by decide +kernel
theorem dX5_clearText_6 : decode cX5_clearText 6 = .ok (.iconst 0, 1) := by decide +kernel
theorem dX5_clearText_7 : decode cX5_clearText 7 = .ok (.putfield 117, 3) := by decide +kernel
theorem dX5_clearText_10 : decode cX5_clearText 10 = .ok (.iload_n 1, 1) := by decide +kernel
theorem dX5_clearText_11 : decode cX5_clearText 11 = .ok (.ireturn, 1) := by decide +kernel
theorem dX5_passes_0 : decode cX5_passes 0 = .ok (.aload_n 0, 1) := by decide +kernel
theorem dX5_passes_1 : decode cX5_passes 1 = .ok (.getfield 149, 3) := by decide +kernel
theorem dX5_passes_4 : decode cX5_passes 4 = .ok (.aload_n 0, 1) := by decide +kernel
theorem dX5_passes_5 : decode cX5_passes 5 = .ok (.getfield 117, 3) := by decide +kernel
theorem dX5_passes_8 : decode cX5_passes 8 = .ok (.if_icmp .ge 20, 3) := by decide +kernel
theorem dX5_passes_11 : decode cX5_passes 11 = .ok (.aload_n 0, 1) := by decide +kernel
theorem dX5_passes_12 : decode cX5_passes 12 = .ok (.getfield 19, 3) := by decide +kernel
theorem dX5_passes_15 : decode cX5_passes 15 = .ok (.aload_n 0, 1) := by decide +kernel
theorem dX5_passes_16 : decode cX5_passes 16 = .ok (.getfield 149, 3) := by decide +kernel
theorem dX5_passes_19 : decode cX5_passes 19 = .ok (.caload, 1) := by decide +kernel
theorem dX5_passes_20 : decode cX5_passes 20 = .ok (.iload_n 1, 1) := by decide +kernel
theorem dX5_passes_21 : decode cX5_passes 21 = .ok (.if_icmp .ne 7, 3) := by decide +kernel
theorem dX5_passes_24 : decode cX5_passes 24 = .ok (.iconst 1, 1) := by decide +kernel
theorem dX5_passes_25 : decode cX5_passes 25 = .ok (.goto 4, 3) := by decide +kernel
theorem dX5_passes_28 : decode cX5_passes 28 = .ok (.iconst 0, 1) := by decide +kernel
theorem dX5_passes_29 : decode cX5_passes 29 = .ok (.istore_n 2, 1) := by decide +kernel
theorem dX5_passes_30 : decode cX5_passes 30 = .ok (.aload_n 0, 1) := by decide +kernel
theorem dX5_passes_31 : decode cX5_passes 31 = .ok (.dup, 1) := by decide +kernel
theorem dX5_passes_32 : decode cX5_passes 32 = .ok (.getfield 149, 3) := by decide +kernel
theorem dX5_passes_35 : decode cX5_passes 35 = .ok (.iload_n 2, 1) := by decide +kernel
theorem dX5_passes_36 : decode cX5_passes 36 = .ok (.ifCond .eq 7, 3) := by decide +kernel
theorem dX5_passes_39 : decode cX5_passes 39 = .ok (.iconst 1, 1) := by decide +kernel
theorem dX5_passes_40 : decode cX5_passes 40 = .ok (.goto 4, 3) := by decide +kernel
theorem dX5_passes_43 : decode cX5_passes 43 = .ok (.iconst 0, 1) := by decide +kernel
theorem dX5_passes_44 : decode cX5_passes 44 = .ok (.iadd, 1) := by decide +kernel
theorem dX5_passes_45 : decode cX5_passes 45 = .ok (.putfield 149, 3) := by decide +kernel
theorem dX5_passes_48 : decode cX5_passes 48 = .ok (.iload_n 2, 1) := by decide +kernel
theorem dX5_passes_49 : decode cX5_passes 49 = .ok (.ireturn, 1) := by decide +kernel
set_option maxRecDepth 20000 in
theorem ggX5_number_X5_in : GoodIn wsX5_number wsX5_in := goodIn_r _ [7] (by decide +kernel) (by decide +kernel)
set_option maxRecDepth 20000 in
theorem gX5_number_X5_in : GoodIn wsX5_number (va_wsS RX5 26 yX5_in wsX5_in) := goodIn_app (goodIn_of _ (by decide +kernel)) ggX5_number_X5_in
theorem dX5_number_0 : decode cX5_number 0 = .ok (.aload_n 0, 1) := by decide +kernel
theorem dX5_number_1 : decode cX5_number 1 = .ok (.getfield 149, 3) := by decide +kernel
theorem dX5_number_4 : decode cX5_number 4 = .ok (.istore_n 2, 1) := by decide +kernel
theorem dX5_number_5 : decode cX5_number 5 = .ok (.iconst 0, 1) := by decide +kernel
theorem dX5_number_6 : decode cX5_number 6 = .ok (.istore_n 3, 1) := by decide +kernel
theorem dX5_number_7 : decode cX5_number 7 = .ok (.aload_n 0, 1) := by decide +kernel
theorem dX5_number_8 : decode cX5_number 8 = .ok (.getfield 149, 3) := by decide +kernel
theorem dX5_number_11 : decode cX5_number 11 = .ok (.aload_n 0, 1) := by decide +kernel
theorem dX5_number_12 : decode cX5_number 12 = .ok (.getfield 117, 3) := by decide +kernel
theorem dX5_number_15 : decode cX5_number 15 = .ok (.if_icmp .ge 63, 3) := by decide +kernel
theorem dX5_number_18 : decode cX5_number 18 = .ok (.aload_n 0, 1) := by decide +kernel
theorem dX5_number_19 : decode cX5_number 19 = .ok (.getfield 149, 3) := by decide +kernel
theorem dX5_number_22 : decode cX5_number 22 = .ok (.iload_n 2, 1) := by decide +kernel
theorem dX5_number_23 : decode cX5_number 23 = .ok (.iload_n 1, 1) := by decide +kernel
theorem dX5_number_24 : decode cX5_number 24 = .ok (.iadd, 1) := by decide +kernel
theorem dX5_number_25 : decode cX5_number 25 = .ok (.if_icmp .ge 53, 3) := by decide +kernel
theorem dX5_number_28 : decode cX5_number 28 = .ok (.aload_n 0, 1) := by decide +kernel
theorem dX5_number_29 : decode cX5_number 29 = .ok (.getfield 19, 3) := by decide +kernel
theorem dX5_number_32 : decode cX5_number 32 = .ok (.aload_n 0, 1) := by decide +kernel
theorem dX5_number_33 : decode cX5_number 33 = .ok (.getfield 149, 3) := by decide +kernel
theorem dX5_number_36 : decode cX5_number 36 = .ok (.caload, 1) := by decide +kernel
theorem dX5_number_37 : decode cX5_number 37 = .ok (.bipush 48, 2) := by decide +kernel
theorem dX5_number_39 : decode cX5_number 39 = .ok (.bipush 57, 2) := by decide +kernel
theorem dX5_number_41 : decode cX5_number 41 = .ok (.invokestatic 26, 3) := by decide +kernel
theorem dX5_number_44 : decode cX5_number 44 = .ok (.ifCond .eq 34, 3) := by decide +kernel
theorem dX5_number_47 : decode cX5_number 47 = .ok (.bipush 10, 2) := by decide +kernel
theorem dX5_number_49 : decode cX5_number 49 = .ok (.iload_n 3, 1) := by decide +kernel
theorem dX5_number_50 : decode cX5_number 50 = .ok (.imul, 1) := by decide +kernel
theorem dX5_number_51 : decode cX5_number 51 = .ok (.aload_n 0, 1) := by decide +kernel
theorem dX5_number_52 : decode cX5_number 52 = .ok (.getfield 19, 3) := by decide +kernel
theorem dX5_number_55 : decode cX5_number 55 = .ok (.aload_n 0, 1) := by decide +kernel
theorem dX5_number_56 : decode cX5_number 56 = .ok (.getfield 149, 3) := by decide +kernel
theorem dX5_number_59 : decode cX5_number 59 = .ok (.caload, 1) := by decide +kernel
theorem dX5_number_60 : decode cX5_number 60 = .ok (.iadd, 1) := by decide +kernel
theorem dX5_number_61 : decode cX5_number 61 = .ok (.bipush 48, 2) := by decide +kernel
theorem dX5_number_63 : decode cX5_number 63 = .ok (.isub, 1) := by decide +kernel
theorem dX5_number_64 : decode cX5_number 64 = .ok (.istore_n 3, 1) := by decide +kernel
theorem dX5_number_65 : decode cX5_number 65 = .ok (.aload_n 0, 1) := by decide +kernel
theorem dX5_number_66 : decode cX5_number 66 = .ok (.dup, 1) := by decide +kernel
theorem dX5_number_67 : decode cX5_number 67 = .ok (.getfield 149, 3) := by decide +kernel
theorem dX5_number_70 : decode cX5_number 70 = .ok (.iconst 1, 1) := by decide +kernel
theorem dX5_number_71 : decode cX5_number 71 = .ok (.iadd, 1) := by decide +kernel
theorem dX5_number_72 : decode cX5_number 72 = .ok (.putfield 149, 3) := by decide +kernel
theorem dX5_number_75 : decode cX5_number 75 = .ok (.goto (-68), 3) := by decide +kernel
theorem dX5_number_78 : decode cX5_number 78 = .ok (.aload_n 0, 1) := by decide +kernel
theorem dX5_number_79 : decode cX5_number 79 = .ok (.getfield 149, 3) := by decide +kernel
theorem dX5_number_82 : decode cX5_number 82 = .ok (.iload_n 2, 1) := by decide +kernel
theorem dX5_number_83 : decode cX5_number 83 = .ok (.if_icmp .le 7, 3) := by decide +kernel
theorem dX5_number_86 : decode cX5_number 86 = .ok (.iload_n 3, 1) := by decide +kernel
theorem dX5_number_87 : decode cX5_number 87 = .ok (.goto 4, 3) := by decide +kernel
theorem dX5_number_90 : decode cX5_number 90 = .ok (.iconst (-1), 1) := by decide +kernel
theorem dX5_number_91 : decode cX5_number 91 = .ok (.ireturn, 1) := by decide +kernel
set_option maxRecDepth 20000 in
theorem ggX5_readsForm_X5_number : GoodIn wsX5_readsForm wsX5_number := goodIn_r _ [6, 7, 8, 9, 10, 11, 5, 12, 17, 18, 19, 20, 21, 22, 23, 24, 25] (by decide +kernel) (by decide +kernel)
set_option maxRecDepth 20000 in
theorem gX5_readsForm_X5_number : GoodIn wsX5_readsForm (wsV RX5 152 RX5 yX5_number wsX5_number) := goodIn_app (goodIn_of _ (by decide +kernel)) ggX5_readsForm_X5_number
set_option maxRecDepth 20000 in
theorem ggX5_readsForm_X5_passes : GoodIn wsX5_readsForm wsX5_passes := goodIn_r _ [16, 7, 8, 9, 17, 18, 19, 20, 21, 22, 23, 24, 25] (by decide +kernel) (by decide +kernel)
set_option maxRecDepth 20000 in
theorem gX5_readsForm_X5_passes : GoodIn wsX5_readsForm (wsV RX5 155 RX5 yX5_passes wsX5_passes) := goodIn_app (goodIn_of _ (by decide +kernel)) ggX5_readsForm_X5_passes
theorem dX5_readsForm_0 : decode cX5_readsForm 0 = .ok (.aload_n 0, 1) := by decide +kernel
theorem dX5_readsForm_1 : decode cX5_readsForm 1 = .ok (.getfield 23, 3) := by decide +kernel
theorem dX5_readsForm_4 : decode cX5_readsForm 4 = .ok (.iconst 0, 1) := by decide +kernel
theorem dX5_readsForm_5 : decode cX5_readsForm 5 = .ok (.aload_n 0, 1) := by decide +kernel
theorem dX5_readsForm_6 : decode cX5_readsForm 6 = .ok (.iconst 1, 1) := by decide +kernel
theorem dX5_readsForm_7 : decode cX5_readsForm 7 = .ok (.invokevirtual 152, 3) := by decide +kernel
theorem dX5_readsForm_10 : decode cX5_readsForm 10 = .ok (.iastore, 1) := by decide +kernel
theorem dX5_readsForm_11 : decode cX5_readsForm 11 = .ok (.aload_n 0, 1) := by decide +kernel
theorem dX5_readsForm_12 : decode cX5_readsForm 12 = .ok (.getfield 23, 3) := by decide +kernel
theorem dX5_readsForm_15 : decode cX5_readsForm 15 = .ok (.iconst 1, 1) := by decide +kernel
theorem dX5_readsForm_16 : decode cX5_readsForm 16 = .ok (.aload_n 0, 1) := by decide +kernel
theorem dX5_readsForm_17 : decode cX5_readsForm 17 = .ok (.getfield 23, 3) := by decide +kernel
theorem dX5_readsForm_20 : decode cX5_readsForm 20 = .ok (.iconst 0, 1) := by decide +kernel
theorem dX5_readsForm_21 : decode cX5_readsForm 21 = .ok (.iaload, 1) := by decide +kernel
theorem dX5_readsForm_22 : decode cX5_readsForm 22 = .ok (.ifCond .lt 20, 3) := by decide +kernel
theorem dX5_readsForm_25 : decode cX5_readsForm 25 = .ok (.aload_n 0, 1) := by decide +kernel
theorem dX5_readsForm_26 : decode cX5_readsForm 26 = .ok (.bipush 110, 2) := by decide +kernel
theorem dX5_readsForm_28 : decode cX5_readsForm 28 = .ok (.invokevirtual 155, 3) := by decide +kernel
theorem dX5_readsForm_31 : decode cX5_readsForm 31 = .ok (.ifCond .eq 11, 3) := by decide +kernel
theorem dX5_readsForm_34 : decode cX5_readsForm 34 = .ok (.aload_n 0, 1) := by decide +kernel
theorem dX5_readsForm_35 : decode cX5_readsForm 35 = .ok (.iconst 2, 1) := by decide +kernel
theorem dX5_readsForm_36 : decode cX5_readsForm 36 = .ok (.invokevirtual 152, 3) := by decide +kernel
theorem dX5_readsForm_39 : decode cX5_readsForm 39 = .ok (.goto 4, 3) := by decide +kernel
theorem dX5_readsForm_42 : decode cX5_readsForm 42 = .ok (.iconst (-1), 1) := by decide +kernel
theorem dX5_readsForm_43 : decode cX5_readsForm 43 = .ok (.iastore, 1) := by decide +kernel
theorem dX5_readsForm_44 : decode cX5_readsForm 44 = .ok (.aload_n 0, 1) := by decide +kernel
theorem dX5_readsForm_45 : decode cX5_readsForm 45 = .ok (.getfield 23, 3) := by decide +kernel
theorem dX5_readsForm_48 : decode cX5_readsForm 48 = .ok (.iconst 2, 1) := by decide +kernel
theorem dX5_readsForm_49 : decode cX5_readsForm 49 = .ok (.aload_n 0, 1) := by decide +kernel
theorem dX5_readsForm_50 : decode cX5_readsForm 50 = .ok (.getfield 23, 3) := by decide +kernel
theorem dX5_readsForm_53 : decode cX5_readsForm 53 = .ok (.iconst 1, 1) := by decide +kernel
theorem dX5_readsForm_54 : decode cX5_readsForm 54 = .ok (.iaload, 1) := by decide +kernel
theorem dX5_readsForm_55 : decode cX5_readsForm 55 = .ok (.ifCond .lt 20, 3) := by decide +kernel
theorem dX5_readsForm_58 : decode cX5_readsForm 58 = .ok (.aload_n 0, 1) := by decide +kernel
theorem dX5_readsForm_59 : decode cX5_readsForm 59 = .ok (.bipush 104, 2) := by decide +kernel
theorem dX5_readsForm_61 : decode cX5_readsForm 61 = .ok (.invokevirtual 155, 3) := by decide +kernel
theorem dX5_readsForm_64 : decode cX5_readsForm 64 = .ok (.ifCond .eq 11, 3) := by decide +kernel
theorem dX5_readsForm_67 : decode cX5_readsForm 67 = .ok (.aload_n 0, 1) := by decide +kernel
theorem dX5_readsForm_68 : decode cX5_readsForm 68 = .ok (.iconst 1, 1) := by decide +kernel
theorem dX5_readsForm_69 : decode cX5_readsForm 69 = .ok (.invokevirtual 152, 3) := by decide +kernel
theorem dX5_readsForm_72 : decode cX5_readsForm 72 = .ok (.goto 4, 3) := by decide +kernel
theorem dX5_readsForm_75 : decode cX5_readsForm 75 = .ok (.iconst (-1), 1) := by decide +kernel
theorem dX5_readsForm_76 : decode cX5_readsForm 76 = .ok (.iastore, 1) := by decide +kernel
theorem dX5_readsForm_77 : decode cX5_readsForm 77 = .ok (.aload_n 0, 1) := by decide +kernel
theorem dX5_readsForm_78 : decode cX5_readsForm 78 = .ok (.getfield 23, 3) := by decide +kernel
theorem dX5_readsForm_81 : decode cX5_readsForm 81 = .ok (.iconst 3, 1) := by decide +kernel
theorem dX5_readsForm_82 : decode cX5_readsForm 82 = .ok (.aload_n 0, 1) := by decide +kernel
theorem dX5_readsForm_83 : decode cX5_readsForm 83 = .ok (.getfield 23, 3) := by decide +kernel
theorem dX5_readsForm_86 : decode cX5_readsForm 86 = .ok (.iconst 2, 1) := by decide +kernel
theorem dX5_readsForm_87 : decode cX5_readsForm 87 = .ok (.iaload, 1) := by decide +kernel
theorem dX5_readsForm_88 : decode cX5_readsForm 88 = .ok (.ifCond .lt 20, 3) := by decide +kernel
theorem dX5_readsForm_91 : decode cX5_readsForm 91 = .ok (.aload_n 0, 1) := by decide +kernel
theorem dX5_readsForm_92 : decode cX5_readsForm 92 = .ok (.bipush 45, 2) := by decide +kernel
theorem dX5_readsForm_94 : decode cX5_readsForm 94 = .ok (.invokevirtual 155, 3) := by decide +kernel
theorem dX5_readsForm_97 : decode cX5_readsForm 97 = .ok (.ifCond .eq 11, 3) := by decide +kernel
theorem dX5_readsForm_100 : decode cX5_readsForm 100 = .ok (.aload_n 0, 1) := by decide +kernel
theorem dX5_readsForm_101 : decode cX5_readsForm 101 = .ok (.iconst 1, 1) := by decide +kernel
theorem dX5_readsForm_102 : decode cX5_readsForm 102 = .ok (.invokevirtual 152, 3) := by decide +kernel
theorem dX5_readsForm_105 : decode cX5_readsForm 105 = .ok (.goto 4, 3) := by decide +kernel
theorem dX5_readsForm_108 : decode cX5_readsForm 108 = .ok (.iconst (-1), 1) := by decide +kernel
theorem dX5_readsForm_109 : decode cX5_readsForm 109 = .ok (.iastore, 1) := by decide +kernel
theorem dX5_readsForm_110 : decode cX5_readsForm 110 = .ok (.aload_n 0, 1) := by decide +kernel
theorem dX5_readsForm_111 : decode cX5_readsForm 111 = .ok (.getfield 23, 3) := by decide +kernel
theorem dX5_readsForm_114 : decode cX5_readsForm 114 = .ok (.iconst 4, 1) := by decide +kernel
theorem dX5_readsForm_115 : decode cX5_readsForm 115 = .ok (.aload_n 0, 1) := by decide +kernel
theorem dX5_readsForm_116 : decode cX5_readsForm 116 = .ok (.getfield 23, 3) := by decide +kernel
theorem dX5_readsForm_119 : decode cX5_readsForm 119 = .ok (.iconst 3, 1) := by decide +kernel
theorem dX5_readsForm_120 : decode cX5_readsForm 120 = .ok (.iaload, 1) := by decide +kernel
theorem dX5_readsForm_121 : decode cX5_readsForm 121 = .ok (.ifCond .lt 20, 3) := by decide +kernel
theorem dX5_readsForm_124 : decode cX5_readsForm 124 = .ok (.aload_n 0, 1) := by decide +kernel
theorem dX5_readsForm_125 : decode cX5_readsForm 125 = .ok (.bipush 115, 2) := by decide +kernel
theorem dX5_readsForm_127 : decode cX5_readsForm 127 = .ok (.invokevirtual 155, 3) := by decide +kernel
theorem dX5_readsForm_130 : decode cX5_readsForm 130 = .ok (.ifCond .eq 11, 3) := by decide +kernel
theorem dX5_readsForm_133 : decode cX5_readsForm 133 = .ok (.aload_n 0, 1) := by decide +kernel
theorem dX5_readsForm_134 : decode cX5_readsForm 134 = .ok (.iconst 3, 1) := by decide +kernel
theorem dX5_readsForm_135 : decode cX5_readsForm 135 = .ok (.invokevirtual 152, 3) := by decide +kernel
theorem dX5_readsForm_138 : decode cX5_readsForm 138 = .ok (.goto 4, 3) := by decide +kernel
theorem dX5_readsForm_141 : decode cX5_readsForm 141 = .ok (.iconst (-1), 1) := by decide +kernel
theorem dX5_readsForm_142 : decode cX5_readsForm 142 = .ok (.iastore, 1) := by decide +kernel
theorem dX5_readsForm_143 : decode cX5_readsForm 143 = .ok (.aload_n 0, 1) := by decide +kernel
theorem dX5_readsForm_144 : decode cX5_readsForm 144 = .ok (.getfield 23, 3) := by decide +kernel
theorem dX5_readsForm_147 : decode cX5_readsForm 147 = .ok (.iconst 4, 1) := by decide +kernel
theorem dX5_readsForm_148 : decode cX5_readsForm 148 = .ok (.iaload, 1) := by decide +kernel
theorem dX5_readsForm_149 : decode cX5_readsForm 149 = .ok (.ifCond .lt 16, 3) := by decide +kernel
theorem dX5_readsForm_152 : decode cX5_readsForm 152 = .ok (.aload_n 0, 1) := by decide +kernel
theorem dX5_readsForm_153 : decode cX5_readsForm 153 = .ok (.bipush 59, 2) := by decide +kernel
theorem dX5_readsForm_155 : decode cX5_readsForm 155 = .ok (.invokevirtual 155, 3) := by decide +kernel
theorem dX5_readsForm_158 : decode cX5_readsForm 158 = .ok (.ifCond .eq 7, 3) := by decide +kernel
theorem dX5_readsForm_161 : decode cX5_readsForm 161 = .ok (.iconst 1, 1) := by decide +kernel
theorem dX5_readsForm_162 : decode cX5_readsForm 162 = .ok (.goto 4, 3) := by decide +kernel
theorem dX5_readsForm_165 : decode cX5_readsForm 165 = .ok (.iconst 0, 1) := by decide +kernel
theorem dX5_readsForm_166 : decode cX5_readsForm 166 = .ok (.ireturn, 1) := by decide +kernel
set_option maxRecDepth 20000 in
theorem ggX5_entersOne_X5_readsForm : GoodIn wsX5_entersOne wsX5_readsForm := goodIn_r _ [6, 1, 7, 8, 9, 5, 10, 11, 12, 13, 14, 15, 16, 17, 18, 19, 20, 115, 116, 117, 118, 119, 120, 121, 122, 123] (by decide +kernel) (by decide +kernel)
set_option maxRecDepth 20000 in
theorem gX5_entersOne_X5_readsForm : GoodIn wsX5_entersOne (wsV RX5 159 RX5 yX5_readsForm wsX5_readsForm) := goodIn_app (goodIn_of _ (by decide +kernel)) ggX5_entersOne_X5_readsForm
set_option maxRecDepth 20000 in
theorem ggX5_entersOne_X5_isApplication : GoodIn wsX5_entersOne wsX5_isApplication := goodIn_r _ [24, 25, 26, 27, 5, 28, 29, 14, 15, 16, 30, 31, 32, 33, 34, 35, 36, 37, 38, 115, 116, 117, 118, 119, 120, 121, 122, 123] (by decide +kernel) (by decide +kernel)
set_option maxRecDepth 20000 in
theorem gX5_entersOne_X5_isApplication : GoodIn wsX5_entersOne (wsV RX5 130 RX5 yX5_isApplication wsX5_isApplication) := goodIn_app (goodIn_of _ (by decide +kernel)) ggX5_entersOne_X5_isApplication
set_option maxRecDepth 20000 in
theorem ggX5_entersOne_X5_refuses : GoodIn wsX5_entersOne wsX5_refuses := goodIn_r _ [42, 29, 43, 44, 45, 5, 46, 47, 48, 49, 50, 51, 52, 53, 54, 55, 56, 57, 58, 59, 60, 61, 62, 63, 64, 65, 66, 67, 68, 69, 70, 71, 72, 73, 74, 75, 76, 77, 78, 79, 80, 81, 82, 83, 84, 85, 86, 87, 88, 89, 90, 91, 92, 93, 94, 95, 96, 97, 98, 99, 100, 101, 102, 115, 116, 117, 118, 119, 120, 121, 122, 123] (by decide +kernel) (by decide +kernel)
set_option maxRecDepth 20000 in
theorem gX5_entersOne_X5_refuses : GoodIn wsX5_entersOne (wsV RX5 133 RX5 yX5_refuses wsX5_refuses) := goodIn_app (goodIn_of _ (by decide +kernel)) ggX5_entersOne_X5_refuses
set_option maxRecDepth 20000 in
theorem ggX5_entersOne_X5_isFull : GoodIn wsX5_entersOne wsX5_isFull := goodIn_r _ [106, 29, 107, 108, 109, 5, 110, 43, 44, 45, 46, 115, 116, 117, 118, 119, 120, 121, 122, 123] (by decide +kernel) (by decide +kernel)
set_option maxRecDepth 20000 in
theorem gX5_entersOne_X5_isFull : GoodIn wsX5_entersOne (wsV RX5 136 RX5 yX5_isFull wsX5_isFull) := goodIn_app (goodIn_of _ (by decide +kernel)) ggX5_entersOne_X5_isFull
set_option maxRecDepth 20000 in
theorem ggX5_entersOne_X5_grants : GoodIn wsX5_entersOne wsX5_grants := goodIn_r _ [114, 29, 115, 116, 117, 118, 119, 120, 121, 122, 123] (by decide +kernel) (by decide +kernel)
set_option maxRecDepth 20000 in
theorem gX5_entersOne_X5_grants : GoodIn wsX5_entersOne (wsV RX5 140 RX5 yX5_grants wsX5_grants) := goodIn_app (goodIn_of _ (by decide +kernel)) ggX5_entersOne_X5_grants
theorem dX5_entersOne_0 : decode cX5_entersOne 0 = .ok (.aload_n 0, 1) := by decide +kernel
theorem dX5_entersOne_1 : decode cX5_entersOne 1 = .ok (.invokevirtual 159, 3) := by decide +kernel
theorem dX5_entersOne_4 : decode cX5_entersOne 4 = .ok (.ifCond .ne 6, 3) := by decide +kernel
theorem dX5_entersOne_7 : decode cX5_entersOne 7 = .ok (.bipush 11, 2) := by decide +kernel
theorem dX5_entersOne_9 : decode cX5_entersOne 9 = .ok (.ireturn, 1) := by decide +kernel
theorem dX5_entersOne_10 : decode cX5_entersOne 10 = .ok (.bipush 10, 2) := by decide +kernel
theorem dX5_entersOne_12 : decode cX5_entersOne 12 = .ok (.aload_n 0, 1) := by decide +kernel
theorem dX5_entersOne_13 : decode cX5_entersOne 13 = .ok (.getfield 23, 3) := by decide +kernel
theorem dX5_entersOne_16 : decode cX5_entersOne 16 = .ok (.iconst 2, 1) := by decide +kernel
theorem dX5_entersOne_17 : decode cX5_entersOne 17 = .ok (.iaload, 1) := by decide +kernel
theorem dX5_entersOne_18 : decode cX5_entersOne 18 = .ok (.imul, 1) := by decide +kernel
theorem dX5_entersOne_19 : decode cX5_entersOne 19 = .ok (.aload_n 0, 1) := by decide +kernel
theorem dX5_entersOne_20 : decode cX5_entersOne 20 = .ok (.getfield 23, 3) := by decide +kernel
theorem dX5_entersOne_23 : decode cX5_entersOne 23 = .ok (.iconst 3, 1) := by decide +kernel
theorem dX5_entersOne_24 : decode cX5_entersOne 24 = .ok (.iaload, 1) := by decide +kernel
theorem dX5_entersOne_25 : decode cX5_entersOne 25 = .ok (.iadd, 1) := by decide +kernel
theorem dX5_entersOne_26 : decode cX5_entersOne 26 = .ok (.istore_n 1, 1) := by decide +kernel
theorem dX5_entersOne_27 : decode cX5_entersOne 27 = .ok (.aload_n 0, 1) := by decide +kernel
theorem dX5_entersOne_28 : decode cX5_entersOne 28 = .ok (.aload_n 0, 1) := by decide +kernel
theorem dX5_entersOne_29 : decode cX5_entersOne 29 = .ok (.getfield 23, 3) := by decide +kernel
theorem dX5_entersOne_32 : decode cX5_entersOne 32 = .ok (.iconst 0, 1) := by decide +kernel
theorem dX5_entersOne_33 : decode cX5_entersOne 33 = .ok (.iaload, 1) := by decide +kernel
theorem dX5_entersOne_34 : decode cX5_entersOne 34 = .ok (.aload_n 0, 1) := by decide +kernel
theorem dX5_entersOne_35 : decode cX5_entersOne 35 = .ok (.getfield 23, 3) := by decide +kernel
theorem dX5_entersOne_38 : decode cX5_entersOne 38 = .ok (.iconst 1, 1) := by decide +kernel
theorem dX5_entersOne_39 : decode cX5_entersOne 39 = .ok (.iaload, 1) := by decide +kernel
theorem dX5_entersOne_40 : decode cX5_entersOne 40 = .ok (.iload_n 1, 1) := by decide +kernel
theorem dX5_entersOne_41 : decode cX5_entersOne 41 = .ok (.aload_n 0, 1) := by decide +kernel
theorem dX5_entersOne_42 : decode cX5_entersOne 42 = .ok (.getfield 23, 3) := by decide +kernel
theorem dX5_entersOne_45 : decode cX5_entersOne 45 = .ok (.iconst 4, 1) := by decide +kernel
theorem dX5_entersOne_46 : decode cX5_entersOne 46 = .ok (.iaload, 1) := by decide +kernel
theorem dX5_entersOne_47 : decode cX5_entersOne 47 = .ok (.invokevirtual 130, 3) := by decide +kernel
theorem dX5_entersOne_50 : decode cX5_entersOne 50 = .ok (.ifCond .ne 6, 3) := by decide +kernel
theorem dX5_entersOne_53 : decode cX5_entersOne 53 = .ok (.bipush 12, 2) := by decide +kernel
theorem dX5_entersOne_55 : decode cX5_entersOne 55 = .ok (.ireturn, 1) := by decide +kernel
theorem dX5_entersOne_56 : decode cX5_entersOne 56 = .ok (.aload_n 0, 1) := by decide +kernel
theorem dX5_entersOne_57 : decode cX5_entersOne 57 = .ok (.aload_n 0, 1) := by decide +kernel
theorem dX5_entersOne_58 : decode cX5_entersOne 58 = .ok (.getfield 23, 3) := by decide +kernel
theorem dX5_entersOne_61 : decode cX5_entersOne 61 = .ok (.iconst 0, 1) := by decide +kernel
theorem dX5_entersOne_62 : decode cX5_entersOne 62 = .ok (.iaload, 1) := by decide +kernel
theorem dX5_entersOne_63 : decode cX5_entersOne 63 = .ok (.aload_n 0, 1) := by decide +kernel
theorem dX5_entersOne_64 : decode cX5_entersOne 64 = .ok (.getfield 23, 3) := by decide +kernel
theorem dX5_entersOne_67 : decode cX5_entersOne 67 = .ok (.iconst 1, 1) := by decide +kernel
theorem dX5_entersOne_68 : decode cX5_entersOne 68 = .ok (.iaload, 1) := by decide +kernel
theorem dX5_entersOne_69 : decode cX5_entersOne 69 = .ok (.iload_n 1, 1) := by decide +kernel
theorem dX5_entersOne_70 : decode cX5_entersOne 70 = .ok (.aload_n 0, 1) := by decide +kernel
theorem dX5_entersOne_71 : decode cX5_entersOne 71 = .ok (.getfield 23, 3) := by decide +kernel
theorem dX5_entersOne_74 : decode cX5_entersOne 74 = .ok (.iconst 4, 1) := by decide +kernel
theorem dX5_entersOne_75 : decode cX5_entersOne 75 = .ok (.iaload, 1) := by decide +kernel
theorem dX5_entersOne_76 : decode cX5_entersOne 76 = .ok (.invokevirtual 133, 3) := by decide +kernel
theorem dX5_entersOne_79 : decode cX5_entersOne 79 = .ok (.istore_n 2, 1) := by decide +kernel
theorem dX5_entersOne_80 : decode cX5_entersOne 80 = .ok (.iload_n 2, 1) := by decide +kernel
theorem dX5_entersOne_81 : decode cX5_entersOne 81 = .ok (.ifCond .gt 10, 3) := by decide +kernel
theorem dX5_entersOne_84 : decode cX5_entersOne 84 = .ok (.aload_n 0, 1) := by decide +kernel
theorem dX5_entersOne_85 : decode cX5_entersOne 85 = .ok (.invokevirtual 136, 3) := by decide +kernel
theorem dX5_entersOne_88 : decode cX5_entersOne 88 = .ok (.ifCond .eq 13, 3) := by decide +kernel
theorem dX5_entersOne_91 : decode cX5_entersOne 91 = .ok (.iload_n 2, 1) := by decide +kernel
theorem dX5_entersOne_92 : decode cX5_entersOne 92 = .ok (.ifCond .le 7, 3) := by decide +kernel
theorem dX5_entersOne_95 : decode cX5_entersOne 95 = .ok (.iload_n 2, 1) := by decide +kernel
theorem dX5_entersOne_96 : decode cX5_entersOne 96 = .ok (.goto 4, 3) := by decide +kernel
theorem dX5_entersOne_99 : decode cX5_entersOne 99 = .ok (.iconst 5, 1) := by decide +kernel
theorem dX5_entersOne_100 : decode cX5_entersOne 100 = .ok (.ireturn, 1) := by decide +kernel
theorem dX5_entersOne_101 : decode cX5_entersOne 101 = .ok (.aload_n 0, 1) := by decide +kernel
theorem dX5_entersOne_102 : decode cX5_entersOne 102 = .ok (.aload_n 0, 1) := by decide +kernel
theorem dX5_entersOne_103 : decode cX5_entersOne 103 = .ok (.getfield 23, 3) := by decide +kernel
theorem dX5_entersOne_106 : decode cX5_entersOne 106 = .ok (.iconst 0, 1) := by decide +kernel
theorem dX5_entersOne_107 : decode cX5_entersOne 107 = .ok (.iaload, 1) := by decide +kernel
theorem dX5_entersOne_108 : decode cX5_entersOne 108 = .ok (.aload_n 0, 1) := by decide +kernel
theorem dX5_entersOne_109 : decode cX5_entersOne 109 = .ok (.getfield 23, 3) := by decide +kernel
theorem dX5_entersOne_112 : decode cX5_entersOne 112 = .ok (.iconst 1, 1) := by decide +kernel
theorem dX5_entersOne_113 : decode cX5_entersOne 113 = .ok (.iaload, 1) := by decide +kernel
theorem dX5_entersOne_114 : decode cX5_entersOne 114 = .ok (.iload_n 1, 1) := by decide +kernel
theorem dX5_entersOne_115 : decode cX5_entersOne 115 = .ok (.aload_n 0, 1) := by decide +kernel
theorem dX5_entersOne_116 : decode cX5_entersOne 116 = .ok (.getfield 23, 3) := by decide +kernel
theorem dX5_entersOne_119 : decode cX5_entersOne 119 = .ok (.iconst 4, 1) := by decide +kernel
theorem dX5_entersOne_120 : decode cX5_entersOne 120 = .ok (.iaload, 1) := by decide +kernel
theorem dX5_entersOne_121 : decode cX5_entersOne 121 = .ok (.invokevirtual 140, 3) := by decide +kernel
theorem dX5_entersOne_124 : decode cX5_entersOne 124 = .ok (.pop, 1) := by decide +kernel
theorem dX5_entersOne_125 : decode cX5_entersOne 125 = .ok (.iconst 0, 1) := by decide +kernel
theorem dX5_entersOne_126 : decode cX5_entersOne 126 = .ok (.ireturn, 1) := by decide +kernel
set_option maxRecDepth 20000 in
theorem ggX5_faulty_X5_entersOne : GoodIn wsX5_faulty wsX5_entersOne := goodIn_r _ [10, 11, 12, 13, 14, 9, 15, 16, 17, 18, 19, 3, 4, 20, 21, 22, 23, 24, 25, 26, 27, 28, 29, 30, 31, 32, 33, 34, 35, 2, 36, 37, 38, 39, 40, 41, 42, 43, 44, 45, 46, 47, 48, 49, 50, 51, 52, 53, 54, 55, 56, 57, 58, 59, 60, 61, 62, 63, 64, 65, 66, 67, 68, 69, 70, 71, 72, 73, 74, 75, 76, 77, 78, 79, 80, 81, 82, 83, 84, 85, 86, 87, 88, 89, 90, 91, 92, 93, 94, 95, 96, 97, 98, 99, 100, 101, 102, 103, 104, 105, 106, 107, 108, 109, 110, 111, 112, 113, 114, 115, 116, 117, 118, 119, 120, 121, 122, 123, 124, 125, 126, 127, 128, 129] (by decide +kernel) (by decide +kernel)
set_option maxRecDepth 20000 in
theorem gX5_faulty_X5_entersOne : GoodIn wsX5_faulty (wsV RX5 162 RX5 yX5_entersOne wsX5_entersOne) := goodIn_app (goodIn_of _ (by decide +kernel)) ggX5_faulty_X5_entersOne
theorem dX5_faulty_0 : decode cX5_faulty 0 = .ok (.iconst 0, 1) := by decide +kernel
theorem dX5_faulty_1 : decode cX5_faulty 1 = .ok (.istore_n 1, 1) := by decide +kernel
theorem dX5_faulty_2 : decode cX5_faulty 2 = .ok (.iload_n 1, 1) := by decide +kernel
theorem dX5_faulty_3 : decode cX5_faulty 3 = .ok (.sipush 1445, 3) := by decide +kernel
theorem dX5_faulty_6 : decode cX5_faulty 6 = .ok (.if_icmp .ge 21, 3) := by decide +kernel
theorem dX5_faulty_9 : decode cX5_faulty 9 = .ok (.aload_n 0, 1) := by decide +kernel
theorem dX5_faulty_10 : decode cX5_faulty 10 = .ok (.getfield 16, 3) := by decide +kernel
theorem dX5_faulty_13 : decode cX5_faulty 13 = .ok (.iload_n 1, 1) := by decide +kernel
theorem dX5_faulty_14 : decode cX5_faulty 14 = .ok (.aload_n 0, 1) := by decide +kernel
theorem dX5_faulty_15 : decode cX5_faulty 15 = .ok (.getfield 7, 3) := by decide +kernel
theorem dX5_faulty_18 : decode cX5_faulty 18 = .ok (.iload_n 1, 1) := by decide +kernel
theorem dX5_faulty_19 : decode cX5_faulty 19 = .ok (.iaload, 1) := by decide +kernel
theorem dX5_faulty_20 : decode cX5_faulty 20 = .ok (.iastore, 1) := by decide +kernel
theorem dX5_faulty_21 : decode cX5_faulty 21 = .ok (.iinc 1 1, 3) := by decide +kernel
theorem dX5_faulty_24 : decode cX5_faulty 24 = .ok (.goto (-22), 3) := by decide +kernel
theorem dX5_faulty_27 : decode cX5_faulty 27 = .ok (.sipush (-1004), 3) := by decide +kernel
theorem dX5_faulty_30 : decode cX5_faulty 30 = .ok (.istore_n 1, 1) := by decide +kernel
theorem dX5_faulty_31 : decode cX5_faulty 31 = .ok (.aload_n 0, 1) := by decide +kernel
theorem dX5_faulty_32 : decode cX5_faulty 32 = .ok (.iconst 0, 1) := by decide +kernel
theorem dX5_faulty_33 : decode cX5_faulty 33 = .ok (.putfield 149, 3) := by decide +kernel
theorem dX5_faulty_36 : decode cX5_faulty 36 = .ok (.aload_n 0, 1) := by decide +kernel
theorem dX5_faulty_37 : decode cX5_faulty 37 = .ok (.getfield 149, 3) := by decide +kernel
theorem dX5_faulty_40 : decode cX5_faulty 40 = .ok (.aload_n 0, 1) := by decide +kernel
theorem dX5_faulty_41 : decode cX5_faulty 41 = .ok (.getfield 117, 3) := by decide +kernel
theorem dX5_faulty_44 : decode cX5_faulty 44 = .ok (.if_icmp .ge 39, 3) := by decide +kernel
theorem dX5_faulty_47 : decode cX5_faulty 47 = .ok (.iload_n 1, 1) := by decide +kernel
theorem dX5_faulty_48 : decode cX5_faulty 48 = .ok (.sipush (-1004), 3) := by decide +kernel
theorem dX5_faulty_51 : decode cX5_faulty 51 = .ok (.if_icmp .ne 32, 3) := by decide +kernel
theorem dX5_faulty_54 : decode cX5_faulty 54 = .ok (.aload_n 0, 1) := by decide +kernel
theorem dX5_faulty_55 : decode cX5_faulty 55 = .ok (.getfield 149, 3) := by decide +kernel
theorem dX5_faulty_58 : decode cX5_faulty 58 = .ok (.istore_n 2, 1) := by decide +kernel
theorem dX5_faulty_59 : decode cX5_faulty 59 = .ok (.aload_n 0, 1) := by decide +kernel
theorem dX5_faulty_60 : decode cX5_faulty 60 = .ok (.aload_n 0, 1) := by decide +kernel
theorem dX5_faulty_61 : decode cX5_faulty 61 = .ok (.invokevirtual 162, 3) := by decide +kernel
theorem dX5_faulty_64 : decode cX5_faulty 64 = .ok (.putfield 165, 3) := by decide +kernel
theorem dX5_faulty_67 : decode cX5_faulty 67 = .ok (.aload_n 0, 1) := by decide +kernel
theorem dX5_faulty_68 : decode cX5_faulty 68 = .ok (.getfield 165, 3) := by decide +kernel
theorem dX5_faulty_71 : decode cX5_faulty 71 = .ok (.ifCond .le 7, 3) := by decide +kernel
theorem dX5_faulty_74 : decode cX5_faulty 74 = .ok (.iload_n 2, 1) := by decide +kernel
theorem dX5_faulty_75 : decode cX5_faulty 75 = .ok (.goto 4, 3) := by decide +kernel
theorem dX5_faulty_78 : decode cX5_faulty 78 = .ok (.iload_n 1, 1) := by decide +kernel
theorem dX5_faulty_79 : decode cX5_faulty 79 = .ok (.istore_n 1, 1) := by decide +kernel
theorem dX5_faulty_80 : decode cX5_faulty 80 = .ok (.goto (-44), 3) := by decide +kernel
theorem dX5_faulty_83 : decode cX5_faulty 83 = .ok (.iconst 0, 1) := by decide +kernel
theorem dX5_faulty_84 : decode cX5_faulty 84 = .ok (.istore_n 2, 1) := by decide +kernel
theorem dX5_faulty_85 : decode cX5_faulty 85 = .ok (.iload_n 2, 1) := by decide +kernel
theorem dX5_faulty_86 : decode cX5_faulty 86 = .ok (.sipush 1445, 3) := by decide +kernel
theorem dX5_faulty_89 : decode cX5_faulty 89 = .ok (.if_icmp .ge 21, 3) := by decide +kernel
theorem dX5_faulty_92 : decode cX5_faulty 92 = .ok (.aload_n 0, 1) := by decide +kernel
theorem dX5_faulty_93 : decode cX5_faulty 93 = .ok (.getfield 7, 3) := by decide +kernel
theorem dX5_faulty_96 : decode cX5_faulty 96 = .ok (.iload_n 2, 1) := by decide +kernel
theorem dX5_faulty_97 : decode cX5_faulty 97 = .ok (.aload_n 0, 1) := by decide +kernel
theorem dX5_faulty_98 : decode cX5_faulty 98 = .ok (.getfield 16, 3) := by decide +kernel
theorem dX5_faulty_101 : decode cX5_faulty 101 = .ok (.iload_n 2, 1) := by decide +kernel
theorem dX5_faulty_102 : decode cX5_faulty 102 = .ok (.iaload, 1) := by decide +kernel
theorem dX5_faulty_103 : decode cX5_faulty 103 = .ok (.iastore, 1) := by decide +kernel
theorem dX5_faulty_104 : decode cX5_faulty 104 = .ok (.iinc 2 1, 3) := by decide +kernel
theorem dX5_faulty_107 : decode cX5_faulty 107 = .ok (.goto (-22), 3) := by decide +kernel
theorem dX5_faulty_110 : decode cX5_faulty 110 = .ok (.iload_n 1, 1) := by decide +kernel
theorem dX5_faulty_111 : decode cX5_faulty 111 = .ok (.ireturn, 1) := by decide +kernel
set_option maxRecDepth 20000 in
theorem ggX5_fault_X5_in : GoodIn wsX5_fault wsX5_in := goodIn_r _ [5] (by decide +kernel) (by decide +kernel)
set_option maxRecDepth 20000 in
theorem gX5_fault_X5_in : GoodIn wsX5_fault (va_wsS RX5 26 yX5_in wsX5_in) := goodIn_app (goodIn_of _ (by decide +kernel)) ggX5_fault_X5_in
set_option maxRecDepth 20000 in
theorem ggX5_fault_X5_faulty : GoodIn wsX5_fault wsX5_faulty := goodIn_r _ [9, 10, 11, 12, 13, 1, 14, 15, 16, 4, 17, 18, 19, 20, 21, 22, 23, 24, 25, 26, 27, 2, 3, 5, 28, 29, 30, 31, 32, 33, 34, 35, 36, 37, 38, 39, 40, 41, 42, 43, 44, 45, 46, 47, 48, 49, 50, 51, 52, 53, 54, 55, 56, 57, 58, 59, 60, 61, 62, 63, 64, 65, 66, 67, 68, 69, 70, 71, 72, 73, 74, 75, 76, 77, 78, 79, 80, 81, 82, 83, 84, 85, 86, 87, 88, 89, 90, 91, 92, 93, 94, 95, 96, 97, 98, 99, 100, 101, 102, 103, 104, 105, 106, 107, 108, 109, 110, 111, 112, 113, 114, 115, 116, 117, 118, 119, 120, 121, 122, 123, 124, 125, 126, 127, 128, 129, 130, 131, 132, 133] (by decide +kernel) (by decide +kernel)
set_option maxRecDepth 20000 in
theorem gX5_fault_X5_faulty : GoodIn wsX5_fault (wsV RX5 168 RX5 yX5_faulty wsX5_faulty) := goodIn_app (goodIn_of _ (by decide +kernel)) ggX5_fault_X5_faulty
theorem dX5_fault_0 : decode cX5_fault 0 = .ok (.iload_n 1, 1) := by decide +kernel
theorem dX5_fault_1 : decode cX5_fault 1 = .ok (.iconst 0, 1) := by decide +kernel
theorem dX5_fault_2 : decode cX5_fault 2 = .ok (.iconst 1, 1) := by decide +kernel
theorem dX5_fault_3 : decode cX5_fault 3 = .ok (.invokestatic 26, 3) := by decide +kernel
theorem dX5_fault_6 : decode cX5_fault 6 = .ok (.ifCond .ne 7, 3) := by decide +kernel
theorem dX5_fault_9 : decode cX5_fault 9 = .ok (.sipush (-1001), 3) := by decide +kernel
theorem dX5_fault_12 : decode cX5_fault 12 = .ok (.ireturn, 1) := by decide +kernel
theorem dX5_fault_13 : decode cX5_fault 13 = .ok (.aload_n 0, 1) := by decide +kernel
theorem dX5_fault_14 : decode cX5_fault 14 = .ok (.invokevirtual 168, 3) := by decide +kernel
theorem dX5_fault_17 : decode cX5_fault 17 = .ok (.istore_n 2, 1) := by decide +kernel
theorem dX5_fault_18 : decode cX5_fault 18 = .ok (.iload_n 2, 1) := by decide +kernel
theorem dX5_fault_19 : decode cX5_fault 19 = .ok (.sipush (-1004), 3) := by decide +kernel
theorem dX5_fault_22 : decode cX5_fault 22 = .ok (.if_icmp .eq 7, 3) := by decide +kernel
theorem dX5_fault_25 : decode cX5_fault 25 = .ok (.iload_n 1, 1) := by decide +kernel
theorem dX5_fault_26 : decode cX5_fault 26 = .ok (.ifCond .ne 7, 3) := by decide +kernel
theorem dX5_fault_29 : decode cX5_fault 29 = .ok (.iload_n 2, 1) := by decide +kernel
theorem dX5_fault_30 : decode cX5_fault 30 = .ok (.goto 7, 3) := by decide +kernel
theorem dX5_fault_33 : decode cX5_fault 33 = .ok (.aload_n 0, 1) := by decide +kernel
theorem dX5_fault_34 : decode cX5_fault 34 = .ok (.getfield 165, 3) := by decide +kernel
theorem dX5_fault_37 : decode cX5_fault 37 = .ok (.ireturn, 1) := by decide +kernel
set_option maxRecDepth 20000 in
theorem ggX5_enter_X5_faulty : GoodIn wsX5_enter wsX5_faulty := goodIn_r _ [7, 8, 9, 1, 2, 10, 11, 12, 13, 6, 14, 15, 16, 17, 18, 19, 20, 21, 22, 23, 24, 25, 26, 27, 28, 29, 30, 31, 32, 33, 34, 35, 36, 37, 38, 39, 40, 41, 42, 43, 44, 45, 46, 47, 48, 49, 50, 51, 52, 53, 54, 55, 56, 57, 58, 59, 60, 61, 62, 63, 64, 65, 66, 67, 68, 69, 70, 71, 72, 73, 74, 75, 76, 77, 78, 79, 80, 81, 82, 83, 84, 85, 86, 87, 88, 89, 90, 91, 92, 93, 94, 95, 96, 97, 98, 99, 100, 101, 102, 103, 104, 105, 106, 107, 108, 109, 110, 111, 112, 113, 114, 115, 116, 117, 118, 119, 120, 121, 122, 123, 124, 131, 132, 133, 134, 135, 136, 137, 138, 139] (by decide +kernel) (by decide +kernel)
set_option maxRecDepth 20000 in
theorem gX5_enter_X5_faulty : GoodIn wsX5_enter (wsV RX5 168 RX5 yX5_faulty wsX5_faulty) := goodIn_app (goodIn_of _ (by decide +kernel)) ggX5_enter_X5_faulty
set_option maxRecDepth 20000 in
theorem ggX5_enter_X5_records : GoodIn wsX5_enter wsX5_records := goodIn_r _ [128, 129, 130, 9, 131, 132, 133, 134, 135, 136, 137, 138, 139] (by decide +kernel) (by decide +kernel)
set_option maxRecDepth 20000 in
theorem gX5_enter_X5_records : GoodIn wsX5_enter (wsV RX5 91 RX5 yX5_records wsX5_records) := goodIn_app (goodIn_of _ (by decide +kernel)) ggX5_enter_X5_records
set_option maxRecDepth 20000 in
theorem ggX5_enter_X5_entersOne : GoodIn wsX5_enter wsX5_entersOne := goodIn_r _ [14, 15, 16, 17, 18, 6, 19, 20, 21, 22, 23, 1, 2, 24, 25, 26, 27, 28, 29, 30, 31, 32, 33, 34, 35, 36, 37, 38, 39, 9, 40, 41, 42, 43, 44, 45, 46, 47, 48, 49, 50, 51, 52, 53, 54, 55, 56, 57, 58, 59, 60, 61, 62, 63, 64, 65, 66, 67, 68, 69, 70, 71, 72, 73, 74, 75, 76, 77, 78, 79, 80, 81, 82, 83, 84, 85, 86, 87, 88, 89, 90, 91, 92, 93, 94, 95, 96, 97, 98, 99, 100, 101, 102, 103, 104, 105, 106, 107, 108, 109, 110, 111, 112, 113, 114, 115, 116, 117, 118, 119, 120, 121, 122, 123, 124, 131, 132, 133, 134, 135, 136, 137, 138, 139] (by decide +kernel) (by decide +kernel)
set_option maxRecDepth 20000 in
theorem gX5_enter_X5_entersOne : GoodIn wsX5_enter (wsV RX5 162 RX5 yX5_entersOne wsX5_entersOne) := goodIn_app (goodIn_of _ (by decide +kernel)) ggX5_enter_X5_entersOne
theorem dX5_enter_0 : decode cX5_enter 0 = .ok (.aload_n 0, 1) := by decide +kernel
theorem dX5_enter_1 : decode cX5_enter 1 = .ok (.invokevirtual 168, 3) := by decide +kernel
theorem dX5_enter_4 : decode cX5_enter 4 = .ok (.sipush (-1004), 3) := by decide +kernel
theorem dX5_enter_7 : decode cX5_enter 7 = .ok (.if_icmp .eq 7, 3) := by decide +kernel
theorem dX5_enter_10 : decode cX5_enter 10 = .ok (.sipush (-1002), 3) := by decide +kernel
theorem dX5_enter_13 : decode cX5_enter 13 = .ok (.ireturn, 1) := by decide +kernel
theorem dX5_enter_14 : decode cX5_enter 14 = .ok (.aload_n 0, 1) := by decide +kernel
theorem dX5_enter_15 : decode cX5_enter 15 = .ok (.invokevirtual 91, 3) := by decide +kernel
theorem dX5_enter_18 : decode cX5_enter 18 = .ok (.iconst 0, 1) := by decide +kernel
theorem dX5_enter_19 : decode cX5_enter 19 = .ok (.istore_n 1, 1) := by decide +kernel
theorem dX5_enter_20 : decode cX5_enter 20 = .ok (.aload_n 0, 1) := by decide +kernel
theorem dX5_enter_21 : decode cX5_enter 21 = .ok (.iconst 0, 1) := by decide +kernel
theorem dX5_enter_22 : decode cX5_enter 22 = .ok (.putfield 149, 3) := by decide +kernel
theorem dX5_enter_25 : decode cX5_enter 25 = .ok (.aload_n 0, 1) := by decide +kernel
theorem dX5_enter_26 : decode cX5_enter 26 = .ok (.getfield 149, 3) := by decide +kernel
theorem dX5_enter_29 : decode cX5_enter 29 = .ok (.aload_n 0, 1) := by decide +kernel
theorem dX5_enter_30 : decode cX5_enter 30 = .ok (.getfield 117, 3) := by decide +kernel
theorem dX5_enter_33 : decode cX5_enter 33 = .ok (.if_icmp .ge 14, 3) := by decide +kernel
theorem dX5_enter_36 : decode cX5_enter 36 = .ok (.aload_n 0, 1) := by decide +kernel
theorem dX5_enter_37 : decode cX5_enter 37 = .ok (.invokevirtual 162, 3) := by decide +kernel
theorem dX5_enter_40 : decode cX5_enter 40 = .ok (.pop, 1) := by decide +kernel
theorem dX5_enter_41 : decode cX5_enter 41 = .ok (.iinc 1 1, 3) := by decide +kernel
theorem dX5_enter_44 : decode cX5_enter 44 = .ok (.goto (-19), 3) := by decide +kernel
theorem dX5_enter_47 : decode cX5_enter 47 = .ok (.iload_n 1, 1) := by decide +kernel
theorem dX5_enter_48 : decode cX5_enter 48 = .ok (.ireturn, 1) := by decide +kernel
theorem dJ13_bitCount_95d88_0 : decode cJ13_bitCount_95d88 0 = .ok (.lload_n 0, 1) := by decide +kernel
theorem dJ13_bitCount_95d88_1 : decode cJ13_bitCount_95d88 1 = .ok (.lload_n 0, 1) := by decide +kernel
theorem dJ13_bitCount_95d88_2 : decode cJ13_bitCount_95d88 2 = .ok (.iconst 1, 1) := by decide +kernel
theorem dJ13_bitCount_95d88_3 : decode cJ13_bitCount_95d88 3 = .ok (.lushr, 1) := by decide +kernel
theorem dJ13_bitCount_95d88_4 : decode cJ13_bitCount_95d88 4 = .ok (.ldc2_w 314, 3) := by decide +kernel
theorem dJ13_bitCount_95d88_7 : decode cJ13_bitCount_95d88 7 = .ok (.land, 1) := by decide +kernel
theorem dJ13_bitCount_95d88_8 : decode cJ13_bitCount_95d88 8 = .ok (.lsub, 1) := by decide +kernel
theorem dJ13_bitCount_95d88_9 : decode cJ13_bitCount_95d88 9 = .ok (.lstore_n 0, 1) := by decide +kernel
theorem dJ13_bitCount_95d88_10 : decode cJ13_bitCount_95d88 10 = .ok (.lload_n 0, 1) := by decide +kernel
theorem dJ13_bitCount_95d88_11 : decode cJ13_bitCount_95d88 11 = .ok (.ldc2_w 316, 3) := by decide +kernel
theorem dJ13_bitCount_95d88_14 : decode cJ13_bitCount_95d88 14 = .ok (.land, 1) := by decide +kernel
theorem dJ13_bitCount_95d88_15 : decode cJ13_bitCount_95d88 15 = .ok (.lload_n 0, 1) := by decide +kernel
theorem dJ13_bitCount_95d88_16 : decode cJ13_bitCount_95d88 16 = .ok (.iconst 2, 1) := by decide +kernel
theorem dJ13_bitCount_95d88_17 : decode cJ13_bitCount_95d88 17 = .ok (.lushr, 1) := by decide +kernel
theorem dJ13_bitCount_95d88_18 : decode cJ13_bitCount_95d88 18 = .ok (.ldc2_w 316, 3) := by decide +kernel
theorem dJ13_bitCount_95d88_21 : decode cJ13_bitCount_95d88 21 = .ok (.land, 1) := by decide +kernel
theorem dJ13_bitCount_95d88_22 : decode cJ13_bitCount_95d88 22 = .ok (.ladd, 1) := by decide +kernel
theorem dJ13_bitCount_95d88_23 : decode cJ13_bitCount_95d88 23 = .ok (.lstore_n 0, 1) := by decide +kernel
theorem dJ13_bitCount_95d88_24 : decode cJ13_bitCount_95d88 24 = .ok (.lload_n 0, 1) := by decide +kernel
theorem dJ13_bitCount_95d88_25 : decode cJ13_bitCount_95d88 25 = .ok (.lload_n 0, 1) := by decide +kernel
theorem dJ13_bitCount_95d88_26 : decode cJ13_bitCount_95d88 26 = .ok (.iconst 4, 1) := by decide +kernel
theorem dJ13_bitCount_95d88_27 : decode cJ13_bitCount_95d88 27 = .ok (.lushr, 1) := by decide +kernel
theorem dJ13_bitCount_95d88_28 : decode cJ13_bitCount_95d88 28 = .ok (.ladd, 1) := by decide +kernel
theorem dJ13_bitCount_95d88_29 : decode cJ13_bitCount_95d88 29 = .ok (.ldc2_w 318, 3) := by decide +kernel
theorem dJ13_bitCount_95d88_32 : decode cJ13_bitCount_95d88 32 = .ok (.land, 1) := by decide +kernel
theorem dJ13_bitCount_95d88_33 : decode cJ13_bitCount_95d88 33 = .ok (.lstore_n 0, 1) := by decide +kernel
theorem dJ13_bitCount_95d88_34 : decode cJ13_bitCount_95d88 34 = .ok (.lload_n 0, 1) := by decide +kernel
theorem dJ13_bitCount_95d88_35 : decode cJ13_bitCount_95d88 35 = .ok (.lload_n 0, 1) := by decide +kernel
theorem dJ13_bitCount_95d88_36 : decode cJ13_bitCount_95d88 36 = .ok (.bipush 8, 2) := by decide +kernel
theorem dJ13_bitCount_95d88_38 : decode cJ13_bitCount_95d88 38 = .ok (.lushr, 1) := by decide +kernel
theorem dJ13_bitCount_95d88_39 : decode cJ13_bitCount_95d88 39 = .ok (.ladd, 1) := by decide +kernel
theorem dJ13_bitCount_95d88_40 : decode cJ13_bitCount_95d88 40 = .ok (.lstore_n 0, 1) := by decide +kernel
theorem dJ13_bitCount_95d88_41 : decode cJ13_bitCount_95d88 41 = .ok (.lload_n 0, 1) := by decide +kernel
theorem dJ13_bitCount_95d88_42 : decode cJ13_bitCount_95d88 42 = .ok (.lload_n 0, 1) := by decide +kernel
theorem dJ13_bitCount_95d88_43 : decode cJ13_bitCount_95d88 43 = .ok (.bipush 16, 2) := by decide +kernel
theorem dJ13_bitCount_95d88_45 : decode cJ13_bitCount_95d88 45 = .ok (.lushr, 1) := by decide +kernel
theorem dJ13_bitCount_95d88_46 : decode cJ13_bitCount_95d88 46 = .ok (.ladd, 1) := by decide +kernel
theorem dJ13_bitCount_95d88_47 : decode cJ13_bitCount_95d88 47 = .ok (.lstore_n 0, 1) := by decide +kernel
theorem dJ13_bitCount_95d88_48 : decode cJ13_bitCount_95d88 48 = .ok (.lload_n 0, 1) := by decide +kernel
theorem dJ13_bitCount_95d88_49 : decode cJ13_bitCount_95d88 49 = .ok (.lload_n 0, 1) := by decide +kernel
theorem dJ13_bitCount_95d88_50 : decode cJ13_bitCount_95d88 50 = .ok (.bipush 32, 2) := by decide +kernel
theorem dJ13_bitCount_95d88_52 : decode cJ13_bitCount_95d88 52 = .ok (.lushr, 1) := by decide +kernel
theorem dJ13_bitCount_95d88_53 : decode cJ13_bitCount_95d88 53 = .ok (.ladd, 1) := by decide +kernel
theorem dJ13_bitCount_95d88_54 : decode cJ13_bitCount_95d88 54 = .ok (.lstore_n 0, 1) := by decide +kernel
theorem dJ13_bitCount_95d88_55 : decode cJ13_bitCount_95d88 55 = .ok (.lload_n 0, 1) := by decide +kernel
theorem dJ13_bitCount_95d88_56 : decode cJ13_bitCount_95d88 56 = .ok (.l2i, 1) := by decide +kernel
theorem dJ13_bitCount_95d88_57 : decode cJ13_bitCount_95d88 57 = .ok (.bipush 127, 2) := by decide +kernel
theorem dJ13_bitCount_95d88_59 : decode cJ13_bitCount_95d88 59 = .ok (.iand, 1) := by decide +kernel
theorem dJ13_bitCount_95d88_60 : decode cJ13_bitCount_95d88 60 = .ok (.ireturn, 1) := by decide +kernel
theorem dJ9_abs_0f7a4_0 : decode cJ9_abs_0f7a4 0 = .ok (.iload_n 0, 1) := by decide +kernel
theorem dJ9_abs_0f7a4_1 : decode cJ9_abs_0f7a4 1 = .ok (.ifCond .ge 8, 3) := by decide +kernel
theorem dJ9_abs_0f7a4_4 : decode cJ9_abs_0f7a4 4 = .ok (.iload_n 0, 1) := by decide +kernel
theorem dJ9_abs_0f7a4_5 : decode cJ9_abs_0f7a4 5 = .ok (.ineg, 1) := by decide +kernel
theorem dJ9_abs_0f7a4_6 : decode cJ9_abs_0f7a4 6 = .ok (.goto 4, 3) := by decide +kernel
theorem dJ9_abs_0f7a4_9 : decode cJ9_abs_0f7a4 9 = .ok (.iload_n 0, 1) := by decide +kernel
theorem dJ9_abs_0f7a4_10 : decode cJ9_abs_0f7a4 10 = .ok (.ireturn, 1) := by decide +kernel
theorem dJ7_fill_53178_0 : decode cJ7_fill_53178 0 = .ok (.iconst 0, 1) := by decide +kernel
theorem dJ7_fill_53178_1 : decode cJ7_fill_53178 1 = .ok (.istore_n 2, 1) := by decide +kernel
theorem dJ7_fill_53178_2 : decode cJ7_fill_53178 2 = .ok (.aload_n 0, 1) := by decide +kernel
theorem dJ7_fill_53178_3 : decode cJ7_fill_53178 3 = .ok (.arraylength, 1) := by decide +kernel
theorem dJ7_fill_53178_4 : decode cJ7_fill_53178 4 = .ok (.istore_n 3, 1) := by decide +kernel
theorem dJ7_fill_53178_5 : decode cJ7_fill_53178 5 = .ok (.iload_n 2, 1) := by decide +kernel
theorem dJ7_fill_53178_6 : decode cJ7_fill_53178 6 = .ok (.iload_n 3, 1) := by decide +kernel
theorem dJ7_fill_53178_7 : decode cJ7_fill_53178 7 = .ok (.if_icmp .ge 13, 3) := by decide +kernel
theorem dJ7_fill_53178_10 : decode cJ7_fill_53178 10 = .ok (.aload_n 0, 1) := by decide +kernel
theorem dJ7_fill_53178_11 : decode cJ7_fill_53178 11 = .ok (.iload_n 2, 1) := by decide +kernel
theorem dJ7_fill_53178_12 : decode cJ7_fill_53178 12 = .ok (.iload_n 1, 1) := by decide +kernel
theorem dJ7_fill_53178_13 : decode cJ7_fill_53178 13 = .ok (.iastore, 1) := by decide +kernel
theorem dJ7_fill_53178_14 : decode cJ7_fill_53178 14 = .ok (.iinc 2 1, 3) := by decide +kernel
theorem dJ7_fill_53178_17 : decode cJ7_fill_53178 17 = .ok (.goto (-12), 3) := by decide +kernel
theorem dJ7_fill_53178_20 : decode cJ7_fill_53178 20 = .ok (.return_, 1) := by decide +kernel
set_option maxRecDepth 20000 in
theorem ggL_law_X4_init : GoodIn wsL_law wsX4_init := goodIn_r _ [8, 9, 10, 11, 12, 13, 14, 15, 16, 17, 18, 19, 20, 21, 22, 23, 24, 25, 26, 27, 28, 29, 30, 31, 32, 33, 34, 35, 36, 37, 38, 39, 40, 41, 42, 43, 44, 45, 46, 47, 48, 49, 50, 51, 52, 53, 54, 55, 56, 57, 58, 59, 734, 735, 736, 737, 738, 739, 740, 741, 742, 743, 744, 745, 746, 720, 721, 722, 723, 724, 747, 748, 749, 750, 751, 752, 753, 754, 755] (by decide +kernel) (by decide +kernel)
set_option maxRecDepth 20000 in
theorem gL_law_X4_init : GoodIn wsL_law (wsX4_init) := ggL_law_X4_init
set_option maxRecDepth 20000 in
theorem ggL_law_X5_init : GoodIn wsL_law wsX5_init := goodIn_r _ [62, 63, 10, 11, 30, 64, 65, 66, 50, 67, 68, 725, 726, 727, 728, 729, 730, 731, 732, 733] (by decide +kernel) (by decide +kernel)
set_option maxRecDepth 20000 in
theorem gL_law_X5_init : GoodIn wsL_law (wsX5_init) := ggL_law_X5_init
set_option maxRecDepth 20000 in
theorem ggL_law_X4_crane : GoodIn wsL_law wsX4_crane := goodIn_r _ [72, 15, 73, 74, 75, 76, 77, 78, 79, 2, 80, 81, 82, 83, 84, 85, 86, 87, 88, 89, 14, 90, 29, 91, 92, 93, 94, 95, 96, 28, 97, 98, 99, 100, 18, 17, 101, 102, 103, 104, 105, 106, 107, 108, 109, 110, 111, 112, 113, 114, 115, 116, 31, 32, 33, 34, 35, 36, 38, 39, 40, 41, 42, 117, 118, 119, 120, 10, 11, 121, 122, 123, 124, 125, 126, 127, 128, 129, 130, 131, 132, 133, 134, 135, 136, 137, 138, 139, 140, 141, 142, 143, 144, 145, 720, 721, 722, 723, 724, 734, 735, 736, 737, 738, 739, 740, 741, 742, 743, 744, 745, 746, 756, 757, 758, 759, 760, 761, 762] (by decide +kernel) (by decide +kernel)
set_option maxRecDepth 20000 in
theorem gL_law_X4_crane : GoodIn wsL_law (wsV RL 13 RX4 yX4_crane wsX4_crane) := goodIn_app (goodIn_of _ (by decide +kernel)) ggL_law_X4_crane
set_option maxRecDepth 20000 in
theorem ggL_law_X5_crane : GoodIn wsL_law wsX5_crane := goodIn_r _ [149, 64, 150, 151, 5, 152, 153, 154, 155, 156, 157, 158, 159, 160, 161, 162, 163, 164, 65, 725, 726, 727, 728, 729, 730, 731, 732, 733] (by decide +kernel) (by decide +kernel)
set_option maxRecDepth 20000 in
theorem gL_law_X5_crane : GoodIn wsL_law (wsV RL 17 RX5 yX5_crane wsX5_crane) := goodIn_app (goodIn_of _ (by decide +kernel)) ggL_law_X5_crane
set_option maxRecDepth 20000 in
theorem ggL_law_X4_noise : GoodIn wsL_law wsX4_noise := goodIn_r _ [168, 15, 169, 77, 170, 94, 95, 14, 96, 29, 28, 81, 82, 2, 83, 97, 98, 99, 100, 18, 17, 101, 102, 103, 104, 105, 106, 107, 108, 109, 110, 111, 112, 113, 114, 115, 116, 31, 32, 33, 34, 35, 36, 38, 39, 40, 41, 42, 171, 144, 145, 172, 173, 174, 175, 176, 177, 178, 179, 180, 181, 182, 183, 184, 185, 186, 187, 188, 189, 190, 191, 192, 193, 194, 195, 196, 197, 198, 199, 200, 201, 202, 203, 204, 205, 206, 207, 208, 209, 210, 211, 212, 213, 214, 215, 216, 217, 218, 219, 220, 221, 222, 223, 224, 225, 226, 227, 228, 229, 230, 720, 721, 722, 723, 724, 734, 735, 736, 737, 738, 739, 740, 741, 742, 743, 744, 745, 746, 756, 757, 758, 759, 760, 761, 762, 763, 764, 765, 766, 767, 768, 769] (by decide +kernel) (by decide +kernel)
set_option maxRecDepth 20000 in
theorem gL_law_X4_noise : GoodIn wsL_law (wsV RL 18 RX4 yX4_noise wsX4_noise) := goodIn_app (goodIn_of _ (by decide +kernel)) ggL_law_X4_noise
set_option maxRecDepth 20000 in
theorem ggL_law_X5_noise : GoodIn wsL_law wsX5_noise := goodIn_r _ [234, 64, 235, 236, 237, 5, 238, 150, 151, 152, 160, 161, 162, 163, 164, 65, 239, 240, 241, 242, 243, 244, 245, 246, 247, 248, 249, 250, 251, 252, 253, 254, 156, 157, 158, 159, 255, 256, 257, 258, 259, 260, 261, 262, 263, 264, 265, 266, 267, 268, 269, 270, 271, 272, 273, 274, 275, 276, 725, 726, 727, 728, 729, 730, 731, 732, 733] (by decide +kernel) (by decide +kernel)
set_option maxRecDepth 20000 in
theorem gL_law_X5_noise : GoodIn wsL_law (wsV RL 22 RX5 yX5_noise wsX5_noise) := goodIn_app (goodIn_of _ (by decide +kernel)) ggL_law_X5_noise
set_option maxRecDepth 20000 in
theorem ggL_law_X4_craneOf : GoodIn wsL_law wsX4_craneOf := goodIn_r _ [280, 15, 281, 282, 283, 284, 285, 169, 77, 170, 94, 95, 14, 96, 29, 28, 286, 187, 2, 188, 287, 288, 289, 290, 42, 179, 180, 181, 182, 41, 291, 292, 293, 216, 294, 218, 295, 296, 190, 191, 192, 32, 193, 720, 721, 722, 723, 724, 756, 757, 758, 759, 760, 761, 762, 734, 735, 736, 737, 738, 739, 740, 741, 742, 743, 744, 745, 746, 763, 764, 765, 766, 767, 768, 769] (by decide +kernel) (by decide +kernel)
set_option maxRecDepth 20000 in
theorem gL_law_X4_craneOf : GoodIn wsL_law (wsV RL 23 RX4 yX4_craneOf wsX4_craneOf) := goodIn_app (goodIn_of _ (by decide +kernel)) ggL_law_X4_craneOf
set_option maxRecDepth 20000 in
theorem ggL_law_X5_craneOf : GoodIn wsL_law wsX5_craneOf := goodIn_r _ [300, 64, 235, 236, 237, 5, 238, 150, 151, 152, 156, 157, 158, 159, 301, 302, 303, 304, 251, 252, 253, 254, 725, 726, 727, 728, 729, 730, 731, 732, 733] (by decide +kernel) (by decide +kernel)
set_option maxRecDepth 20000 in
theorem gL_law_X5_craneOf : GoodIn wsL_law (wsV RL 26 RX5 yX5_craneOf wsX5_craneOf) := goodIn_app (goodIn_of _ (by decide +kernel)) ggL_law_X5_craneOf
set_option maxRecDepth 20000 in
theorem ggL_law_X4_set : GoodIn wsL_law wsX4_set := goodIn_r _ [308, 309, 310, 15, 311, 81, 82, 2, 83, 286, 187, 188, 97, 98, 99, 100, 18, 17, 101, 102, 103, 104, 105, 106, 107, 108, 109, 110, 111, 14, 112, 28, 113, 114, 115, 116, 29, 31, 32, 33, 34, 35, 36, 38, 39, 40, 41, 42, 171, 144, 145, 172, 173, 174, 175, 176, 177, 178, 179, 180, 181, 182, 183, 184, 185, 186, 189, 190, 191, 192, 193, 194, 195, 196, 197, 198, 199, 200, 201, 202, 203, 204, 205, 206, 207, 208, 209, 210, 211, 212, 213, 214, 215, 216, 217, 218, 219, 220, 221, 222, 223, 224, 225, 226, 227, 228, 229, 230, 720, 721, 722, 723, 724, 734, 735, 736, 737, 738, 739, 740, 741, 742, 743, 744, 745, 746, 763, 764, 765, 766, 767, 768, 769, 756, 757, 758, 759, 760, 761, 762] (by decide +kernel) (by decide +kernel)
set_option maxRecDepth 20000 in
theorem gL_law_X4_set : GoodIn wsL_law (wsV RL 27 RX4 yX4_set wsX4_set) := goodIn_app (goodIn_of _ (by decide +kernel)) ggL_law_X4_set
set_option maxRecDepth 20000 in
theorem ggL_law_X5_set : GoodIn wsL_law wsX5_set := goodIn_r _ [315, 64, 150, 151, 5, 152, 160, 161, 162, 163, 164, 65, 239, 240, 241, 242, 243, 244, 245, 246, 247, 248, 249, 250, 251, 252, 253, 254, 156, 157, 158, 159, 255, 256, 257, 258, 259, 260, 261, 262, 263, 264, 265, 266, 267, 268, 269, 270, 271, 272, 273, 274, 275, 276, 316, 317, 318, 319, 320, 321, 322, 323, 725, 726, 727, 728, 729, 730, 731, 732, 733] (by decide +kernel) (by decide +kernel)
set_option maxRecDepth 20000 in
theorem gL_law_X5_set : GoodIn wsL_law (wsV RL 30 RX5 yX5_set wsX5_set) := goodIn_app (goodIn_of _ (by decide +kernel)) ggL_law_X5_set
set_option maxRecDepth 20000 in
theorem ggL_law_X4_wind : GoodIn wsL_law wsX4_wind := goodIn_r _ [327, 15, 328, 329, 330, 2, 331, 81, 82, 83, 97, 98, 99, 100, 18, 17, 101, 102, 103, 104, 105, 106, 107, 108, 109, 110, 111, 14, 112, 28, 113, 114, 115, 116, 29, 31, 32, 33, 34, 35, 36, 38, 39, 40, 41, 42, 171, 144, 145, 172, 173, 174, 175, 176, 177, 178, 179, 180, 181, 182, 183, 184, 185, 186, 187, 188, 189, 190, 191, 192, 193, 194, 195, 196, 197, 198, 199, 200, 201, 202, 203, 204, 205, 206, 207, 208, 209, 210, 211, 212, 213, 214, 215, 216, 217, 218, 219, 220, 221, 222, 223, 224, 225, 226, 227, 228, 229, 230, 720, 721, 722, 723, 724, 734, 735, 736, 737, 738, 739, 740, 741, 742, 743, 744, 745, 746, 763, 764, 765, 766, 767, 768, 769, 756, 757, 758, 759, 760, 761, 762] (by decide +kernel) (by decide +kernel)
set_option maxRecDepth 20000 in
theorem gL_law_X4_wind : GoodIn wsL_law (wsV RL 31 RX4 yX4_wind wsX4_wind) := goodIn_app (goodIn_of _ (by decide +kernel)) ggL_law_X4_wind
set_option maxRecDepth 20000 in
theorem ggL_law_X5_wind : GoodIn wsL_law wsX5_wind := goodIn_r _ [335, 64, 336, 337, 5, 338, 150, 151, 152, 160, 161, 162, 163, 164, 65, 316, 317, 318, 319, 251, 252, 253, 254, 320, 321, 322, 323, 156, 157, 158, 159, 725, 726, 727, 728, 729, 730, 731, 732, 733] (by decide +kernel) (by decide +kernel)
set_option maxRecDepth 20000 in
theorem gL_law_X5_wind : GoodIn wsL_law (wsV RL 34 RX5 yX5_wind wsX5_wind) := goodIn_app (goodIn_of _ (by decide +kernel)) ggL_law_X5_wind
set_option maxRecDepth 20000 in
theorem ggL_law_X4_allow : GoodIn wsL_law wsX4_allow := goodIn_r _ [342, 15, 343, 84, 85, 2, 86, 81, 82, 83, 329, 330, 331, 97, 98, 99, 100, 18, 17, 101, 102, 103, 104, 105, 106, 107, 108, 109, 110, 111, 14, 112, 28, 113, 114, 115, 116, 29, 31, 32, 33, 34, 35, 36, 38, 39, 40, 41, 42, 344, 202, 203, 171, 144, 145, 172, 173, 174, 175, 176, 177, 178, 179, 180, 181, 182, 183, 184, 185, 186, 187, 188, 189, 190, 191, 192, 193, 194, 195, 196, 197, 198, 199, 200, 201, 204, 205, 206, 207, 208, 209, 210, 211, 212, 213, 214, 215, 216, 217, 218, 219, 220, 221, 222, 223, 224, 225, 226, 227, 228, 229, 230, 720, 721, 722, 723, 724, 734, 735, 736, 737, 738, 739, 740, 741, 742, 743, 744, 745, 746, 763, 764, 765, 766, 767, 768, 769, 756, 757, 758, 759, 760, 761, 762] (by decide +kernel) (by decide +kernel)
set_option maxRecDepth 20000 in
theorem gL_law_X4_allow : GoodIn wsL_law (wsV RL 35 RX4 yX4_allow wsX4_allow) := goodIn_app (goodIn_of _ (by decide +kernel)) ggL_law_X4_allow
set_option maxRecDepth 20000 in
theorem ggL_law_X5_allow : GoodIn wsL_law wsX5_allow := goodIn_r _ [348, 64, 153, 154, 5, 155, 150, 151, 152, 336, 337, 338, 160, 161, 162, 163, 164, 65, 270, 271, 272, 243, 244, 245, 246, 247, 248, 249, 250, 251, 252, 253, 254, 156, 157, 158, 159, 255, 256, 257, 258, 259, 260, 261, 262, 263, 264, 265, 266, 267, 268, 269, 273, 274, 275, 276, 725, 726, 727, 728, 729, 730, 731, 732, 733] (by decide +kernel) (by decide +kernel)
set_option maxRecDepth 20000 in
theorem gL_law_X5_allow : GoodIn wsL_law (wsV RL 39 RX5 yX5_allow wsX5_allow) := goodIn_app (goodIn_of _ (by decide +kernel)) ggL_law_X5_allow
set_option maxRecDepth 20000 in
theorem ggL_law_X4_transfer : GoodIn wsL_law wsX4_transfer := goodIn_r _ [352, 15, 353, 354, 84, 85, 2, 86, 81, 82, 83, 329, 330, 331, 355, 195, 196, 14, 197, 198, 199, 200, 201, 35, 36, 202, 203, 204, 205, 206, 207, 34, 32, 187, 188, 208, 209, 210, 211, 42, 176, 212, 179, 180, 181, 182, 41, 213, 214, 215, 216, 217, 218, 219, 220, 221, 222, 223, 224, 31, 225, 97, 98, 99, 100, 18, 17, 101, 102, 103, 104, 105, 106, 107, 108, 109, 110, 111, 112, 28, 113, 114, 115, 116, 29, 33, 38, 39, 40, 344, 286, 171, 144, 145, 720, 721, 722, 723, 724, 734, 735, 736, 737, 738, 739, 740, 741, 742, 743, 744, 745, 746, 763, 764, 765, 766, 767, 768, 769, 756, 757, 758, 759, 760, 761, 762] (by decide +kernel) (by decide +kernel)
set_option maxRecDepth 20000 in
theorem gL_law_X4_transfer : GoodIn wsL_law (wsV RL 40 RX4 yX4_transfer wsX4_transfer) := goodIn_app (goodIn_of _ (by decide +kernel)) ggL_law_X4_transfer
set_option maxRecDepth 20000 in
theorem ggL_law_X5_transfer : GoodIn wsL_law wsX5_transfer := goodIn_r _ [359, 64, 153, 154, 5, 155, 150, 151, 152, 336, 337, 338, 266, 267, 268, 269, 270, 271, 272, 273, 274, 275, 276, 255, 256, 257, 258, 247, 248, 249, 250, 251, 252, 253, 254, 156, 157, 158, 159, 259, 260, 261, 262, 263, 264, 265, 160, 161, 162, 163, 164, 65, 725, 726, 727, 728, 729, 730, 731, 732, 733] (by decide +kernel) (by decide +kernel)
set_option maxRecDepth 20000 in
theorem gL_law_X5_transfer : GoodIn wsL_law (wsV RL 44 RX5 yX5_transfer wsX5_transfer) := goodIn_app (goodIn_of _ (by decide +kernel)) ggL_law_X5_transfer
set_option maxRecDepth 20000 in
theorem ggL_law_X4_street : GoodIn wsL_law wsX4_street := goodIn_r _ [363, 15, 354, 353, 328, 84, 85, 2, 86, 81, 82, 83, 329, 330, 331, 364, 205, 206, 14, 207, 34, 32, 202, 203, 187, 188, 344, 286, 365, 199, 200, 201, 35, 36, 204, 366, 209, 210, 211, 42, 176, 212, 179, 180, 181, 182, 41, 213, 214, 215, 216, 217, 218, 219, 220, 221, 222, 223, 224, 31, 225, 367, 368, 369, 370, 720, 721, 722, 723, 724, 734, 735, 736, 737, 738, 739, 740, 741, 742, 743, 744, 745, 746, 763, 764, 765, 766, 767, 768, 769, 756, 757, 758, 759, 760, 761, 762] (by decide +kernel) (by decide +kernel)
set_option maxRecDepth 20000 in
theorem gL_law_X4_street : GoodIn wsL_law (wsV RL 45 RX4 yX4_street wsX4_street) := goodIn_app (goodIn_of _ (by decide +kernel)) ggL_law_X4_street
set_option maxRecDepth 20000 in
theorem ggL_law_X5_street : GoodIn wsL_law wsX5_street := goodIn_r _ [374, 64, 153, 154, 5, 155, 150, 151, 152, 336, 337, 338, 273, 274, 275, 276, 270, 271, 272, 266, 267, 268, 269, 255, 256, 257, 258, 247, 248, 249, 250, 251, 252, 253, 254, 156, 157, 158, 159, 259, 260, 261, 262, 263, 264, 265, 375, 376, 377, 378, 725, 726, 727, 728, 729, 730, 731, 732, 733] (by decide +kernel) (by decide +kernel)
set_option maxRecDepth 20000 in
theorem gL_law_X5_street : GoodIn wsL_law (wsV RL 48 RX5 yX5_street wsX5_street) := goodIn_app (goodIn_of _ (by decide +kernel)) ggL_law_X5_street
set_option maxRecDepth 20000 in
theorem ggL_law_X4_count : GoodIn wsL_law wsX4_count := goodIn_r _ [382, 15, 73, 383, 384, 18, 22, 385, 311, 386, 387, 388, 14, 389, 39, 40, 187, 2, 188, 390, 391, 392, 393, 42, 176, 212, 179, 180, 181, 182, 41, 221, 222, 223, 224, 31, 225, 394, 395, 396, 397, 177, 398, 399, 400, 401, 402, 193, 403, 404, 405, 406, 32, 291, 292, 293, 216, 294, 218, 295, 407, 408, 409, 410, 411, 412, 220, 413, 414, 415, 76, 416, 122, 286, 720, 721, 722, 723, 724, 734, 735, 736, 737, 738, 739, 740, 741, 742, 743, 744, 745, 746, 747, 748, 749, 750, 751, 752, 753, 754, 755, 763, 764, 765, 766, 767, 768, 769, 756, 757, 758, 759, 760, 761, 762] (by decide +kernel) (by decide +kernel)
set_option maxRecDepth 20000 in
theorem gL_law_X4_count : GoodIn wsL_law (wsV RL 49 RX4 yX4_count wsX4_count) := goodIn_app (goodIn_of _ (by decide +kernel)) ggL_law_X4_count
set_option maxRecDepth 20000 in
theorem ggL_law_X5_count : GoodIn wsL_law wsX5_count := goodIn_r _ [420, 64, 164, 421, 301, 302, 303, 5, 304, 251, 252, 253, 254, 422, 423, 424, 425, 259, 260, 261, 262, 263, 264, 265, 156, 157, 158, 159, 426, 427, 428, 429, 430, 431, 432, 433, 434, 435, 436, 437, 438, 439, 440, 441, 442, 443, 725, 726, 727, 728, 729, 730, 731, 732, 733] (by decide +kernel) (by decide +kernel)
set_option maxRecDepth 20000 in
theorem gL_law_X5_count : GoodIn wsL_law (wsV RL 53 RX5 yX5_count wsX5_count) := goodIn_app (goodIn_of _ (by decide +kernel)) ggL_law_X5_count
set_option maxRecDepth 20000 in
theorem ggL_law_X4_undo : GoodIn wsL_law wsX4_undo := goodIn_r _ [447, 18, 15, 105, 106, 107, 2, 108, 17, 109, 110, 111, 14, 112, 28, 113, 114, 115, 116, 29, 31, 32, 33, 34, 35, 36, 38, 39, 40, 41, 42, 720, 721, 722, 723, 724, 734, 735, 736, 737, 738, 739, 740, 741, 742, 743, 744, 745, 746] (by decide +kernel) (by decide +kernel)
set_option maxRecDepth 20000 in
theorem gL_law_X4_undo : GoodIn wsL_law (wsV RL 54 RX4 yX4_undo wsX4_undo) := goodIn_app (goodIn_of _ (by decide +kernel)) ggL_law_X4_undo
set_option maxRecDepth 20000 in
theorem ggL_law_X5_undo : GoodIn wsL_law wsX5_undo := goodIn_r _ [451, 164, 64, 65, 725, 726, 727, 728, 729, 730, 731, 732, 733] (by decide +kernel) (by decide +kernel)
set_option maxRecDepth 20000 in
theorem gL_law_X5_undo : GoodIn wsL_law (wsV RL 58 RX5 yX5_undo wsX5_undo) := goodIn_app (goodIn_of _ (by decide +kernel)) ggL_law_X5_undo
set_option maxRecDepth 20000 in
theorem ggL_law_X4_covers : GoodIn wsL_law wsX4_covers := goodIn_r _ [455, 15, 170, 94, 95, 14, 96, 29, 28, 456, 457, 2, 458, 81, 82, 83, 78, 79, 80, 459, 414, 415, 76, 416, 122, 720, 721, 722, 723, 724, 734, 735, 736, 737, 738, 739, 740, 741, 742, 743, 744, 745, 746, 756, 757, 758, 759, 760, 761, 762] (by decide +kernel) (by decide +kernel)
set_option maxRecDepth 20000 in
theorem gL_law_X4_covers : GoodIn wsL_law (wsV RL 59 RX4 yX4_covers wsX4_covers) := goodIn_app (goodIn_of _ (by decide +kernel)) ggL_law_X4_covers
set_option maxRecDepth 20000 in
theorem ggL_law_X5_covers : GoodIn wsL_law wsX5_covers := goodIn_r _ [463, 235, 236, 237, 5, 238, 64, 150, 151, 152, 464, 465, 466, 437, 438, 439, 440, 156, 157, 158, 159, 441, 442, 443, 725, 726, 727, 728, 729, 730, 731, 732, 733] (by decide +kernel) (by decide +kernel)
set_option maxRecDepth 20000 in
theorem gL_law_X5_covers : GoodIn wsL_law (wsV RL 62 RX5 yX5_covers wsX5_covers) := goodIn_app (goodIn_of _ (by decide +kernel)) ggL_law_X5_covers
set_option maxRecDepth 20000 in
theorem ggL_law_X4_area : GoodIn wsL_law wsX4_area := goodIn_r _ [470, 15, 170, 94, 95, 14, 96, 29, 28, 456, 457, 2, 458, 81, 82, 83, 459, 414, 415, 76, 416, 122, 471, 472, 473, 474, 475, 476, 477, 720, 721, 722, 723, 724, 734, 735, 736, 737, 738, 739, 740, 741, 742, 743, 744, 745, 746, 756, 757, 758, 759, 760, 761, 762] (by decide +kernel) (by decide +kernel)
set_option maxRecDepth 20000 in
theorem gL_law_X4_area : GoodIn wsL_law (wsV RL 63 RX4 yX4_area wsX4_area) := goodIn_app (goodIn_of _ (by decide +kernel)) ggL_law_X4_area
set_option maxRecDepth 20000 in
theorem ggL_law_X5_area : GoodIn wsL_law wsX5_area := goodIn_r _ [481, 235, 236, 237, 5, 238, 64, 150, 151, 152, 464, 465, 466, 437, 438, 439, 440, 156, 157, 158, 159, 441, 442, 443, 725, 726, 727, 728, 729, 730, 731, 732, 733] (by decide +kernel) (by decide +kernel)
set_option maxRecDepth 20000 in
theorem gL_law_X5_area : GoodIn wsL_law (wsV RL 66 RX5 yX5_area wsX5_area) := goodIn_app (goodIn_of _ (by decide +kernel)) ggL_law_X5_area
set_option maxRecDepth 20000 in
theorem ggL_law_X4_refusal : GoodIn wsL_law wsX4_refusal := goodIn_r _ [485, 15, 170, 94, 95, 14, 96, 29, 28, 486, 487, 2, 488, 329, 330, 331, 81, 82, 83, 456, 457, 458, 489, 490, 491, 492, 178, 493, 494, 495, 496, 42, 179, 180, 181, 182, 41, 291, 292, 293, 216, 294, 218, 295, 407, 408, 409, 410, 411, 412, 220, 183, 184, 185, 186, 33, 187, 188, 189, 190, 191, 192, 32, 193, 497, 498, 499, 500, 230, 399, 400, 401, 402, 176, 403, 404, 405, 406, 398, 413, 414, 415, 76, 416, 122, 208, 209, 210, 211, 212, 213, 214, 215, 217, 219, 221, 222, 223, 224, 31, 225, 198, 199, 200, 201, 35, 36, 202, 203, 204, 205, 206, 207, 34, 720, 721, 722, 723, 724, 734, 735, 736, 737, 738, 739, 740, 741, 742, 743, 744, 745, 746, 756, 757, 758, 759, 760, 761, 762, 763, 764, 765, 766, 767, 768, 769] (by decide +kernel) (by decide +kernel)
set_option maxRecDepth 20000 in
theorem gL_law_X4_refusal : GoodIn wsL_law (wsV RL 67 RX4 yX4_refusal wsX4_refusal) := goodIn_app (goodIn_of _ (by decide +kernel)) ggL_law_X4_refusal
set_option maxRecDepth 20000 in
theorem ggL_law_X5_refusal : GoodIn wsL_law wsX5_refusal := goodIn_r _ [504, 505, 506, 507, 5, 508, 235, 236, 237, 238, 64, 150, 151, 152, 336, 337, 338, 509, 510, 511, 464, 465, 466, 512, 513, 514, 515, 251, 252, 253, 254, 430, 431, 432, 320, 321, 322, 323, 156, 157, 158, 159, 516, 517, 518, 519, 426, 427, 428, 429, 433, 434, 435, 436, 437, 438, 439, 440, 441, 442, 443, 255, 256, 257, 258, 247, 248, 249, 250, 259, 260, 261, 262, 263, 264, 265, 266, 267, 268, 269, 270, 271, 272, 273, 274, 275, 276, 725, 726, 727, 728, 729, 730, 731, 732, 733] (by decide +kernel) (by decide +kernel)
set_option maxRecDepth 20000 in
theorem gL_law_X5_refusal : GoodIn wsL_law (wsV RL 70 RX5 yX5_refusal wsX5_refusal) := goodIn_app (goodIn_of _ (by decide +kernel)) ggL_law_X5_refusal
set_option maxRecDepth 20000 in
theorem ggL_law_X4_apply : GoodIn wsL_law wsX4_apply := goodIn_r _ [523, 15, 524, 525, 216, 384, 526, 170, 94, 95, 14, 96, 29, 28, 486, 487, 2, 488, 329, 330, 331, 81, 82, 83, 456, 457, 458, 489, 490, 491, 492, 178, 493, 494, 495, 496, 42, 179, 180, 181, 182, 41, 291, 292, 293, 294, 218, 295, 407, 408, 409, 410, 411, 412, 220, 183, 184, 185, 186, 33, 187, 188, 189, 190, 191, 192, 32, 193, 497, 498, 499, 500, 230, 399, 400, 401, 402, 176, 403, 404, 405, 406, 398, 413, 414, 415, 76, 416, 122, 208, 209, 210, 211, 212, 213, 214, 215, 217, 219, 221, 222, 223, 224, 31, 225, 198, 199, 200, 201, 35, 36, 202, 203, 204, 205, 206, 207, 34, 527, 528, 529, 530, 39, 97, 98, 99, 100, 18, 17, 101, 102, 103, 104, 105, 106, 107, 108, 109, 110, 111, 112, 113, 114, 115, 116, 38, 40, 531, 532, 533, 534, 10, 11, 535, 536, 537, 538, 539, 540, 541, 144, 145, 720, 721, 722, 723, 724, 763, 764, 765, 766, 767, 768, 769, 734, 735, 736, 737, 738, 739, 740, 741, 742, 743, 744, 745, 746, 756, 757, 758, 759, 760, 761, 762] (by decide +kernel) (by decide +kernel)
set_option maxRecDepth 20000 in
theorem gL_law_X4_apply : GoodIn wsL_law (wsV RL 71 RX4 yX4_apply wsX4_apply) := goodIn_app (goodIn_of _ (by decide +kernel)) ggL_law_X4_apply
set_option maxRecDepth 20000 in
theorem ggL_law_X5_apply : GoodIn wsL_law wsX5_apply := goodIn_r _ [545, 505, 506, 507, 5, 508, 235, 236, 237, 238, 64, 150, 151, 152, 336, 337, 338, 509, 510, 511, 464, 465, 466, 512, 513, 514, 515, 251, 252, 253, 254, 430, 431, 432, 320, 321, 322, 323, 156, 157, 158, 159, 516, 517, 518, 519, 426, 427, 428, 429, 433, 434, 435, 436, 437, 438, 439, 440, 441, 442, 443, 255, 256, 257, 258, 247, 248, 249, 250, 259, 260, 261, 262, 263, 264, 265, 266, 267, 268, 269, 270, 271, 272, 273, 274, 275, 276, 546, 547, 548, 549, 301, 302, 303, 304, 160, 161, 162, 163, 164, 65, 550, 551, 552, 553, 725, 726, 727, 728, 729, 730, 731, 732, 733] (by decide +kernel) (by decide +kernel)
set_option maxRecDepth 20000 in
theorem gL_law_X5_apply : GoodIn wsL_law (wsV RL 74 RX5 yX5_apply wsX5_apply) := goodIn_app (goodIn_of _ (by decide +kernel)) ggL_law_X5_apply
set_option maxRecDepth 20000 in
theorem ggL_law_X4_withdraw : GoodIn wsL_law wsX4_withdraw := goodIn_r _ [557, 15, 558, 526, 559, 560, 561, 562, 563, 14, 564, 39, 38, 286, 187, 2, 188, 97, 98, 99, 100, 18, 17, 101, 102, 103, 104, 105, 106, 107, 108, 109, 110, 111, 112, 28, 113, 114, 115, 116, 29, 31, 32, 33, 34, 35, 36, 40, 41, 42, 565, 227, 228, 229, 230, 144, 145, 179, 180, 181, 182, 566, 222, 223, 224, 225, 720, 721, 722, 723, 724, 734, 735, 736, 737, 738, 739, 740, 741, 742, 743, 744, 745, 746, 763, 764, 765, 766, 767, 768, 769, 756, 757, 758, 759, 760, 761, 762] (by decide +kernel) (by decide +kernel)
set_option maxRecDepth 20000 in
theorem gL_law_X4_withdraw : GoodIn wsL_law (wsV RL 75 RX4 yX4_withdraw wsX4_withdraw) := goodIn_app (goodIn_of _ (by decide +kernel)) ggL_law_X4_withdraw
set_option maxRecDepth 20000 in
theorem ggL_law_X5_withdraw : GoodIn wsL_law wsX5_withdraw := goodIn_r _ [570, 64, 571, 572, 573, 5, 574, 150, 151, 152, 251, 252, 253, 254, 160, 161, 162, 163, 164, 65, 259, 260, 261, 262, 263, 264, 265, 156, 157, 158, 159, 725, 726, 727, 728, 729, 730, 731, 732, 733] (by decide +kernel) (by decide +kernel)
set_option maxRecDepth 20000 in
theorem gL_law_X5_withdraw : GoodIn wsL_law (wsV RL 78 RX5 yX5_withdraw wsX5_withdraw) := goodIn_app (goodIn_of _ (by decide +kernel)) ggL_law_X5_withdraw
set_option maxRecDepth 20000 in
theorem ggL_law_X4_permit : GoodIn wsL_law wsX4_permit := goodIn_r _ [578, 15, 559, 77, 579, 560, 580, 558, 526, 561, 562, 563, 14, 564, 39, 38, 566, 222, 223, 224, 31, 225, 187, 2, 188, 286, 720, 721, 722, 723, 724, 763, 764, 765, 766, 767, 768, 769, 756, 757, 758, 759, 760, 761, 762, 734, 735, 736, 737, 738, 739, 740, 741, 742, 743, 744, 745, 746] (by decide +kernel) (by decide +kernel)
set_option maxRecDepth 20000 in
theorem gL_law_X4_permit : GoodIn wsL_law (wsV RL 79 RX4 yX4_permit wsX4_permit) := goodIn_app (goodIn_of _ (by decide +kernel)) ggL_law_X4_permit
set_option maxRecDepth 20000 in
theorem ggL_law_X5_permit : GoodIn wsL_law wsX5_permit := goodIn_r _ [584, 571, 572, 573, 5, 574, 64, 150, 151, 152, 251, 252, 253, 254, 259, 260, 261, 262, 263, 264, 265, 156, 157, 158, 159, 725, 726, 727, 728, 729, 730, 731, 732, 733] (by decide +kernel) (by decide +kernel)
set_option maxRecDepth 20000 in
theorem gL_law_X5_permit : GoodIn wsL_law (wsV RL 82 RX5 yX5_permit wsX5_permit) := goodIn_app (goodIn_of _ (by decide +kernel)) ggL_law_X5_permit
set_option maxRecDepth 20000 in
theorem ggL_law_X4_inOrder : GoodIn wsL_law wsX4_inOrder := goodIn_r _ [588, 15, 383, 526, 589, 180, 181, 14, 182, 42, 41, 590, 591, 592, 593, 179, 594, 595, 596, 216, 597, 220, 412, 535, 720, 721, 722, 723, 724, 734, 735, 736, 737, 738, 739, 740, 741, 742, 743, 744, 745, 746, 763, 764, 765, 766, 767, 768, 769] (by decide +kernel) (by decide +kernel)
set_option maxRecDepth 20000 in
theorem gL_law_X4_inOrder : GoodIn wsL_law (wsV RL 83 RX4 yX4_inOrder wsX4_inOrder) := goodIn_app (goodIn_of _ (by decide +kernel)) ggL_law_X4_inOrder
set_option maxRecDepth 20000 in
theorem ggL_law_X5_inOrder : GoodIn wsL_law wsX5_inOrder := goodIn_r _ [601, 64, 251, 252, 253, 5, 254, 602, 603, 604, 605, 725, 726, 727, 728, 729, 730, 731, 732, 733] (by decide +kernel) (by decide +kernel)
set_option maxRecDepth 20000 in
theorem gL_law_X5_inOrder : GoodIn wsL_law (wsV RL 86 RX5 yX5_inOrder wsX5_inOrder) := goodIn_app (goodIn_of _ (by decide +kernel)) ggL_law_X5_inOrder
set_option maxRecDepth 20000 in
theorem ggL_law_X4_shares : GoodIn wsL_law wsX4_shares := goodIn_r _ [609, 15, 559, 579, 560, 580, 561, 562, 563, 14, 564, 39, 38, 610, 400, 401, 402, 193, 176, 403, 404, 405, 406, 32, 398, 291, 292, 293, 216, 294, 218, 295, 407, 408, 409, 410, 411, 412, 220, 187, 2, 188, 413, 414, 415, 76, 416, 122, 720, 721, 722, 723, 724, 763, 764, 765, 766, 767, 768, 769, 734, 735, 736, 737, 738, 739, 740, 741, 742, 743, 744, 745, 746, 756, 757, 758, 759, 760, 761, 762] (by decide +kernel) (by decide +kernel)
set_option maxRecDepth 20000 in
theorem gL_law_X4_shares : GoodIn wsL_law (wsV RL 87 RX4 yX4_shares wsX4_shares) := goodIn_app (goodIn_of _ (by decide +kernel)) ggL_law_X4_shares
set_option maxRecDepth 20000 in
theorem ggL_law_X5_shares : GoodIn wsL_law wsX5_shares := goodIn_r _ [614, 571, 572, 573, 5, 574, 64, 150, 151, 152, 251, 252, 253, 254, 426, 427, 428, 429, 156, 157, 158, 159, 430, 431, 432, 433, 434, 435, 436, 437, 438, 439, 440, 441, 442, 443, 725, 726, 727, 728, 729, 730, 731, 732, 733] (by decide +kernel) (by decide +kernel)
set_option maxRecDepth 20000 in
theorem gL_law_X5_shares : GoodIn wsL_law (wsV RL 90 RX5 yX5_shares wsX5_shares) := goodIn_app (goodIn_of _ (by decide +kernel)) ggL_law_X5_shares
set_option maxRecDepth 20000 in
theorem ggL_law_X4_inTheWay : GoodIn wsL_law wsX4_inTheWay := goodIn_r _ [618, 15, 170, 94, 95, 14, 96, 29, 28, 486, 487, 2, 488, 329, 330, 331, 81, 82, 83, 456, 457, 458, 619, 498, 499, 500, 42, 230, 179, 180, 181, 182, 41, 399, 400, 401, 402, 193, 176, 403, 404, 405, 406, 32, 398, 291, 292, 293, 216, 294, 218, 295, 407, 408, 409, 410, 411, 412, 220, 187, 188, 413, 414, 415, 76, 416, 122, 720, 721, 722, 723, 724, 734, 735, 736, 737, 738, 739, 740, 741, 742, 743, 744, 745, 746, 763, 764, 765, 766, 767, 768, 769, 756, 757, 758, 759, 760, 761, 762] (by decide +kernel) (by decide +kernel)
set_option maxRecDepth 20000 in
theorem gL_law_X4_inTheWay : GoodIn wsL_law (wsV RL 91 RX4 yX4_inTheWay wsX4_inTheWay) := goodIn_app (goodIn_of _ (by decide +kernel)) ggL_law_X4_inTheWay
set_option maxRecDepth 20000 in
theorem ggL_law_X5_inTheWay : GoodIn wsL_law wsX5_inTheWay := goodIn_r _ [623, 505, 506, 507, 5, 508, 235, 236, 237, 238, 64, 150, 151, 152, 336, 337, 338, 509, 510, 511, 464, 465, 466, 516, 517, 518, 519, 251, 252, 253, 254, 426, 427, 428, 429, 156, 157, 158, 159, 430, 431, 432, 433, 434, 435, 436, 437, 438, 439, 440, 441, 442, 443, 725, 726, 727, 728, 729, 730, 731, 732, 733] (by decide +kernel) (by decide +kernel)
set_option maxRecDepth 20000 in
theorem gL_law_X5_inTheWay : GoodIn wsL_law (wsV RL 94 RX5 yX5_inTheWay wsX5_inTheWay) := goodIn_app (goodIn_of _ (by decide +kernel)) ggL_law_X5_inTheWay
set_option maxRecDepth 20000 in
theorem ggL_law_X4_firstFree : GoodIn wsL_law wsX4_firstFree := goodIn_r _ [627, 15, 170, 94, 95, 14, 96, 29, 28, 456, 457, 2, 458, 81, 82, 83, 329, 330, 331, 489, 490, 491, 492, 178, 493, 494, 495, 496, 42, 179, 180, 181, 182, 41, 291, 292, 293, 216, 294, 218, 295, 407, 408, 409, 410, 411, 412, 220, 183, 184, 185, 186, 33, 187, 188, 189, 190, 191, 192, 32, 193, 497, 498, 499, 500, 230, 399, 400, 401, 402, 176, 403, 404, 405, 406, 398, 413, 414, 415, 76, 416, 122, 208, 209, 210, 211, 212, 213, 214, 215, 217, 219, 221, 222, 223, 224, 31, 225, 198, 199, 200, 201, 35, 36, 202, 203, 204, 205, 206, 207, 34, 720, 721, 722, 723, 724, 734, 735, 736, 737, 738, 739, 740, 741, 742, 743, 744, 745, 746, 756, 757, 758, 759, 760, 761, 762, 763, 764, 765, 766, 767, 768, 769] (by decide +kernel) (by decide +kernel)
set_option maxRecDepth 20000 in
theorem gL_law_X4_firstFree : GoodIn wsL_law (wsV RL 95 RX4 yX4_firstFree wsX4_firstFree) := goodIn_app (goodIn_of _ (by decide +kernel)) ggL_law_X4_firstFree
set_option maxRecDepth 20000 in
theorem ggL_law_X5_firstFree : GoodIn wsL_law wsX5_firstFree := goodIn_r _ [631, 235, 236, 237, 5, 238, 64, 150, 151, 152, 464, 465, 466, 336, 337, 338, 512, 513, 514, 515, 251, 252, 253, 254, 430, 431, 432, 320, 321, 322, 323, 156, 157, 158, 159, 516, 517, 518, 519, 426, 427, 428, 429, 433, 434, 435, 436, 437, 438, 439, 440, 441, 442, 443, 255, 256, 257, 258, 247, 248, 249, 250, 259, 260, 261, 262, 263, 264, 265, 266, 267, 268, 269, 270, 271, 272, 273, 274, 275, 276, 725, 726, 727, 728, 729, 730, 731, 732, 733] (by decide +kernel) (by decide +kernel)
set_option maxRecDepth 20000 in
theorem gL_law_X5_firstFree : GoodIn wsL_law (wsV RL 98 RX5 yX5_firstFree wsX5_firstFree) := goodIn_app (goodIn_of _ (by decide +kernel)) ggL_law_X5_firstFree
set_option maxRecDepth 20000 in
theorem ggL_law_X4_type : GoodIn wsL_law wsX4_type := goodIn_r _ [635, 22, 385, 81, 82, 2, 83, 636, 637, 638, 21, 639, 52, 51, 720, 721, 722, 723, 724, 747, 748, 749, 750, 751, 752, 753, 754, 755] (by decide +kernel) (by decide +kernel)
set_option maxRecDepth 20000 in
theorem gL_law_X4_type : GoodIn wsL_law (wsV RL 99 RX4 yX4_type wsX4_type) := goodIn_app (goodIn_of _ (by decide +kernel)) ggL_law_X4_type
set_option maxRecDepth 20000 in
theorem ggL_law_X5_type : GoodIn wsL_law wsX5_type := goodIn_r _ [643, 421, 67, 150, 151, 5, 152, 725, 726, 727, 728, 729, 730, 731, 732, 733] (by decide +kernel) (by decide +kernel)
set_option maxRecDepth 20000 in
theorem gL_law_X5_type : GoodIn wsL_law (wsV RL 102 RX5 yX5_type wsX5_type) := goodIn_app (goodIn_of _ (by decide +kernel)) ggL_law_X5_type
set_option maxRecDepth 20000 in
theorem ggL_law_X4_clearText : GoodIn wsL_law wsX4_clearText := goodIn_r _ [647, 22, 385, 720, 721, 722, 723, 724, 747, 748, 749, 750, 751, 752, 753, 754, 755] (by decide +kernel) (by decide +kernel)
set_option maxRecDepth 20000 in
theorem gL_law_X4_clearText : GoodIn wsL_law (wsV RL 103 RX4 yX4_clearText wsX4_clearText) := goodIn_app (goodIn_of _ (by decide +kernel)) ggL_law_X4_clearText
set_option maxRecDepth 20000 in
theorem ggL_law_X5_clearText : GoodIn wsL_law wsX5_clearText := goodIn_r _ [651, 421, 725, 726, 727, 728, 729, 730, 731, 732, 733] (by decide +kernel) (by decide +kernel)
set_option maxRecDepth 20000 in
theorem gL_law_X5_clearText : GoodIn wsL_law (wsV RL 106 RX5 yX5_clearText wsX5_clearText) := goodIn_app (goodIn_of _ (by decide +kernel)) ggL_law_X5_clearText
set_option maxRecDepth 20000 in
theorem ggL_law_X4_fault : GoodIn wsL_law wsX4_fault := goodIn_r _ [655, 16, 15, 22, 656, 81, 82, 2, 83, 109, 110, 111, 14, 112, 28, 113, 114, 115, 116, 29, 31, 32, 33, 34, 35, 36, 38, 39, 40, 41, 42, 657, 658, 659, 660, 661, 385, 662, 663, 664, 665, 666, 667, 668, 669, 524, 525, 216, 384, 670, 671, 672, 21, 673, 54, 53, 55, 56, 57, 58, 59, 674, 675, 676, 677, 678, 679, 680, 681, 52, 51, 682, 683, 684, 685, 170, 94, 95, 96, 486, 487, 488, 329, 330, 331, 456, 457, 458, 489, 490, 491, 492, 178, 493, 494, 495, 496, 179, 180, 181, 182, 291, 292, 293, 294, 218, 295, 407, 408, 409, 410, 411, 412, 220, 183, 184, 185, 186, 187, 188, 189, 190, 191, 192, 193, 497, 498, 499, 500, 230, 399, 400, 401, 402, 176, 403, 404, 405, 406, 398, 413, 414, 415, 76, 416, 122, 208, 209, 210, 211, 212, 213, 214, 215, 217, 219, 221, 222, 223, 224, 225, 198, 199, 200, 201, 202, 203, 204, 205, 206, 207, 527, 528, 529, 530, 531, 532, 533, 534, 10, 11, 535, 536, 537, 538, 539, 540, 541, 144, 145, 720, 721, 722, 723, 724, 747, 748, 749, 750, 751, 752, 753, 754, 755, 734, 735, 736, 737, 738, 739, 740, 741, 742, 743, 744, 745, 746, 763, 764, 765, 766, 767, 768, 769, 756, 757, 758, 759, 760, 761, 762] (by decide +kernel) (by decide +kernel)
set_option maxRecDepth 20000 in
theorem gL_law_X4_fault : GoodIn wsL_law (wsV RL 107 RX4 yX4_fault wsX4_fault) := goodIn_app (goodIn_of _ (by decide +kernel)) ggL_law_X4_fault
set_option maxRecDepth 20000 in
theorem ggL_law_X5_fault : GoodIn wsL_law wsX5_fault := goodIn_r _ [689, 690, 150, 151, 5, 152, 691, 692, 693, 694, 66, 64, 695, 421, 696, 697, 698, 699, 68, 700, 701, 702, 703, 704, 705, 706, 707, 67, 708, 709, 710, 711, 505, 506, 507, 508, 235, 236, 237, 238, 336, 337, 338, 509, 510, 511, 464, 465, 466, 512, 513, 514, 515, 251, 252, 253, 254, 430, 431, 432, 320, 321, 322, 323, 156, 157, 158, 159, 516, 517, 518, 519, 426, 427, 428, 429, 433, 434, 435, 436, 437, 438, 439, 440, 441, 442, 443, 255, 256, 257, 258, 247, 248, 249, 250, 259, 260, 261, 262, 263, 264, 265, 266, 267, 268, 269, 270, 271, 272, 273, 274, 275, 276, 546, 547, 548, 549, 301, 302, 303, 304, 550, 551, 552, 553, 725, 726, 727, 728, 729, 730, 731, 732, 733] (by decide +kernel) (by decide +kernel)
set_option maxRecDepth 20000 in
theorem gL_law_X5_fault : GoodIn wsL_law (wsV RL 110 RX5 yX5_fault wsX5_fault) := goodIn_app (goodIn_of _ (by decide +kernel)) ggL_law_X5_fault
set_option maxRecDepth 20000 in
theorem ggL_law_X4_enter : GoodIn wsL_law wsX4_enter := goodIn_r _ [715, 16, 15, 384, 109, 110, 111, 14, 112, 28, 113, 114, 115, 116, 29, 31, 32, 33, 34, 35, 36, 38, 39, 40, 41, 42, 657, 658, 659, 2, 660, 22, 661, 385, 662, 663, 664, 665, 666, 667, 668, 669, 524, 525, 216, 670, 671, 672, 21, 673, 54, 53, 55, 56, 57, 58, 59, 674, 675, 676, 677, 678, 679, 680, 681, 52, 51, 82, 83, 682, 683, 684, 685, 170, 94, 95, 96, 486, 487, 488, 329, 330, 331, 81, 456, 457, 458, 489, 490, 491, 492, 178, 493, 494, 495, 496, 179, 180, 181, 182, 291, 292, 293, 294, 218, 295, 407, 408, 409, 410, 411, 412, 220, 183, 184, 185, 186, 187, 188, 189, 190, 191, 192, 193, 497, 498, 499, 500, 230, 399, 400, 401, 402, 176, 403, 404, 405, 406, 398, 413, 414, 415, 76, 416, 122, 208, 209, 210, 211, 212, 213, 214, 215, 217, 219, 221, 222, 223, 224, 225, 198, 199, 200, 201, 202, 203, 204, 205, 206, 207, 527, 528, 529, 530, 531, 532, 533, 534, 10, 11, 535, 536, 537, 538, 539, 540, 541, 144, 145, 97, 98, 99, 100, 18, 17, 101, 102, 103, 104, 105, 106, 107, 108, 720, 721, 722, 723, 724, 734, 735, 736, 737, 738, 739, 740, 741, 742, 743, 744, 745, 746, 747, 748, 749, 750, 751, 752, 753, 754, 755, 763, 764, 765, 766, 767, 768, 769, 756, 757, 758, 759, 760, 761, 762] (by decide +kernel) (by decide +kernel)
set_option maxRecDepth 20000 in
theorem gL_law_X4_enter : GoodIn wsL_law (wsV RL 111 RX4 yX4_enter wsX4_enter) := goodIn_app (goodIn_of _ (by decide +kernel)) ggL_law_X4_enter
set_option maxRecDepth 20000 in
theorem ggL_law_X5_enter : GoodIn wsL_law wsX5_enter := goodIn_r _ [719, 695, 421, 691, 692, 693, 5, 694, 66, 64, 690, 696, 697, 698, 699, 68, 700, 701, 702, 703, 704, 705, 706, 707, 67, 150, 151, 152, 708, 709, 710, 711, 505, 506, 507, 508, 235, 236, 237, 238, 336, 337, 338, 509, 510, 511, 464, 465, 466, 512, 513, 514, 515, 251, 252, 253, 254, 430, 431, 432, 320, 321, 322, 323, 156, 157, 158, 159, 516, 517, 518, 519, 426, 427, 428, 429, 433, 434, 435, 436, 437, 438, 439, 440, 441, 442, 443, 255, 256, 257, 258, 247, 248, 249, 250, 259, 260, 261, 262, 263, 264, 265, 266, 267, 268, 269, 270, 271, 272, 273, 274, 275, 276, 546, 547, 548, 549, 301, 302, 303, 304, 550, 551, 552, 553, 160, 161, 162, 163, 164, 65, 725, 726, 727, 728, 729, 730, 731, 732, 733] (by decide +kernel) (by decide +kernel)
set_option maxRecDepth 20000 in
theorem gL_law_X5_enter : GoodIn wsL_law (wsV RL 114 RX5 yX5_enter wsX5_enter) := goodIn_app (goodIn_of _ (by decide +kernel)) ggL_law_X5_enter
theorem dL_law_0 : decode cL_law 0 = .ok (.new 7, 3) := by decide +kernel
theorem dL_law_3 : decode cL_law 3 = .ok (.dup, 1) := by decide +kernel
theorem dL_law_4 : decode cL_law 4 = .ok (.invokespecial 9, 3) := by decide +kernel
theorem dL_law_7 : decode cL_law 7 = .ok (.astore_n 1, 1) := by decide +kernel
theorem dL_law_8 : decode cL_law 8 = .ok (.new 10, 3) := by decide +kernel
theorem dL_law_11 : decode cL_law 11 = .ok (.dup, 1) := by decide +kernel
theorem dL_law_12 : decode cL_law 12 = .ok (.invokespecial 12, 3) := by decide +kernel
theorem dL_law_15 : decode cL_law 15 = .ok (.astore_n 2, 1) := by decide +kernel
theorem dL_law_16 : decode cL_law 16 = .ok (.iconst 0, 1) := by decide +kernel
theorem dL_law_17 : decode cL_law 17 = .ok (.istore_n 3, 1) := by decide +kernel
theorem dL_law_18 : decode cL_law 18 = .ok (.iload_n 3, 1) := by decide +kernel
theorem dL_law_19 : decode cL_law 19 = .ok (.aload_n 0, 1) := by decide +kernel
theorem dL_law_20 : decode cL_law 20 = .ok (.arraylength, 1) := by decide +kernel
theorem dL_law_21 : decode cL_law 21 = .ok (.bipush 7, 2) := by decide +kernel
theorem dL_law_23 : decode cL_law 23 = .ok (.isub, 1) := by decide +kernel
theorem dL_law_24 : decode cL_law 24 = .ok (.if_icmp .gt 990, 3) := by decide +kernel
theorem dL_law_27 : decode cL_law 27 = .ok (.aload_n 0, 1) := by decide +kernel
theorem dL_law_28 : decode cL_law 28 = .ok (.iload_n 3, 1) := by decide +kernel
theorem dL_law_29 : decode cL_law 29 = .ok (.iaload, 1) := by decide +kernel
theorem dL_law_30 : decode cL_law 30 = .ok (.bipush 31, 2) := by decide +kernel
theorem dL_law_32 : decode cL_law 32 = .ok (.iand, 1) := by decide +kernel
theorem dL_law_33 : decode cL_law 33 = .ok (.tableswitch 975 0 23 #[111, 186, 219, 252, 285, 318, 361, 414, 457, 480, 493, 546, 579, 632, 685, 708, 741, 764, 797, 850, 903, 926, 939, 962], 111) := by decide +kernel
theorem dL_law_144 : decode cL_law 144 = .ok (.aload_n 1, 1) := by decide +kernel
theorem dL_law_145 : decode cL_law 145 = .ok (.aload_n 0, 1) := by decide +kernel
theorem dL_law_146 : decode cL_law 146 = .ok (.iload_n 3, 1) := by decide +kernel
theorem dL_law_147 : decode cL_law 147 = .ok (.iconst 1, 1) := by decide +kernel
theorem dL_law_148 : decode cL_law 148 = .ok (.iadd, 1) := by decide +kernel
theorem dL_law_149 : decode cL_law 149 = .ok (.iaload, 1) := by decide +kernel
theorem dL_law_150 : decode cL_law 150 = .ok (.aload_n 0, 1) := by decide +kernel
theorem dL_law_151 : decode cL_law 151 = .ok (.iload_n 3, 1) := by decide +kernel
theorem dL_law_152 : decode cL_law 152 = .ok (.iconst 2, 1) := by decide +kernel
theorem dL_law_153 : decode cL_law 153 = .ok (.iadd, 1) := by decide +kernel
theorem dL_law_154 : decode cL_law 154 = .ok (.iaload, 1) := by decide +kernel
theorem dL_law_155 : decode cL_law 155 = .ok (.aload_n 0, 1) := by decide +kernel
theorem dL_law_156 : decode cL_law 156 = .ok (.iload_n 3, 1) := by decide +kernel
theorem dL_law_157 : decode cL_law 157 = .ok (.iconst 3, 1) := by decide +kernel
theorem dL_law_158 : decode cL_law 158 = .ok (.iadd, 1) := by decide +kernel
theorem dL_law_159 : decode cL_law 159 = .ok (.iaload, 1) := by decide +kernel
theorem dL_law_160 : decode cL_law 160 = .ok (.aload_n 0, 1) := by decide +kernel
theorem dL_law_161 : decode cL_law 161 = .ok (.iload_n 3, 1) := by decide +kernel
theorem dL_law_162 : decode cL_law 162 = .ok (.iconst 4, 1) := by decide +kernel
theorem dL_law_163 : decode cL_law 163 = .ok (.iadd, 1) := by decide +kernel
theorem dL_law_164 : decode cL_law 164 = .ok (.iaload, 1) := by decide +kernel
theorem dL_law_165 : decode cL_law 165 = .ok (.aload_n 0, 1) := by decide +kernel
theorem dL_law_166 : decode cL_law 166 = .ok (.iload_n 3, 1) := by decide +kernel
theorem dL_law_167 : decode cL_law 167 = .ok (.iconst 5, 1) := by decide +kernel
theorem dL_law_168 : decode cL_law 168 = .ok (.iadd, 1) := by decide +kernel
theorem dL_law_169 : decode cL_law 169 = .ok (.iaload, 1) := by decide +kernel
theorem dL_law_170 : decode cL_law 170 = .ok (.aload_n 0, 1) := by decide +kernel
theorem dL_law_171 : decode cL_law 171 = .ok (.iload_n 3, 1) := by decide +kernel
theorem dL_law_172 : decode cL_law 172 = .ok (.bipush 6, 2) := by decide +kernel
theorem dL_law_174 : decode cL_law 174 = .ok (.iadd, 1) := by decide +kernel
theorem dL_law_175 : decode cL_law 175 = .ok (.iaload, 1) := by decide +kernel
theorem dL_law_176 : decode cL_law 176 = .ok (.invokevirtual 13, 3) := by decide +kernel
theorem dL_law_179 : decode cL_law 179 = .ok (.aload_n 2, 1) := by decide +kernel
theorem dL_law_180 : decode cL_law 180 = .ok (.aload_n 0, 1) := by decide +kernel
theorem dL_law_181 : decode cL_law 181 = .ok (.iload_n 3, 1) := by decide +kernel
theorem dL_law_182 : decode cL_law 182 = .ok (.iconst 1, 1) := by decide +kernel
theorem dL_law_183 : decode cL_law 183 = .ok (.iadd, 1) := by decide +kernel
theorem dL_law_184 : decode cL_law 184 = .ok (.iaload, 1) := by decide +kernel
theorem dL_law_185 : decode cL_law 185 = .ok (.aload_n 0, 1) := by decide +kernel
theorem dL_law_186 : decode cL_law 186 = .ok (.iload_n 3, 1) := by decide +kernel
theorem dL_law_187 : decode cL_law 187 = .ok (.iconst 2, 1) := by decide +kernel
theorem dL_law_188 : decode cL_law 188 = .ok (.iadd, 1) := by decide +kernel
theorem dL_law_189 : decode cL_law 189 = .ok (.iaload, 1) := by decide +kernel
theorem dL_law_190 : decode cL_law 190 = .ok (.aload_n 0, 1) := by decide +kernel
theorem dL_law_191 : decode cL_law 191 = .ok (.iload_n 3, 1) := by decide +kernel
theorem dL_law_192 : decode cL_law 192 = .ok (.iconst 3, 1) := by decide +kernel
theorem dL_law_193 : decode cL_law 193 = .ok (.iadd, 1) := by decide +kernel
theorem dL_law_194 : decode cL_law 194 = .ok (.iaload, 1) := by decide +kernel
theorem dL_law_195 : decode cL_law 195 = .ok (.aload_n 0, 1) := by decide +kernel
theorem dL_law_196 : decode cL_law 196 = .ok (.iload_n 3, 1) := by decide +kernel
theorem dL_law_197 : decode cL_law 197 = .ok (.iconst 4, 1) := by decide +kernel
theorem dL_law_198 : decode cL_law 198 = .ok (.iadd, 1) := by decide +kernel
theorem dL_law_199 : decode cL_law 199 = .ok (.iaload, 1) := by decide +kernel
theorem dL_law_200 : decode cL_law 200 = .ok (.aload_n 0, 1) := by decide +kernel
theorem dL_law_201 : decode cL_law 201 = .ok (.iload_n 3, 1) := by decide +kernel
theorem dL_law_202 : decode cL_law 202 = .ok (.iconst 5, 1) := by decide +kernel
theorem dL_law_203 : decode cL_law 203 = .ok (.iadd, 1) := by decide +kernel
theorem dL_law_204 : decode cL_law 204 = .ok (.iaload, 1) := by decide +kernel
theorem dL_law_205 : decode cL_law 205 = .ok (.aload_n 0, 1) := by decide +kernel
theorem dL_law_206 : decode cL_law 206 = .ok (.iload_n 3, 1) := by decide +kernel
theorem dL_law_207 : decode cL_law 207 = .ok (.bipush 6, 2) := by decide +kernel
theorem dL_law_209 : decode cL_law 209 = .ok (.iadd, 1) := by decide +kernel
theorem dL_law_210 : decode cL_law 210 = .ok (.iaload, 1) := by decide +kernel
theorem dL_law_211 : decode cL_law 211 = .ok (.invokevirtual 17, 3) := by decide +kernel
theorem dL_law_214 : decode cL_law 214 = .ok (.if_icmp .eq 794, 3) := by decide +kernel
theorem dL_law_217 : decode cL_law 217 = .ok (.iconst 0, 1) := by decide +kernel
theorem dL_law_218 : decode cL_law 218 = .ok (.ireturn, 1) := by decide +kernel
theorem dL_law_219 : decode cL_law 219 = .ok (.aload_n 1, 1) := by decide +kernel
theorem dL_law_220 : decode cL_law 220 = .ok (.aload_n 0, 1) := by decide +kernel
theorem dL_law_221 : decode cL_law 221 = .ok (.iload_n 3, 1) := by decide +kernel
theorem dL_law_222 : decode cL_law 222 = .ok (.iconst 1, 1) := by decide +kernel
theorem dL_law_223 : decode cL_law 223 = .ok (.iadd, 1) := by decide +kernel
theorem dL_law_224 : decode cL_law 224 = .ok (.iaload, 1) := by decide +kernel
theorem dL_law_225 : decode cL_law 225 = .ok (.aload_n 0, 1) := by decide +kernel
theorem dL_law_226 : decode cL_law 226 = .ok (.iload_n 3, 1) := by decide +kernel
theorem dL_law_227 : decode cL_law 227 = .ok (.iconst 2, 1) := by decide +kernel
theorem dL_law_228 : decode cL_law 228 = .ok (.iadd, 1) := by decide +kernel
theorem dL_law_229 : decode cL_law 229 = .ok (.iaload, 1) := by decide +kernel
theorem dL_law_230 : decode cL_law 230 = .ok (.invokevirtual 18, 3) := by decide +kernel
theorem dL_law_233 : decode cL_law 233 = .ok (.aload_n 2, 1) := by decide +kernel
theorem dL_law_234 : decode cL_law 234 = .ok (.aload_n 0, 1) := by decide +kernel
theorem dL_law_235 : decode cL_law 235 = .ok (.iload_n 3, 1) := by decide +kernel
theorem dL_law_236 : decode cL_law 236 = .ok (.iconst 1, 1) := by decide +kernel
theorem dL_law_237 : decode cL_law 237 = .ok (.iadd, 1) := by decide +kernel
theorem dL_law_238 : decode cL_law 238 = .ok (.iaload, 1) := by decide +kernel
theorem dL_law_239 : decode cL_law 239 = .ok (.aload_n 0, 1) := by decide +kernel
theorem dL_law_240 : decode cL_law 240 = .ok (.iload_n 3, 1) := by decide +kernel
theorem dL_law_241 : decode cL_law 241 = .ok (.iconst 2, 1) := by decide +kernel
theorem dL_law_242 : decode cL_law 242 = .ok (.iadd, 1) := by decide +kernel
theorem dL_law_243 : decode cL_law 243 = .ok (.iaload, 1) := by decide +kernel
theorem dL_law_244 : decode cL_law 244 = .ok (.invokevirtual 22, 3) := by decide +kernel
theorem dL_law_247 : decode cL_law 247 = .ok (.if_icmp .eq 761, 3) := by decide +kernel
theorem dL_law_250 : decode cL_law 250 = .ok (.iconst 0, 1) := by decide +kernel
theorem dL_law_251 : decode cL_law 251 = .ok (.ireturn, 1) := by decide +kernel
theorem dL_law_252 : decode cL_law 252 = .ok (.aload_n 1, 1) := by decide +kernel
theorem dL_law_253 : decode cL_law 253 = .ok (.aload_n 0, 1) := by decide +kernel
theorem dL_law_254 : decode cL_law 254 = .ok (.iload_n 3, 1) := by decide +kernel
theorem dL_law_255 : decode cL_law 255 = .ok (.iconst 1, 1) := by decide +kernel
theorem dL_law_256 : decode cL_law 256 = .ok (.iadd, 1) := by decide +kernel
theorem dL_law_257 : decode cL_law 257 = .ok (.iaload, 1) := by decide +kernel
theorem dL_law_258 : decode cL_law 258 = .ok (.aload_n 0, 1) := by decide +kernel
theorem dL_law_259 : decode cL_law 259 = .ok (.iload_n 3, 1) := by decide +kernel
theorem dL_law_260 : decode cL_law 260 = .ok (.iconst 2, 1) := by decide +kernel
theorem dL_law_261 : decode cL_law 261 = .ok (.iadd, 1) := by decide +kernel
theorem dL_law_262 : decode cL_law 262 = .ok (.iaload, 1) := by decide +kernel
theorem dL_law_263 : decode cL_law 263 = .ok (.invokevirtual 23, 3) := by decide +kernel
theorem dL_law_266 : decode cL_law 266 = .ok (.aload_n 2, 1) := by decide +kernel
theorem dL_law_267 : decode cL_law 267 = .ok (.aload_n 0, 1) := by decide +kernel
theorem dL_law_268 : decode cL_law 268 = .ok (.iload_n 3, 1) := by decide +kernel
theorem dL_law_269 : decode cL_law 269 = .ok (.iconst 1, 1) := by decide +kernel
theorem dL_law_270 : decode cL_law 270 = .ok (.iadd, 1) := by decide +kernel
theorem dL_law_271 : decode cL_law 271 = .ok (.iaload, 1) := by decide +kernel
theorem dL_law_272 : decode cL_law 272 = .ok (.aload_n 0, 1) := by decide +kernel
theorem dL_law_273 : decode cL_law 273 = .ok (.iload_n 3, 1) := by decide +kernel
theorem dL_law_274 : decode cL_law 274 = .ok (.iconst 2, 1) := by decide +kernel
theorem dL_law_275 : decode cL_law 275 = .ok (.iadd, 1) := by decide +kernel
