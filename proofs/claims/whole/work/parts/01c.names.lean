theorem dX4_noise_15 : decode cX4_noise 15 = .ok (.bipush 9, 2) := by decide +kernel
theorem dX4_noise_17 : decode cX4_noise 17 = .ok (.invokestatic 38, 3) := by decide +kernel
theorem dX4_noise_20 : decode cX4_noise 20 = .ok (.ifCond .ne 7, 3) := by decide +kernel
theorem dX4_noise_23 : decode cX4_noise 23 = .ok (.sipush (-1001), 3) := by decide +kernel
theorem dX4_noise_26 : decode cX4_noise 26 = .ok (.ireturn, 1) := by decide +kernel
theorem dX4_noise_27 : decode cX4_noise 27 = .ok (.aload_n 0, 1) := by decide +kernel
theorem dX4_noise_28 : decode cX4_noise 28 = .ok (.invokevirtual 52, 3) := by decide +kernel
theorem dX4_noise_31 : decode cX4_noise 31 = .ok (.aload_n 0, 1) := by decide +kernel
theorem dX4_noise_32 : decode cX4_noise 32 = .ok (.getfield 10, 3) := by decide +kernel
theorem dX4_noise_35 : decode cX4_noise 35 = .ok (.getfield 71, 3) := by decide +kernel
theorem dX4_noise_38 : decode cX4_noise 38 = .ok (.aload_n 3, 1) := by decide +kernel
theorem dX4_noise_39 : decode cX4_noise 39 = .ok (.getfield 64, 3) := by decide +kernel
theorem dX4_noise_42 : decode cX4_noise 42 = .ok (.iload_n 2, 1) := by decide +kernel
theorem dX4_noise_43 : decode cX4_noise 43 = .ok (.invokestatic 75, 3) := by decide +kernel
theorem dX4_noise_46 : decode cX4_noise 46 = .ok (.aload_n 0, 1) := by decide +kernel
theorem dX4_noise_47 : decode cX4_noise 47 = .ok (.getfield 10, 3) := by decide +kernel
theorem dX4_noise_50 : decode cX4_noise 50 = .ok (.invokevirtual 79, 3) := by decide +kernel
theorem dX4_noise_53 : decode cX4_noise 53 = .ok (.ireturn, 1) := by decide +kernel
set_option maxRecDepth 20000 in
theorem ggX4_craneOf_X2_craneAt : GoodIn wsX4_craneOf wsX2_craneAt := goodIn_r _ [13, 14, 15, 55, 56, 57, 58, 59, 60, 61, 62, 63, 64, 65, 66, 67] (by decide +kernel) (by decide +kernel)
set_option maxRecDepth 20000 in
theorem gX4_craneOf_X2_craneAt : GoodIn wsX4_craneOf (wsV RX4 67 RX2 yX2_craneAt wsX2_craneAt) := goodIn_app (goodIn_of _ (by decide +kernel)) ggX4_craneOf_X2_craneAt
set_option maxRecDepth 20000 in
theorem ggX4_craneOf_X4_at : GoodIn wsX4_craneOf wsX4_at := goodIn_r _ [19] (by decide +kernel) (by decide +kernel)
set_option maxRecDepth 20000 in
theorem gX4_craneOf_X4_at : GoodIn wsX4_craneOf (va_wsS RX4 98 yX4_at wsX4_at) := goodIn_app (goodIn_of _ (by decide +kernel)) ggX4_craneOf_X4_at
set_option maxRecDepth 20000 in
theorem ggX4_craneOf_X2_validOfCrane : GoodIn wsX4_craneOf wsX2_validOfCrane := goodIn_r _ [23, 24, 25, 26, 27, 12, 28, 29, 30, 31, 32, 33, 34, 35, 36, 55, 56, 57, 58, 59, 60, 61, 62, 63, 64, 65, 66, 67, 68, 69, 70, 71, 72, 73, 74, 48, 49, 50, 51, 52, 53, 54] (by decide +kernel) (by decide +kernel)
set_option maxRecDepth 20000 in
theorem gX4_craneOf_X2_validOfCrane : GoodIn wsX4_craneOf (wsV RX4 102 RX2 yX2_validOfCrane wsX2_validOfCrane) := goodIn_app (goodIn_of _ (by decide +kernel)) ggX4_craneOf_X2_validOfCrane
set_option maxRecDepth 20000 in
theorem ggX4_craneOf_X2_stopWindOf : GoodIn wsX4_craneOf wsX2_stopWindOf := goodIn_r _ [40, 41, 42, 17, 18, 19, 55, 56, 57, 58, 59, 60, 61, 62, 63, 64, 65, 66, 67, 48, 49, 50, 51, 52, 53, 54] (by decide +kernel) (by decide +kernel)
set_option maxRecDepth 20000 in
theorem gX4_craneOf_X2_stopWindOf : GoodIn wsX4_craneOf (wsV RX4 106 RX2 yX2_stopWindOf wsX2_stopWindOf) := goodIn_app (goodIn_of _ (by decide +kernel)) ggX4_craneOf_X2_stopWindOf
theorem dX4_craneOf_0 : decode cX4_craneOf 0 = .ok (.aload_n 0, 1) := by decide +kernel
theorem dX4_craneOf_1 : decode cX4_craneOf 1 = .ok (.getfield 10, 3) := by decide +kernel
theorem dX4_craneOf_4 : decode cX4_craneOf 4 = .ok (.iload_n 1, 1) := by decide +kernel
theorem dX4_craneOf_5 : decode cX4_craneOf 5 = .ok (.invokevirtual 67, 3) := by decide +kernel
theorem dX4_craneOf_8 : decode cX4_craneOf 8 = .ok (.astore_n 3, 1) := by decide +kernel
theorem dX4_craneOf_9 : decode cX4_craneOf 9 = .ok (.aload_n 3, 1) := by decide +kernel
theorem dX4_craneOf_10 : decode cX4_craneOf 10 = .ok (.ifnonnull 7, 3) := by decide +kernel
theorem dX4_craneOf_13 : decode cX4_craneOf 13 = .ok (.sipush (-1001), 3) := by decide +kernel
theorem dX4_craneOf_16 : decode cX4_craneOf 16 = .ok (.ireturn, 1) := by decide +kernel
theorem dX4_craneOf_17 : decode cX4_craneOf 17 = .ok (.iload_n 2, 1) := by decide +kernel
theorem dX4_craneOf_18 : decode cX4_craneOf 18 = .ok (.tableswitch 104 0 7 #[46, 51, 56, 61, 66, 71, 86, 95], 46) := by decide +kernel
theorem dX4_craneOf_64 : decode cX4_craneOf 64 = .ok (.aload_n 3, 1) := by decide +kernel
theorem dX4_craneOf_65 : decode cX4_craneOf 65 = .ok (.getfield 83, 3) := by decide +kernel
theorem dX4_craneOf_68 : decode cX4_craneOf 68 = .ok (.ireturn, 1) := by decide +kernel
theorem dX4_craneOf_69 : decode cX4_craneOf 69 = .ok (.aload_n 3, 1) := by decide +kernel
theorem dX4_craneOf_70 : decode cX4_craneOf 70 = .ok (.getfield 86, 3) := by decide +kernel
theorem dX4_craneOf_73 : decode cX4_craneOf 73 = .ok (.ireturn, 1) := by decide +kernel
theorem dX4_craneOf_74 : decode cX4_craneOf 74 = .ok (.aload_n 3, 1) := by decide +kernel
theorem dX4_craneOf_75 : decode cX4_craneOf 75 = .ok (.getfield 89, 3) := by decide +kernel
theorem dX4_craneOf_78 : decode cX4_craneOf 78 = .ok (.ireturn, 1) := by decide +kernel
theorem dX4_craneOf_79 : decode cX4_craneOf 79 = .ok (.aload_n 3, 1) := by decide +kernel
theorem dX4_craneOf_80 : decode cX4_craneOf 80 = .ok (.getfield 92, 3) := by decide +kernel
theorem dX4_craneOf_83 : decode cX4_craneOf 83 = .ok (.ireturn, 1) := by decide +kernel
theorem dX4_craneOf_84 : decode cX4_craneOf 84 = .ok (.aload_n 3, 1) := by decide +kernel
theorem dX4_craneOf_85 : decode cX4_craneOf 85 = .ok (.getfield 95, 3) := by decide +kernel
theorem dX4_craneOf_88 : decode cX4_craneOf 88 = .ok (.ireturn, 1) := by decide +kernel
theorem dX4_craneOf_89 : decode cX4_craneOf 89 = .ok (.aload_n 0, 1) := by decide +kernel
theorem dX4_craneOf_90 : decode cX4_craneOf 90 = .ok (.getfield 10, 3) := by decide +kernel
theorem dX4_craneOf_93 : decode cX4_craneOf 93 = .ok (.getfield 71, 3) := by decide +kernel
theorem dX4_craneOf_96 : decode cX4_craneOf 96 = .ok (.aload_n 3, 1) := by decide +kernel
theorem dX4_craneOf_97 : decode cX4_craneOf 97 = .ok (.getfield 64, 3) := by decide +kernel
theorem dX4_craneOf_100 : decode cX4_craneOf 100 = .ok (.invokestatic 98, 3) := by decide +kernel
theorem dX4_craneOf_103 : decode cX4_craneOf 103 = .ok (.ireturn, 1) := by decide +kernel
theorem dX4_craneOf_104 : decode cX4_craneOf 104 = .ok (.aload_n 0, 1) := by decide +kernel
theorem dX4_craneOf_105 : decode cX4_craneOf 105 = .ok (.getfield 10, 3) := by decide +kernel
theorem dX4_craneOf_108 : decode cX4_craneOf 108 = .ok (.aload_n 3, 1) := by decide +kernel
theorem dX4_craneOf_109 : decode cX4_craneOf 109 = .ok (.invokevirtual 102, 3) := by decide +kernel
theorem dX4_craneOf_112 : decode cX4_craneOf 112 = .ok (.ireturn, 1) := by decide +kernel
theorem dX4_craneOf_113 : decode cX4_craneOf 113 = .ok (.aload_n 0, 1) := by decide +kernel
theorem dX4_craneOf_114 : decode cX4_craneOf 114 = .ok (.getfield 10, 3) := by decide +kernel
theorem dX4_craneOf_117 : decode cX4_craneOf 117 = .ok (.aload_n 3, 1) := by decide +kernel
theorem dX4_craneOf_118 : decode cX4_craneOf 118 = .ok (.invokevirtual 106, 3) := by decide +kernel
theorem dX4_craneOf_121 : decode cX4_craneOf 121 = .ok (.ireturn, 1) := by decide +kernel
theorem dX4_craneOf_122 : decode cX4_craneOf 122 = .ok (.sipush (-1001), 3) := by decide +kernel
theorem dX4_craneOf_125 : decode cX4_craneOf 125 = .ok (.ireturn, 1) := by decide +kernel
set_option maxRecDepth 20000 in
theorem ggX4_set_X4_isIn : GoodIn wsX4_set wsX4_isIn := goodIn_r _ [8] (by decide +kernel) (by decide +kernel)
set_option maxRecDepth 20000 in
theorem gX4_set_X4_isIn : GoodIn wsX4_set (va_wsS RX4 38 yX4_isIn wsX4_isIn) := goodIn_app (goodIn_of _ (by decide +kernel)) ggX4_set_X4_isIn
set_option maxRecDepth 20000 in
theorem ggX4_set_X4_at : GoodIn wsX4_set wsX4_at := goodIn_r _ [11] (by decide +kernel) (by decide +kernel)
set_option maxRecDepth 20000 in
theorem gX4_set_X4_at : GoodIn wsX4_set (va_wsS RX4 98 yX4_at wsX4_at) := goodIn_app (goodIn_of _ (by decide +kernel)) ggX4_set_X4_at
set_option maxRecDepth 20000 in
theorem ggX4_set_X4_remember : GoodIn wsX4_set wsX4_remember := goodIn_r _ [15, 16, 17, 3, 18, 19, 20, 7, 21, 22, 23, 24, 25, 26, 27, 28, 29, 30, 31, 32, 33, 34, 35, 36, 37, 38, 39, 40, 41, 42, 43, 44, 45, 46, 47, 108, 109, 110, 111, 112, 113, 114, 115, 116, 117, 118, 119, 120, 121, 122, 123, 124, 125] (by decide +kernel) (by decide +kernel)
set_option maxRecDepth 20000 in
theorem gX4_set_X4_remember : GoodIn wsX4_set (wsV RX4 52 RX4 yX4_remember wsX4_remember) := goodIn_app (goodIn_of _ (by decide +kernel)) ggX4_set_X4_remember
set_option maxRecDepth 20000 in
theorem ggX4_set_X4_put : GoodIn wsX4_set wsX4_put := goodIn_r _ [50] (by decide +kernel) (by decide +kernel)
set_option maxRecDepth 20000 in
theorem gX4_set_X4_put : GoodIn wsX4_set (va_wsS RX4 75 yX4_put wsX4_put) := goodIn_app (goodIn_of _ (by decide +kernel)) ggX4_set_X4_put
set_option maxRecDepth 20000 in
theorem ggX4_set_X2_withdrawFailing : GoodIn wsX4_set wsX2_withdrawFailing := goodIn_r _ [54, 47, 55, 56, 57, 58, 59, 60, 29, 61, 46, 62, 63, 64, 65, 39, 10, 7, 11, 66, 67, 68, 69, 38, 70, 71, 72, 73, 74, 75, 76, 77, 78, 41, 42, 79, 80, 81, 82, 83, 84, 40, 85, 86, 87, 88, 89, 90, 91, 92, 93, 94, 95, 96, 97, 98, 99, 100, 101, 37, 102, 103, 104, 105, 106, 45, 107, 49, 50, 113, 114, 115, 116, 117, 118, 119, 120, 121, 122, 123, 124, 125, 126, 127, 128, 129, 130, 131, 132, 133, 134, 135, 136, 137, 138, 139] (by decide +kernel) (by decide +kernel)
set_option maxRecDepth 20000 in
theorem gX4_set_X2_withdrawFailing : GoodIn wsX4_set (wsV RX4 79 RX2 yX2_withdrawFailing wsX2_withdrawFailing) := goodIn_app (goodIn_of _ (by decide +kernel)) ggX4_set_X2_withdrawFailing
theorem dX4_set_0 : decode cX4_set 0 = .ok (.iload_n 1, 1) := by decide +kernel
theorem dX4_set_1 : decode cX4_set 1 = .ok (.iconst 0, 1) := by decide +kernel
theorem dX4_set_2 : decode cX4_set 2 = .ok (.iconst 2, 1) := by decide +kernel
theorem dX4_set_3 : decode cX4_set 3 = .ok (.invokestatic 38, 3) := by decide +kernel
theorem dX4_set_6 : decode cX4_set 6 = .ok (.ifCond .eq 24, 3) := by decide +kernel
theorem dX4_set_9 : decode cX4_set 9 = .ok (.iload_n 2, 1) := by decide +kernel
theorem dX4_set_10 : decode cX4_set 10 = .ok (.getstatic 109, 3) := by decide +kernel
theorem dX4_set_13 : decode cX4_set 13 = .ok (.iload_n 1, 1) := by decide +kernel
theorem dX4_set_14 : decode cX4_set 14 = .ok (.invokestatic 98, 3) := by decide +kernel
theorem dX4_set_17 : decode cX4_set 17 = .ok (.getstatic 112, 3) := by decide +kernel
theorem dX4_set_20 : decode cX4_set 20 = .ok (.iload_n 1, 1) := by decide +kernel
theorem dX4_set_21 : decode cX4_set 21 = .ok (.invokestatic 98, 3) := by decide +kernel
theorem dX4_set_24 : decode cX4_set 24 = .ok (.invokestatic 38, 3) := by decide +kernel
theorem dX4_set_27 : decode cX4_set 27 = .ok (.ifCond .ne 7, 3) := by decide +kernel
theorem dX4_set_30 : decode cX4_set 30 = .ok (.sipush (-1001), 3) := by decide +kernel
theorem dX4_set_33 : decode cX4_set 33 = .ok (.ireturn, 1) := by decide +kernel
theorem dX4_set_34 : decode cX4_set 34 = .ok (.aload_n 0, 1) := by decide +kernel
theorem dX4_set_35 : decode cX4_set 35 = .ok (.invokevirtual 52, 3) := by decide +kernel
theorem dX4_set_38 : decode cX4_set 38 = .ok (.aload_n 0, 1) := by decide +kernel
theorem dX4_set_39 : decode cX4_set 39 = .ok (.getfield 10, 3) := by decide +kernel
theorem dX4_set_42 : decode cX4_set 42 = .ok (.getfield 115, 3) := by decide +kernel
theorem dX4_set_45 : decode cX4_set 45 = .ok (.iload_n 1, 1) := by decide +kernel
theorem dX4_set_46 : decode cX4_set 46 = .ok (.iload_n 2, 1) := by decide +kernel
theorem dX4_set_47 : decode cX4_set 47 = .ok (.invokestatic 75, 3) := by decide +kernel
theorem dX4_set_50 : decode cX4_set 50 = .ok (.aload_n 0, 1) := by decide +kernel
theorem dX4_set_51 : decode cX4_set 51 = .ok (.getfield 10, 3) := by decide +kernel
theorem dX4_set_54 : decode cX4_set 54 = .ok (.invokevirtual 79, 3) := by decide +kernel
theorem dX4_set_57 : decode cX4_set 57 = .ok (.ireturn, 1) := by decide +kernel
set_option maxRecDepth 20000 in
theorem ggX4_wind_X4_isNight : GoodIn wsX4_wind wsX4_isNight := goodIn_r _ [6, 7, 8, 5, 9] (by decide +kernel) (by decide +kernel)
set_option maxRecDepth 20000 in
theorem gX4_wind_X4_isNight : GoodIn wsX4_wind (va_wsS RX4 118 yX4_isNight wsX4_isNight) := goodIn_app (goodIn_of _ (by decide +kernel)) ggX4_wind_X4_isNight
set_option maxRecDepth 20000 in
theorem ggX4_wind_X4_isIn : GoodIn wsX4_wind wsX4_isIn := goodIn_r _ [9] (by decide +kernel) (by decide +kernel)
set_option maxRecDepth 20000 in
theorem gX4_wind_X4_isIn : GoodIn wsX4_wind (va_wsS RX4 38 yX4_isIn wsX4_isIn) := goodIn_app (goodIn_of _ (by decide +kernel)) ggX4_wind_X4_isIn
set_option maxRecDepth 20000 in
theorem ggX4_wind_X4_remember : GoodIn wsX4_wind wsX4_remember := goodIn_r _ [13, 14, 15, 1, 16, 17, 18, 5, 19, 20, 21, 22, 23, 24, 25, 26, 27, 28, 29, 30, 31, 32, 33, 34, 35, 36, 37, 38, 39, 40, 41, 42, 43, 44, 45, 108, 109, 110, 111, 112, 113, 114, 115, 116, 117, 118, 119, 120, 121, 122, 123, 124, 125] (by decide +kernel) (by decide +kernel)
set_option maxRecDepth 20000 in
theorem gX4_wind_X4_remember : GoodIn wsX4_wind (wsV RX4 52 RX4 yX4_remember wsX4_remember) := goodIn_app (goodIn_of _ (by decide +kernel)) ggX4_wind_X4_remember
set_option maxRecDepth 20000 in
theorem ggX4_wind_X4_put : GoodIn wsX4_wind wsX4_put := goodIn_r _ [48] (by decide +kernel) (by decide +kernel)
set_option maxRecDepth 20000 in
theorem gX4_wind_X4_put : GoodIn wsX4_wind (va_wsS RX4 75 yX4_put wsX4_put) := goodIn_app (goodIn_of _ (by decide +kernel)) ggX4_wind_X4_put
set_option maxRecDepth 20000 in
theorem ggX4_wind_X2_withdrawFailing : GoodIn wsX4_wind wsX2_withdrawFailing := goodIn_r _ [52, 45, 53, 54, 55, 56, 57, 58, 27, 59, 44, 60, 61, 62, 63, 37, 64, 5, 65, 66, 67, 68, 69, 36, 70, 71, 72, 73, 74, 75, 76, 77, 78, 39, 40, 79, 80, 81, 82, 83, 84, 38, 85, 86, 87, 88, 89, 90, 91, 92, 93, 94, 95, 96, 97, 98, 99, 100, 101, 35, 102, 103, 104, 105, 106, 43, 107, 47, 48, 113, 114, 115, 116, 117, 118, 119, 120, 121, 122, 123, 124, 125, 126, 127, 128, 129, 130, 131, 132, 133, 134, 135, 136, 137, 138, 139] (by decide +kernel) (by decide +kernel)
set_option maxRecDepth 20000 in
theorem gX4_wind_X2_withdrawFailing : GoodIn wsX4_wind (wsV RX4 79 RX2 yX2_withdrawFailing wsX2_withdrawFailing) := goodIn_app (goodIn_of _ (by decide +kernel)) ggX4_wind_X2_withdrawFailing
theorem dX4_wind_0 : decode cX4_wind 0 = .ok (.iload_n 1, 1) := by decide +kernel
theorem dX4_wind_1 : decode cX4_wind 1 = .ok (.invokestatic 118, 3) := by decide +kernel
theorem dX4_wind_4 : decode cX4_wind 4 = .ok (.ifCond .eq 13, 3) := by decide +kernel
theorem dX4_wind_7 : decode cX4_wind 7 = .ok (.iload_n 2, 1) := by decide +kernel
theorem dX4_wind_8 : decode cX4_wind 8 = .ok (.iconst 0, 1) := by decide +kernel
theorem dX4_wind_9 : decode cX4_wind 9 = .ok (.bipush 99, 2) := by decide +kernel
theorem dX4_wind_11 : decode cX4_wind 11 = .ok (.invokestatic 38, 3) := by decide +kernel
theorem dX4_wind_14 : decode cX4_wind 14 = .ok (.ifCond .ne 7, 3) := by decide +kernel
theorem dX4_wind_17 : decode cX4_wind 17 = .ok (.sipush (-1001), 3) := by decide +kernel
theorem dX4_wind_20 : decode cX4_wind 20 = .ok (.ireturn, 1) := by decide +kernel
theorem dX4_wind_21 : decode cX4_wind 21 = .ok (.aload_n 0, 1) := by decide +kernel
theorem dX4_wind_22 : decode cX4_wind 22 = .ok (.invokevirtual 52, 3) := by decide +kernel
theorem dX4_wind_25 : decode cX4_wind 25 = .ok (.aload_n 0, 1) := by decide +kernel
theorem dX4_wind_26 : decode cX4_wind 26 = .ok (.getfield 10, 3) := by decide +kernel
theorem dX4_wind_29 : decode cX4_wind 29 = .ok (.getfield 121, 3) := by decide +kernel
theorem dX4_wind_32 : decode cX4_wind 32 = .ok (.iload_n 1, 1) := by decide +kernel
theorem dX4_wind_33 : decode cX4_wind 33 = .ok (.iload_n 2, 1) := by decide +kernel
theorem dX4_wind_34 : decode cX4_wind 34 = .ok (.invokestatic 75, 3) := by decide +kernel
theorem dX4_wind_37 : decode cX4_wind 37 = .ok (.aload_n 0, 1) := by decide +kernel
theorem dX4_wind_38 : decode cX4_wind 38 = .ok (.getfield 10, 3) := by decide +kernel
theorem dX4_wind_41 : decode cX4_wind 41 = .ok (.invokevirtual 79, 3) := by decide +kernel
theorem dX4_wind_44 : decode cX4_wind 44 = .ok (.ireturn, 1) := by decide +kernel
set_option maxRecDepth 20000 in
theorem ggX4_allow_X4_isStreet : GoodIn wsX4_allow wsX4_isStreet := goodIn_r _ [6, 7, 8, 5, 9] (by decide +kernel) (by decide +kernel)
set_option maxRecDepth 20000 in
theorem gX4_allow_X4_isStreet : GoodIn wsX4_allow (va_wsS RX4 42 yX4_isStreet wsX4_isStreet) := goodIn_app (goodIn_of _ (by decide +kernel)) ggX4_allow_X4_isStreet
set_option maxRecDepth 20000 in
theorem ggX4_allow_X4_isNight : GoodIn wsX4_allow wsX4_isNight := goodIn_r _ [12, 7, 8, 5, 9] (by decide +kernel) (by decide +kernel)
set_option maxRecDepth 20000 in
theorem gX4_allow_X4_isNight : GoodIn wsX4_allow (va_wsS RX4 118 yX4_isNight wsX4_isNight) := goodIn_app (goodIn_of _ (by decide +kernel)) ggX4_allow_X4_isNight
set_option maxRecDepth 20000 in
theorem ggX4_allow_X4_isIn : GoodIn wsX4_allow wsX4_isIn := goodIn_r _ [9] (by decide +kernel) (by decide +kernel)
set_option maxRecDepth 20000 in
theorem gX4_allow_X4_isIn : GoodIn wsX4_allow (va_wsS RX4 38 yX4_isIn wsX4_isIn) := goodIn_app (goodIn_of _ (by decide +kernel)) ggX4_allow_X4_isIn
set_option maxRecDepth 20000 in
theorem ggX4_allow_X4_remember : GoodIn wsX4_allow wsX4_remember := goodIn_r _ [16, 17, 18, 1, 19, 20, 21, 5, 22, 23, 24, 25, 26, 27, 28, 29, 30, 31, 32, 33, 34, 35, 36, 37, 38, 39, 40, 41, 42, 43, 44, 45, 46, 47, 48, 112, 113, 114, 115, 116, 117, 118, 119, 120, 121, 122, 123, 124, 125, 126, 127, 128, 129] (by decide +kernel) (by decide +kernel)
set_option maxRecDepth 20000 in
theorem gX4_allow_X4_remember : GoodIn wsX4_allow (wsV RX4 52 RX4 yX4_remember wsX4_remember) := goodIn_app (goodIn_of _ (by decide +kernel)) ggX4_allow_X4_remember
set_option maxRecDepth 20000 in
theorem ggX4_allow_X4_streetNight : GoodIn wsX4_allow wsX4_streetNight := goodIn_r _ [51] (by decide +kernel) (by decide +kernel)
set_option maxRecDepth 20000 in
theorem gX4_allow_X4_streetNight : GoodIn wsX4_allow (va_wsS RX4 127 yX4_streetNight wsX4_streetNight) := goodIn_app (goodIn_of _ (by decide +kernel)) ggX4_allow_X4_streetNight
set_option maxRecDepth 20000 in
theorem ggX4_allow_X4_put : GoodIn wsX4_allow wsX4_put := goodIn_r _ [54] (by decide +kernel) (by decide +kernel)
set_option maxRecDepth 20000 in
theorem gX4_allow_X4_put : GoodIn wsX4_allow (va_wsS RX4 75 yX4_put wsX4_put) := goodIn_app (goodIn_of _ (by decide +kernel)) ggX4_allow_X4_put
set_option maxRecDepth 20000 in
theorem ggX4_allow_X2_withdrawFailing : GoodIn wsX4_allow wsX2_withdrawFailing := goodIn_r _ [58, 48, 59, 60, 61, 62, 63, 64, 30, 65, 47, 66, 67, 68, 69, 40, 70, 5, 71, 72, 73, 74, 75, 39, 76, 77, 78, 79, 80, 81, 82, 83, 84, 42, 43, 50, 51, 85, 86, 87, 88, 41, 89, 90, 91, 92, 93, 94, 95, 96, 97, 98, 99, 100, 101, 102, 103, 104, 105, 38, 106, 107, 108, 109, 110, 46, 111, 53, 54, 117, 118, 119, 120, 121, 122, 123, 124, 125, 126, 127, 128, 129, 130, 131, 132, 133, 134, 135, 136, 137, 138, 139, 140, 141, 142, 143] (by decide +kernel) (by decide +kernel)
set_option maxRecDepth 20000 in
theorem gX4_allow_X2_withdrawFailing : GoodIn wsX4_allow (wsV RX4 79 RX2 yX2_withdrawFailing wsX2_withdrawFailing) := goodIn_app (goodIn_of _ (by decide +kernel)) ggX4_allow_X2_withdrawFailing
theorem dX4_allow_0 : decode cX4_allow 0 = .ok (.iload_n 1, 1) := by decide +kernel
theorem dX4_allow_1 : decode cX4_allow 1 = .ok (.invokestatic 42, 3) := by decide +kernel
theorem dX4_allow_4 : decode cX4_allow 4 = .ok (.ifCond .eq 21, 3) := by decide +kernel
theorem dX4_allow_7 : decode cX4_allow 7 = .ok (.iload_n 2, 1) := by decide +kernel
theorem dX4_allow_8 : decode cX4_allow 8 = .ok (.invokestatic 118, 3) := by decide +kernel
theorem dX4_allow_11 : decode cX4_allow 11 = .ok (.ifCond .eq 14, 3) := by decide +kernel
theorem dX4_allow_14 : decode cX4_allow 14 = .ok (.iload_n 3, 1) := by decide +kernel
theorem dX4_allow_15 : decode cX4_allow 15 = .ok (.iconst 0, 1) := by decide +kernel
theorem dX4_allow_16 : decode cX4_allow 16 = .ok (.sipush 200, 3) := by decide +kernel
theorem dX4_allow_19 : decode cX4_allow 19 = .ok (.invokestatic 38, 3) := by decide +kernel
theorem dX4_allow_22 : decode cX4_allow 22 = .ok (.ifCond .ne 7, 3) := by decide +kernel
theorem dX4_allow_25 : decode cX4_allow 25 = .ok (.sipush (-1001), 3) := by decide +kernel
theorem dX4_allow_28 : decode cX4_allow 28 = .ok (.ireturn, 1) := by decide +kernel
theorem dX4_allow_29 : decode cX4_allow 29 = .ok (.aload_n 0, 1) := by decide +kernel
theorem dX4_allow_30 : decode cX4_allow 30 = .ok (.invokevirtual 52, 3) := by decide +kernel
theorem dX4_allow_33 : decode cX4_allow 33 = .ok (.aload_n 0, 1) := by decide +kernel
theorem dX4_allow_34 : decode cX4_allow 34 = .ok (.getfield 10, 3) := by decide +kernel
theorem dX4_allow_37 : decode cX4_allow 37 = .ok (.getfield 124, 3) := by decide +kernel
theorem dX4_allow_40 : decode cX4_allow 40 = .ok (.iload_n 1, 1) := by decide +kernel
theorem dX4_allow_41 : decode cX4_allow 41 = .ok (.iload_n 2, 1) := by decide +kernel
theorem dX4_allow_42 : decode cX4_allow 42 = .ok (.invokestatic 127, 3) := by decide +kernel
theorem dX4_allow_45 : decode cX4_allow 45 = .ok (.iload_n 3, 1) := by decide +kernel
theorem dX4_allow_46 : decode cX4_allow 46 = .ok (.invokestatic 75, 3) := by decide +kernel
theorem dX4_allow_49 : decode cX4_allow 49 = .ok (.aload_n 0, 1) := by decide +kernel
theorem dX4_allow_50 : decode cX4_allow 50 = .ok (.getfield 10, 3) := by decide +kernel
theorem dX4_allow_53 : decode cX4_allow 53 = .ok (.invokevirtual 79, 3) := by decide +kernel
theorem dX4_allow_56 : decode cX4_allow 56 = .ok (.ireturn, 1) := by decide +kernel
set_option maxRecDepth 20000 in
theorem ggX4_transfer_X4_isStreet : GoodIn wsX4_transfer wsX4_isStreet := goodIn_r _ [7, 8, 9, 6, 10] (by decide +kernel) (by decide +kernel)
set_option maxRecDepth 20000 in
theorem gX4_transfer_X4_isStreet : GoodIn wsX4_transfer (va_wsS RX4 42 yX4_isStreet wsX4_isStreet) := goodIn_app (goodIn_of _ (by decide +kernel)) ggX4_transfer_X4_isStreet
set_option maxRecDepth 20000 in
theorem ggX4_transfer_X4_isNight : GoodIn wsX4_transfer wsX4_isNight := goodIn_r _ [13, 8, 9, 6, 10] (by decide +kernel) (by decide +kernel)
set_option maxRecDepth 20000 in
theorem gX4_transfer_X4_isNight : GoodIn wsX4_transfer (va_wsS RX4 118 yX4_isNight wsX4_isNight) := goodIn_app (goodIn_of _ (by decide +kernel)) ggX4_transfer_X4_isNight
set_option maxRecDepth 20000 in
theorem ggX4_transfer_X4_isIn : GoodIn wsX4_transfer wsX4_isIn := goodIn_r _ [10] (by decide +kernel) (by decide +kernel)
set_option maxRecDepth 20000 in
theorem gX4_transfer_X4_isIn : GoodIn wsX4_transfer (va_wsS RX4 38 yX4_isIn wsX4_isIn) := goodIn_app (goodIn_of _ (by decide +kernel)) ggX4_transfer_X4_isIn
set_option maxRecDepth 20000 in
theorem ggX4_transfer_X2_freeOf : GoodIn wsX4_transfer wsX2_freeOf := goodIn_r _ [18, 19, 20, 21, 17, 22, 23, 24, 25, 6, 26, 27, 28, 29, 30, 31, 32, 33, 34, 35, 36, 37, 38, 39, 40, 41, 42, 43, 44, 45, 46, 47, 48, 49, 50, 51, 52, 53, 54, 55, 56, 57, 58, 59, 60, 99, 100, 101, 102, 103, 104, 105, 106, 107, 108, 109, 110, 111, 112, 113, 114, 115, 116, 117, 118, 119, 120, 121, 122, 123, 124, 125] (by decide +kernel) (by decide +kernel)
set_option maxRecDepth 20000 in
theorem gX4_transfer_X2_freeOf : GoodIn wsX4_transfer (wsV RX4 131 RX2 yX2_freeOf wsX2_freeOf) := goodIn_app (goodIn_of _ (by decide +kernel)) ggX4_transfer_X2_freeOf
set_option maxRecDepth 20000 in
theorem ggX4_transfer_X4_remember : GoodIn wsX4_transfer wsX4_remember := goodIn_r _ [64, 65, 66, 1, 67, 68, 69, 6, 70, 71, 72, 73, 74, 75, 76, 77, 17, 78, 79, 80, 81, 82, 83, 84, 59, 32, 85, 31, 23, 24, 86, 87, 88, 46, 39, 94, 95, 96, 97, 98, 99, 100, 101, 102, 103, 104, 105, 106, 107, 108, 109, 110, 111] (by decide +kernel) (by decide +kernel)
set_option maxRecDepth 20000 in
theorem gX4_transfer_X4_remember : GoodIn wsX4_transfer (wsV RX4 52 RX4 yX4_remember wsX4_remember) := goodIn_app (goodIn_of _ (by decide +kernel)) ggX4_transfer_X4_remember
set_option maxRecDepth 20000 in
theorem ggX4_transfer_X4_streetNight : GoodIn wsX4_transfer wsX4_streetNight := goodIn_r _ [26] (by decide +kernel) (by decide +kernel)
set_option maxRecDepth 20000 in
theorem gX4_transfer_X4_streetNight : GoodIn wsX4_transfer (va_wsS RX4 127 yX4_streetNight wsX4_streetNight) := goodIn_app (goodIn_of _ (by decide +kernel)) ggX4_transfer_X4_streetNight
set_option maxRecDepth 20000 in
theorem ggX4_transfer_X4_at : GoodIn wsX4_transfer wsX4_at := goodIn_r _ [34] (by decide +kernel) (by decide +kernel)
set_option maxRecDepth 20000 in
theorem gX4_transfer_X4_at : GoodIn wsX4_transfer (va_wsS RX4 98 yX4_at wsX4_at) := goodIn_app (goodIn_of _ (by decide +kernel)) ggX4_transfer_X4_at
set_option maxRecDepth 20000 in
theorem ggX4_transfer_X4_put : GoodIn wsX4_transfer wsX4_put := goodIn_r _ [93] (by decide +kernel) (by decide +kernel)
set_option maxRecDepth 20000 in
theorem gX4_transfer_X4_put : GoodIn wsX4_transfer (va_wsS RX4 75 yX4_put wsX4_put) := goodIn_app (goodIn_of _ (by decide +kernel)) ggX4_transfer_X4_put
theorem dX4_transfer_0 : decode cX4_transfer 0 = .ok (.iload_n 1, 1) := by decide +kernel
theorem dX4_transfer_1 : decode cX4_transfer 1 = .ok (.invokestatic 42, 3) := by decide +kernel
theorem dX4_transfer_4 : decode cX4_transfer 4 = .ok (.ifCond .eq 34, 3) := by decide +kernel
theorem dX4_transfer_7 : decode cX4_transfer 7 = .ok (.iload_n 2, 1) := by decide +kernel
theorem dX4_transfer_8 : decode cX4_transfer 8 = .ok (.invokestatic 42, 3) := by decide +kernel
theorem dX4_transfer_11 : decode cX4_transfer 11 = .ok (.ifCond .eq 27, 3) := by decide +kernel
theorem dX4_transfer_14 : decode cX4_transfer 14 = .ok (.iload_n 1, 1) := by decide +kernel
theorem dX4_transfer_15 : decode cX4_transfer 15 = .ok (.iload_n 2, 1) := by decide +kernel
theorem dX4_transfer_16 : decode cX4_transfer 16 = .ok (.if_icmp .eq 22, 3) := by decide +kernel
theorem dX4_transfer_19 : decode cX4_transfer 19 = .ok (.iload_n 3, 1) := by decide +kernel
theorem dX4_transfer_20 : decode cX4_transfer 20 = .ok (.invokestatic 118, 3) := by decide +kernel
theorem dX4_transfer_23 : decode cX4_transfer 23 = .ok (.ifCond .eq 15, 3) := by decide +kernel
theorem dX4_transfer_26 : decode cX4_transfer 26 = .ok (.iload 4, 2) := by decide +kernel
theorem dX4_transfer_28 : decode cX4_transfer 28 = .ok (.iconst 1, 1) := by decide +kernel
theorem dX4_transfer_29 : decode cX4_transfer 29 = .ok (.sipush 200, 3) := by decide +kernel
theorem dX4_transfer_32 : decode cX4_transfer 32 = .ok (.invokestatic 38, 3) := by decide +kernel
theorem dX4_transfer_35 : decode cX4_transfer 35 = .ok (.ifCond .ne 7, 3) := by decide +kernel
theorem dX4_transfer_38 : decode cX4_transfer 38 = .ok (.sipush (-1001), 3) := by decide +kernel
theorem dX4_transfer_41 : decode cX4_transfer 41 = .ok (.ireturn, 1) := by decide +kernel
theorem dX4_transfer_42 : decode cX4_transfer 42 = .ok (.aload_n 0, 1) := by decide +kernel
theorem dX4_transfer_43 : decode cX4_transfer 43 = .ok (.getfield 10, 3) := by decide +kernel
theorem dX4_transfer_46 : decode cX4_transfer 46 = .ok (.iload_n 1, 1) := by decide +kernel
theorem dX4_transfer_47 : decode cX4_transfer 47 = .ok (.iload_n 3, 1) := by decide +kernel
theorem dX4_transfer_48 : decode cX4_transfer 48 = .ok (.invokevirtual 131, 3) := by decide +kernel
theorem dX4_transfer_51 : decode cX4_transfer 51 = .ok (.iload 4, 2) := by decide +kernel
theorem dX4_transfer_53 : decode cX4_transfer 53 = .ok (.isub, 1) := by decide +kernel
theorem dX4_transfer_54 : decode cX4_transfer 54 = .ok (.istore 5, 2) := by decide +kernel
theorem dX4_transfer_56 : decode cX4_transfer 56 = .ok (.iload 5, 2) := by decide +kernel
theorem dX4_transfer_58 : decode cX4_transfer 58 = .ok (.ifCond .ge 7, 3) := by decide +kernel
theorem dX4_transfer_61 : decode cX4_transfer 61 = .ok (.sipush (-1002), 3) := by decide +kernel
theorem dX4_transfer_64 : decode cX4_transfer 64 = .ok (.ireturn, 1) := by decide +kernel
theorem dX4_transfer_65 : decode cX4_transfer 65 = .ok (.aload_n 0, 1) := by decide +kernel
theorem dX4_transfer_66 : decode cX4_transfer 66 = .ok (.invokevirtual 52, 3) := by decide +kernel
theorem dX4_transfer_69 : decode cX4_transfer 69 = .ok (.iload_n 1, 1) := by decide +kernel
theorem dX4_transfer_70 : decode cX4_transfer 70 = .ok (.iload_n 3, 1) := by decide +kernel
theorem dX4_transfer_71 : decode cX4_transfer 71 = .ok (.invokestatic 127, 3) := by decide +kernel
theorem dX4_transfer_74 : decode cX4_transfer 74 = .ok (.istore 6, 2) := by decide +kernel
theorem dX4_transfer_76 : decode cX4_transfer 76 = .ok (.iload_n 2, 1) := by decide +kernel
theorem dX4_transfer_77 : decode cX4_transfer 77 = .ok (.iload_n 3, 1) := by decide +kernel
theorem dX4_transfer_78 : decode cX4_transfer 78 = .ok (.invokestatic 127, 3) := by decide +kernel
theorem dX4_transfer_81 : decode cX4_transfer 81 = .ok (.istore 7, 2) := by decide +kernel
theorem dX4_transfer_83 : decode cX4_transfer 83 = .ok (.aload_n 0, 1) := by decide +kernel
theorem dX4_transfer_84 : decode cX4_transfer 84 = .ok (.getfield 10, 3) := by decide +kernel
theorem dX4_transfer_87 : decode cX4_transfer 87 = .ok (.getfield 134, 3) := by decide +kernel
theorem dX4_transfer_90 : decode cX4_transfer 90 = .ok (.iload 6, 2) := by decide +kernel
theorem dX4_transfer_92 : decode cX4_transfer 92 = .ok (.aload_n 0, 1) := by decide +kernel
theorem dX4_transfer_93 : decode cX4_transfer 93 = .ok (.getfield 10, 3) := by decide +kernel
theorem dX4_transfer_96 : decode cX4_transfer 96 = .ok (.getfield 134, 3) := by decide +kernel
theorem dX4_transfer_99 : decode cX4_transfer 99 = .ok (.iload 6, 2) := by decide +kernel
theorem dX4_transfer_101 : decode cX4_transfer 101 = .ok (.invokestatic 98, 3) := by decide +kernel
theorem dX4_transfer_104 : decode cX4_transfer 104 = .ok (.iload 4, 2) := by decide +kernel
theorem dX4_transfer_106 : decode cX4_transfer 106 = .ok (.iadd, 1) := by decide +kernel
theorem dX4_transfer_107 : decode cX4_transfer 107 = .ok (.invokestatic 75, 3) := by decide +kernel
theorem dX4_transfer_110 : decode cX4_transfer 110 = .ok (.aload_n 0, 1) := by decide +kernel
theorem dX4_transfer_111 : decode cX4_transfer 111 = .ok (.getfield 10, 3) := by decide +kernel
theorem dX4_transfer_114 : decode cX4_transfer 114 = .ok (.getfield 137, 3) := by decide +kernel
theorem dX4_transfer_117 : decode cX4_transfer 117 = .ok (.iload 7, 2) := by decide +kernel
theorem dX4_transfer_119 : decode cX4_transfer 119 = .ok (.aload_n 0, 1) := by decide +kernel
theorem dX4_transfer_120 : decode cX4_transfer 120 = .ok (.getfield 10, 3) := by decide +kernel
theorem dX4_transfer_123 : decode cX4_transfer 123 = .ok (.getfield 137, 3) := by decide +kernel
theorem dX4_transfer_126 : decode cX4_transfer 126 = .ok (.iload 7, 2) := by decide +kernel
theorem dX4_transfer_128 : decode cX4_transfer 128 = .ok (.invokestatic 98, 3) := by decide +kernel
theorem dX4_transfer_131 : decode cX4_transfer 131 = .ok (.iload 4, 2) := by decide +kernel
theorem dX4_transfer_133 : decode cX4_transfer 133 = .ok (.iadd, 1) := by decide +kernel
theorem dX4_transfer_134 : decode cX4_transfer 134 = .ok (.invokestatic 75, 3) := by decide +kernel
theorem dX4_transfer_137 : decode cX4_transfer 137 = .ok (.iload 5, 2) := by decide +kernel
theorem dX4_transfer_139 : decode cX4_transfer 139 = .ok (.ireturn, 1) := by decide +kernel
set_option maxRecDepth 20000 in
theorem ggX4_street_X4_isStreet : GoodIn wsX4_street wsX4_isStreet := goodIn_r _ [8, 9, 10, 7, 11] (by decide +kernel) (by decide +kernel)
set_option maxRecDepth 20000 in
theorem gX4_street_X4_isStreet : GoodIn wsX4_street (va_wsS RX4 42 yX4_isStreet wsX4_isStreet) := goodIn_app (goodIn_of _ (by decide +kernel)) ggX4_street_X4_isStreet
set_option maxRecDepth 20000 in
theorem ggX4_street_X4_isNight : GoodIn wsX4_street wsX4_isNight := goodIn_r _ [14, 9, 10, 7, 11] (by decide +kernel) (by decide +kernel)
set_option maxRecDepth 20000 in
theorem gX4_street_X4_isNight : GoodIn wsX4_street (va_wsS RX4 118 yX4_isNight wsX4_isNight) := goodIn_app (goodIn_of _ (by decide +kernel)) ggX4_street_X4_isNight
set_option maxRecDepth 20000 in
theorem ggX4_street_X2_allowanceOf : GoodIn wsX4_street wsX2_allowanceOf := goodIn_r _ [19, 20, 21, 22, 7, 23, 24, 25, 70, 71, 72, 73, 74, 75, 76, 77, 78, 79, 80, 81, 82] (by decide +kernel) (by decide +kernel)
set_option maxRecDepth 20000 in
theorem gX4_street_X2_allowanceOf : GoodIn wsX4_street (wsV RX4 140 RX2 yX2_allowanceOf wsX2_allowanceOf) := goodIn_app (goodIn_of _ (by decide +kernel)) ggX4_street_X2_allowanceOf
set_option maxRecDepth 20000 in
theorem ggX4_street_X4_streetNight : GoodIn wsX4_street wsX4_streetNight := goodIn_r _ [23] (by decide +kernel) (by decide +kernel)
set_option maxRecDepth 20000 in
theorem gX4_street_X4_streetNight : GoodIn wsX4_street (va_wsS RX4 127 yX4_streetNight wsX4_streetNight) := goodIn_app (goodIn_of _ (by decide +kernel)) ggX4_street_X4_streetNight
set_option maxRecDepth 20000 in
theorem ggX4_street_X4_at : GoodIn wsX4_street wsX4_at := goodIn_r _ [25] (by decide +kernel) (by decide +kernel)
set_option maxRecDepth 20000 in
theorem gX4_street_X4_at : GoodIn wsX4_street (va_wsS RX4 98 yX4_at wsX4_at) := goodIn_app (goodIn_of _ (by decide +kernel)) ggX4_street_X4_at
set_option maxRecDepth 20000 in
theorem ggX4_street_X2_creditsOf : GoodIn wsX4_street wsX2_creditsOf := goodIn_r _ [31, 32, 33, 22, 7, 23, 34, 16, 17, 18, 19, 20, 21, 24, 25, 70, 71, 72, 73, 74, 75, 76, 77, 78, 79, 80, 81, 82] (by decide +kernel) (by decide +kernel)
set_option maxRecDepth 20000 in
theorem gX4_street_X2_creditsOf : GoodIn wsX4_street (wsV RX4 143 RX2 yX2_creditsOf wsX2_creditsOf) := goodIn_app (goodIn_of _ (by decide +kernel)) ggX4_street_X2_creditsOf
set_option maxRecDepth 20000 in
theorem ggX4_street_X2_usedOf : GoodIn wsX4_street wsX2_usedOf := goodIn_r _ [38, 39, 40, 41, 42, 43, 44, 18, 45, 46, 47, 48, 49, 50, 51, 52, 53, 54, 55, 56, 57, 58, 59, 60, 24, 7, 25, 70, 71, 72, 73, 74, 75, 76, 77, 78, 79, 80, 81, 82, 83, 84, 85, 86, 87, 88, 89, 90, 91, 92, 93, 94, 95, 96] (by decide +kernel) (by decide +kernel)
set_option maxRecDepth 20000 in
theorem gX4_street_X2_usedOf : GoodIn wsX4_street (wsV RX4 146 RX2 yX2_usedOf wsX2_usedOf) := goodIn_app (goodIn_of _ (by decide +kernel)) ggX4_street_X2_usedOf
set_option maxRecDepth 20000 in
theorem ggX4_street_X2_validOfStreet : GoodIn wsX4_street wsX2_validOfStreet := goodIn_r _ [64, 39, 42, 43, 44, 18, 45, 46, 47, 48, 49, 50, 51, 52, 53, 54, 70, 71, 72, 73, 74, 75, 76, 77, 78, 79, 80, 81, 82, 83, 84, 85, 86, 87, 88, 89, 90, 91, 92, 93, 94, 95, 96] (by decide +kernel) (by decide +kernel)
set_option maxRecDepth 20000 in
theorem gX4_street_X2_validOfStreet : GoodIn wsX4_street (wsV RX4 149 RX2 yX2_validOfStreet wsX2_validOfStreet) := goodIn_app (goodIn_of _ (by decide +kernel)) ggX4_street_X2_validOfStreet
theorem dX4_street_0 : decode cX4_street 0 = .ok (.iload_n 1, 1) := by decide +kernel
theorem dX4_street_1 : decode cX4_street 1 = .ok (.invokestatic 42, 3) := by decide +kernel
theorem dX4_street_4 : decode cX4_street 4 = .ok (.ifCond .eq 10, 3) := by decide +kernel
theorem dX4_street_7 : decode cX4_street 7 = .ok (.iload_n 2, 1) := by decide +kernel
theorem dX4_street_8 : decode cX4_street 8 = .ok (.invokestatic 118, 3) := by decide +kernel
theorem dX4_street_11 : decode cX4_street 11 = .ok (.ifCond .ne 7, 3) := by decide +kernel
theorem dX4_street_14 : decode cX4_street 14 = .ok (.sipush (-1001), 3) := by decide +kernel
theorem dX4_street_17 : decode cX4_street 17 = .ok (.ireturn, 1) := by decide +kernel
theorem dX4_street_18 : decode cX4_street 18 = .ok (.iload_n 3, 1) := by decide +kernel
theorem dX4_street_19 : decode cX4_street 19 = .ok (.tableswitch 125 0 6 #[41, 51, 67, 83, 93, 103, 113], 41) := by decide +kernel
theorem dX4_street_60 : decode cX4_street 60 = .ok (.aload_n 0, 1) := by decide +kernel
theorem dX4_street_61 : decode cX4_street 61 = .ok (.getfield 10, 3) := by decide +kernel
theorem dX4_street_64 : decode cX4_street 64 = .ok (.iload_n 1, 1) := by decide +kernel
theorem dX4_street_65 : decode cX4_street 65 = .ok (.iload_n 2, 1) := by decide +kernel
theorem dX4_street_66 : decode cX4_street 66 = .ok (.invokevirtual 140, 3) := by decide +kernel
theorem dX4_street_69 : decode cX4_street 69 = .ok (.ireturn, 1) := by decide +kernel
theorem dX4_street_70 : decode cX4_street 70 = .ok (.aload_n 0, 1) := by decide +kernel
theorem dX4_street_71 : decode cX4_street 71 = .ok (.getfield 10, 3) := by decide +kernel
theorem dX4_street_74 : decode cX4_street 74 = .ok (.getfield 137, 3) := by decide +kernel
theorem dX4_street_77 : decode cX4_street 77 = .ok (.iload_n 1, 1) := by decide +kernel
theorem dX4_street_78 : decode cX4_street 78 = .ok (.iload_n 2, 1) := by decide +kernel
theorem dX4_street_79 : decode cX4_street 79 = .ok (.invokestatic 127, 3) := by decide +kernel
theorem dX4_street_82 : decode cX4_street 82 = .ok (.invokestatic 98, 3) := by decide +kernel
theorem dX4_street_85 : decode cX4_street 85 = .ok (.ireturn, 1) := by decide +kernel
theorem dX4_street_86 : decode cX4_street 86 = .ok (.aload_n 0, 1) := by decide +kernel
theorem dX4_street_87 : decode cX4_street 87 = .ok (.getfield 10, 3) := by decide +kernel
theorem dX4_street_90 : decode cX4_street 90 = .ok (.getfield 134, 3) := by decide +kernel
theorem dX4_street_93 : decode cX4_street 93 = .ok (.iload_n 1, 1) := by decide +kernel
theorem dX4_street_94 : decode cX4_street 94 = .ok (.iload_n 2, 1) := by decide +kernel
theorem dX4_street_95 : decode cX4_street 95 = .ok (.invokestatic 127, 3) := by decide +kernel
theorem dX4_street_98 : decode cX4_street 98 = .ok (.invokestatic 98, 3) := by decide +kernel
theorem dX4_street_101 : decode cX4_street 101 = .ok (.ireturn, 1) := by decide +kernel
theorem dX4_street_102 : decode cX4_street 102 = .ok (.aload_n 0, 1) := by decide +kernel
theorem dX4_street_103 : decode cX4_street 103 = .ok (.getfield 10, 3) := by decide +kernel
theorem dX4_street_106 : decode cX4_street 106 = .ok (.iload_n 1, 1) := by decide +kernel
theorem dX4_street_107 : decode cX4_street 107 = .ok (.iload_n 2, 1) := by decide +kernel
theorem dX4_street_108 : decode cX4_street 108 = .ok (.invokevirtual 143, 3) := by decide +kernel
theorem dX4_street_111 : decode cX4_street 111 = .ok (.ireturn, 1) := by decide +kernel
theorem dX4_street_112 : decode cX4_street 112 = .ok (.aload_n 0, 1) := by decide +kernel
theorem dX4_street_113 : decode cX4_street 113 = .ok (.getfield 10, 3) := by decide +kernel
theorem dX4_street_116 : decode cX4_street 116 = .ok (.iload_n 1, 1) := by decide +kernel
theorem dX4_street_117 : decode cX4_street 117 = .ok (.iload_n 2, 1) := by decide +kernel
theorem dX4_street_118 : decode cX4_street 118 = .ok (.invokevirtual 146, 3) := by decide +kernel
theorem dX4_street_121 : decode cX4_street 121 = .ok (.ireturn, 1) := by decide +kernel
theorem dX4_street_122 : decode cX4_street 122 = .ok (.aload_n 0, 1) := by decide +kernel
theorem dX4_street_123 : decode cX4_street 123 = .ok (.getfield 10, 3) := by decide +kernel
theorem dX4_street_126 : decode cX4_street 126 = .ok (.iload_n 1, 1) := by decide +kernel
theorem dX4_street_127 : decode cX4_street 127 = .ok (.iload_n 2, 1) := by decide +kernel
theorem dX4_street_128 : decode cX4_street 128 = .ok (.invokevirtual 149, 3) := by decide +kernel
theorem dX4_street_131 : decode cX4_street 131 = .ok (.ireturn, 1) := by decide +kernel
theorem dX4_street_132 : decode cX4_street 132 = .ok (.aload_n 0, 1) := by decide +kernel
theorem dX4_street_133 : decode cX4_street 133 = .ok (.getfield 10, 3) := by decide +kernel
theorem dX4_street_136 : decode cX4_street 136 = .ok (.getfield 121, 3) := by decide +kernel
theorem dX4_street_139 : decode cX4_street 139 = .ok (.iload_n 2, 1) := by decide +kernel
theorem dX4_street_140 : decode cX4_street 140 = .ok (.invokestatic 98, 3) := by decide +kernel
theorem dX4_street_143 : decode cX4_street 143 = .ok (.ireturn, 1) := by decide +kernel
theorem dX4_street_144 : decode cX4_street 144 = .ok (.sipush (-1001), 3) := by decide +kernel
theorem dX4_street_147 : decode cX4_street 147 = .ok (.ireturn, 1) := by decide +kernel
set_option maxRecDepth 20000 in
theorem ggX4_count_X2_permitsWith : GoodIn wsX4_count wsX2_permitsWith := goodIn_r _ [13, 14, 15, 16, 17, 18, 79, 80, 81, 82, 83, 84, 85, 86, 87, 88, 89, 90, 91] (by decide +kernel) (by decide +kernel)
set_option maxRecDepth 20000 in
theorem gX4_count_X2_permitsWith : GoodIn wsX4_count (wsV RX4 158 RX2 yX2_permitsWith wsX2_permitsWith) := goodIn_app (goodIn_of _ (by decide +kernel)) ggX4_count_X2_permitsWith
set_option maxRecDepth 20000 in
theorem ggX4_count_X2_usedByAll : GoodIn wsX4_count wsX2_usedByAll := goodIn_r _ [22, 23, 24, 25, 26, 27, 28, 12, 29, 30, 31, 32, 33, 34, 35, 36, 16, 17, 18, 79, 80, 81, 82, 83, 84, 85, 86, 87, 88, 89, 90, 91, 101, 102, 103, 104, 105, 106, 107, 108, 109, 110, 111, 112, 113, 114] (by decide +kernel) (by decide +kernel)
set_option maxRecDepth 20000 in
theorem gX4_count_X2_usedByAll : GoodIn wsX4_count (wsV RX4 162 RX2 yX2_usedByAll wsX2_usedByAll) := goodIn_app (goodIn_of _ (by decide +kernel)) ggX4_count_X2_usedByAll
set_option maxRecDepth 20000 in
theorem ggX4_count_X2_sharingPairs : GoodIn wsX4_count wsX2_sharingPairs := goodIn_r _ [40, 23, 24, 41, 25, 42, 26, 27, 28, 12, 29, 30, 43, 44, 45, 46, 47, 48, 49, 50, 51, 52, 53, 54, 55, 56, 57, 58, 59, 60, 61, 62, 63, 64, 65, 66, 16, 17, 18, 67, 68, 69, 70, 71, 72, 79, 80, 81, 82, 83, 84, 85, 86, 87, 88, 89, 90, 91, 101, 102, 103, 104, 105, 106, 107, 108, 109, 110, 111, 112, 113, 114] (by decide +kernel) (by decide +kernel)
set_option maxRecDepth 20000 in
theorem gX4_count_X2_sharingPairs : GoodIn wsX4_count (wsV RX4 165 RX2 yX2_sharingPairs wsX2_sharingPairs) := goodIn_app (goodIn_of _ (by decide +kernel)) ggX4_count_X2_sharingPairs
set_option maxRecDepth 20000 in
theorem ggX4_count_X4_at : GoodIn wsX4_count wsX4_at := goodIn_r _ [18] (by decide +kernel) (by decide +kernel)
set_option maxRecDepth 20000 in
theorem gX4_count_X4_at : GoodIn wsX4_count (va_wsS RX4 98 yX4_at wsX4_at) := goodIn_app (goodIn_of _ (by decide +kernel)) ggX4_count_X4_at
theorem dX4_count_0 : decode cX4_count 0 = .ok (.iload_n 1, 1) := by decide +kernel
theorem dX4_count_1 : decode cX4_count 1 = .ok (.tableswitch 174 0 12 #[67, 75, 83, 91, 100, 109, 117, 125, 130, 174, 138, 150, 162], 67) := by decide +kernel
theorem dX4_count_68 : decode cX4_count 68 = .ok (.aload_n 0, 1) := by decide +kernel
theorem dX4_count_69 : decode cX4_count 69 = .ok (.getfield 10, 3) := by decide +kernel
theorem dX4_count_72 : decode cX4_count 72 = .ok (.getfield 49, 3) := by decide +kernel
theorem dX4_count_75 : decode cX4_count 75 = .ok (.ireturn, 1) := by decide +kernel
theorem dX4_count_76 : decode cX4_count 76 = .ok (.aload_n 0, 1) := by decide +kernel
theorem dX4_count_77 : decode cX4_count 77 = .ok (.getfield 10, 3) := by decide +kernel
theorem dX4_count_80 : decode cX4_count 80 = .ok (.getfield 152, 3) := by decide +kernel
theorem dX4_count_83 : decode cX4_count 83 = .ok (.ireturn, 1) := by decide +kernel
theorem dX4_count_84 : decode cX4_count 84 = .ok (.aload_n 0, 1) := by decide +kernel
theorem dX4_count_85 : decode cX4_count 85 = .ok (.getfield 10, 3) := by decide +kernel
theorem dX4_count_88 : decode cX4_count 88 = .ok (.getfield 155, 3) := by decide +kernel
theorem dX4_count_91 : decode cX4_count 91 = .ok (.ireturn, 1) := by decide +kernel
theorem dX4_count_92 : decode cX4_count 92 = .ok (.aload_n 0, 1) := by decide +kernel
theorem dX4_count_93 : decode cX4_count 93 = .ok (.getfield 10, 3) := by decide +kernel
theorem dX4_count_96 : decode cX4_count 96 = .ok (.iconst 2, 1) := by decide +kernel
theorem dX4_count_97 : decode cX4_count 97 = .ok (.invokevirtual 158, 3) := by decide +kernel
theorem dX4_count_100 : decode cX4_count 100 = .ok (.ireturn, 1) := by decide +kernel
theorem dX4_count_101 : decode cX4_count 101 = .ok (.aload_n 0, 1) := by decide +kernel
theorem dX4_count_102 : decode cX4_count 102 = .ok (.getfield 10, 3) := by decide +kernel
theorem dX4_count_105 : decode cX4_count 105 = .ok (.iconst 3, 1) := by decide +kernel
theorem dX4_count_106 : decode cX4_count 106 = .ok (.invokevirtual 158, 3) := by decide +kernel
theorem dX4_count_109 : decode cX4_count 109 = .ok (.ireturn, 1) := by decide +kernel
theorem dX4_count_110 : decode cX4_count 110 = .ok (.aload_n 0, 1) := by decide +kernel
theorem dX4_count_111 : decode cX4_count 111 = .ok (.getfield 10, 3) := by decide +kernel
theorem dX4_count_114 : decode cX4_count 114 = .ok (.invokevirtual 162, 3) := by decide +kernel
theorem dX4_count_117 : decode cX4_count 117 = .ok (.ireturn, 1) := by decide +kernel
theorem dX4_count_118 : decode cX4_count 118 = .ok (.aload_n 0, 1) := by decide +kernel
theorem dX4_count_119 : decode cX4_count 119 = .ok (.getfield 10, 3) := by decide +kernel
theorem dX4_count_122 : decode cX4_count 122 = .ok (.invokevirtual 165, 3) := by decide +kernel
theorem dX4_count_125 : decode cX4_count 125 = .ok (.ireturn, 1) := by decide +kernel
theorem dX4_count_126 : decode cX4_count 126 = .ok (.aload_n 0, 1) := by decide +kernel
theorem dX4_count_127 : decode cX4_count 127 = .ok (.getfield 23, 3) := by decide +kernel
theorem dX4_count_130 : decode cX4_count 130 = .ok (.ireturn, 1) := by decide +kernel
theorem dX4_count_131 : decode cX4_count 131 = .ok (.aload_n 0, 1) := by decide +kernel
theorem dX4_count_132 : decode cX4_count 132 = .ok (.getfield 30, 3) := by decide +kernel
theorem dX4_count_135 : decode cX4_count 135 = .ok (.getfield 168, 3) := by decide +kernel
theorem dX4_count_138 : decode cX4_count 138 = .ok (.ireturn, 1) := by decide +kernel
theorem dX4_count_139 : decode cX4_count 139 = .ok (.aload_n 0, 1) := by decide +kernel
theorem dX4_count_140 : decode cX4_count 140 = .ok (.getfield 10, 3) := by decide +kernel
theorem dX4_count_143 : decode cX4_count 143 = .ok (.getfield 115, 3) := by decide +kernel
theorem dX4_count_146 : decode cX4_count 146 = .ok (.iconst 0, 1) := by decide +kernel
theorem dX4_count_147 : decode cX4_count 147 = .ok (.invokestatic 98, 3) := by decide +kernel
theorem dX4_count_150 : decode cX4_count 150 = .ok (.ireturn, 1) := by decide +kernel
theorem dX4_count_151 : decode cX4_count 151 = .ok (.aload_n 0, 1) := by decide +kernel
theorem dX4_count_152 : decode cX4_count 152 = .ok (.getfield 10, 3) := by decide +kernel
theorem dX4_count_155 : decode cX4_count 155 = .ok (.getfield 115, 3) := by decide +kernel
theorem dX4_count_158 : decode cX4_count 158 = .ok (.iconst 1, 1) := by decide +kernel
theorem dX4_count_159 : decode cX4_count 159 = .ok (.invokestatic 98, 3) := by decide +kernel
theorem dX4_count_162 : decode cX4_count 162 = .ok (.ireturn, 1) := by decide +kernel
theorem dX4_count_163 : decode cX4_count 163 = .ok (.aload_n 0, 1) := by decide +kernel
theorem dX4_count_164 : decode cX4_count 164 = .ok (.getfield 10, 3) := by decide +kernel
theorem dX4_count_167 : decode cX4_count 167 = .ok (.getfield 115, 3) := by decide +kernel
theorem dX4_count_170 : decode cX4_count 170 = .ok (.iconst 2, 1) := by decide +kernel
theorem dX4_count_171 : decode cX4_count 171 = .ok (.invokestatic 98, 3) := by decide +kernel
theorem dX4_count_174 : decode cX4_count 174 = .ok (.ireturn, 1) := by decide +kernel
theorem dX4_count_175 : decode cX4_count 175 = .ok (.sipush (-1001), 3) := by decide +kernel
theorem dX4_count_178 : decode cX4_count 178 = .ok (.ireturn, 1) := by decide +kernel
set_option maxRecDepth 20000 in
theorem ggX4_undo_X4_pastAt : GoodIn wsX4_undo wsX4_pastAt := goodIn_r _ [7, 8, 31, 32, 33, 34, 35] (by decide +kernel) (by decide +kernel)
set_option maxRecDepth 20000 in
theorem gX4_undo_X4_pastAt : GoodIn wsX4_undo (wsV RX4 171 RX4 yX4_pastAt wsX4_pastAt) := goodIn_app (goodIn_of _ (by decide +kernel)) ggX4_undo_X4_pastAt
set_option maxRecDepth 20000 in
theorem ggX4_undo_X2_copyFrom : GoodIn wsX4_undo wsX2_copyFrom := goodIn_r _ [13, 14, 15, 16, 17, 18, 19, 20, 21, 22, 23, 24, 25, 26, 27, 28, 29, 30, 36, 37, 38, 39, 40, 41, 42, 43, 44, 45, 46, 47, 48] (by decide +kernel) (by decide +kernel)
set_option maxRecDepth 20000 in
theorem gX4_undo_X2_copyFrom : GoodIn wsX4_undo (wsV RX4 175 RX2 yX2_copyFrom wsX2_copyFrom) := goodIn_app (goodIn_of _ (by decide +kernel)) ggX4_undo_X2_copyFrom
theorem dX4_undo_0 : decode cX4_undo 0 = .ok (.aload_n 0, 1) := by decide +kernel
theorem dX4_undo_1 : decode cX4_undo 1 = .ok (.aload_n 0, 1) := by decide +kernel
theorem dX4_undo_2 : decode cX4_undo 2 = .ok (.getfield 23, 3) := by decide +kernel
theorem dX4_undo_5 : decode cX4_undo 5 = .ok (.iconst 1, 1) := by decide +kernel
theorem dX4_undo_6 : decode cX4_undo 6 = .ok (.isub, 1) := by decide +kernel
theorem dX4_undo_7 : decode cX4_undo 7 = .ok (.invokevirtual 171, 3) := by decide +kernel
theorem dX4_undo_10 : decode cX4_undo 10 = .ok (.astore_n 1, 1) := by decide +kernel
theorem dX4_undo_11 : decode cX4_undo 11 = .ok (.aload_n 1, 1) := by decide +kernel
theorem dX4_undo_12 : decode cX4_undo 12 = .ok (.ifnonnull 7, 3) := by decide +kernel
theorem dX4_undo_15 : decode cX4_undo 15 = .ok (.sipush (-1002), 3) := by decide +kernel
theorem dX4_undo_18 : decode cX4_undo 18 = .ok (.ireturn, 1) := by decide +kernel
theorem dX4_undo_19 : decode cX4_undo 19 = .ok (.aload_n 0, 1) := by decide +kernel
theorem dX4_undo_20 : decode cX4_undo 20 = .ok (.dup, 1) := by decide +kernel
theorem dX4_undo_21 : decode cX4_undo 21 = .ok (.getfield 23, 3) := by decide +kernel
theorem dX4_undo_24 : decode cX4_undo 24 = .ok (.iconst 1, 1) := by decide +kernel
theorem dX4_undo_25 : decode cX4_undo 25 = .ok (.isub, 1) := by decide +kernel
theorem dX4_undo_26 : decode cX4_undo 26 = .ok (.putfield 23, 3) := by decide +kernel
theorem dX4_undo_29 : decode cX4_undo 29 = .ok (.aload_n 0, 1) := by decide +kernel
theorem dX4_undo_30 : decode cX4_undo 30 = .ok (.getfield 10, 3) := by decide +kernel
theorem dX4_undo_33 : decode cX4_undo 33 = .ok (.aload_n 1, 1) := by decide +kernel
theorem dX4_undo_34 : decode cX4_undo 34 = .ok (.invokevirtual 175, 3) := by decide +kernel
theorem dX4_undo_37 : decode cX4_undo 37 = .ok (.aload_n 0, 1) := by decide +kernel
theorem dX4_undo_38 : decode cX4_undo 38 = .ok (.getfield 23, 3) := by decide +kernel
theorem dX4_undo_41 : decode cX4_undo 41 = .ok (.ireturn, 1) := by decide +kernel
set_option maxRecDepth 20000 in
theorem ggX4_covers_X2_craneAt : GoodIn wsX4_covers wsX2_craneAt := goodIn_r _ [6, 7, 8, 30, 31, 32, 33, 34, 35, 36, 37, 38, 39, 40, 41, 42] (by decide +kernel) (by decide +kernel)
set_option maxRecDepth 20000 in
theorem gX4_covers_X2_craneAt : GoodIn wsX4_covers (wsV RX4 67 RX2 yX2_craneAt wsX2_craneAt) := goodIn_app (goodIn_of _ (by decide +kernel)) ggX4_covers_X2_craneAt
set_option maxRecDepth 20000 in
theorem ggX4_covers_X4_isSwing : GoodIn wsX4_covers wsX4_isSwing := goodIn_r _ [12, 13, 14, 11, 15] (by decide +kernel) (by decide +kernel)
set_option maxRecDepth 20000 in
theorem gX4_covers_X4_isSwing : GoodIn wsX4_covers (va_wsS RX4 179 yX4_isSwing wsX4_isSwing) := goodIn_app (goodIn_of _ (by decide +kernel)) ggX4_covers_X4_isSwing
set_option maxRecDepth 20000 in
theorem ggX4_covers_X4_isCell : GoodIn wsX4_covers wsX4_isCell := goodIn_r _ [18, 13, 14, 11, 15] (by decide +kernel) (by decide +kernel)
set_option maxRecDepth 20000 in
theorem gX4_covers_X4_isCell : GoodIn wsX4_covers (va_wsS RX4 34 yX4_isCell wsX4_isCell) := goodIn_app (goodIn_of _ (by decide +kernel)) ggX4_covers_X4_isCell
set_option maxRecDepth 20000 in
theorem ggX4_covers_X0_airOf : GoodIn wsX4_covers wsX0_airOf := goodIn_r _ [23, 24, 43, 44, 45, 46, 47, 48, 49] (by decide +kernel) (by decide +kernel)
set_option maxRecDepth 20000 in
theorem gX4_covers_X0_airOf : GoodIn wsX4_covers (wsV RX4 182 RX0 yX0_airOf wsX0_airOf) := goodIn_app (goodIn_of _ (by decide +kernel)) ggX4_covers_X0_airOf
theorem dX4_covers_0 : decode cX4_covers 0 = .ok (.aload_n 0, 1) := by decide +kernel
theorem dX4_covers_1 : decode cX4_covers 1 = .ok (.getfield 10, 3) := by decide +kernel
theorem dX4_covers_4 : decode cX4_covers 4 = .ok (.iload_n 1, 1) := by decide +kernel
theorem dX4_covers_5 : decode cX4_covers 5 = .ok (.invokevirtual 67, 3) := by decide +kernel
theorem dX4_covers_8 : decode cX4_covers 8 = .ok (.astore 5, 2) := by decide +kernel
theorem dX4_covers_10 : decode cX4_covers 10 = .ok (.aload 5, 2) := by decide +kernel
theorem dX4_covers_12 : decode cX4_covers 12 = .ok (.ifnull 19, 3) := by decide +kernel
theorem dX4_covers_15 : decode cX4_covers 15 = .ok (.iload_n 2, 1) := by decide +kernel
theorem dX4_covers_16 : decode cX4_covers 16 = .ok (.invokestatic 179, 3) := by decide +kernel
theorem dX4_covers_19 : decode cX4_covers 19 = .ok (.ifCond .eq 12, 3) := by decide +kernel
theorem dX4_covers_22 : decode cX4_covers 22 = .ok (.iload_n 3, 1) := by decide +kernel
theorem dX4_covers_23 : decode cX4_covers 23 = .ok (.iload 4, 2) := by decide +kernel
theorem dX4_covers_25 : decode cX4_covers 25 = .ok (.invokestatic 34, 3) := by decide +kernel
theorem dX4_covers_28 : decode cX4_covers 28 = .ok (.ifCond .ne 7, 3) := by decide +kernel
theorem dX4_covers_31 : decode cX4_covers 31 = .ok (.sipush (-1001), 3) := by decide +kernel
theorem dX4_covers_34 : decode cX4_covers 34 = .ok (.ireturn, 1) := by decide +kernel
theorem dX4_covers_35 : decode cX4_covers 35 = .ok (.bipush 16, 2) := by decide +kernel
theorem dX4_covers_37 : decode cX4_covers 37 = .ok (.iload 4, 2) := by decide +kernel
theorem dX4_covers_39 : decode cX4_covers 39 = .ok (.imul, 1) := by decide +kernel
theorem dX4_covers_40 : decode cX4_covers 40 = .ok (.iload_n 3, 1) := by decide +kernel
theorem dX4_covers_41 : decode cX4_covers 41 = .ok (.iadd, 1) := by decide +kernel
theorem dX4_covers_42 : decode cX4_covers 42 = .ok (.istore 6, 2) := by decide +kernel
theorem dX4_covers_44 : decode cX4_covers 44 = .ok (.aload 5, 2) := by decide +kernel
theorem dX4_covers_46 : decode cX4_covers 46 = .ok (.iload_n 2, 1) := by decide +kernel
theorem dX4_covers_47 : decode cX4_covers 47 = .ok (.iload 6, 2) := by decide +kernel
theorem dX4_covers_49 : decode cX4_covers 49 = .ok (.bipush 64, 2) := by decide +kernel
theorem dX4_covers_51 : decode cX4_covers 51 = .ok (.idiv, 1) := by decide +kernel
theorem dX4_covers_52 : decode cX4_covers 52 = .ok (.invokevirtual 182, 3) := by decide +kernel
theorem dX4_covers_55 : decode cX4_covers 55 = .ok (.lstore 7, 2) := by decide +kernel
theorem dX4_covers_57 : decode cX4_covers 57 = .ok (.lload 7, 2) := by decide +kernel
theorem dX4_covers_59 : decode cX4_covers 59 = .ok (.iload 6, 2) := by decide +kernel
theorem dX4_covers_61 : decode cX4_covers 61 = .ok (.bipush 64, 2) := by decide +kernel
theorem dX4_covers_63 : decode cX4_covers 63 = .ok (.irem, 1) := by decide +kernel
theorem dX4_covers_64 : decode cX4_covers 64 = .ok (.lushr, 1) := by decide +kernel
theorem dX4_covers_65 : decode cX4_covers 65 = .ok (.lconst 1, 1) := by decide +kernel
theorem dX4_covers_66 : decode cX4_covers 66 = .ok (.land, 1) := by decide +kernel
theorem dX4_covers_67 : decode cX4_covers 67 = .ok (.lconst 0, 1) := by decide +kernel
theorem dX4_covers_68 : decode cX4_covers 68 = .ok (.lcmp, 1) := by decide +kernel
theorem dX4_covers_69 : decode cX4_covers 69 = .ok (.ifCond .ne 7, 3) := by decide +kernel
theorem dX4_covers_72 : decode cX4_covers 72 = .ok (.iconst 0, 1) := by decide +kernel
theorem dX4_covers_73 : decode cX4_covers 73 = .ok (.goto 4, 3) := by decide +kernel
theorem dX4_covers_76 : decode cX4_covers 76 = .ok (.iconst 1, 1) := by decide +kernel
theorem dX4_covers_77 : decode cX4_covers 77 = .ok (.ireturn, 1) := by decide +kernel
set_option maxRecDepth 20000 in
theorem ggX4_area_X2_craneAt : GoodIn wsX4_area wsX2_craneAt := goodIn_r _ [6, 7, 8, 34, 35, 36, 37, 38, 39, 40, 41, 42, 43, 44, 45, 46] (by decide +kernel) (by decide +kernel)
set_option maxRecDepth 20000 in
theorem gX4_area_X2_craneAt : GoodIn wsX4_area (wsV RX4 67 RX2 yX2_craneAt wsX2_craneAt) := goodIn_app (goodIn_of _ (by decide +kernel)) ggX4_area_X2_craneAt
set_option maxRecDepth 20000 in
theorem ggX4_area_X4_isSwing : GoodIn wsX4_area wsX4_isSwing := goodIn_r _ [12, 13, 14, 11, 15] (by decide +kernel) (by decide +kernel)
set_option maxRecDepth 20000 in
theorem gX4_area_X4_isSwing : GoodIn wsX4_area (va_wsS RX4 179 yX4_isSwing wsX4_isSwing) := goodIn_app (goodIn_of _ (by decide +kernel)) ggX4_area_X4_isSwing
set_option maxRecDepth 20000 in
theorem ggX4_area_X0_airOf : GoodIn wsX4_area wsX0_airOf := goodIn_r _ [20, 21, 47, 48, 49, 50, 51, 52, 53] (by decide +kernel) (by decide +kernel)
set_option maxRecDepth 20000 in
theorem gX4_area_X0_airOf : GoodIn wsX4_area (wsV RX4 182 RX0 yX0_airOf wsX0_airOf) := goodIn_app (goodIn_of _ (by decide +kernel)) ggX4_area_X0_airOf
set_option maxRecDepth 20000 in
theorem ggX4_area_J13_bitCount_95d88 : GoodIn wsX4_area wsJ13_bitCount_95d88 := goodIn_r _ [25, 26, 27, 28] (by decide +kernel) (by decide +kernel)
set_option maxRecDepth 20000 in
theorem gX4_area_J13_bitCount_95d88 : GoodIn wsX4_area (va_wsS RX4 186 yJ13_bitCount_95d88 wsJ13_bitCount_95d88) := goodIn_app (goodIn_of _ (by decide +kernel)) ggX4_area_J13_bitCount_95d88
theorem dX4_area_0 : decode cX4_area 0 = .ok (.aload_n 0, 1) := by decide +kernel
theorem dX4_area_1 : decode cX4_area 1 = .ok (.getfield 10, 3) := by decide +kernel
theorem dX4_area_4 : decode cX4_area 4 = .ok (.iload_n 1, 1) := by decide +kernel
theorem dX4_area_5 : decode cX4_area 5 = .ok (.invokevirtual 67, 3) := by decide +kernel
theorem dX4_area_8 : decode cX4_area 8 = .ok (.astore_n 3, 1) := by decide +kernel
theorem dX4_area_9 : decode cX4_area 9 = .ok (.aload_n 3, 1) := by decide +kernel
theorem dX4_area_10 : decode cX4_area 10 = .ok (.ifnull 10, 3) := by decide +kernel
theorem dX4_area_13 : decode cX4_area 13 = .ok (.iload_n 2, 1) := by decide +kernel
theorem dX4_area_14 : decode cX4_area 14 = .ok (.invokestatic 179, 3) := by decide +kernel
theorem dX4_area_17 : decode cX4_area 17 = .ok (.ifCond .ne 7, 3) := by decide +kernel
theorem dX4_area_20 : decode cX4_area 20 = .ok (.sipush (-1001), 3) := by decide +kernel
theorem dX4_area_23 : decode cX4_area 23 = .ok (.ireturn, 1) := by decide +kernel
theorem dX4_area_24 : decode cX4_area 24 = .ok (.iconst 0, 1) := by decide +kernel
theorem dX4_area_25 : decode cX4_area 25 = .ok (.istore 4, 2) := by decide +kernel
theorem dX4_area_27 : decode cX4_area 27 = .ok (.iconst 0, 1) := by decide +kernel
theorem dX4_area_28 : decode cX4_area 28 = .ok (.istore 5, 2) := by decide +kernel
theorem dX4_area_30 : decode cX4_area 30 = .ok (.iload 5, 2) := by decide +kernel
theorem dX4_area_32 : decode cX4_area 32 = .ok (.iconst 4, 1) := by decide +kernel
theorem dX4_area_33 : decode cX4_area 33 = .ok (.if_icmp .ge 24, 3) := by decide +kernel
theorem dX4_area_36 : decode cX4_area 36 = .ok (.iload 4, 2) := by decide +kernel
theorem dX4_area_38 : decode cX4_area 38 = .ok (.aload_n 3, 1) := by decide +kernel
theorem dX4_area_39 : decode cX4_area 39 = .ok (.iload_n 2, 1) := by decide +kernel
theorem dX4_area_40 : decode cX4_area 40 = .ok (.iload 5, 2) := by decide +kernel
theorem dX4_area_42 : decode cX4_area 42 = .ok (.invokevirtual 182, 3) := by decide +kernel
theorem dX4_area_45 : decode cX4_area 45 = .ok (.invokestatic 186, 3) := by decide +kernel
theorem dX4_area_48 : decode cX4_area 48 = .ok (.iadd, 1) := by decide +kernel
theorem dX4_area_49 : decode cX4_area 49 = .ok (.istore 4, 2) := by decide +kernel
theorem dX4_area_51 : decode cX4_area 51 = .ok (.iinc 5 1, 3) := by decide +kernel
theorem dX4_area_54 : decode cX4_area 54 = .ok (.goto (-24), 3) := by decide +kernel
theorem dX4_area_57 : decode cX4_area 57 = .ok (.iload 4, 2) := by decide +kernel
theorem dX4_area_59 : decode cX4_area 59 = .ok (.ireturn, 1) := by decide +kernel
set_option maxRecDepth 20000 in
theorem ggX4_refusal_X2_craneAt : GoodIn wsX4_refusal wsX2_craneAt := goodIn_r _ [6, 7, 8, 119, 120, 121, 122, 123, 124, 125, 126, 127, 128, 129, 130, 131] (by decide +kernel) (by decide +kernel)
set_option maxRecDepth 20000 in
theorem gX4_refusal_X2_craneAt : GoodIn wsX4_refusal (wsV RX4 67 RX2 yX2_craneAt wsX2_craneAt) := goodIn_app (goodIn_of _ (by decide +kernel)) ggX4_refusal_X2_craneAt
set_option maxRecDepth 20000 in
theorem ggX4_refusal_X4_isPlan : GoodIn wsX4_refusal wsX4_isPlan := goodIn_r _ [12, 13, 14, 11, 15, 16, 17, 18, 19, 20, 21] (by decide +kernel) (by decide +kernel)
set_option maxRecDepth 20000 in
theorem gX4_refusal_X4_isPlan : GoodIn wsX4_refusal (va_wsS RX4 192 yX4_isPlan wsX4_isPlan) := goodIn_app (goodIn_of _ (by decide +kernel)) ggX4_refusal_X4_isPlan
set_option maxRecDepth 20000 in
theorem ggX4_refusal_X2_refusalOf : GoodIn wsX4_refusal wsX2_refusalOf := goodIn_r _ [25, 26, 27, 28, 29, 5, 30, 31, 32, 33, 34, 35, 36, 37, 38, 39, 40, 41, 42, 43, 44, 45, 46, 47, 48, 49, 50, 51, 52, 53, 54, 55, 56, 11, 57, 58, 59, 60, 61, 62, 63, 64, 65, 66, 67, 68, 69, 70, 71, 72, 73, 74, 75, 76, 77, 78, 79, 80, 81, 82, 83, 84, 85, 86, 87, 88, 89, 90, 91, 92, 93, 94, 95, 96, 97, 98, 99, 100, 101, 102, 103, 104, 105, 106, 107, 108, 109, 110, 111, 112, 113, 132, 133, 134, 135, 136, 137, 138, 119, 120, 121, 122, 123, 124, 125, 126, 127, 128, 129, 130, 131, 139, 140, 141, 142, 143, 144, 145] (by decide +kernel) (by decide +kernel)
set_option maxRecDepth 20000 in
theorem gX4_refusal_X2_refusalOf : GoodIn wsX4_refusal (wsV RX4 195 RX2 yX2_refusalOf wsX2_refusalOf) := goodIn_app (goodIn_of _ (by decide +kernel)) ggX4_refusal_X2_refusalOf
theorem dX4_refusal_0 : decode cX4_refusal 0 = .ok (.aload_n 0, 1) := by decide +kernel
theorem dX4_refusal_1 : decode cX4_refusal 1 = .ok (.getfield 10, 3) := by decide +kernel
theorem dX4_refusal_4 : decode cX4_refusal 4 = .ok (.iload_n 1, 1) := by decide +kernel
theorem dX4_refusal_5 : decode cX4_refusal 5 = .ok (.invokevirtual 67, 3) := by decide +kernel
theorem dX4_refusal_8 : decode cX4_refusal 8 = .ok (.astore 5, 2) := by decide +kernel
theorem dX4_refusal_10 : decode cX4_refusal 10 = .ok (.aload 5, 2) := by decide +kernel
theorem dX4_refusal_12 : decode cX4_refusal 12 = .ok (.ifnull 13, 3) := by decide +kernel
theorem dX4_refusal_15 : decode cX4_refusal 15 = .ok (.iload_n 2, 1) := by decide +kernel
theorem dX4_refusal_16 : decode cX4_refusal 16 = .ok (.iload_n 3, 1) := by decide +kernel
theorem dX4_refusal_17 : decode cX4_refusal 17 = .ok (.iload 4, 2) := by decide +kernel
theorem dX4_refusal_19 : decode cX4_refusal 19 = .ok (.invokestatic 192, 3) := by decide +kernel
theorem dX4_refusal_22 : decode cX4_refusal 22 = .ok (.ifCond .ne 7, 3) := by decide +kernel
theorem dX4_refusal_25 : decode cX4_refusal 25 = .ok (.sipush (-1001), 3) := by decide +kernel
theorem dX4_refusal_28 : decode cX4_refusal 28 = .ok (.ireturn, 1) := by decide +kernel
theorem dX4_refusal_29 : decode cX4_refusal 29 = .ok (.aload_n 0, 1) := by decide +kernel
theorem dX4_refusal_30 : decode cX4_refusal 30 = .ok (.getfield 10, 3) := by decide +kernel
theorem dX4_refusal_33 : decode cX4_refusal 33 = .ok (.aload 5, 2) := by decide +kernel
theorem dX4_refusal_35 : decode cX4_refusal 35 = .ok (.iload_n 2, 1) := by decide +kernel
theorem dX4_refusal_36 : decode cX4_refusal 36 = .ok (.iload_n 3, 1) := by decide +kernel
theorem dX4_refusal_37 : decode cX4_refusal 37 = .ok (.iload 4, 2) := by decide +kernel
theorem dX4_refusal_39 : decode cX4_refusal 39 = .ok (.invokevirtual 195, 3) := by decide +kernel
theorem dX4_refusal_42 : decode cX4_refusal 42 = .ok (.ireturn, 1) := by decide +kernel
set_option maxRecDepth 20000 in
theorem ggX4_apply_X2_craneAt : GoodIn wsX4_apply wsX2_craneAt := goodIn_r _ [11, 12, 13, 174, 175, 176, 177, 178, 179, 180, 181, 182, 183, 184, 185, 186] (by decide +kernel) (by decide +kernel)
set_option maxRecDepth 20000 in
theorem gX4_apply_X2_craneAt : GoodIn wsX4_apply (wsV RX4 67 RX2 yX2_craneAt wsX2_craneAt) := goodIn_app (goodIn_of _ (by decide +kernel)) ggX4_apply_X2_craneAt
set_option maxRecDepth 20000 in
theorem ggX4_apply_X4_isPlan : GoodIn wsX4_apply wsX4_isPlan := goodIn_r _ [17, 18, 19, 16, 20, 21, 22, 23, 24, 25, 26] (by decide +kernel) (by decide +kernel)
set_option maxRecDepth 20000 in
theorem gX4_apply_X4_isPlan : GoodIn wsX4_apply (va_wsS RX4 192 yX4_isPlan wsX4_isPlan) := goodIn_app (goodIn_of _ (by decide +kernel)) ggX4_apply_X4_isPlan
set_option maxRecDepth 20000 in
theorem ggX4_apply_X2_refusalOf : GoodIn wsX4_apply wsX2_refusalOf := goodIn_r _ [30, 31, 32, 33, 34, 10, 35, 36, 37, 38, 39, 40, 41, 42, 43, 44, 4, 45, 46, 47, 48, 49, 50, 51, 52, 53, 54, 55, 56, 57, 58, 59, 60, 16, 61, 62, 63, 64, 65, 66, 67, 68, 69, 70, 71, 72, 73, 74, 75, 76, 77, 78, 79, 80, 81, 82, 83, 84, 85, 86, 87, 88, 89, 90, 91, 92, 93, 94, 95, 96, 97, 98, 99, 100, 101, 102, 103, 104, 105, 106, 107, 108, 109, 110, 111, 112, 113, 114, 115, 116, 117, 187, 188, 189, 190, 191, 192, 193, 174, 175, 176, 177, 178, 179, 180, 181, 182, 183, 184, 185, 186, 167, 168, 169, 170, 171, 172, 173] (by decide +kernel) (by decide +kernel)
set_option maxRecDepth 20000 in
theorem gX4_apply_X2_refusalOf : GoodIn wsX4_apply (wsV RX4 195 RX2 yX2_refusalOf wsX2_refusalOf) := goodIn_app (goodIn_of _ (by decide +kernel)) ggX4_apply_X2_refusalOf
set_option maxRecDepth 20000 in
theorem ggX4_apply_X2_hasRoom : GoodIn wsX4_apply wsX2_hasRoom := goodIn_r _ [121, 36, 122, 174, 175, 176, 177, 178, 179, 180, 181, 182, 183, 184, 185, 186] (by decide +kernel) (by decide +kernel)
set_option maxRecDepth 20000 in
theorem gX4_apply_X2_hasRoom : GoodIn wsX4_apply (wsV RX4 199 RX2 yX2_hasRoom wsX2_hasRoom) := goodIn_app (goodIn_of _ (by decide +kernel)) ggX4_apply_X2_hasRoom
set_option maxRecDepth 20000 in
theorem ggX4_apply_X4_remember : GoodIn wsX4_apply wsX4_remember := goodIn_r _ [126, 127, 128, 1, 129, 130, 131, 16, 132, 133, 134, 135, 136, 137, 138, 139, 10, 140, 13, 141, 142, 143, 144, 12, 103, 66, 59, 117, 109, 110, 145, 122, 146, 41, 36, 162, 163, 164, 165, 166, 174, 175, 176, 177, 178, 179, 180, 181, 182, 183, 184, 185, 186] (by decide +kernel) (by decide +kernel)
set_option maxRecDepth 20000 in
theorem gX4_apply_X4_remember : GoodIn wsX4_apply (wsV RX4 52 RX4 yX4_remember wsX4_remember) := goodIn_app (goodIn_of _ (by decide +kernel)) ggX4_apply_X4_remember
set_option maxRecDepth 20000 in
theorem ggX4_apply_X1_init : GoodIn wsX4_apply wsX1_init := goodIn_r _ [149, 150, 151, 152, 153, 46, 54, 154, 53, 52, 155, 167, 168, 169, 170, 171, 172, 173] (by decide +kernel) (by decide +kernel)
set_option maxRecDepth 20000 in
theorem gX4_apply_X1_init : GoodIn wsX4_apply (wsX1_init) := ggX4_apply_X1_init
set_option maxRecDepth 20000 in
theorem ggX4_apply_X2_grant : GoodIn wsX4_apply wsX2_grant := goodIn_r _ [159, 36, 41, 122, 145, 146, 160, 16, 161, 174, 175, 176, 177, 178, 179, 180, 181, 182, 183, 184, 185, 186] (by decide +kernel) (by decide +kernel)
set_option maxRecDepth 20000 in
theorem gX4_apply_X2_grant : GoodIn wsX4_apply (wsV RX4 208 RX2 yX2_grant wsX2_grant) := goodIn_app (goodIn_of _ (by decide +kernel)) ggX4_apply_X2_grant
theorem dX4_apply_0 : decode cX4_apply 0 = .ok (.aload_n 0, 1) := by decide +kernel
theorem dX4_apply_1 : decode cX4_apply 1 = .ok (.getfield 10, 3) := by decide +kernel
theorem dX4_apply_4 : decode cX4_apply 4 = .ok (.iload_n 1, 1) := by decide +kernel
theorem dX4_apply_5 : decode cX4_apply 5 = .ok (.invokevirtual 67, 3) := by decide +kernel
theorem dX4_apply_8 : decode cX4_apply 8 = .ok (.astore 5, 2) := by decide +kernel
theorem dX4_apply_10 : decode cX4_apply 10 = .ok (.aload 5, 2) := by decide +kernel
theorem dX4_apply_12 : decode cX4_apply 12 = .ok (.ifnull 13, 3) := by decide +kernel
theorem dX4_apply_15 : decode cX4_apply 15 = .ok (.iload_n 2, 1) := by decide +kernel
theorem dX4_apply_16 : decode cX4_apply 16 = .ok (.iload_n 3, 1) := by decide +kernel
theorem dX4_apply_17 : decode cX4_apply 17 = .ok (.iload 4, 2) := by decide +kernel
theorem dX4_apply_19 : decode cX4_apply 19 = .ok (.invokestatic 192, 3) := by decide +kernel
theorem dX4_apply_22 : decode cX4_apply 22 = .ok (.ifCond .ne 7, 3) := by decide +kernel
theorem dX4_apply_25 : decode cX4_apply 25 = .ok (.sipush (-1001), 3) := by decide +kernel
theorem dX4_apply_28 : decode cX4_apply 28 = .ok (.ireturn, 1) := by decide +kernel
theorem dX4_apply_29 : decode cX4_apply 29 = .ok (.aload_n 0, 1) := by decide +kernel
theorem dX4_apply_30 : decode cX4_apply 30 = .ok (.getfield 10, 3) := by decide +kernel
theorem dX4_apply_33 : decode cX4_apply 33 = .ok (.aload 5, 2) := by decide +kernel
theorem dX4_apply_35 : decode cX4_apply 35 = .ok (.iload_n 2, 1) := by decide +kernel
theorem dX4_apply_36 : decode cX4_apply 36 = .ok (.iload_n 3, 1) := by decide +kernel
theorem dX4_apply_37 : decode cX4_apply 37 = .ok (.iload 4, 2) := by decide +kernel
theorem dX4_apply_39 : decode cX4_apply 39 = .ok (.invokevirtual 195, 3) := by decide +kernel
theorem dX4_apply_42 : decode cX4_apply 42 = .ok (.ifCond .eq 7, 3) := by decide +kernel
theorem dX4_apply_45 : decode cX4_apply 45 = .ok (.sipush (-1002), 3) := by decide +kernel
theorem dX4_apply_48 : decode cX4_apply 48 = .ok (.ireturn, 1) := by decide +kernel
theorem dX4_apply_49 : decode cX4_apply 49 = .ok (.aload_n 0, 1) := by decide +kernel
theorem dX4_apply_50 : decode cX4_apply 50 = .ok (.getfield 10, 3) := by decide +kernel
theorem dX4_apply_53 : decode cX4_apply 53 = .ok (.invokevirtual 199, 3) := by decide +kernel
theorem dX4_apply_56 : decode cX4_apply 56 = .ok (.ifCond .ne 7, 3) := by decide +kernel
theorem dX4_apply_59 : decode cX4_apply 59 = .ok (.sipush (-1003), 3) := by decide +kernel
theorem dX4_apply_62 : decode cX4_apply 62 = .ok (.ireturn, 1) := by decide +kernel
theorem dX4_apply_63 : decode cX4_apply 63 = .ok (.aload_n 0, 1) := by decide +kernel
theorem dX4_apply_64 : decode cX4_apply 64 = .ok (.invokevirtual 52, 3) := by decide +kernel
theorem dX4_apply_67 : decode cX4_apply 67 = .ok (.new 203, 3) := by decide +kernel
theorem dX4_apply_70 : decode cX4_apply 70 = .ok (.dup, 1) := by decide +kernel
theorem dX4_apply_71 : decode cX4_apply 71 = .ok (.aload_n 0, 1) := by decide +kernel
theorem dX4_apply_72 : decode cX4_apply 72 = .ok (.getfield 10, 3) := by decide +kernel
theorem dX4_apply_75 : decode cX4_apply 75 = .ok (.getfield 155, 3) := by decide +kernel
theorem dX4_apply_78 : decode cX4_apply 78 = .ok (.aload 5, 2) := by decide +kernel
theorem dX4_apply_80 : decode cX4_apply 80 = .ok (.iload_n 2, 1) := by decide +kernel
theorem dX4_apply_81 : decode cX4_apply 81 = .ok (.iload_n 3, 1) := by decide +kernel
theorem dX4_apply_82 : decode cX4_apply 82 = .ok (.iload 4, 2) := by decide +kernel
theorem dX4_apply_84 : decode cX4_apply 84 = .ok (.invokespecial 205, 3) := by decide +kernel
theorem dX4_apply_87 : decode cX4_apply 87 = .ok (.astore 6, 2) := by decide +kernel
theorem dX4_apply_89 : decode cX4_apply 89 = .ok (.aload_n 0, 1) := by decide +kernel
theorem dX4_apply_90 : decode cX4_apply 90 = .ok (.getfield 10, 3) := by decide +kernel
theorem dX4_apply_93 : decode cX4_apply 93 = .ok (.aload 6, 2) := by decide +kernel
theorem dX4_apply_95 : decode cX4_apply 95 = .ok (.invokevirtual 208, 3) := by decide +kernel
theorem dX4_apply_98 : decode cX4_apply 98 = .ok (.aload 6, 2) := by decide +kernel
theorem dX4_apply_100 : decode cX4_apply 100 = .ok (.getfield 212, 3) := by decide +kernel
theorem dX4_apply_103 : decode cX4_apply 103 = .ok (.ireturn, 1) := by decide +kernel
set_option maxRecDepth 20000 in
theorem ggX4_withdraw_X2_permitAt : GoodIn wsX4_withdraw wsX2_permitAt := goodIn_r _ [10, 11, 12, 71, 72, 73, 74, 75, 76, 77, 78, 79, 80, 81, 82, 83] (by decide +kernel) (by decide +kernel)
set_option maxRecDepth 20000 in
theorem gX4_withdraw_X2_permitAt : GoodIn wsX4_withdraw (wsV RX4 213 RX2 yX2_permitAt wsX2_permitAt) := goodIn_app (goodIn_of _ (by decide +kernel)) ggX4_withdraw_X2_permitAt
set_option maxRecDepth 20000 in
theorem ggX4_withdraw_X4_at : GoodIn wsX4_withdraw wsX4_at := goodIn_r _ [16] (by decide +kernel) (by decide +kernel)
set_option maxRecDepth 20000 in
theorem gX4_withdraw_X4_at : GoodIn wsX4_withdraw (va_wsS RX4 98 yX4_at wsX4_at) := goodIn_app (goodIn_of _ (by decide +kernel)) ggX4_withdraw_X4_at
set_option maxRecDepth 20000 in
theorem ggX4_withdraw_X4_remember : GoodIn wsX4_withdraw wsX4_remember := goodIn_r _ [20, 21, 22, 1, 23, 24, 25, 15, 26, 27, 28, 29, 30, 31, 32, 33, 9, 34, 35, 36, 37, 38, 39, 40, 41, 42, 43, 44, 45, 46, 12, 11, 47, 48, 49, 66, 67, 68, 69, 70, 71, 72, 73, 74, 75, 76, 77, 78, 79, 80, 81, 82, 83] (by decide +kernel) (by decide +kernel)
set_option maxRecDepth 20000 in
theorem gX4_withdraw_X4_remember : GoodIn wsX4_withdraw (wsV RX4 52 RX4 yX4_remember wsX4_remember) := goodIn_app (goodIn_of _ (by decide +kernel)) ggX4_withdraw_X4_remember
set_option maxRecDepth 20000 in
theorem ggX4_withdraw_X2_end : GoodIn wsX4_withdraw wsX2_end := goodIn_r _ [53, 47, 54, 49, 48, 55, 15, 56, 57, 58, 59, 9, 60, 71, 72, 73, 74, 75, 76, 77, 78, 79, 80, 81, 82, 83, 84, 85, 86, 87, 88, 89, 90] (by decide +kernel) (by decide +kernel)
set_option maxRecDepth 20000 in
theorem gX4_withdraw_X2_end : GoodIn wsX4_withdraw (wsV RX4 220 RX2 yX2_end wsX2_end) := goodIn_app (goodIn_of _ (by decide +kernel)) ggX4_withdraw_X2_end
set_option maxRecDepth 20000 in
theorem ggX4_withdraw_X2_useOf : GoodIn wsX4_withdraw wsX2_useOf := goodIn_r _ [64, 41, 65, 14, 15, 16, 71, 72, 73, 74, 75, 76, 77, 78, 79, 80, 81, 82, 83, 91, 92, 93, 94, 95, 96, 97] (by decide +kernel) (by decide +kernel)
set_option maxRecDepth 20000 in
theorem gX4_withdraw_X2_useOf : GoodIn wsX4_withdraw (wsV RX4 231 RX2 yX2_useOf wsX2_useOf) := goodIn_app (goodIn_of _ (by decide +kernel)) ggX4_withdraw_X2_useOf
theorem dX4_withdraw_0 : decode cX4_withdraw 0 = .ok (.aload_n 0, 1) := by decide +kernel
theorem dX4_withdraw_1 : decode cX4_withdraw 1 = .ok (.getfield 10, 3) := by decide +kernel
theorem dX4_withdraw_4 : decode cX4_withdraw 4 = .ok (.iload_n 1, 1) := by decide +kernel
theorem dX4_withdraw_5 : decode cX4_withdraw 5 = .ok (.invokevirtual 213, 3) := by decide +kernel
theorem dX4_withdraw_8 : decode cX4_withdraw 8 = .ok (.astore_n 2, 1) := by decide +kernel
theorem dX4_withdraw_9 : decode cX4_withdraw 9 = .ok (.aload_n 2, 1) := by decide +kernel
theorem dX4_withdraw_10 : decode cX4_withdraw 10 = .ok (.ifnonnull 7, 3) := by decide +kernel
theorem dX4_withdraw_13 : decode cX4_withdraw 13 = .ok (.sipush (-1001), 3) := by decide +kernel
theorem dX4_withdraw_16 : decode cX4_withdraw 16 = .ok (.ireturn, 1) := by decide +kernel
theorem dX4_withdraw_17 : decode cX4_withdraw 17 = .ok (.aload_n 0, 1) := by decide +kernel
theorem dX4_withdraw_18 : decode cX4_withdraw 18 = .ok (.getfield 10, 3) := by decide +kernel
theorem dX4_withdraw_21 : decode cX4_withdraw 21 = .ok (.getfield 217, 3) := by decide +kernel
theorem dX4_withdraw_24 : decode cX4_withdraw 24 = .ok (.aload_n 2, 1) := by decide +kernel
theorem dX4_withdraw_25 : decode cX4_withdraw 25 = .ok (.getfield 212, 3) := by decide +kernel
theorem dX4_withdraw_28 : decode cX4_withdraw 28 = .ok (.invokestatic 98, 3) := by decide +kernel
theorem dX4_withdraw_31 : decode cX4_withdraw 31 = .ok (.iconst 1, 1) := by decide +kernel
theorem dX4_withdraw_32 : decode cX4_withdraw 32 = .ok (.if_icmp .eq 7, 3) := by decide +kernel
theorem dX4_withdraw_35 : decode cX4_withdraw 35 = .ok (.sipush (-1002), 3) := by decide +kernel
theorem dX4_withdraw_38 : decode cX4_withdraw 38 = .ok (.ireturn, 1) := by decide +kernel
theorem dX4_withdraw_39 : decode cX4_withdraw 39 = .ok (.aload_n 0, 1) := by decide +kernel
theorem dX4_withdraw_40 : decode cX4_withdraw 40 = .ok (.invokevirtual 52, 3) := by decide +kernel
theorem dX4_withdraw_43 : decode cX4_withdraw 43 = .ok (.aload_n 0, 1) := by decide +kernel
theorem dX4_withdraw_44 : decode cX4_withdraw 44 = .ok (.getfield 10, 3) := by decide +kernel
theorem dX4_withdraw_47 : decode cX4_withdraw 47 = .ok (.aload_n 2, 1) := by decide +kernel
theorem dX4_withdraw_48 : decode cX4_withdraw 48 = .ok (.iconst 2, 1) := by decide +kernel
theorem dX4_withdraw_49 : decode cX4_withdraw 49 = .ok (.invokevirtual 220, 3) := by decide +kernel
theorem dX4_withdraw_52 : decode cX4_withdraw 52 = .ok (.aload_n 0, 1) := by decide +kernel
theorem dX4_withdraw_53 : decode cX4_withdraw 53 = .ok (.getfield 10, 3) := by decide +kernel
theorem dX4_withdraw_56 : decode cX4_withdraw 56 = .ok (.aload_n 2, 1) := by decide +kernel
theorem dX4_withdraw_57 : decode cX4_withdraw 57 = .ok (.getfield 224, 3) := by decide +kernel
theorem dX4_withdraw_60 : decode cX4_withdraw 60 = .ok (.aload_n 2, 1) := by decide +kernel
theorem dX4_withdraw_61 : decode cX4_withdraw 61 = .ok (.getfield 228, 3) := by decide +kernel
theorem dX4_withdraw_64 : decode cX4_withdraw 64 = .ok (.invokevirtual 231, 3) := by decide +kernel
theorem dX4_withdraw_67 : decode cX4_withdraw 67 = .ok (.ireturn, 1) := by decide +kernel
set_option maxRecDepth 20000 in
theorem ggX4_permit_X2_permitAt : GoodIn wsX4_permit wsX2_permitAt := goodIn_r _ [13, 14, 15, 45, 46, 47, 48, 49, 50, 51, 52, 53, 54, 55, 56, 57] (by decide +kernel) (by decide +kernel)
set_option maxRecDepth 20000 in
theorem gX4_permit_X2_permitAt : GoodIn wsX4_permit (wsV RX4 213 RX2 yX2_permitAt wsX2_permitAt) := goodIn_app (goodIn_of _ (by decide +kernel)) ggX4_permit_X2_permitAt
set_option maxRecDepth 20000 in
theorem ggX4_permit_X2_useOf : GoodIn wsX4_permit wsX2_useOf := goodIn_r _ [19, 20, 21, 22, 23, 24, 45, 46, 47, 48, 49, 50, 51, 52, 53, 54, 55, 56, 57, 38, 39, 40, 41, 42, 43, 44] (by decide +kernel) (by decide +kernel)
set_option maxRecDepth 20000 in
theorem gX4_permit_X2_useOf : GoodIn wsX4_permit (wsV RX4 231 RX2 yX2_useOf wsX2_useOf) := goodIn_app (goodIn_of _ (by decide +kernel)) ggX4_permit_X2_useOf
set_option maxRecDepth 20000 in
theorem ggX4_permit_X4_at : GoodIn wsX4_permit wsX4_at := goodIn_r _ [24] (by decide +kernel) (by decide +kernel)
set_option maxRecDepth 20000 in
theorem gX4_permit_X4_at : GoodIn wsX4_permit (va_wsS RX4 98 yX4_at wsX4_at) := goodIn_app (goodIn_of _ (by decide +kernel)) ggX4_permit_X4_at
theorem dX4_permit_0 : decode cX4_permit 0 = .ok (.aload_n 0, 1) := by decide +kernel
theorem dX4_permit_1 : decode cX4_permit 1 = .ok (.getfield 10, 3) := by decide +kernel
theorem dX4_permit_4 : decode cX4_permit 4 = .ok (.iload_n 1, 1) := by decide +kernel
theorem dX4_permit_5 : decode cX4_permit 5 = .ok (.invokevirtual 213, 3) := by decide +kernel
theorem dX4_permit_8 : decode cX4_permit 8 = .ok (.astore_n 3, 1) := by decide +kernel
theorem dX4_permit_9 : decode cX4_permit 9 = .ok (.aload_n 3, 1) := by decide +kernel
theorem dX4_permit_10 : decode cX4_permit 10 = .ok (.ifnonnull 7, 3) := by decide +kernel
theorem dX4_permit_13 : decode cX4_permit 13 = .ok (.sipush (-1001), 3) := by decide +kernel
theorem dX4_permit_16 : decode cX4_permit 16 = .ok (.ireturn, 1) := by decide +kernel
theorem dX4_permit_17 : decode cX4_permit 17 = .ok (.iload_n 2, 1) := by decide +kernel
theorem dX4_permit_18 : decode cX4_permit 18 = .ok (.tableswitch 92 0 5 #[38, 46, 51, 56, 61, 77], 38) := by decide +kernel
theorem dX4_permit_56 : decode cX4_permit 56 = .ok (.aload_n 3, 1) := by decide +kernel
theorem dX4_permit_57 : decode cX4_permit 57 = .ok (.getfield 224, 3) := by decide +kernel
theorem dX4_permit_60 : decode cX4_permit 60 = .ok (.getfield 64, 3) := by decide +kernel
theorem dX4_permit_63 : decode cX4_permit 63 = .ok (.ireturn, 1) := by decide +kernel
theorem dX4_permit_64 : decode cX4_permit 64 = .ok (.aload_n 3, 1) := by decide +kernel
theorem dX4_permit_65 : decode cX4_permit 65 = .ok (.getfield 235, 3) := by decide +kernel
theorem dX4_permit_68 : decode cX4_permit 68 = .ok (.ireturn, 1) := by decide +kernel
theorem dX4_permit_69 : decode cX4_permit 69 = .ok (.aload_n 3, 1) := by decide +kernel
theorem dX4_permit_70 : decode cX4_permit 70 = .ok (.getfield 228, 3) := by decide +kernel
theorem dX4_permit_73 : decode cX4_permit 73 = .ok (.ireturn, 1) := by decide +kernel
theorem dX4_permit_74 : decode cX4_permit 74 = .ok (.aload_n 3, 1) := by decide +kernel
theorem dX4_permit_75 : decode cX4_permit 75 = .ok (.getfield 238, 3) := by decide +kernel
theorem dX4_permit_78 : decode cX4_permit 78 = .ok (.ireturn, 1) := by decide +kernel
theorem dX4_permit_79 : decode cX4_permit 79 = .ok (.aload_n 0, 1) := by decide +kernel
theorem dX4_permit_80 : decode cX4_permit 80 = .ok (.getfield 10, 3) := by decide +kernel
theorem dX4_permit_83 : decode cX4_permit 83 = .ok (.aload_n 3, 1) := by decide +kernel
theorem dX4_permit_84 : decode cX4_permit 84 = .ok (.getfield 224, 3) := by decide +kernel
theorem dX4_permit_87 : decode cX4_permit 87 = .ok (.aload_n 3, 1) := by decide +kernel
theorem dX4_permit_88 : decode cX4_permit 88 = .ok (.getfield 228, 3) := by decide +kernel
theorem dX4_permit_91 : decode cX4_permit 91 = .ok (.invokevirtual 231, 3) := by decide +kernel
theorem dX4_permit_94 : decode cX4_permit 94 = .ok (.ireturn, 1) := by decide +kernel
theorem dX4_permit_95 : decode cX4_permit 95 = .ok (.aload_n 0, 1) := by decide +kernel
theorem dX4_permit_96 : decode cX4_permit 96 = .ok (.getfield 10, 3) := by decide +kernel
theorem dX4_permit_99 : decode cX4_permit 99 = .ok (.getfield 217, 3) := by decide +kernel
theorem dX4_permit_102 : decode cX4_permit 102 = .ok (.aload_n 3, 1) := by decide +kernel
theorem dX4_permit_103 : decode cX4_permit 103 = .ok (.getfield 212, 3) := by decide +kernel
theorem dX4_permit_106 : decode cX4_permit 106 = .ok (.invokestatic 98, 3) := by decide +kernel
theorem dX4_permit_109 : decode cX4_permit 109 = .ok (.ireturn, 1) := by decide +kernel
theorem dX4_permit_110 : decode cX4_permit 110 = .ok (.sipush (-1001), 3) := by decide +kernel
theorem dX4_permit_113 : decode cX4_permit 113 = .ok (.ireturn, 1) := by decide +kernel
set_option maxRecDepth 20000 in
theorem ggX4_inOrder_X2_validAt : GoodIn wsX4_inOrder wsX2_validAt := goodIn_r _ [8, 9, 10, 29, 30, 31, 32, 33, 34, 35, 36, 37, 38, 39, 40, 41] (by decide +kernel) (by decide +kernel)
set_option maxRecDepth 20000 in
theorem gX4_inOrder_X2_validAt : GoodIn wsX4_inOrder (wsV RX4 241 RX2 yX2_validAt wsX2_validAt) := goodIn_app (goodIn_of _ (by decide +kernel)) ggX4_inOrder_X2_validAt
set_option maxRecDepth 20000 in
theorem ggX4_inOrder_X2_validAhead : GoodIn wsX4_inOrder wsX2_validAhead := goodIn_r _ [14, 9, 15, 5, 6, 7, 8, 10, 16, 17, 18, 19, 20, 21, 22, 23, 29, 30, 31, 32, 33, 34, 35, 36, 37, 38, 39, 40, 41, 42, 43, 44, 45, 46, 47, 48] (by decide +kernel) (by decide +kernel)
set_option maxRecDepth 20000 in
theorem gX4_inOrder_X2_validAhead : GoodIn wsX4_inOrder (wsV RX4 244 RX2 yX2_validAhead wsX2_validAhead) := goodIn_app (goodIn_of _ (by decide +kernel)) ggX4_inOrder_X2_validAhead
theorem dX4_inOrder_0 : decode cX4_inOrder 0 = .ok (.iload_n 1, 1) := by decide +kernel
theorem dX4_inOrder_1 : decode cX4_inOrder 1 = .ok (.ifCond .ge 7, 3) := by decide +kernel
theorem dX4_inOrder_4 : decode cX4_inOrder 4 = .ok (.sipush (-1001), 3) := by decide +kernel
theorem dX4_inOrder_7 : decode cX4_inOrder 7 = .ok (.ireturn, 1) := by decide +kernel
theorem dX4_inOrder_8 : decode cX4_inOrder 8 = .ok (.iconst 0, 1) := by decide +kernel
theorem dX4_inOrder_9 : decode cX4_inOrder 9 = .ok (.istore_n 2, 1) := by decide +kernel
theorem dX4_inOrder_10 : decode cX4_inOrder 10 = .ok (.iload_n 2, 1) := by decide +kernel
theorem dX4_inOrder_11 : decode cX4_inOrder 11 = .ok (.aload_n 0, 1) := by decide +kernel
theorem dX4_inOrder_12 : decode cX4_inOrder 12 = .ok (.getfield 10, 3) := by decide +kernel
theorem dX4_inOrder_15 : decode cX4_inOrder 15 = .ok (.getfield 152, 3) := by decide +kernel
theorem dX4_inOrder_18 : decode cX4_inOrder 18 = .ok (.if_icmp .ge 39, 3) := by decide +kernel
theorem dX4_inOrder_21 : decode cX4_inOrder 21 = .ok (.aload_n 0, 1) := by decide +kernel
theorem dX4_inOrder_22 : decode cX4_inOrder 22 = .ok (.getfield 10, 3) := by decide +kernel
theorem dX4_inOrder_25 : decode cX4_inOrder 25 = .ok (.iload_n 2, 1) := by decide +kernel
theorem dX4_inOrder_26 : decode cX4_inOrder 26 = .ok (.invokevirtual 241, 3) := by decide +kernel
theorem dX4_inOrder_29 : decode cX4_inOrder 29 = .ok (.astore_n 3, 1) := by decide +kernel
theorem dX4_inOrder_30 : decode cX4_inOrder 30 = .ok (.aload_n 3, 1) := by decide +kernel
theorem dX4_inOrder_31 : decode cX4_inOrder 31 = .ok (.ifnull 20, 3) := by decide +kernel
theorem dX4_inOrder_34 : decode cX4_inOrder 34 = .ok (.aload_n 0, 1) := by decide +kernel
theorem dX4_inOrder_35 : decode cX4_inOrder 35 = .ok (.getfield 10, 3) := by decide +kernel
theorem dX4_inOrder_38 : decode cX4_inOrder 38 = .ok (.aload_n 3, 1) := by decide +kernel
theorem dX4_inOrder_39 : decode cX4_inOrder 39 = .ok (.invokevirtual 244, 3) := by decide +kernel
theorem dX4_inOrder_42 : decode cX4_inOrder 42 = .ok (.iload_n 1, 1) := by decide +kernel
theorem dX4_inOrder_43 : decode cX4_inOrder 43 = .ok (.if_icmp .ne 8, 3) := by decide +kernel
theorem dX4_inOrder_46 : decode cX4_inOrder 46 = .ok (.aload_n 3, 1) := by decide +kernel
theorem dX4_inOrder_47 : decode cX4_inOrder 47 = .ok (.getfield 212, 3) := by decide +kernel
theorem dX4_inOrder_50 : decode cX4_inOrder 50 = .ok (.ireturn, 1) := by decide +kernel
theorem dX4_inOrder_51 : decode cX4_inOrder 51 = .ok (.iinc 2 1, 3) := by decide +kernel
theorem dX4_inOrder_54 : decode cX4_inOrder 54 = .ok (.goto (-44), 3) := by decide +kernel
theorem dX4_inOrder_57 : decode cX4_inOrder 57 = .ok (.sipush (-1004), 3) := by decide +kernel
theorem dX4_inOrder_60 : decode cX4_inOrder 60 = .ok (.ireturn, 1) := by decide +kernel
set_option maxRecDepth 20000 in
theorem ggX4_shares_X2_permitAt : GoodIn wsX4_shares wsX2_permitAt := goodIn_r _ [10, 11, 12, 60, 61, 62, 63, 64, 65, 66, 67, 68, 69, 70, 71, 72] (by decide +kernel) (by decide +kernel)
set_option maxRecDepth 20000 in
theorem gX4_shares_X2_permitAt : GoodIn wsX4_shares (wsV RX4 213 RX2 yX2_permitAt wsX2_permitAt) := goodIn_app (goodIn_of _ (by decide +kernel)) ggX4_shares_X2_permitAt
set_option maxRecDepth 20000 in
theorem ggX4_shares_X2_shareAir : GoodIn wsX4_shares wsX2_shareAir := goodIn_r _ [16, 17, 18, 19, 20, 21, 22, 23, 24, 25, 26, 27, 28, 29, 30, 31, 32, 33, 34, 35, 36, 37, 38, 39, 40, 41, 42, 43, 44, 45, 46, 47, 73, 74, 75, 76, 77, 78, 79, 53, 54, 55, 56, 57, 58, 59, 60, 61, 62, 63, 64, 65, 66, 67, 68, 69, 70, 71, 72] (by decide +kernel) (by decide +kernel)
set_option maxRecDepth 20000 in
theorem gX4_shares_X2_shareAir : GoodIn wsX4_shares (wsV RX4 248 RX2 yX2_shareAir wsX2_shareAir) := goodIn_app (goodIn_of _ (by decide +kernel)) ggX4_shares_X2_shareAir
theorem dX4_shares_0 : decode cX4_shares 0 = .ok (.aload_n 0, 1) := by decide +kernel
theorem dX4_shares_1 : decode cX4_shares 1 = .ok (.getfield 10, 3) := by decide +kernel
theorem dX4_shares_4 : decode cX4_shares 4 = .ok (.iload_n 1, 1) := by decide +kernel
theorem dX4_shares_5 : decode cX4_shares 5 = .ok (.invokevirtual 213, 3) := by decide +kernel
theorem dX4_shares_8 : decode cX4_shares 8 = .ok (.astore_n 3, 1) := by decide +kernel
theorem dX4_shares_9 : decode cX4_shares 9 = .ok (.aload_n 0, 1) := by decide +kernel
theorem dX4_shares_10 : decode cX4_shares 10 = .ok (.getfield 10, 3) := by decide +kernel
theorem dX4_shares_13 : decode cX4_shares 13 = .ok (.iload_n 2, 1) := by decide +kernel
theorem dX4_shares_14 : decode cX4_shares 14 = .ok (.invokevirtual 213, 3) := by decide +kernel
theorem dX4_shares_17 : decode cX4_shares 17 = .ok (.astore 4, 2) := by decide +kernel
theorem dX4_shares_19 : decode cX4_shares 19 = .ok (.aload_n 3, 1) := by decide +kernel
theorem dX4_shares_20 : decode cX4_shares 20 = .ok (.ifnull 8, 3) := by decide +kernel
theorem dX4_shares_23 : decode cX4_shares 23 = .ok (.aload 4, 2) := by decide +kernel
theorem dX4_shares_25 : decode cX4_shares 25 = .ok (.ifnonnull 7, 3) := by decide +kernel
theorem dX4_shares_28 : decode cX4_shares 28 = .ok (.sipush (-1001), 3) := by decide +kernel
theorem dX4_shares_31 : decode cX4_shares 31 = .ok (.ireturn, 1) := by decide +kernel
theorem dX4_shares_32 : decode cX4_shares 32 = .ok (.aload_n 0, 1) := by decide +kernel
theorem dX4_shares_33 : decode cX4_shares 33 = .ok (.getfield 10, 3) := by decide +kernel
theorem dX4_shares_36 : decode cX4_shares 36 = .ok (.aload_n 3, 1) := by decide +kernel
theorem dX4_shares_37 : decode cX4_shares 37 = .ok (.getfield 224, 3) := by decide +kernel
theorem dX4_shares_40 : decode cX4_shares 40 = .ok (.aload_n 3, 1) := by decide +kernel
theorem dX4_shares_41 : decode cX4_shares 41 = .ok (.getfield 235, 3) := by decide +kernel
theorem dX4_shares_44 : decode cX4_shares 44 = .ok (.aload_n 3, 1) := by decide +kernel
theorem dX4_shares_45 : decode cX4_shares 45 = .ok (.getfield 228, 3) := by decide +kernel
theorem dX4_shares_48 : decode cX4_shares 48 = .ok (.aload_n 3, 1) := by decide +kernel
theorem dX4_shares_49 : decode cX4_shares 49 = .ok (.getfield 238, 3) := by decide +kernel
theorem dX4_shares_52 : decode cX4_shares 52 = .ok (.aload 4, 2) := by decide +kernel
theorem dX4_shares_54 : decode cX4_shares 54 = .ok (.invokevirtual 248, 3) := by decide +kernel
theorem dX4_shares_57 : decode cX4_shares 57 = .ok (.istore 5, 2) := by decide +kernel
theorem dX4_shares_59 : decode cX4_shares 59 = .ok (.iload 5, 2) := by decide +kernel
theorem dX4_shares_61 : decode cX4_shares 61 = .ok (.ifCond .eq 7, 3) := by decide +kernel
theorem dX4_shares_64 : decode cX4_shares 64 = .ok (.iconst 1, 1) := by decide +kernel
theorem dX4_shares_65 : decode cX4_shares 65 = .ok (.goto 4, 3) := by decide +kernel
theorem dX4_shares_68 : decode cX4_shares 68 = .ok (.iconst 0, 1) := by decide +kernel
theorem dX4_shares_69 : decode cX4_shares 69 = .ok (.ireturn, 1) := by decide +kernel
set_option maxRecDepth 20000 in
theorem ggX4_inTheWay_X2_craneAt : GoodIn wsX4_inTheWay wsX2_craneAt := goodIn_r _ [6, 7, 8, 72, 73, 74, 75, 76, 77, 78, 79, 80, 81, 82, 83, 84] (by decide +kernel) (by decide +kernel)
set_option maxRecDepth 20000 in
theorem gX4_inTheWay_X2_craneAt : GoodIn wsX4_inTheWay (wsV RX4 67 RX2 yX2_craneAt wsX2_craneAt) := goodIn_app (goodIn_of _ (by decide +kernel)) ggX4_inTheWay_X2_craneAt
set_option maxRecDepth 20000 in
theorem ggX4_inTheWay_X4_isPlan : GoodIn wsX4_inTheWay wsX4_isPlan := goodIn_r _ [12, 13, 14, 11, 15, 16, 17, 18, 19, 20, 21] (by decide +kernel) (by decide +kernel)
set_option maxRecDepth 20000 in
theorem gX4_inTheWay_X4_isPlan : GoodIn wsX4_inTheWay (va_wsS RX4 192 yX4_isPlan wsX4_isPlan) := goodIn_app (goodIn_of _ (by decide +kernel)) ggX4_inTheWay_X4_isPlan
set_option maxRecDepth 20000 in
theorem ggX4_inTheWay_X2_lowestSharing : GoodIn wsX4_inTheWay wsX2_lowestSharing := goodIn_r _ [25, 26, 27, 28, 29, 30, 5, 31, 32, 33, 34, 35, 36, 37, 38, 39, 40, 41, 42, 43, 44, 45, 46, 47, 48, 49, 50, 51, 52, 53, 54, 55, 56, 57, 58, 59, 11, 60, 61, 62, 63, 64, 65, 66, 72, 73, 74, 75, 76, 77, 78, 79, 80, 81, 82, 83, 84, 85, 86, 87, 88, 89, 90, 91, 92, 93, 94, 95, 96, 97, 98] (by decide +kernel) (by decide +kernel)
set_option maxRecDepth 20000 in
theorem gX4_inTheWay_X2_lowestSharing : GoodIn wsX4_inTheWay (wsV RX4 252 RX2 yX2_lowestSharing wsX2_lowestSharing) := goodIn_app (goodIn_of _ (by decide +kernel)) ggX4_inTheWay_X2_lowestSharing
theorem dX4_inTheWay_0 : decode cX4_inTheWay 0 = .ok (.aload_n 0, 1) := by decide +kernel
theorem dX4_inTheWay_1 : decode cX4_inTheWay 1 = .ok (.getfield 10, 3) := by decide +kernel
theorem dX4_inTheWay_4 : decode cX4_inTheWay 4 = .ok (.iload_n 1, 1) := by decide +kernel
theorem dX4_inTheWay_5 : decode cX4_inTheWay 5 = .ok (.invokevirtual 67, 3) := by decide +kernel
theorem dX4_inTheWay_8 : decode cX4_inTheWay 8 = .ok (.astore 5, 2) := by decide +kernel
theorem dX4_inTheWay_10 : decode cX4_inTheWay 10 = .ok (.aload 5, 2) := by decide +kernel
theorem dX4_inTheWay_12 : decode cX4_inTheWay 12 = .ok (.ifnull 13, 3) := by decide +kernel
theorem dX4_inTheWay_15 : decode cX4_inTheWay 15 = .ok (.iload_n 2, 1) := by decide +kernel
theorem dX4_inTheWay_16 : decode cX4_inTheWay 16 = .ok (.iload_n 3, 1) := by decide +kernel
theorem dX4_inTheWay_17 : decode cX4_inTheWay 17 = .ok (.iload 4, 2) := by decide +kernel
theorem dX4_inTheWay_19 : decode cX4_inTheWay 19 = .ok (.invokestatic 192, 3) := by decide +kernel
theorem dX4_inTheWay_22 : decode cX4_inTheWay 22 = .ok (.ifCond .ne 7, 3) := by decide +kernel
theorem dX4_inTheWay_25 : decode cX4_inTheWay 25 = .ok (.sipush (-1001), 3) := by decide +kernel
theorem dX4_inTheWay_28 : decode cX4_inTheWay 28 = .ok (.ireturn, 1) := by decide +kernel
theorem dX4_inTheWay_29 : decode cX4_inTheWay 29 = .ok (.aload_n 0, 1) := by decide +kernel
theorem dX4_inTheWay_30 : decode cX4_inTheWay 30 = .ok (.getfield 10, 3) := by decide +kernel
theorem dX4_inTheWay_33 : decode cX4_inTheWay 33 = .ok (.aload 5, 2) := by decide +kernel
theorem dX4_inTheWay_35 : decode cX4_inTheWay 35 = .ok (.iload_n 2, 1) := by decide +kernel
theorem dX4_inTheWay_36 : decode cX4_inTheWay 36 = .ok (.iload_n 3, 1) := by decide +kernel
theorem dX4_inTheWay_37 : decode cX4_inTheWay 37 = .ok (.iload 4, 2) := by decide +kernel
theorem dX4_inTheWay_39 : decode cX4_inTheWay 39 = .ok (.invokevirtual 252, 3) := by decide +kernel
theorem dX4_inTheWay_42 : decode cX4_inTheWay 42 = .ok (.istore 6, 2) := by decide +kernel
theorem dX4_inTheWay_44 : decode cX4_inTheWay 44 = .ok (.iload 6, 2) := by decide +kernel
theorem dX4_inTheWay_46 : decode cX4_inTheWay 46 = .ok (.iconst (-1), 1) := by decide +kernel
theorem dX4_inTheWay_47 : decode cX4_inTheWay 47 = .ok (.if_icmp .ne 9, 3) := by decide +kernel
theorem dX4_inTheWay_50 : decode cX4_inTheWay 50 = .ok (.sipush (-1004), 3) := by decide +kernel
theorem dX4_inTheWay_53 : decode cX4_inTheWay 53 = .ok (.goto 5, 3) := by decide +kernel
theorem dX4_inTheWay_56 : decode cX4_inTheWay 56 = .ok (.iload 6, 2) := by decide +kernel
theorem dX4_inTheWay_58 : decode cX4_inTheWay 58 = .ok (.ireturn, 1) := by decide +kernel
set_option maxRecDepth 20000 in
theorem ggX4_firstFree_X2_craneAt : GoodIn wsX4_firstFree wsX2_craneAt := goodIn_r _ [6, 7, 8, 116, 117, 118, 119, 120, 121, 122, 123, 124, 125, 126, 127, 128] (by decide +kernel) (by decide +kernel)
set_option maxRecDepth 20000 in
theorem gX4_firstFree_X2_craneAt : GoodIn wsX4_firstFree (wsV RX4 67 RX2 yX2_craneAt wsX2_craneAt) := goodIn_app (goodIn_of _ (by decide +kernel)) ggX4_firstFree_X2_craneAt
set_option maxRecDepth 20000 in
theorem ggX4_firstFree_X4_isSwing : GoodIn wsX4_firstFree wsX4_isSwing := goodIn_r _ [12, 13, 14, 11, 15] (by decide +kernel) (by decide +kernel)
set_option maxRecDepth 20000 in
theorem gX4_firstFree_X4_isSwing : GoodIn wsX4_firstFree (va_wsS RX4 179 yX4_isSwing wsX4_isSwing) := goodIn_app (goodIn_of _ (by decide +kernel)) ggX4_firstFree_X4_isSwing
set_option maxRecDepth 20000 in
theorem ggX4_firstFree_X4_isIn : GoodIn wsX4_firstFree wsX4_isIn := goodIn_r _ [15] (by decide +kernel) (by decide +kernel)
set_option maxRecDepth 20000 in
theorem gX4_firstFree_X4_isIn : GoodIn wsX4_firstFree (va_wsS RX4 38 yX4_isIn wsX4_isIn) := goodIn_app (goodIn_of _ (by decide +kernel)) ggX4_firstFree_X4_isIn
set_option maxRecDepth 20000 in
theorem ggX4_firstFree_X4_isNight : GoodIn wsX4_firstFree wsX4_isNight := goodIn_r _ [18, 13, 14, 11, 15] (by decide +kernel) (by decide +kernel)
set_option maxRecDepth 20000 in
theorem gX4_firstFree_X4_isNight : GoodIn wsX4_firstFree (va_wsS RX4 118 yX4_isNight wsX4_isNight) := goodIn_app (goodIn_of _ (by decide +kernel)) ggX4_firstFree_X4_isNight
set_option maxRecDepth 20000 in
theorem ggX4_firstFree_X2_refusalOf : GoodIn wsX4_firstFree wsX2_refusalOf := goodIn_r _ [22, 23, 24, 25, 26, 5, 27, 28, 29, 30, 31, 32, 33, 34, 35, 36, 37, 38, 39, 40, 41, 42, 43, 44, 45, 46, 47, 48, 49, 50, 51, 52, 53, 11, 54, 55, 56, 57, 58, 59, 60, 61, 62, 63, 64, 65, 66, 67, 68, 69, 70, 71, 72, 73, 74, 75, 76, 77, 78, 79, 80, 81, 82, 83, 84, 85, 86, 87, 88, 89, 90, 91, 92, 93, 94, 95, 96, 97, 98, 99, 100, 101, 102, 103, 104, 105, 106, 107, 108, 109, 110, 129, 130, 131, 132, 133, 134, 135, 116, 117, 118, 119, 120, 121, 122, 123, 124, 125, 126, 127, 128, 136, 137, 138, 139, 140, 141, 142] (by decide +kernel) (by decide +kernel)
set_option maxRecDepth 20000 in
theorem gX4_firstFree_X2_refusalOf : GoodIn wsX4_firstFree (wsV RX4 195 RX2 yX2_refusalOf wsX2_refusalOf) := goodIn_app (goodIn_of _ (by decide +kernel)) ggX4_firstFree_X2_refusalOf
theorem dX4_firstFree_0 : decode cX4_firstFree 0 = .ok (.aload_n 0, 1) := by decide +kernel
theorem dX4_firstFree_1 : decode cX4_firstFree 1 = .ok (.getfield 10, 3) := by decide +kernel
theorem dX4_firstFree_4 : decode cX4_firstFree 4 = .ok (.iload_n 1, 1) := by decide +kernel
theorem dX4_firstFree_5 : decode cX4_firstFree 5 = .ok (.invokevirtual 67, 3) := by decide +kernel
theorem dX4_firstFree_8 : decode cX4_firstFree 8 = .ok (.astore 5, 2) := by decide +kernel
theorem dX4_firstFree_10 : decode cX4_firstFree 10 = .ok (.aload 5, 2) := by decide +kernel
theorem dX4_firstFree_12 : decode cX4_firstFree 12 = .ok (.ifnull 28, 3) := by decide +kernel
theorem dX4_firstFree_15 : decode cX4_firstFree 15 = .ok (.iload_n 2, 1) := by decide +kernel
theorem dX4_firstFree_16 : decode cX4_firstFree 16 = .ok (.invokestatic 179, 3) := by decide +kernel
theorem dX4_firstFree_19 : decode cX4_firstFree 19 = .ok (.ifCond .eq 21, 3) := by decide +kernel
theorem dX4_firstFree_22 : decode cX4_firstFree 22 = .ok (.iload_n 3, 1) := by decide +kernel
theorem dX4_firstFree_23 : decode cX4_firstFree 23 = .ok (.iconst 1, 1) := by decide +kernel
theorem dX4_firstFree_24 : decode cX4_firstFree 24 = .ok (.bipush 10, 2) := by decide +kernel
theorem dX4_firstFree_26 : decode cX4_firstFree 26 = .ok (.invokestatic 38, 3) := by decide +kernel
theorem dX4_firstFree_29 : decode cX4_firstFree 29 = .ok (.ifCond .eq 11, 3) := by decide +kernel
theorem dX4_firstFree_32 : decode cX4_firstFree 32 = .ok (.iload 4, 2) := by decide +kernel
theorem dX4_firstFree_34 : decode cX4_firstFree 34 = .ok (.invokestatic 118, 3) := by decide +kernel
theorem dX4_firstFree_37 : decode cX4_firstFree 37 = .ok (.ifCond .ne 7, 3) := by decide +kernel
theorem dX4_firstFree_40 : decode cX4_firstFree 40 = .ok (.sipush (-1001), 3) := by decide +kernel
theorem dX4_firstFree_43 : decode cX4_firstFree 43 = .ok (.ireturn, 1) := by decide +kernel
theorem dX4_firstFree_44 : decode cX4_firstFree 44 = .ok (.iload 4, 2) := by decide +kernel
theorem dX4_firstFree_46 : decode cX4_firstFree 46 = .ok (.istore 6, 2) := by decide +kernel
theorem dX4_firstFree_48 : decode cX4_firstFree 48 = .ok (.iload 6, 2) := by decide +kernel
theorem dX4_firstFree_50 : decode cX4_firstFree 50 = .ok (.bipush 30, 2) := by decide +kernel
theorem dX4_firstFree_52 : decode cX4_firstFree 52 = .ok (.if_icmp .ge 67, 3) := by decide +kernel
theorem dX4_firstFree_55 : decode cX4_firstFree 55 = .ok (.iconst 0, 1) := by decide +kernel
theorem dX4_firstFree_56 : decode cX4_firstFree 56 = .ok (.istore 7, 2) := by decide +kernel
theorem dX4_firstFree_58 : decode cX4_firstFree 58 = .ok (.iload 7, 2) := by decide +kernel
theorem dX4_firstFree_60 : decode cX4_firstFree 60 = .ok (.iload_n 3, 1) := by decide +kernel
theorem dX4_firstFree_61 : decode cX4_firstFree 61 = .ok (.iadd, 1) := by decide +kernel
theorem dX4_firstFree_62 : decode cX4_firstFree 62 = .ok (.bipush 10, 2) := by decide +kernel
theorem dX4_firstFree_64 : decode cX4_firstFree 64 = .ok (.if_icmp .gt 49, 3) := by decide +kernel
theorem dX4_firstFree_67 : decode cX4_firstFree 67 = .ok (.bipush 10, 2) := by decide +kernel
theorem dX4_firstFree_69 : decode cX4_firstFree 69 = .ok (.iload 7, 2) := by decide +kernel
theorem dX4_firstFree_71 : decode cX4_firstFree 71 = .ok (.imul, 1) := by decide +kernel
theorem dX4_firstFree_72 : decode cX4_firstFree 72 = .ok (.iload 7, 2) := by decide +kernel
theorem dX4_firstFree_74 : decode cX4_firstFree 74 = .ok (.iadd, 1) := by decide +kernel
theorem dX4_firstFree_75 : decode cX4_firstFree 75 = .ok (.iload_n 3, 1) := by decide +kernel
theorem dX4_firstFree_76 : decode cX4_firstFree 76 = .ok (.iadd, 1) := by decide +kernel
theorem dX4_firstFree_77 : decode cX4_firstFree 77 = .ok (.iconst 1, 1) := by decide +kernel
theorem dX4_firstFree_78 : decode cX4_firstFree 78 = .ok (.isub, 1) := by decide +kernel
theorem dX4_firstFree_79 : decode cX4_firstFree 79 = .ok (.istore 8, 2) := by decide +kernel
theorem dX4_firstFree_81 : decode cX4_firstFree 81 = .ok (.aload_n 0, 1) := by decide +kernel
theorem dX4_firstFree_82 : decode cX4_firstFree 82 = .ok (.getfield 10, 3) := by decide +kernel
theorem dX4_firstFree_85 : decode cX4_firstFree 85 = .ok (.aload 5, 2) := by decide +kernel
theorem dX4_firstFree_87 : decode cX4_firstFree 87 = .ok (.iload 6, 2) := by decide +kernel
theorem dX4_firstFree_89 : decode cX4_firstFree 89 = .ok (.iload 8, 2) := by decide +kernel
theorem dX4_firstFree_91 : decode cX4_firstFree 91 = .ok (.iload_n 2, 1) := by decide +kernel
theorem dX4_firstFree_92 : decode cX4_firstFree 92 = .ok (.invokevirtual 195, 3) := by decide +kernel
theorem dX4_firstFree_95 : decode cX4_firstFree 95 = .ok (.ifCond .ne 12, 3) := by decide +kernel
theorem dX4_firstFree_98 : decode cX4_firstFree 98 = .ok (.bipush 10, 2) := by decide +kernel
theorem dX4_firstFree_100 : decode cX4_firstFree 100 = .ok (.iload 6, 2) := by decide +kernel
theorem dX4_firstFree_102 : decode cX4_firstFree 102 = .ok (.imul, 1) := by decide +kernel
theorem dX4_firstFree_103 : decode cX4_firstFree 103 = .ok (.iload 7, 2) := by decide +kernel
theorem dX4_firstFree_105 : decode cX4_firstFree 105 = .ok (.iadd, 1) := by decide +kernel
theorem dX4_firstFree_106 : decode cX4_firstFree 106 = .ok (.ireturn, 1) := by decide +kernel
theorem dX4_firstFree_107 : decode cX4_firstFree 107 = .ok (.iinc 7 1, 3) := by decide +kernel
theorem dX4_firstFree_110 : decode cX4_firstFree 110 = .ok (.goto (-52), 3) := by decide +kernel
theorem dX4_firstFree_113 : decode cX4_firstFree 113 = .ok (.iinc 6 1, 3) := by decide +kernel
theorem dX4_firstFree_116 : decode cX4_firstFree 116 = .ok (.goto (-68), 3) := by decide +kernel
theorem dX4_firstFree_119 : decode cX4_firstFree 119 = .ok (.sipush (-1004), 3) := by decide +kernel
theorem dX4_firstFree_122 : decode cX4_firstFree 122 = .ok (.ireturn, 1) := by decide +kernel
set_option maxRecDepth 20000 in
theorem ggX4_type_X4_isIn : GoodIn wsX4_type wsX4_isIn := goodIn_r _ [6] (by decide +kernel) (by decide +kernel)
set_option maxRecDepth 20000 in
theorem gX4_type_X4_isIn : GoodIn wsX4_type (va_wsS RX4 38 yX4_isIn wsX4_isIn) := goodIn_app (goodIn_of _ (by decide +kernel)) ggX4_type_X4_isIn
set_option maxRecDepth 20000 in
theorem ggX4_type_X3_append : GoodIn wsX4_type wsX3_append := goodIn_r _ [11, 12, 13, 19, 20, 21, 22, 23, 24, 25, 26, 27] (by decide +kernel) (by decide +kernel)
set_option maxRecDepth 20000 in
theorem gX4_type_X3_append : GoodIn wsX4_type (wsV RX4 255 RX3 yX3_append wsX3_append) := goodIn_app (goodIn_of _ (by decide +kernel)) ggX4_type_X3_append
theorem dX4_type_0 : decode cX4_type 0 = .ok (.iload_n 1, 1) := by decide +kernel
theorem dX4_type_1 : decode cX4_type 1 = .ok (.bipush 32, 2) := by decide +kernel
theorem dX4_type_3 : decode cX4_type 3 = .ok (.bipush 126, 2) := by decide +kernel
theorem dX4_type_5 : decode cX4_type 5 = .ok (.invokestatic 38, 3) := by decide +kernel
theorem dX4_type_8 : decode cX4_type 8 = .ok (.ifCond .ne 7, 3) := by decide +kernel
theorem dX4_type_11 : decode cX4_type 11 = .ok (.sipush (-1001), 3) := by decide +kernel
theorem dX4_type_14 : decode cX4_type 14 = .ok (.ireturn, 1) := by decide +kernel
theorem dX4_type_15 : decode cX4_type 15 = .ok (.aload_n 0, 1) := by decide +kernel
theorem dX4_type_16 : decode cX4_type 16 = .ok (.getfield 30, 3) := by decide +kernel
theorem dX4_type_19 : decode cX4_type 19 = .ok (.getfield 168, 3) := by decide +kernel
theorem dX4_type_22 : decode cX4_type 22 = .ok (.bipush 80, 2) := by decide +kernel
theorem dX4_type_24 : decode cX4_type 24 = .ok (.if_icmp .lt 7, 3) := by decide +kernel
theorem dX4_type_27 : decode cX4_type 27 = .ok (.sipush (-1003), 3) := by decide +kernel
theorem dX4_type_30 : decode cX4_type 30 = .ok (.ireturn, 1) := by decide +kernel
theorem dX4_type_31 : decode cX4_type 31 = .ok (.aload_n 0, 1) := by decide +kernel
theorem dX4_type_32 : decode cX4_type 32 = .ok (.getfield 30, 3) := by decide +kernel
theorem dX4_type_35 : decode cX4_type 35 = .ok (.iload_n 1, 1) := by decide +kernel
theorem dX4_type_36 : decode cX4_type 36 = .ok (.i2c, 1) := by decide +kernel
theorem dX4_type_37 : decode cX4_type 37 = .ok (.invokevirtual 255, 3) := by decide +kernel
theorem dX4_type_40 : decode cX4_type 40 = .ok (.aload_n 0, 1) := by decide +kernel
theorem dX4_type_41 : decode cX4_type 41 = .ok (.getfield 30, 3) := by decide +kernel
theorem dX4_type_44 : decode cX4_type 44 = .ok (.getfield 168, 3) := by decide +kernel
theorem dX4_type_47 : decode cX4_type 47 = .ok (.ireturn, 1) := by decide +kernel
theorem dX4_clearText_0 : decode cX4_clearText 0 = .ok (.aload_n 0, 1) := by decide +kernel
theorem dX4_clearText_1 : decode cX4_clearText 1 = .ok (.getfield 30, 3) := by decide +kernel
theorem dX4_clearText_4 : decode cX4_clearText 4 = .ok (.getfield 168, 3) := by decide +kernel
theorem dX4_clearText_7 : decode cX4_clearText 7 = .ok (.istore_n 1, 1) := by decide +kernel
theorem dX4_clearText_8 : decode cX4_clearText 8 = .ok (.aload_n 0, 1) := by decide +kernel
theorem dX4_clearText_9 : decode cX4_clearText 9 = .ok (.getfield 30, 3) := by decide +kernel
theorem dX4_clearText_12 : decode cX4_clearText 12 = .ok (.iconst 0, 1) := by decide +kernel
theorem dX4_clearText_13 : decode cX4_clearText 13 = .ok (.putfield 168, 3) := by decide +kernel
theorem dX4_clearText_16 : decode cX4_clearText 16 = .ok (.iload_n 1, 1) := by decide +kernel
theorem dX4_clearText_17 : decode cX4_clearText 17 = .ok (.ireturn, 1) := by decide +kernel
set_option maxRecDepth 20000 in
theorem ggX4_fault_X4_isIn : GoodIn wsX4_fault wsX4_isIn := goodIn_r _ [8] (by decide +kernel) (by decide +kernel)
set_option maxRecDepth 20000 in
theorem gX4_fault_X4_isIn : GoodIn wsX4_fault (va_wsS RX4 38 yX4_isIn wsX4_isIn) := goodIn_app (goodIn_of _ (by decide +kernel)) ggX4_fault_X4_isIn
set_option maxRecDepth 20000 in
theorem ggX4_fault_X2_copyFrom : GoodIn wsX4_fault wsX2_copyFrom := goodIn_r _ [13, 14, 15, 16, 17, 18, 19, 20, 21, 22, 23, 24, 25, 26, 27, 28, 29, 30, 204, 205, 206, 207, 208, 209, 210, 211, 212, 213, 214, 215, 216] (by decide +kernel) (by decide +kernel)
set_option maxRecDepth 20000 in
theorem gX4_fault_X2_copyFrom : GoodIn wsX4_fault (wsV RX4 175 RX2 yX2_copyFrom wsX2_copyFrom) := goodIn_app (goodIn_of _ (by decide +kernel)) ggX4_fault_X2_copyFrom
set_option maxRecDepth 20000 in
theorem ggX4_fault_X4_tryText : GoodIn wsX4_fault wsX4_tryText := goodIn_r _ [34, 3, 35, 36, 37, 38, 39, 7, 40, 1, 41, 42, 43, 44, 45, 46, 47, 48, 49, 50, 51, 52, 53, 54, 55, 56, 57, 58, 59, 60, 61, 62, 63, 64, 65, 66, 67, 68, 69, 70, 6, 8, 71, 72, 73, 74, 75, 76, 77, 12, 78, 19, 14, 79, 80, 81, 82, 83, 84, 5, 85, 86, 87, 88, 89, 90, 91, 92, 93, 94, 95, 96, 30, 97, 98, 99, 100, 29, 101, 102, 103, 104, 105, 106, 107, 108, 109, 110, 111, 112, 113, 114, 115, 116, 117, 22, 118, 119, 120, 121, 122, 123, 21, 124, 125, 126, 127, 128, 129, 130, 131, 132, 133, 134, 135, 136, 137, 138, 139, 140, 141, 142, 143, 144, 145, 146, 147, 148, 149, 150, 151, 152, 153, 154, 155, 156, 157, 158, 159, 20, 160, 161, 162, 163, 164, 24, 25, 165, 166, 167, 168, 169, 170, 23, 171, 172, 173, 174, 27, 175, 176, 177, 178, 179, 180, 181, 182, 183, 184, 185, 186, 187, 26, 28, 188, 189, 190, 191, 192, 193, 194, 195, 196, 197, 198, 199, 200, 201, 202, 203, 217, 218, 219, 220, 221, 222, 223, 204, 205, 206, 207, 208, 209, 210, 211, 212, 213, 214, 215, 216, 224, 225, 226, 227, 228, 229, 230] (by decide +kernel) (by decide +kernel)
set_option maxRecDepth 20000 in
theorem gX4_fault_X4_tryText : GoodIn wsX4_fault (wsV RX4 259 RX4 yX4_tryText wsX4_tryText) := goodIn_app (goodIn_of _ (by decide +kernel)) ggX4_fault_X4_tryText
theorem dX4_fault_0 : decode cX4_fault 0 = .ok (.iload_n 1, 1) := by decide +kernel
theorem dX4_fault_1 : decode cX4_fault 1 = .ok (.iconst 0, 1) := by decide +kernel
theorem dX4_fault_2 : decode cX4_fault 2 = .ok (.iconst 1, 1) := by decide +kernel
theorem dX4_fault_3 : decode cX4_fault 3 = .ok (.invokestatic 38, 3) := by decide +kernel
theorem dX4_fault_6 : decode cX4_fault 6 = .ok (.ifCond .ne 7, 3) := by decide +kernel
theorem dX4_fault_9 : decode cX4_fault 9 = .ok (.sipush (-1001), 3) := by decide +kernel
theorem dX4_fault_12 : decode cX4_fault 12 = .ok (.ireturn, 1) := by decide +kernel
theorem dX4_fault_13 : decode cX4_fault 13 = .ok (.aload_n 0, 1) := by decide +kernel
theorem dX4_fault_14 : decode cX4_fault 14 = .ok (.getfield 16, 3) := by decide +kernel
theorem dX4_fault_17 : decode cX4_fault 17 = .ok (.aload_n 0, 1) := by decide +kernel
theorem dX4_fault_18 : decode cX4_fault 18 = .ok (.getfield 10, 3) := by decide +kernel
theorem dX4_fault_21 : decode cX4_fault 21 = .ok (.invokevirtual 175, 3) := by decide +kernel
theorem dX4_fault_24 : decode cX4_fault 24 = .ok (.aload_n 0, 1) := by decide +kernel
theorem dX4_fault_25 : decode cX4_fault 25 = .ok (.invokevirtual 259, 3) := by decide +kernel
theorem dX4_fault_28 : decode cX4_fault 28 = .ok (.istore_n 2, 1) := by decide +kernel
theorem dX4_fault_29 : decode cX4_fault 29 = .ok (.iload_n 2, 1) := by decide +kernel
theorem dX4_fault_30 : decode cX4_fault 30 = .ok (.ifCond .ne 7, 3) := by decide +kernel
theorem dX4_fault_33 : decode cX4_fault 33 = .ok (.sipush (-1004), 3) := by decide +kernel
theorem dX4_fault_36 : decode cX4_fault 36 = .ok (.ireturn, 1) := by decide +kernel
theorem dX4_fault_37 : decode cX4_fault 37 = .ok (.iload_n 1, 1) := by decide +kernel
theorem dX4_fault_38 : decode cX4_fault 38 = .ok (.ifCond .ne 13, 3) := by decide +kernel
theorem dX4_fault_41 : decode cX4_fault 41 = .ok (.aload_n 0, 1) := by decide +kernel
theorem dX4_fault_42 : decode cX4_fault 42 = .ok (.getfield 30, 3) := by decide +kernel
theorem dX4_fault_45 : decode cX4_fault 45 = .ok (.getfield 262, 3) := by decide +kernel
theorem dX4_fault_48 : decode cX4_fault 48 = .ok (.goto 4, 3) := by decide +kernel
theorem dX4_fault_51 : decode cX4_fault 51 = .ok (.iload_n 2, 1) := by decide +kernel
theorem dX4_fault_52 : decode cX4_fault 52 = .ok (.ireturn, 1) := by decide +kernel
set_option maxRecDepth 20000 in
theorem ggX4_enter_X2_copyFrom : GoodIn wsX4_enter wsX2_copyFrom := goodIn_r _ [8, 9, 10, 11, 12, 13, 14, 15, 16, 17, 18, 19, 20, 21, 22, 23, 24, 25, 208, 209, 210, 211, 212, 213, 214, 215, 216, 217, 218, 219, 220] (by decide +kernel) (by decide +kernel)
set_option maxRecDepth 20000 in
theorem gX4_enter_X2_copyFrom : GoodIn wsX4_enter (wsV RX4 175 RX2 yX2_copyFrom wsX2_copyFrom) := goodIn_app (goodIn_of _ (by decide +kernel)) ggX4_enter_X2_copyFrom
set_option maxRecDepth 20000 in
theorem ggX4_enter_X4_tryText : GoodIn wsX4_enter wsX4_tryText := goodIn_r _ [30, 31, 32, 33, 34, 35, 36, 29, 37, 1, 38, 39, 40, 41, 42, 43, 44, 3, 45, 46, 47, 48, 49, 50, 51, 52, 53, 54, 55, 56, 57, 58, 59, 60, 61, 62, 63, 64, 65, 66, 67, 68, 69, 70, 71, 72, 73, 74, 75, 7, 76, 14, 9, 77, 78, 79, 80, 81, 82, 83, 84, 85, 86, 87, 88, 89, 90, 91, 92, 93, 94, 95, 25, 96, 97, 98, 99, 24, 100, 101, 102, 103, 104, 105, 106, 107, 108, 109, 110, 111, 112, 113, 114, 115, 116, 17, 117, 118, 119, 120, 121, 122, 16, 123, 124, 125, 126, 127, 128, 129, 130, 131, 132, 133, 134, 135, 136, 137, 138, 139, 140, 141, 142, 143, 144, 145, 146, 147, 148, 149, 150, 151, 152, 153, 154, 155, 156, 157, 158, 15, 159, 160, 161, 162, 163, 19, 20, 164, 165, 166, 167, 168, 169, 18, 170, 171, 172, 173, 22, 174, 175, 176, 177, 178, 179, 180, 181, 182, 183, 184, 185, 186, 21, 23, 187, 188, 203, 204, 205, 206, 207, 221, 222, 223, 224, 225, 226, 227, 228, 229, 230, 231, 232, 233, 234, 235, 236, 208, 209, 210, 211, 212, 213, 214, 215, 216, 217, 218, 219, 220, 237, 238, 239, 240, 241, 242, 243] (by decide +kernel) (by decide +kernel)
set_option maxRecDepth 20000 in
theorem gX4_enter_X4_tryText : GoodIn wsX4_enter (wsV RX4 259 RX4 yX4_tryText wsX4_tryText) := goodIn_app (goodIn_of _ (by decide +kernel)) ggX4_enter_X4_tryText
set_option maxRecDepth 20000 in
theorem ggX4_enter_X4_remember : GoodIn wsX4_enter wsX4_remember := goodIn_r _ [192, 193, 194, 2, 195, 196, 197, 29, 198, 199, 200, 201, 202, 4, 5, 6, 7, 8, 9, 10, 11, 12, 13, 14, 15, 16, 17, 18, 19, 20, 21, 22, 23, 24, 25, 203, 204, 205, 206, 207, 208, 209, 210, 211, 212, 213, 214, 215, 216, 217, 218, 219, 220] (by decide +kernel) (by decide +kernel)
set_option maxRecDepth 20000 in
theorem gX4_enter_X4_remember : GoodIn wsX4_enter (wsV RX4 52 RX4 yX4_remember wsX4_remember) := goodIn_app (goodIn_of _ (by decide +kernel)) ggX4_enter_X4_remember
theorem dX4_enter_0 : decode cX4_enter 0 = .ok (.aload_n 0, 1) := by decide +kernel
theorem dX4_enter_1 : decode cX4_enter 1 = .ok (.getfield 16, 3) := by decide +kernel
theorem dX4_enter_4 : decode cX4_enter 4 = .ok (.aload_n 0, 1) := by decide +kernel
theorem dX4_enter_5 : decode cX4_enter 5 = .ok (.getfield 10, 3) := by decide +kernel
theorem dX4_enter_8 : decode cX4_enter 8 = .ok (.invokevirtual 175, 3) := by decide +kernel
theorem dX4_enter_11 : decode cX4_enter 11 = .ok (.aload_n 0, 1) := by decide +kernel
theorem dX4_enter_12 : decode cX4_enter 12 = .ok (.invokevirtual 259, 3) := by decide +kernel
theorem dX4_enter_15 : decode cX4_enter 15 = .ok (.ifCond .eq 7, 3) := by decide +kernel
theorem dX4_enter_18 : decode cX4_enter 18 = .ok (.sipush (-1002), 3) := by decide +kernel
theorem dX4_enter_21 : decode cX4_enter 21 = .ok (.ireturn, 1) := by decide +kernel
theorem dX4_enter_22 : decode cX4_enter 22 = .ok (.aload_n 0, 1) := by decide +kernel
theorem dX4_enter_23 : decode cX4_enter 23 = .ok (.invokevirtual 52, 3) := by decide +kernel
theorem dX4_enter_26 : decode cX4_enter 26 = .ok (.aload_n 0, 1) := by decide +kernel
theorem dX4_enter_27 : decode cX4_enter 27 = .ok (.getfield 16, 3) := by decide +kernel
theorem dX4_enter_30 : decode cX4_enter 30 = .ok (.getfield 155, 3) := by decide +kernel
theorem dX4_enter_33 : decode cX4_enter 33 = .ok (.aload_n 0, 1) := by decide +kernel
theorem dX4_enter_34 : decode cX4_enter 34 = .ok (.getfield 10, 3) := by decide +kernel
theorem dX4_enter_37 : decode cX4_enter 37 = .ok (.getfield 155, 3) := by decide +kernel
theorem dX4_enter_40 : decode cX4_enter 40 = .ok (.isub, 1) := by decide +kernel
theorem dX4_enter_41 : decode cX4_enter 41 = .ok (.istore_n 1, 1) := by decide +kernel
theorem dX4_enter_42 : decode cX4_enter 42 = .ok (.aload_n 0, 1) := by decide +kernel
theorem dX4_enter_43 : decode cX4_enter 43 = .ok (.getfield 10, 3) := by decide +kernel
theorem dX4_enter_46 : decode cX4_enter 46 = .ok (.aload_n 0, 1) := by decide +kernel
theorem dX4_enter_47 : decode cX4_enter 47 = .ok (.getfield 16, 3) := by decide +kernel
theorem dX4_enter_50 : decode cX4_enter 50 = .ok (.invokevirtual 175, 3) := by decide +kernel
theorem dX4_enter_53 : decode cX4_enter 53 = .ok (.iload_n 1, 1) := by decide +kernel
theorem dX4_enter_54 : decode cX4_enter 54 = .ok (.ireturn, 1) := by decide +kernel
set_option maxRecDepth 20000 in
theorem ggX4_remember_X4_dropOldest : GoodIn wsX4_remember wsX4_dropOldest := goodIn_r _ [8, 2, 1, 9, 10, 11, 7, 12, 35, 36, 37, 38, 39] (by decide +kernel) (by decide +kernel)
set_option maxRecDepth 20000 in
theorem gX4_remember_X4_dropOldest : GoodIn wsX4_remember (wsV RX4 265 RX4 yX4_dropOldest wsX4_dropOldest) := goodIn_app (goodIn_of _ (by decide +kernel)) ggX4_remember_X4_dropOldest
set_option maxRecDepth 20000 in
theorem ggX4_remember_X4_pastAt : GoodIn wsX4_remember wsX4_pastAt := goodIn_r _ [12, 2, 35, 36, 37, 38, 39] (by decide +kernel) (by decide +kernel)
set_option maxRecDepth 20000 in
theorem gX4_remember_X4_pastAt : GoodIn wsX4_remember (wsV RX4 171 RX4 yX4_pastAt wsX4_pastAt) := goodIn_app (goodIn_of _ (by decide +kernel)) ggX4_remember_X4_pastAt
set_option maxRecDepth 20000 in
theorem ggX4_remember_X2_copyFrom : GoodIn wsX4_remember wsX2_copyFrom := goodIn_r _ [17, 18, 19, 20, 21, 22, 23, 24, 25, 26, 27, 28, 29, 30, 31, 32, 33, 34, 40, 41, 42, 43, 44, 45, 46, 47, 48, 49, 50, 51, 52] (by decide +kernel) (by decide +kernel)
set_option maxRecDepth 20000 in
theorem gX4_remember_X2_copyFrom : GoodIn wsX4_remember (wsV RX4 175 RX2 yX2_copyFrom wsX2_copyFrom) := goodIn_app (goodIn_of _ (by decide +kernel)) ggX4_remember_X2_copyFrom
theorem dX4_remember_0 : decode cX4_remember 0 = .ok (.aload_n 0, 1) := by decide +kernel
theorem dX4_remember_1 : decode cX4_remember 1 = .ok (.getfield 23, 3) := by decide +kernel
theorem dX4_remember_4 : decode cX4_remember 4 = .ok (.aload_n 0, 1) := by decide +kernel
theorem dX4_remember_5 : decode cX4_remember 5 = .ok (.getfield 19, 3) := by decide +kernel
theorem dX4_remember_8 : decode cX4_remember 8 = .ok (.arraylength, 1) := by decide +kernel
theorem dX4_remember_9 : decode cX4_remember 9 = .ok (.if_icmp .lt 7, 3) := by decide +kernel
theorem dX4_remember_12 : decode cX4_remember 12 = .ok (.aload_n 0, 1) := by decide +kernel
theorem dX4_remember_13 : decode cX4_remember 13 = .ok (.invokevirtual 265, 3) := by decide +kernel
theorem dX4_remember_16 : decode cX4_remember 16 = .ok (.aload_n 0, 1) := by decide +kernel
theorem dX4_remember_17 : decode cX4_remember 17 = .ok (.aload_n 0, 1) := by decide +kernel
theorem dX4_remember_18 : decode cX4_remember 18 = .ok (.getfield 23, 3) := by decide +kernel
theorem dX4_remember_21 : decode cX4_remember 21 = .ok (.invokevirtual 171, 3) := by decide +kernel
theorem dX4_remember_24 : decode cX4_remember 24 = .ok (.astore_n 1, 1) := by decide +kernel
theorem dX4_remember_25 : decode cX4_remember 25 = .ok (.aload_n 1, 1) := by decide +kernel
theorem dX4_remember_26 : decode cX4_remember 26 = .ok (.ifnull 21, 3) := by decide +kernel
theorem dX4_remember_29 : decode cX4_remember 29 = .ok (.aload_n 1, 1) := by decide +kernel
theorem dX4_remember_30 : decode cX4_remember 30 = .ok (.aload_n 0, 1) := by decide +kernel
theorem dX4_remember_31 : decode cX4_remember 31 = .ok (.getfield 10, 3) := by decide +kernel
theorem dX4_remember_34 : decode cX4_remember 34 = .ok (.invokevirtual 175, 3) := by decide +kernel
theorem dX4_remember_37 : decode cX4_remember 37 = .ok (.aload_n 0, 1) := by decide +kernel
theorem dX4_remember_38 : decode cX4_remember 38 = .ok (.dup, 1) := by decide +kernel
theorem dX4_remember_39 : decode cX4_remember 39 = .ok (.getfield 23, 3) := by decide +kernel
theorem dX4_remember_42 : decode cX4_remember 42 = .ok (.iconst 1, 1) := by decide +kernel
theorem dX4_remember_43 : decode cX4_remember 43 = .ok (.iadd, 1) := by decide +kernel
theorem dX4_remember_44 : decode cX4_remember 44 = .ok (.putfield 23, 3) := by decide +kernel
theorem dX4_remember_47 : decode cX4_remember 47 = .ok (.return_, 1) := by decide +kernel
set_option maxRecDepth 20000 in
theorem ggX4_dropOldest_X4_pastAt : GoodIn wsX4_dropOldest wsX4_pastAt := goodIn_r _ [7, 1, 8, 9, 10, 11, 12] (by decide +kernel) (by decide +kernel)
set_option maxRecDepth 20000 in
theorem gX4_dropOldest_X4_pastAt : GoodIn wsX4_dropOldest (wsV RX4 171 RX4 yX4_pastAt wsX4_pastAt) := goodIn_app (goodIn_of _ (by decide +kernel)) ggX4_dropOldest_X4_pastAt
theorem dX4_dropOldest_0 : decode cX4_dropOldest 0 = .ok (.aload_n 0, 1) := by decide +kernel
theorem dX4_dropOldest_1 : decode cX4_dropOldest 1 = .ok (.iconst 0, 1) := by decide +kernel
theorem dX4_dropOldest_2 : decode cX4_dropOldest 2 = .ok (.invokevirtual 171, 3) := by decide +kernel
theorem dX4_dropOldest_5 : decode cX4_dropOldest 5 = .ok (.astore_n 1, 1) := by decide +kernel
theorem dX4_dropOldest_6 : decode cX4_dropOldest 6 = .ok (.iconst 1, 1) := by decide +kernel
theorem dX4_dropOldest_7 : decode cX4_dropOldest 7 = .ok (.istore_n 2, 1) := by decide +kernel
theorem dX4_dropOldest_8 : decode cX4_dropOldest 8 = .ok (.iload_n 2, 1) := by decide +kernel
theorem dX4_dropOldest_9 : decode cX4_dropOldest 9 = .ok (.aload_n 0, 1) := by decide +kernel
theorem dX4_dropOldest_10 : decode cX4_dropOldest 10 = .ok (.getfield 19, 3) := by decide +kernel
theorem dX4_dropOldest_13 : decode cX4_dropOldest 13 = .ok (.arraylength, 1) := by decide +kernel
theorem dX4_dropOldest_14 : decode cX4_dropOldest 14 = .ok (.if_icmp .ge 23, 3) := by decide +kernel
theorem dX4_dropOldest_17 : decode cX4_dropOldest 17 = .ok (.aload_n 0, 1) := by decide +kernel
theorem dX4_dropOldest_18 : decode cX4_dropOldest 18 = .ok (.getfield 19, 3) := by decide +kernel
theorem dX4_dropOldest_21 : decode cX4_dropOldest 21 = .ok (.iload_n 2, 1) := by decide +kernel
theorem dX4_dropOldest_22 : decode cX4_dropOldest 22 = .ok (.iconst 1, 1) := by decide +kernel
theorem dX4_dropOldest_23 : decode cX4_dropOldest 23 = .ok (.isub, 1) := by decide +kernel
theorem dX4_dropOldest_24 : decode cX4_dropOldest 24 = .ok (.aload_n 0, 1) := by decide +kernel
theorem dX4_dropOldest_25 : decode cX4_dropOldest 25 = .ok (.getfield 19, 3) := by decide +kernel
theorem dX4_dropOldest_28 : decode cX4_dropOldest 28 = .ok (.iload_n 2, 1) := by decide +kernel
theorem dX4_dropOldest_29 : decode cX4_dropOldest 29 = .ok (.aaload, 1) := by decide +kernel
theorem dX4_dropOldest_30 : decode cX4_dropOldest 30 = .ok (.aastore, 1) := by decide +kernel
theorem dX4_dropOldest_31 : decode cX4_dropOldest 31 = .ok (.iinc 2 1, 3) := by decide +kernel
theorem dX4_dropOldest_34 : decode cX4_dropOldest 34 = .ok (.goto (-26), 3) := by decide +kernel
theorem dX4_dropOldest_37 : decode cX4_dropOldest 37 = .ok (.aload_n 1, 1) := by decide +kernel
theorem dX4_dropOldest_38 : decode cX4_dropOldest 38 = .ok (.ifnull 27, 3) := by decide +kernel
theorem dX4_dropOldest_41 : decode cX4_dropOldest 41 = .ok (.aload_n 0, 1) := by decide +kernel
theorem dX4_dropOldest_42 : decode cX4_dropOldest 42 = .ok (.getfield 19, 3) := by decide +kernel
theorem dX4_dropOldest_45 : decode cX4_dropOldest 45 = .ok (.aload_n 0, 1) := by decide +kernel
theorem dX4_dropOldest_46 : decode cX4_dropOldest 46 = .ok (.getfield 19, 3) := by decide +kernel
theorem dX4_dropOldest_49 : decode cX4_dropOldest 49 = .ok (.arraylength, 1) := by decide +kernel
theorem dX4_dropOldest_50 : decode cX4_dropOldest 50 = .ok (.iconst 1, 1) := by decide +kernel
theorem dX4_dropOldest_51 : decode cX4_dropOldest 51 = .ok (.isub, 1) := by decide +kernel
theorem dX4_dropOldest_52 : decode cX4_dropOldest 52 = .ok (.aload_n 1, 1) := by decide +kernel
theorem dX4_dropOldest_53 : decode cX4_dropOldest 53 = .ok (.aastore, 1) := by decide +kernel
theorem dX4_dropOldest_54 : decode cX4_dropOldest 54 = .ok (.aload_n 0, 1) := by decide +kernel
theorem dX4_dropOldest_55 : decode cX4_dropOldest 55 = .ok (.aload_n 0, 1) := by decide +kernel
theorem dX4_dropOldest_56 : decode cX4_dropOldest 56 = .ok (.getfield 19, 3) := by decide +kernel
theorem dX4_dropOldest_59 : decode cX4_dropOldest 59 = .ok (.arraylength, 1) := by decide +kernel
theorem dX4_dropOldest_60 : decode cX4_dropOldest 60 = .ok (.iconst 1, 1) := by decide +kernel
theorem dX4_dropOldest_61 : decode cX4_dropOldest 61 = .ok (.isub, 1) := by decide +kernel
theorem dX4_dropOldest_62 : decode cX4_dropOldest 62 = .ok (.putfield 23, 3) := by decide +kernel
theorem dX4_dropOldest_65 : decode cX4_dropOldest 65 = .ok (.return_, 1) := by decide +kernel
theorem dX4_pastAt_0 : decode cX4_pastAt 0 = .ok (.iload_n 1, 1) := by decide +kernel
theorem dX4_pastAt_1 : decode cX4_pastAt 1 = .ok (.ifCond .lt 21, 3) := by decide +kernel
theorem dX4_pastAt_4 : decode cX4_pastAt 4 = .ok (.iload_n 1, 1) := by decide +kernel
theorem dX4_pastAt_5 : decode cX4_pastAt 5 = .ok (.aload_n 0, 1) := by decide +kernel
theorem dX4_pastAt_6 : decode cX4_pastAt 6 = .ok (.getfield 19, 3) := by decide +kernel
theorem dX4_pastAt_9 : decode cX4_pastAt 9 = .ok (.arraylength, 1) := by decide +kernel
theorem dX4_pastAt_10 : decode cX4_pastAt 10 = .ok (.if_icmp .ge 12, 3) := by decide +kernel
theorem dX4_pastAt_13 : decode cX4_pastAt 13 = .ok (.aload_n 0, 1) := by decide +kernel
theorem dX4_pastAt_14 : decode cX4_pastAt 14 = .ok (.getfield 19, 3) := by decide +kernel
theorem dX4_pastAt_17 : decode cX4_pastAt 17 = .ok (.iload_n 1, 1) := by decide +kernel
theorem dX4_pastAt_18 : decode cX4_pastAt 18 = .ok (.aaload, 1) := by decide +kernel
theorem dX4_pastAt_19 : decode cX4_pastAt 19 = .ok (.goto 4, 3) := by decide +kernel
theorem dX4_pastAt_22 : decode cX4_pastAt 22 = .ok (.aconst_null, 1) := by decide +kernel
theorem dX4_pastAt_23 : decode cX4_pastAt 23 = .ok (.areturn, 1) := by decide +kernel
set_option maxRecDepth 20000 in
theorem ggX4_tryText_X4_tryApplication : GoodIn wsX4_tryText wsX4_tryApplication := goodIn_r _ [8, 1, 9, 10, 11, 12, 13, 14, 15, 16, 17, 18, 19, 20, 21, 22, 23, 24, 25, 26, 27, 28, 29, 30, 31, 32, 33, 34, 35, 36, 37, 38, 39, 40, 7, 41, 42, 43, 44, 45, 46, 47, 48, 49, 50, 51, 52, 53, 54, 55, 56, 57, 58, 59, 60, 61, 62, 63, 64, 65, 66, 67, 68, 69, 70, 71, 72, 73, 74, 75, 76, 77, 78, 79, 80, 81, 82, 83, 84, 85, 86, 87, 88, 89, 90, 91, 92, 93, 94, 95, 96, 97, 98, 99, 100, 101, 102, 103, 104, 105, 106, 107, 108, 109, 110, 111, 112, 113, 114, 115, 116, 117, 118, 119, 120, 121, 122, 123, 124, 125, 126, 127, 128, 129, 130, 131, 132, 133, 134, 135, 136, 137, 138, 139, 140, 141, 142, 143, 144, 145, 146, 147, 148, 149, 150, 151, 152, 153, 154, 155, 156, 157, 158, 159, 160, 161, 162, 163, 164, 165, 166, 167, 168, 169, 170, 171, 172, 173, 174, 175, 176, 177, 178, 179, 180, 181, 182, 183, 184, 185, 186, 187, 188, 189, 190, 191, 192, 193, 194, 195, 196, 197, 198, 199, 200, 201, 202, 203, 204, 205, 206, 207, 208, 209, 210, 211, 212, 213, 214, 215, 216] (by decide +kernel) (by decide +kernel)
set_option maxRecDepth 20000 in
theorem gX4_tryText_X4_tryApplication : GoodIn wsX4_tryText (wsV RX4 271 RX4 yX4_tryApplication wsX4_tryApplication) := goodIn_app (goodIn_of _ (by decide +kernel)) ggX4_tryText_X4_tryApplication
theorem dX4_tryText_0 : decode cX4_tryText 0 = .ok (.aload_n 0, 1) := by decide +kernel
theorem dX4_tryText_1 : decode cX4_tryText 1 = .ok (.getfield 30, 3) := by decide +kernel
theorem dX4_tryText_4 : decode cX4_tryText 4 = .ok (.iconst 0, 1) := by decide +kernel
theorem dX4_tryText_5 : decode cX4_tryText 5 = .ok (.putfield 268, 3) := by decide +kernel
theorem dX4_tryText_8 : decode cX4_tryText 8 = .ok (.iconst 0, 1) := by decide +kernel
theorem dX4_tryText_9 : decode cX4_tryText 9 = .ok (.istore_n 1, 1) := by decide +kernel
theorem dX4_tryText_10 : decode cX4_tryText 10 = .ok (.iload_n 1, 1) := by decide +kernel
theorem dX4_tryText_11 : decode cX4_tryText 11 = .ok (.bipush 80, 2) := by decide +kernel
theorem dX4_tryText_13 : decode cX4_tryText 13 = .ok (.if_icmp .ge 37, 3) := by decide +kernel
theorem dX4_tryText_16 : decode cX4_tryText 16 = .ok (.aload_n 0, 1) := by decide +kernel
theorem dX4_tryText_17 : decode cX4_tryText 17 = .ok (.getfield 30, 3) := by decide +kernel
theorem dX4_tryText_20 : decode cX4_tryText 20 = .ok (.getfield 268, 3) := by decide +kernel
theorem dX4_tryText_23 : decode cX4_tryText 23 = .ok (.aload_n 0, 1) := by decide +kernel
theorem dX4_tryText_24 : decode cX4_tryText 24 = .ok (.getfield 30, 3) := by decide +kernel
theorem dX4_tryText_27 : decode cX4_tryText 27 = .ok (.getfield 168, 3) := by decide +kernel
theorem dX4_tryText_30 : decode cX4_tryText 30 = .ok (.if_icmp .ge 20, 3) := by decide +kernel
theorem dX4_tryText_33 : decode cX4_tryText 33 = .ok (.aload_n 0, 1) := by decide +kernel
theorem dX4_tryText_34 : decode cX4_tryText 34 = .ok (.invokevirtual 271, 3) := by decide +kernel
theorem dX4_tryText_37 : decode cX4_tryText 37 = .ok (.istore_n 2, 1) := by decide +kernel
theorem dX4_tryText_38 : decode cX4_tryText 38 = .ok (.iload_n 2, 1) := by decide +kernel
theorem dX4_tryText_39 : decode cX4_tryText 39 = .ok (.ifCond .eq 5, 3) := by decide +kernel
theorem dX4_tryText_42 : decode cX4_tryText 42 = .ok (.iload_n 2, 1) := by decide +kernel
theorem dX4_tryText_43 : decode cX4_tryText 43 = .ok (.ireturn, 1) := by decide +kernel
theorem dX4_tryText_44 : decode cX4_tryText 44 = .ok (.iinc 1 1, 3) := by decide +kernel
theorem dX4_tryText_47 : decode cX4_tryText 47 = .ok (.goto (-37), 3) := by decide +kernel
theorem dX4_tryText_50 : decode cX4_tryText 50 = .ok (.iconst 0, 1) := by decide +kernel
theorem dX4_tryText_51 : decode cX4_tryText 51 = .ok (.ireturn, 1) := by decide +kernel
set_option maxRecDepth 20000 in
theorem ggX4_tryApplication_X3_readApplication : GoodIn wsX4_tryApplication wsX3_readApplication := goodIn_r _ [15, 16, 17, 18, 19, 20, 21, 22, 23, 24, 25, 14, 26, 27, 28, 29, 30, 31, 32, 33, 34, 35, 36, 37, 38, 39, 175, 176, 177, 178, 179, 180, 181, 182, 183] (by decide +kernel) (by decide +kernel)
set_option maxRecDepth 20000 in
theorem gX4_tryApplication_X3_readApplication : GoodIn wsX4_tryApplication (wsV RX4 274 RX3 yX3_readApplication wsX3_readApplication) := goodIn_app (goodIn_of _ (by decide +kernel)) ggX4_tryApplication_X3_readApplication
set_option maxRecDepth 20000 in
theorem ggX4_tryApplication_X2_craneAt : GoodIn wsX4_tryApplication wsX2_craneAt := goodIn_r _ [44, 45, 46, 191, 192, 193, 194, 195, 196, 197, 198, 199, 200, 201, 202, 203] (by decide +kernel) (by decide +kernel)
set_option maxRecDepth 20000 in
theorem gX4_tryApplication_X2_craneAt : GoodIn wsX4_tryApplication (wsV RX4 67 RX2 yX2_craneAt wsX2_craneAt) := goodIn_app (goodIn_of _ (by decide +kernel)) ggX4_tryApplication_X2_craneAt
set_option maxRecDepth 20000 in
theorem ggX4_tryApplication_X4_isPlan : GoodIn wsX4_tryApplication wsX4_isPlan := goodIn_r _ [49, 50, 51, 34, 52, 53, 33, 35, 54, 55, 56] (by decide +kernel) (by decide +kernel)
set_option maxRecDepth 20000 in
theorem gX4_tryApplication_X4_isPlan : GoodIn wsX4_tryApplication (va_wsS RX4 192 yX4_isPlan wsX4_isPlan) := goodIn_app (goodIn_of _ (by decide +kernel)) ggX4_tryApplication_X4_isPlan
set_option maxRecDepth 20000 in
theorem ggX4_tryApplication_X2_refusalOf : GoodIn wsX4_tryApplication wsX2_refusalOf := goodIn_r _ [60, 61, 62, 63, 64, 43, 65, 66, 67, 68, 69, 70, 71, 72, 73, 74, 9, 75, 76, 77, 78, 79, 80, 81, 82, 83, 84, 85, 86, 87, 88, 89, 90, 34, 91, 92, 93, 94, 95, 96, 97, 98, 99, 100, 101, 102, 103, 104, 105, 106, 107, 108, 109, 110, 111, 112, 113, 114, 115, 116, 117, 118, 119, 120, 121, 122, 123, 124, 125, 126, 127, 128, 129, 130, 131, 132, 133, 134, 135, 136, 137, 138, 139, 140, 141, 142, 143, 144, 145, 146, 147, 204, 205, 206, 207, 208, 209, 210, 191, 192, 193, 194, 195, 196, 197, 198, 199, 200, 201, 202, 203, 184, 185, 186, 187, 188, 189, 190] (by decide +kernel) (by decide +kernel)
set_option maxRecDepth 20000 in
theorem gX4_tryApplication_X2_refusalOf : GoodIn wsX4_tryApplication (wsV RX4 195 RX2 yX2_refusalOf wsX2_refusalOf) := goodIn_app (goodIn_of _ (by decide +kernel)) ggX4_tryApplication_X2_refusalOf
set_option maxRecDepth 20000 in
theorem ggX4_tryApplication_X2_hasRoom : GoodIn wsX4_tryApplication wsX2_hasRoom := goodIn_r _ [151, 66, 152, 191, 192, 193, 194, 195, 196, 197, 198, 199, 200, 201, 202, 203] (by decide +kernel) (by decide +kernel)
set_option maxRecDepth 20000 in
theorem gX4_tryApplication_X2_hasRoom : GoodIn wsX4_tryApplication (wsV RX4 199 RX2 yX2_hasRoom wsX2_hasRoom) := goodIn_app (goodIn_of _ (by decide +kernel)) ggX4_tryApplication_X2_hasRoom
set_option maxRecDepth 20000 in
theorem ggX4_tryApplication_X1_init : GoodIn wsX4_tryApplication wsX1_init := goodIn_r _ [155, 156, 157, 158, 159, 76, 84, 160, 83, 82, 161, 184, 185, 186, 187, 188, 189, 190] (by decide +kernel) (by decide +kernel)
set_option maxRecDepth 20000 in
theorem gX4_tryApplication_X1_init : GoodIn wsX4_tryApplication (wsX1_init) := ggX4_tryApplication_X1_init
set_option maxRecDepth 20000 in
theorem ggX4_tryApplication_X2_grant : GoodIn wsX4_tryApplication wsX2_grant := goodIn_r _ [165, 66, 71, 152, 166, 167, 168, 34, 169, 191, 192, 193, 194, 195, 196, 197, 198, 199, 200, 201, 202, 203] (by decide +kernel) (by decide +kernel)
set_option maxRecDepth 20000 in
theorem gX4_tryApplication_X2_grant : GoodIn wsX4_tryApplication (wsV RX4 208 RX2 yX2_grant wsX2_grant) := goodIn_app (goodIn_of _ (by decide +kernel)) ggX4_tryApplication_X2_grant
theorem dX4_tryApplication_0 : decode cX4_tryApplication 0 = .ok (.aload_n 0, 1) := by decide +kernel
theorem dX4_tryApplication_1 : decode cX4_tryApplication 1 = .ok (.getfield 30, 3) := by decide +kernel
theorem dX4_tryApplication_4 : decode cX4_tryApplication 4 = .ok (.invokevirtual 274, 3) := by decide +kernel
theorem dX4_tryApplication_7 : decode cX4_tryApplication 7 = .ok (.ifCond .ne 6, 3) := by decide +kernel
theorem dX4_tryApplication_10 : decode cX4_tryApplication 10 = .ok (.bipush 11, 2) := by decide +kernel
theorem dX4_tryApplication_12 : decode cX4_tryApplication 12 = .ok (.ireturn, 1) := by decide +kernel
theorem dX4_tryApplication_13 : decode cX4_tryApplication 13 = .ok (.aload_n 0, 1) := by decide +kernel
theorem dX4_tryApplication_14 : decode cX4_tryApplication 14 = .ok (.getfield 16, 3) := by decide +kernel
theorem dX4_tryApplication_17 : decode cX4_tryApplication 17 = .ok (.aload_n 0, 1) := by decide +kernel
theorem dX4_tryApplication_18 : decode cX4_tryApplication 18 = .ok (.getfield 30, 3) := by decide +kernel
theorem dX4_tryApplication_21 : decode cX4_tryApplication 21 = .ok (.getfield 277, 3) := by decide +kernel
theorem dX4_tryApplication_24 : decode cX4_tryApplication 24 = .ok (.invokevirtual 67, 3) := by decide +kernel
theorem dX4_tryApplication_27 : decode cX4_tryApplication 27 = .ok (.astore_n 1, 1) := by decide +kernel
theorem dX4_tryApplication_28 : decode cX4_tryApplication 28 = .ok (.aload_n 1, 1) := by decide +kernel
theorem dX4_tryApplication_29 : decode cX4_tryApplication 29 = .ok (.ifnull 30, 3) := by decide +kernel
theorem dX4_tryApplication_32 : decode cX4_tryApplication 32 = .ok (.aload_n 0, 1) := by decide +kernel
theorem dX4_tryApplication_33 : decode cX4_tryApplication 33 = .ok (.getfield 30, 3) := by decide +kernel
theorem dX4_tryApplication_36 : decode cX4_tryApplication 36 = .ok (.getfield 279, 3) := by decide +kernel
theorem dX4_tryApplication_39 : decode cX4_tryApplication 39 = .ok (.aload_n 0, 1) := by decide +kernel
theorem dX4_tryApplication_40 : decode cX4_tryApplication 40 = .ok (.getfield 30, 3) := by decide +kernel
theorem dX4_tryApplication_43 : decode cX4_tryApplication 43 = .ok (.getfield 280, 3) := by decide +kernel
theorem dX4_tryApplication_46 : decode cX4_tryApplication 46 = .ok (.aload_n 0, 1) := by decide +kernel
theorem dX4_tryApplication_47 : decode cX4_tryApplication 47 = .ok (.getfield 30, 3) := by decide +kernel
theorem dX4_tryApplication_50 : decode cX4_tryApplication 50 = .ok (.getfield 281, 3) := by decide +kernel
theorem dX4_tryApplication_53 : decode cX4_tryApplication 53 = .ok (.invokestatic 192, 3) := by decide +kernel
theorem dX4_tryApplication_56 : decode cX4_tryApplication 56 = .ok (.ifCond .ne 6, 3) := by decide +kernel
theorem dX4_tryApplication_59 : decode cX4_tryApplication 59 = .ok (.bipush 12, 2) := by decide +kernel
theorem dX4_tryApplication_61 : decode cX4_tryApplication 61 = .ok (.ireturn, 1) := by decide +kernel
theorem dX4_tryApplication_62 : decode cX4_tryApplication 62 = .ok (.aload_n 0, 1) := by decide +kernel
theorem dX4_tryApplication_63 : decode cX4_tryApplication 63 = .ok (.getfield 16, 3) := by decide +kernel
theorem dX4_tryApplication_66 : decode cX4_tryApplication 66 = .ok (.aload_n 1, 1) := by decide +kernel
theorem dX4_tryApplication_67 : decode cX4_tryApplication 67 = .ok (.aload_n 0, 1) := by decide +kernel
theorem dX4_tryApplication_68 : decode cX4_tryApplication 68 = .ok (.getfield 30, 3) := by decide +kernel
theorem dX4_tryApplication_71 : decode cX4_tryApplication 71 = .ok (.getfield 279, 3) := by decide +kernel
theorem dX4_tryApplication_74 : decode cX4_tryApplication 74 = .ok (.aload_n 0, 1) := by decide +kernel
theorem dX4_tryApplication_75 : decode cX4_tryApplication 75 = .ok (.getfield 30, 3) := by decide +kernel
theorem dX4_tryApplication_78 : decode cX4_tryApplication 78 = .ok (.getfield 280, 3) := by decide +kernel
theorem dX4_tryApplication_81 : decode cX4_tryApplication 81 = .ok (.aload_n 0, 1) := by decide +kernel
theorem dX4_tryApplication_82 : decode cX4_tryApplication 82 = .ok (.getfield 30, 3) := by decide +kernel
theorem dX4_tryApplication_85 : decode cX4_tryApplication 85 = .ok (.getfield 281, 3) := by decide +kernel
theorem dX4_tryApplication_88 : decode cX4_tryApplication 88 = .ok (.invokevirtual 195, 3) := by decide +kernel
theorem dX4_tryApplication_91 : decode cX4_tryApplication 91 = .ok (.istore_n 2, 1) := by decide +kernel
theorem dX4_tryApplication_92 : decode cX4_tryApplication 92 = .ok (.iload_n 2, 1) := by decide +kernel
theorem dX4_tryApplication_93 : decode cX4_tryApplication 93 = .ok (.ifCond .eq 5, 3) := by decide +kernel
theorem dX4_tryApplication_96 : decode cX4_tryApplication 96 = .ok (.iload_n 2, 1) := by decide +kernel
theorem dX4_tryApplication_97 : decode cX4_tryApplication 97 = .ok (.ireturn, 1) := by decide +kernel
theorem dX4_tryApplication_98 : decode cX4_tryApplication 98 = .ok (.aload_n 0, 1) := by decide +kernel
theorem dX4_tryApplication_99 : decode cX4_tryApplication 99 = .ok (.getfield 16, 3) := by decide +kernel
theorem dX4_tryApplication_102 : decode cX4_tryApplication 102 = .ok (.invokevirtual 199, 3) := by decide +kernel
theorem dX4_tryApplication_105 : decode cX4_tryApplication 105 = .ok (.ifCond .ne 5, 3) := by decide +kernel
theorem dX4_tryApplication_108 : decode cX4_tryApplication 108 = .ok (.iconst 5, 1) := by decide +kernel
theorem dX4_tryApplication_109 : decode cX4_tryApplication 109 = .ok (.ireturn, 1) := by decide +kernel
theorem dX4_tryApplication_110 : decode cX4_tryApplication 110 = .ok (.aload_n 0, 1) := by decide +kernel
theorem dX4_tryApplication_111 : decode cX4_tryApplication 111 = .ok (.getfield 16, 3) := by decide +kernel
theorem dX4_tryApplication_114 : decode cX4_tryApplication 114 = .ok (.new 203, 3) := by decide +kernel
theorem dX4_tryApplication_117 : decode cX4_tryApplication 117 = .ok (.dup, 1) := by decide +kernel
theorem dX4_tryApplication_118 : decode cX4_tryApplication 118 = .ok (.aload_n 0, 1) := by decide +kernel
theorem dX4_tryApplication_119 : decode cX4_tryApplication 119 = .ok (.getfield 16, 3) := by decide +kernel
theorem dX4_tryApplication_122 : decode cX4_tryApplication 122 = .ok (.getfield 155, 3) := by decide +kernel
theorem dX4_tryApplication_125 : decode cX4_tryApplication 125 = .ok (.aload_n 1, 1) := by decide +kernel
theorem dX4_tryApplication_126 : decode cX4_tryApplication 126 = .ok (.aload_n 0, 1) := by decide +kernel
theorem dX4_tryApplication_127 : decode cX4_tryApplication 127 = .ok (.getfield 30, 3) := by decide +kernel
theorem dX4_tryApplication_130 : decode cX4_tryApplication 130 = .ok (.getfield 279, 3) := by decide +kernel
theorem dX4_tryApplication_133 : decode cX4_tryApplication 133 = .ok (.aload_n 0, 1) := by decide +kernel
theorem dX4_tryApplication_134 : decode cX4_tryApplication 134 = .ok (.getfield 30, 3) := by decide +kernel
theorem dX4_tryApplication_137 : decode cX4_tryApplication 137 = .ok (.getfield 280, 3) := by decide +kernel
theorem dX4_tryApplication_140 : decode cX4_tryApplication 140 = .ok (.aload_n 0, 1) := by decide +kernel
theorem dX4_tryApplication_141 : decode cX4_tryApplication 141 = .ok (.getfield 30, 3) := by decide +kernel
theorem dX4_tryApplication_144 : decode cX4_tryApplication 144 = .ok (.getfield 281, 3) := by decide +kernel
theorem dX4_tryApplication_147 : decode cX4_tryApplication 147 = .ok (.invokespecial 205, 3) := by decide +kernel
theorem dX4_tryApplication_150 : decode cX4_tryApplication 150 = .ok (.invokevirtual 208, 3) := by decide +kernel
theorem dX4_tryApplication_153 : decode cX4_tryApplication 153 = .ok (.iconst 0, 1) := by decide +kernel
theorem dX4_tryApplication_154 : decode cX4_tryApplication 154 = .ok (.ireturn, 1) := by decide +kernel
theorem dX4_isIn_0 : decode cX4_isIn 0 = .ok (.iload_n 0, 1) := by decide +kernel
theorem dX4_isIn_1 : decode cX4_isIn 1 = .ok (.iload_n 1, 1) := by decide +kernel
theorem dX4_isIn_2 : decode cX4_isIn 2 = .ok (.if_icmp .lt 12, 3) := by decide +kernel
theorem dX4_isIn_5 : decode cX4_isIn 5 = .ok (.iload_n 0, 1) := by decide +kernel
theorem dX4_isIn_6 : decode cX4_isIn 6 = .ok (.iload_n 2, 1) := by decide +kernel
theorem dX4_isIn_7 : decode cX4_isIn 7 = .ok (.if_icmp .gt 7, 3) := by decide +kernel
theorem dX4_isIn_10 : decode cX4_isIn 10 = .ok (.iconst 1, 1) := by decide +kernel
theorem dX4_isIn_11 : decode cX4_isIn 11 = .ok (.goto 4, 3) := by decide +kernel
theorem dX4_isIn_14 : decode cX4_isIn 14 = .ok (.iconst 0, 1) := by decide +kernel
theorem dX4_isIn_15 : decode cX4_isIn 15 = .ok (.ireturn, 1) := by decide +kernel
set_option maxRecDepth 20000 in
theorem ggX4_isCell_X4_isIn : GoodIn wsX4_isCell wsX4_isIn := goodIn_r _ [4] (by decide +kernel) (by decide +kernel)
set_option maxRecDepth 20000 in
theorem gX4_isCell_X4_isIn : GoodIn wsX4_isCell (va_wsS RX4 38 yX4_isIn wsX4_isIn) := goodIn_app (goodIn_of _ (by decide +kernel)) ggX4_isCell_X4_isIn
theorem dX4_isCell_0 : decode cX4_isCell 0 = .ok (.iload_n 0, 1) := by decide +kernel
theorem dX4_isCell_1 : decode cX4_isCell 1 = .ok (.iconst 0, 1) := by decide +kernel
theorem dX4_isCell_2 : decode cX4_isCell 2 = .ok (.bipush 15, 2) := by decide +kernel
theorem dX4_isCell_4 : decode cX4_isCell 4 = .ok (.invokestatic 38, 3) := by decide +kernel
theorem dX4_isCell_7 : decode cX4_isCell 7 = .ok (.ifCond .eq 17, 3) := by decide +kernel
theorem dX4_isCell_10 : decode cX4_isCell 10 = .ok (.iload_n 1, 1) := by decide +kernel
theorem dX4_isCell_11 : decode cX4_isCell 11 = .ok (.iconst 0, 1) := by decide +kernel
theorem dX4_isCell_12 : decode cX4_isCell 12 = .ok (.bipush 15, 2) := by decide +kernel
theorem dX4_isCell_14 : decode cX4_isCell 14 = .ok (.invokestatic 38, 3) := by decide +kernel
theorem dX4_isCell_17 : decode cX4_isCell 17 = .ok (.ifCond .eq 7, 3) := by decide +kernel
theorem dX4_isCell_20 : decode cX4_isCell 20 = .ok (.iconst 1, 1) := by decide +kernel
theorem dX4_isCell_21 : decode cX4_isCell 21 = .ok (.goto 4, 3) := by decide +kernel
theorem dX4_isCell_24 : decode cX4_isCell 24 = .ok (.iconst 0, 1) := by decide +kernel
theorem dX4_isCell_25 : decode cX4_isCell 25 = .ok (.ireturn, 1) := by decide +kernel
set_option maxRecDepth 20000 in
theorem ggX4_isStreet_X4_isIn : GoodIn wsX4_isStreet wsX4_isIn := goodIn_r _ [4] (by decide +kernel) (by decide +kernel)
set_option maxRecDepth 20000 in
theorem gX4_isStreet_X4_isIn : GoodIn wsX4_isStreet (va_wsS RX4 38 yX4_isIn wsX4_isIn) := goodIn_app (goodIn_of _ (by decide +kernel)) ggX4_isStreet_X4_isIn
theorem dX4_isStreet_0 : decode cX4_isStreet 0 = .ok (.iload_n 0, 1) := by decide +kernel
theorem dX4_isStreet_1 : decode cX4_isStreet 1 = .ok (.iconst 0, 1) := by decide +kernel
theorem dX4_isStreet_2 : decode cX4_isStreet 2 = .ok (.iconst 3, 1) := by decide +kernel
theorem dX4_isStreet_3 : decode cX4_isStreet 3 = .ok (.invokestatic 38, 3) := by decide +kernel
theorem dX4_isStreet_6 : decode cX4_isStreet 6 = .ok (.ireturn, 1) := by decide +kernel
set_option maxRecDepth 20000 in
theorem ggX4_isNight_X4_isIn : GoodIn wsX4_isNight wsX4_isIn := goodIn_r _ [4] (by decide +kernel) (by decide +kernel)
set_option maxRecDepth 20000 in
theorem gX4_isNight_X4_isIn : GoodIn wsX4_isNight (va_wsS RX4 38 yX4_isIn wsX4_isIn) := goodIn_app (goodIn_of _ (by decide +kernel)) ggX4_isNight_X4_isIn
theorem dX4_isNight_0 : decode cX4_isNight 0 = .ok (.iload_n 0, 1) := by decide +kernel
theorem dX4_isNight_1 : decode cX4_isNight 1 = .ok (.iconst 0, 1) := by decide +kernel
theorem dX4_isNight_2 : decode cX4_isNight 2 = .ok (.bipush 29, 2) := by decide +kernel
theorem dX4_isNight_4 : decode cX4_isNight 4 = .ok (.invokestatic 38, 3) := by decide +kernel
theorem dX4_isNight_7 : decode cX4_isNight 7 = .ok (.ireturn, 1) := by decide +kernel
set_option maxRecDepth 20000 in
theorem ggX4_isSwing_X4_isIn : GoodIn wsX4_isSwing wsX4_isIn := goodIn_r _ [4] (by decide +kernel) (by decide +kernel)
set_option maxRecDepth 20000 in
theorem gX4_isSwing_X4_isIn : GoodIn wsX4_isSwing (va_wsS RX4 38 yX4_isIn wsX4_isIn) := goodIn_app (goodIn_of _ (by decide +kernel)) ggX4_isSwing_X4_isIn
theorem dX4_isSwing_0 : decode cX4_isSwing 0 = .ok (.iload_n 0, 1) := by decide +kernel
theorem dX4_isSwing_1 : decode cX4_isSwing 1 = .ok (.iconst 1, 1) := by decide +kernel
theorem dX4_isSwing_2 : decode cX4_isSwing 2 = .ok (.sipush 255, 3) := by decide +kernel
theorem dX4_isSwing_5 : decode cX4_isSwing 5 = .ok (.invokestatic 38, 3) := by decide +kernel
theorem dX4_isSwing_8 : decode cX4_isSwing 8 = .ok (.ireturn, 1) := by decide +kernel
set_option maxRecDepth 20000 in
theorem ggX4_isPlan_X4_isNight : GoodIn wsX4_isPlan wsX4_isNight := goodIn_r _ [4, 5, 6, 3, 7] (by decide +kernel) (by decide +kernel)
set_option maxRecDepth 20000 in
theorem gX4_isPlan_X4_isNight : GoodIn wsX4_isPlan (va_wsS RX4 118 yX4_isNight wsX4_isNight) := goodIn_app (goodIn_of _ (by decide +kernel)) ggX4_isPlan_X4_isNight
set_option maxRecDepth 20000 in
theorem ggX4_isPlan_X4_isIn : GoodIn wsX4_isPlan wsX4_isIn := goodIn_r _ [7] (by decide +kernel) (by decide +kernel)
set_option maxRecDepth 20000 in
theorem gX4_isPlan_X4_isIn : GoodIn wsX4_isPlan (va_wsS RX4 38 yX4_isIn wsX4_isIn) := goodIn_app (goodIn_of _ (by decide +kernel)) ggX4_isPlan_X4_isIn
set_option maxRecDepth 20000 in
theorem ggX4_isPlan_X4_isSwing : GoodIn wsX4_isPlan wsX4_isSwing := goodIn_r _ [10, 5, 6, 3, 7] (by decide +kernel) (by decide +kernel)
set_option maxRecDepth 20000 in
theorem gX4_isPlan_X4_isSwing : GoodIn wsX4_isPlan (va_wsS RX4 179 yX4_isSwing wsX4_isSwing) := goodIn_app (goodIn_of _ (by decide +kernel)) ggX4_isPlan_X4_isSwing
theorem dX4_isPlan_0 : decode cX4_isPlan 0 = .ok (.iload_n 0, 1) := by decide +kernel
theorem dX4_isPlan_1 : decode cX4_isPlan 1 = .ok (.invokestatic 118, 3) := by decide +kernel
theorem dX4_isPlan_4 : decode cX4_isPlan 4 = .ok (.ifCond .eq 35, 3) := by decide +kernel
theorem dX4_isPlan_7 : decode cX4_isPlan 7 = .ok (.iload_n 1, 1) := by decide +kernel
theorem dX4_isPlan_8 : decode cX4_isPlan 8 = .ok (.iconst 0, 1) := by decide +kernel
theorem dX4_isPlan_9 : decode cX4_isPlan 9 = .ok (.bipush 99, 2) := by decide +kernel
theorem dX4_isPlan_11 : decode cX4_isPlan 11 = .ok (.invokestatic 38, 3) := by decide +kernel
theorem dX4_isPlan_14 : decode cX4_isPlan 14 = .ok (.ifCond .eq 25, 3) := by decide +kernel
theorem dX4_isPlan_17 : decode cX4_isPlan 17 = .ok (.iload_n 1, 1) := by decide +kernel
theorem dX4_isPlan_18 : decode cX4_isPlan 18 = .ok (.bipush 10, 2) := by decide +kernel
theorem dX4_isPlan_20 : decode cX4_isPlan 20 = .ok (.idiv, 1) := by decide +kernel
theorem dX4_isPlan_21 : decode cX4_isPlan 21 = .ok (.iload_n 1, 1) := by decide +kernel
theorem dX4_isPlan_22 : decode cX4_isPlan 22 = .ok (.bipush 10, 2) := by decide +kernel
theorem dX4_isPlan_24 : decode cX4_isPlan 24 = .ok (.irem, 1) := by decide +kernel
theorem dX4_isPlan_25 : decode cX4_isPlan 25 = .ok (.if_icmp .gt 14, 3) := by decide +kernel
theorem dX4_isPlan_28 : decode cX4_isPlan 28 = .ok (.iload_n 2, 1) := by decide +kernel
theorem dX4_isPlan_29 : decode cX4_isPlan 29 = .ok (.invokestatic 179, 3) := by decide +kernel
theorem dX4_isPlan_32 : decode cX4_isPlan 32 = .ok (.ifCond .eq 7, 3) := by decide +kernel
theorem dX4_isPlan_35 : decode cX4_isPlan 35 = .ok (.iconst 1, 1) := by decide +kernel
theorem dX4_isPlan_36 : decode cX4_isPlan 36 = .ok (.goto 4, 3) := by decide +kernel
theorem dX4_isPlan_39 : decode cX4_isPlan 39 = .ok (.iconst 0, 1) := by decide +kernel
theorem dX4_isPlan_40 : decode cX4_isPlan 40 = .ok (.ireturn, 1) := by decide +kernel
theorem dX4_streetNight_0 : decode cX4_streetNight 0 = .ok (.bipush 30, 2) := by decide +kernel
theorem dX4_streetNight_2 : decode cX4_streetNight 2 = .ok (.iload_n 0, 1) := by decide +kernel
theorem dX4_streetNight_3 : decode cX4_streetNight 3 = .ok (.imul, 1) := by decide +kernel
theorem dX4_streetNight_4 : decode cX4_streetNight 4 = .ok (.iload_n 1, 1) := by decide +kernel
theorem dX4_streetNight_5 : decode cX4_streetNight 5 = .ok (.iadd, 1) := by decide +kernel
theorem dX4_streetNight_6 : decode cX4_streetNight 6 = .ok (.ireturn, 1) := by decide +kernel
theorem dX4_at_0 : decode cX4_at 0 = .ok (.iload_n 1, 1) := by decide +kernel
theorem dX4_at_1 : decode cX4_at 1 = .ok (.ifCond .lt 15, 3) := by decide +kernel
theorem dX4_at_4 : decode cX4_at 4 = .ok (.iload_n 1, 1) := by decide +kernel
theorem dX4_at_5 : decode cX4_at 5 = .ok (.aload_n 0, 1) := by decide +kernel
theorem dX4_at_6 : decode cX4_at 6 = .ok (.arraylength, 1) := by decide +kernel
theorem dX4_at_7 : decode cX4_at 7 = .ok (.if_icmp .ge 9, 3) := by decide +kernel
theorem dX4_at_10 : decode cX4_at 10 = .ok (.aload_n 0, 1) := by decide +kernel
theorem dX4_at_11 : decode cX4_at 11 = .ok (.iload_n 1, 1) := by decide +kernel
theorem dX4_at_12 : decode cX4_at 12 = .ok (.iaload, 1) := by decide +kernel
theorem dX4_at_13 : decode cX4_at 13 = .ok (.goto 4, 3) := by decide +kernel
theorem dX4_at_16 : decode cX4_at 16 = .ok (.iconst 0, 1) := by decide +kernel
theorem dX4_at_17 : decode cX4_at 17 = .ok (.ireturn, 1) := by decide +kernel
theorem dX4_put_0 : decode cX4_put 0 = .ok (.iload_n 1, 1) := by decide +kernel
theorem dX4_put_1 : decode cX4_put 1 = .ok (.ifCond .lt 13, 3) := by decide +kernel
theorem dX4_put_4 : decode cX4_put 4 = .ok (.iload_n 1, 1) := by decide +kernel
theorem dX4_put_5 : decode cX4_put 5 = .ok (.aload_n 0, 1) := by decide +kernel
theorem dX4_put_6 : decode cX4_put 6 = .ok (.arraylength, 1) := by decide +kernel
theorem dX4_put_7 : decode cX4_put 7 = .ok (.if_icmp .ge 7, 3) := by decide +kernel
theorem dX4_put_10 : decode cX4_put 10 = .ok (.aload_n 0, 1) := by decide +kernel
theorem dX4_put_11 : decode cX4_put 11 = .ok (.iload_n 1, 1) := by decide +kernel
theorem dX4_put_12 : decode cX4_put 12 = .ok (.iload_n 2, 1) := by decide +kernel
theorem dX4_put_13 : decode cX4_put 13 = .ok (.iastore, 1) := by decide +kernel
theorem dX4_put_14 : decode cX4_put 14 = .ok (.return_, 1) := by decide +kernel
theorem dX5_init_0 : decode cX5_init 0 = .ok (.aload_n 0, 1) := by decide +kernel
theorem dX5_init_1 : decode cX5_init 1 = .ok (.invokespecial 1, 3) := by decide +kernel
theorem dX5_init_4 : decode cX5_init 4 = .ok (.aload_n 0, 1) := by decide +kernel
theorem dX5_init_5 : decode cX5_init 5 = .ok (.sipush 1445, 3) := by decide +kernel
theorem dX5_init_8 : decode cX5_init 8 = .ok (.newarray .int, 2) := by decide +kernel
theorem dX5_init_10 : decode cX5_init 10 = .ok (.putfield 7, 3) := by decide +kernel
theorem dX5_init_13 : decode cX5_init 13 = .ok (.aload_n 0, 1) := by decide +kernel
theorem dX5_init_14 : decode cX5_init 14 = .ok (.sipush 5780, 3) := by decide +kernel
theorem dX5_init_17 : decode cX5_init 17 = .ok (.newarray .int, 2) := by decide +kernel
theorem dX5_init_19 : decode cX5_init 19 = .ok (.putfield 13, 3) := by decide +kernel
theorem dX5_init_22 : decode cX5_init 22 = .ok (.aload_n 0, 1) := by decide +kernel
theorem dX5_init_23 : decode cX5_init 23 = .ok (.sipush 1445, 3) := by decide +kernel
theorem dX5_init_26 : decode cX5_init 26 = .ok (.newarray .int, 2) := by decide +kernel
theorem dX5_init_28 : decode cX5_init 28 = .ok (.putfield 16, 3) := by decide +kernel
theorem dX5_init_31 : decode cX5_init 31 = .ok (.aload_n 0, 1) := by decide +kernel
theorem dX5_init_32 : decode cX5_init 32 = .ok (.bipush 80, 2) := by decide +kernel
theorem dX5_init_34 : decode cX5_init 34 = .ok (.newarray .char, 2) := by decide +kernel
theorem dX5_init_36 : decode cX5_init 36 = .ok (.putfield 19, 3) := by decide +kernel
theorem dX5_init_39 : decode cX5_init 39 = .ok (.aload_n 0, 1) := by decide +kernel
theorem dX5_init_40 : decode cX5_init 40 = .ok (.iconst 5, 1) := by decide +kernel
theorem dX5_init_41 : decode cX5_init 41 = .ok (.newarray .int, 2) := by decide +kernel
theorem dX5_init_43 : decode cX5_init 43 = .ok (.putfield 23, 3) := by decide +kernel
theorem dX5_init_46 : decode cX5_init 46 = .ok (.aload_n 0, 1) := by decide +kernel
theorem dX5_init_47 : decode cX5_init 47 = .ok (.getfield 7, 3) := by decide +kernel
theorem dX5_init_50 : decode cX5_init 50 = .ok (.iconst 1, 1) := by decide +kernel
theorem dX5_init_51 : decode cX5_init 51 = .ok (.bipush 100, 2) := by decide +kernel
theorem dX5_init_53 : decode cX5_init 53 = .ok (.iastore, 1) := by decide +kernel
theorem dX5_init_54 : decode cX5_init 54 = .ok (.aload_n 0, 1) := by decide +kernel
theorem dX5_init_55 : decode cX5_init 55 = .ok (.getfield 7, 3) := by decide +kernel
theorem dX5_init_58 : decode cX5_init 58 = .ok (.iconst 2, 1) := by decide +kernel
theorem dX5_init_59 : decode cX5_init 59 = .ok (.bipush 40, 2) := by decide +kernel
theorem dX5_init_61 : decode cX5_init 61 = .ok (.iastore, 1) := by decide +kernel
theorem dX5_init_62 : decode cX5_init 62 = .ok (.aload_n 0, 1) := by decide +kernel
theorem dX5_init_63 : decode cX5_init 63 = .ok (.getfield 7, 3) := by decide +kernel
theorem dX5_init_66 : decode cX5_init 66 = .ok (.iconst 3, 1) := by decide +kernel
theorem dX5_init_67 : decode cX5_init 67 = .ok (.iconst 5, 1) := by decide +kernel
theorem dX5_init_68 : decode cX5_init 68 = .ok (.iastore, 1) := by decide +kernel
theorem dX5_init_69 : decode cX5_init 69 = .ok (.iconst 0, 1) := by decide +kernel
theorem dX5_init_70 : decode cX5_init 70 = .ok (.istore_n 1, 1) := by decide +kernel
theorem dX5_init_71 : decode cX5_init 71 = .ok (.iload_n 1, 1) := by decide +kernel
theorem dX5_init_72 : decode cX5_init 72 = .ok (.bipush 120, 2) := by decide +kernel
theorem dX5_init_74 : decode cX5_init 74 = .ok (.if_icmp .ge 19, 3) := by decide +kernel
theorem dX5_init_77 : decode cX5_init 77 = .ok (.aload_n 0, 1) := by decide +kernel
theorem dX5_init_78 : decode cX5_init 78 = .ok (.getfield 7, 3) := by decide +kernel
theorem dX5_init_81 : decode cX5_init 81 = .ok (.bipush 82, 2) := by decide +kernel
theorem dX5_init_83 : decode cX5_init 83 = .ok (.iload_n 1, 1) := by decide +kernel
theorem dX5_init_84 : decode cX5_init 84 = .ok (.iadd, 1) := by decide +kernel
theorem dX5_init_85 : decode cX5_init 85 = .ok (.iconst (-1), 1) := by decide +kernel
theorem dX5_init_86 : decode cX5_init 86 = .ok (.iastore, 1) := by decide +kernel
theorem dX5_init_87 : decode cX5_init 87 = .ok (.iinc 1 1, 3) := by decide +kernel
theorem dX5_init_90 : decode cX5_init 90 = .ok (.goto (-19), 3) := by decide +kernel
theorem dX5_init_93 : decode cX5_init 93 = .ok (.return_, 1) := by decide +kernel
theorem dX5_in_0 : decode cX5_in 0 = .ok (.iload_n 0, 1) := by decide +kernel
theorem dX5_in_1 : decode cX5_in 1 = .ok (.iload_n 1, 1) := by decide +kernel
theorem dX5_in_2 : decode cX5_in 2 = .ok (.if_icmp .lt 12, 3) := by decide +kernel
theorem dX5_in_5 : decode cX5_in 5 = .ok (.iload_n 0, 1) := by decide +kernel
theorem dX5_in_6 : decode cX5_in 6 = .ok (.iload_n 2, 1) := by decide +kernel
theorem dX5_in_7 : decode cX5_in 7 = .ok (.if_icmp .gt 7, 3) := by decide +kernel
theorem dX5_in_10 : decode cX5_in 10 = .ok (.iconst 1, 1) := by decide +kernel
theorem dX5_in_11 : decode cX5_in 11 = .ok (.goto 4, 3) := by decide +kernel
theorem dX5_in_14 : decode cX5_in 14 = .ok (.iconst 0, 1) := by decide +kernel
theorem dX5_in_15 : decode cX5_in 15 = .ok (.ireturn, 1) := by decide +kernel
set_option maxRecDepth 20000 in
theorem ggX5_isCrane_X5_in : GoodIn wsX5_isCrane wsX5_in := goodIn_r _ [5] (by decide +kernel) (by decide +kernel)
set_option maxRecDepth 20000 in
theorem gX5_isCrane_X5_in : GoodIn wsX5_isCrane (va_wsS RX5 26 yX5_in wsX5_in) := goodIn_app (goodIn_of _ (by decide +kernel)) ggX5_isCrane_X5_in
theorem dX5_isCrane_0 : decode cX5_isCrane 0 = .ok (.iload_n 1, 1) := by decide +kernel
theorem dX5_isCrane_1 : decode cX5_isCrane 1 = .ok (.iconst 0, 1) := by decide +kernel
theorem dX5_isCrane_2 : decode cX5_isCrane 2 = .ok (.aload_n 0, 1) := by decide +kernel
theorem dX5_isCrane_3 : decode cX5_isCrane 3 = .ok (.getfield 7, 3) := by decide +kernel
theorem dX5_isCrane_6 : decode cX5_isCrane 6 = .ok (.iconst 0, 1) := by decide +kernel
theorem dX5_isCrane_7 : decode cX5_isCrane 7 = .ok (.iaload, 1) := by decide +kernel
theorem dX5_isCrane_8 : decode cX5_isCrane 8 = .ok (.iconst 1, 1) := by decide +kernel
theorem dX5_isCrane_9 : decode cX5_isCrane 9 = .ok (.isub, 1) := by decide +kernel
theorem dX5_isCrane_10 : decode cX5_isCrane 10 = .ok (.invokestatic 26, 3) := by decide +kernel
theorem dX5_isCrane_13 : decode cX5_isCrane 13 = .ok (.ireturn, 1) := by decide +kernel
set_option maxRecDepth 20000 in
theorem ggX5_isPermit_X5_in : GoodIn wsX5_isPermit wsX5_in := goodIn_r _ [5] (by decide +kernel) (by decide +kernel)
set_option maxRecDepth 20000 in
theorem gX5_isPermit_X5_in : GoodIn wsX5_isPermit (va_wsS RX5 26 yX5_in wsX5_in) := goodIn_app (goodIn_of _ (by decide +kernel)) ggX5_isPermit_X5_in
theorem dX5_isPermit_0 : decode cX5_isPermit 0 = .ok (.iload_n 1, 1) := by decide +kernel
theorem dX5_isPermit_1 : decode cX5_isPermit 1 = .ok (.iconst 0, 1) := by decide +kernel
theorem dX5_isPermit_2 : decode cX5_isPermit 2 = .ok (.aload_n 0, 1) := by decide +kernel
