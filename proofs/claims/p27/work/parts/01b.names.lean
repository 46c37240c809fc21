theorem dX2_validAt_37 : decode cX2_validAt 37 = .ok (.goto 4, 3) := by decide +kernel
theorem dX2_validAt_40 : decode cX2_validAt 40 = .ok (.aconst_null, 1) := by decide +kernel
theorem dX2_validAt_41 : decode cX2_validAt 41 = .ok (.areturn, 1) := by decide +kernel
set_option maxRecDepth 20000 in
theorem ggX2_hasCraneIn_X2_craneAt : GoodIn wsX2_hasCraneIn wsX2_craneAt := goodIn_r _ [8, 1, 9, 10, 11, 12, 13, 14, 15, 16, 17, 18, 19, 20, 21, 22] (by decide +kernel) (by decide +kernel)
set_option maxRecDepth 20000 in
theorem gX2_hasCraneIn_X2_craneAt : GoodIn wsX2_hasCraneIn (wsV RX2 70 RX2 yX2_craneAt wsX2_craneAt) := goodIn_app (goodIn_of _ (by decide +kernel)) ggX2_hasCraneIn_X2_craneAt
theorem dX2_hasCraneIn_0 : decode cX2_hasCraneIn 0 = .ok (.iconst 0, 1) := by decide +kernel
theorem dX2_hasCraneIn_1 : decode cX2_hasCraneIn 1 = .ok (.istore_n 3, 1) := by decide +kernel
theorem dX2_hasCraneIn_2 : decode cX2_hasCraneIn 2 = .ok (.iload_n 3, 1) := by decide +kernel
theorem dX2_hasCraneIn_3 : decode cX2_hasCraneIn 3 = .ok (.aload_n 0, 1) := by decide +kernel
theorem dX2_hasCraneIn_4 : decode cX2_hasCraneIn 4 = .ok (.getfield 17, 3) := by decide +kernel
theorem dX2_hasCraneIn_7 : decode cX2_hasCraneIn 7 = .ok (.if_icmp .ge 41, 3) := by decide +kernel
theorem dX2_hasCraneIn_10 : decode cX2_hasCraneIn 10 = .ok (.aload_n 0, 1) := by decide +kernel
theorem dX2_hasCraneIn_11 : decode cX2_hasCraneIn 11 = .ok (.iload_n 3, 1) := by decide +kernel
theorem dX2_hasCraneIn_12 : decode cX2_hasCraneIn 12 = .ok (.invokevirtual 70, 3) := by decide +kernel
theorem dX2_hasCraneIn_15 : decode cX2_hasCraneIn 15 = .ok (.astore 4, 2) := by decide +kernel
theorem dX2_hasCraneIn_17 : decode cX2_hasCraneIn 17 = .ok (.aload 4, 2) := by decide +kernel
theorem dX2_hasCraneIn_19 : decode cX2_hasCraneIn 19 = .ok (.ifnull 23, 3) := by decide +kernel
theorem dX2_hasCraneIn_22 : decode cX2_hasCraneIn 22 = .ok (.aload 4, 2) := by decide +kernel
theorem dX2_hasCraneIn_24 : decode cX2_hasCraneIn 24 = .ok (.getfield 74, 3) := by decide +kernel
theorem dX2_hasCraneIn_27 : decode cX2_hasCraneIn 27 = .ok (.iload_n 1, 1) := by decide +kernel
theorem dX2_hasCraneIn_28 : decode cX2_hasCraneIn 28 = .ok (.if_icmp .ne 14, 3) := by decide +kernel
theorem dX2_hasCraneIn_31 : decode cX2_hasCraneIn 31 = .ok (.aload 4, 2) := by decide +kernel
theorem dX2_hasCraneIn_33 : decode cX2_hasCraneIn 33 = .ok (.getfield 77, 3) := by decide +kernel
theorem dX2_hasCraneIn_36 : decode cX2_hasCraneIn 36 = .ok (.iload_n 2, 1) := by decide +kernel
theorem dX2_hasCraneIn_37 : decode cX2_hasCraneIn 37 = .ok (.if_icmp .ne 5, 3) := by decide +kernel
theorem dX2_hasCraneIn_40 : decode cX2_hasCraneIn 40 = .ok (.iconst 1, 1) := by decide +kernel
theorem dX2_hasCraneIn_41 : decode cX2_hasCraneIn 41 = .ok (.ireturn, 1) := by decide +kernel
theorem dX2_hasCraneIn_42 : decode cX2_hasCraneIn 42 = .ok (.iinc 3 1, 3) := by decide +kernel
theorem dX2_hasCraneIn_45 : decode cX2_hasCraneIn 45 = .ok (.goto (-43), 3) := by decide +kernel
theorem dX2_hasCraneIn_48 : decode cX2_hasCraneIn 48 = .ok (.iconst 0, 1) := by decide +kernel
theorem dX2_hasCraneIn_49 : decode cX2_hasCraneIn 49 = .ok (.ireturn, 1) := by decide +kernel
set_option maxRecDepth 20000 in
theorem ggX2_addCrane_X4_put : GoodIn wsX2_addCrane wsX4_put := goodIn_r _ [6] (by decide +kernel) (by decide +kernel)
set_option maxRecDepth 20000 in
theorem gX2_addCrane_X4_put_n80 : GoodIn wsX2_addCrane (wsX4_put) := ggX2_addCrane_X4_put
theorem dX2_addCrane_0 : decode cX2_addCrane 0 = .ok (.aload_n 0, 1) := by decide +kernel
theorem dX2_addCrane_1 : decode cX2_addCrane 1 = .ok (.getfield 17, 3) := by decide +kernel
theorem dX2_addCrane_4 : decode cX2_addCrane 4 = .ok (.ifCond .lt 47, 3) := by decide +kernel
theorem dX2_addCrane_7 : decode cX2_addCrane 7 = .ok (.aload_n 0, 1) := by decide +kernel
theorem dX2_addCrane_8 : decode cX2_addCrane 8 = .ok (.getfield 17, 3) := by decide +kernel
theorem dX2_addCrane_11 : decode cX2_addCrane 11 = .ok (.aload_n 0, 1) := by decide +kernel
theorem dX2_addCrane_12 : decode cX2_addCrane 12 = .ok (.getfield 11, 3) := by decide +kernel
theorem dX2_addCrane_15 : decode cX2_addCrane 15 = .ok (.arraylength, 1) := by decide +kernel
theorem dX2_addCrane_16 : decode cX2_addCrane 16 = .ok (.if_icmp .ge 35, 3) := by decide +kernel
theorem dX2_addCrane_19 : decode cX2_addCrane 19 = .ok (.aload_n 0, 1) := by decide +kernel
theorem dX2_addCrane_20 : decode cX2_addCrane 20 = .ok (.getfield 11, 3) := by decide +kernel
theorem dX2_addCrane_23 : decode cX2_addCrane 23 = .ok (.aload_n 0, 1) := by decide +kernel
theorem dX2_addCrane_24 : decode cX2_addCrane 24 = .ok (.getfield 17, 3) := by decide +kernel
theorem dX2_addCrane_27 : decode cX2_addCrane 27 = .ok (.aload_n 1, 1) := by decide +kernel
theorem dX2_addCrane_28 : decode cX2_addCrane 28 = .ok (.aastore, 1) := by decide +kernel
theorem dX2_addCrane_29 : decode cX2_addCrane 29 = .ok (.aload_n 0, 1) := by decide +kernel
theorem dX2_addCrane_30 : decode cX2_addCrane 30 = .ok (.getfield 21, 3) := by decide +kernel
theorem dX2_addCrane_33 : decode cX2_addCrane 33 = .ok (.aload_n 0, 1) := by decide +kernel
theorem dX2_addCrane_34 : decode cX2_addCrane 34 = .ok (.getfield 17, 3) := by decide +kernel
theorem dX2_addCrane_37 : decode cX2_addCrane 37 = .ok (.iload_n 2, 1) := by decide +kernel
theorem dX2_addCrane_38 : decode cX2_addCrane 38 = .ok (.invokestatic 80, 3) := by decide +kernel
theorem dX2_addCrane_41 : decode cX2_addCrane 41 = .ok (.aload_n 0, 1) := by decide +kernel
theorem dX2_addCrane_42 : decode cX2_addCrane 42 = .ok (.dup, 1) := by decide +kernel
theorem dX2_addCrane_43 : decode cX2_addCrane 43 = .ok (.getfield 17, 3) := by decide +kernel
theorem dX2_addCrane_46 : decode cX2_addCrane 46 = .ok (.iconst 1, 1) := by decide +kernel
theorem dX2_addCrane_47 : decode cX2_addCrane 47 = .ok (.iadd, 1) := by decide +kernel
theorem dX2_addCrane_48 : decode cX2_addCrane 48 = .ok (.putfield 17, 3) := by decide +kernel
theorem dX2_addCrane_51 : decode cX2_addCrane 51 = .ok (.return_, 1) := by decide +kernel
set_option maxRecDepth 20000 in
theorem ggX2_stopWindOf_X4_at : GoodIn wsX2_stopWindOf wsX4_at := goodIn_r _ [5] (by decide +kernel) (by decide +kernel)
set_option maxRecDepth 20000 in
theorem gX2_stopWindOf_X4_at_n84 : GoodIn wsX2_stopWindOf (wsX4_at) := ggX2_stopWindOf_X4_at
theorem dX2_stopWindOf_0 : decode cX2_stopWindOf 0 = .ok (.aload_n 0, 1) := by decide +kernel
theorem dX2_stopWindOf_1 : decode cX2_stopWindOf 1 = .ok (.getfield 25, 3) := by decide +kernel
theorem dX2_stopWindOf_4 : decode cX2_stopWindOf 4 = .ok (.iconst 0, 1) := by decide +kernel
theorem dX2_stopWindOf_5 : decode cX2_stopWindOf 5 = .ok (.invokestatic 84, 3) := by decide +kernel
theorem dX2_stopWindOf_8 : decode cX2_stopWindOf 8 = .ok (.aload_n 1, 1) := by decide +kernel
theorem dX2_stopWindOf_9 : decode cX2_stopWindOf 9 = .ok (.getfield 88, 3) := by decide +kernel
theorem dX2_stopWindOf_12 : decode cX2_stopWindOf 12 = .ok (.iconst 2, 1) := by decide +kernel
theorem dX2_stopWindOf_13 : decode cX2_stopWindOf 13 = .ok (.idiv, 1) := by decide +kernel
theorem dX2_stopWindOf_14 : decode cX2_stopWindOf 14 = .ok (.isub, 1) := by decide +kernel
theorem dX2_stopWindOf_15 : decode cX2_stopWindOf 15 = .ok (.ireturn, 1) := by decide +kernel
set_option maxRecDepth 20000 in
theorem ggX2_mustStop_X4_at : GoodIn wsX2_mustStop wsX4_at := goodIn_r _ [4] (by decide +kernel) (by decide +kernel)
set_option maxRecDepth 20000 in
theorem gX2_mustStop_X4_at_n84 : GoodIn wsX2_mustStop (wsX4_at) := ggX2_mustStop_X4_at
set_option maxRecDepth 20000 in
theorem ggX2_mustStop_X2_stopWindOf : GoodIn wsX2_mustStop wsX2_stopWindOf := goodIn_r _ [9, 10, 11, 2, 3, 4, 12, 13, 14, 15, 16, 17, 18, 19, 20, 21, 22, 23, 24, 25, 26, 27, 28, 29, 30, 31] (by decide +kernel) (by decide +kernel)
set_option maxRecDepth 20000 in
theorem gX2_mustStop_X2_stopWindOf : GoodIn wsX2_mustStop (wsV RX2 91 RX2 yX2_stopWindOf wsX2_stopWindOf) := goodIn_app (goodIn_of _ (by decide +kernel)) ggX2_mustStop_X2_stopWindOf
theorem dX2_mustStop_0 : decode cX2_mustStop 0 = .ok (.aload_n 0, 1) := by decide +kernel
theorem dX2_mustStop_1 : decode cX2_mustStop 1 = .ok (.getfield 28, 3) := by decide +kernel
theorem dX2_mustStop_4 : decode cX2_mustStop 4 = .ok (.iload_n 2, 1) := by decide +kernel
theorem dX2_mustStop_5 : decode cX2_mustStop 5 = .ok (.invokestatic 84, 3) := by decide +kernel
theorem dX2_mustStop_8 : decode cX2_mustStop 8 = .ok (.aload_n 0, 1) := by decide +kernel
theorem dX2_mustStop_9 : decode cX2_mustStop 9 = .ok (.aload_n 1, 1) := by decide +kernel
theorem dX2_mustStop_10 : decode cX2_mustStop 10 = .ok (.invokevirtual 91, 3) := by decide +kernel
theorem dX2_mustStop_13 : decode cX2_mustStop 13 = .ok (.if_icmp .lt 7, 3) := by decide +kernel
theorem dX2_mustStop_16 : decode cX2_mustStop 16 = .ok (.iconst 1, 1) := by decide +kernel
theorem dX2_mustStop_17 : decode cX2_mustStop 17 = .ok (.goto 4, 3) := by decide +kernel
theorem dX2_mustStop_20 : decode cX2_mustStop 20 = .ok (.iconst 0, 1) := by decide +kernel
theorem dX2_mustStop_21 : decode cX2_mustStop 21 = .ok (.ireturn, 1) := by decide +kernel
set_option maxRecDepth 20000 in
theorem ggX2_allowanceOf_X4_streetNight : GoodIn wsX2_allowanceOf wsX4_streetNight := goodIn_r _ [5] (by decide +kernel) (by decide +kernel)
set_option maxRecDepth 20000 in
theorem gX2_allowanceOf_X4_streetNight_n95 : GoodIn wsX2_allowanceOf (wsX4_streetNight) := ggX2_allowanceOf_X4_streetNight
set_option maxRecDepth 20000 in
theorem ggX2_allowanceOf_X4_at : GoodIn wsX2_allowanceOf wsX4_at := goodIn_r _ [7] (by decide +kernel) (by decide +kernel)
set_option maxRecDepth 20000 in
theorem gX2_allowanceOf_X4_at_n84 : GoodIn wsX2_allowanceOf (wsX4_at) := ggX2_allowanceOf_X4_at
theorem dX2_allowanceOf_0 : decode cX2_allowanceOf 0 = .ok (.aload_n 0, 1) := by decide +kernel
theorem dX2_allowanceOf_1 : decode cX2_allowanceOf 1 = .ok (.getfield 31, 3) := by decide +kernel
theorem dX2_allowanceOf_4 : decode cX2_allowanceOf 4 = .ok (.iload_n 1, 1) := by decide +kernel
theorem dX2_allowanceOf_5 : decode cX2_allowanceOf 5 = .ok (.iload_n 2, 1) := by decide +kernel
theorem dX2_allowanceOf_6 : decode cX2_allowanceOf 6 = .ok (.invokestatic 95, 3) := by decide +kernel
theorem dX2_allowanceOf_9 : decode cX2_allowanceOf 9 = .ok (.invokestatic 84, 3) := by decide +kernel
theorem dX2_allowanceOf_12 : decode cX2_allowanceOf 12 = .ok (.istore_n 3, 1) := by decide +kernel
theorem dX2_allowanceOf_13 : decode cX2_allowanceOf 13 = .ok (.iload_n 3, 1) := by decide +kernel
theorem dX2_allowanceOf_14 : decode cX2_allowanceOf 14 = .ok (.iconst (-1), 1) := by decide +kernel
theorem dX2_allowanceOf_15 : decode cX2_allowanceOf 15 = .ok (.if_icmp .ne 14, 3) := by decide +kernel
theorem dX2_allowanceOf_18 : decode cX2_allowanceOf 18 = .ok (.aload_n 0, 1) := by decide +kernel
theorem dX2_allowanceOf_19 : decode cX2_allowanceOf 19 = .ok (.getfield 25, 3) := by decide +kernel
theorem dX2_allowanceOf_22 : decode cX2_allowanceOf 22 = .ok (.iconst 1, 1) := by decide +kernel
theorem dX2_allowanceOf_23 : decode cX2_allowanceOf 23 = .ok (.invokestatic 84, 3) := by decide +kernel
theorem dX2_allowanceOf_26 : decode cX2_allowanceOf 26 = .ok (.goto 4, 3) := by decide +kernel
theorem dX2_allowanceOf_29 : decode cX2_allowanceOf 29 = .ok (.iload_n 3, 1) := by decide +kernel
theorem dX2_allowanceOf_30 : decode cX2_allowanceOf 30 = .ok (.ireturn, 1) := by decide +kernel
set_option maxRecDepth 20000 in
theorem ggX2_creditsOf_X4_streetNight : GoodIn wsX2_creditsOf wsX4_streetNight := goodIn_r _ [5] (by decide +kernel) (by decide +kernel)
set_option maxRecDepth 20000 in
theorem gX2_creditsOf_X4_streetNight_n95 : GoodIn wsX2_creditsOf (wsX4_streetNight) := ggX2_creditsOf_X4_streetNight
set_option maxRecDepth 20000 in
theorem ggX2_creditsOf_X2_allowanceOf : GoodIn wsX2_creditsOf wsX2_allowanceOf := goodIn_r _ [10, 11, 12, 3, 4, 5, 13, 14, 15, 16, 17, 18, 19, 20, 21, 22, 23, 24, 25, 26, 27] (by decide +kernel) (by decide +kernel)
set_option maxRecDepth 20000 in
theorem gX2_creditsOf_X2_allowanceOf : GoodIn wsX2_creditsOf (wsV RX2 99 RX2 yX2_allowanceOf wsX2_allowanceOf) := goodIn_app (goodIn_of _ (by decide +kernel)) ggX2_creditsOf_X2_allowanceOf
set_option maxRecDepth 20000 in
theorem ggX2_creditsOf_X4_at : GoodIn wsX2_creditsOf wsX4_at := goodIn_r _ [14] (by decide +kernel) (by decide +kernel)
set_option maxRecDepth 20000 in
theorem gX2_creditsOf_X4_at_n84 : GoodIn wsX2_creditsOf (wsX4_at) := ggX2_creditsOf_X4_at
theorem dX2_creditsOf_0 : decode cX2_creditsOf 0 = .ok (.iload_n 1, 1) := by decide +kernel
theorem dX2_creditsOf_1 : decode cX2_creditsOf 1 = .ok (.iload_n 2, 1) := by decide +kernel
theorem dX2_creditsOf_2 : decode cX2_creditsOf 2 = .ok (.invokestatic 95, 3) := by decide +kernel
theorem dX2_creditsOf_5 : decode cX2_creditsOf 5 = .ok (.istore_n 3, 1) := by decide +kernel
theorem dX2_creditsOf_6 : decode cX2_creditsOf 6 = .ok (.aload_n 0, 1) := by decide +kernel
theorem dX2_creditsOf_7 : decode cX2_creditsOf 7 = .ok (.iload_n 1, 1) := by decide +kernel
theorem dX2_creditsOf_8 : decode cX2_creditsOf 8 = .ok (.iload_n 2, 1) := by decide +kernel
theorem dX2_creditsOf_9 : decode cX2_creditsOf 9 = .ok (.invokevirtual 99, 3) := by decide +kernel
theorem dX2_creditsOf_12 : decode cX2_creditsOf 12 = .ok (.aload_n 0, 1) := by decide +kernel
theorem dX2_creditsOf_13 : decode cX2_creditsOf 13 = .ok (.getfield 34, 3) := by decide +kernel
theorem dX2_creditsOf_16 : decode cX2_creditsOf 16 = .ok (.iload_n 3, 1) := by decide +kernel
theorem dX2_creditsOf_17 : decode cX2_creditsOf 17 = .ok (.invokestatic 84, 3) := by decide +kernel
theorem dX2_creditsOf_20 : decode cX2_creditsOf 20 = .ok (.iadd, 1) := by decide +kernel
theorem dX2_creditsOf_21 : decode cX2_creditsOf 21 = .ok (.aload_n 0, 1) := by decide +kernel
theorem dX2_creditsOf_22 : decode cX2_creditsOf 22 = .ok (.getfield 37, 3) := by decide +kernel
theorem dX2_creditsOf_25 : decode cX2_creditsOf 25 = .ok (.iload_n 3, 1) := by decide +kernel
theorem dX2_creditsOf_26 : decode cX2_creditsOf 26 = .ok (.invokestatic 84, 3) := by decide +kernel
theorem dX2_creditsOf_29 : decode cX2_creditsOf 29 = .ok (.isub, 1) := by decide +kernel
theorem dX2_creditsOf_30 : decode cX2_creditsOf 30 = .ok (.ireturn, 1) := by decide +kernel
set_option maxRecDepth 20000 in
theorem ggX2_useOf_X4_at : GoodIn wsX2_useOf wsX4_at := goodIn_r _ [5] (by decide +kernel) (by decide +kernel)
set_option maxRecDepth 20000 in
theorem gX2_useOf_X4_at_n84 : GoodIn wsX2_useOf (wsX4_at) := ggX2_useOf_X4_at
theorem dX2_useOf_0 : decode cX2_useOf 0 = .ok (.iload_n 2, 1) := by decide +kernel
theorem dX2_useOf_1 : decode cX2_useOf 1 = .ok (.bipush 10, 2) := by decide +kernel
theorem dX2_useOf_3 : decode cX2_useOf 3 = .ok (.irem, 1) := by decide +kernel
theorem dX2_useOf_4 : decode cX2_useOf 4 = .ok (.iload_n 2, 1) := by decide +kernel
theorem dX2_useOf_5 : decode cX2_useOf 5 = .ok (.bipush 10, 2) := by decide +kernel
theorem dX2_useOf_7 : decode cX2_useOf 7 = .ok (.idiv, 1) := by decide +kernel
theorem dX2_useOf_8 : decode cX2_useOf 8 = .ok (.isub, 1) := by decide +kernel
theorem dX2_useOf_9 : decode cX2_useOf 9 = .ok (.iconst 1, 1) := by decide +kernel
theorem dX2_useOf_10 : decode cX2_useOf 10 = .ok (.iadd, 1) := by decide +kernel
theorem dX2_useOf_11 : decode cX2_useOf 11 = .ok (.aload_n 0, 1) := by decide +kernel
theorem dX2_useOf_12 : decode cX2_useOf 12 = .ok (.getfield 21, 3) := by decide +kernel
theorem dX2_useOf_15 : decode cX2_useOf 15 = .ok (.aload_n 1, 1) := by decide +kernel
theorem dX2_useOf_16 : decode cX2_useOf 16 = .ok (.getfield 102, 3) := by decide +kernel
theorem dX2_useOf_19 : decode cX2_useOf 19 = .ok (.invokestatic 84, 3) := by decide +kernel
theorem dX2_useOf_22 : decode cX2_useOf 22 = .ok (.imul, 1) := by decide +kernel
theorem dX2_useOf_23 : decode cX2_useOf 23 = .ok (.ireturn, 1) := by decide +kernel
set_option maxRecDepth 20000 in
theorem ggX2_usedOf_X2_validAt : GoodIn wsX2_usedOf wsX2_validAt := goodIn_r _ [8, 1, 9, 27, 28, 29, 30, 31, 32, 33, 34, 35, 36, 37, 38, 39] (by decide +kernel) (by decide +kernel)
set_option maxRecDepth 20000 in
theorem gX2_usedOf_X2_validAt : GoodIn wsX2_usedOf (wsV RX2 105 RX2 yX2_validAt wsX2_validAt) := goodIn_app (goodIn_of _ (by decide +kernel)) ggX2_usedOf_X2_validAt
set_option maxRecDepth 20000 in
theorem ggX2_usedOf_X1_isOf : GoodIn wsX2_usedOf wsX1_isOf := goodIn_r _ [14, 15, 16, 17, 40, 41, 42, 43, 44, 45, 46, 47, 48, 49, 50, 51, 52, 53] (by decide +kernel) (by decide +kernel)
set_option maxRecDepth 20000 in
theorem gX2_usedOf_X1_isOf : GoodIn wsX2_usedOf (wsV RX2 109 RX1 yX1_isOf wsX1_isOf) := goodIn_app (goodIn_of _ (by decide +kernel)) ggX2_usedOf_X1_isOf
set_option maxRecDepth 20000 in
theorem ggX2_usedOf_X2_useOf : GoodIn wsX2_usedOf wsX2_useOf := goodIn_r _ [21, 22, 23, 24, 25, 26, 27, 28, 29, 30, 31, 32, 33, 34, 35, 36, 37, 38, 39, 47, 48, 49, 50, 51, 52, 53] (by decide +kernel) (by decide +kernel)
set_option maxRecDepth 20000 in
theorem gX2_usedOf_X2_useOf : GoodIn wsX2_usedOf (wsV RX2 120 RX2 yX2_useOf wsX2_useOf) := goodIn_app (goodIn_of _ (by decide +kernel)) ggX2_usedOf_X2_useOf
theorem dX2_usedOf_0 : decode cX2_usedOf 0 = .ok (.iconst 0, 1) := by decide +kernel
theorem dX2_usedOf_1 : decode cX2_usedOf 1 = .ok (.istore_n 3, 1) := by decide +kernel
theorem dX2_usedOf_2 : decode cX2_usedOf 2 = .ok (.iconst 0, 1) := by decide +kernel
theorem dX2_usedOf_3 : decode cX2_usedOf 3 = .ok (.istore 4, 2) := by decide +kernel
theorem dX2_usedOf_5 : decode cX2_usedOf 5 = .ok (.iload 4, 2) := by decide +kernel
theorem dX2_usedOf_7 : decode cX2_usedOf 7 = .ok (.aload_n 0, 1) := by decide +kernel
theorem dX2_usedOf_8 : decode cX2_usedOf 8 = .ok (.getfield 55, 3) := by decide +kernel
theorem dX2_usedOf_11 : decode cX2_usedOf 11 = .ok (.if_icmp .ge 49, 3) := by decide +kernel
theorem dX2_usedOf_14 : decode cX2_usedOf 14 = .ok (.aload_n 0, 1) := by decide +kernel
theorem dX2_usedOf_15 : decode cX2_usedOf 15 = .ok (.iload 4, 2) := by decide +kernel
theorem dX2_usedOf_17 : decode cX2_usedOf 17 = .ok (.invokevirtual 105, 3) := by decide +kernel
theorem dX2_usedOf_20 : decode cX2_usedOf 20 = .ok (.astore 5, 2) := by decide +kernel
theorem dX2_usedOf_22 : decode cX2_usedOf 22 = .ok (.aload 5, 2) := by decide +kernel
theorem dX2_usedOf_24 : decode cX2_usedOf 24 = .ok (.ifnull 30, 3) := by decide +kernel
theorem dX2_usedOf_27 : decode cX2_usedOf 27 = .ok (.aload 5, 2) := by decide +kernel
theorem dX2_usedOf_29 : decode cX2_usedOf 29 = .ok (.iload_n 1, 1) := by decide +kernel
theorem dX2_usedOf_30 : decode cX2_usedOf 30 = .ok (.iload_n 2, 1) := by decide +kernel
theorem dX2_usedOf_31 : decode cX2_usedOf 31 = .ok (.invokevirtual 109, 3) := by decide +kernel
theorem dX2_usedOf_34 : decode cX2_usedOf 34 = .ok (.ifCond .eq 20, 3) := by decide +kernel
theorem dX2_usedOf_37 : decode cX2_usedOf 37 = .ok (.iload_n 3, 1) := by decide +kernel
theorem dX2_usedOf_38 : decode cX2_usedOf 38 = .ok (.aload_n 0, 1) := by decide +kernel
theorem dX2_usedOf_39 : decode cX2_usedOf 39 = .ok (.aload 5, 2) := by decide +kernel
theorem dX2_usedOf_41 : decode cX2_usedOf 41 = .ok (.getfield 113, 3) := by decide +kernel
theorem dX2_usedOf_44 : decode cX2_usedOf 44 = .ok (.aload 5, 2) := by decide +kernel
theorem dX2_usedOf_46 : decode cX2_usedOf 46 = .ok (.getfield 117, 3) := by decide +kernel
theorem dX2_usedOf_49 : decode cX2_usedOf 49 = .ok (.invokevirtual 120, 3) := by decide +kernel
theorem dX2_usedOf_52 : decode cX2_usedOf 52 = .ok (.iadd, 1) := by decide +kernel
theorem dX2_usedOf_53 : decode cX2_usedOf 53 = .ok (.istore_n 3, 1) := by decide +kernel
theorem dX2_usedOf_54 : decode cX2_usedOf 54 = .ok (.iinc 4 1, 3) := by decide +kernel
theorem dX2_usedOf_57 : decode cX2_usedOf 57 = .ok (.goto (-52), 3) := by decide +kernel
theorem dX2_usedOf_60 : decode cX2_usedOf 60 = .ok (.iload_n 3, 1) := by decide +kernel
theorem dX2_usedOf_61 : decode cX2_usedOf 61 = .ok (.ireturn, 1) := by decide +kernel
set_option maxRecDepth 20000 in
theorem ggX2_freeOf_X2_creditsOf : GoodIn wsX2_freeOf wsX2_creditsOf := goodIn_r _ [5, 6, 7, 8, 9, 10, 11, 12, 13, 4, 14, 15, 16, 17, 18, 45, 46, 47, 48, 49, 50, 51, 52, 53, 54, 55, 56, 57] (by decide +kernel) (by decide +kernel)
set_option maxRecDepth 20000 in
theorem gX2_freeOf_X2_creditsOf : GoodIn wsX2_freeOf (wsV RX2 124 RX2 yX2_creditsOf wsX2_creditsOf) := goodIn_app (goodIn_of _ (by decide +kernel)) ggX2_freeOf_X2_creditsOf
set_option maxRecDepth 20000 in
theorem ggX2_freeOf_X2_usedOf : GoodIn wsX2_freeOf wsX2_usedOf := goodIn_r _ [22, 23, 24, 25, 26, 27, 28, 4, 29, 30, 31, 32, 33, 34, 35, 36, 37, 38, 39, 40, 41, 42, 43, 44, 17, 9, 18, 45, 46, 47, 48, 49, 50, 51, 52, 53, 54, 55, 56, 57, 58, 59, 60, 61, 62, 63, 64, 65, 66, 67, 68, 69, 70, 71] (by decide +kernel) (by decide +kernel)
set_option maxRecDepth 20000 in
theorem gX2_freeOf_X2_usedOf : GoodIn wsX2_freeOf (wsV RX2 127 RX2 yX2_usedOf wsX2_usedOf) := goodIn_app (goodIn_of _ (by decide +kernel)) ggX2_freeOf_X2_usedOf
theorem dX2_freeOf_0 : decode cX2_freeOf 0 = .ok (.aload_n 0, 1) := by decide +kernel
theorem dX2_freeOf_1 : decode cX2_freeOf 1 = .ok (.iload_n 1, 1) := by decide +kernel
theorem dX2_freeOf_2 : decode cX2_freeOf 2 = .ok (.iload_n 2, 1) := by decide +kernel
theorem dX2_freeOf_3 : decode cX2_freeOf 3 = .ok (.invokevirtual 124, 3) := by decide +kernel
theorem dX2_freeOf_6 : decode cX2_freeOf 6 = .ok (.aload_n 0, 1) := by decide +kernel
theorem dX2_freeOf_7 : decode cX2_freeOf 7 = .ok (.iload_n 1, 1) := by decide +kernel
theorem dX2_freeOf_8 : decode cX2_freeOf 8 = .ok (.iload_n 2, 1) := by decide +kernel
theorem dX2_freeOf_9 : decode cX2_freeOf 9 = .ok (.invokevirtual 127, 3) := by decide +kernel
theorem dX2_freeOf_12 : decode cX2_freeOf 12 = .ok (.isub, 1) := by decide +kernel
theorem dX2_freeOf_13 : decode cX2_freeOf 13 = .ok (.ireturn, 1) := by decide +kernel
set_option maxRecDepth 20000 in
theorem ggX2_usedByAll_X2_validAt : GoodIn wsX2_usedByAll wsX2_validAt := goodIn_r _ [8, 1, 9, 19, 20, 21, 22, 23, 24, 25, 26, 27, 28, 29, 30, 31] (by decide +kernel) (by decide +kernel)
set_option maxRecDepth 20000 in
theorem gX2_usedByAll_X2_validAt : GoodIn wsX2_usedByAll (wsV RX2 105 RX2 yX2_validAt wsX2_validAt) := goodIn_app (goodIn_of _ (by decide +kernel)) ggX2_usedByAll_X2_validAt
set_option maxRecDepth 20000 in
theorem ggX2_usedByAll_X2_useOf : GoodIn wsX2_usedByAll wsX2_useOf := goodIn_r _ [13, 14, 15, 16, 17, 18, 19, 20, 21, 22, 23, 24, 25, 26, 27, 28, 29, 30, 31, 39, 40, 41, 42, 43, 44, 45] (by decide +kernel) (by decide +kernel)
set_option maxRecDepth 20000 in
theorem gX2_usedByAll_X2_useOf : GoodIn wsX2_usedByAll (wsV RX2 120 RX2 yX2_useOf wsX2_useOf) := goodIn_app (goodIn_of _ (by decide +kernel)) ggX2_usedByAll_X2_useOf
theorem dX2_usedByAll_0 : decode cX2_usedByAll 0 = .ok (.iconst 0, 1) := by decide +kernel
theorem dX2_usedByAll_1 : decode cX2_usedByAll 1 = .ok (.istore_n 1, 1) := by decide +kernel
theorem dX2_usedByAll_2 : decode cX2_usedByAll 2 = .ok (.iconst 0, 1) := by decide +kernel
theorem dX2_usedByAll_3 : decode cX2_usedByAll 3 = .ok (.istore_n 2, 1) := by decide +kernel
theorem dX2_usedByAll_4 : decode cX2_usedByAll 4 = .ok (.iload_n 2, 1) := by decide +kernel
theorem dX2_usedByAll_5 : decode cX2_usedByAll 5 = .ok (.aload_n 0, 1) := by decide +kernel
theorem dX2_usedByAll_6 : decode cX2_usedByAll 6 = .ok (.getfield 55, 3) := by decide +kernel
theorem dX2_usedByAll_9 : decode cX2_usedByAll 9 = .ok (.if_icmp .ge 34, 3) := by decide +kernel
theorem dX2_usedByAll_12 : decode cX2_usedByAll 12 = .ok (.aload_n 0, 1) := by decide +kernel
theorem dX2_usedByAll_13 : decode cX2_usedByAll 13 = .ok (.iload_n 2, 1) := by decide +kernel
theorem dX2_usedByAll_14 : decode cX2_usedByAll 14 = .ok (.invokevirtual 105, 3) := by decide +kernel
theorem dX2_usedByAll_17 : decode cX2_usedByAll 17 = .ok (.astore_n 3, 1) := by decide +kernel
theorem dX2_usedByAll_18 : decode cX2_usedByAll 18 = .ok (.aload_n 3, 1) := by decide +kernel
theorem dX2_usedByAll_19 : decode cX2_usedByAll 19 = .ok (.ifnull 18, 3) := by decide +kernel
theorem dX2_usedByAll_22 : decode cX2_usedByAll 22 = .ok (.iload_n 1, 1) := by decide +kernel
theorem dX2_usedByAll_23 : decode cX2_usedByAll 23 = .ok (.aload_n 0, 1) := by decide +kernel
theorem dX2_usedByAll_24 : decode cX2_usedByAll 24 = .ok (.aload_n 3, 1) := by decide +kernel
theorem dX2_usedByAll_25 : decode cX2_usedByAll 25 = .ok (.getfield 113, 3) := by decide +kernel
theorem dX2_usedByAll_28 : decode cX2_usedByAll 28 = .ok (.aload_n 3, 1) := by decide +kernel
theorem dX2_usedByAll_29 : decode cX2_usedByAll 29 = .ok (.getfield 117, 3) := by decide +kernel
theorem dX2_usedByAll_32 : decode cX2_usedByAll 32 = .ok (.invokevirtual 120, 3) := by decide +kernel
theorem dX2_usedByAll_35 : decode cX2_usedByAll 35 = .ok (.iadd, 1) := by decide +kernel
theorem dX2_usedByAll_36 : decode cX2_usedByAll 36 = .ok (.istore_n 1, 1) := by decide +kernel
theorem dX2_usedByAll_37 : decode cX2_usedByAll 37 = .ok (.iinc 2 1, 3) := by decide +kernel
theorem dX2_usedByAll_40 : decode cX2_usedByAll 40 = .ok (.goto (-36), 3) := by decide +kernel
theorem dX2_usedByAll_43 : decode cX2_usedByAll 43 = .ok (.iload_n 1, 1) := by decide +kernel
theorem dX2_usedByAll_44 : decode cX2_usedByAll 44 = .ok (.ireturn, 1) := by decide +kernel
set_option maxRecDepth 20000 in
theorem ggX2_validOfCrane_X2_validAt : GoodIn wsX2_validOfCrane wsX2_validAt := goodIn_r _ [6, 1, 7, 15, 16, 17, 18, 19, 20, 21, 22, 23, 24, 25, 26, 27] (by decide +kernel) (by decide +kernel)
set_option maxRecDepth 20000 in
theorem gX2_validOfCrane_X2_validAt : GoodIn wsX2_validOfCrane (wsV RX2 105 RX2 yX2_validAt wsX2_validAt) := goodIn_app (goodIn_of _ (by decide +kernel)) ggX2_validOfCrane_X2_validAt
set_option maxRecDepth 20000 in
theorem ggX2_validOfCrane_X1_isFor : GoodIn wsX2_validOfCrane wsX1_isFor := goodIn_r _ [12, 13, 14, 28, 29, 30, 31, 32, 33, 34, 35, 36, 37, 38, 39, 40, 41] (by decide +kernel) (by decide +kernel)
set_option maxRecDepth 20000 in
theorem gX2_validOfCrane_X1_isFor : GoodIn wsX2_validOfCrane (wsV RX2 130 RX1 yX1_isFor wsX1_isFor) := goodIn_app (goodIn_of _ (by decide +kernel)) ggX2_validOfCrane_X1_isFor
theorem dX2_validOfCrane_0 : decode cX2_validOfCrane 0 = .ok (.iconst 0, 1) := by decide +kernel
theorem dX2_validOfCrane_1 : decode cX2_validOfCrane 1 = .ok (.istore_n 2, 1) := by decide +kernel
theorem dX2_validOfCrane_2 : decode cX2_validOfCrane 2 = .ok (.iconst 0, 1) := by decide +kernel
theorem dX2_validOfCrane_3 : decode cX2_validOfCrane 3 = .ok (.istore_n 3, 1) := by decide +kernel
theorem dX2_validOfCrane_4 : decode cX2_validOfCrane 4 = .ok (.iload_n 3, 1) := by decide +kernel
theorem dX2_validOfCrane_5 : decode cX2_validOfCrane 5 = .ok (.aload_n 0, 1) := by decide +kernel
theorem dX2_validOfCrane_6 : decode cX2_validOfCrane 6 = .ok (.getfield 55, 3) := by decide +kernel
theorem dX2_validOfCrane_9 : decode cX2_validOfCrane 9 = .ok (.if_icmp .ge 33, 3) := by decide +kernel
theorem dX2_validOfCrane_12 : decode cX2_validOfCrane 12 = .ok (.aload_n 0, 1) := by decide +kernel
theorem dX2_validOfCrane_13 : decode cX2_validOfCrane 13 = .ok (.iload_n 3, 1) := by decide +kernel
theorem dX2_validOfCrane_14 : decode cX2_validOfCrane 14 = .ok (.invokevirtual 105, 3) := by decide +kernel
theorem dX2_validOfCrane_17 : decode cX2_validOfCrane 17 = .ok (.astore 4, 2) := by decide +kernel
theorem dX2_validOfCrane_19 : decode cX2_validOfCrane 19 = .ok (.aload 4, 2) := by decide +kernel
theorem dX2_validOfCrane_21 : decode cX2_validOfCrane 21 = .ok (.ifnull 15, 3) := by decide +kernel
theorem dX2_validOfCrane_24 : decode cX2_validOfCrane 24 = .ok (.aload 4, 2) := by decide +kernel
theorem dX2_validOfCrane_26 : decode cX2_validOfCrane 26 = .ok (.aload_n 1, 1) := by decide +kernel
theorem dX2_validOfCrane_27 : decode cX2_validOfCrane 27 = .ok (.invokevirtual 130, 3) := by decide +kernel
theorem dX2_validOfCrane_30 : decode cX2_validOfCrane 30 = .ok (.ifCond .eq 6, 3) := by decide +kernel
theorem dX2_validOfCrane_33 : decode cX2_validOfCrane 33 = .ok (.iinc 2 1, 3) := by decide +kernel
theorem dX2_validOfCrane_36 : decode cX2_validOfCrane 36 = .ok (.iinc 3 1, 3) := by decide +kernel
theorem dX2_validOfCrane_39 : decode cX2_validOfCrane 39 = .ok (.goto (-35), 3) := by decide +kernel
theorem dX2_validOfCrane_42 : decode cX2_validOfCrane 42 = .ok (.iload_n 2, 1) := by decide +kernel
theorem dX2_validOfCrane_43 : decode cX2_validOfCrane 43 = .ok (.ireturn, 1) := by decide +kernel
set_option maxRecDepth 20000 in
theorem ggX2_validOfStreet_X2_validAt : GoodIn wsX2_validOfStreet wsX2_validAt := goodIn_r _ [6, 1, 7, 16, 17, 18, 19, 20, 21, 22, 23, 24, 25, 26, 27, 28] (by decide +kernel) (by decide +kernel)
set_option maxRecDepth 20000 in
theorem gX2_validOfStreet_X2_validAt : GoodIn wsX2_validOfStreet (wsV RX2 105 RX2 yX2_validAt wsX2_validAt) := goodIn_app (goodIn_of _ (by decide +kernel)) ggX2_validOfStreet_X2_validAt
set_option maxRecDepth 20000 in
theorem ggX2_validOfStreet_X1_isOf : GoodIn wsX2_validOfStreet wsX1_isOf := goodIn_r _ [12, 13, 14, 15, 29, 30, 31, 32, 33, 34, 35, 36, 37, 38, 39, 40, 41, 42] (by decide +kernel) (by decide +kernel)
set_option maxRecDepth 20000 in
theorem gX2_validOfStreet_X1_isOf : GoodIn wsX2_validOfStreet (wsV RX2 109 RX1 yX1_isOf wsX1_isOf) := goodIn_app (goodIn_of _ (by decide +kernel)) ggX2_validOfStreet_X1_isOf
theorem dX2_validOfStreet_0 : decode cX2_validOfStreet 0 = .ok (.iconst 0, 1) := by decide +kernel
theorem dX2_validOfStreet_1 : decode cX2_validOfStreet 1 = .ok (.istore_n 3, 1) := by decide +kernel
theorem dX2_validOfStreet_2 : decode cX2_validOfStreet 2 = .ok (.iconst 0, 1) := by decide +kernel
theorem dX2_validOfStreet_3 : decode cX2_validOfStreet 3 = .ok (.istore 4, 2) := by decide +kernel
theorem dX2_validOfStreet_5 : decode cX2_validOfStreet 5 = .ok (.iload 4, 2) := by decide +kernel
theorem dX2_validOfStreet_7 : decode cX2_validOfStreet 7 = .ok (.aload_n 0, 1) := by decide +kernel
theorem dX2_validOfStreet_8 : decode cX2_validOfStreet 8 = .ok (.getfield 55, 3) := by decide +kernel
theorem dX2_validOfStreet_11 : decode cX2_validOfStreet 11 = .ok (.if_icmp .ge 35, 3) := by decide +kernel
theorem dX2_validOfStreet_14 : decode cX2_validOfStreet 14 = .ok (.aload_n 0, 1) := by decide +kernel
theorem dX2_validOfStreet_15 : decode cX2_validOfStreet 15 = .ok (.iload 4, 2) := by decide +kernel
theorem dX2_validOfStreet_17 : decode cX2_validOfStreet 17 = .ok (.invokevirtual 105, 3) := by decide +kernel
theorem dX2_validOfStreet_20 : decode cX2_validOfStreet 20 = .ok (.astore 5, 2) := by decide +kernel
theorem dX2_validOfStreet_22 : decode cX2_validOfStreet 22 = .ok (.aload 5, 2) := by decide +kernel
theorem dX2_validOfStreet_24 : decode cX2_validOfStreet 24 = .ok (.ifnull 16, 3) := by decide +kernel
theorem dX2_validOfStreet_27 : decode cX2_validOfStreet 27 = .ok (.aload 5, 2) := by decide +kernel
theorem dX2_validOfStreet_29 : decode cX2_validOfStreet 29 = .ok (.iload_n 1, 1) := by decide +kernel
theorem dX2_validOfStreet_30 : decode cX2_validOfStreet 30 = .ok (.iload_n 2, 1) := by decide +kernel
theorem dX2_validOfStreet_31 : decode cX2_validOfStreet 31 = .ok (.invokevirtual 109, 3) := by decide +kernel
theorem dX2_validOfStreet_34 : decode cX2_validOfStreet 34 = .ok (.ifCond .eq 6, 3) := by decide +kernel
theorem dX2_validOfStreet_37 : decode cX2_validOfStreet 37 = .ok (.iinc 3 1, 3) := by decide +kernel
theorem dX2_validOfStreet_40 : decode cX2_validOfStreet 40 = .ok (.iinc 4 1, 3) := by decide +kernel
theorem dX2_validOfStreet_43 : decode cX2_validOfStreet 43 = .ok (.goto (-38), 3) := by decide +kernel
theorem dX2_validOfStreet_46 : decode cX2_validOfStreet 46 = .ok (.iload_n 3, 1) := by decide +kernel
theorem dX2_validOfStreet_47 : decode cX2_validOfStreet 47 = .ok (.ireturn, 1) := by decide +kernel
set_option maxRecDepth 20000 in
theorem ggX2_validAhead_X2_validAt : GoodIn wsX2_validAhead wsX2_validAt := goodIn_r _ [6, 1, 7, 16, 17, 18, 19, 20, 21, 22, 23, 24, 25, 26, 27, 28] (by decide +kernel) (by decide +kernel)
set_option maxRecDepth 20000 in
theorem gX2_validAhead_X2_validAt : GoodIn wsX2_validAhead (wsV RX2 105 RX2 yX2_validAt wsX2_validAt) := goodIn_app (goodIn_of _ (by decide +kernel)) ggX2_validAhead_X2_validAt
set_option maxRecDepth 20000 in
theorem ggX2_validAhead_X1_isAheadOf : GoodIn wsX2_validAhead wsX1_isAheadOf := goodIn_r _ [12, 13, 14, 15, 29, 30, 31, 32, 33, 34, 35] (by decide +kernel) (by decide +kernel)
set_option maxRecDepth 20000 in
theorem gX2_validAhead_X1_isAheadOf : GoodIn wsX2_validAhead (wsV RX2 134 RX1 yX1_isAheadOf wsX1_isAheadOf) := goodIn_app (goodIn_of _ (by decide +kernel)) ggX2_validAhead_X1_isAheadOf
theorem dX2_validAhead_0 : decode cX2_validAhead 0 = .ok (.iconst 0, 1) := by decide +kernel
theorem dX2_validAhead_1 : decode cX2_validAhead 1 = .ok (.istore_n 2, 1) := by decide +kernel
theorem dX2_validAhead_2 : decode cX2_validAhead 2 = .ok (.iconst 0, 1) := by decide +kernel
theorem dX2_validAhead_3 : decode cX2_validAhead 3 = .ok (.istore_n 3, 1) := by decide +kernel
theorem dX2_validAhead_4 : decode cX2_validAhead 4 = .ok (.iload_n 3, 1) := by decide +kernel
theorem dX2_validAhead_5 : decode cX2_validAhead 5 = .ok (.aload_n 0, 1) := by decide +kernel
theorem dX2_validAhead_6 : decode cX2_validAhead 6 = .ok (.getfield 55, 3) := by decide +kernel
theorem dX2_validAhead_9 : decode cX2_validAhead 9 = .ok (.if_icmp .ge 33, 3) := by decide +kernel
theorem dX2_validAhead_12 : decode cX2_validAhead 12 = .ok (.aload_n 0, 1) := by decide +kernel
theorem dX2_validAhead_13 : decode cX2_validAhead 13 = .ok (.iload_n 3, 1) := by decide +kernel
theorem dX2_validAhead_14 : decode cX2_validAhead 14 = .ok (.invokevirtual 105, 3) := by decide +kernel
theorem dX2_validAhead_17 : decode cX2_validAhead 17 = .ok (.astore 4, 2) := by decide +kernel
theorem dX2_validAhead_19 : decode cX2_validAhead 19 = .ok (.aload 4, 2) := by decide +kernel
theorem dX2_validAhead_21 : decode cX2_validAhead 21 = .ok (.ifnull 15, 3) := by decide +kernel
theorem dX2_validAhead_24 : decode cX2_validAhead 24 = .ok (.aload 4, 2) := by decide +kernel
theorem dX2_validAhead_26 : decode cX2_validAhead 26 = .ok (.aload_n 1, 1) := by decide +kernel
theorem dX2_validAhead_27 : decode cX2_validAhead 27 = .ok (.invokevirtual 134, 3) := by decide +kernel
theorem dX2_validAhead_30 : decode cX2_validAhead 30 = .ok (.ifCond .eq 6, 3) := by decide +kernel
theorem dX2_validAhead_33 : decode cX2_validAhead 33 = .ok (.iinc 2 1, 3) := by decide +kernel
theorem dX2_validAhead_36 : decode cX2_validAhead 36 = .ok (.iinc 3 1, 3) := by decide +kernel
theorem dX2_validAhead_39 : decode cX2_validAhead 39 = .ok (.goto (-35), 3) := by decide +kernel
theorem dX2_validAhead_42 : decode cX2_validAhead 42 = .ok (.iload_n 2, 1) := by decide +kernel
theorem dX2_validAhead_43 : decode cX2_validAhead 43 = .ok (.ireturn, 1) := by decide +kernel
set_option maxRecDepth 20000 in
theorem ggX2_permitsWith_X4_at : GoodIn wsX2_permitsWith wsX4_at := goodIn_r _ [5] (by decide +kernel) (by decide +kernel)
set_option maxRecDepth 20000 in
theorem gX2_permitsWith_X4_at_n84 : GoodIn wsX2_permitsWith (wsX4_at) := ggX2_permitsWith_X4_at
theorem dX2_permitsWith_0 : decode cX2_permitsWith 0 = .ok (.iconst 0, 1) := by decide +kernel
theorem dX2_permitsWith_1 : decode cX2_permitsWith 1 = .ok (.istore_n 2, 1) := by decide +kernel
theorem dX2_permitsWith_2 : decode cX2_permitsWith 2 = .ok (.iconst 0, 1) := by decide +kernel
theorem dX2_permitsWith_3 : decode cX2_permitsWith 3 = .ok (.istore_n 3, 1) := by decide +kernel
theorem dX2_permitsWith_4 : decode cX2_permitsWith 4 = .ok (.iload_n 3, 1) := by decide +kernel
theorem dX2_permitsWith_5 : decode cX2_permitsWith 5 = .ok (.aload_n 0, 1) := by decide +kernel
theorem dX2_permitsWith_6 : decode cX2_permitsWith 6 = .ok (.getfield 46, 3) := by decide +kernel
theorem dX2_permitsWith_9 : decode cX2_permitsWith 9 = .ok (.if_icmp .ge 24, 3) := by decide +kernel
theorem dX2_permitsWith_12 : decode cX2_permitsWith 12 = .ok (.aload_n 0, 1) := by decide +kernel
theorem dX2_permitsWith_13 : decode cX2_permitsWith 13 = .ok (.getfield 49, 3) := by decide +kernel
theorem dX2_permitsWith_16 : decode cX2_permitsWith 16 = .ok (.iload_n 3, 1) := by decide +kernel
theorem dX2_permitsWith_17 : decode cX2_permitsWith 17 = .ok (.invokestatic 84, 3) := by decide +kernel
theorem dX2_permitsWith_20 : decode cX2_permitsWith 20 = .ok (.iload_n 1, 1) := by decide +kernel
theorem dX2_permitsWith_21 : decode cX2_permitsWith 21 = .ok (.if_icmp .ne 6, 3) := by decide +kernel
theorem dX2_permitsWith_24 : decode cX2_permitsWith 24 = .ok (.iinc 2 1, 3) := by decide +kernel
theorem dX2_permitsWith_27 : decode cX2_permitsWith 27 = .ok (.iinc 3 1, 3) := by decide +kernel
theorem dX2_permitsWith_30 : decode cX2_permitsWith 30 = .ok (.goto (-26), 3) := by decide +kernel
theorem dX2_permitsWith_33 : decode cX2_permitsWith 33 = .ok (.iload_n 2, 1) := by decide +kernel
theorem dX2_permitsWith_34 : decode cX2_permitsWith 34 = .ok (.ireturn, 1) := by decide +kernel
set_option maxRecDepth 20000 in
theorem ggX2_shareAir_X1_isFor : GoodIn wsX2_shareAir wsX1_isFor := goodIn_r _ [13, 14, 15, 39, 40, 41, 42, 43, 44, 45, 32, 33, 34, 35, 36, 37, 38] (by decide +kernel) (by decide +kernel)
set_option maxRecDepth 20000 in
theorem gX2_shareAir_X1_isFor : GoodIn wsX2_shareAir (wsV RX2 130 RX1 yX1_isFor wsX1_isFor) := goodIn_app (goodIn_of _ (by decide +kernel)) ggX2_shareAir_X1_isFor
set_option maxRecDepth 20000 in
theorem ggX2_shareAir_X1_meets : GoodIn wsX2_shareAir wsX1_meets := goodIn_r _ [19, 20, 21, 22, 39, 40, 41, 42, 43, 44, 45] (by decide +kernel) (by decide +kernel)
set_option maxRecDepth 20000 in
theorem gX2_shareAir_X1_meets : GoodIn wsX2_shareAir (wsV RX2 138 RX1 yX1_meets wsX1_meets) := goodIn_app (goodIn_of _ (by decide +kernel)) ggX2_shareAir_X1_meets
set_option maxRecDepth 20000 in
theorem ggX2_shareAir_X4_at : GoodIn wsX2_shareAir wsX4_at := goodIn_r _ [25] (by decide +kernel) (by decide +kernel)
set_option maxRecDepth 20000 in
theorem gX2_shareAir_X4_at_n84 : GoodIn wsX2_shareAir (wsX4_at) := ggX2_shareAir_X4_at
set_option maxRecDepth 20000 in
theorem ggX2_shareAir_X0_airOf : GoodIn wsX2_shareAir wsX0_airOf := goodIn_r _ [30, 31, 32, 33, 34, 35, 36, 37, 38] (by decide +kernel) (by decide +kernel)
set_option maxRecDepth 20000 in
theorem gX2_shareAir_X0_airOf : GoodIn wsX2_shareAir (wsV RX2 147 RX0 yX0_airOf wsX0_airOf) := goodIn_app (goodIn_of _ (by decide +kernel)) ggX2_shareAir_X0_airOf
theorem dX2_shareAir_0 : decode cX2_shareAir 0 = .ok (.aload 5, 2) := by decide +kernel
theorem dX2_shareAir_2 : decode cX2_shareAir 2 = .ok (.aload_n 1, 1) := by decide +kernel
theorem dX2_shareAir_3 : decode cX2_shareAir 3 = .ok (.invokevirtual 130, 3) := by decide +kernel
theorem dX2_shareAir_6 : decode cX2_shareAir 6 = .ok (.ifCond .ne 13, 3) := by decide +kernel
theorem dX2_shareAir_9 : decode cX2_shareAir 9 = .ok (.aload 5, 2) := by decide +kernel
theorem dX2_shareAir_11 : decode cX2_shareAir 11 = .ok (.iload_n 2, 1) := by decide +kernel
theorem dX2_shareAir_12 : decode cX2_shareAir 12 = .ok (.iload_n 3, 1) := by decide +kernel
theorem dX2_shareAir_13 : decode cX2_shareAir 13 = .ok (.invokevirtual 138, 3) := by decide +kernel
theorem dX2_shareAir_16 : decode cX2_shareAir 16 = .ok (.ifCond .ne 5, 3) := by decide +kernel
theorem dX2_shareAir_19 : decode cX2_shareAir 19 = .ok (.iconst 0, 1) := by decide +kernel
theorem dX2_shareAir_20 : decode cX2_shareAir 20 = .ok (.ireturn, 1) := by decide +kernel
theorem dX2_shareAir_21 : decode cX2_shareAir 21 = .ok (.aload_n 1, 1) := by decide +kernel
theorem dX2_shareAir_22 : decode cX2_shareAir 22 = .ok (.getfield 88, 3) := by decide +kernel
theorem dX2_shareAir_25 : decode cX2_shareAir 25 = .ok (.aload 5, 2) := by decide +kernel
theorem dX2_shareAir_27 : decode cX2_shareAir 27 = .ok (.getfield 113, 3) := by decide +kernel
theorem dX2_shareAir_30 : decode cX2_shareAir 30 = .ok (.getfield 88, 3) := by decide +kernel
theorem dX2_shareAir_33 : decode cX2_shareAir 33 = .ok (.isub, 1) := by decide +kernel
theorem dX2_shareAir_34 : decode cX2_shareAir 34 = .ok (.invokestatic 141, 3) := by decide +kernel
theorem dX2_shareAir_37 : decode cX2_shareAir 37 = .ok (.istore 6, 2) := by decide +kernel
theorem dX2_shareAir_39 : decode cX2_shareAir 39 = .ok (.iload 6, 2) := by decide +kernel
theorem dX2_shareAir_41 : decode cX2_shareAir 41 = .ok (.aload_n 0, 1) := by decide +kernel
theorem dX2_shareAir_42 : decode cX2_shareAir 42 = .ok (.getfield 25, 3) := by decide +kernel
theorem dX2_shareAir_45 : decode cX2_shareAir 45 = .ok (.iconst 2, 1) := by decide +kernel
theorem dX2_shareAir_46 : decode cX2_shareAir 46 = .ok (.invokestatic 84, 3) := by decide +kernel
theorem dX2_shareAir_49 : decode cX2_shareAir 49 = .ok (.if_icmp .lt 5, 3) := by decide +kernel
theorem dX2_shareAir_52 : decode cX2_shareAir 52 = .ok (.iconst 0, 1) := by decide +kernel
theorem dX2_shareAir_53 : decode cX2_shareAir 53 = .ok (.ireturn, 1) := by decide +kernel
theorem dX2_shareAir_54 : decode cX2_shareAir 54 = .ok (.iconst 0, 1) := by decide +kernel
theorem dX2_shareAir_55 : decode cX2_shareAir 55 = .ok (.istore 7, 2) := by decide +kernel
theorem dX2_shareAir_57 : decode cX2_shareAir 57 = .ok (.iload 7, 2) := by decide +kernel
theorem dX2_shareAir_59 : decode cX2_shareAir 59 = .ok (.iconst 4, 1) := by decide +kernel
theorem dX2_shareAir_60 : decode cX2_shareAir 60 = .ok (.if_icmp .ge 40, 3) := by decide +kernel
theorem dX2_shareAir_63 : decode cX2_shareAir 63 = .ok (.aload_n 1, 1) := by decide +kernel
theorem dX2_shareAir_64 : decode cX2_shareAir 64 = .ok (.iload 4, 2) := by decide +kernel
theorem dX2_shareAir_66 : decode cX2_shareAir 66 = .ok (.iload 7, 2) := by decide +kernel
theorem dX2_shareAir_68 : decode cX2_shareAir 68 = .ok (.invokevirtual 147, 3) := by decide +kernel
theorem dX2_shareAir_71 : decode cX2_shareAir 71 = .ok (.aload 5, 2) := by decide +kernel
theorem dX2_shareAir_73 : decode cX2_shareAir 73 = .ok (.getfield 113, 3) := by decide +kernel
theorem dX2_shareAir_76 : decode cX2_shareAir 76 = .ok (.aload 5, 2) := by decide +kernel
theorem dX2_shareAir_78 : decode cX2_shareAir 78 = .ok (.getfield 151, 3) := by decide +kernel
theorem dX2_shareAir_81 : decode cX2_shareAir 81 = .ok (.iload 7, 2) := by decide +kernel
theorem dX2_shareAir_83 : decode cX2_shareAir 83 = .ok (.invokevirtual 147, 3) := by decide +kernel
theorem dX2_shareAir_86 : decode cX2_shareAir 86 = .ok (.land, 1) := by decide +kernel
theorem dX2_shareAir_87 : decode cX2_shareAir 87 = .ok (.lconst 0, 1) := by decide +kernel
theorem dX2_shareAir_88 : decode cX2_shareAir 88 = .ok (.lcmp, 1) := by decide +kernel
theorem dX2_shareAir_89 : decode cX2_shareAir 89 = .ok (.ifCond .eq 5, 3) := by decide +kernel
theorem dX2_shareAir_92 : decode cX2_shareAir 92 = .ok (.iconst 1, 1) := by decide +kernel
theorem dX2_shareAir_93 : decode cX2_shareAir 93 = .ok (.ireturn, 1) := by decide +kernel
theorem dX2_shareAir_94 : decode cX2_shareAir 94 = .ok (.iinc 7 1, 3) := by decide +kernel
theorem dX2_shareAir_97 : decode cX2_shareAir 97 = .ok (.goto (-40), 3) := by decide +kernel
theorem dX2_shareAir_100 : decode cX2_shareAir 100 = .ok (.iconst 0, 1) := by decide +kernel
theorem dX2_shareAir_101 : decode cX2_shareAir 101 = .ok (.ireturn, 1) := by decide +kernel
set_option maxRecDepth 20000 in
theorem ggX2_lowestSharing_X2_validAt : GoodIn wsX2_lowestSharing wsX2_validAt := goodIn_r _ [7, 1, 8, 44, 45, 46, 47, 48, 49, 50, 51, 52, 53, 54, 55, 56] (by decide +kernel) (by decide +kernel)
set_option maxRecDepth 20000 in
theorem gX2_lowestSharing_X2_validAt : GoodIn wsX2_lowestSharing (wsV RX2 105 RX2 yX2_validAt wsX2_validAt) := goodIn_app (goodIn_of _ (by decide +kernel)) ggX2_lowestSharing_X2_validAt
set_option maxRecDepth 20000 in
theorem ggX2_lowestSharing_X2_shareAir : GoodIn wsX2_lowestSharing wsX2_shareAir := goodIn_r _ [12, 13, 14, 15, 16, 17, 18, 19, 20, 21, 22, 23, 24, 25, 26, 27, 28, 29, 30, 31, 32, 33, 34, 35, 36, 37, 38, 39, 40, 41, 42, 43, 64, 65, 66, 67, 68, 69, 70, 57, 58, 59, 60, 61, 62, 63, 44, 45, 46, 47, 48, 49, 50, 51, 52, 53, 54, 55, 56] (by decide +kernel) (by decide +kernel)
set_option maxRecDepth 20000 in
theorem gX2_lowestSharing_X2_shareAir : GoodIn wsX2_lowestSharing (wsV RX2 154 RX2 yX2_shareAir wsX2_shareAir) := goodIn_app (goodIn_of _ (by decide +kernel)) ggX2_lowestSharing_X2_shareAir
theorem dX2_lowestSharing_0 : decode cX2_lowestSharing 0 = .ok (.iconst 0, 1) := by decide +kernel
theorem dX2_lowestSharing_1 : decode cX2_lowestSharing 1 = .ok (.istore 5, 2) := by decide +kernel
theorem dX2_lowestSharing_3 : decode cX2_lowestSharing 3 = .ok (.iload 5, 2) := by decide +kernel
theorem dX2_lowestSharing_5 : decode cX2_lowestSharing 5 = .ok (.aload_n 0, 1) := by decide +kernel
theorem dX2_lowestSharing_6 : decode cX2_lowestSharing 6 = .ok (.getfield 55, 3) := by decide +kernel
theorem dX2_lowestSharing_9 : decode cX2_lowestSharing 9 = .ok (.if_icmp .ge 42, 3) := by decide +kernel
theorem dX2_lowestSharing_12 : decode cX2_lowestSharing 12 = .ok (.aload_n 0, 1) := by decide +kernel
theorem dX2_lowestSharing_13 : decode cX2_lowestSharing 13 = .ok (.iload 5, 2) := by decide +kernel
theorem dX2_lowestSharing_15 : decode cX2_lowestSharing 15 = .ok (.invokevirtual 105, 3) := by decide +kernel
theorem dX2_lowestSharing_18 : decode cX2_lowestSharing 18 = .ok (.astore 6, 2) := by decide +kernel
theorem dX2_lowestSharing_20 : decode cX2_lowestSharing 20 = .ok (.aload 6, 2) := by decide +kernel
theorem dX2_lowestSharing_22 : decode cX2_lowestSharing 22 = .ok (.ifnull 23, 3) := by decide +kernel
theorem dX2_lowestSharing_25 : decode cX2_lowestSharing 25 = .ok (.aload_n 0, 1) := by decide +kernel
theorem dX2_lowestSharing_26 : decode cX2_lowestSharing 26 = .ok (.aload_n 1, 1) := by decide +kernel
theorem dX2_lowestSharing_27 : decode cX2_lowestSharing 27 = .ok (.iload_n 2, 1) := by decide +kernel
theorem dX2_lowestSharing_28 : decode cX2_lowestSharing 28 = .ok (.iload_n 3, 1) := by decide +kernel
theorem dX2_lowestSharing_29 : decode cX2_lowestSharing 29 = .ok (.iload 4, 2) := by decide +kernel
theorem dX2_lowestSharing_31 : decode cX2_lowestSharing 31 = .ok (.aload 6, 2) := by decide +kernel
theorem dX2_lowestSharing_33 : decode cX2_lowestSharing 33 = .ok (.invokevirtual 154, 3) := by decide +kernel
theorem dX2_lowestSharing_36 : decode cX2_lowestSharing 36 = .ok (.ifCond .eq 9, 3) := by decide +kernel
theorem dX2_lowestSharing_39 : decode cX2_lowestSharing 39 = .ok (.aload 6, 2) := by decide +kernel
theorem dX2_lowestSharing_41 : decode cX2_lowestSharing 41 = .ok (.getfield 158, 3) := by decide +kernel
theorem dX2_lowestSharing_44 : decode cX2_lowestSharing 44 = .ok (.ireturn, 1) := by decide +kernel
theorem dX2_lowestSharing_45 : decode cX2_lowestSharing 45 = .ok (.iinc 5 1, 3) := by decide +kernel
theorem dX2_lowestSharing_48 : decode cX2_lowestSharing 48 = .ok (.goto (-45), 3) := by decide +kernel
theorem dX2_lowestSharing_51 : decode cX2_lowestSharing 51 = .ok (.iconst (-1), 1) := by decide +kernel
theorem dX2_lowestSharing_52 : decode cX2_lowestSharing 52 = .ok (.ireturn, 1) := by decide +kernel
set_option maxRecDepth 20000 in
theorem ggX2_sharingPairs_X2_validAt : GoodIn wsX2_sharingPairs wsX2_validAt := goodIn_r _ [10, 1, 11, 45, 46, 47, 48, 49, 50, 51, 52, 53, 54, 55, 56, 57] (by decide +kernel) (by decide +kernel)
set_option maxRecDepth 20000 in
theorem gX2_sharingPairs_X2_validAt : GoodIn wsX2_sharingPairs (wsV RX2 105 RX2 yX2_validAt wsX2_validAt) := goodIn_app (goodIn_of _ (by decide +kernel)) ggX2_sharingPairs_X2_validAt
set_option maxRecDepth 20000 in
theorem ggX2_sharingPairs_X2_shareAir : GoodIn wsX2_sharingPairs wsX2_shareAir := goodIn_r _ [15, 16, 2, 17, 18, 19, 20, 21, 5, 22, 23, 24, 25, 26, 27, 28, 29, 30, 31, 32, 33, 34, 35, 36, 37, 38, 39, 40, 41, 42, 43, 44, 65, 66, 67, 68, 69, 70, 71, 58, 59, 60, 61, 62, 63, 64, 45, 46, 47, 48, 49, 50, 51, 52, 53, 54, 55, 56, 57] (by decide +kernel) (by decide +kernel)
set_option maxRecDepth 20000 in
theorem gX2_sharingPairs_X2_shareAir : GoodIn wsX2_sharingPairs (wsV RX2 154 RX2 yX2_shareAir wsX2_shareAir) := goodIn_app (goodIn_of _ (by decide +kernel)) ggX2_sharingPairs_X2_shareAir
theorem dX2_sharingPairs_0 : decode cX2_sharingPairs 0 = .ok (.iconst 0, 1) := by decide +kernel
theorem dX2_sharingPairs_1 : decode cX2_sharingPairs 1 = .ok (.istore_n 1, 1) := by decide +kernel
theorem dX2_sharingPairs_2 : decode cX2_sharingPairs 2 = .ok (.iconst 0, 1) := by decide +kernel
theorem dX2_sharingPairs_3 : decode cX2_sharingPairs 3 = .ok (.istore_n 2, 1) := by decide +kernel
theorem dX2_sharingPairs_4 : decode cX2_sharingPairs 4 = .ok (.iload_n 2, 1) := by decide +kernel
theorem dX2_sharingPairs_5 : decode cX2_sharingPairs 5 = .ok (.aload_n 0, 1) := by decide +kernel
theorem dX2_sharingPairs_6 : decode cX2_sharingPairs 6 = .ok (.getfield 55, 3) := by decide +kernel
theorem dX2_sharingPairs_9 : decode cX2_sharingPairs 9 = .ok (.if_icmp .ge 80, 3) := by decide +kernel
theorem dX2_sharingPairs_12 : decode cX2_sharingPairs 12 = .ok (.aload_n 0, 1) := by decide +kernel
theorem dX2_sharingPairs_13 : decode cX2_sharingPairs 13 = .ok (.iload_n 2, 1) := by decide +kernel
theorem dX2_sharingPairs_14 : decode cX2_sharingPairs 14 = .ok (.invokevirtual 105, 3) := by decide +kernel
theorem dX2_sharingPairs_17 : decode cX2_sharingPairs 17 = .ok (.astore_n 3, 1) := by decide +kernel
theorem dX2_sharingPairs_18 : decode cX2_sharingPairs 18 = .ok (.iload_n 2, 1) := by decide +kernel
theorem dX2_sharingPairs_19 : decode cX2_sharingPairs 19 = .ok (.iconst 1, 1) := by decide +kernel
theorem dX2_sharingPairs_20 : decode cX2_sharingPairs 20 = .ok (.iadd, 1) := by decide +kernel
theorem dX2_sharingPairs_21 : decode cX2_sharingPairs 21 = .ok (.istore 4, 2) := by decide +kernel
theorem dX2_sharingPairs_23 : decode cX2_sharingPairs 23 = .ok (.aload_n 3, 1) := by decide +kernel
theorem dX2_sharingPairs_24 : decode cX2_sharingPairs 24 = .ok (.ifnull 59, 3) := by decide +kernel
theorem dX2_sharingPairs_27 : decode cX2_sharingPairs 27 = .ok (.iload 4, 2) := by decide +kernel
theorem dX2_sharingPairs_29 : decode cX2_sharingPairs 29 = .ok (.aload_n 0, 1) := by decide +kernel
theorem dX2_sharingPairs_30 : decode cX2_sharingPairs 30 = .ok (.getfield 55, 3) := by decide +kernel
theorem dX2_sharingPairs_33 : decode cX2_sharingPairs 33 = .ok (.if_icmp .ge 50, 3) := by decide +kernel
theorem dX2_sharingPairs_36 : decode cX2_sharingPairs 36 = .ok (.aload_n 0, 1) := by decide +kernel
theorem dX2_sharingPairs_37 : decode cX2_sharingPairs 37 = .ok (.iload 4, 2) := by decide +kernel
theorem dX2_sharingPairs_39 : decode cX2_sharingPairs 39 = .ok (.invokevirtual 105, 3) := by decide +kernel
theorem dX2_sharingPairs_42 : decode cX2_sharingPairs 42 = .ok (.astore 5, 2) := by decide +kernel
theorem dX2_sharingPairs_44 : decode cX2_sharingPairs 44 = .ok (.aload 5, 2) := by decide +kernel
theorem dX2_sharingPairs_46 : decode cX2_sharingPairs 46 = .ok (.ifnull 31, 3) := by decide +kernel
theorem dX2_sharingPairs_49 : decode cX2_sharingPairs 49 = .ok (.aload_n 0, 1) := by decide +kernel
theorem dX2_sharingPairs_50 : decode cX2_sharingPairs 50 = .ok (.aload_n 3, 1) := by decide +kernel
theorem dX2_sharingPairs_51 : decode cX2_sharingPairs 51 = .ok (.getfield 113, 3) := by decide +kernel
theorem dX2_sharingPairs_54 : decode cX2_sharingPairs 54 = .ok (.aload_n 3, 1) := by decide +kernel
theorem dX2_sharingPairs_55 : decode cX2_sharingPairs 55 = .ok (.getfield 159, 3) := by decide +kernel
theorem dX2_sharingPairs_58 : decode cX2_sharingPairs 58 = .ok (.aload_n 3, 1) := by decide +kernel
theorem dX2_sharingPairs_59 : decode cX2_sharingPairs 59 = .ok (.getfield 117, 3) := by decide +kernel
theorem dX2_sharingPairs_62 : decode cX2_sharingPairs 62 = .ok (.aload_n 3, 1) := by decide +kernel
theorem dX2_sharingPairs_63 : decode cX2_sharingPairs 63 = .ok (.getfield 151, 3) := by decide +kernel
theorem dX2_sharingPairs_66 : decode cX2_sharingPairs 66 = .ok (.aload 5, 2) := by decide +kernel
theorem dX2_sharingPairs_68 : decode cX2_sharingPairs 68 = .ok (.invokevirtual 154, 3) := by decide +kernel
theorem dX2_sharingPairs_71 : decode cX2_sharingPairs 71 = .ok (.ifCond .eq 6, 3) := by decide +kernel
theorem dX2_sharingPairs_74 : decode cX2_sharingPairs 74 = .ok (.iinc 1 1, 3) := by decide +kernel
theorem dX2_sharingPairs_77 : decode cX2_sharingPairs 77 = .ok (.iinc 4 1, 3) := by decide +kernel
theorem dX2_sharingPairs_80 : decode cX2_sharingPairs 80 = .ok (.goto (-57), 3) := by decide +kernel
theorem dX2_sharingPairs_83 : decode cX2_sharingPairs 83 = .ok (.iinc 2 1, 3) := by decide +kernel
theorem dX2_sharingPairs_86 : decode cX2_sharingPairs 86 = .ok (.goto (-82), 3) := by decide +kernel
theorem dX2_sharingPairs_89 : decode cX2_sharingPairs 89 = .ok (.iload_n 1, 1) := by decide +kernel
theorem dX2_sharingPairs_90 : decode cX2_sharingPairs 90 = .ok (.ireturn, 1) := by decide +kernel
set_option maxRecDepth 20000 in
theorem ggX2_isBusy_X2_validAt : GoodIn wsX2_isBusy wsX2_validAt := goodIn_r _ [6, 1, 7, 22, 23, 24, 25, 26, 27, 28, 29, 30, 31, 32, 33, 34] (by decide +kernel) (by decide +kernel)
set_option maxRecDepth 20000 in
theorem gX2_isBusy_X2_validAt : GoodIn wsX2_isBusy (wsV RX2 105 RX2 yX2_validAt wsX2_validAt) := goodIn_app (goodIn_of _ (by decide +kernel)) ggX2_isBusy_X2_validAt
set_option maxRecDepth 20000 in
theorem ggX2_isBusy_X1_isFor : GoodIn wsX2_isBusy wsX1_isFor := goodIn_r _ [12, 13, 14, 35, 36, 37, 38, 39, 40, 41, 42, 43, 44, 45, 46, 47, 48] (by decide +kernel) (by decide +kernel)
set_option maxRecDepth 20000 in
theorem gX2_isBusy_X1_isFor : GoodIn wsX2_isBusy (wsV RX2 130 RX1 yX1_isFor wsX1_isFor) := goodIn_app (goodIn_of _ (by decide +kernel)) ggX2_isBusy_X1_isFor
set_option maxRecDepth 20000 in
theorem ggX2_isBusy_X1_meets : GoodIn wsX2_isBusy wsX1_meets := goodIn_r _ [18, 19, 20, 21, 35, 36, 37, 38, 39, 40, 41] (by decide +kernel) (by decide +kernel)
set_option maxRecDepth 20000 in
theorem gX2_isBusy_X1_meets : GoodIn wsX2_isBusy (wsV RX2 138 RX1 yX1_meets wsX1_meets) := goodIn_app (goodIn_of _ (by decide +kernel)) ggX2_isBusy_X1_meets
theorem dX2_isBusy_0 : decode cX2_isBusy 0 = .ok (.iconst 0, 1) := by decide +kernel
theorem dX2_isBusy_1 : decode cX2_isBusy 1 = .ok (.istore 4, 2) := by decide +kernel
theorem dX2_isBusy_3 : decode cX2_isBusy 3 = .ok (.iload 4, 2) := by decide +kernel
theorem dX2_isBusy_5 : decode cX2_isBusy 5 = .ok (.aload_n 0, 1) := by decide +kernel
theorem dX2_isBusy_6 : decode cX2_isBusy 6 = .ok (.getfield 55, 3) := by decide +kernel
theorem dX2_isBusy_9 : decode cX2_isBusy 9 = .ok (.if_icmp .ge 43, 3) := by decide +kernel
theorem dX2_isBusy_12 : decode cX2_isBusy 12 = .ok (.aload_n 0, 1) := by decide +kernel
theorem dX2_isBusy_13 : decode cX2_isBusy 13 = .ok (.iload 4, 2) := by decide +kernel
theorem dX2_isBusy_15 : decode cX2_isBusy 15 = .ok (.invokevirtual 105, 3) := by decide +kernel
theorem dX2_isBusy_18 : decode cX2_isBusy 18 = .ok (.astore 5, 2) := by decide +kernel
theorem dX2_isBusy_20 : decode cX2_isBusy 20 = .ok (.aload 5, 2) := by decide +kernel
theorem dX2_isBusy_22 : decode cX2_isBusy 22 = .ok (.ifnull 24, 3) := by decide +kernel
theorem dX2_isBusy_25 : decode cX2_isBusy 25 = .ok (.aload 5, 2) := by decide +kernel
theorem dX2_isBusy_27 : decode cX2_isBusy 27 = .ok (.aload_n 1, 1) := by decide +kernel
theorem dX2_isBusy_28 : decode cX2_isBusy 28 = .ok (.invokevirtual 130, 3) := by decide +kernel
theorem dX2_isBusy_31 : decode cX2_isBusy 31 = .ok (.ifCond .eq 15, 3) := by decide +kernel
theorem dX2_isBusy_34 : decode cX2_isBusy 34 = .ok (.aload 5, 2) := by decide +kernel
theorem dX2_isBusy_36 : decode cX2_isBusy 36 = .ok (.iload_n 2, 1) := by decide +kernel
theorem dX2_isBusy_37 : decode cX2_isBusy 37 = .ok (.iload_n 3, 1) := by decide +kernel
theorem dX2_isBusy_38 : decode cX2_isBusy 38 = .ok (.invokevirtual 138, 3) := by decide +kernel
theorem dX2_isBusy_41 : decode cX2_isBusy 41 = .ok (.ifCond .eq 5, 3) := by decide +kernel
theorem dX2_isBusy_44 : decode cX2_isBusy 44 = .ok (.iconst 1, 1) := by decide +kernel
theorem dX2_isBusy_45 : decode cX2_isBusy 45 = .ok (.ireturn, 1) := by decide +kernel
theorem dX2_isBusy_46 : decode cX2_isBusy 46 = .ok (.iinc 4 1, 3) := by decide +kernel
theorem dX2_isBusy_49 : decode cX2_isBusy 49 = .ok (.goto (-46), 3) := by decide +kernel
theorem dX2_isBusy_52 : decode cX2_isBusy 52 = .ok (.iconst 0, 1) := by decide +kernel
theorem dX2_isBusy_53 : decode cX2_isBusy 53 = .ok (.ireturn, 1) := by decide +kernel
set_option maxRecDepth 20000 in
theorem ggX2_refusalOf_X2_isBusy : GoodIn wsX2_refusalOf wsX2_isBusy := goodIn_r _ [6, 7, 8, 9, 10, 5, 11, 12, 13, 14, 15, 16, 17, 18, 19, 20, 21, 22, 23, 24, 25, 26, 98, 99, 100, 101, 102, 103, 104, 105, 106, 107, 108, 109, 110, 111, 112, 113, 114, 115, 116, 117, 91, 92, 93, 94, 95, 96, 97] (by decide +kernel) (by decide +kernel)
set_option maxRecDepth 20000 in
theorem gX2_refusalOf_X2_isBusy : GoodIn wsX2_refusalOf (wsV RX2 162 RX2 yX2_isBusy wsX2_isBusy) := goodIn_app (goodIn_of _ (by decide +kernel)) ggX2_refusalOf_X2_isBusy
set_option maxRecDepth 20000 in
theorem ggX2_refusalOf_X2_mustStop : GoodIn wsX2_refusalOf wsX2_mustStop := goodIn_r _ [30, 31, 32, 33, 34, 35, 36, 37, 5, 38, 39, 40, 98, 99, 100, 101, 102, 103, 104, 105, 106, 107, 108, 109, 110, 91, 92, 93, 94, 95, 96, 97] (by decide +kernel) (by decide +kernel)
set_option maxRecDepth 20000 in
theorem gX2_refusalOf_X2_mustStop : GoodIn wsX2_refusalOf (wsV RX2 166 RX2 yX2_mustStop wsX2_mustStop) := goodIn_app (goodIn_of _ (by decide +kernel)) ggX2_refusalOf_X2_mustStop
set_option maxRecDepth 20000 in
theorem ggX2_refusalOf_X2_lowestSharing : GoodIn wsX2_refusalOf wsX2_lowestSharing := goodIn_r _ [44, 7, 45, 8, 9, 10, 5, 11, 12, 46, 47, 48, 49, 40, 50, 51, 52, 53, 54, 39, 55, 13, 14, 15, 16, 17, 18, 19, 20, 21, 22, 23, 24, 25, 26, 32, 33, 34, 56, 57, 58, 59, 60, 61, 98, 99, 100, 101, 102, 103, 104, 105, 106, 107, 108, 109, 110, 111, 112, 113, 114, 115, 116, 117, 91, 92, 93, 94, 95, 96, 97] (by decide +kernel) (by decide +kernel)
set_option maxRecDepth 20000 in
theorem gX2_refusalOf_X2_lowestSharing : GoodIn wsX2_refusalOf (wsV RX2 170 RX2 yX2_lowestSharing wsX2_lowestSharing) := goodIn_app (goodIn_of _ (by decide +kernel)) ggX2_refusalOf_X2_lowestSharing
set_option maxRecDepth 20000 in
theorem ggX2_refusalOf_X2_usedOf : GoodIn wsX2_refusalOf wsX2_usedOf := goodIn_r _ [65, 7, 50, 66, 8, 9, 10, 5, 11, 12, 67, 68, 69, 16, 70, 18, 71, 26, 72, 73, 74, 75, 76, 77, 32, 33, 34, 98, 99, 100, 101, 102, 103, 104, 105, 106, 107, 108, 109, 110, 111, 112, 113, 114, 115, 116, 117, 91, 92, 93, 94, 95, 96, 97] (by decide +kernel) (by decide +kernel)
set_option maxRecDepth 20000 in
theorem gX2_refusalOf_X2_usedOf : GoodIn wsX2_refusalOf (wsV RX2 127 RX2 yX2_usedOf wsX2_usedOf) := goodIn_app (goodIn_of _ (by decide +kernel)) ggX2_refusalOf_X2_usedOf
set_option maxRecDepth 20000 in
theorem ggX2_refusalOf_X2_useOf : GoodIn wsX2_refusalOf wsX2_useOf := goodIn_r _ [75, 76, 77, 32, 33, 34, 98, 99, 100, 101, 102, 103, 104, 105, 106, 107, 108, 109, 110, 91, 92, 93, 94, 95, 96, 97] (by decide +kernel) (by decide +kernel)
set_option maxRecDepth 20000 in
theorem gX2_refusalOf_X2_useOf : GoodIn wsX2_refusalOf (wsV RX2 120 RX2 yX2_useOf wsX2_useOf) := goodIn_app (goodIn_of _ (by decide +kernel)) ggX2_refusalOf_X2_useOf
set_option maxRecDepth 20000 in
theorem ggX2_refusalOf_X2_creditsOf : GoodIn wsX2_refusalOf wsX2_creditsOf := goodIn_r _ [81, 82, 83, 84, 33, 85, 86, 87, 88, 5, 89, 90, 39, 32, 34, 98, 99, 100, 101, 102, 103, 104, 105, 106, 107, 108, 109, 110] (by decide +kernel) (by decide +kernel)
set_option maxRecDepth 20000 in
theorem gX2_refusalOf_X2_creditsOf : GoodIn wsX2_refusalOf (wsV RX2 124 RX2 yX2_creditsOf wsX2_creditsOf) := goodIn_app (goodIn_of _ (by decide +kernel)) ggX2_refusalOf_X2_creditsOf
theorem dX2_refusalOf_0 : decode cX2_refusalOf 0 = .ok (.aload_n 0, 1) := by decide +kernel
theorem dX2_refusalOf_1 : decode cX2_refusalOf 1 = .ok (.aload_n 1, 1) := by decide +kernel
theorem dX2_refusalOf_2 : decode cX2_refusalOf 2 = .ok (.iload_n 2, 1) := by decide +kernel
theorem dX2_refusalOf_3 : decode cX2_refusalOf 3 = .ok (.iload_n 3, 1) := by decide +kernel
theorem dX2_refusalOf_4 : decode cX2_refusalOf 4 = .ok (.invokevirtual 162, 3) := by decide +kernel
theorem dX2_refusalOf_7 : decode cX2_refusalOf 7 = .ok (.ifCond .eq 5, 3) := by decide +kernel
theorem dX2_refusalOf_10 : decode cX2_refusalOf 10 = .ok (.iconst 1, 1) := by decide +kernel
theorem dX2_refusalOf_11 : decode cX2_refusalOf 11 = .ok (.ireturn, 1) := by decide +kernel
theorem dX2_refusalOf_12 : decode cX2_refusalOf 12 = .ok (.aload_n 0, 1) := by decide +kernel
theorem dX2_refusalOf_13 : decode cX2_refusalOf 13 = .ok (.aload_n 1, 1) := by decide +kernel
theorem dX2_refusalOf_14 : decode cX2_refusalOf 14 = .ok (.iload_n 2, 1) := by decide +kernel
theorem dX2_refusalOf_15 : decode cX2_refusalOf 15 = .ok (.invokevirtual 166, 3) := by decide +kernel
theorem dX2_refusalOf_18 : decode cX2_refusalOf 18 = .ok (.ifCond .eq 5, 3) := by decide +kernel
theorem dX2_refusalOf_21 : decode cX2_refusalOf 21 = .ok (.iconst 2, 1) := by decide +kernel
theorem dX2_refusalOf_22 : decode cX2_refusalOf 22 = .ok (.ireturn, 1) := by decide +kernel
theorem dX2_refusalOf_23 : decode cX2_refusalOf 23 = .ok (.aload_n 0, 1) := by decide +kernel
theorem dX2_refusalOf_24 : decode cX2_refusalOf 24 = .ok (.aload_n 1, 1) := by decide +kernel
theorem dX2_refusalOf_25 : decode cX2_refusalOf 25 = .ok (.iload_n 2, 1) := by decide +kernel
theorem dX2_refusalOf_26 : decode cX2_refusalOf 26 = .ok (.iload_n 3, 1) := by decide +kernel
theorem dX2_refusalOf_27 : decode cX2_refusalOf 27 = .ok (.iload 4, 2) := by decide +kernel
theorem dX2_refusalOf_29 : decode cX2_refusalOf 29 = .ok (.invokevirtual 170, 3) := by decide +kernel
theorem dX2_refusalOf_32 : decode cX2_refusalOf 32 = .ok (.iconst (-1), 1) := by decide +kernel
theorem dX2_refusalOf_33 : decode cX2_refusalOf 33 = .ok (.if_icmp .eq 5, 3) := by decide +kernel
theorem dX2_refusalOf_36 : decode cX2_refusalOf 36 = .ok (.iconst 3, 1) := by decide +kernel
theorem dX2_refusalOf_37 : decode cX2_refusalOf 37 = .ok (.ireturn, 1) := by decide +kernel
theorem dX2_refusalOf_38 : decode cX2_refusalOf 38 = .ok (.aload_n 0, 1) := by decide +kernel
theorem dX2_refusalOf_39 : decode cX2_refusalOf 39 = .ok (.aload_n 1, 1) := by decide +kernel
theorem dX2_refusalOf_40 : decode cX2_refusalOf 40 = .ok (.getfield 174, 3) := by decide +kernel
theorem dX2_refusalOf_43 : decode cX2_refusalOf 43 = .ok (.iload_n 2, 1) := by decide +kernel
theorem dX2_refusalOf_44 : decode cX2_refusalOf 44 = .ok (.invokevirtual 127, 3) := by decide +kernel
theorem dX2_refusalOf_47 : decode cX2_refusalOf 47 = .ok (.aload_n 0, 1) := by decide +kernel
theorem dX2_refusalOf_48 : decode cX2_refusalOf 48 = .ok (.aload_n 1, 1) := by decide +kernel
theorem dX2_refusalOf_49 : decode cX2_refusalOf 49 = .ok (.iload_n 3, 1) := by decide +kernel
theorem dX2_refusalOf_50 : decode cX2_refusalOf 50 = .ok (.invokevirtual 120, 3) := by decide +kernel
theorem dX2_refusalOf_53 : decode cX2_refusalOf 53 = .ok (.iadd, 1) := by decide +kernel
theorem dX2_refusalOf_54 : decode cX2_refusalOf 54 = .ok (.istore 5, 2) := by decide +kernel
theorem dX2_refusalOf_56 : decode cX2_refusalOf 56 = .ok (.iload 5, 2) := by decide +kernel
theorem dX2_refusalOf_58 : decode cX2_refusalOf 58 = .ok (.aload_n 0, 1) := by decide +kernel
theorem dX2_refusalOf_59 : decode cX2_refusalOf 59 = .ok (.aload_n 1, 1) := by decide +kernel
theorem dX2_refusalOf_60 : decode cX2_refusalOf 60 = .ok (.getfield 174, 3) := by decide +kernel
theorem dX2_refusalOf_63 : decode cX2_refusalOf 63 = .ok (.iload_n 2, 1) := by decide +kernel
theorem dX2_refusalOf_64 : decode cX2_refusalOf 64 = .ok (.invokevirtual 124, 3) := by decide +kernel
theorem dX2_refusalOf_67 : decode cX2_refusalOf 67 = .ok (.if_icmp .le 7, 3) := by decide +kernel
theorem dX2_refusalOf_70 : decode cX2_refusalOf 70 = .ok (.iconst 4, 1) := by decide +kernel
theorem dX2_refusalOf_71 : decode cX2_refusalOf 71 = .ok (.goto 4, 3) := by decide +kernel
theorem dX2_refusalOf_74 : decode cX2_refusalOf 74 = .ok (.iconst 0, 1) := by decide +kernel
theorem dX2_refusalOf_75 : decode cX2_refusalOf 75 = .ok (.ireturn, 1) := by decide +kernel
theorem dX2_hasRoom_0 : decode cX2_hasRoom 0 = .ok (.aload_n 0, 1) := by decide +kernel
theorem dX2_hasRoom_1 : decode cX2_hasRoom 1 = .ok (.getfield 55, 3) := by decide +kernel
theorem dX2_hasRoom_4 : decode cX2_hasRoom 4 = .ok (.bipush 24, 2) := by decide +kernel
theorem dX2_hasRoom_6 : decode cX2_hasRoom 6 = .ok (.if_icmp .ge 17, 3) := by decide +kernel
theorem dX2_hasRoom_9 : decode cX2_hasRoom 9 = .ok (.aload_n 0, 1) := by decide +kernel
theorem dX2_hasRoom_10 : decode cX2_hasRoom 10 = .ok (.getfield 46, 3) := by decide +kernel
theorem dX2_hasRoom_13 : decode cX2_hasRoom 13 = .ok (.sipush 200, 3) := by decide +kernel
theorem dX2_hasRoom_16 : decode cX2_hasRoom 16 = .ok (.if_icmp .ge 7, 3) := by decide +kernel
theorem dX2_hasRoom_19 : decode cX2_hasRoom 19 = .ok (.iconst 1, 1) := by decide +kernel
theorem dX2_hasRoom_20 : decode cX2_hasRoom 20 = .ok (.goto 4, 3) := by decide +kernel
theorem dX2_hasRoom_23 : decode cX2_hasRoom 23 = .ok (.iconst 0, 1) := by decide +kernel
theorem dX2_hasRoom_24 : decode cX2_hasRoom 24 = .ok (.ireturn, 1) := by decide +kernel
set_option maxRecDepth 20000 in
theorem ggX2_grant_X4_put : GoodIn wsX2_grant wsX4_put := goodIn_r _ [8] (by decide +kernel) (by decide +kernel)
set_option maxRecDepth 20000 in
theorem gX2_grant_X4_put_n80 : GoodIn wsX2_grant (wsX4_put) := ggX2_grant_X4_put
theorem dX2_grant_0 : decode cX2_grant 0 = .ok (.aload_n 0, 1) := by decide +kernel
theorem dX2_grant_1 : decode cX2_grant 1 = .ok (.getfield 55, 3) := by decide +kernel
theorem dX2_grant_4 : decode cX2_grant 4 = .ok (.ifCond .lt 86, 3) := by decide +kernel
theorem dX2_grant_7 : decode cX2_grant 7 = .ok (.aload_n 0, 1) := by decide +kernel
theorem dX2_grant_8 : decode cX2_grant 8 = .ok (.getfield 55, 3) := by decide +kernel
theorem dX2_grant_11 : decode cX2_grant 11 = .ok (.aload_n 0, 1) := by decide +kernel
theorem dX2_grant_12 : decode cX2_grant 12 = .ok (.getfield 52, 3) := by decide +kernel
theorem dX2_grant_15 : decode cX2_grant 15 = .ok (.arraylength, 1) := by decide +kernel
theorem dX2_grant_16 : decode cX2_grant 16 = .ok (.if_icmp .ge 74, 3) := by decide +kernel
theorem dX2_grant_19 : decode cX2_grant 19 = .ok (.aload_n 0, 1) := by decide +kernel
theorem dX2_grant_20 : decode cX2_grant 20 = .ok (.getfield 46, 3) := by decide +kernel
theorem dX2_grant_23 : decode cX2_grant 23 = .ok (.ifCond .lt 67, 3) := by decide +kernel
theorem dX2_grant_26 : decode cX2_grant 26 = .ok (.aload_n 0, 1) := by decide +kernel
theorem dX2_grant_27 : decode cX2_grant 27 = .ok (.getfield 46, 3) := by decide +kernel
theorem dX2_grant_30 : decode cX2_grant 30 = .ok (.aload_n 0, 1) := by decide +kernel
theorem dX2_grant_31 : decode cX2_grant 31 = .ok (.getfield 42, 3) := by decide +kernel
theorem dX2_grant_34 : decode cX2_grant 34 = .ok (.arraylength, 1) := by decide +kernel
theorem dX2_grant_35 : decode cX2_grant 35 = .ok (.if_icmp .ge 55, 3) := by decide +kernel
theorem dX2_grant_38 : decode cX2_grant 38 = .ok (.aload_n 0, 1) := by decide +kernel
theorem dX2_grant_39 : decode cX2_grant 39 = .ok (.getfield 42, 3) := by decide +kernel
theorem dX2_grant_42 : decode cX2_grant 42 = .ok (.aload_n 0, 1) := by decide +kernel
theorem dX2_grant_43 : decode cX2_grant 43 = .ok (.getfield 46, 3) := by decide +kernel
theorem dX2_grant_46 : decode cX2_grant 46 = .ok (.aload_n 1, 1) := by decide +kernel
theorem dX2_grant_47 : decode cX2_grant 47 = .ok (.aastore, 1) := by decide +kernel
theorem dX2_grant_48 : decode cX2_grant 48 = .ok (.aload_n 0, 1) := by decide +kernel
theorem dX2_grant_49 : decode cX2_grant 49 = .ok (.getfield 49, 3) := by decide +kernel
theorem dX2_grant_52 : decode cX2_grant 52 = .ok (.aload_n 0, 1) := by decide +kernel
theorem dX2_grant_53 : decode cX2_grant 53 = .ok (.getfield 46, 3) := by decide +kernel
theorem dX2_grant_56 : decode cX2_grant 56 = .ok (.iconst 1, 1) := by decide +kernel
theorem dX2_grant_57 : decode cX2_grant 57 = .ok (.invokestatic 80, 3) := by decide +kernel
theorem dX2_grant_60 : decode cX2_grant 60 = .ok (.aload_n 0, 1) := by decide +kernel
theorem dX2_grant_61 : decode cX2_grant 61 = .ok (.dup, 1) := by decide +kernel
theorem dX2_grant_62 : decode cX2_grant 62 = .ok (.getfield 46, 3) := by decide +kernel
theorem dX2_grant_65 : decode cX2_grant 65 = .ok (.iconst 1, 1) := by decide +kernel
theorem dX2_grant_66 : decode cX2_grant 66 = .ok (.iadd, 1) := by decide +kernel
theorem dX2_grant_67 : decode cX2_grant 67 = .ok (.putfield 46, 3) := by decide +kernel
theorem dX2_grant_70 : decode cX2_grant 70 = .ok (.aload_n 0, 1) := by decide +kernel
theorem dX2_grant_71 : decode cX2_grant 71 = .ok (.getfield 52, 3) := by decide +kernel
theorem dX2_grant_74 : decode cX2_grant 74 = .ok (.aload_n 0, 1) := by decide +kernel
theorem dX2_grant_75 : decode cX2_grant 75 = .ok (.getfield 55, 3) := by decide +kernel
theorem dX2_grant_78 : decode cX2_grant 78 = .ok (.aload_n 1, 1) := by decide +kernel
theorem dX2_grant_79 : decode cX2_grant 79 = .ok (.aastore, 1) := by decide +kernel
theorem dX2_grant_80 : decode cX2_grant 80 = .ok (.aload_n 0, 1) := by decide +kernel
theorem dX2_grant_81 : decode cX2_grant 81 = .ok (.dup, 1) := by decide +kernel
theorem dX2_grant_82 : decode cX2_grant 82 = .ok (.getfield 55, 3) := by decide +kernel
theorem dX2_grant_85 : decode cX2_grant 85 = .ok (.iconst 1, 1) := by decide +kernel
theorem dX2_grant_86 : decode cX2_grant 86 = .ok (.iadd, 1) := by decide +kernel
theorem dX2_grant_87 : decode cX2_grant 87 = .ok (.putfield 55, 3) := by decide +kernel
theorem dX2_grant_90 : decode cX2_grant 90 = .ok (.return_, 1) := by decide +kernel
set_option maxRecDepth 20000 in
theorem ggX2_end_X4_put : GoodIn wsX2_end wsX4_put := goodIn_r _ [7] (by decide +kernel) (by decide +kernel)
set_option maxRecDepth 20000 in
theorem gX2_end_X4_put_n80 : GoodIn wsX2_end (wsX4_put) := ggX2_end_X4_put
set_option maxRecDepth 20000 in
theorem ggX2_end_X2_validAt : GoodIn wsX2_end wsX2_validAt := goodIn_r _ [12, 3, 4, 13, 14, 15, 16, 17, 18, 19, 20, 21, 22, 23, 24, 25] (by decide +kernel) (by decide +kernel)
set_option maxRecDepth 20000 in
theorem gX2_end_X2_validAt : GoodIn wsX2_end (wsV RX2 105 RX2 yX2_validAt wsX2_validAt) := goodIn_app (goodIn_of _ (by decide +kernel)) ggX2_end_X2_validAt
theorem dX2_end_0 : decode cX2_end 0 = .ok (.aload_n 0, 1) := by decide +kernel
theorem dX2_end_1 : decode cX2_end 1 = .ok (.getfield 49, 3) := by decide +kernel
theorem dX2_end_4 : decode cX2_end 4 = .ok (.aload_n 1, 1) := by decide +kernel
theorem dX2_end_5 : decode cX2_end 5 = .ok (.getfield 158, 3) := by decide +kernel
theorem dX2_end_8 : decode cX2_end 8 = .ok (.iload_n 2, 1) := by decide +kernel
theorem dX2_end_9 : decode cX2_end 9 = .ok (.invokestatic 80, 3) := by decide +kernel
theorem dX2_end_12 : decode cX2_end 12 = .ok (.iconst 0, 1) := by decide +kernel
theorem dX2_end_13 : decode cX2_end 13 = .ok (.istore_n 3, 1) := by decide +kernel
theorem dX2_end_14 : decode cX2_end 14 = .ok (.iconst 0, 1) := by decide +kernel
theorem dX2_end_15 : decode cX2_end 15 = .ok (.istore 4, 2) := by decide +kernel
theorem dX2_end_17 : decode cX2_end 17 = .ok (.iload 4, 2) := by decide +kernel
theorem dX2_end_19 : decode cX2_end 19 = .ok (.aload_n 0, 1) := by decide +kernel
theorem dX2_end_20 : decode cX2_end 20 = .ok (.getfield 55, 3) := by decide +kernel
theorem dX2_end_23 : decode cX2_end 23 = .ok (.if_icmp .ge 54, 3) := by decide +kernel
theorem dX2_end_26 : decode cX2_end 26 = .ok (.aload_n 0, 1) := by decide +kernel
theorem dX2_end_27 : decode cX2_end 27 = .ok (.iload 4, 2) := by decide +kernel
theorem dX2_end_29 : decode cX2_end 29 = .ok (.invokevirtual 105, 3) := by decide +kernel
theorem dX2_end_32 : decode cX2_end 32 = .ok (.astore 5, 2) := by decide +kernel
theorem dX2_end_34 : decode cX2_end 34 = .ok (.aload 5, 2) := by decide +kernel
theorem dX2_end_36 : decode cX2_end 36 = .ok (.ifnull 35, 3) := by decide +kernel
theorem dX2_end_39 : decode cX2_end 39 = .ok (.aload 5, 2) := by decide +kernel
theorem dX2_end_41 : decode cX2_end 41 = .ok (.getfield 158, 3) := by decide +kernel
theorem dX2_end_44 : decode cX2_end 44 = .ok (.aload_n 1, 1) := by decide +kernel
theorem dX2_end_45 : decode cX2_end 45 = .ok (.getfield 158, 3) := by decide +kernel
theorem dX2_end_48 : decode cX2_end 48 = .ok (.if_icmp .eq 23, 3) := by decide +kernel
theorem dX2_end_51 : decode cX2_end 51 = .ok (.iload_n 3, 1) := by decide +kernel
theorem dX2_end_52 : decode cX2_end 52 = .ok (.aload_n 0, 1) := by decide +kernel
theorem dX2_end_53 : decode cX2_end 53 = .ok (.getfield 52, 3) := by decide +kernel
theorem dX2_end_56 : decode cX2_end 56 = .ok (.arraylength, 1) := by decide +kernel
theorem dX2_end_57 : decode cX2_end 57 = .ok (.if_icmp .ge 14, 3) := by decide +kernel
theorem dX2_end_60 : decode cX2_end 60 = .ok (.aload_n 0, 1) := by decide +kernel
theorem dX2_end_61 : decode cX2_end 61 = .ok (.getfield 52, 3) := by decide +kernel
theorem dX2_end_64 : decode cX2_end 64 = .ok (.iload_n 3, 1) := by decide +kernel
theorem dX2_end_65 : decode cX2_end 65 = .ok (.aload 5, 2) := by decide +kernel
theorem dX2_end_67 : decode cX2_end 67 = .ok (.aastore, 1) := by decide +kernel
theorem dX2_end_68 : decode cX2_end 68 = .ok (.iinc 3 1, 3) := by decide +kernel
theorem dX2_end_71 : decode cX2_end 71 = .ok (.iinc 4 1, 3) := by decide +kernel
theorem dX2_end_74 : decode cX2_end 74 = .ok (.goto (-57), 3) := by decide +kernel
theorem dX2_end_77 : decode cX2_end 77 = .ok (.aload_n 0, 1) := by decide +kernel
theorem dX2_end_78 : decode cX2_end 78 = .ok (.iload_n 3, 1) := by decide +kernel
theorem dX2_end_79 : decode cX2_end 79 = .ok (.putfield 55, 3) := by decide +kernel
theorem dX2_end_82 : decode cX2_end 82 = .ok (.return_, 1) := by decide +kernel
set_option maxRecDepth 20000 in
theorem ggX2_withdrawFailing_X2_validAt : GoodIn wsX2_withdrawFailing wsX2_validAt := goodIn_r _ [9, 1, 10, 69, 70, 71, 72, 73, 74, 75, 76, 77, 78, 79, 80, 81] (by decide +kernel) (by decide +kernel)
set_option maxRecDepth 20000 in
theorem gX2_withdrawFailing_X2_validAt : GoodIn wsX2_withdrawFailing (wsV RX2 105 RX2 yX2_validAt wsX2_validAt) := goodIn_app (goodIn_of _ (by decide +kernel)) ggX2_withdrawFailing_X2_validAt
set_option maxRecDepth 20000 in
theorem ggX2_withdrawFailing_X2_mustStop : GoodIn wsX2_withdrawFailing wsX2_mustStop := goodIn_r _ [14, 15, 16, 17, 18, 19, 20, 21, 8, 22, 23, 24, 69, 70, 71, 72, 73, 74, 75, 76, 77, 78, 79, 80, 81, 89, 90, 91, 92, 93, 94, 95] (by decide +kernel) (by decide +kernel)
set_option maxRecDepth 20000 in
theorem gX2_withdrawFailing_X2_mustStop : GoodIn wsX2_withdrawFailing (wsV RX2 166 RX2 yX2_mustStop wsX2_mustStop) := goodIn_app (goodIn_of _ (by decide +kernel)) ggX2_withdrawFailing_X2_mustStop
set_option maxRecDepth 20000 in
theorem ggX2_withdrawFailing_X2_freeOf : GoodIn wsX2_withdrawFailing wsX2_freeOf := goodIn_r _ [28, 29, 30, 31, 8, 32, 33, 34, 35, 17, 36, 37, 38, 39, 40, 41, 23, 16, 18, 42, 43, 44, 45, 1, 2, 46, 5, 6, 7, 9, 10, 47, 48, 49, 50, 51, 52, 53, 54, 55, 56, 57, 58, 59, 60, 69, 70, 71, 72, 73, 74, 75, 76, 77, 78, 79, 80, 81, 82, 83, 84, 85, 86, 87, 88, 89, 90, 91, 92, 93, 94, 95] (by decide +kernel) (by decide +kernel)
set_option maxRecDepth 20000 in
theorem gX2_withdrawFailing_X2_freeOf : GoodIn wsX2_withdrawFailing (wsV RX2 177 RX2 yX2_freeOf wsX2_freeOf) := goodIn_app (goodIn_of _ (by decide +kernel)) ggX2_withdrawFailing_X2_freeOf
set_option maxRecDepth 20000 in
theorem ggX2_withdrawFailing_X2_end : GoodIn wsX2_withdrawFailing wsX2_end := goodIn_r _ [64, 65, 66, 1, 10, 67, 17, 68, 5, 6, 7, 8, 9, 69, 70, 71, 72, 73, 74, 75, 76, 77, 78, 79, 80, 81, 82, 83, 84, 85, 86, 87, 88] (by decide +kernel) (by decide +kernel)
set_option maxRecDepth 20000 in
theorem gX2_withdrawFailing_X2_end : GoodIn wsX2_withdrawFailing (wsV RX2 180 RX2 yX2_end wsX2_end) := goodIn_app (goodIn_of _ (by decide +kernel)) ggX2_withdrawFailing_X2_end
theorem dX2_withdrawFailing_0 : decode cX2_withdrawFailing 0 = .ok (.iconst 0, 1) := by decide +kernel
theorem dX2_withdrawFailing_1 : decode cX2_withdrawFailing 1 = .ok (.istore_n 1, 1) := by decide +kernel
theorem dX2_withdrawFailing_2 : decode cX2_withdrawFailing 2 = .ok (.aload_n 0, 1) := by decide +kernel
theorem dX2_withdrawFailing_3 : decode cX2_withdrawFailing 3 = .ok (.getfield 55, 3) := by decide +kernel
theorem dX2_withdrawFailing_6 : decode cX2_withdrawFailing 6 = .ok (.iconst 1, 1) := by decide +kernel
theorem dX2_withdrawFailing_7 : decode cX2_withdrawFailing 7 = .ok (.isub, 1) := by decide +kernel
theorem dX2_withdrawFailing_8 : decode cX2_withdrawFailing 8 = .ok (.istore_n 2, 1) := by decide +kernel
theorem dX2_withdrawFailing_9 : decode cX2_withdrawFailing 9 = .ok (.iload_n 2, 1) := by decide +kernel
theorem dX2_withdrawFailing_10 : decode cX2_withdrawFailing 10 = .ok (.ifCond .lt 61, 3) := by decide +kernel
theorem dX2_withdrawFailing_13 : decode cX2_withdrawFailing 13 = .ok (.aload_n 0, 1) := by decide +kernel
theorem dX2_withdrawFailing_14 : decode cX2_withdrawFailing 14 = .ok (.iload_n 2, 1) := by decide +kernel
theorem dX2_withdrawFailing_15 : decode cX2_withdrawFailing 15 = .ok (.invokevirtual 105, 3) := by decide +kernel
theorem dX2_withdrawFailing_18 : decode cX2_withdrawFailing 18 = .ok (.astore_n 3, 1) := by decide +kernel
theorem dX2_withdrawFailing_19 : decode cX2_withdrawFailing 19 = .ok (.aload_n 3, 1) := by decide +kernel
theorem dX2_withdrawFailing_20 : decode cX2_withdrawFailing 20 = .ok (.ifnull 45, 3) := by decide +kernel
theorem dX2_withdrawFailing_23 : decode cX2_withdrawFailing 23 = .ok (.aload_n 0, 1) := by decide +kernel
theorem dX2_withdrawFailing_24 : decode cX2_withdrawFailing 24 = .ok (.aload_n 3, 1) := by decide +kernel
theorem dX2_withdrawFailing_25 : decode cX2_withdrawFailing 25 = .ok (.getfield 113, 3) := by decide +kernel
theorem dX2_withdrawFailing_28 : decode cX2_withdrawFailing 28 = .ok (.aload_n 3, 1) := by decide +kernel
theorem dX2_withdrawFailing_29 : decode cX2_withdrawFailing 29 = .ok (.getfield 159, 3) := by decide +kernel
theorem dX2_withdrawFailing_32 : decode cX2_withdrawFailing 32 = .ok (.invokevirtual 166, 3) := by decide +kernel
theorem dX2_withdrawFailing_35 : decode cX2_withdrawFailing 35 = .ok (.ifCond .ne 21, 3) := by decide +kernel
theorem dX2_withdrawFailing_38 : decode cX2_withdrawFailing 38 = .ok (.aload_n 0, 1) := by decide +kernel
theorem dX2_withdrawFailing_39 : decode cX2_withdrawFailing 39 = .ok (.aload_n 3, 1) := by decide +kernel
theorem dX2_withdrawFailing_40 : decode cX2_withdrawFailing 40 = .ok (.getfield 113, 3) := by decide +kernel
theorem dX2_withdrawFailing_43 : decode cX2_withdrawFailing 43 = .ok (.getfield 174, 3) := by decide +kernel
theorem dX2_withdrawFailing_46 : decode cX2_withdrawFailing 46 = .ok (.aload_n 3, 1) := by decide +kernel
theorem dX2_withdrawFailing_47 : decode cX2_withdrawFailing 47 = .ok (.getfield 159, 3) := by decide +kernel
theorem dX2_withdrawFailing_50 : decode cX2_withdrawFailing 50 = .ok (.invokevirtual 177, 3) := by decide +kernel
theorem dX2_withdrawFailing_53 : decode cX2_withdrawFailing 53 = .ok (.ifCond .ge 12, 3) := by decide +kernel
theorem dX2_withdrawFailing_56 : decode cX2_withdrawFailing 56 = .ok (.aload_n 0, 1) := by decide +kernel
theorem dX2_withdrawFailing_57 : decode cX2_withdrawFailing 57 = .ok (.aload_n 3, 1) := by decide +kernel
theorem dX2_withdrawFailing_58 : decode cX2_withdrawFailing 58 = .ok (.iconst 3, 1) := by decide +kernel
theorem dX2_withdrawFailing_59 : decode cX2_withdrawFailing 59 = .ok (.invokevirtual 180, 3) := by decide +kernel
theorem dX2_withdrawFailing_62 : decode cX2_withdrawFailing 62 = .ok (.iinc 1 1, 3) := by decide +kernel
theorem dX2_withdrawFailing_65 : decode cX2_withdrawFailing 65 = .ok (.iinc 2 (-1), 3) := by decide +kernel
theorem dX2_withdrawFailing_68 : decode cX2_withdrawFailing 68 = .ok (.goto (-59), 3) := by decide +kernel
theorem dX2_withdrawFailing_71 : decode cX2_withdrawFailing 71 = .ok (.iload_n 1, 1) := by decide +kernel
theorem dX2_withdrawFailing_72 : decode cX2_withdrawFailing 72 = .ok (.ireturn, 1) := by decide +kernel
theorem dX3_init_0 : decode cX3_init 0 = .ok (.aload_n 0, 1) := by decide +kernel
theorem dX3_init_1 : decode cX3_init 1 = .ok (.invokespecial 3, 3) := by decide +kernel
theorem dX3_init_4 : decode cX3_init 4 = .ok (.aload_n 0, 1) := by decide +kernel
theorem dX3_init_5 : decode cX3_init 5 = .ok (.bipush 80, 2) := by decide +kernel
theorem dX3_init_7 : decode cX3_init 7 = .ok (.newarray .char, 2) := by decide +kernel
theorem dX3_init_9 : decode cX3_init 9 = .ok (.putfield 9, 3) := by decide +kernel
theorem dX3_init_12 : decode cX3_init 12 = .ok (.aload_n 0, 1) := by decide +kernel
theorem dX3_init_13 : decode cX3_init 13 = .ok (.iconst 0, 1) := by decide +kernel
theorem dX3_init_14 : decode cX3_init 14 = .ok (.putfield 15, 3) := by decide +kernel
theorem dX3_init_17 : decode cX3_init 17 = .ok (.aload_n 0, 1) := by decide +kernel
theorem dX3_init_18 : decode cX3_init 18 = .ok (.iconst 0, 1) := by decide +kernel
theorem dX3_init_19 : decode cX3_init 19 = .ok (.putfield 19, 3) := by decide +kernel
theorem dX3_init_22 : decode cX3_init 22 = .ok (.aload_n 0, 1) := by decide +kernel
theorem dX3_init_23 : decode cX3_init 23 = .ok (.iconst 0, 1) := by decide +kernel
theorem dX3_init_24 : decode cX3_init 24 = .ok (.putfield 22, 3) := by decide +kernel
theorem dX3_init_27 : decode cX3_init 27 = .ok (.aload_n 0, 1) := by decide +kernel
theorem dX3_init_28 : decode cX3_init 28 = .ok (.iconst 1, 1) := by decide +kernel
theorem dX3_init_29 : decode cX3_init 29 = .ok (.putfield 25, 3) := by decide +kernel
theorem dX3_init_32 : decode cX3_init 32 = .ok (.aload_n 0, 1) := by decide +kernel
theorem dX3_init_33 : decode cX3_init 33 = .ok (.iconst 0, 1) := by decide +kernel
theorem dX3_init_34 : decode cX3_init 34 = .ok (.putfield 29, 3) := by decide +kernel
theorem dX3_init_37 : decode cX3_init 37 = .ok (.aload_n 0, 1) := by decide +kernel
theorem dX3_init_38 : decode cX3_init 38 = .ok (.iconst 0, 1) := by decide +kernel
theorem dX3_init_39 : decode cX3_init 39 = .ok (.putfield 32, 3) := by decide +kernel
theorem dX3_init_42 : decode cX3_init 42 = .ok (.aload_n 0, 1) := by decide +kernel
theorem dX3_init_43 : decode cX3_init 43 = .ok (.iconst 0, 1) := by decide +kernel
theorem dX3_init_44 : decode cX3_init 44 = .ok (.putfield 35, 3) := by decide +kernel
theorem dX3_init_47 : decode cX3_init 47 = .ok (.aload_n 0, 1) := by decide +kernel
theorem dX3_init_48 : decode cX3_init 48 = .ok (.iconst 0, 1) := by decide +kernel
theorem dX3_init_49 : decode cX3_init 49 = .ok (.putfield 38, 3) := by decide +kernel
theorem dX3_init_52 : decode cX3_init 52 = .ok (.return_, 1) := by decide +kernel
set_option maxRecDepth 20000 in
theorem ggX4_init_X2_init : GoodIn wsX4_init wsX2_init := goodIn_r _ [17, 18, 2, 3, 19, 20, 21, 22, 23, 24, 25, 26, 27, 28, 29, 30, 31, 32, 33, 34, 35, 36, 37, 38, 52, 53, 54, 55, 56, 57, 58, 59, 60, 61, 62, 63, 64] (by decide +kernel) (by decide +kernel)
set_option maxRecDepth 20000 in
theorem gX4_init_X2_init : GoodIn wsX4_init (wsX2_init) := ggX4_init_X2_init
set_option maxRecDepth 20000 in
theorem ggX4_init_X3_init : GoodIn wsX4_init wsX3_init := goodIn_r _ [40, 41, 2, 3, 42, 43, 44, 45, 46, 47, 48, 49, 50, 51, 70, 71, 72, 73, 74, 75, 76, 77, 78] (by decide +kernel) (by decide +kernel)
set_option maxRecDepth 20000 in
theorem gX4_init_X3_init_n29 : GoodIn wsX4_init (wsX3_init) := ggX4_init_X3_init
theorem dX4_init_0 : decode cX4_init 0 = .ok (.aload_n 0, 1) := by decide +kernel
theorem dX4_init_1 : decode cX4_init 1 = .ok (.invokespecial 1, 3) := by decide +kernel
theorem dX4_init_4 : decode cX4_init 4 = .ok (.aload_n 0, 1) := by decide +kernel
theorem dX4_init_5 : decode cX4_init 5 = .ok (.new 7, 3) := by decide +kernel
theorem dX4_init_8 : decode cX4_init 8 = .ok (.dup, 1) := by decide +kernel
theorem dX4_init_9 : decode cX4_init 9 = .ok (.invokespecial 9, 3) := by decide +kernel
theorem dX4_init_12 : decode cX4_init 12 = .ok (.putfield 10, 3) := by decide +kernel
theorem dX4_init_15 : decode cX4_init 15 = .ok (.aload_n 0, 1) := by decide +kernel
theorem dX4_init_16 : decode cX4_init 16 = .ok (.new 7, 3) := by decide +kernel
theorem dX4_init_19 : decode cX4_init 19 = .ok (.dup, 1) := by decide +kernel
theorem dX4_init_20 : decode cX4_init 20 = .ok (.invokespecial 9, 3) := by decide +kernel
theorem dX4_init_23 : decode cX4_init 23 = .ok (.putfield 16, 3) := by decide +kernel
theorem dX4_init_26 : decode cX4_init 26 = .ok (.aload_n 0, 1) := by decide +kernel
theorem dX4_init_27 : decode cX4_init 27 = .ok (.iconst 4, 1) := by decide +kernel
theorem dX4_init_28 : decode cX4_init 28 = .ok (.anewarray 7, 3) := by decide +kernel
theorem dX4_init_31 : decode cX4_init 31 = .ok (.putfield 19, 3) := by decide +kernel
theorem dX4_init_34 : decode cX4_init 34 = .ok (.aload_n 0, 1) := by decide +kernel
theorem dX4_init_35 : decode cX4_init 35 = .ok (.iconst 0, 1) := by decide +kernel
theorem dX4_init_36 : decode cX4_init 36 = .ok (.putfield 23, 3) := by decide +kernel
theorem dX4_init_39 : decode cX4_init 39 = .ok (.aload_n 0, 1) := by decide +kernel
theorem dX4_init_40 : decode cX4_init 40 = .ok (.new 27, 3) := by decide +kernel
theorem dX4_init_43 : decode cX4_init 43 = .ok (.dup, 1) := by decide +kernel
theorem dX4_init_44 : decode cX4_init 44 = .ok (.invokespecial 29, 3) := by decide +kernel
theorem dX4_init_47 : decode cX4_init 47 = .ok (.putfield 30, 3) := by decide +kernel
theorem dX4_init_50 : decode cX4_init 50 = .ok (.iconst 0, 1) := by decide +kernel
theorem dX4_init_51 : decode cX4_init 51 = .ok (.istore_n 1, 1) := by decide +kernel
theorem dX4_init_52 : decode cX4_init 52 = .ok (.iload_n 1, 1) := by decide +kernel
theorem dX4_init_53 : decode cX4_init 53 = .ok (.aload_n 0, 1) := by decide +kernel
theorem dX4_init_54 : decode cX4_init 54 = .ok (.getfield 19, 3) := by decide +kernel
theorem dX4_init_57 : decode cX4_init 57 = .ok (.arraylength, 1) := by decide +kernel
theorem dX4_init_58 : decode cX4_init 58 = .ok (.if_icmp .ge 22, 3) := by decide +kernel
theorem dX4_init_61 : decode cX4_init 61 = .ok (.aload_n 0, 1) := by decide +kernel
theorem dX4_init_62 : decode cX4_init 62 = .ok (.getfield 19, 3) := by decide +kernel
theorem dX4_init_65 : decode cX4_init 65 = .ok (.iload_n 1, 1) := by decide +kernel
theorem dX4_init_66 : decode cX4_init 66 = .ok (.new 7, 3) := by decide +kernel
theorem dX4_init_69 : decode cX4_init 69 = .ok (.dup, 1) := by decide +kernel
theorem dX4_init_70 : decode cX4_init 70 = .ok (.invokespecial 9, 3) := by decide +kernel
theorem dX4_init_73 : decode cX4_init 73 = .ok (.aastore, 1) := by decide +kernel
theorem dX4_init_74 : decode cX4_init 74 = .ok (.iinc 1 1, 3) := by decide +kernel
theorem dX4_init_77 : decode cX4_init 77 = .ok (.goto (-25), 3) := by decide +kernel
theorem dX4_init_80 : decode cX4_init 80 = .ok (.return_, 1) := by decide +kernel
set_option maxRecDepth 20000 in
theorem ggX4_crane_X4_isCell : GoodIn wsX4_crane wsX4_isCell := goodIn_r _ [10, 11, 12, 9, 13] (by decide +kernel) (by decide +kernel)
set_option maxRecDepth 20000 in
theorem gX4_crane_X4_isCell : GoodIn wsX4_crane (va_wsS RX4 34 yX4_isCell wsX4_isCell) := goodIn_app (goodIn_of _ (by decide +kernel)) ggX4_crane_X4_isCell
set_option maxRecDepth 20000 in
theorem ggX4_crane_X4_isIn : GoodIn wsX4_crane wsX4_isIn := goodIn_r _ [13] (by decide +kernel) (by decide +kernel)
set_option maxRecDepth 20000 in
theorem gX4_crane_X4_isIn : GoodIn wsX4_crane (va_wsS RX4 38 yX4_isIn wsX4_isIn) := goodIn_app (goodIn_of _ (by decide +kernel)) ggX4_crane_X4_isIn
set_option maxRecDepth 20000 in
theorem ggX4_crane_X4_isStreet : GoodIn wsX4_crane wsX4_isStreet := goodIn_r _ [16, 11, 12, 9, 13] (by decide +kernel) (by decide +kernel)
set_option maxRecDepth 20000 in
theorem gX4_crane_X4_isStreet : GoodIn wsX4_crane (va_wsS RX4 42 yX4_isStreet wsX4_isStreet) := goodIn_app (goodIn_of _ (by decide +kernel)) ggX4_crane_X4_isStreet
set_option maxRecDepth 20000 in
theorem ggX4_crane_X2_hasCraneIn : GoodIn wsX4_crane wsX2_hasCraneIn := goodIn_r _ [21, 22, 23, 24, 25, 26, 27, 20, 28, 29, 99, 100, 101, 102, 103, 104, 105, 106, 107, 108, 109, 110, 111, 112, 113, 114, 115, 116, 117, 118] (by decide +kernel) (by decide +kernel)
set_option maxRecDepth 20000 in
theorem gX4_crane_X2_hasCraneIn : GoodIn wsX4_crane (wsV RX4 46 RX2 yX2_hasCraneIn wsX2_hasCraneIn) := goodIn_app (goodIn_of _ (by decide +kernel)) ggX4_crane_X2_hasCraneIn
set_option maxRecDepth 20000 in
theorem ggX4_crane_X4_remember : GoodIn wsX4_crane wsX4_remember := goodIn_r _ [33, 34, 35, 1, 36, 37, 38, 9, 39, 40, 41, 42, 43, 44, 45, 46, 20, 47, 29, 48, 49, 50, 51, 22, 52, 53, 54, 55, 56, 57, 58, 59, 60, 61, 62, 94, 95, 96, 97, 98, 99, 100, 101, 102, 103, 104, 105, 106, 107, 108, 109, 110, 111] (by decide +kernel) (by decide +kernel)
set_option maxRecDepth 20000 in
theorem gX4_crane_X4_remember : GoodIn wsX4_crane (wsV RX4 52 RX4 yX4_remember wsX4_remember) := goodIn_app (goodIn_of _ (by decide +kernel)) ggX4_crane_X4_remember
set_option maxRecDepth 20000 in
theorem ggX4_crane_X0_init : GoodIn wsX4_crane wsX0_init := goodIn_r _ [65, 66, 67, 68, 69, 70, 71, 72, 73, 74, 75, 76, 77, 78, 79, 5, 80, 81, 82, 83, 84, 85, 86, 87, 112, 113, 114, 115, 116, 117, 118] (by decide +kernel) (by decide +kernel)
set_option maxRecDepth 20000 in
theorem gX4_crane_X0_init : GoodIn wsX4_crane (wsX0_init) := ggX4_crane_X0_init
set_option maxRecDepth 20000 in
theorem ggX4_crane_X2_addCrane : GoodIn wsX4_crane wsX2_addCrane := goodIn_r _ [91, 22, 29, 52, 92, 9, 93, 99, 100, 101, 102, 103, 104, 105, 106, 107, 108, 109, 110, 111] (by decide +kernel) (by decide +kernel)
set_option maxRecDepth 20000 in
theorem gX4_crane_X2_addCrane : GoodIn wsX4_crane (wsV RX4 60 RX2 yX2_addCrane wsX2_addCrane) := goodIn_app (goodIn_of _ (by decide +kernel)) ggX4_crane_X2_addCrane
theorem dX4_crane_0 : decode cX4_crane 0 = .ok (.iload_n 1, 1) := by decide +kernel
theorem dX4_crane_1 : decode cX4_crane 1 = .ok (.iload_n 2, 1) := by decide +kernel
theorem dX4_crane_2 : decode cX4_crane 2 = .ok (.invokestatic 34, 3) := by decide +kernel
theorem dX4_crane_5 : decode cX4_crane 5 = .ok (.ifCond .eq 44, 3) := by decide +kernel
theorem dX4_crane_8 : decode cX4_crane 8 = .ok (.iload_n 3, 1) := by decide +kernel
theorem dX4_crane_9 : decode cX4_crane 9 = .ok (.iconst 1, 1) := by decide +kernel
theorem dX4_crane_10 : decode cX4_crane 10 = .ok (.bipush 8, 2) := by decide +kernel
theorem dX4_crane_12 : decode cX4_crane 12 = .ok (.invokestatic 38, 3) := by decide +kernel
theorem dX4_crane_15 : decode cX4_crane 15 = .ok (.ifCond .eq 34, 3) := by decide +kernel
theorem dX4_crane_18 : decode cX4_crane 18 = .ok (.iload 4, 2) := by decide +kernel
theorem dX4_crane_20 : decode cX4_crane 20 = .ok (.bipush 10, 2) := by decide +kernel
theorem dX4_crane_22 : decode cX4_crane 22 = .ok (.bipush 99, 2) := by decide +kernel
theorem dX4_crane_24 : decode cX4_crane 24 = .ok (.invokestatic 38, 3) := by decide +kernel
theorem dX4_crane_27 : decode cX4_crane 27 = .ok (.ifCond .eq 22, 3) := by decide +kernel
theorem dX4_crane_30 : decode cX4_crane 30 = .ok (.iload 5, 2) := by decide +kernel
theorem dX4_crane_32 : decode cX4_crane 32 = .ok (.invokestatic 42, 3) := by decide +kernel
theorem dX4_crane_35 : decode cX4_crane 35 = .ok (.ifCond .eq 14, 3) := by decide +kernel
theorem dX4_crane_38 : decode cX4_crane 38 = .ok (.iload 6, 2) := by decide +kernel
theorem dX4_crane_40 : decode cX4_crane 40 = .ok (.iconst 1, 1) := by decide +kernel
theorem dX4_crane_41 : decode cX4_crane 41 = .ok (.bipush 9, 2) := by decide +kernel
theorem dX4_crane_43 : decode cX4_crane 43 = .ok (.invokestatic 38, 3) := by decide +kernel
theorem dX4_crane_46 : decode cX4_crane 46 = .ok (.ifCond .ne 7, 3) := by decide +kernel
theorem dX4_crane_49 : decode cX4_crane 49 = .ok (.sipush (-1001), 3) := by decide +kernel
theorem dX4_crane_52 : decode cX4_crane 52 = .ok (.ireturn, 1) := by decide +kernel
theorem dX4_crane_53 : decode cX4_crane 53 = .ok (.aload_n 0, 1) := by decide +kernel
theorem dX4_crane_54 : decode cX4_crane 54 = .ok (.getfield 10, 3) := by decide +kernel
theorem dX4_crane_57 : decode cX4_crane 57 = .ok (.iload_n 1, 1) := by decide +kernel
theorem dX4_crane_58 : decode cX4_crane 58 = .ok (.iload_n 2, 1) := by decide +kernel
theorem dX4_crane_59 : decode cX4_crane 59 = .ok (.invokevirtual 46, 3) := by decide +kernel
theorem dX4_crane_62 : decode cX4_crane 62 = .ok (.ifCond .eq 7, 3) := by decide +kernel
theorem dX4_crane_65 : decode cX4_crane 65 = .ok (.sipush (-1002), 3) := by decide +kernel
theorem dX4_crane_68 : decode cX4_crane 68 = .ok (.ireturn, 1) := by decide +kernel
theorem dX4_crane_69 : decode cX4_crane 69 = .ok (.aload_n 0, 1) := by decide +kernel
theorem dX4_crane_70 : decode cX4_crane 70 = .ok (.getfield 10, 3) := by decide +kernel
theorem dX4_crane_73 : decode cX4_crane 73 = .ok (.getfield 49, 3) := by decide +kernel
theorem dX4_crane_76 : decode cX4_crane 76 = .ok (.bipush 8, 2) := by decide +kernel
theorem dX4_crane_78 : decode cX4_crane 78 = .ok (.if_icmp .lt 7, 3) := by decide +kernel
theorem dX4_crane_81 : decode cX4_crane 81 = .ok (.sipush (-1003), 3) := by decide +kernel
theorem dX4_crane_84 : decode cX4_crane 84 = .ok (.ireturn, 1) := by decide +kernel
theorem dX4_crane_85 : decode cX4_crane 85 = .ok (.aload_n 0, 1) := by decide +kernel
theorem dX4_crane_86 : decode cX4_crane 86 = .ok (.invokevirtual 52, 3) := by decide +kernel
theorem dX4_crane_89 : decode cX4_crane 89 = .ok (.new 55, 3) := by decide +kernel
theorem dX4_crane_92 : decode cX4_crane 92 = .ok (.dup, 1) := by decide +kernel
theorem dX4_crane_93 : decode cX4_crane 93 = .ok (.aload_n 0, 1) := by decide +kernel
theorem dX4_crane_94 : decode cX4_crane 94 = .ok (.getfield 10, 3) := by decide +kernel
theorem dX4_crane_97 : decode cX4_crane 97 = .ok (.getfield 49, 3) := by decide +kernel
theorem dX4_crane_100 : decode cX4_crane 100 = .ok (.iload_n 1, 1) := by decide +kernel
theorem dX4_crane_101 : decode cX4_crane 101 = .ok (.iload_n 2, 1) := by decide +kernel
theorem dX4_crane_102 : decode cX4_crane 102 = .ok (.iload_n 3, 1) := by decide +kernel
theorem dX4_crane_103 : decode cX4_crane 103 = .ok (.iload 4, 2) := by decide +kernel
theorem dX4_crane_105 : decode cX4_crane 105 = .ok (.iload 5, 2) := by decide +kernel
theorem dX4_crane_107 : decode cX4_crane 107 = .ok (.invokespecial 57, 3) := by decide +kernel
theorem dX4_crane_110 : decode cX4_crane 110 = .ok (.astore 7, 2) := by decide +kernel
theorem dX4_crane_112 : decode cX4_crane 112 = .ok (.aload_n 0, 1) := by decide +kernel
theorem dX4_crane_113 : decode cX4_crane 113 = .ok (.getfield 10, 3) := by decide +kernel
theorem dX4_crane_116 : decode cX4_crane 116 = .ok (.aload 7, 2) := by decide +kernel
theorem dX4_crane_118 : decode cX4_crane 118 = .ok (.iload 6, 2) := by decide +kernel
theorem dX4_crane_120 : decode cX4_crane 120 = .ok (.invokevirtual 60, 3) := by decide +kernel
theorem dX4_crane_123 : decode cX4_crane 123 = .ok (.aload 7, 2) := by decide +kernel
theorem dX4_crane_125 : decode cX4_crane 125 = .ok (.getfield 64, 3) := by decide +kernel
theorem dX4_crane_128 : decode cX4_crane 128 = .ok (.ireturn, 1) := by decide +kernel
set_option maxRecDepth 20000 in
theorem ggX4_noise_X2_craneAt : GoodIn wsX4_noise wsX2_craneAt := goodIn_r _ [8, 9, 10, 115, 116, 117, 118, 119, 120, 121, 122, 123, 124, 125, 126, 127] (by decide +kernel) (by decide +kernel)
set_option maxRecDepth 20000 in
theorem gX4_noise_X2_craneAt : GoodIn wsX4_noise (wsV RX4 67 RX2 yX2_craneAt wsX2_craneAt) := goodIn_app (goodIn_of _ (by decide +kernel)) ggX4_noise_X2_craneAt
set_option maxRecDepth 20000 in
theorem ggX4_noise_X4_isIn : GoodIn wsX4_noise wsX4_isIn := goodIn_r _ [14] (by decide +kernel) (by decide +kernel)
set_option maxRecDepth 20000 in
theorem gX4_noise_X4_isIn : GoodIn wsX4_noise (va_wsS RX4 38 yX4_isIn wsX4_isIn) := goodIn_app (goodIn_of _ (by decide +kernel)) ggX4_noise_X4_isIn
set_option maxRecDepth 20000 in
theorem ggX4_noise_X4_remember : GoodIn wsX4_noise wsX4_remember := goodIn_r _ [18, 19, 20, 1, 21, 22, 23, 13, 24, 25, 26, 27, 28, 29, 30, 31, 7, 32, 10, 33, 34, 35, 36, 9, 37, 38, 39, 40, 41, 42, 43, 44, 45, 46, 47, 110, 111, 112, 113, 114, 115, 116, 117, 118, 119, 120, 121, 122, 123, 124, 125, 126, 127] (by decide +kernel) (by decide +kernel)
set_option maxRecDepth 20000 in
theorem gX4_noise_X4_remember : GoodIn wsX4_noise (wsV RX4 52 RX4 yX4_remember wsX4_remember) := goodIn_app (goodIn_of _ (by decide +kernel)) ggX4_noise_X4_remember
set_option maxRecDepth 20000 in
theorem ggX4_noise_X4_put : GoodIn wsX4_noise wsX4_put := goodIn_r _ [50] (by decide +kernel) (by decide +kernel)
set_option maxRecDepth 20000 in
theorem gX4_noise_X4_put : GoodIn wsX4_noise (va_wsS RX4 75 yX4_put wsX4_put) := goodIn_app (goodIn_of _ (by decide +kernel)) ggX4_noise_X4_put
set_option maxRecDepth 20000 in
theorem ggX4_noise_X2_withdrawFailing : GoodIn wsX4_noise wsX2_withdrawFailing := goodIn_r _ [54, 47, 55, 56, 57, 58, 59, 60, 7, 61, 46, 62, 63, 64, 65, 39, 66, 13, 67, 68, 69, 70, 71, 38, 72, 73, 74, 75, 76, 77, 78, 79, 80, 41, 42, 81, 82, 83, 84, 85, 86, 40, 87, 88, 89, 90, 91, 92, 93, 94, 95, 96, 97, 98, 99, 100, 101, 102, 103, 37, 104, 105, 106, 107, 108, 45, 109, 49, 50, 115, 116, 117, 118, 119, 120, 121, 122, 123, 124, 125, 126, 127, 135, 136, 137, 138, 139, 140, 141, 128, 129, 130, 131, 132, 133, 134] (by decide +kernel) (by decide +kernel)
set_option maxRecDepth 20000 in
theorem gX4_noise_X2_withdrawFailing : GoodIn wsX4_noise (wsV RX4 79 RX2 yX2_withdrawFailing wsX2_withdrawFailing) := goodIn_app (goodIn_of _ (by decide +kernel)) ggX4_noise_X2_withdrawFailing
theorem dX4_noise_0 : decode cX4_noise 0 = .ok (.aload_n 0, 1) := by decide +kernel
theorem dX4_noise_1 : decode cX4_noise 1 = .ok (.getfield 10, 3) := by decide +kernel
theorem dX4_noise_4 : decode cX4_noise 4 = .ok (.iload_n 1, 1) := by decide +kernel
theorem dX4_noise_5 : decode cX4_noise 5 = .ok (.invokevirtual 67, 3) := by decide +kernel
theorem dX4_noise_8 : decode cX4_noise 8 = .ok (.astore_n 3, 1) := by decide +kernel
theorem dX4_noise_9 : decode cX4_noise 9 = .ok (.aload_n 3, 1) := by decide +kernel
theorem dX4_noise_10 : decode cX4_noise 10 = .ok (.ifnull 13, 3) := by decide +kernel
theorem dX4_noise_13 : decode cX4_noise 13 = .ok (.iload_n 2, 1) := by decide +kernel
theorem dX4_noise_14 : decode cX4_noise 14 = .ok (.iconst 1, 1) := by decide +kernel
theorem dX4_noise_15 : decode cX4_noise 15 = .ok (.bipush 9, 2) := by decide +kernel
theorem dX4_noise_17 : decode cX4_noise 17 = .ok (.invokestatic 38, 3) := by decide +kernel
theorem dX4_noise_20 : decode cX4_noise 20 = .ok (.ifCond .ne 7, 3) := by decide +kernel
theorem dX4_noise_23 : decode cX4_noise 23 = .ok (.sipush (-1001), 3) := by decide +kernel
theorem dX4_noise_26 : decode cX4_noise 26 = .ok (.ireturn, 1) := by decide +kernel
theorem dX4_noise_27 : decode cX4_noise 27 = .ok (.aload_n 0, 1) := by decide +kernel
theorem dX4_noise_28 : decode cX4_noise 28 = .ok (.invokevirtual 52, 3) := by decide +kernel
theorem dX4_noise_31 : decode cX4_noise 31 = .ok (.aload_n 0, 1) := by decide +kernel
theorem dX4_noise_32 : decode cX4_noise 32 = .ok (.getfield 10, 3) := by decide +kernel
theorem dX4_noise_35 : decode cX4_noise 35 = .ok (.getfield 71, 3) := by decide +kernel
theorem dX4_noise_38 : decode cX4_noise 38 = .ok (.aload_n 3, 1) := by decide +kernel
theorem dX4_noise_39 : decode cX4_noise 39 = .ok (.getfield 64, 3) := by decide +kernel
theorem dX4_noise_42 : decode cX4_noise 42 = .ok (.iload_n 2, 1) := by decide +kernel
theorem dX4_noise_43 : decode cX4_noise 43 = .ok (.invokestatic 75, 3) := by decide +kernel
theorem dX4_noise_46 : decode cX4_noise 46 = .ok (.aload_n 0, 1) := by decide +kernel
theorem dX4_noise_47 : decode cX4_noise 47 = .ok (.getfield 10, 3) := by decide +kernel
theorem dX4_noise_50 : decode cX4_noise 50 = .ok (.invokevirtual 79, 3) := by decide +kernel
theorem dX4_noise_53 : decode cX4_noise 53 = .ok (.ireturn, 1) := by decide +kernel
set_option maxRecDepth 20000 in
theorem ggX4_craneOf_X2_craneAt : GoodIn wsX4_craneOf wsX2_craneAt := goodIn_r _ [13, 14, 15, 55, 56, 57, 58, 59, 60, 61, 62, 63, 64, 65, 66, 67] (by decide +kernel) (by decide +kernel)
set_option maxRecDepth 20000 in
theorem gX4_craneOf_X2_craneAt : GoodIn wsX4_craneOf (wsV RX4 67 RX2 yX2_craneAt wsX2_craneAt) := goodIn_app (goodIn_of _ (by decide +kernel)) ggX4_craneOf_X2_craneAt
set_option maxRecDepth 20000 in
theorem ggX4_craneOf_X4_at : GoodIn wsX4_craneOf wsX4_at := goodIn_r _ [19] (by decide +kernel) (by decide +kernel)
set_option maxRecDepth 20000 in
theorem gX4_craneOf_X4_at : GoodIn wsX4_craneOf (va_wsS RX4 98 yX4_at wsX4_at) := goodIn_app (goodIn_of _ (by decide +kernel)) ggX4_craneOf_X4_at
set_option maxRecDepth 20000 in
theorem ggX4_craneOf_X2_validOfCrane : GoodIn wsX4_craneOf wsX2_validOfCrane := goodIn_r _ [23, 24, 25, 26, 27, 12, 28, 29, 30, 31, 32, 33, 34, 35, 36, 55, 56, 57, 58, 59, 60, 61, 62, 63, 64, 65, 66, 67, 68, 69, 70, 71, 72, 73, 74, 48, 49, 50, 51, 52, 53, 54] (by decide +kernel) (by decide +kernel)
set_option maxRecDepth 20000 in
theorem gX4_craneOf_X2_validOfCrane : GoodIn wsX4_craneOf (wsV RX4 102 RX2 yX2_validOfCrane wsX2_validOfCrane) := goodIn_app (goodIn_of _ (by decide +kernel)) ggX4_craneOf_X2_validOfCrane
set_option maxRecDepth 20000 in
theorem ggX4_craneOf_X2_stopWindOf : GoodIn wsX4_craneOf wsX2_stopWindOf := goodIn_r _ [40, 41, 42, 17, 18, 19, 55, 56, 57, 58, 59, 60, 61, 62, 63, 64, 65, 66, 67, 48, 49, 50, 51, 52, 53, 54] (by decide +kernel) (by decide +kernel)
set_option maxRecDepth 20000 in
theorem gX4_craneOf_X2_stopWindOf : GoodIn wsX4_craneOf (wsV RX4 106 RX2 yX2_stopWindOf wsX2_stopWindOf) := goodIn_app (goodIn_of _ (by decide +kernel)) ggX4_craneOf_X2_stopWindOf
theorem dX4_craneOf_0 : decode cX4_craneOf 0 = .ok (.aload_n 0, 1) := by decide +kernel
theorem dX4_craneOf_1 : decode cX4_craneOf 1 = .ok (.getfield 10, 3) := by decide +kernel
theorem dX4_craneOf_4 : decode cX4_craneOf 4 = .ok (.iload_n 1, 1) := by decide +kernel
theorem dX4_craneOf_5 : decode cX4_craneOf 5 = .ok (.invokevirtual 67, 3) := by decide +kernel
theorem dX4_craneOf_8 : decode cX4_craneOf 8 = .ok (.astore_n 3, 1) := by decide +kernel
theorem dX4_craneOf_9 : decode cX4_craneOf 9 = .ok (.aload_n 3, 1) := by decide +kernel
theorem dX4_craneOf_10 : decode cX4_craneOf 10 = .ok (.ifnonnull 7, 3) := by decide +kernel
theorem dX4_craneOf_13 : decode cX4_craneOf 13 = .ok (.sipush (-1001), 3) := by decide +kernel
theorem dX4_craneOf_16 : decode cX4_craneOf 16 = .ok (.ireturn, 1) := by decide +kernel
theorem dX4_craneOf_17 : decode cX4_craneOf 17 = .ok (.iload_n 2, 1) := by decide +kernel
theorem dX4_craneOf_18 : decode cX4_craneOf 18 = .ok (.tableswitch 104 0 7 #[46, 51, 56, 61, 66, 71, 86, 95], 46) := by decide +kernel
theorem dX4_craneOf_64 : decode cX4_craneOf 64 = .ok (.aload_n 3, 1) := by decide +kernel
theorem dX4_craneOf_65 : decode cX4_craneOf 65 = .ok (.getfield 83, 3) := by decide +kernel
theorem dX4_craneOf_68 : decode cX4_craneOf 68 = .ok (.ireturn, 1) := by decide +kernel
theorem dX4_craneOf_69 : decode cX4_craneOf 69 = .ok (.aload_n 3, 1) := by decide +kernel
theorem dX4_craneOf_70 : decode cX4_craneOf 70 = .ok (.getfield 86, 3) := by decide +kernel
theorem dX4_craneOf_73 : decode cX4_craneOf 73 = .ok (.ireturn, 1) := by decide +kernel
theorem dX4_craneOf_74 : decode cX4_craneOf 74 = .ok (.aload_n 3, 1) := by decide +kernel
theorem dX4_craneOf_75 : decode cX4_craneOf 75 = .ok (.getfield 89, 3) := by decide +kernel
theorem dX4_craneOf_78 : decode cX4_craneOf 78 = .ok (.ireturn, 1) := by decide +kernel
theorem dX4_craneOf_79 : decode cX4_craneOf 79 = .ok (.aload_n 3, 1) := by decide +kernel
theorem dX4_craneOf_80 : decode cX4_craneOf 80 = .ok (.getfield 92, 3) := by decide +kernel
theorem dX4_craneOf_83 : decode cX4_craneOf 83 = .ok (.ireturn, 1) := by decide +kernel
theorem dX4_craneOf_84 : decode cX4_craneOf 84 = .ok (.aload_n 3, 1) := by decide +kernel
theorem dX4_craneOf_85 : decode cX4_craneOf 85 = .ok (.getfield 95, 3) := by decide +kernel
theorem dX4_craneOf_88 : decode cX4_craneOf 88 = .ok (.ireturn, 1) := by decide +kernel
theorem dX4_craneOf_89 : decode cX4_craneOf 89 = .ok (.aload_n 0, 1) := by decide +kernel
theorem dX4_craneOf_90 : decode cX4_craneOf 90 = .ok (.getfield 10, 3) := by decide +kernel
theorem dX4_craneOf_93 : decode cX4_craneOf 93 = .ok (.getfield 71, 3) := by decide +kernel
theorem dX4_craneOf_96 : decode cX4_craneOf 96 = .ok (.aload_n 3, 1) := by decide +kernel
theorem dX4_craneOf_97 : decode cX4_craneOf 97 = .ok (.getfield 64, 3) := by decide +kernel
theorem dX4_craneOf_100 : decode cX4_craneOf 100 = .ok (.invokestatic 98, 3) := by decide +kernel
theorem dX4_craneOf_103 : decode cX4_craneOf 103 = .ok (.ireturn, 1) := by decide +kernel
theorem dX4_craneOf_104 : decode cX4_craneOf 104 = .ok (.aload_n 0, 1) := by decide +kernel
theorem dX4_craneOf_105 : decode cX4_craneOf 105 = .ok (.getfield 10, 3) := by decide +kernel
theorem dX4_craneOf_108 : decode cX4_craneOf 108 = .ok (.aload_n 3, 1) := by decide +kernel
theorem dX4_craneOf_109 : decode cX4_craneOf 109 = .ok (.invokevirtual 102, 3) := by decide +kernel
theorem dX4_craneOf_112 : decode cX4_craneOf 112 = .ok (.ireturn, 1) := by decide +kernel
theorem dX4_craneOf_113 : decode cX4_craneOf 113 = .ok (.aload_n 0, 1) := by decide +kernel
theorem dX4_craneOf_114 : decode cX4_craneOf 114 = .ok (.getfield 10, 3) := by decide +kernel
theorem dX4_craneOf_117 : decode cX4_craneOf 117 = .ok (.aload_n 3, 1) := by decide +kernel
theorem dX4_craneOf_118 : decode cX4_craneOf 118 = .ok (.invokevirtual 106, 3) := by decide +kernel
theorem dX4_craneOf_121 : decode cX4_craneOf 121 = .ok (.ireturn, 1) := by decide +kernel
theorem dX4_craneOf_122 : decode cX4_craneOf 122 = .ok (.sipush (-1001), 3) := by decide +kernel
theorem dX4_craneOf_125 : decode cX4_craneOf 125 = .ok (.ireturn, 1) := by decide +kernel
set_option maxRecDepth 20000 in
theorem ggX4_set_X4_isIn : GoodIn wsX4_set wsX4_isIn := goodIn_r _ [8] (by decide +kernel) (by decide +kernel)
set_option maxRecDepth 20000 in
theorem gX4_set_X4_isIn : GoodIn wsX4_set (va_wsS RX4 38 yX4_isIn wsX4_isIn) := goodIn_app (goodIn_of _ (by decide +kernel)) ggX4_set_X4_isIn
set_option maxRecDepth 20000 in
theorem ggX4_set_X4_at : GoodIn wsX4_set wsX4_at := goodIn_r _ [11] (by decide +kernel) (by decide +kernel)
set_option maxRecDepth 20000 in
theorem gX4_set_X4_at : GoodIn wsX4_set (va_wsS RX4 98 yX4_at wsX4_at) := goodIn_app (goodIn_of _ (by decide +kernel)) ggX4_set_X4_at
set_option maxRecDepth 20000 in
theorem ggX4_set_X4_remember : GoodIn wsX4_set wsX4_remember := goodIn_r _ [15, 16, 17, 3, 18, 19, 20, 7, 21, 22, 23, 24, 25, 26, 27, 28, 29, 30, 31, 32, 33, 34, 35, 36, 37, 38, 39, 40, 41, 42, 43, 44, 45, 46, 47, 108, 109, 110, 111, 112, 113, 114, 115, 116, 117, 118, 119, 120, 121, 122, 123, 124, 125] (by decide +kernel) (by decide +kernel)
set_option maxRecDepth 20000 in
theorem gX4_set_X4_remember : GoodIn wsX4_set (wsV RX4 52 RX4 yX4_remember wsX4_remember) := goodIn_app (goodIn_of _ (by decide +kernel)) ggX4_set_X4_remember
set_option maxRecDepth 20000 in
theorem ggX4_set_X4_put : GoodIn wsX4_set wsX4_put := goodIn_r _ [50] (by decide +kernel) (by decide +kernel)
set_option maxRecDepth 20000 in
theorem gX4_set_X4_put : GoodIn wsX4_set (va_wsS RX4 75 yX4_put wsX4_put) := goodIn_app (goodIn_of _ (by decide +kernel)) ggX4_set_X4_put
set_option maxRecDepth 20000 in
theorem ggX4_set_X2_withdrawFailing : GoodIn wsX4_set wsX2_withdrawFailing := goodIn_r _ [54, 47, 55, 56, 57, 58, 59, 60, 29, 61, 46, 62, 63, 64, 65, 39, 10, 7, 11, 66, 67, 68, 69, 38, 70, 71, 72, 73, 74, 75, 76, 77, 78, 41, 42, 79, 80, 81, 82, 83, 84, 40, 85, 86, 87, 88, 89, 90, 91, 92, 93, 94, 95, 96, 97, 98, 99, 100, 101, 37, 102, 103, 104, 105, 106, 45, 107, 49, 50, 113, 114, 115, 116, 117, 118, 119, 120, 121, 122, 123, 124, 125, 126, 127, 128, 129, 130, 131, 132, 133, 134, 135, 136, 137, 138, 139] (by decide +kernel) (by decide +kernel)
set_option maxRecDepth 20000 in
theorem gX4_set_X2_withdrawFailing : GoodIn wsX4_set (wsV RX4 79 RX2 yX2_withdrawFailing wsX2_withdrawFailing) := goodIn_app (goodIn_of _ (by decide +kernel)) ggX4_set_X2_withdrawFailing
theorem dX4_set_0 : decode cX4_set 0 = .ok (.iload_n 1, 1) := by decide +kernel
theorem dX4_set_1 : decode cX4_set 1 = .ok (.iconst 0, 1) := by decide +kernel
theorem dX4_set_2 : decode cX4_set 2 = .ok (.iconst 2, 1) := by decide +kernel
theorem dX4_set_3 : decode cX4_set 3 = .ok (.invokestatic 38, 3) := by decide +kernel
theorem dX4_set_6 : decode cX4_set 6 = .ok (.ifCond .eq 24, 3) := by decide +kernel
theorem dX4_set_9 : decode cX4_set 9 = .ok (.iload_n 2, 1) := by decide +kernel
theorem dX4_set_10 : decode cX4_set 10 = .ok (.getstatic 109, 3) := by decide +kernel
theorem dX4_set_13 : decode cX4_set 13 = .ok (.iload_n 1, 1) := by decide +kernel
theorem dX4_set_14 : decode cX4_set 14 = .ok (.invokestatic 98, 3) := by decide +kernel
theorem dX4_set_17 : decode cX4_set 17 = .ok (.getstatic 112, 3) := by decide +kernel
theorem dX4_set_20 : decode cX4_set 20 = .ok (.iload_n 1, 1) := by decide +kernel
theorem dX4_set_21 : decode cX4_set 21 = .ok (.invokestatic 98, 3) := by decide +kernel
theorem dX4_set_24 : decode cX4_set 24 = .ok (.invokestatic 38, 3) := by decide +kernel
theorem dX4_set_27 : decode cX4_set 27 = .ok (.ifCond .ne 7, 3) := by decide +kernel
theorem dX4_set_30 : decode cX4_set 30 = .ok (.sipush (-1001), 3) := by decide +kernel
theorem dX4_set_33 : decode cX4_set 33 = .ok (.ireturn, 1) := by decide +kernel
theorem dX4_set_34 : decode cX4_set 34 = .ok (.aload_n 0, 1) := by decide +kernel
theorem dX4_set_35 : decode cX4_set 35 = .ok (.invokevirtual 52, 3) := by decide +kernel
theorem dX4_set_38 : decode cX4_set 38 = .ok (.aload_n 0, 1) := by decide +kernel
theorem dX4_set_39 : decode cX4_set 39 = .ok (.getfield 10, 3) := by decide +kernel
theorem dX4_set_42 : decode cX4_set 42 = .ok (.getfield 115, 3) := by decide +kernel
theorem dX4_set_45 : decode cX4_set 45 = .ok (.iload_n 1, 1) := by decide +kernel
theorem dX4_set_46 : decode cX4_set 46 = .ok (.iload_n 2, 1) := by decide +kernel
theorem dX4_set_47 : decode cX4_set 47 = .ok (.invokestatic 75, 3) := by decide +kernel
theorem dX4_set_50 : decode cX4_set 50 = .ok (.aload_n 0, 1) := by decide +kernel
theorem dX4_set_51 : decode cX4_set 51 = .ok (.getfield 10, 3) := by decide +kernel
theorem dX4_set_54 : decode cX4_set 54 = .ok (.invokevirtual 79, 3) := by decide +kernel
theorem dX4_set_57 : decode cX4_set 57 = .ok (.ireturn, 1) := by decide +kernel
set_option maxRecDepth 20000 in
theorem ggX4_wind_X4_isNight : GoodIn wsX4_wind wsX4_isNight := goodIn_r _ [6, 7, 8, 5, 9] (by decide +kernel) (by decide +kernel)
set_option maxRecDepth 20000 in
theorem gX4_wind_X4_isNight : GoodIn wsX4_wind (va_wsS RX4 118 yX4_isNight wsX4_isNight) := goodIn_app (goodIn_of _ (by decide +kernel)) ggX4_wind_X4_isNight
set_option maxRecDepth 20000 in
theorem ggX4_wind_X4_isIn : GoodIn wsX4_wind wsX4_isIn := goodIn_r _ [9] (by decide +kernel) (by decide +kernel)
set_option maxRecDepth 20000 in
theorem gX4_wind_X4_isIn : GoodIn wsX4_wind (va_wsS RX4 38 yX4_isIn wsX4_isIn) := goodIn_app (goodIn_of _ (by decide +kernel)) ggX4_wind_X4_isIn
set_option maxRecDepth 20000 in
theorem ggX4_wind_X4_remember : GoodIn wsX4_wind wsX4_remember := goodIn_r _ [13, 14, 15, 1, 16, 17, 18, 5, 19, 20, 21, 22, 23, 24, 25, 26, 27, 28, 29, 30, 31, 32, 33, 34, 35, 36, 37, 38, 39, 40, 41, 42, 43, 44, 45, 108, 109, 110, 111, 112, 113, 114, 115, 116, 117, 118, 119, 120, 121, 122, 123, 124, 125] (by decide +kernel) (by decide +kernel)
set_option maxRecDepth 20000 in
theorem gX4_wind_X4_remember : GoodIn wsX4_wind (wsV RX4 52 RX4 yX4_remember wsX4_remember) := goodIn_app (goodIn_of _ (by decide +kernel)) ggX4_wind_X4_remember
set_option maxRecDepth 20000 in
theorem ggX4_wind_X4_put : GoodIn wsX4_wind wsX4_put := goodIn_r _ [48] (by decide +kernel) (by decide +kernel)
set_option maxRecDepth 20000 in
theorem gX4_wind_X4_put : GoodIn wsX4_wind (va_wsS RX4 75 yX4_put wsX4_put) := goodIn_app (goodIn_of _ (by decide +kernel)) ggX4_wind_X4_put
set_option maxRecDepth 20000 in
theorem ggX4_wind_X2_withdrawFailing : GoodIn wsX4_wind wsX2_withdrawFailing := goodIn_r _ [52, 45, 53, 54, 55, 56, 57, 58, 27, 59, 44, 60, 61, 62, 63, 37, 64, 5, 65, 66, 67, 68, 69, 36, 70, 71, 72, 73, 74, 75, 76, 77, 78, 39, 40, 79, 80, 81, 82, 83, 84, 38, 85, 86, 87, 88, 89, 90, 91, 92, 93, 94, 95, 96, 97, 98, 99, 100, 101, 35, 102, 103, 104, 105, 106, 43, 107, 47, 48, 113, 114, 115, 116, 117, 118, 119, 120, 121, 122, 123, 124, 125, 126, 127, 128, 129, 130, 131, 132, 133, 134, 135, 136, 137, 138, 139] (by decide +kernel) (by decide +kernel)
set_option maxRecDepth 20000 in
theorem gX4_wind_X2_withdrawFailing : GoodIn wsX4_wind (wsV RX4 79 RX2 yX2_withdrawFailing wsX2_withdrawFailing) := goodIn_app (goodIn_of _ (by decide +kernel)) ggX4_wind_X2_withdrawFailing
theorem dX4_wind_0 : decode cX4_wind 0 = .ok (.iload_n 1, 1) := by decide +kernel
theorem dX4_wind_1 : decode cX4_wind 1 = .ok (.invokestatic 118, 3) := by decide +kernel
theorem dX4_wind_4 : decode cX4_wind 4 = .ok (.ifCond .eq 13, 3) := by decide +kernel
theorem dX4_wind_7 : decode cX4_wind 7 = .ok (.iload_n 2, 1) := by decide +kernel
theorem dX4_wind_8 : decode cX4_wind 8 = .ok (.iconst 0, 1) := by decide +kernel
theorem dX4_wind_9 : decode cX4_wind 9 = .ok (.bipush 99, 2) := by decide +kernel
theorem dX4_wind_11 : decode cX4_wind 11 = .ok (.invokestatic 38, 3) := by decide +kernel
theorem dX4_wind_14 : decode cX4_wind 14 = .ok (.ifCond .ne 7, 3) := by decide +kernel
theorem dX4_wind_17 : decode cX4_wind 17 = .ok (.sipush (-1001), 3) := by decide +kernel
theorem dX4_wind_20 : decode cX4_wind 20 = .ok (.ireturn, 1) := by decide +kernel
theorem dX4_wind_21 : decode cX4_wind 21 = .ok (.aload_n 0, 1) := by decide +kernel
theorem dX4_wind_22 : decode cX4_wind 22 = .ok (.invokevirtual 52, 3) := by decide +kernel
theorem dX4_wind_25 : decode cX4_wind 25 = .ok (.aload_n 0, 1) := by decide +kernel
theorem dX4_wind_26 : decode cX4_wind 26 = .ok (.getfield 10, 3) := by decide +kernel
theorem dX4_wind_29 : decode cX4_wind 29 = .ok (.getfield 121, 3) := by decide +kernel
theorem dX4_wind_32 : decode cX4_wind 32 = .ok (.iload_n 1, 1) := by decide +kernel
theorem dX4_wind_33 : decode cX4_wind 33 = .ok (.iload_n 2, 1) := by decide +kernel
theorem dX4_wind_34 : decode cX4_wind 34 = .ok (.invokestatic 75, 3) := by decide +kernel
theorem dX4_wind_37 : decode cX4_wind 37 = .ok (.aload_n 0, 1) := by decide +kernel
theorem dX4_wind_38 : decode cX4_wind 38 = .ok (.getfield 10, 3) := by decide +kernel
theorem dX4_wind_41 : decode cX4_wind 41 = .ok (.invokevirtual 79, 3) := by decide +kernel
theorem dX4_wind_44 : decode cX4_wind 44 = .ok (.ireturn, 1) := by decide +kernel
set_option maxRecDepth 20000 in
theorem ggX4_allow_X4_isStreet : GoodIn wsX4_allow wsX4_isStreet := goodIn_r _ [6, 7, 8, 5, 9] (by decide +kernel) (by decide +kernel)
set_option maxRecDepth 20000 in
theorem gX4_allow_X4_isStreet : GoodIn wsX4_allow (va_wsS RX4 42 yX4_isStreet wsX4_isStreet) := goodIn_app (goodIn_of _ (by decide +kernel)) ggX4_allow_X4_isStreet
set_option maxRecDepth 20000 in
theorem ggX4_allow_X4_isNight : GoodIn wsX4_allow wsX4_isNight := goodIn_r _ [12, 7, 8, 5, 9] (by decide +kernel) (by decide +kernel)
set_option maxRecDepth 20000 in
theorem gX4_allow_X4_isNight : GoodIn wsX4_allow (va_wsS RX4 118 yX4_isNight wsX4_isNight) := goodIn_app (goodIn_of _ (by decide +kernel)) ggX4_allow_X4_isNight
set_option maxRecDepth 20000 in
theorem ggX4_allow_X4_isIn : GoodIn wsX4_allow wsX4_isIn := goodIn_r _ [9] (by decide +kernel) (by decide +kernel)
set_option maxRecDepth 20000 in
theorem gX4_allow_X4_isIn : GoodIn wsX4_allow (va_wsS RX4 38 yX4_isIn wsX4_isIn) := goodIn_app (goodIn_of _ (by decide +kernel)) ggX4_allow_X4_isIn
set_option maxRecDepth 20000 in
theorem ggX4_allow_X4_remember : GoodIn wsX4_allow wsX4_remember := goodIn_r _ [16, 17, 18, 1, 19, 20, 21, 5, 22, 23, 24, 25, 26, 27, 28, 29, 30, 31, 32, 33, 34, 35, 36, 37, 38, 39, 40, 41, 42, 43, 44, 45, 46, 47, 48, 112, 113, 114, 115, 116, 117, 118, 119, 120, 121, 122, 123, 124, 125, 126, 127, 128, 129] (by decide +kernel) (by decide +kernel)
set_option maxRecDepth 20000 in
theorem gX4_allow_X4_remember : GoodIn wsX4_allow (wsV RX4 52 RX4 yX4_remember wsX4_remember) := goodIn_app (goodIn_of _ (by decide +kernel)) ggX4_allow_X4_remember
set_option maxRecDepth 20000 in
theorem ggX4_allow_X4_streetNight : GoodIn wsX4_allow wsX4_streetNight := goodIn_r _ [51] (by decide +kernel) (by decide +kernel)
set_option maxRecDepth 20000 in
theorem gX4_allow_X4_streetNight : GoodIn wsX4_allow (va_wsS RX4 127 yX4_streetNight wsX4_streetNight) := goodIn_app (goodIn_of _ (by decide +kernel)) ggX4_allow_X4_streetNight
set_option maxRecDepth 20000 in
theorem ggX4_allow_X4_put : GoodIn wsX4_allow wsX4_put := goodIn_r _ [54] (by decide +kernel) (by decide +kernel)
set_option maxRecDepth 20000 in
theorem gX4_allow_X4_put : GoodIn wsX4_allow (va_wsS RX4 75 yX4_put wsX4_put) := goodIn_app (goodIn_of _ (by decide +kernel)) ggX4_allow_X4_put
set_option maxRecDepth 20000 in
theorem ggX4_allow_X2_withdrawFailing : GoodIn wsX4_allow wsX2_withdrawFailing := goodIn_r _ [58, 48, 59, 60, 61, 62, 63, 64, 30, 65, 47, 66, 67, 68, 69, 40, 70, 5, 71, 72, 73, 74, 75, 39, 76, 77, 78, 79, 80, 81, 82, 83, 84, 42, 43, 50, 51, 85, 86, 87, 88, 41, 89, 90, 91, 92, 93, 94, 95, 96, 97, 98, 99, 100, 101, 102, 103, 104, 105, 38, 106, 107, 108, 109, 110, 46, 111, 53, 54, 117, 118, 119, 120, 121, 122, 123, 124, 125, 126, 127, 128, 129, 130, 131, 132, 133, 134, 135, 136, 137, 138, 139, 140, 141, 142, 143] (by decide +kernel) (by decide +kernel)
set_option maxRecDepth 20000 in
theorem gX4_allow_X2_withdrawFailing : GoodIn wsX4_allow (wsV RX4 79 RX2 yX2_withdrawFailing wsX2_withdrawFailing) := goodIn_app (goodIn_of _ (by decide +kernel)) ggX4_allow_X2_withdrawFailing
theorem dX4_allow_0 : decode cX4_allow 0 = .ok (.iload_n 1, 1) := by decide +kernel
theorem dX4_allow_1 : decode cX4_allow 1 = .ok (.invokestatic 42, 3) := by decide +kernel
theorem dX4_allow_4 : decode cX4_allow 4 = .ok (.ifCond .eq 21, 3) := by decide +kernel
theorem dX4_allow_7 : decode cX4_allow 7 = .ok (.iload_n 2, 1) := by decide +kernel
theorem dX4_allow_8 : decode cX4_allow 8 = .ok (.invokestatic 118, 3) := by decide +kernel
theorem dX4_allow_11 : decode cX4_allow 11 = .ok (.ifCond .eq 14, 3) := by decide +kernel
theorem dX4_allow_14 : decode cX4_allow 14 = .ok (.iload_n 3, 1) := by decide +kernel
theorem dX4_allow_15 : decode cX4_allow 15 = .ok (.iconst 0, 1) := by decide +kernel
theorem dX4_allow_16 : decode cX4_allow 16 = .ok (.sipush 200, 3) := by decide +kernel
theorem dX4_allow_19 : decode cX4_allow 19 = .ok (.invokestatic 38, 3) := by decide +kernel
theorem dX4_allow_22 : decode cX4_allow 22 = .ok (.ifCond .ne 7, 3) := by decide +kernel
theorem dX4_allow_25 : decode cX4_allow 25 = .ok (.sipush (-1001), 3) := by decide +kernel
theorem dX4_allow_28 : decode cX4_allow 28 = .ok (.ireturn, 1) := by decide +kernel
theorem dX4_allow_29 : decode cX4_allow 29 = .ok (.aload_n 0, 1) := by decide +kernel
theorem dX4_allow_30 : decode cX4_allow 30 = .ok (.invokevirtual 52, 3) := by decide +kernel
theorem dX4_allow_33 : decode cX4_allow 33 = .ok (.aload_n 0, 1) := by decide +kernel
theorem dX4_allow_34 : decode cX4_allow 34 = .ok (.getfield 10, 3) := by decide +kernel
theorem dX4_allow_37 : decode cX4_allow 37 = .ok (.getfield 124, 3) := by decide +kernel
theorem dX4_allow_40 : decode cX4_allow 40 = .ok (.iload_n 1, 1) := by decide +kernel
theorem dX4_allow_41 : decode cX4_allow 41 = .ok (.iload_n 2, 1) := by decide +kernel
theorem dX4_allow_42 : decode cX4_allow 42 = .ok (.invokestatic 127, 3) := by decide +kernel
theorem dX4_allow_45 : decode cX4_allow 45 = .ok (.iload_n 3, 1) := by decide +kernel
theorem dX4_allow_46 : decode cX4_allow 46 = .ok (.invokestatic 75, 3) := by decide +kernel
theorem dX4_allow_49 : decode cX4_allow 49 = .ok (.aload_n 0, 1) := by decide +kernel
theorem dX4_allow_50 : decode cX4_allow 50 = .ok (.getfield 10, 3) := by decide +kernel
theorem dX4_allow_53 : decode cX4_allow 53 = .ok (.invokevirtual 79, 3) := by decide +kernel
theorem dX4_allow_56 : decode cX4_allow 56 = .ok (.ireturn, 1) := by decide +kernel
set_option maxRecDepth 20000 in
theorem ggX4_transfer_X4_isStreet : GoodIn wsX4_transfer wsX4_isStreet := goodIn_r _ [7, 8, 9, 6, 10] (by decide +kernel) (by decide +kernel)
set_option maxRecDepth 20000 in
theorem gX4_transfer_X4_isStreet : GoodIn wsX4_transfer (va_wsS RX4 42 yX4_isStreet wsX4_isStreet) := goodIn_app (goodIn_of _ (by decide +kernel)) ggX4_transfer_X4_isStreet
set_option maxRecDepth 20000 in
theorem ggX4_transfer_X4_isNight : GoodIn wsX4_transfer wsX4_isNight := goodIn_r _ [13, 8, 9, 6, 10] (by decide +kernel) (by decide +kernel)
set_option maxRecDepth 20000 in
theorem gX4_transfer_X4_isNight : GoodIn wsX4_transfer (va_wsS RX4 118 yX4_isNight wsX4_isNight) := goodIn_app (goodIn_of _ (by decide +kernel)) ggX4_transfer_X4_isNight
set_option maxRecDepth 20000 in
theorem ggX4_transfer_X4_isIn : GoodIn wsX4_transfer wsX4_isIn := goodIn_r _ [10] (by decide +kernel) (by decide +kernel)
set_option maxRecDepth 20000 in
theorem gX4_transfer_X4_isIn : GoodIn wsX4_transfer (va_wsS RX4 38 yX4_isIn wsX4_isIn) := goodIn_app (goodIn_of _ (by decide +kernel)) ggX4_transfer_X4_isIn
set_option maxRecDepth 20000 in
theorem ggX4_transfer_X2_freeOf : GoodIn wsX4_transfer wsX2_freeOf := goodIn_r _ [18, 19, 20, 21, 17, 22, 23, 24, 25, 6, 26, 27, 28, 29, 30, 31, 32, 33, 34, 35, 36, 37, 38, 39, 40, 41, 42, 43, 44, 45, 46, 47, 48, 49, 50, 51, 52, 53, 54, 55, 56, 57, 58, 59, 60, 99, 100, 101, 102, 103, 104, 105, 106, 107, 108, 109, 110, 111, 112, 113, 114, 115, 116, 117, 118, 119, 120, 121, 122, 123, 124, 125] (by decide +kernel) (by decide +kernel)
set_option maxRecDepth 20000 in
theorem gX4_transfer_X2_freeOf : GoodIn wsX4_transfer (wsV RX4 131 RX2 yX2_freeOf wsX2_freeOf) := goodIn_app (goodIn_of _ (by decide +kernel)) ggX4_transfer_X2_freeOf
set_option maxRecDepth 20000 in
theorem ggX4_transfer_X4_remember : GoodIn wsX4_transfer wsX4_remember := goodIn_r _ [64, 65, 66, 1, 67, 68, 69, 6, 70, 71, 72, 73, 74, 75, 76, 77, 17, 78, 79, 80, 81, 82, 83, 84, 59, 32, 85, 31, 23, 24, 86, 87, 88, 46, 39, 94, 95, 96, 97, 98, 99, 100, 101, 102, 103, 104, 105, 106, 107, 108, 109, 110, 111] (by decide +kernel) (by decide +kernel)
set_option maxRecDepth 20000 in
theorem gX4_transfer_X4_remember : GoodIn wsX4_transfer (wsV RX4 52 RX4 yX4_remember wsX4_remember) := goodIn_app (goodIn_of _ (by decide +kernel)) ggX4_transfer_X4_remember
set_option maxRecDepth 20000 in
theorem ggX4_transfer_X4_streetNight : GoodIn wsX4_transfer wsX4_streetNight := goodIn_r _ [26] (by decide +kernel) (by decide +kernel)
set_option maxRecDepth 20000 in
theorem gX4_transfer_X4_streetNight : GoodIn wsX4_transfer (va_wsS RX4 127 yX4_streetNight wsX4_streetNight) := goodIn_app (goodIn_of _ (by decide +kernel)) ggX4_transfer_X4_streetNight
set_option maxRecDepth 20000 in
theorem ggX4_transfer_X4_at : GoodIn wsX4_transfer wsX4_at := goodIn_r _ [34] (by decide +kernel) (by decide +kernel)
set_option maxRecDepth 20000 in
theorem gX4_transfer_X4_at : GoodIn wsX4_transfer (va_wsS RX4 98 yX4_at wsX4_at) := goodIn_app (goodIn_of _ (by decide +kernel)) ggX4_transfer_X4_at
set_option maxRecDepth 20000 in
theorem ggX4_transfer_X4_put : GoodIn wsX4_transfer wsX4_put := goodIn_r _ [93] (by decide +kernel) (by decide +kernel)
set_option maxRecDepth 20000 in
theorem gX4_transfer_X4_put : GoodIn wsX4_transfer (va_wsS RX4 75 yX4_put wsX4_put) := goodIn_app (goodIn_of _ (by decide +kernel)) ggX4_transfer_X4_put
theorem dX4_transfer_0 : decode cX4_transfer 0 = .ok (.iload_n 1, 1) := by decide +kernel
theorem dX4_transfer_1 : decode cX4_transfer 1 = .ok (.invokestatic 42, 3) := by decide +kernel
theorem dX4_transfer_4 : decode cX4_transfer 4 = .ok (.ifCond .eq 34, 3) := by decide +kernel
theorem dX4_transfer_7 : decode cX4_transfer 7 = .ok (.iload_n 2, 1) := by decide +kernel
theorem dX4_transfer_8 : decode cX4_transfer 8 = .ok (.invokestatic 42, 3) := by decide +kernel
theorem dX4_transfer_11 : decode cX4_transfer 11 = .ok (.ifCond .eq 27, 3) := by decide +kernel
theorem dX4_transfer_14 : decode cX4_transfer 14 = .ok (.iload_n 1, 1) := by decide +kernel
theorem dX4_transfer_15 : decode cX4_transfer 15 = .ok (.iload_n 2, 1) := by decide +kernel
theorem dX4_transfer_16 : decode cX4_transfer 16 = .ok (.if_icmp .eq 22, 3) := by decide +kernel
theorem dX4_transfer_19 : decode cX4_transfer 19 = .ok (.iload_n 3, 1) := by decide +kernel
theorem dX4_transfer_20 : decode cX4_transfer 20 = .ok (.invokestatic 118, 3) := by decide +kernel
theorem dX4_transfer_23 : decode cX4_transfer 23 = .ok (.ifCond .eq 15, 3) := by decide +kernel
theorem dX4_transfer_26 : decode cX4_transfer 26 = .ok (.iload 4, 2) := by decide +kernel
theorem dX4_transfer_28 : decode cX4_transfer 28 = .ok (.iconst 1, 1) := by decide +kernel
theorem dX4_transfer_29 : decode cX4_transfer 29 = .ok (.sipush 200, 3) := by decide +kernel
theorem dX4_transfer_32 : decode cX4_transfer 32 = .ok (.invokestatic 38, 3) := by decide +kernel
theorem dX4_transfer_35 : decode cX4_transfer 35 = .ok (.ifCond .ne 7, 3) := by decide +kernel
theorem dX4_transfer_38 : decode cX4_transfer 38 = .ok (.sipush (-1001), 3) := by decide +kernel
theorem dX4_transfer_41 : decode cX4_transfer 41 = .ok (.ireturn, 1) := by decide +kernel
theorem dX4_transfer_42 : decode cX4_transfer 42 = .ok (.aload_n 0, 1) := by decide +kernel
theorem dX4_transfer_43 : decode cX4_transfer 43 = .ok (.getfield 10, 3) := by decide +kernel
theorem dX4_transfer_46 : decode cX4_transfer 46 = .ok (.iload_n 1, 1) := by decide +kernel
theorem dX4_transfer_47 : decode cX4_transfer 47 = .ok (.iload_n 3, 1) := by decide +kernel
theorem dX4_transfer_48 : decode cX4_transfer 48 = .ok (.invokevirtual 131, 3) := by decide +kernel
theorem dX4_transfer_51 : decode cX4_transfer 51 = .ok (.iload 4, 2) := by decide +kernel
theorem dX4_transfer_53 : decode cX4_transfer 53 = .ok (.isub, 1) := by decide +kernel
theorem dX4_transfer_54 : decode cX4_transfer 54 = .ok (.istore 5, 2) := by decide +kernel
theorem dX4_transfer_56 : decode cX4_transfer 56 = .ok (.iload 5, 2) := by decide +kernel
theorem dX4_transfer_58 : decode cX4_transfer 58 = .ok (.ifCond .ge 7, 3) := by decide +kernel
theorem dX4_transfer_61 : decode cX4_transfer 61 = .ok (.sipush (-1002), 3) := by decide +kernel
theorem dX4_transfer_64 : decode cX4_transfer 64 = .ok (.ireturn, 1) := by decide +kernel
theorem dX4_transfer_65 : decode cX4_transfer 65 = .ok (.aload_n 0, 1) := by decide +kernel
theorem dX4_transfer_66 : decode cX4_transfer 66 = .ok (.invokevirtual 52, 3) := by decide +kernel
theorem dX4_transfer_69 : decode cX4_transfer 69 = .ok (.iload_n 1, 1) := by decide +kernel
theorem dX4_transfer_70 : decode cX4_transfer 70 = .ok (.iload_n 3, 1) := by decide +kernel
theorem dX4_transfer_71 : decode cX4_transfer 71 = .ok (.invokestatic 127, 3) := by decide +kernel
theorem dX4_transfer_74 : decode cX4_transfer 74 = .ok (.istore 6, 2) := by decide +kernel
theorem dX4_transfer_76 : decode cX4_transfer 76 = .ok (.iload_n 2, 1) := by decide +kernel
theorem dX4_transfer_77 : decode cX4_transfer 77 = .ok (.iload_n 3, 1) := by decide +kernel
theorem dX4_transfer_78 : decode cX4_transfer 78 = .ok (.invokestatic 127, 3) := by decide +kernel
theorem dX4_transfer_81 : decode cX4_transfer 81 = .ok (.istore 7, 2) := by decide +kernel
theorem dX4_transfer_83 : decode cX4_transfer 83 = .ok (.aload_n 0, 1) := by decide +kernel
theorem dX4_transfer_84 : decode cX4_transfer 84 = .ok (.getfield 10, 3) := by decide +kernel
theorem dX4_transfer_87 : decode cX4_transfer 87 = .ok (.getfield 134, 3) := by decide +kernel
theorem dX4_transfer_90 : decode cX4_transfer 90 = .ok (.iload 6, 2) := by decide +kernel
theorem dX4_transfer_92 : decode cX4_transfer 92 = .ok (.aload_n 0, 1) := by decide +kernel
theorem dX4_transfer_93 : decode cX4_transfer 93 = .ok (.getfield 10, 3) := by decide +kernel
theorem dX4_transfer_96 : decode cX4_transfer 96 = .ok (.getfield 134, 3) := by decide +kernel
theorem dX4_transfer_99 : decode cX4_transfer 99 = .ok (.iload 6, 2) := by decide +kernel
theorem dX4_transfer_101 : decode cX4_transfer 101 = .ok (.invokestatic 98, 3) := by decide +kernel
theorem dX4_transfer_104 : decode cX4_transfer 104 = .ok (.iload 4, 2) := by decide +kernel
theorem dX4_transfer_106 : decode cX4_transfer 106 = .ok (.iadd, 1) := by decide +kernel
theorem dX4_transfer_107 : decode cX4_transfer 107 = .ok (.invokestatic 75, 3) := by decide +kernel
theorem dX4_transfer_110 : decode cX4_transfer 110 = .ok (.aload_n 0, 1) := by decide +kernel
theorem dX4_transfer_111 : decode cX4_transfer 111 = .ok (.getfield 10, 3) := by decide +kernel
theorem dX4_transfer_114 : decode cX4_transfer 114 = .ok (.getfield 137, 3) := by decide +kernel
theorem dX4_transfer_117 : decode cX4_transfer 117 = .ok (.iload 7, 2) := by decide +kernel
theorem dX4_transfer_119 : decode cX4_transfer 119 = .ok (.aload_n 0, 1) := by decide +kernel
theorem dX4_transfer_120 : decode cX4_transfer 120 = .ok (.getfield 10, 3) := by decide +kernel
theorem dX4_transfer_123 : decode cX4_transfer 123 = .ok (.getfield 137, 3) := by decide +kernel
theorem dX4_transfer_126 : decode cX4_transfer 126 = .ok (.iload 7, 2) := by decide +kernel
theorem dX4_transfer_128 : decode cX4_transfer 128 = .ok (.invokestatic 98, 3) := by decide +kernel
theorem dX4_transfer_131 : decode cX4_transfer 131 = .ok (.iload 4, 2) := by decide +kernel
theorem dX4_transfer_133 : decode cX4_transfer 133 = .ok (.iadd, 1) := by decide +kernel
theorem dX4_transfer_134 : decode cX4_transfer 134 = .ok (.invokestatic 75, 3) := by decide +kernel
theorem dX4_transfer_137 : decode cX4_transfer 137 = .ok (.iload 5, 2) := by decide +kernel
theorem dX4_transfer_139 : decode cX4_transfer 139 = .ok (.ireturn, 1) := by decide +kernel
set_option maxRecDepth 20000 in
theorem ggX4_street_X4_isStreet : GoodIn wsX4_street wsX4_isStreet := goodIn_r _ [8, 9, 10, 7, 11] (by decide +kernel) (by decide +kernel)
set_option maxRecDepth 20000 in
theorem gX4_street_X4_isStreet : GoodIn wsX4_street (va_wsS RX4 42 yX4_isStreet wsX4_isStreet) := goodIn_app (goodIn_of _ (by decide +kernel)) ggX4_street_X4_isStreet
set_option maxRecDepth 20000 in
theorem ggX4_street_X4_isNight : GoodIn wsX4_street wsX4_isNight := goodIn_r _ [14, 9, 10, 7, 11] (by decide +kernel) (by decide +kernel)
set_option maxRecDepth 20000 in
theorem gX4_street_X4_isNight : GoodIn wsX4_street (va_wsS RX4 118 yX4_isNight wsX4_isNight) := goodIn_app (goodIn_of _ (by decide +kernel)) ggX4_street_X4_isNight
set_option maxRecDepth 20000 in
theorem ggX4_street_X2_allowanceOf : GoodIn wsX4_street wsX2_allowanceOf := goodIn_r _ [19, 20, 21, 22, 7, 23, 24, 25, 70, 71, 72, 73, 74, 75, 76, 77, 78, 79, 80, 81, 82] (by decide +kernel) (by decide +kernel)
set_option maxRecDepth 20000 in
theorem gX4_street_X2_allowanceOf : GoodIn wsX4_street (wsV RX4 140 RX2 yX2_allowanceOf wsX2_allowanceOf) := goodIn_app (goodIn_of _ (by decide +kernel)) ggX4_street_X2_allowanceOf
set_option maxRecDepth 20000 in
theorem ggX4_street_X4_streetNight : GoodIn wsX4_street wsX4_streetNight := goodIn_r _ [23] (by decide +kernel) (by decide +kernel)
set_option maxRecDepth 20000 in
theorem gX4_street_X4_streetNight : GoodIn wsX4_street (va_wsS RX4 127 yX4_streetNight wsX4_streetNight) := goodIn_app (goodIn_of _ (by decide +kernel)) ggX4_street_X4_streetNight
set_option maxRecDepth 20000 in
theorem ggX4_street_X4_at : GoodIn wsX4_street wsX4_at := goodIn_r _ [25] (by decide +kernel) (by decide +kernel)
set_option maxRecDepth 20000 in
theorem gX4_street_X4_at : GoodIn wsX4_street (va_wsS RX4 98 yX4_at wsX4_at) := goodIn_app (goodIn_of _ (by decide +kernel)) ggX4_street_X4_at
set_option maxRecDepth 20000 in
theorem ggX4_street_X2_creditsOf : GoodIn wsX4_street wsX2_creditsOf := goodIn_r _ [31, 32, 33, 22, 7, 23, 34, 16, 17, 18, 19, 20, 21, 24, 25, 70, 71, 72, 73, 74, 75, 76, 77, 78, 79, 80, 81, 82] (by decide +kernel) (by decide +kernel)
set_option maxRecDepth 20000 in
theorem gX4_street_X2_creditsOf : GoodIn wsX4_street (wsV RX4 143 RX2 yX2_creditsOf wsX2_creditsOf) := goodIn_app (goodIn_of _ (by decide +kernel)) ggX4_street_X2_creditsOf
set_option maxRecDepth 20000 in
theorem ggX4_street_X2_usedOf : GoodIn wsX4_street wsX2_usedOf := goodIn_r _ [38, 39, 40, 41, 42, 43, 44, 18, 45, 46, 47, 48, 49, 50, 51, 52, 53, 54, 55, 56, 57, 58, 59, 60, 24, 7, 25, 70, 71, 72, 73, 74, 75, 76, 77, 78, 79, 80, 81, 82, 83, 84, 85, 86, 87, 88, 89, 90, 91, 92, 93, 94, 95, 96] (by decide +kernel) (by decide +kernel)
set_option maxRecDepth 20000 in
theorem gX4_street_X2_usedOf : GoodIn wsX4_street (wsV RX4 146 RX2 yX2_usedOf wsX2_usedOf) := goodIn_app (goodIn_of _ (by decide +kernel)) ggX4_street_X2_usedOf
set_option maxRecDepth 20000 in
theorem ggX4_street_X2_validOfStreet : GoodIn wsX4_street wsX2_validOfStreet := goodIn_r _ [64, 39, 42, 43, 44, 18, 45, 46, 47, 48, 49, 50, 51, 52, 53, 54, 70, 71, 72, 73, 74, 75, 76, 77, 78, 79, 80, 81, 82, 83, 84, 85, 86, 87, 88, 89, 90, 91, 92, 93, 94, 95, 96] (by decide +kernel) (by decide +kernel)
set_option maxRecDepth 20000 in
theorem gX4_street_X2_validOfStreet : GoodIn wsX4_street (wsV RX4 149 RX2 yX2_validOfStreet wsX2_validOfStreet) := goodIn_app (goodIn_of _ (by decide +kernel)) ggX4_street_X2_validOfStreet
theorem dX4_street_0 : decode cX4_street 0 = .ok (.iload_n 1, 1) := by decide +kernel
theorem dX4_street_1 : decode cX4_street 1 = .ok (.invokestatic 42, 3) := by decide +kernel
theorem dX4_street_4 : decode cX4_street 4 = .ok (.ifCond .eq 10, 3) := by decide +kernel
theorem dX4_street_7 : decode cX4_street 7 = .ok (.iload_n 2, 1) := by decide +kernel
theorem dX4_street_8 : decode cX4_street 8 = .ok (.invokestatic 118, 3) := by decide +kernel
theorem dX4_street_11 : decode cX4_street 11 = .ok (.ifCond .ne 7, 3) := by decide +kernel
theorem dX4_street_14 : decode cX4_street 14 = .ok (.sipush (-1001), 3) := by decide +kernel
theorem dX4_street_17 : decode cX4_street 17 = .ok (.ireturn, 1) := by decide +kernel
theorem dX4_street_18 : decode cX4_street 18 = .ok (.iload_n 3, 1) := by decide +kernel
theorem dX4_street_19 : decode cX4_street 19 = .ok (.tableswitch 125 0 6 #[41, 51, 67, 83, 93, 103, 113], 41) := by decide +kernel
theorem dX4_street_60 : decode cX4_street 60 = .ok (.aload_n 0, 1) := by decide +kernel
theorem dX4_street_61 : decode cX4_street 61 = .ok (.getfield 10, 3) := by decide +kernel
theorem dX4_street_64 : decode cX4_street 64 = .ok (.iload_n 1, 1) := by decide +kernel
theorem dX4_street_65 : decode cX4_street 65 = .ok (.iload_n 2, 1) := by decide +kernel
theorem dX4_street_66 : decode cX4_street 66 = .ok (.invokevirtual 140, 3) := by decide +kernel
theorem dX4_street_69 : decode cX4_street 69 = .ok (.ireturn, 1) := by decide +kernel
theorem dX4_street_70 : decode cX4_street 70 = .ok (.aload_n 0, 1) := by decide +kernel
theorem dX4_street_71 : decode cX4_street 71 = .ok (.getfield 10, 3) := by decide +kernel
theorem dX4_street_74 : decode cX4_street 74 = .ok (.getfield 137, 3) := by decide +kernel
theorem dX4_street_77 : decode cX4_street 77 = .ok (.iload_n 1, 1) := by decide +kernel
theorem dX4_street_78 : decode cX4_street 78 = .ok (.iload_n 2, 1) := by decide +kernel
theorem dX4_street_79 : decode cX4_street 79 = .ok (.invokestatic 127, 3) := by decide +kernel
theorem dX4_street_82 : decode cX4_street 82 = .ok (.invokestatic 98, 3) := by decide +kernel
theorem dX4_street_85 : decode cX4_street 85 = .ok (.ireturn, 1) := by decide +kernel
theorem dX4_street_86 : decode cX4_street 86 = .ok (.aload_n 0, 1) := by decide +kernel
theorem dX4_street_87 : decode cX4_street 87 = .ok (.getfield 10, 3) := by decide +kernel
theorem dX4_street_90 : decode cX4_street 90 = .ok (.getfield 134, 3) := by decide +kernel
theorem dX4_street_93 : decode cX4_street 93 = .ok (.iload_n 1, 1) := by decide +kernel
theorem dX4_street_94 : decode cX4_street 94 = .ok (.iload_n 2, 1) := by decide +kernel
theorem dX4_street_95 : decode cX4_street 95 = .ok (.invokestatic 127, 3) := by decide +kernel
theorem dX4_street_98 : decode cX4_street 98 = .ok (.invokestatic 98, 3) := by decide +kernel
theorem dX4_street_101 : decode cX4_street 101 = .ok (.ireturn, 1) := by decide +kernel
theorem dX4_street_102 : decode cX4_street 102 = .ok (.aload_n 0, 1) := by decide +kernel
theorem dX4_street_103 : decode cX4_street 103 = .ok (.getfield 10, 3) := by decide +kernel
theorem dX4_street_106 : decode cX4_street 106 = .ok (.iload_n 1, 1) := by decide +kernel
theorem dX4_street_107 : decode cX4_street 107 = .ok (.iload_n 2, 1) := by decide +kernel
theorem dX4_street_108 : decode cX4_street 108 = .ok (.invokevirtual 143, 3) := by decide +kernel
theorem dX4_street_111 : decode cX4_street 111 = .ok (.ireturn, 1) := by decide +kernel
theorem dX4_street_112 : decode cX4_street 112 = .ok (.aload_n 0, 1) := by decide +kernel
theorem dX4_street_113 : decode cX4_street 113 = .ok (.getfield 10, 3) := by decide +kernel
theorem dX4_street_116 : decode cX4_street 116 = .ok (.iload_n 1, 1) := by decide +kernel
theorem dX4_street_117 : decode cX4_street 117 = .ok (.iload_n 2, 1) := by decide +kernel
theorem dX4_street_118 : decode cX4_street 118 = .ok (.invokevirtual 146, 3) := by decide +kernel
theorem dX4_street_121 : decode cX4_street 121 = .ok (.ireturn, 1) := by decide +kernel
theorem dX4_street_122 : decode cX4_street 122 = .ok (.aload_n 0, 1) := by decide +kernel
theorem dX4_street_123 : decode cX4_street 123 = .ok (.getfield 10, 3) := by decide +kernel
theorem dX4_street_126 : decode cX4_street 126 = .ok (.iload_n 1, 1) := by decide +kernel
theorem dX4_street_127 : decode cX4_street 127 = .ok (.iload_n 2, 1) := by decide +kernel
theorem dX4_street_128 : decode cX4_street 128 = .ok (.invokevirtual 149, 3) := by decide +kernel
theorem dX4_street_131 : decode cX4_street 131 = .ok (.ireturn, 1) := by decide +kernel
theorem dX4_street_132 : decode cX4_street 132 = .ok (.aload_n 0, 1) := by decide +kernel
theorem dX4_street_133 : decode cX4_street 133 = .ok (.getfield 10, 3) := by decide +kernel
theorem dX4_street_136 : decode cX4_street 136 = .ok (.getfield 121, 3) := by decide +kernel
theorem dX4_street_139 : decode cX4_street 139 = .ok (.iload_n 2, 1) := by decide +kernel
theorem dX4_street_140 : decode cX4_street 140 = .ok (.invokestatic 98, 3) := by decide +kernel
theorem dX4_street_143 : decode cX4_street 143 = .ok (.ireturn, 1) := by decide +kernel
theorem dX4_street_144 : decode cX4_street 144 = .ok (.sipush (-1001), 3) := by decide +kernel
theorem dX4_street_147 : decode cX4_street 147 = .ok (.ireturn, 1) := by decide +kernel
set_option maxRecDepth 20000 in
theorem ggX4_count_X2_permitsWith : GoodIn wsX4_count wsX2_permitsWith := goodIn_r _ [13, 14, 15, 16, 17, 18, 79, 80, 81, 82, 83, 84, 85, 86, 87, 88, 89, 90, 91] (by decide +kernel) (by decide +kernel)
set_option maxRecDepth 20000 in
theorem gX4_count_X2_permitsWith : GoodIn wsX4_count (wsV RX4 158 RX2 yX2_permitsWith wsX2_permitsWith) := goodIn_app (goodIn_of _ (by decide +kernel)) ggX4_count_X2_permitsWith
set_option maxRecDepth 20000 in
theorem ggX4_count_X2_usedByAll : GoodIn wsX4_count wsX2_usedByAll := goodIn_r _ [22, 23, 24, 25, 26, 27, 28, 12, 29, 30, 31, 32, 33, 34, 35, 36, 16, 17, 18, 79, 80, 81, 82, 83, 84, 85, 86, 87, 88, 89, 90, 91, 101, 102, 103, 104, 105, 106, 107, 108, 109, 110, 111, 112, 113, 114] (by decide +kernel) (by decide +kernel)
set_option maxRecDepth 20000 in
theorem gX4_count_X2_usedByAll : GoodIn wsX4_count (wsV RX4 162 RX2 yX2_usedByAll wsX2_usedByAll) := goodIn_app (goodIn_of _ (by decide +kernel)) ggX4_count_X2_usedByAll
set_option maxRecDepth 20000 in
theorem ggX4_count_X2_sharingPairs : GoodIn wsX4_count wsX2_sharingPairs := goodIn_r _ [40, 23, 24, 41, 25, 42, 26, 27, 28, 12, 29, 30, 43, 44, 45, 46, 47, 48, 49, 50, 51, 52, 53, 54, 55, 56, 57, 58, 59, 60, 61, 62, 63, 64, 65, 66, 16, 17, 18, 67, 68, 69, 70, 71, 72, 79, 80, 81, 82, 83, 84, 85, 86, 87, 88, 89, 90, 91, 101, 102, 103, 104, 105, 106, 107, 108, 109, 110, 111, 112, 113, 114] (by decide +kernel) (by decide +kernel)
set_option maxRecDepth 20000 in
theorem gX4_count_X2_sharingPairs : GoodIn wsX4_count (wsV RX4 165 RX2 yX2_sharingPairs wsX2_sharingPairs) := goodIn_app (goodIn_of _ (by decide +kernel)) ggX4_count_X2_sharingPairs
set_option maxRecDepth 20000 in
theorem ggX4_count_X4_at : GoodIn wsX4_count wsX4_at := goodIn_r _ [18] (by decide +kernel) (by decide +kernel)
set_option maxRecDepth 20000 in
theorem gX4_count_X4_at : GoodIn wsX4_count (va_wsS RX4 98 yX4_at wsX4_at) := goodIn_app (goodIn_of _ (by decide +kernel)) ggX4_count_X4_at
theorem dX4_count_0 : decode cX4_count 0 = .ok (.iload_n 1, 1) := by decide +kernel
theorem dX4_count_1 : decode cX4_count 1 = .ok (.tableswitch 174 0 12 #[67, 75, 83, 91, 100, 109, 117, 125, 130, 174, 138, 150, 162], 67) := by decide +kernel
theorem dX4_count_68 : decode cX4_count 68 = .ok (.aload_n 0, 1) := by decide +kernel
theorem dX4_count_69 : decode cX4_count 69 = .ok (.getfield 10, 3) := by decide +kernel
theorem dX4_count_72 : decode cX4_count 72 = .ok (.getfield 49, 3) := by decide +kernel
theorem dX4_count_75 : decode cX4_count 75 = .ok (.ireturn, 1) := by decide +kernel
theorem dX4_count_76 : decode cX4_count 76 = .ok (.aload_n 0, 1) := by decide +kernel
theorem dX4_count_77 : decode cX4_count 77 = .ok (.getfield 10, 3) := by decide +kernel
theorem dX4_count_80 : decode cX4_count 80 = .ok (.getfield 152, 3) := by decide +kernel
theorem dX4_count_83 : decode cX4_count 83 = .ok (.ireturn, 1) := by decide +kernel
theorem dX4_count_84 : decode cX4_count 84 = .ok (.aload_n 0, 1) := by decide +kernel
theorem dX4_count_85 : decode cX4_count 85 = .ok (.getfield 10, 3) := by decide +kernel
theorem dX4_count_88 : decode cX4_count 88 = .ok (.getfield 155, 3) := by decide +kernel
theorem dX4_count_91 : decode cX4_count 91 = .ok (.ireturn, 1) := by decide +kernel
theorem dX4_count_92 : decode cX4_count 92 = .ok (.aload_n 0, 1) := by decide +kernel
theorem dX4_count_93 : decode cX4_count 93 = .ok (.getfield 10, 3) := by decide +kernel
theorem dX4_count_96 : decode cX4_count 96 = .ok (.iconst 2, 1) := by decide +kernel
theorem dX4_count_97 : decode cX4_count 97 = .ok (.invokevirtual 158, 3) := by decide +kernel
theorem dX4_count_100 : decode cX4_count 100 = .ok (.ireturn, 1) := by decide +kernel
theorem dX4_count_101 : decode cX4_count 101 = .ok (.aload_n 0, 1) := by decide +kernel
theorem dX4_count_102 : decode cX4_count 102 = .ok (.getfield 10, 3) := by decide +kernel
theorem dX4_count_105 : decode cX4_count 105 = .ok (.iconst 3, 1) := by decide +kernel
theorem dX4_count_106 : decode cX4_count 106 = .ok (.invokevirtual 158, 3) := by decide +kernel
theorem dX4_count_109 : decode cX4_count 109 = .ok (.ireturn, 1) := by decide +kernel
theorem dX4_count_110 : decode cX4_count 110 = .ok (.aload_n 0, 1) := by decide +kernel
theorem dX4_count_111 : decode cX4_count 111 = .ok (.getfield 10, 3) := by decide +kernel
theorem dX4_count_114 : decode cX4_count 114 = .ok (.invokevirtual 162, 3) := by decide +kernel
theorem dX4_count_117 : decode cX4_count 117 = .ok (.ireturn, 1) := by decide +kernel
theorem dX4_count_118 : decode cX4_count 118 = .ok (.aload_n 0, 1) := by decide +kernel
theorem dX4_count_119 : decode cX4_count 119 = .ok (.getfield 10, 3) := by decide +kernel
theorem dX4_count_122 : decode cX4_count 122 = .ok (.invokevirtual 165, 3) := by decide +kernel
theorem dX4_count_125 : decode cX4_count 125 = .ok (.ireturn, 1) := by decide +kernel
theorem dX4_count_126 : decode cX4_count 126 = .ok (.aload_n 0, 1) := by decide +kernel
theorem dX4_count_127 : decode cX4_count 127 = .ok (.getfield 23, 3) := by decide +kernel
theorem dX4_count_130 : decode cX4_count 130 = .ok (.ireturn, 1) := by decide +kernel
theorem dX4_count_131 : decode cX4_count 131 = .ok (.aload_n 0, 1) := by decide +kernel
theorem dX4_count_132 : decode cX4_count 132 = .ok (.getfield 30, 3) := by decide +kernel
theorem dX4_count_135 : decode cX4_count 135 = .ok (.getfield 168, 3) := by decide +kernel
theorem dX4_count_138 : decode cX4_count 138 = .ok (.ireturn, 1) := by decide +kernel
theorem dX4_count_139 : decode cX4_count 139 = .ok (.aload_n 0, 1) := by decide +kernel
theorem dX4_count_140 : decode cX4_count 140 = .ok (.getfield 10, 3) := by decide +kernel
theorem dX4_count_143 : decode cX4_count 143 = .ok (.getfield 115, 3) := by decide +kernel
theorem dX4_count_146 : decode cX4_count 146 = .ok (.iconst 0, 1) := by decide +kernel
theorem dX4_count_147 : decode cX4_count 147 = .ok (.invokestatic 98, 3) := by decide +kernel
theorem dX4_count_150 : decode cX4_count 150 = .ok (.ireturn, 1) := by decide +kernel
theorem dX4_count_151 : decode cX4_count 151 = .ok (.aload_n 0, 1) := by decide +kernel
