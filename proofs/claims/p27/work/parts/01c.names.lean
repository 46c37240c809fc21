theorem dX4_count_152 : decode cX4_count 152 = .ok (.getfield 10, 3) := by decide +kernel
theorem dX4_count_155 : decode cX4_count 155 = .ok (.getfield 115, 3) := by decide +kernel
theorem dX4_count_158 : decode cX4_count 158 = .ok (.iconst 1, 1) := by decide +kernel
theorem dX4_count_159 : decode cX4_count 159 = .ok (.invokestatic 98, 3) := by decide +kernel
theorem dX4_count_162 : decode cX4_count 162 = .ok (.ireturn, 1) := by decide +kernel
theorem dX4_count_163 : decode cX4_count 163 = .ok (.aload_n 0, 1) := by decide +kernel
theorem dX4_count_164 : decode cX4_count 164 = .ok (.getfield 10, 3) := by decide +kernel
theorem dX4_count_167 : decode cX4_count 167 = .ok (.getfield 115, 3) := by decide +kernel
theorem dX4_count_170 : decode cX4_count 170 = .ok (.iconst 2, 1) := by decide +kernel
theorem dX4_count_171 : decode cX4_count 171 = .ok (.invokestatic 98, 3) := by decide +kernel
theorem dX4_count_174 : decode cX4_count 174 = .ok (.ireturn, 1) := by decide +kernel
theorem dX4_count_175 : decode cX4_count 175 = .ok (.sipush (-1001), 3) := by decide +kernel
theorem dX4_count_178 : decode cX4_count 178 = .ok (.ireturn, 1) := by decide +kernel
set_option maxRecDepth 20000 in
theorem ggX4_undo_X4_pastAt : GoodIn wsX4_undo wsX4_pastAt := goodIn_r _ [7, 8, 31, 32, 33, 34, 35] (by decide +kernel) (by decide +kernel)
set_option maxRecDepth 20000 in
theorem gX4_undo_X4_pastAt : GoodIn wsX4_undo (wsV RX4 171 RX4 yX4_pastAt wsX4_pastAt) := goodIn_app (goodIn_of _ (by decide +kernel)) ggX4_undo_X4_pastAt
set_option maxRecDepth 20000 in
theorem ggX4_undo_X2_copyFrom : GoodIn wsX4_undo wsX2_copyFrom := goodIn_r _ [13, 14, 15, 16, 17, 18, 19, 20, 21, 22, 23, 24, 25, 26, 27, 28, 29, 30, 36, 37, 38, 39, 40, 41, 42, 43, 44, 45, 46, 47, 48] (by decide +kernel) (by decide +kernel)
set_option maxRecDepth 20000 in
theorem gX4_undo_X2_copyFrom : GoodIn wsX4_undo (wsV RX4 175 RX2 yX2_copyFrom wsX2_copyFrom) := goodIn_app (goodIn_of _ (by decide +kernel)) ggX4_undo_X2_copyFrom
theorem dX4_undo_0 : decode cX4_undo 0 = .ok (.aload_n 0, 1) := by decide +kernel
theorem dX4_undo_1 : decode cX4_undo 1 = .ok (.aload_n 0, 1) := by decide +kernel
theorem dX4_undo_2 : decode cX4_undo 2 = .ok (.getfield 23, 3) := by decide +kernel
theorem dX4_undo_5 : decode cX4_undo 5 = .ok (.iconst 1, 1) := by decide +kernel
theorem dX4_undo_6 : decode cX4_undo 6 = .ok (.isub, 1) := by decide +kernel
theorem dX4_undo_7 : decode cX4_undo 7 = .ok (.invokevirtual 171, 3) := by decide +kernel
theorem dX4_undo_10 : decode cX4_undo 10 = .ok (.astore_n 1, 1) := by decide +kernel
theorem dX4_undo_11 : decode cX4_undo 11 = .ok (.aload_n 1, 1) := by decide +kernel
theorem dX4_undo_12 : decode cX4_undo 12 = .ok (.ifnonnull 7, 3) := by decide +kernel
theorem dX4_undo_15 : decode cX4_undo 15 = .ok (.sipush (-1002), 3) := by decide +kernel
theorem dX4_undo_18 : decode cX4_undo 18 = .ok (.ireturn, 1) := by decide +kernel
theorem dX4_undo_19 : decode cX4_undo 19 = .ok (.aload_n 0, 1) := by decide +kernel
theorem dX4_undo_20 : decode cX4_undo 20 = .ok (.dup, 1) := by decide +kernel
theorem dX4_undo_21 : decode cX4_undo 21 = .ok (.getfield 23, 3) := by decide +kernel
theorem dX4_undo_24 : decode cX4_undo 24 = .ok (.iconst 1, 1) := by decide +kernel
theorem dX4_undo_25 : decode cX4_undo 25 = .ok (.isub, 1) := by decide +kernel
theorem dX4_undo_26 : decode cX4_undo 26 = .ok (.putfield 23, 3) := by decide +kernel
theorem dX4_undo_29 : decode cX4_undo 29 = .ok (.aload_n 0, 1) := by decide +kernel
theorem dX4_undo_30 : decode cX4_undo 30 = .ok (.getfield 10, 3) := by decide +kernel
theorem dX4_undo_33 : decode cX4_undo 33 = .ok (.aload_n 1, 1) := by decide +kernel
theorem dX4_undo_34 : decode cX4_undo 34 = .ok (.invokevirtual 175, 3) := by decide +kernel
theorem dX4_undo_37 : decode cX4_undo 37 = .ok (.aload_n 0, 1) := by decide +kernel
theorem dX4_undo_38 : decode cX4_undo 38 = .ok (.getfield 23, 3) := by decide +kernel
theorem dX4_undo_41 : decode cX4_undo 41 = .ok (.ireturn, 1) := by decide +kernel
set_option maxRecDepth 20000 in
theorem ggX4_covers_X2_craneAt : GoodIn wsX4_covers wsX2_craneAt := goodIn_r _ [6, 7, 8, 30, 31, 32, 33, 34, 35, 36, 37, 38, 39, 40, 41, 42] (by decide +kernel) (by decide +kernel)
set_option maxRecDepth 20000 in
theorem gX4_covers_X2_craneAt : GoodIn wsX4_covers (wsV RX4 67 RX2 yX2_craneAt wsX2_craneAt) := goodIn_app (goodIn_of _ (by decide +kernel)) ggX4_covers_X2_craneAt
set_option maxRecDepth 20000 in
theorem ggX4_covers_X4_isSwing : GoodIn wsX4_covers wsX4_isSwing := goodIn_r _ [12, 13, 14, 11, 15] (by decide +kernel) (by decide +kernel)
set_option maxRecDepth 20000 in
theorem gX4_covers_X4_isSwing : GoodIn wsX4_covers (va_wsS RX4 179 yX4_isSwing wsX4_isSwing) := goodIn_app (goodIn_of _ (by decide +kernel)) ggX4_covers_X4_isSwing
set_option maxRecDepth 20000 in
theorem ggX4_covers_X4_isCell : GoodIn wsX4_covers wsX4_isCell := goodIn_r _ [18, 13, 14, 11, 15] (by decide +kernel) (by decide +kernel)
set_option maxRecDepth 20000 in
theorem gX4_covers_X4_isCell : GoodIn wsX4_covers (va_wsS RX4 34 yX4_isCell wsX4_isCell) := goodIn_app (goodIn_of _ (by decide +kernel)) ggX4_covers_X4_isCell
set_option maxRecDepth 20000 in
theorem ggX4_covers_X0_airOf : GoodIn wsX4_covers wsX0_airOf := goodIn_r _ [23, 24, 43, 44, 45, 46, 47, 48, 49] (by decide +kernel) (by decide +kernel)
set_option maxRecDepth 20000 in
theorem gX4_covers_X0_airOf : GoodIn wsX4_covers (wsV RX4 182 RX0 yX0_airOf wsX0_airOf) := goodIn_app (goodIn_of _ (by decide +kernel)) ggX4_covers_X0_airOf
theorem dX4_covers_0 : decode cX4_covers 0 = .ok (.aload_n 0, 1) := by decide +kernel
theorem dX4_covers_1 : decode cX4_covers 1 = .ok (.getfield 10, 3) := by decide +kernel
theorem dX4_covers_4 : decode cX4_covers 4 = .ok (.iload_n 1, 1) := by decide +kernel
theorem dX4_covers_5 : decode cX4_covers 5 = .ok (.invokevirtual 67, 3) := by decide +kernel
theorem dX4_covers_8 : decode cX4_covers 8 = .ok (.astore 5, 2) := by decide +kernel
theorem dX4_covers_10 : decode cX4_covers 10 = .ok (.aload 5, 2) := by decide +kernel
theorem dX4_covers_12 : decode cX4_covers 12 = .ok (.ifnull 19, 3) := by decide +kernel
theorem dX4_covers_15 : decode cX4_covers 15 = .ok (.iload_n 2, 1) := by decide +kernel
theorem dX4_covers_16 : decode cX4_covers 16 = .ok (.invokestatic 179, 3) := by decide +kernel
theorem dX4_covers_19 : decode cX4_covers 19 = .ok (.ifCond .eq 12, 3) := by decide +kernel
theorem dX4_covers_22 : decode cX4_covers 22 = .ok (.iload_n 3, 1) := by decide +kernel
theorem dX4_covers_23 : decode cX4_covers 23 = .ok (.iload 4, 2) := by decide +kernel
theorem dX4_covers_25 : decode cX4_covers 25 = .ok (.invokestatic 34, 3) := by decide +kernel
theorem dX4_covers_28 : decode cX4_covers 28 = .ok (.ifCond .ne 7, 3) := by decide +kernel
theorem dX4_covers_31 : decode cX4_covers 31 = .ok (.sipush (-1001), 3) := by decide +kernel
theorem dX4_covers_34 : decode cX4_covers 34 = .ok (.ireturn, 1) := by decide +kernel
theorem dX4_covers_35 : decode cX4_covers 35 = .ok (.bipush 16, 2) := by decide +kernel
theorem dX4_covers_37 : decode cX4_covers 37 = .ok (.iload 4, 2) := by decide +kernel
theorem dX4_covers_39 : decode cX4_covers 39 = .ok (.imul, 1) := by decide +kernel
theorem dX4_covers_40 : decode cX4_covers 40 = .ok (.iload_n 3, 1) := by decide +kernel
theorem dX4_covers_41 : decode cX4_covers 41 = .ok (.iadd, 1) := by decide +kernel
theorem dX4_covers_42 : decode cX4_covers 42 = .ok (.istore 6, 2) := by decide +kernel
theorem dX4_covers_44 : decode cX4_covers 44 = .ok (.aload 5, 2) := by decide +kernel
theorem dX4_covers_46 : decode cX4_covers 46 = .ok (.iload_n 2, 1) := by decide +kernel
theorem dX4_covers_47 : decode cX4_covers 47 = .ok (.iload 6, 2) := by decide +kernel
theorem dX4_covers_49 : decode cX4_covers 49 = .ok (.bipush 64, 2) := by decide +kernel
theorem dX4_covers_51 : decode cX4_covers 51 = .ok (.idiv, 1) := by decide +kernel
theorem dX4_covers_52 : decode cX4_covers 52 = .ok (.invokevirtual 182, 3) := by decide +kernel
theorem dX4_covers_55 : decode cX4_covers 55 = .ok (.lstore 7, 2) := by decide +kernel
theorem dX4_covers_57 : decode cX4_covers 57 = .ok (.lload 7, 2) := by decide +kernel
theorem dX4_covers_59 : decode cX4_covers 59 = .ok (.iload 6, 2) := by decide +kernel
theorem dX4_covers_61 : decode cX4_covers 61 = .ok (.bipush 64, 2) := by decide +kernel
theorem dX4_covers_63 : decode cX4_covers 63 = .ok (.irem, 1) := by decide +kernel
theorem dX4_covers_64 : decode cX4_covers 64 = .ok (.lushr, 1) := by decide +kernel
theorem dX4_covers_65 : decode cX4_covers 65 = .ok (.lconst 1, 1) := by decide +kernel
theorem dX4_covers_66 : decode cX4_covers 66 = .ok (.land, 1) := by decide +kernel
theorem dX4_covers_67 : decode cX4_covers 67 = .ok (.lconst 0, 1) := by decide +kernel
theorem dX4_covers_68 : decode cX4_covers 68 = .ok (.lcmp, 1) := by decide +kernel
theorem dX4_covers_69 : decode cX4_covers 69 = .ok (.ifCond .ne 7, 3) := by decide +kernel
theorem dX4_covers_72 : decode cX4_covers 72 = .ok (.iconst 0, 1) := by decide +kernel
theorem dX4_covers_73 : decode cX4_covers 73 = .ok (.goto 4, 3) := by decide +kernel
theorem dX4_covers_76 : decode cX4_covers 76 = .ok (.iconst 1, 1) := by decide +kernel
theorem dX4_covers_77 : decode cX4_covers 77 = .ok (.ireturn, 1) := by decide +kernel
set_option maxRecDepth 20000 in
theorem ggX4_area_X2_craneAt : GoodIn wsX4_area wsX2_craneAt := goodIn_r _ [6, 7, 8, 34, 35, 36, 37, 38, 39, 40, 41, 42, 43, 44, 45, 46] (by decide +kernel) (by decide +kernel)
set_option maxRecDepth 20000 in
theorem gX4_area_X2_craneAt : GoodIn wsX4_area (wsV RX4 67 RX2 yX2_craneAt wsX2_craneAt) := goodIn_app (goodIn_of _ (by decide +kernel)) ggX4_area_X2_craneAt
set_option maxRecDepth 20000 in
theorem ggX4_area_X4_isSwing : GoodIn wsX4_area wsX4_isSwing := goodIn_r _ [12, 13, 14, 11, 15] (by decide +kernel) (by decide +kernel)
set_option maxRecDepth 20000 in
theorem gX4_area_X4_isSwing : GoodIn wsX4_area (va_wsS RX4 179 yX4_isSwing wsX4_isSwing) := goodIn_app (goodIn_of _ (by decide +kernel)) ggX4_area_X4_isSwing
set_option maxRecDepth 20000 in
theorem ggX4_area_X0_airOf : GoodIn wsX4_area wsX0_airOf := goodIn_r _ [20, 21, 47, 48, 49, 50, 51, 52, 53] (by decide +kernel) (by decide +kernel)
set_option maxRecDepth 20000 in
theorem gX4_area_X0_airOf : GoodIn wsX4_area (wsV RX4 182 RX0 yX0_airOf wsX0_airOf) := goodIn_app (goodIn_of _ (by decide +kernel)) ggX4_area_X0_airOf
set_option maxRecDepth 20000 in
theorem ggX4_area_J13_bitCount_95d88 : GoodIn wsX4_area wsJ13_bitCount_95d88 := goodIn_r _ [25, 26, 27, 28] (by decide +kernel) (by decide +kernel)
set_option maxRecDepth 20000 in
theorem gX4_area_J13_bitCount_95d88 : GoodIn wsX4_area (va_wsS RX4 186 yJ13_bitCount_95d88 wsJ13_bitCount_95d88) := goodIn_app (goodIn_of _ (by decide +kernel)) ggX4_area_J13_bitCount_95d88
theorem dX4_area_0 : decode cX4_area 0 = .ok (.aload_n 0, 1) := by decide +kernel
theorem dX4_area_1 : decode cX4_area 1 = .ok (.getfield 10, 3) := by decide +kernel
theorem dX4_area_4 : decode cX4_area 4 = .ok (.iload_n 1, 1) := by decide +kernel
theorem dX4_area_5 : decode cX4_area 5 = .ok (.invokevirtual 67, 3) := by decide +kernel
theorem dX4_area_8 : decode cX4_area 8 = .ok (.astore_n 3, 1) := by decide +kernel
theorem dX4_area_9 : decode cX4_area 9 = .ok (.aload_n 3, 1) := by decide +kernel
theorem dX4_area_10 : decode cX4_area 10 = .ok (.ifnull 10, 3) := by decide +kernel
theorem dX4_area_13 : decode cX4_area 13 = .ok (.iload_n 2, 1) := by decide +kernel
theorem dX4_area_14 : decode cX4_area 14 = .ok (.invokestatic 179, 3) := by decide +kernel
theorem dX4_area_17 : decode cX4_area 17 = .ok (.ifCond .ne 7, 3) := by decide +kernel
theorem dX4_area_20 : decode cX4_area 20 = .ok (.sipush (-1001), 3) := by decide +kernel
theorem dX4_area_23 : decode cX4_area 23 = .ok (.ireturn, 1) := by decide +kernel
theorem dX4_area_24 : decode cX4_area 24 = .ok (.iconst 0, 1) := by decide +kernel
theorem dX4_area_25 : decode cX4_area 25 = .ok (.istore 4, 2) := by decide +kernel
theorem dX4_area_27 : decode cX4_area 27 = .ok (.iconst 0, 1) := by decide +kernel
theorem dX4_area_28 : decode cX4_area 28 = .ok (.istore 5, 2) := by decide +kernel
theorem dX4_area_30 : decode cX4_area 30 = .ok (.iload 5, 2) := by decide +kernel
theorem dX4_area_32 : decode cX4_area 32 = .ok (.iconst 4, 1) := by decide +kernel
theorem dX4_area_33 : decode cX4_area 33 = .ok (.if_icmp .ge 24, 3) := by decide +kernel
theorem dX4_area_36 : decode cX4_area 36 = .ok (.iload 4, 2) := by decide +kernel
theorem dX4_area_38 : decode cX4_area 38 = .ok (.aload_n 3, 1) := by decide +kernel
theorem dX4_area_39 : decode cX4_area 39 = .ok (.iload_n 2, 1) := by decide +kernel
theorem dX4_area_40 : decode cX4_area 40 = .ok (.iload 5, 2) := by decide +kernel
theorem dX4_area_42 : decode cX4_area 42 = .ok (.invokevirtual 182, 3) := by decide +kernel
theorem dX4_area_45 : decode cX4_area 45 = .ok (.invokestatic 186, 3) := by decide +kernel
theorem dX4_area_48 : decode cX4_area 48 = .ok (.iadd, 1) := by decide +kernel
theorem dX4_area_49 : decode cX4_area 49 = .ok (.istore 4, 2) := by decide +kernel
theorem dX4_area_51 : decode cX4_area 51 = .ok (.iinc 5 1, 3) := by decide +kernel
theorem dX4_area_54 : decode cX4_area 54 = .ok (.goto (-24), 3) := by decide +kernel
theorem dX4_area_57 : decode cX4_area 57 = .ok (.iload 4, 2) := by decide +kernel
theorem dX4_area_59 : decode cX4_area 59 = .ok (.ireturn, 1) := by decide +kernel
set_option maxRecDepth 20000 in
theorem ggX4_refusal_X2_craneAt : GoodIn wsX4_refusal wsX2_craneAt := goodIn_r _ [6, 7, 8, 119, 120, 121, 122, 123, 124, 125, 126, 127, 128, 129, 130, 131] (by decide +kernel) (by decide +kernel)
set_option maxRecDepth 20000 in
theorem gX4_refusal_X2_craneAt : GoodIn wsX4_refusal (wsV RX4 67 RX2 yX2_craneAt wsX2_craneAt) := goodIn_app (goodIn_of _ (by decide +kernel)) ggX4_refusal_X2_craneAt
set_option maxRecDepth 20000 in
theorem ggX4_refusal_X4_isPlan : GoodIn wsX4_refusal wsX4_isPlan := goodIn_r _ [12, 13, 14, 11, 15, 16, 17, 18, 19, 20, 21] (by decide +kernel) (by decide +kernel)
set_option maxRecDepth 20000 in
theorem gX4_refusal_X4_isPlan : GoodIn wsX4_refusal (va_wsS RX4 192 yX4_isPlan wsX4_isPlan) := goodIn_app (goodIn_of _ (by decide +kernel)) ggX4_refusal_X4_isPlan
set_option maxRecDepth 20000 in
theorem ggX4_refusal_X2_refusalOf : GoodIn wsX4_refusal wsX2_refusalOf := goodIn_r _ [25, 26, 27, 28, 29, 5, 30, 31, 32, 33, 34, 35, 36, 37, 38, 39, 40, 41, 42, 43, 44, 45, 46, 47, 48, 49, 50, 51, 52, 53, 54, 55, 56, 11, 57, 58, 59, 60, 61, 62, 63, 64, 65, 66, 67, 68, 69, 70, 71, 72, 73, 74, 75, 76, 77, 78, 79, 80, 81, 82, 83, 84, 85, 86, 87, 88, 89, 90, 91, 92, 93, 94, 95, 96, 97, 98, 99, 100, 101, 102, 103, 104, 105, 106, 107, 108, 109, 110, 111, 112, 113, 132, 133, 134, 135, 136, 137, 138, 119, 120, 121, 122, 123, 124, 125, 126, 127, 128, 129, 130, 131, 139, 140, 141, 142, 143, 144, 145] (by decide +kernel) (by decide +kernel)
set_option maxRecDepth 20000 in
theorem gX4_refusal_X2_refusalOf : GoodIn wsX4_refusal (wsV RX4 195 RX2 yX2_refusalOf wsX2_refusalOf) := goodIn_app (goodIn_of _ (by decide +kernel)) ggX4_refusal_X2_refusalOf
theorem dX4_refusal_0 : decode cX4_refusal 0 = .ok (.aload_n 0, 1) := by decide +kernel
theorem dX4_refusal_1 : decode cX4_refusal 1 = .ok (.getfield 10, 3) := by decide +kernel
theorem dX4_refusal_4 : decode cX4_refusal 4 = .ok (.iload_n 1, 1) := by decide +kernel
theorem dX4_refusal_5 : decode cX4_refusal 5 = .ok (.invokevirtual 67, 3) := by decide +kernel
theorem dX4_refusal_8 : decode cX4_refusal 8 = .ok (.astore 5, 2) := by decide +kernel
theorem dX4_refusal_10 : decode cX4_refusal 10 = .ok (.aload 5, 2) := by decide +kernel
theorem dX4_refusal_12 : decode cX4_refusal 12 = .ok (.ifnull 13, 3) := by decide +kernel
theorem dX4_refusal_15 : decode cX4_refusal 15 = .ok (.iload_n 2, 1) := by decide +kernel
theorem dX4_refusal_16 : decode cX4_refusal 16 = .ok (.iload_n 3, 1) := by decide +kernel
theorem dX4_refusal_17 : decode cX4_refusal 17 = .ok (.iload 4, 2) := by decide +kernel
theorem dX4_refusal_19 : decode cX4_refusal 19 = .ok (.invokestatic 192, 3) := by decide +kernel
theorem dX4_refusal_22 : decode cX4_refusal 22 = .ok (.ifCond .ne 7, 3) := by decide +kernel
theorem dX4_refusal_25 : decode cX4_refusal 25 = .ok (.sipush (-1001), 3) := by decide +kernel
theorem dX4_refusal_28 : decode cX4_refusal 28 = .ok (.ireturn, 1) := by decide +kernel
theorem dX4_refusal_29 : decode cX4_refusal 29 = .ok (.aload_n 0, 1) := by decide +kernel
theorem dX4_refusal_30 : decode cX4_refusal 30 = .ok (.getfield 10, 3) := by decide +kernel
theorem dX4_refusal_33 : decode cX4_refusal 33 = .ok (.aload 5, 2) := by decide +kernel
theorem dX4_refusal_35 : decode cX4_refusal 35 = .ok (.iload_n 2, 1) := by decide +kernel
theorem dX4_refusal_36 : decode cX4_refusal 36 = .ok (.iload_n 3, 1) := by decide +kernel
theorem dX4_refusal_37 : decode cX4_refusal 37 = .ok (.iload 4, 2) := by decide +kernel
theorem dX4_refusal_39 : decode cX4_refusal 39 = .ok (.invokevirtual 195, 3) := by decide +kernel
theorem dX4_refusal_42 : decode cX4_refusal 42 = .ok (.ireturn, 1) := by decide +kernel
set_option maxRecDepth 20000 in
theorem ggX4_apply_X2_craneAt : GoodIn wsX4_apply wsX2_craneAt := goodIn_r _ [11, 12, 13, 174, 175, 176, 177, 178, 179, 180, 181, 182, 183, 184, 185, 186] (by decide +kernel) (by decide +kernel)
set_option maxRecDepth 20000 in
theorem gX4_apply_X2_craneAt : GoodIn wsX4_apply (wsV RX4 67 RX2 yX2_craneAt wsX2_craneAt) := goodIn_app (goodIn_of _ (by decide +kernel)) ggX4_apply_X2_craneAt
set_option maxRecDepth 20000 in
theorem ggX4_apply_X4_isPlan : GoodIn wsX4_apply wsX4_isPlan := goodIn_r _ [17, 18, 19, 16, 20, 21, 22, 23, 24, 25, 26] (by decide +kernel) (by decide +kernel)
set_option maxRecDepth 20000 in
theorem gX4_apply_X4_isPlan : GoodIn wsX4_apply (va_wsS RX4 192 yX4_isPlan wsX4_isPlan) := goodIn_app (goodIn_of _ (by decide +kernel)) ggX4_apply_X4_isPlan
set_option maxRecDepth 20000 in
theorem ggX4_apply_X2_refusalOf : GoodIn wsX4_apply wsX2_refusalOf := goodIn_r _ [30, 31, 32, 33, 34, 10, 35, 36, 37, 38, 39, 40, 41, 42, 43, 44, 4, 45, 46, 47, 48, 49, 50, 51, 52, 53, 54, 55, 56, 57, 58, 59, 60, 16, 61, 62, 63, 64, 65, 66, 67, 68, 69, 70, 71, 72, 73, 74, 75, 76, 77, 78, 79, 80, 81, 82, 83, 84, 85, 86, 87, 88, 89, 90, 91, 92, 93, 94, 95, 96, 97, 98, 99, 100, 101, 102, 103, 104, 105, 106, 107, 108, 109, 110, 111, 112, 113, 114, 115, 116, 117, 187, 188, 189, 190, 191, 192, 193, 174, 175, 176, 177, 178, 179, 180, 181, 182, 183, 184, 185, 186, 167, 168, 169, 170, 171, 172, 173] (by decide +kernel) (by decide +kernel)
set_option maxRecDepth 20000 in
theorem gX4_apply_X2_refusalOf : GoodIn wsX4_apply (wsV RX4 195 RX2 yX2_refusalOf wsX2_refusalOf) := goodIn_app (goodIn_of _ (by decide +kernel)) ggX4_apply_X2_refusalOf
set_option maxRecDepth 20000 in
theorem ggX4_apply_X2_hasRoom : GoodIn wsX4_apply wsX2_hasRoom := goodIn_r _ [121, 36, 122, 174, 175, 176, 177, 178, 179, 180, 181, 182, 183, 184, 185, 186] (by decide +kernel) (by decide +kernel)
set_option maxRecDepth 20000 in
theorem gX4_apply_X2_hasRoom : GoodIn wsX4_apply (wsV RX4 199 RX2 yX2_hasRoom wsX2_hasRoom) := goodIn_app (goodIn_of _ (by decide +kernel)) ggX4_apply_X2_hasRoom
set_option maxRecDepth 20000 in
theorem ggX4_apply_X4_remember : GoodIn wsX4_apply wsX4_remember := goodIn_r _ [126, 127, 128, 1, 129, 130, 131, 16, 132, 133, 134, 135, 136, 137, 138, 139, 10, 140, 13, 141, 142, 143, 144, 12, 103, 66, 59, 117, 109, 110, 145, 122, 146, 41, 36, 162, 163, 164, 165, 166, 174, 175, 176, 177, 178, 179, 180, 181, 182, 183, 184, 185, 186] (by decide +kernel) (by decide +kernel)
set_option maxRecDepth 20000 in
theorem gX4_apply_X4_remember : GoodIn wsX4_apply (wsV RX4 52 RX4 yX4_remember wsX4_remember) := goodIn_app (goodIn_of _ (by decide +kernel)) ggX4_apply_X4_remember
set_option maxRecDepth 20000 in
theorem ggX4_apply_X1_init : GoodIn wsX4_apply wsX1_init := goodIn_r _ [149, 150, 151, 152, 153, 46, 54, 154, 53, 52, 155, 167, 168, 169, 170, 171, 172, 173] (by decide +kernel) (by decide +kernel)
set_option maxRecDepth 20000 in
theorem gX4_apply_X1_init : GoodIn wsX4_apply (wsX1_init) := ggX4_apply_X1_init
set_option maxRecDepth 20000 in
theorem ggX4_apply_X2_grant : GoodIn wsX4_apply wsX2_grant := goodIn_r _ [159, 36, 41, 122, 145, 146, 160, 16, 161, 174, 175, 176, 177, 178, 179, 180, 181, 182, 183, 184, 185, 186] (by decide +kernel) (by decide +kernel)
set_option maxRecDepth 20000 in
theorem gX4_apply_X2_grant : GoodIn wsX4_apply (wsV RX4 208 RX2 yX2_grant wsX2_grant) := goodIn_app (goodIn_of _ (by decide +kernel)) ggX4_apply_X2_grant
theorem dX4_apply_0 : decode cX4_apply 0 = .ok (.aload_n 0, 1) := by decide +kernel
theorem dX4_apply_1 : decode cX4_apply 1 = .ok (.getfield 10, 3) := by decide +kernel
theorem dX4_apply_4 : decode cX4_apply 4 = .ok (.iload_n 1, 1) := by decide +kernel
theorem dX4_apply_5 : decode cX4_apply 5 = .ok (.invokevirtual 67, 3) := by decide +kernel
theorem dX4_apply_8 : decode cX4_apply 8 = .ok (.astore 5, 2) := by decide +kernel
theorem dX4_apply_10 : decode cX4_apply 10 = .ok (.aload 5, 2) := by decide +kernel
theorem dX4_apply_12 : decode cX4_apply 12 = .ok (.ifnull 13, 3) := by decide +kernel
theorem dX4_apply_15 : decode cX4_apply 15 = .ok (.iload_n 2, 1) := by decide +kernel
theorem dX4_apply_16 : decode cX4_apply 16 = .ok (.iload_n 3, 1) := by decide +kernel
theorem dX4_apply_17 : decode cX4_apply 17 = .ok (.iload 4, 2) := by decide +kernel
theorem dX4_apply_19 : decode cX4_apply 19 = .ok (.invokestatic 192, 3) := by decide +kernel
theorem dX4_apply_22 : decode cX4_apply 22 = .ok (.ifCond .ne 7, 3) := by decide +kernel
theorem dX4_apply_25 : decode cX4_apply 25 = .ok (.sipush (-1001), 3) := by decide +kernel
theorem dX4_apply_28 : decode cX4_apply 28 = .ok (.ireturn, 1) := by decide +kernel
theorem dX4_apply_29 : decode cX4_apply 29 = .ok (.aload_n 0, 1) := by decide +kernel
theorem dX4_apply_30 : decode cX4_apply 30 = .ok (.getfield 10, 3) := by decide +kernel
theorem dX4_apply_33 : decode cX4_apply 33 = .ok (.aload 5, 2) := by decide +kernel
theorem dX4_apply_35 : decode cX4_apply 35 = .ok (.iload_n 2, 1) := by decide +kernel
theorem dX4_apply_36 : decode cX4_apply 36 = .ok (.iload_n 3, 1) := by decide +kernel
theorem dX4_apply_37 : decode cX4_apply 37 = .ok (.iload 4, 2) := by decide +kernel
theorem dX4_apply_39 : decode cX4_apply 39 = .ok (.invokevirtual 195, 3) := by decide +kernel
theorem dX4_apply_42 : decode cX4_apply 42 = .ok (.ifCond .eq 7, 3) := by decide +kernel
theorem dX4_apply_45 : decode cX4_apply 45 = .ok (.sipush (-1002), 3) := by decide +kernel
theorem dX4_apply_48 : decode cX4_apply 48 = .ok (.ireturn, 1) := by decide +kernel
theorem dX4_apply_49 : decode cX4_apply 49 = .ok (.aload_n 0, 1) := by decide +kernel
theorem dX4_apply_50 : decode cX4_apply 50 = .ok (.getfield 10, 3) := by decide +kernel
theorem dX4_apply_53 : decode cX4_apply 53 = .ok (.invokevirtual 199, 3) := by decide +kernel
theorem dX4_apply_56 : decode cX4_apply 56 = .ok (.ifCond .ne 7, 3) := by decide +kernel
theorem dX4_apply_59 : decode cX4_apply 59 = .ok (.sipush (-1003), 3) := by decide +kernel
theorem dX4_apply_62 : decode cX4_apply 62 = .ok (.ireturn, 1) := by decide +kernel
theorem dX4_apply_63 : decode cX4_apply 63 = .ok (.aload_n 0, 1) := by decide +kernel
theorem dX4_apply_64 : decode cX4_apply 64 = .ok (.invokevirtual 52, 3) := by decide +kernel
theorem dX4_apply_67 : decode cX4_apply 67 = .ok (.new 203, 3) := by decide +kernel
theorem dX4_apply_70 : decode cX4_apply 70 = .ok (.dup, 1) := by decide +kernel
theorem dX4_apply_71 : decode cX4_apply 71 = .ok (.aload_n 0, 1) := by decide +kernel
theorem dX4_apply_72 : decode cX4_apply 72 = .ok (.getfield 10, 3) := by decide +kernel
theorem dX4_apply_75 : decode cX4_apply 75 = .ok (.getfield 155, 3) := by decide +kernel
theorem dX4_apply_78 : decode cX4_apply 78 = .ok (.aload 5, 2) := by decide +kernel
theorem dX4_apply_80 : decode cX4_apply 80 = .ok (.iload_n 2, 1) := by decide +kernel
theorem dX4_apply_81 : decode cX4_apply 81 = .ok (.iload_n 3, 1) := by decide +kernel
theorem dX4_apply_82 : decode cX4_apply 82 = .ok (.iload 4, 2) := by decide +kernel
theorem dX4_apply_84 : decode cX4_apply 84 = .ok (.invokespecial 205, 3) := by decide +kernel
theorem dX4_apply_87 : decode cX4_apply 87 = .ok (.astore 6, 2) := by decide +kernel
theorem dX4_apply_89 : decode cX4_apply 89 = .ok (.aload_n 0, 1) := by decide +kernel
theorem dX4_apply_90 : decode cX4_apply 90 = .ok (.getfield 10, 3) := by decide +kernel
theorem dX4_apply_93 : decode cX4_apply 93 = .ok (.aload 6, 2) := by decide +kernel
theorem dX4_apply_95 : decode cX4_apply 95 = .ok (.invokevirtual 208, 3) := by decide +kernel
theorem dX4_apply_98 : decode cX4_apply 98 = .ok (.aload 6, 2) := by decide +kernel
theorem dX4_apply_100 : decode cX4_apply 100 = .ok (.getfield 212, 3) := by decide +kernel
theorem dX4_apply_103 : decode cX4_apply 103 = .ok (.ireturn, 1) := by decide +kernel
set_option maxRecDepth 20000 in
theorem ggX4_withdraw_X2_permitAt : GoodIn wsX4_withdraw wsX2_permitAt := goodIn_r _ [10, 11, 12, 71, 72, 73, 74, 75, 76, 77, 78, 79, 80, 81, 82, 83] (by decide +kernel) (by decide +kernel)
set_option maxRecDepth 20000 in
theorem gX4_withdraw_X2_permitAt : GoodIn wsX4_withdraw (wsV RX4 213 RX2 yX2_permitAt wsX2_permitAt) := goodIn_app (goodIn_of _ (by decide +kernel)) ggX4_withdraw_X2_permitAt
set_option maxRecDepth 20000 in
theorem ggX4_withdraw_X4_at : GoodIn wsX4_withdraw wsX4_at := goodIn_r _ [16] (by decide +kernel) (by decide +kernel)
set_option maxRecDepth 20000 in
theorem gX4_withdraw_X4_at : GoodIn wsX4_withdraw (va_wsS RX4 98 yX4_at wsX4_at) := goodIn_app (goodIn_of _ (by decide +kernel)) ggX4_withdraw_X4_at
set_option maxRecDepth 20000 in
theorem ggX4_withdraw_X4_remember : GoodIn wsX4_withdraw wsX4_remember := goodIn_r _ [20, 21, 22, 1, 23, 24, 25, 15, 26, 27, 28, 29, 30, 31, 32, 33, 9, 34, 35, 36, 37, 38, 39, 40, 41, 42, 43, 44, 45, 46, 12, 11, 47, 48, 49, 66, 67, 68, 69, 70, 71, 72, 73, 74, 75, 76, 77, 78, 79, 80, 81, 82, 83] (by decide +kernel) (by decide +kernel)
set_option maxRecDepth 20000 in
theorem gX4_withdraw_X4_remember : GoodIn wsX4_withdraw (wsV RX4 52 RX4 yX4_remember wsX4_remember) := goodIn_app (goodIn_of _ (by decide +kernel)) ggX4_withdraw_X4_remember
set_option maxRecDepth 20000 in
theorem ggX4_withdraw_X2_end : GoodIn wsX4_withdraw wsX2_end := goodIn_r _ [53, 47, 54, 49, 48, 55, 15, 56, 57, 58, 59, 9, 60, 71, 72, 73, 74, 75, 76, 77, 78, 79, 80, 81, 82, 83, 84, 85, 86, 87, 88, 89, 90] (by decide +kernel) (by decide +kernel)
set_option maxRecDepth 20000 in
theorem gX4_withdraw_X2_end : GoodIn wsX4_withdraw (wsV RX4 220 RX2 yX2_end wsX2_end) := goodIn_app (goodIn_of _ (by decide +kernel)) ggX4_withdraw_X2_end
set_option maxRecDepth 20000 in
theorem ggX4_withdraw_X2_useOf : GoodIn wsX4_withdraw wsX2_useOf := goodIn_r _ [64, 41, 65, 14, 15, 16, 71, 72, 73, 74, 75, 76, 77, 78, 79, 80, 81, 82, 83, 91, 92, 93, 94, 95, 96, 97] (by decide +kernel) (by decide +kernel)
set_option maxRecDepth 20000 in
theorem gX4_withdraw_X2_useOf : GoodIn wsX4_withdraw (wsV RX4 231 RX2 yX2_useOf wsX2_useOf) := goodIn_app (goodIn_of _ (by decide +kernel)) ggX4_withdraw_X2_useOf
theorem dX4_withdraw_0 : decode cX4_withdraw 0 = .ok (.aload_n 0, 1) := by decide +kernel
theorem dX4_withdraw_1 : decode cX4_withdraw 1 = .ok (.getfield 10, 3) := by decide +kernel
theorem dX4_withdraw_4 : decode cX4_withdraw 4 = .ok (.iload_n 1, 1) := by decide +kernel
theorem dX4_withdraw_5 : decode cX4_withdraw 5 = .ok (.invokevirtual 213, 3) := by decide +kernel
theorem dX4_withdraw_8 : decode cX4_withdraw 8 = .ok (.astore_n 2, 1) := by decide +kernel
theorem dX4_withdraw_9 : decode cX4_withdraw 9 = .ok (.aload_n 2, 1) := by decide +kernel
theorem dX4_withdraw_10 : decode cX4_withdraw 10 = .ok (.ifnonnull 7, 3) := by decide +kernel
theorem dX4_withdraw_13 : decode cX4_withdraw 13 = .ok (.sipush (-1001), 3) := by decide +kernel
theorem dX4_withdraw_16 : decode cX4_withdraw 16 = .ok (.ireturn, 1) := by decide +kernel
theorem dX4_withdraw_17 : decode cX4_withdraw 17 = .ok (.aload_n 0, 1) := by decide +kernel
theorem dX4_withdraw_18 : decode cX4_withdraw 18 = .ok (.getfield 10, 3) := by decide +kernel
theorem dX4_withdraw_21 : decode cX4_withdraw 21 = .ok (.getfield 217, 3) := by decide +kernel
theorem dX4_withdraw_24 : decode cX4_withdraw 24 = .ok (.aload_n 2, 1) := by decide +kernel
theorem dX4_withdraw_25 : decode cX4_withdraw 25 = .ok (.getfield 212, 3) := by decide +kernel
theorem dX4_withdraw_28 : decode cX4_withdraw 28 = .ok (.invokestatic 98, 3) := by decide +kernel
theorem dX4_withdraw_31 : decode cX4_withdraw 31 = .ok (.iconst 1, 1) := by decide +kernel
theorem dX4_withdraw_32 : decode cX4_withdraw 32 = .ok (.if_icmp .eq 7, 3) := by decide +kernel
theorem dX4_withdraw_35 : decode cX4_withdraw 35 = .ok (.sipush (-1002), 3) := by decide +kernel
theorem dX4_withdraw_38 : decode cX4_withdraw 38 = .ok (.ireturn, 1) := by decide +kernel
theorem dX4_withdraw_39 : decode cX4_withdraw 39 = .ok (.aload_n 0, 1) := by decide +kernel
theorem dX4_withdraw_40 : decode cX4_withdraw 40 = .ok (.invokevirtual 52, 3) := by decide +kernel
theorem dX4_withdraw_43 : decode cX4_withdraw 43 = .ok (.aload_n 0, 1) := by decide +kernel
theorem dX4_withdraw_44 : decode cX4_withdraw 44 = .ok (.getfield 10, 3) := by decide +kernel
theorem dX4_withdraw_47 : decode cX4_withdraw 47 = .ok (.aload_n 2, 1) := by decide +kernel
theorem dX4_withdraw_48 : decode cX4_withdraw 48 = .ok (.iconst 2, 1) := by decide +kernel
theorem dX4_withdraw_49 : decode cX4_withdraw 49 = .ok (.invokevirtual 220, 3) := by decide +kernel
theorem dX4_withdraw_52 : decode cX4_withdraw 52 = .ok (.aload_n 0, 1) := by decide +kernel
theorem dX4_withdraw_53 : decode cX4_withdraw 53 = .ok (.getfield 10, 3) := by decide +kernel
theorem dX4_withdraw_56 : decode cX4_withdraw 56 = .ok (.aload_n 2, 1) := by decide +kernel
theorem dX4_withdraw_57 : decode cX4_withdraw 57 = .ok (.getfield 224, 3) := by decide +kernel
theorem dX4_withdraw_60 : decode cX4_withdraw 60 = .ok (.aload_n 2, 1) := by decide +kernel
theorem dX4_withdraw_61 : decode cX4_withdraw 61 = .ok (.getfield 228, 3) := by decide +kernel
theorem dX4_withdraw_64 : decode cX4_withdraw 64 = .ok (.invokevirtual 231, 3) := by decide +kernel
theorem dX4_withdraw_67 : decode cX4_withdraw 67 = .ok (.ireturn, 1) := by decide +kernel
set_option maxRecDepth 20000 in
theorem ggX4_permit_X2_permitAt : GoodIn wsX4_permit wsX2_permitAt := goodIn_r _ [13, 14, 15, 45, 46, 47, 48, 49, 50, 51, 52, 53, 54, 55, 56, 57] (by decide +kernel) (by decide +kernel)
set_option maxRecDepth 20000 in
theorem gX4_permit_X2_permitAt : GoodIn wsX4_permit (wsV RX4 213 RX2 yX2_permitAt wsX2_permitAt) := goodIn_app (goodIn_of _ (by decide +kernel)) ggX4_permit_X2_permitAt
set_option maxRecDepth 20000 in
theorem ggX4_permit_X2_useOf : GoodIn wsX4_permit wsX2_useOf := goodIn_r _ [19, 20, 21, 22, 23, 24, 45, 46, 47, 48, 49, 50, 51, 52, 53, 54, 55, 56, 57, 38, 39, 40, 41, 42, 43, 44] (by decide +kernel) (by decide +kernel)
set_option maxRecDepth 20000 in
theorem gX4_permit_X2_useOf : GoodIn wsX4_permit (wsV RX4 231 RX2 yX2_useOf wsX2_useOf) := goodIn_app (goodIn_of _ (by decide +kernel)) ggX4_permit_X2_useOf
set_option maxRecDepth 20000 in
theorem ggX4_permit_X4_at : GoodIn wsX4_permit wsX4_at := goodIn_r _ [24] (by decide +kernel) (by decide +kernel)
set_option maxRecDepth 20000 in
theorem gX4_permit_X4_at : GoodIn wsX4_permit (va_wsS RX4 98 yX4_at wsX4_at) := goodIn_app (goodIn_of _ (by decide +kernel)) ggX4_permit_X4_at
theorem dX4_permit_0 : decode cX4_permit 0 = .ok (.aload_n 0, 1) := by decide +kernel
theorem dX4_permit_1 : decode cX4_permit 1 = .ok (.getfield 10, 3) := by decide +kernel
theorem dX4_permit_4 : decode cX4_permit 4 = .ok (.iload_n 1, 1) := by decide +kernel
theorem dX4_permit_5 : decode cX4_permit 5 = .ok (.invokevirtual 213, 3) := by decide +kernel
theorem dX4_permit_8 : decode cX4_permit 8 = .ok (.astore_n 3, 1) := by decide +kernel
theorem dX4_permit_9 : decode cX4_permit 9 = .ok (.aload_n 3, 1) := by decide +kernel
theorem dX4_permit_10 : decode cX4_permit 10 = .ok (.ifnonnull 7, 3) := by decide +kernel
theorem dX4_permit_13 : decode cX4_permit 13 = .ok (.sipush (-1001), 3) := by decide +kernel
theorem dX4_permit_16 : decode cX4_permit 16 = .ok (.ireturn, 1) := by decide +kernel
theorem dX4_permit_17 : decode cX4_permit 17 = .ok (.iload_n 2, 1) := by decide +kernel
theorem dX4_permit_18 : decode cX4_permit 18 = .ok (.tableswitch 92 0 5 #[38, 46, 51, 56, 61, 77], 38) := by decide +kernel
theorem dX4_permit_56 : decode cX4_permit 56 = .ok (.aload_n 3, 1) := by decide +kernel
theorem dX4_permit_57 : decode cX4_permit 57 = .ok (.getfield 224, 3) := by decide +kernel
theorem dX4_permit_60 : decode cX4_permit 60 = .ok (.getfield 64, 3) := by decide +kernel
theorem dX4_permit_63 : decode cX4_permit 63 = .ok (.ireturn, 1) := by decide +kernel
theorem dX4_permit_64 : decode cX4_permit 64 = .ok (.aload_n 3, 1) := by decide +kernel
theorem dX4_permit_65 : decode cX4_permit 65 = .ok (.getfield 235, 3) := by decide +kernel
theorem dX4_permit_68 : decode cX4_permit 68 = .ok (.ireturn, 1) := by decide +kernel
theorem dX4_permit_69 : decode cX4_permit 69 = .ok (.aload_n 3, 1) := by decide +kernel
theorem dX4_permit_70 : decode cX4_permit 70 = .ok (.getfield 228, 3) := by decide +kernel
theorem dX4_permit_73 : decode cX4_permit 73 = .ok (.ireturn, 1) := by decide +kernel
theorem dX4_permit_74 : decode cX4_permit 74 = .ok (.aload_n 3, 1) := by decide +kernel
theorem dX4_permit_75 : decode cX4_permit 75 = .ok (.getfield 238, 3) := by decide +kernel
theorem dX4_permit_78 : decode cX4_permit 78 = .ok (.ireturn, 1) := by decide +kernel
theorem dX4_permit_79 : decode cX4_permit 79 = .ok (.aload_n 0, 1) := by decide +kernel
theorem dX4_permit_80 : decode cX4_permit 80 = .ok (.getfield 10, 3) := by decide +kernel
theorem dX4_permit_83 : decode cX4_permit 83 = .ok (.aload_n 3, 1) := by decide +kernel
theorem dX4_permit_84 : decode cX4_permit 84 = .ok (.getfield 224, 3) := by decide +kernel
theorem dX4_permit_87 : decode cX4_permit 87 = .ok (.aload_n 3, 1) := by decide +kernel
theorem dX4_permit_88 : decode cX4_permit 88 = .ok (.getfield 228, 3) := by decide +kernel
theorem dX4_permit_91 : decode cX4_permit 91 = .ok (.invokevirtual 231, 3) := by decide +kernel
theorem dX4_permit_94 : decode cX4_permit 94 = .ok (.ireturn, 1) := by decide +kernel
theorem dX4_permit_95 : decode cX4_permit 95 = .ok (.aload_n 0, 1) := by decide +kernel
theorem dX4_permit_96 : decode cX4_permit 96 = .ok (.getfield 10, 3) := by decide +kernel
theorem dX4_permit_99 : decode cX4_permit 99 = .ok (.getfield 217, 3) := by decide +kernel
theorem dX4_permit_102 : decode cX4_permit 102 = .ok (.aload_n 3, 1) := by decide +kernel
theorem dX4_permit_103 : decode cX4_permit 103 = .ok (.getfield 212, 3) := by decide +kernel
theorem dX4_permit_106 : decode cX4_permit 106 = .ok (.invokestatic 98, 3) := by decide +kernel
theorem dX4_permit_109 : decode cX4_permit 109 = .ok (.ireturn, 1) := by decide +kernel
theorem dX4_permit_110 : decode cX4_permit 110 = .ok (.sipush (-1001), 3) := by decide +kernel
theorem dX4_permit_113 : decode cX4_permit 113 = .ok (.ireturn, 1) := by decide +kernel
set_option maxRecDepth 20000 in
theorem ggX4_inOrder_X2_validAt : GoodIn wsX4_inOrder wsX2_validAt := goodIn_r _ [8, 9, 10, 29, 30, 31, 32, 33, 34, 35, 36, 37, 38, 39, 40, 41] (by decide +kernel) (by decide +kernel)
set_option maxRecDepth 20000 in
theorem gX4_inOrder_X2_validAt : GoodIn wsX4_inOrder (wsV RX4 241 RX2 yX2_validAt wsX2_validAt) := goodIn_app (goodIn_of _ (by decide +kernel)) ggX4_inOrder_X2_validAt
set_option maxRecDepth 20000 in
theorem ggX4_inOrder_X2_validAhead : GoodIn wsX4_inOrder wsX2_validAhead := goodIn_r _ [14, 9, 15, 5, 6, 7, 8, 10, 16, 17, 18, 19, 20, 21, 22, 23, 29, 30, 31, 32, 33, 34, 35, 36, 37, 38, 39, 40, 41, 42, 43, 44, 45, 46, 47, 48] (by decide +kernel) (by decide +kernel)
set_option maxRecDepth 20000 in
theorem gX4_inOrder_X2_validAhead : GoodIn wsX4_inOrder (wsV RX4 244 RX2 yX2_validAhead wsX2_validAhead) := goodIn_app (goodIn_of _ (by decide +kernel)) ggX4_inOrder_X2_validAhead
theorem dX4_inOrder_0 : decode cX4_inOrder 0 = .ok (.iload_n 1, 1) := by decide +kernel
theorem dX4_inOrder_1 : decode cX4_inOrder 1 = .ok (.ifCond .ge 7, 3) := by decide +kernel
theorem dX4_inOrder_4 : decode cX4_inOrder 4 = .ok (.sipush (-1001), 3) := by decide +kernel
theorem dX4_inOrder_7 : decode cX4_inOrder 7 = .ok (.ireturn, 1) := by decide +kernel
theorem dX4_inOrder_8 : decode cX4_inOrder 8 = .ok (.iconst 0, 1) := by decide +kernel
theorem dX4_inOrder_9 : decode cX4_inOrder 9 = .ok (.istore_n 2, 1) := by decide +kernel
theorem dX4_inOrder_10 : decode cX4_inOrder 10 = .ok (.iload_n 2, 1) := by decide +kernel
theorem dX4_inOrder_11 : decode cX4_inOrder 11 = .ok (.aload_n 0, 1) := by decide +kernel
theorem dX4_inOrder_12 : decode cX4_inOrder 12 = .ok (.getfield 10, 3) := by decide +kernel
theorem dX4_inOrder_15 : decode cX4_inOrder 15 = .ok (.getfield 152, 3) := by decide +kernel
theorem dX4_inOrder_18 : decode cX4_inOrder 18 = .ok (.if_icmp .ge 39, 3) := by decide +kernel
theorem dX4_inOrder_21 : decode cX4_inOrder 21 = .ok (.aload_n 0, 1) := by decide +kernel
theorem dX4_inOrder_22 : decode cX4_inOrder 22 = .ok (.getfield 10, 3) := by decide +kernel
theorem dX4_inOrder_25 : decode cX4_inOrder 25 = .ok (.iload_n 2, 1) := by decide +kernel
theorem dX4_inOrder_26 : decode cX4_inOrder 26 = .ok (.invokevirtual 241, 3) := by decide +kernel
theorem dX4_inOrder_29 : decode cX4_inOrder 29 = .ok (.astore_n 3, 1) := by decide +kernel
theorem dX4_inOrder_30 : decode cX4_inOrder 30 = .ok (.aload_n 3, 1) := by decide +kernel
theorem dX4_inOrder_31 : decode cX4_inOrder 31 = .ok (.ifnull 20, 3) := by decide +kernel
theorem dX4_inOrder_34 : decode cX4_inOrder 34 = .ok (.aload_n 0, 1) := by decide +kernel
theorem dX4_inOrder_35 : decode cX4_inOrder 35 = .ok (.getfield 10, 3) := by decide +kernel
theorem dX4_inOrder_38 : decode cX4_inOrder 38 = .ok (.aload_n 3, 1) := by decide +kernel
theorem dX4_inOrder_39 : decode cX4_inOrder 39 = .ok (.invokevirtual 244, 3) := by decide +kernel
theorem dX4_inOrder_42 : decode cX4_inOrder 42 = .ok (.iload_n 1, 1) := by decide +kernel
theorem dX4_inOrder_43 : decode cX4_inOrder 43 = .ok (.if_icmp .ne 8, 3) := by decide +kernel
theorem dX4_inOrder_46 : decode cX4_inOrder 46 = .ok (.aload_n 3, 1) := by decide +kernel
theorem dX4_inOrder_47 : decode cX4_inOrder 47 = .ok (.getfield 212, 3) := by decide +kernel
theorem dX4_inOrder_50 : decode cX4_inOrder 50 = .ok (.ireturn, 1) := by decide +kernel
theorem dX4_inOrder_51 : decode cX4_inOrder 51 = .ok (.iinc 2 1, 3) := by decide +kernel
theorem dX4_inOrder_54 : decode cX4_inOrder 54 = .ok (.goto (-44), 3) := by decide +kernel
theorem dX4_inOrder_57 : decode cX4_inOrder 57 = .ok (.sipush (-1004), 3) := by decide +kernel
theorem dX4_inOrder_60 : decode cX4_inOrder 60 = .ok (.ireturn, 1) := by decide +kernel
set_option maxRecDepth 20000 in
theorem ggX4_inTheWay_X2_craneAt : GoodIn wsX4_inTheWay wsX2_craneAt := goodIn_r _ [6, 7, 8, 72, 73, 74, 75, 76, 77, 78, 79, 80, 81, 82, 83, 84] (by decide +kernel) (by decide +kernel)
set_option maxRecDepth 20000 in
theorem gX4_inTheWay_X2_craneAt : GoodIn wsX4_inTheWay (wsV RX4 67 RX2 yX2_craneAt wsX2_craneAt) := goodIn_app (goodIn_of _ (by decide +kernel)) ggX4_inTheWay_X2_craneAt
set_option maxRecDepth 20000 in
theorem ggX4_inTheWay_X4_isPlan : GoodIn wsX4_inTheWay wsX4_isPlan := goodIn_r _ [12, 13, 14, 11, 15, 16, 17, 18, 19, 20, 21] (by decide +kernel) (by decide +kernel)
set_option maxRecDepth 20000 in
theorem gX4_inTheWay_X4_isPlan : GoodIn wsX4_inTheWay (va_wsS RX4 192 yX4_isPlan wsX4_isPlan) := goodIn_app (goodIn_of _ (by decide +kernel)) ggX4_inTheWay_X4_isPlan
set_option maxRecDepth 20000 in
theorem ggX4_inTheWay_X2_lowestSharing : GoodIn wsX4_inTheWay wsX2_lowestSharing := goodIn_r _ [25, 26, 27, 28, 29, 30, 5, 31, 32, 33, 34, 35, 36, 37, 38, 39, 40, 41, 42, 43, 44, 45, 46, 47, 48, 49, 50, 51, 52, 53, 54, 55, 56, 57, 58, 59, 11, 60, 61, 62, 63, 64, 65, 66, 72, 73, 74, 75, 76, 77, 78, 79, 80, 81, 82, 83, 84, 85, 86, 87, 88, 89, 90, 91, 92, 93, 94, 95, 96, 97, 98] (by decide +kernel) (by decide +kernel)
set_option maxRecDepth 20000 in
theorem gX4_inTheWay_X2_lowestSharing : GoodIn wsX4_inTheWay (wsV RX4 252 RX2 yX2_lowestSharing wsX2_lowestSharing) := goodIn_app (goodIn_of _ (by decide +kernel)) ggX4_inTheWay_X2_lowestSharing
theorem dX4_inTheWay_0 : decode cX4_inTheWay 0 = .ok (.aload_n 0, 1) := by decide +kernel
theorem dX4_inTheWay_1 : decode cX4_inTheWay 1 = .ok (.getfield 10, 3) := by decide +kernel
theorem dX4_inTheWay_4 : decode cX4_inTheWay 4 = .ok (.iload_n 1, 1) := by decide +kernel
theorem dX4_inTheWay_5 : decode cX4_inTheWay 5 = .ok (.invokevirtual 67, 3) := by decide +kernel
theorem dX4_inTheWay_8 : decode cX4_inTheWay 8 = .ok (.astore 5, 2) := by decide +kernel
theorem dX4_inTheWay_10 : decode cX4_inTheWay 10 = .ok (.aload 5, 2) := by decide +kernel
theorem dX4_inTheWay_12 : decode cX4_inTheWay 12 = .ok (.ifnull 13, 3) := by decide +kernel
theorem dX4_inTheWay_15 : decode cX4_inTheWay 15 = .ok (.iload_n 2, 1) := by decide +kernel
theorem dX4_inTheWay_16 : decode cX4_inTheWay 16 = .ok (.iload_n 3, 1) := by decide +kernel
theorem dX4_inTheWay_17 : decode cX4_inTheWay 17 = .ok (.iload 4, 2) := by decide +kernel
theorem dX4_inTheWay_19 : decode cX4_inTheWay 19 = .ok (.invokestatic 192, 3) := by decide +kernel
theorem dX4_inTheWay_22 : decode cX4_inTheWay 22 = .ok (.ifCond .ne 7, 3) := by decide +kernel
theorem dX4_inTheWay_25 : decode cX4_inTheWay 25 = .ok (.sipush (-1001), 3) := by decide +kernel
theorem dX4_inTheWay_28 : decode cX4_inTheWay 28 = .ok (.ireturn, 1) := by decide +kernel
theorem dX4_inTheWay_29 : decode cX4_inTheWay 29 = .ok (.aload_n 0, 1) := by decide +kernel
theorem dX4_inTheWay_30 : decode cX4_inTheWay 30 = .ok (.getfield 10, 3) := by decide +kernel
theorem dX4_inTheWay_33 : decode cX4_inTheWay 33 = .ok (.aload 5, 2) := by decide +kernel
theorem dX4_inTheWay_35 : decode cX4_inTheWay 35 = .ok (.iload_n 2, 1) := by decide +kernel
theorem dX4_inTheWay_36 : decode cX4_inTheWay 36 = .ok (.iload_n 3, 1) := by decide +kernel
theorem dX4_inTheWay_37 : decode cX4_inTheWay 37 = .ok (.iload 4, 2) := by decide +kernel
theorem dX4_inTheWay_39 : decode cX4_inTheWay 39 = .ok (.invokevirtual 252, 3) := by decide +kernel
theorem dX4_inTheWay_42 : decode cX4_inTheWay 42 = .ok (.istore 6, 2) := by decide +kernel
theorem dX4_inTheWay_44 : decode cX4_inTheWay 44 = .ok (.iload 6, 2) := by decide +kernel
theorem dX4_inTheWay_46 : decode cX4_inTheWay 46 = .ok (.iconst (-1), 1) := by decide +kernel
theorem dX4_inTheWay_47 : decode cX4_inTheWay 47 = .ok (.if_icmp .ne 9, 3) := by decide +kernel
theorem dX4_inTheWay_50 : decode cX4_inTheWay 50 = .ok (.sipush (-1004), 3) := by decide +kernel
theorem dX4_inTheWay_53 : decode cX4_inTheWay 53 = .ok (.goto 5, 3) := by decide +kernel
theorem dX4_inTheWay_56 : decode cX4_inTheWay 56 = .ok (.iload 6, 2) := by decide +kernel
theorem dX4_inTheWay_58 : decode cX4_inTheWay 58 = .ok (.ireturn, 1) := by decide +kernel
set_option maxRecDepth 20000 in
theorem ggX4_remember_X4_dropOldest : GoodIn wsX4_remember wsX4_dropOldest := goodIn_r _ [8, 2, 1, 9, 10, 11, 7, 12, 35, 36, 37, 38, 39] (by decide +kernel) (by decide +kernel)
set_option maxRecDepth 20000 in
theorem gX4_remember_X4_dropOldest : GoodIn wsX4_remember (wsV RX4 265 RX4 yX4_dropOldest wsX4_dropOldest) := goodIn_app (goodIn_of _ (by decide +kernel)) ggX4_remember_X4_dropOldest
set_option maxRecDepth 20000 in
theorem ggX4_remember_X4_pastAt : GoodIn wsX4_remember wsX4_pastAt := goodIn_r _ [12, 2, 35, 36, 37, 38, 39] (by decide +kernel) (by decide +kernel)
set_option maxRecDepth 20000 in
theorem gX4_remember_X4_pastAt : GoodIn wsX4_remember (wsV RX4 171 RX4 yX4_pastAt wsX4_pastAt) := goodIn_app (goodIn_of _ (by decide +kernel)) ggX4_remember_X4_pastAt
set_option maxRecDepth 20000 in
theorem ggX4_remember_X2_copyFrom : GoodIn wsX4_remember wsX2_copyFrom := goodIn_r _ [17, 18, 19, 20, 21, 22, 23, 24, 25, 26, 27, 28, 29, 30, 31, 32, 33, 34, 40, 41, 42, 43, 44, 45, 46, 47, 48, 49, 50, 51, 52] (by decide +kernel) (by decide +kernel)
set_option maxRecDepth 20000 in
theorem gX4_remember_X2_copyFrom : GoodIn wsX4_remember (wsV RX4 175 RX2 yX2_copyFrom wsX2_copyFrom) := goodIn_app (goodIn_of _ (by decide +kernel)) ggX4_remember_X2_copyFrom
theorem dX4_remember_0 : decode cX4_remember 0 = .ok (.aload_n 0, 1) := by decide +kernel
theorem dX4_remember_1 : decode cX4_remember 1 = .ok (.getfield 23, 3) := by decide +kernel
theorem dX4_remember_4 : decode cX4_remember 4 = .ok (.aload_n 0, 1) := by decide +kernel
theorem dX4_remember_5 : decode cX4_remember 5 = .ok (.getfield 19, 3) := by decide +kernel
theorem dX4_remember_8 : decode cX4_remember 8 = .ok (.arraylength, 1) := by decide +kernel
theorem dX4_remember_9 : decode cX4_remember 9 = .ok (.if_icmp .lt 7, 3) := by decide +kernel
theorem dX4_remember_12 : decode cX4_remember 12 = .ok (.aload_n 0, 1) := by decide +kernel
theorem dX4_remember_13 : decode cX4_remember 13 = .ok (.invokevirtual 265, 3) := by decide +kernel
theorem dX4_remember_16 : decode cX4_remember 16 = .ok (.aload_n 0, 1) := by decide +kernel
theorem dX4_remember_17 : decode cX4_remember 17 = .ok (.aload_n 0, 1) := by decide +kernel
theorem dX4_remember_18 : decode cX4_remember 18 = .ok (.getfield 23, 3) := by decide +kernel
theorem dX4_remember_21 : decode cX4_remember 21 = .ok (.invokevirtual 171, 3) := by decide +kernel
theorem dX4_remember_24 : decode cX4_remember 24 = .ok (.astore_n 1, 1) := by decide +kernel
theorem dX4_remember_25 : decode cX4_remember 25 = .ok (.aload_n 1, 1) := by decide +kernel
theorem dX4_remember_26 : decode cX4_remember 26 = .ok (.ifnull 21, 3) := by decide +kernel
theorem dX4_remember_29 : decode cX4_remember 29 = .ok (.aload_n 1, 1) := by decide +kernel
theorem dX4_remember_30 : decode cX4_remember 30 = .ok (.aload_n 0, 1) := by decide +kernel
theorem dX4_remember_31 : decode cX4_remember 31 = .ok (.getfield 10, 3) := by decide +kernel
theorem dX4_remember_34 : decode cX4_remember 34 = .ok (.invokevirtual 175, 3) := by decide +kernel
theorem dX4_remember_37 : decode cX4_remember 37 = .ok (.aload_n 0, 1) := by decide +kernel
theorem dX4_remember_38 : decode cX4_remember 38 = .ok (.dup, 1) := by decide +kernel
theorem dX4_remember_39 : decode cX4_remember 39 = .ok (.getfield 23, 3) := by decide +kernel
theorem dX4_remember_42 : decode cX4_remember 42 = .ok (.iconst 1, 1) := by decide +kernel
theorem dX4_remember_43 : decode cX4_remember 43 = .ok (.iadd, 1) := by decide +kernel
theorem dX4_remember_44 : decode cX4_remember 44 = .ok (.putfield 23, 3) := by decide +kernel
theorem dX4_remember_47 : decode cX4_remember 47 = .ok (.return_, 1) := by decide +kernel
set_option maxRecDepth 20000 in
theorem ggX4_dropOldest_X4_pastAt : GoodIn wsX4_dropOldest wsX4_pastAt := goodIn_r _ [7, 1, 8, 9, 10, 11, 12] (by decide +kernel) (by decide +kernel)
set_option maxRecDepth 20000 in
theorem gX4_dropOldest_X4_pastAt : GoodIn wsX4_dropOldest (wsV RX4 171 RX4 yX4_pastAt wsX4_pastAt) := goodIn_app (goodIn_of _ (by decide +kernel)) ggX4_dropOldest_X4_pastAt
theorem dX4_dropOldest_0 : decode cX4_dropOldest 0 = .ok (.aload_n 0, 1) := by decide +kernel
theorem dX4_dropOldest_1 : decode cX4_dropOldest 1 = .ok (.iconst 0, 1) := by decide +kernel
theorem dX4_dropOldest_2 : decode cX4_dropOldest 2 = .ok (.invokevirtual 171, 3) := by decide +kernel
theorem dX4_dropOldest_5 : decode cX4_dropOldest 5 = .ok (.astore_n 1, 1) := by decide +kernel
theorem dX4_dropOldest_6 : decode cX4_dropOldest 6 = .ok (.iconst 1, 1) := by decide +kernel
theorem dX4_dropOldest_7 : decode cX4_dropOldest 7 = .ok (.istore_n 2, 1) := by decide +kernel
theorem dX4_dropOldest_8 : decode cX4_dropOldest 8 = .ok (.iload_n 2, 1) := by decide +kernel
theorem dX4_dropOldest_9 : decode cX4_dropOldest 9 = .ok (.aload_n 0, 1) := by decide +kernel
theorem dX4_dropOldest_10 : decode cX4_dropOldest 10 = .ok (.getfield 19, 3) := by decide +kernel
theorem dX4_dropOldest_13 : decode cX4_dropOldest 13 = .ok (.arraylength, 1) := by decide +kernel
theorem dX4_dropOldest_14 : decode cX4_dropOldest 14 = .ok (.if_icmp .ge 23, 3) := by decide +kernel
theorem dX4_dropOldest_17 : decode cX4_dropOldest 17 = .ok (.aload_n 0, 1) := by decide +kernel
theorem dX4_dropOldest_18 : decode cX4_dropOldest 18 = .ok (.getfield 19, 3) := by decide +kernel
theorem dX4_dropOldest_21 : decode cX4_dropOldest 21 = .ok (.iload_n 2, 1) := by decide +kernel
theorem dX4_dropOldest_22 : decode cX4_dropOldest 22 = .ok (.iconst 1, 1) := by decide +kernel
theorem dX4_dropOldest_23 : decode cX4_dropOldest 23 = .ok (.isub, 1) := by decide +kernel
theorem dX4_dropOldest_24 : decode cX4_dropOldest 24 = .ok (.aload_n 0, 1) := by decide +kernel
theorem dX4_dropOldest_25 : decode cX4_dropOldest 25 = .ok (.getfield 19, 3) := by decide +kernel
theorem dX4_dropOldest_28 : decode cX4_dropOldest 28 = .ok (.iload_n 2, 1) := by decide +kernel
theorem dX4_dropOldest_29 : decode cX4_dropOldest 29 = .ok (.aaload, 1) := by decide +kernel
theorem dX4_dropOldest_30 : decode cX4_dropOldest 30 = .ok (.aastore, 1) := by decide +kernel
theorem dX4_dropOldest_31 : decode cX4_dropOldest 31 = .ok (.iinc 2 1, 3) := by decide +kernel
theorem dX4_dropOldest_34 : decode cX4_dropOldest 34 = .ok (.goto (-26), 3) := by decide +kernel
theorem dX4_dropOldest_37 : decode cX4_dropOldest 37 = .ok (.aload_n 1, 1) := by decide +kernel
theorem dX4_dropOldest_38 : decode cX4_dropOldest 38 = .ok (.ifnull 27, 3) := by decide +kernel
theorem dX4_dropOldest_41 : decode cX4_dropOldest 41 = .ok (.aload_n 0, 1) := by decide +kernel
theorem dX4_dropOldest_42 : decode cX4_dropOldest 42 = .ok (.getfield 19, 3) := by decide +kernel
theorem dX4_dropOldest_45 : decode cX4_dropOldest 45 = .ok (.aload_n 0, 1) := by decide +kernel
theorem dX4_dropOldest_46 : decode cX4_dropOldest 46 = .ok (.getfield 19, 3) := by decide +kernel
theorem dX4_dropOldest_49 : decode cX4_dropOldest 49 = .ok (.arraylength, 1) := by decide +kernel
theorem dX4_dropOldest_50 : decode cX4_dropOldest 50 = .ok (.iconst 1, 1) := by decide +kernel
theorem dX4_dropOldest_51 : decode cX4_dropOldest 51 = .ok (.isub, 1) := by decide +kernel
theorem dX4_dropOldest_52 : decode cX4_dropOldest 52 = .ok (.aload_n 1, 1) := by decide +kernel
theorem dX4_dropOldest_53 : decode cX4_dropOldest 53 = .ok (.aastore, 1) := by decide +kernel
theorem dX4_dropOldest_54 : decode cX4_dropOldest 54 = .ok (.aload_n 0, 1) := by decide +kernel
theorem dX4_dropOldest_55 : decode cX4_dropOldest 55 = .ok (.aload_n 0, 1) := by decide +kernel
theorem dX4_dropOldest_56 : decode cX4_dropOldest 56 = .ok (.getfield 19, 3) := by decide +kernel
theorem dX4_dropOldest_59 : decode cX4_dropOldest 59 = .ok (.arraylength, 1) := by decide +kernel
theorem dX4_dropOldest_60 : decode cX4_dropOldest 60 = .ok (.iconst 1, 1) := by decide +kernel
theorem dX4_dropOldest_61 : decode cX4_dropOldest 61 = .ok (.isub, 1) := by decide +kernel
theorem dX4_dropOldest_62 : decode cX4_dropOldest 62 = .ok (.putfield 23, 3) := by decide +kernel
theorem dX4_dropOldest_65 : decode cX4_dropOldest 65 = .ok (.return_, 1) := by decide +kernel
theorem dX4_pastAt_0 : decode cX4_pastAt 0 = .ok (.iload_n 1, 1) := by decide +kernel
theorem dX4_pastAt_1 : decode cX4_pastAt 1 = .ok (.ifCond .lt 21, 3) := by decide +kernel
theorem dX4_pastAt_4 : decode cX4_pastAt 4 = .ok (.iload_n 1, 1) := by decide +kernel
theorem dX4_pastAt_5 : decode cX4_pastAt 5 = .ok (.aload_n 0, 1) := by decide +kernel
theorem dX4_pastAt_6 : decode cX4_pastAt 6 = .ok (.getfield 19, 3) := by decide +kernel
theorem dX4_pastAt_9 : decode cX4_pastAt 9 = .ok (.arraylength, 1) := by decide +kernel
theorem dX4_pastAt_10 : decode cX4_pastAt 10 = .ok (.if_icmp .ge 12, 3) := by decide +kernel
theorem dX4_pastAt_13 : decode cX4_pastAt 13 = .ok (.aload_n 0, 1) := by decide +kernel
theorem dX4_pastAt_14 : decode cX4_pastAt 14 = .ok (.getfield 19, 3) := by decide +kernel
theorem dX4_pastAt_17 : decode cX4_pastAt 17 = .ok (.iload_n 1, 1) := by decide +kernel
theorem dX4_pastAt_18 : decode cX4_pastAt 18 = .ok (.aaload, 1) := by decide +kernel
theorem dX4_pastAt_19 : decode cX4_pastAt 19 = .ok (.goto 4, 3) := by decide +kernel
theorem dX4_pastAt_22 : decode cX4_pastAt 22 = .ok (.aconst_null, 1) := by decide +kernel
theorem dX4_pastAt_23 : decode cX4_pastAt 23 = .ok (.areturn, 1) := by decide +kernel
theorem dX4_isIn_0 : decode cX4_isIn 0 = .ok (.iload_n 0, 1) := by decide +kernel
theorem dX4_isIn_1 : decode cX4_isIn 1 = .ok (.iload_n 1, 1) := by decide +kernel
theorem dX4_isIn_2 : decode cX4_isIn 2 = .ok (.if_icmp .lt 12, 3) := by decide +kernel
theorem dX4_isIn_5 : decode cX4_isIn 5 = .ok (.iload_n 0, 1) := by decide +kernel
theorem dX4_isIn_6 : decode cX4_isIn 6 = .ok (.iload_n 2, 1) := by decide +kernel
theorem dX4_isIn_7 : decode cX4_isIn 7 = .ok (.if_icmp .gt 7, 3) := by decide +kernel
theorem dX4_isIn_10 : decode cX4_isIn 10 = .ok (.iconst 1, 1) := by decide +kernel
theorem dX4_isIn_11 : decode cX4_isIn 11 = .ok (.goto 4, 3) := by decide +kernel
theorem dX4_isIn_14 : decode cX4_isIn 14 = .ok (.iconst 0, 1) := by decide +kernel
theorem dX4_isIn_15 : decode cX4_isIn 15 = .ok (.ireturn, 1) := by decide +kernel
set_option maxRecDepth 20000 in
theorem ggX4_isCell_X4_isIn : GoodIn wsX4_isCell wsX4_isIn := goodIn_r _ [4] (by decide +kernel) (by decide +kernel)
set_option maxRecDepth 20000 in
theorem gX4_isCell_X4_isIn : GoodIn wsX4_isCell (va_wsS RX4 38 yX4_isIn wsX4_isIn) := goodIn_app (goodIn_of _ (by decide +kernel)) ggX4_isCell_X4_isIn
theorem dX4_isCell_0 : decode cX4_isCell 0 = .ok (.iload_n 0, 1) := by decide +kernel
theorem dX4_isCell_1 : decode cX4_isCell 1 = .ok (.iconst 0, 1) := by decide +kernel
theorem dX4_isCell_2 : decode cX4_isCell 2 = .ok (.bipush 15, 2) := by decide +kernel
theorem dX4_isCell_4 : decode cX4_isCell 4 = .ok (.invokestatic 38, 3) := by decide +kernel
theorem dX4_isCell_7 : decode cX4_isCell 7 = .ok (.ifCond .eq 17, 3) := by decide +kernel
theorem dX4_isCell_10 : decode cX4_isCell 10 = .ok (.iload_n 1, 1) := by decide +kernel
theorem dX4_isCell_11 : decode cX4_isCell 11 = .ok (.iconst 0, 1) := by decide +kernel
theorem dX4_isCell_12 : decode cX4_isCell 12 = .ok (.bipush 15, 2) := by decide +kernel
theorem dX4_isCell_14 : decode cX4_isCell 14 = .ok (.invokestatic 38, 3) := by decide +kernel
theorem dX4_isCell_17 : decode cX4_isCell 17 = .ok (.ifCond .eq 7, 3) := by decide +kernel
theorem dX4_isCell_20 : decode cX4_isCell 20 = .ok (.iconst 1, 1) := by decide +kernel
theorem dX4_isCell_21 : decode cX4_isCell 21 = .ok (.goto 4, 3) := by decide +kernel
theorem dX4_isCell_24 : decode cX4_isCell 24 = .ok (.iconst 0, 1) := by decide +kernel
theorem dX4_isCell_25 : decode cX4_isCell 25 = .ok (.ireturn, 1) := by decide +kernel
set_option maxRecDepth 20000 in
theorem ggX4_isStreet_X4_isIn : GoodIn wsX4_isStreet wsX4_isIn := goodIn_r _ [4] (by decide +kernel) (by decide +kernel)
set_option maxRecDepth 20000 in
theorem gX4_isStreet_X4_isIn : GoodIn wsX4_isStreet (va_wsS RX4 38 yX4_isIn wsX4_isIn) := goodIn_app (goodIn_of _ (by decide +kernel)) ggX4_isStreet_X4_isIn
theorem dX4_isStreet_0 : decode cX4_isStreet 0 = .ok (.iload_n 0, 1) := by decide +kernel
theorem dX4_isStreet_1 : decode cX4_isStreet 1 = .ok (.iconst 0, 1) := by decide +kernel
theorem dX4_isStreet_2 : decode cX4_isStreet 2 = .ok (.iconst 3, 1) := by decide +kernel
theorem dX4_isStreet_3 : decode cX4_isStreet 3 = .ok (.invokestatic 38, 3) := by decide +kernel
theorem dX4_isStreet_6 : decode cX4_isStreet 6 = .ok (.ireturn, 1) := by decide +kernel
set_option maxRecDepth 20000 in
theorem ggX4_isNight_X4_isIn : GoodIn wsX4_isNight wsX4_isIn := goodIn_r _ [4] (by decide +kernel) (by decide +kernel)
set_option maxRecDepth 20000 in
theorem gX4_isNight_X4_isIn : GoodIn wsX4_isNight (va_wsS RX4 38 yX4_isIn wsX4_isIn) := goodIn_app (goodIn_of _ (by decide +kernel)) ggX4_isNight_X4_isIn
theorem dX4_isNight_0 : decode cX4_isNight 0 = .ok (.iload_n 0, 1) := by decide +kernel
theorem dX4_isNight_1 : decode cX4_isNight 1 = .ok (.iconst 0, 1) := by decide +kernel
theorem dX4_isNight_2 : decode cX4_isNight 2 = .ok (.bipush 29, 2) := by decide +kernel
theorem dX4_isNight_4 : decode cX4_isNight 4 = .ok (.invokestatic 38, 3) := by decide +kernel
theorem dX4_isNight_7 : decode cX4_isNight 7 = .ok (.ireturn, 1) := by decide +kernel
set_option maxRecDepth 20000 in
theorem ggX4_isSwing_X4_isIn : GoodIn wsX4_isSwing wsX4_isIn := goodIn_r _ [4] (by decide +kernel) (by decide +kernel)
set_option maxRecDepth 20000 in
theorem gX4_isSwing_X4_isIn : GoodIn wsX4_isSwing (va_wsS RX4 38 yX4_isIn wsX4_isIn) := goodIn_app (goodIn_of _ (by decide +kernel)) ggX4_isSwing_X4_isIn
theorem dX4_isSwing_0 : decode cX4_isSwing 0 = .ok (.iload_n 0, 1) := by decide +kernel
theorem dX4_isSwing_1 : decode cX4_isSwing 1 = .ok (.iconst 1, 1) := by decide +kernel
theorem dX4_isSwing_2 : decode cX4_isSwing 2 = .ok (.sipush 255, 3) := by decide +kernel
theorem dX4_isSwing_5 : decode cX4_isSwing 5 = .ok (.invokestatic 38, 3) := by decide +kernel
theorem dX4_isSwing_8 : decode cX4_isSwing 8 = .ok (.ireturn, 1) := by decide +kernel
set_option maxRecDepth 20000 in
theorem ggX4_isPlan_X4_isNight : GoodIn wsX4_isPlan wsX4_isNight := goodIn_r _ [4, 5, 6, 3, 7] (by decide +kernel) (by decide +kernel)
set_option maxRecDepth 20000 in
theorem gX4_isPlan_X4_isNight : GoodIn wsX4_isPlan (va_wsS RX4 118 yX4_isNight wsX4_isNight) := goodIn_app (goodIn_of _ (by decide +kernel)) ggX4_isPlan_X4_isNight
set_option maxRecDepth 20000 in
theorem ggX4_isPlan_X4_isIn : GoodIn wsX4_isPlan wsX4_isIn := goodIn_r _ [7] (by decide +kernel) (by decide +kernel)
set_option maxRecDepth 20000 in
theorem gX4_isPlan_X4_isIn : GoodIn wsX4_isPlan (va_wsS RX4 38 yX4_isIn wsX4_isIn) := goodIn_app (goodIn_of _ (by decide +kernel)) ggX4_isPlan_X4_isIn
set_option maxRecDepth 20000 in
theorem ggX4_isPlan_X4_isSwing : GoodIn wsX4_isPlan wsX4_isSwing := goodIn_r _ [10, 5, 6, 3, 7] (by decide +kernel) (by decide +kernel)
set_option maxRecDepth 20000 in
theorem gX4_isPlan_X4_isSwing : GoodIn wsX4_isPlan (va_wsS RX4 179 yX4_isSwing wsX4_isSwing) := goodIn_app (goodIn_of _ (by decide +kernel)) ggX4_isPlan_X4_isSwing
theorem dX4_isPlan_0 : decode cX4_isPlan 0 = .ok (.iload_n 0, 1) := by decide +kernel
theorem dX4_isPlan_1 : decode cX4_isPlan 1 = .ok (.invokestatic 118, 3) := by decide +kernel
theorem dX4_isPlan_4 : decode cX4_isPlan 4 = .ok (.ifCond .eq 35, 3) := by decide +kernel
theorem dX4_isPlan_7 : decode cX4_isPlan 7 = .ok (.iload_n 1, 1) := by decide +kernel
theorem dX4_isPlan_8 : decode cX4_isPlan 8 = .ok (.iconst 0, 1) := by decide +kernel
theorem dX4_isPlan_9 : decode cX4_isPlan 9 = .ok (.bipush 99, 2) := by decide +kernel
theorem dX4_isPlan_11 : decode cX4_isPlan 11 = .ok (.invokestatic 38, 3) := by decide +kernel
theorem dX4_isPlan_14 : decode cX4_isPlan 14 = .ok (.ifCond .eq 25, 3) := by decide +kernel
theorem dX4_isPlan_17 : decode cX4_isPlan 17 = .ok (.iload_n 1, 1) := by decide +kernel
theorem dX4_isPlan_18 : decode cX4_isPlan 18 = .ok (.bipush 10, 2) := by decide +kernel
theorem dX4_isPlan_20 : decode cX4_isPlan 20 = .ok (.idiv, 1) := by decide +kernel
theorem dX4_isPlan_21 : decode cX4_isPlan 21 = .ok (.iload_n 1, 1) := by decide +kernel
theorem dX4_isPlan_22 : decode cX4_isPlan 22 = .ok (.bipush 10, 2) := by decide +kernel
theorem dX4_isPlan_24 : decode cX4_isPlan 24 = .ok (.irem, 1) := by decide +kernel
theorem dX4_isPlan_25 : decode cX4_isPlan 25 = .ok (.if_icmp .gt 14, 3) := by decide +kernel
theorem dX4_isPlan_28 : decode cX4_isPlan 28 = .ok (.iload_n 2, 1) := by decide +kernel
theorem dX4_isPlan_29 : decode cX4_isPlan 29 = .ok (.invokestatic 179, 3) := by decide +kernel
theorem dX4_isPlan_32 : decode cX4_isPlan 32 = .ok (.ifCond .eq 7, 3) := by decide +kernel
theorem dX4_isPlan_35 : decode cX4_isPlan 35 = .ok (.iconst 1, 1) := by decide +kernel
theorem dX4_isPlan_36 : decode cX4_isPlan 36 = .ok (.goto 4, 3) := by decide +kernel
theorem dX4_isPlan_39 : decode cX4_isPlan 39 = .ok (.iconst 0, 1) := by decide +kernel
theorem dX4_isPlan_40 : decode cX4_isPlan 40 = .ok (.ireturn, 1) := by decide +kernel
theorem dX4_streetNight_0 : decode cX4_streetNight 0 = .ok (.bipush 30, 2) := by decide +kernel
theorem dX4_streetNight_2 : decode cX4_streetNight 2 = .ok (.iload_n 0, 1) := by decide +kernel
theorem dX4_streetNight_3 : decode cX4_streetNight 3 = .ok (.imul, 1) := by decide +kernel
theorem dX4_streetNight_4 : decode cX4_streetNight 4 = .ok (.iload_n 1, 1) := by decide +kernel
theorem dX4_streetNight_5 : decode cX4_streetNight 5 = .ok (.iadd, 1) := by decide +kernel
theorem dX4_streetNight_6 : decode cX4_streetNight 6 = .ok (.ireturn, 1) := by decide +kernel
theorem dX4_at_0 : decode cX4_at 0 = .ok (.iload_n 1, 1) := by decide +kernel
theorem dX4_at_1 : decode cX4_at 1 = .ok (.ifCond .lt 15, 3) := by decide +kernel
theorem dX4_at_4 : decode cX4_at 4 = .ok (.iload_n 1, 1) := by decide +kernel
theorem dX4_at_5 : decode cX4_at 5 = .ok (.aload_n 0, 1) := by decide +kernel
theorem dX4_at_6 : decode cX4_at 6 = .ok (.arraylength, 1) := by decide +kernel
theorem dX4_at_7 : decode cX4_at 7 = .ok (.if_icmp .ge 9, 3) := by decide +kernel
theorem dX4_at_10 : decode cX4_at 10 = .ok (.aload_n 0, 1) := by decide +kernel
theorem dX4_at_11 : decode cX4_at 11 = .ok (.iload_n 1, 1) := by decide +kernel
theorem dX4_at_12 : decode cX4_at 12 = .ok (.iaload, 1) := by decide +kernel
theorem dX4_at_13 : decode cX4_at 13 = .ok (.goto 4, 3) := by decide +kernel
theorem dX4_at_16 : decode cX4_at 16 = .ok (.iconst 0, 1) := by decide +kernel
theorem dX4_at_17 : decode cX4_at 17 = .ok (.ireturn, 1) := by decide +kernel
theorem dX4_put_0 : decode cX4_put 0 = .ok (.iload_n 1, 1) := by decide +kernel
theorem dX4_put_1 : decode cX4_put 1 = .ok (.ifCond .lt 13, 3) := by decide +kernel
theorem dX4_put_4 : decode cX4_put 4 = .ok (.iload_n 1, 1) := by decide +kernel
theorem dX4_put_5 : decode cX4_put 5 = .ok (.aload_n 0, 1) := by decide +kernel
theorem dX4_put_6 : decode cX4_put 6 = .ok (.arraylength, 1) := by decide +kernel
theorem dX4_put_7 : decode cX4_put 7 = .ok (.if_icmp .ge 7, 3) := by decide +kernel
theorem dX4_put_10 : decode cX4_put 10 = .ok (.aload_n 0, 1) := by decide +kernel
theorem dX4_put_11 : decode cX4_put 11 = .ok (.iload_n 1, 1) := by decide +kernel
theorem dX4_put_12 : decode cX4_put 12 = .ok (.iload_n 2, 1) := by decide +kernel
theorem dX4_put_13 : decode cX4_put 13 = .ok (.iastore, 1) := by decide +kernel
theorem dX4_put_14 : decode cX4_put 14 = .ok (.return_, 1) := by decide +kernel
theorem dJ13_bitCount_95d88_0 : decode cJ13_bitCount_95d88 0 = .ok (.lload_n 0, 1) := by decide +kernel
theorem dJ13_bitCount_95d88_1 : decode cJ13_bitCount_95d88 1 = .ok (.lload_n 0, 1) := by decide +kernel
theorem dJ13_bitCount_95d88_2 : decode cJ13_bitCount_95d88 2 = .ok (.iconst 1, 1) := by decide +kernel
theorem dJ13_bitCount_95d88_3 : decode cJ13_bitCount_95d88 3 = .ok (.lushr, 1) := by decide +kernel
theorem dJ13_bitCount_95d88_4 : decode cJ13_bitCount_95d88 4 = .ok (.ldc2_w 314, 3) := by decide +kernel
theorem dJ13_bitCount_95d88_7 : decode cJ13_bitCount_95d88 7 = .ok (.land, 1) := by decide +kernel
theorem dJ13_bitCount_95d88_8 : decode cJ13_bitCount_95d88 8 = .ok (.lsub, 1) := by decide +kernel
theorem dJ13_bitCount_95d88_9 : decode cJ13_bitCount_95d88 9 = .ok (.lstore_n 0, 1) := by decide +kernel
theorem dJ13_bitCount_95d88_10 : decode cJ13_bitCount_95d88 10 = .ok (.lload_n 0, 1) := by decide +kernel
theorem dJ13_bitCount_95d88_11 : decode cJ13_bitCount_95d88 11 = .ok (.ldc2_w 316, 3) := by decide +kernel
theorem dJ13_bitCount_95d88_14 : decode cJ13_bitCount_95d88 14 = .ok (.land, 1) := by decide +kernel
theorem dJ13_bitCount_95d88_15 : decode cJ13_bitCount_95d88 15 = .ok (.lload_n 0, 1) := by decide +kernel
theorem dJ13_bitCount_95d88_16 : decode cJ13_bitCount_95d88 16 = .ok (.iconst 2, 1) := by decide +kernel
theorem dJ13_bitCount_95d88_17 : decode cJ13_bitCount_95d88 17 = .ok (.lushr, 1) := by decide +kernel
theorem dJ13_bitCount_95d88_18 : decode cJ13_bitCount_95d88 18 = .ok (.ldc2_w 316, 3) := by decide +kernel
theorem dJ13_bitCount_95d88_21 : decode cJ13_bitCount_95d88 21 = .ok (.land, 1) := by decide +kernel
theorem dJ13_bitCount_95d88_22 : decode cJ13_bitCount_95d88 22 = .ok (.ladd, 1) := by decide +kernel
theorem dJ13_bitCount_95d88_23 : decode cJ13_bitCount_95d88 23 = .ok (.lstore_n 0, 1) := by decide +kernel
theorem dJ13_bitCount_95d88_24 : decode cJ13_bitCount_95d88 24 = .ok (.lload_n 0, 1) := by decide +kernel
theorem dJ13_bitCount_95d88_25 : decode cJ13_bitCount_95d88 25 = .ok (.lload_n 0, 1) := by decide +kernel
theorem dJ13_bitCount_95d88_26 : decode cJ13_bitCount_95d88 26 = .ok (.iconst 4, 1) := by decide +kernel
theorem dJ13_bitCount_95d88_27 : decode cJ13_bitCount_95d88 27 = .ok (.lushr, 1) := by decide +kernel
theorem dJ13_bitCount_95d88_28 : decode cJ13_bitCount_95d88 28 = .ok (.ladd, 1) := by decide +kernel
theorem dJ13_bitCount_95d88_29 : decode cJ13_bitCount_95d88 29 = .ok (.ldc2_w 318, 3) := by decide +kernel
theorem dJ13_bitCount_95d88_32 : decode cJ13_bitCount_95d88 32 = .ok (.land, 1) := by decide +kernel
theorem dJ13_bitCount_95d88_33 : decode cJ13_bitCount_95d88 33 = .ok (.lstore_n 0, 1) := by decide +kernel
theorem dJ13_bitCount_95d88_34 : decode cJ13_bitCount_95d88 34 = .ok (.lload_n 0, 1) := by decide +kernel
theorem dJ13_bitCount_95d88_35 : decode cJ13_bitCount_95d88 35 = .ok (.lload_n 0, 1) := by decide +kernel
theorem dJ13_bitCount_95d88_36 : decode cJ13_bitCount_95d88 36 = .ok (.bipush 8, 2) := by decide +kernel
theorem dJ13_bitCount_95d88_38 : decode cJ13_bitCount_95d88 38 = .ok (.lushr, 1) := by decide +kernel
theorem dJ13_bitCount_95d88_39 : decode cJ13_bitCount_95d88 39 = .ok (.ladd, 1) := by decide +kernel
theorem dJ13_bitCount_95d88_40 : decode cJ13_bitCount_95d88 40 = .ok (.lstore_n 0, 1) := by decide +kernel
theorem dJ13_bitCount_95d88_41 : decode cJ13_bitCount_95d88 41 = .ok (.lload_n 0, 1) := by decide +kernel
theorem dJ13_bitCount_95d88_42 : decode cJ13_bitCount_95d88 42 = .ok (.lload_n 0, 1) := by decide +kernel
theorem dJ13_bitCount_95d88_43 : decode cJ13_bitCount_95d88 43 = .ok (.bipush 16, 2) := by decide +kernel
theorem dJ13_bitCount_95d88_45 : decode cJ13_bitCount_95d88 45 = .ok (.lushr, 1) := by decide +kernel
theorem dJ13_bitCount_95d88_46 : decode cJ13_bitCount_95d88 46 = .ok (.ladd, 1) := by decide +kernel
theorem dJ13_bitCount_95d88_47 : decode cJ13_bitCount_95d88 47 = .ok (.lstore_n 0, 1) := by decide +kernel
theorem dJ13_bitCount_95d88_48 : decode cJ13_bitCount_95d88 48 = .ok (.lload_n 0, 1) := by decide +kernel
theorem dJ13_bitCount_95d88_49 : decode cJ13_bitCount_95d88 49 = .ok (.lload_n 0, 1) := by decide +kernel
theorem dJ13_bitCount_95d88_50 : decode cJ13_bitCount_95d88 50 = .ok (.bipush 32, 2) := by decide +kernel
theorem dJ13_bitCount_95d88_52 : decode cJ13_bitCount_95d88 52 = .ok (.lushr, 1) := by decide +kernel
theorem dJ13_bitCount_95d88_53 : decode cJ13_bitCount_95d88 53 = .ok (.ladd, 1) := by decide +kernel
theorem dJ13_bitCount_95d88_54 : decode cJ13_bitCount_95d88 54 = .ok (.lstore_n 0, 1) := by decide +kernel
theorem dJ13_bitCount_95d88_55 : decode cJ13_bitCount_95d88 55 = .ok (.lload_n 0, 1) := by decide +kernel
theorem dJ13_bitCount_95d88_56 : decode cJ13_bitCount_95d88 56 = .ok (.l2i, 1) := by decide +kernel
theorem dJ13_bitCount_95d88_57 : decode cJ13_bitCount_95d88 57 = .ok (.bipush 127, 2) := by decide +kernel
theorem dJ13_bitCount_95d88_59 : decode cJ13_bitCount_95d88 59 = .ok (.iand, 1) := by decide +kernel
theorem dJ13_bitCount_95d88_60 : decode cJ13_bitCount_95d88 60 = .ok (.ireturn, 1) := by decide +kernel
theorem dJ9_abs_0f7a4_0 : decode cJ9_abs_0f7a4 0 = .ok (.iload_n 0, 1) := by decide +kernel
theorem dJ9_abs_0f7a4_1 : decode cJ9_abs_0f7a4 1 = .ok (.ifCond .ge 8, 3) := by decide +kernel
theorem dJ9_abs_0f7a4_4 : decode cJ9_abs_0f7a4 4 = .ok (.iload_n 0, 1) := by decide +kernel
theorem dJ9_abs_0f7a4_5 : decode cJ9_abs_0f7a4 5 = .ok (.ineg, 1) := by decide +kernel
theorem dJ9_abs_0f7a4_6 : decode cJ9_abs_0f7a4 6 = .ok (.goto 4, 3) := by decide +kernel
theorem dJ9_abs_0f7a4_9 : decode cJ9_abs_0f7a4 9 = .ok (.iload_n 0, 1) := by decide +kernel
theorem dJ9_abs_0f7a4_10 : decode cJ9_abs_0f7a4 10 = .ok (.ireturn, 1) := by decide +kernel
theorem dJ7_fill_53178_0 : decode cJ7_fill_53178 0 = .ok (.iconst 0, 1) := by decide +kernel
theorem dJ7_fill_53178_1 : decode cJ7_fill_53178 1 = .ok (.istore_n 2, 1) := by decide +kernel
theorem dJ7_fill_53178_2 : decode cJ7_fill_53178 2 = .ok (.aload_n 0, 1) := by decide +kernel
theorem dJ7_fill_53178_3 : decode cJ7_fill_53178 3 = .ok (.arraylength, 1) := by decide +kernel
theorem dJ7_fill_53178_4 : decode cJ7_fill_53178 4 = .ok (.istore_n 3, 1) := by decide +kernel
theorem dJ7_fill_53178_5 : decode cJ7_fill_53178 5 = .ok (.iload_n 2, 1) := by decide +kernel
theorem dJ7_fill_53178_6 : decode cJ7_fill_53178 6 = .ok (.iload_n 3, 1) := by decide +kernel
theorem dJ7_fill_53178_7 : decode cJ7_fill_53178 7 = .ok (.if_icmp .ge 13, 3) := by decide +kernel
theorem dJ7_fill_53178_10 : decode cJ7_fill_53178 10 = .ok (.aload_n 0, 1) := by decide +kernel
theorem dJ7_fill_53178_11 : decode cJ7_fill_53178 11 = .ok (.iload_n 2, 1) := by decide +kernel
theorem dJ7_fill_53178_12 : decode cJ7_fill_53178 12 = .ok (.iload_n 1, 1) := by decide +kernel
theorem dJ7_fill_53178_13 : decode cJ7_fill_53178 13 = .ok (.iastore, 1) := by decide +kernel
theorem dJ7_fill_53178_14 : decode cJ7_fill_53178 14 = .ok (.iinc 2 1, 3) := by decide +kernel
theorem dJ7_fill_53178_17 : decode cJ7_fill_53178 17 = .ok (.goto (-12), 3) := by decide +kernel
theorem dJ7_fill_53178_20 : decode cJ7_fill_53178 20 = .ok (.return_, 1) := by decide +kernel
theorem dL_cell_0 : decode cL_cell 0 = .ok (.iload_n 1, 1) := by decide +kernel
theorem dL_cell_1 : decode cL_cell 1 = .ok (.aload_n 0, 1) := by decide +kernel
theorem dL_cell_2 : decode cL_cell 2 = .ok (.arraylength, 1) := by decide +kernel
theorem dL_cell_3 : decode cL_cell 3 = .ok (.if_icmp .ge 9, 3) := by decide +kernel
theorem dL_cell_6 : decode cL_cell 6 = .ok (.aload_n 0, 1) := by decide +kernel
theorem dL_cell_7 : decode cL_cell 7 = .ok (.iload_n 1, 1) := by decide +kernel
theorem dL_cell_8 : decode cL_cell 8 = .ok (.iaload, 1) := by decide +kernel
theorem dL_cell_9 : decode cL_cell 9 = .ok (.goto 10, 3) := by decide +kernel
theorem dL_cell_12 : decode cL_cell 12 = .ok (.ldc 7, 2) := by decide +kernel
theorem dL_cell_14 : decode cL_cell 14 = .ok (.iload_n 1, 1) := by decide +kernel
theorem dL_cell_15 : decode cL_cell 15 = .ok (.imul, 1) := by decide +kernel
theorem dL_cell_16 : decode cL_cell 16 = .ok (.bipush 109, 2) := by decide +kernel
theorem dL_cell_18 : decode cL_cell 18 = .ok (.iadd, 1) := by decide +kernel
theorem dL_cell_19 : decode cL_cell 19 = .ok (.ldc 8, 2) := by decide +kernel
theorem dL_cell_21 : decode cL_cell 21 = .ok (.iand, 1) := by decide +kernel
theorem dL_cell_22 : decode cL_cell 22 = .ok (.ireturn, 1) := by decide +kernel
set_option maxRecDepth 20000 in
theorem ggL_holds_X4_count : GoodIn wsL_holds wsX4_count := goodIn_r _ [5, 6, 7, 8, 9, 10, 11, 12, 13, 14, 15, 16, 17, 18, 19, 20, 21, 4, 22, 23, 24, 25, 26, 27, 28, 29, 30, 31, 32, 33, 34, 35, 36, 37, 38, 39, 40, 41, 42, 43, 44, 45, 46, 47, 48, 49, 50, 51, 52, 53, 54, 55, 56, 57, 58, 59, 60, 61, 62, 63, 64, 65, 66, 67, 68, 69, 70, 71, 72, 73, 74, 75, 76, 77, 195, 196, 197, 198, 199, 200, 201, 202, 203, 204, 205, 206, 207, 208, 209, 210, 211, 212, 213, 214, 215, 216, 217, 218, 219, 220, 221, 222, 223, 224, 225, 226, 227, 228, 229, 230, 231, 232, 233, 234, 235] (by decide +kernel) (by decide +kernel)
set_option maxRecDepth 20000 in
theorem gL_holds_X4_count : GoodIn wsL_holds (wsV RL 9 RX4 yX4_count wsX4_count) := goodIn_app (goodIn_of _ (by decide +kernel)) ggL_holds_X4_count
set_option maxRecDepth 20000 in
theorem ggL_holds_X4_permit : GoodIn wsL_holds wsX4_permit := goodIn_r _ [81, 6, 82, 83, 84, 85, 86, 87, 88, 89, 90, 91, 17, 92, 19, 93, 94, 36, 37, 38, 39, 40, 21, 4, 22, 77, 195, 196, 197, 198, 199, 222, 223, 224, 225, 226, 227, 228, 229, 230, 231, 232, 233, 234, 235, 200, 201, 202, 203, 204, 205, 206, 207, 208, 209, 210, 211, 212] (by decide +kernel) (by decide +kernel)
set_option maxRecDepth 20000 in
theorem gL_holds_X4_permit : GoodIn wsL_holds (wsV RL 15 RX4 yX4_permit wsX4_permit) := goodIn_app (goodIn_of _ (by decide +kernel)) ggL_holds_X4_permit
set_option maxRecDepth 20000 in
theorem ggL_holds_X4_street : GoodIn wsL_holds wsX4_street := goodIn_r _ [98, 6, 99, 100, 101, 102, 103, 4, 104, 105, 106, 107, 108, 109, 110, 111, 112, 113, 17, 114, 115, 56, 116, 117, 21, 22, 118, 77, 119, 120, 121, 122, 123, 124, 125, 126, 127, 128, 129, 27, 28, 29, 30, 31, 32, 33, 34, 130, 131, 132, 60, 133, 62, 134, 70, 35, 36, 37, 38, 39, 40, 135, 136, 137, 138, 195, 196, 197, 198, 199, 200, 201, 202, 203, 204, 205, 206, 207, 208, 209, 210, 211, 212, 222, 223, 224, 225, 226, 227, 228, 229, 230, 231, 232, 233, 234, 235] (by decide +kernel) (by decide +kernel)
set_option maxRecDepth 20000 in
theorem gL_holds_X4_street : GoodIn wsL_holds (wsV RL 19 RX4 yX4_street wsX4_street) := goodIn_app (goodIn_of _ (by decide +kernel)) ggL_holds_X4_street
set_option maxRecDepth 20000 in
theorem ggL_holds_X4_craneOf : GoodIn wsL_holds wsX4_craneOf := goodIn_r _ [142, 6, 143, 144, 145, 146, 147, 148, 83, 149, 150, 151, 17, 152, 153, 154, 77, 21, 4, 22, 155, 156, 157, 158, 27, 30, 31, 32, 33, 34, 57, 58, 59, 60, 61, 62, 63, 159, 160, 161, 162, 56, 51, 195, 196, 197, 198, 199, 229, 230, 231, 232, 233, 234, 235, 200, 201, 202, 203, 204, 205, 206, 207, 208, 209, 210, 211, 212, 222, 223, 224, 225, 226, 227, 228] (by decide +kernel) (by decide +kernel)
set_option maxRecDepth 20000 in
theorem gL_holds_X4_craneOf : GoodIn wsL_holds (wsV RL 23 RX4 yX4_craneOf wsX4_craneOf) := goodIn_app (goodIn_of _ (by decide +kernel)) ggL_holds_X4_craneOf
set_option maxRecDepth 20000 in
theorem ggL_holds_X4_refusal : GoodIn wsL_holds wsX4_refusal := goodIn_r _ [166, 6, 149, 150, 151, 17, 152, 153, 154, 167, 168, 4, 169, 108, 109, 110, 105, 106, 107, 170, 171, 172, 173, 174, 175, 176, 177, 178, 179, 180, 181, 27, 30, 31, 32, 33, 34, 57, 58, 59, 60, 61, 62, 63, 64, 65, 66, 67, 68, 69, 70, 182, 183, 184, 185, 186, 21, 22, 187, 160, 161, 162, 56, 51, 188, 189, 190, 191, 192, 47, 48, 49, 50, 28, 52, 53, 54, 55, 46, 71, 72, 73, 74, 75, 76, 193, 127, 128, 129, 29, 130, 131, 132, 133, 134, 35, 36, 37, 38, 39, 40, 194, 120, 121, 122, 123, 124, 116, 117, 125, 112, 113, 114, 115, 195, 196, 197, 198, 199, 200, 201, 202, 203, 204, 205, 206, 207, 208, 209, 210, 211, 212, 229, 230, 231, 232, 233, 234, 235, 222, 223, 224, 225, 226, 227, 228] (by decide +kernel) (by decide +kernel)
set_option maxRecDepth 20000 in
theorem gL_holds_X4_refusal : GoodIn wsL_holds (wsV RL 26 RX4 yX4_refusal wsX4_refusal) := goodIn_app (goodIn_of _ (by decide +kernel)) ggL_holds_X4_refusal
theorem dL_holds_0 : decode cL_holds 0 = .ok (.iconst 0, 1) := by decide +kernel
theorem dL_holds_1 : decode cL_holds 1 = .ok (.istore_n 1, 1) := by decide +kernel
theorem dL_holds_2 : decode cL_holds 2 = .ok (.iconst 0, 1) := by decide +kernel
theorem dL_holds_3 : decode cL_holds 3 = .ok (.istore_n 2, 1) := by decide +kernel
theorem dL_holds_4 : decode cL_holds 4 = .ok (.iconst 0, 1) := by decide +kernel
theorem dL_holds_5 : decode cL_holds 5 = .ok (.istore_n 3, 1) := by decide +kernel
theorem dL_holds_6 : decode cL_holds 6 = .ok (.aload_n 0, 1) := by decide +kernel
theorem dL_holds_7 : decode cL_holds 7 = .ok (.iconst 1, 1) := by decide +kernel
theorem dL_holds_8 : decode cL_holds 8 = .ok (.invokevirtual 9, 3) := by decide +kernel
theorem dL_holds_11 : decode cL_holds 11 = .ok (.bipush 24, 2) := by decide +kernel
theorem dL_holds_13 : decode cL_holds 13 = .ok (.if_icmp .gt 7, 3) := by decide +kernel
theorem dL_holds_16 : decode cL_holds 16 = .ok (.iconst 1, 1) := by decide +kernel
theorem dL_holds_17 : decode cL_holds 17 = .ok (.goto 4, 3) := by decide +kernel
theorem dL_holds_20 : decode cL_holds 20 = .ok (.iconst 0, 1) := by decide +kernel
theorem dL_holds_21 : decode cL_holds 21 = .ok (.istore 4, 2) := by decide +kernel
theorem dL_holds_23 : decode cL_holds 23 = .ok (.iconst 0, 1) := by decide +kernel
theorem dL_holds_24 : decode cL_holds 24 = .ok (.istore 5, 2) := by decide +kernel
theorem dL_holds_26 : decode cL_holds 26 = .ok (.iload 5, 2) := by decide +kernel
theorem dL_holds_28 : decode cL_holds 28 = .ok (.aload_n 0, 1) := by decide +kernel
theorem dL_holds_29 : decode cL_holds 29 = .ok (.iconst 2, 1) := by decide +kernel
theorem dL_holds_30 : decode cL_holds 30 = .ok (.invokevirtual 9, 3) := by decide +kernel
theorem dL_holds_33 : decode cL_holds 33 = .ok (.if_icmp .ge 132, 3) := by decide +kernel
theorem dL_holds_36 : decode cL_holds 36 = .ok (.iload 4, 2) := by decide +kernel
theorem dL_holds_38 : decode cL_holds 38 = .ok (.ifCond .eq 127, 3) := by decide +kernel
theorem dL_holds_41 : decode cL_holds 41 = .ok (.aload_n 0, 1) := by decide +kernel
theorem dL_holds_42 : decode cL_holds 42 = .ok (.iload 5, 2) := by decide +kernel
theorem dL_holds_44 : decode cL_holds 44 = .ok (.iconst 5, 1) := by decide +kernel
theorem dL_holds_45 : decode cL_holds 45 = .ok (.invokevirtual 15, 3) := by decide +kernel
theorem dL_holds_48 : decode cL_holds 48 = .ok (.istore 6, 2) := by decide +kernel
theorem dL_holds_50 : decode cL_holds 50 = .ok (.iload_n 1, 1) := by decide +kernel
theorem dL_holds_51 : decode cL_holds 51 = .ok (.iload 6, 2) := by decide +kernel
theorem dL_holds_53 : decode cL_holds 53 = .ok (.iconst 2, 1) := by decide +kernel
theorem dL_holds_54 : decode cL_holds 54 = .ok (.if_icmp .ne 7, 3) := by decide +kernel
theorem dL_holds_57 : decode cL_holds 57 = .ok (.iconst 1, 1) := by decide +kernel
theorem dL_holds_58 : decode cL_holds 58 = .ok (.goto 15, 3) := by decide +kernel
theorem dL_holds_61 : decode cL_holds 61 = .ok (.iload 6, 2) := by decide +kernel
theorem dL_holds_63 : decode cL_holds 63 = .ok (.iconst 3, 1) := by decide +kernel
theorem dL_holds_64 : decode cL_holds 64 = .ok (.if_icmp .ne 8, 3) := by decide +kernel
theorem dL_holds_67 : decode cL_holds 67 = .ok (.bipush 100, 2) := by decide +kernel
theorem dL_holds_69 : decode cL_holds 69 = .ok (.goto 4, 3) := by decide +kernel
theorem dL_holds_72 : decode cL_holds 72 = .ok (.iconst 0, 1) := by decide +kernel
theorem dL_holds_73 : decode cL_holds 73 = .ok (.iadd, 1) := by decide +kernel
theorem dL_holds_74 : decode cL_holds 74 = .ok (.istore_n 1, 1) := by decide +kernel
theorem dL_holds_75 : decode cL_holds 75 = .ok (.iload 6, 2) := by decide +kernel
theorem dL_holds_77 : decode cL_holds 77 = .ok (.iconst 1, 1) := by decide +kernel
theorem dL_holds_78 : decode cL_holds 78 = .ok (.if_icmp .ne 81, 3) := by decide +kernel
theorem dL_holds_81 : decode cL_holds 81 = .ok (.iinc 2 1, 3) := by decide +kernel
theorem dL_holds_84 : decode cL_holds 84 = .ok (.iload_n 3, 1) := by decide +kernel
theorem dL_holds_85 : decode cL_holds 85 = .ok (.aload_n 0, 1) := by decide +kernel
theorem dL_holds_86 : decode cL_holds 86 = .ok (.iload 5, 2) := by decide +kernel
theorem dL_holds_88 : decode cL_holds 88 = .ok (.iconst 4, 1) := by decide +kernel
theorem dL_holds_89 : decode cL_holds 89 = .ok (.invokevirtual 15, 3) := by decide +kernel
theorem dL_holds_92 : decode cL_holds 92 = .ok (.iadd, 1) := by decide +kernel
theorem dL_holds_93 : decode cL_holds 93 = .ok (.istore_n 3, 1) := by decide +kernel
theorem dL_holds_94 : decode cL_holds 94 = .ok (.aload_n 0, 1) := by decide +kernel
theorem dL_holds_95 : decode cL_holds 95 = .ok (.iload 5, 2) := by decide +kernel
theorem dL_holds_97 : decode cL_holds 97 = .ok (.iconst 0, 1) := by decide +kernel
theorem dL_holds_98 : decode cL_holds 98 = .ok (.invokevirtual 15, 3) := by decide +kernel
theorem dL_holds_101 : decode cL_holds 101 = .ok (.istore 7, 2) := by decide +kernel
theorem dL_holds_103 : decode cL_holds 103 = .ok (.aload_n 0, 1) := by decide +kernel
theorem dL_holds_104 : decode cL_holds 104 = .ok (.iload 5, 2) := by decide +kernel
theorem dL_holds_106 : decode cL_holds 106 = .ok (.iconst 1, 1) := by decide +kernel
theorem dL_holds_107 : decode cL_holds 107 = .ok (.invokevirtual 15, 3) := by decide +kernel
theorem dL_holds_110 : decode cL_holds 110 = .ok (.istore 8, 2) := by decide +kernel
theorem dL_holds_112 : decode cL_holds 112 = .ok (.aload_n 0, 1) := by decide +kernel
theorem dL_holds_113 : decode cL_holds 113 = .ok (.iconst 0, 1) := by decide +kernel
theorem dL_holds_114 : decode cL_holds 114 = .ok (.iload 8, 2) := by decide +kernel
theorem dL_holds_116 : decode cL_holds 116 = .ok (.bipush 6, 2) := by decide +kernel
theorem dL_holds_118 : decode cL_holds 118 = .ok (.invokevirtual 19, 3) := by decide +kernel
theorem dL_holds_121 : decode cL_holds 121 = .ok (.aload_n 0, 1) := by decide +kernel
theorem dL_holds_122 : decode cL_holds 122 = .ok (.iload 7, 2) := by decide +kernel
theorem dL_holds_124 : decode cL_holds 124 = .ok (.bipush 7, 2) := by decide +kernel
theorem dL_holds_126 : decode cL_holds 126 = .ok (.invokevirtual 23, 3) := by decide +kernel
theorem dL_holds_129 : decode cL_holds 129 = .ok (.if_icmp .ge 27, 3) := by decide +kernel
theorem dL_holds_132 : decode cL_holds 132 = .ok (.aload_n 0, 1) := by decide +kernel
theorem dL_holds_133 : decode cL_holds 133 = .ok (.iload 7, 2) := by decide +kernel
theorem dL_holds_135 : decode cL_holds 135 = .ok (.iload 8, 2) := by decide +kernel
theorem dL_holds_137 : decode cL_holds 137 = .ok (.aload_n 0, 1) := by decide +kernel
theorem dL_holds_138 : decode cL_holds 138 = .ok (.iload 5, 2) := by decide +kernel
theorem dL_holds_140 : decode cL_holds 140 = .ok (.iconst 2, 1) := by decide +kernel
theorem dL_holds_141 : decode cL_holds 141 = .ok (.invokevirtual 15, 3) := by decide +kernel
theorem dL_holds_144 : decode cL_holds 144 = .ok (.iconst 1, 1) := by decide +kernel
theorem dL_holds_145 : decode cL_holds 145 = .ok (.invokevirtual 26, 3) := by decide +kernel
theorem dL_holds_148 : decode cL_holds 148 = .ok (.iconst 1, 1) := by decide +kernel
theorem dL_holds_149 : decode cL_holds 149 = .ok (.if_icmp .ne 7, 3) := by decide +kernel
theorem dL_holds_152 : decode cL_holds 152 = .ok (.iconst 1, 1) := by decide +kernel
theorem dL_holds_153 : decode cL_holds 153 = .ok (.goto 4, 3) := by decide +kernel
theorem dL_holds_156 : decode cL_holds 156 = .ok (.iconst 0, 1) := by decide +kernel
theorem dL_holds_157 : decode cL_holds 157 = .ok (.istore 4, 2) := by decide +kernel
theorem dL_holds_159 : decode cL_holds 159 = .ok (.iinc 5 1, 3) := by decide +kernel
theorem dL_holds_162 : decode cL_holds 162 = .ok (.goto (-136), 3) := by decide +kernel
theorem dL_holds_165 : decode cL_holds 165 = .ok (.iconst 0, 1) := by decide +kernel
theorem dL_holds_166 : decode cL_holds 166 = .ok (.istore 5, 2) := by decide +kernel
theorem dL_holds_168 : decode cL_holds 168 = .ok (.iconst 0, 1) := by decide +kernel
theorem dL_holds_169 : decode cL_holds 169 = .ok (.istore 6, 2) := by decide +kernel
theorem dL_holds_171 : decode cL_holds 171 = .ok (.iload 6, 2) := by decide +kernel
theorem dL_holds_173 : decode cL_holds 173 = .ok (.bipush 120, 2) := by decide +kernel
theorem dL_holds_175 : decode cL_holds 175 = .ok (.if_icmp .ge 117, 3) := by decide +kernel
theorem dL_holds_178 : decode cL_holds 178 = .ok (.iload 4, 2) := by decide +kernel
theorem dL_holds_180 : decode cL_holds 180 = .ok (.ifCond .eq 112, 3) := by decide +kernel
theorem dL_holds_183 : decode cL_holds 183 = .ok (.iload 6, 2) := by decide +kernel
theorem dL_holds_185 : decode cL_holds 185 = .ok (.bipush 30, 2) := by decide +kernel
theorem dL_holds_187 : decode cL_holds 187 = .ok (.idiv, 1) := by decide +kernel
theorem dL_holds_188 : decode cL_holds 188 = .ok (.istore 7, 2) := by decide +kernel
theorem dL_holds_190 : decode cL_holds 190 = .ok (.iload 6, 2) := by decide +kernel
theorem dL_holds_192 : decode cL_holds 192 = .ok (.bipush 30, 2) := by decide +kernel
theorem dL_holds_194 : decode cL_holds 194 = .ok (.irem, 1) := by decide +kernel
theorem dL_holds_195 : decode cL_holds 195 = .ok (.istore 8, 2) := by decide +kernel
theorem dL_holds_197 : decode cL_holds 197 = .ok (.aload_n 0, 1) := by decide +kernel
theorem dL_holds_198 : decode cL_holds 198 = .ok (.iload 7, 2) := by decide +kernel
theorem dL_holds_200 : decode cL_holds 200 = .ok (.iload 8, 2) := by decide +kernel
theorem dL_holds_202 : decode cL_holds 202 = .ok (.iconst 3, 1) := by decide +kernel
theorem dL_holds_203 : decode cL_holds 203 = .ok (.invokevirtual 19, 3) := by decide +kernel
theorem dL_holds_206 : decode cL_holds 206 = .ok (.istore 9, 2) := by decide +kernel
theorem dL_holds_208 : decode cL_holds 208 = .ok (.iload 5, 2) := by decide +kernel
theorem dL_holds_210 : decode cL_holds 210 = .ok (.aload_n 0, 1) := by decide +kernel
theorem dL_holds_211 : decode cL_holds 211 = .ok (.iload 7, 2) := by decide +kernel
theorem dL_holds_213 : decode cL_holds 213 = .ok (.iload 8, 2) := by decide +kernel
theorem dL_holds_215 : decode cL_holds 215 = .ok (.iconst 4, 1) := by decide +kernel
theorem dL_holds_216 : decode cL_holds 216 = .ok (.invokevirtual 19, 3) := by decide +kernel
theorem dL_holds_219 : decode cL_holds 219 = .ok (.iadd, 1) := by decide +kernel
theorem dL_holds_220 : decode cL_holds 220 = .ok (.istore 5, 2) := by decide +kernel
theorem dL_holds_222 : decode cL_holds 222 = .ok (.aload_n 0, 1) := by decide +kernel
theorem dL_holds_223 : decode cL_holds 223 = .ok (.iload 7, 2) := by decide +kernel
theorem dL_holds_225 : decode cL_holds 225 = .ok (.iload 8, 2) := by decide +kernel
theorem dL_holds_227 : decode cL_holds 227 = .ok (.iconst 4, 1) := by decide +kernel
theorem dL_holds_228 : decode cL_holds 228 = .ok (.invokevirtual 19, 3) := by decide +kernel
theorem dL_holds_231 : decode cL_holds 231 = .ok (.iload 9, 2) := by decide +kernel
theorem dL_holds_233 : decode cL_holds 233 = .ok (.ifCond .ge 7, 3) := by decide +kernel
theorem dL_holds_236 : decode cL_holds 236 = .ok (.iconst 0, 1) := by decide +kernel
theorem dL_holds_237 : decode cL_holds 237 = .ok (.goto 5, 3) := by decide +kernel
theorem dL_holds_240 : decode cL_holds 240 = .ok (.iload 9, 2) := by decide +kernel
theorem dL_holds_242 : decode cL_holds 242 = .ok (.if_icmp .gt 41, 3) := by decide +kernel
theorem dL_holds_245 : decode cL_holds 245 = .ok (.iload 9, 2) := by decide +kernel
theorem dL_holds_247 : decode cL_holds 247 = .ok (.aload_n 0, 1) := by decide +kernel
theorem dL_holds_248 : decode cL_holds 248 = .ok (.iload 7, 2) := by decide +kernel
theorem dL_holds_250 : decode cL_holds 250 = .ok (.iload 8, 2) := by decide +kernel
theorem dL_holds_252 : decode cL_holds 252 = .ok (.iconst 0, 1) := by decide +kernel
theorem dL_holds_253 : decode cL_holds 253 = .ok (.invokevirtual 19, 3) := by decide +kernel
theorem dL_holds_256 : decode cL_holds 256 = .ok (.aload_n 0, 1) := by decide +kernel
theorem dL_holds_257 : decode cL_holds 257 = .ok (.iload 7, 2) := by decide +kernel
theorem dL_holds_259 : decode cL_holds 259 = .ok (.iload 8, 2) := by decide +kernel
theorem dL_holds_261 : decode cL_holds 261 = .ok (.iconst 1, 1) := by decide +kernel
theorem dL_holds_262 : decode cL_holds 262 = .ok (.invokevirtual 19, 3) := by decide +kernel
theorem dL_holds_265 : decode cL_holds 265 = .ok (.iadd, 1) := by decide +kernel
theorem dL_holds_266 : decode cL_holds 266 = .ok (.aload_n 0, 1) := by decide +kernel
theorem dL_holds_267 : decode cL_holds 267 = .ok (.iload 7, 2) := by decide +kernel
theorem dL_holds_269 : decode cL_holds 269 = .ok (.iload 8, 2) := by decide +kernel
theorem dL_holds_271 : decode cL_holds 271 = .ok (.iconst 2, 1) := by decide +kernel
theorem dL_holds_272 : decode cL_holds 272 = .ok (.invokevirtual 19, 3) := by decide +kernel
theorem dL_holds_275 : decode cL_holds 275 = .ok (.isub, 1) := by decide +kernel
theorem dL_holds_276 : decode cL_holds 276 = .ok (.if_icmp .ne 7, 3) := by decide +kernel
theorem dL_holds_279 : decode cL_holds 279 = .ok (.iconst 1, 1) := by decide +kernel
theorem dL_holds_280 : decode cL_holds 280 = .ok (.goto 4, 3) := by decide +kernel
theorem dL_holds_283 : decode cL_holds 283 = .ok (.iconst 0, 1) := by decide +kernel
theorem dL_holds_284 : decode cL_holds 284 = .ok (.istore 4, 2) := by decide +kernel
theorem dL_holds_286 : decode cL_holds 286 = .ok (.iinc 6 1, 3) := by decide +kernel
theorem dL_holds_289 : decode cL_holds 289 = .ok (.goto (-118), 3) := by decide +kernel
theorem dL_holds_292 : decode cL_holds 292 = .ok (.iconst 0, 1) := by decide +kernel
theorem dL_holds_293 : decode cL_holds 293 = .ok (.istore 6, 2) := by decide +kernel
theorem dL_holds_295 : decode cL_holds 295 = .ok (.iload 6, 2) := by decide +kernel
theorem dL_holds_297 : decode cL_holds 297 = .ok (.bipush 30, 2) := by decide +kernel
theorem dL_holds_299 : decode cL_holds 299 = .ok (.if_icmp .ge 68, 3) := by decide +kernel
theorem dL_holds_302 : decode cL_holds 302 = .ok (.iload 4, 2) := by decide +kernel
theorem dL_holds_304 : decode cL_holds 304 = .ok (.ifCond .eq 63, 3) := by decide +kernel
theorem dL_holds_307 : decode cL_holds 307 = .ok (.iconst 0, 1) := by decide +kernel
theorem dL_holds_308 : decode cL_holds 308 = .ok (.istore 7, 2) := by decide +kernel
theorem dL_holds_310 : decode cL_holds 310 = .ok (.iconst 0, 1) := by decide +kernel
theorem dL_holds_311 : decode cL_holds 311 = .ok (.istore 8, 2) := by decide +kernel
theorem dL_holds_313 : decode cL_holds 313 = .ok (.iload 8, 2) := by decide +kernel
theorem dL_holds_315 : decode cL_holds 315 = .ok (.iconst 4, 1) := by decide +kernel
theorem dL_holds_316 : decode cL_holds 316 = .ok (.if_icmp .ge 33, 3) := by decide +kernel
theorem dL_holds_319 : decode cL_holds 319 = .ok (.iload 7, 2) := by decide +kernel
theorem dL_holds_321 : decode cL_holds 321 = .ok (.aload_n 0, 1) := by decide +kernel
theorem dL_holds_322 : decode cL_holds 322 = .ok (.iload 8, 2) := by decide +kernel
theorem dL_holds_324 : decode cL_holds 324 = .ok (.iload 6, 2) := by decide +kernel
theorem dL_holds_326 : decode cL_holds 326 = .ok (.iconst 1, 1) := by decide +kernel
theorem dL_holds_327 : decode cL_holds 327 = .ok (.invokevirtual 19, 3) := by decide +kernel
theorem dL_holds_330 : decode cL_holds 330 = .ok (.aload_n 0, 1) := by decide +kernel
theorem dL_holds_331 : decode cL_holds 331 = .ok (.iload 8, 2) := by decide +kernel
theorem dL_holds_333 : decode cL_holds 333 = .ok (.iload 6, 2) := by decide +kernel
theorem dL_holds_335 : decode cL_holds 335 = .ok (.iconst 2, 1) := by decide +kernel
theorem dL_holds_336 : decode cL_holds 336 = .ok (.invokevirtual 19, 3) := by decide +kernel
theorem dL_holds_339 : decode cL_holds 339 = .ok (.isub, 1) := by decide +kernel
theorem dL_holds_340 : decode cL_holds 340 = .ok (.iadd, 1) := by decide +kernel
theorem dL_holds_341 : decode cL_holds 341 = .ok (.istore 7, 2) := by decide +kernel
theorem dL_holds_343 : decode cL_holds 343 = .ok (.iinc 8 1, 3) := by decide +kernel
theorem dL_holds_346 : decode cL_holds 346 = .ok (.goto (-33), 3) := by decide +kernel
theorem dL_holds_349 : decode cL_holds 349 = .ok (.iload 7, 2) := by decide +kernel
theorem dL_holds_351 : decode cL_holds 351 = .ok (.ifCond .ne 7, 3) := by decide +kernel
theorem dL_holds_354 : decode cL_holds 354 = .ok (.iconst 1, 1) := by decide +kernel
theorem dL_holds_355 : decode cL_holds 355 = .ok (.goto 4, 3) := by decide +kernel
theorem dL_holds_358 : decode cL_holds 358 = .ok (.iconst 0, 1) := by decide +kernel
theorem dL_holds_359 : decode cL_holds 359 = .ok (.istore 4, 2) := by decide +kernel
theorem dL_holds_361 : decode cL_holds 361 = .ok (.iinc 6 1, 3) := by decide +kernel
theorem dL_holds_364 : decode cL_holds 364 = .ok (.goto (-69), 3) := by decide +kernel
theorem dL_holds_367 : decode cL_holds 367 = .ok (.iload 4, 2) := by decide +kernel
theorem dL_holds_369 : decode cL_holds 369 = .ok (.ifCond .eq 74, 3) := by decide +kernel
theorem dL_holds_372 : decode cL_holds 372 = .ok (.iload_n 2, 1) := by decide +kernel
theorem dL_holds_373 : decode cL_holds 373 = .ok (.aload_n 0, 1) := by decide +kernel
theorem dL_holds_374 : decode cL_holds 374 = .ok (.iconst 1, 1) := by decide +kernel
theorem dL_holds_375 : decode cL_holds 375 = .ok (.invokevirtual 9, 3) := by decide +kernel
theorem dL_holds_378 : decode cL_holds 378 = .ok (.if_icmp .ne 65, 3) := by decide +kernel
theorem dL_holds_381 : decode cL_holds 381 = .ok (.iload_n 3, 1) := by decide +kernel
theorem dL_holds_382 : decode cL_holds 382 = .ok (.aload_n 0, 1) := by decide +kernel
theorem dL_holds_383 : decode cL_holds 383 = .ok (.iconst 5, 1) := by decide +kernel
theorem dL_holds_384 : decode cL_holds 384 = .ok (.invokevirtual 9, 3) := by decide +kernel
theorem dL_holds_387 : decode cL_holds 387 = .ok (.if_icmp .ne 56, 3) := by decide +kernel
theorem dL_holds_390 : decode cL_holds 390 = .ok (.iload 5, 2) := by decide +kernel
theorem dL_holds_392 : decode cL_holds 392 = .ok (.iload_n 3, 1) := by decide +kernel
theorem dL_holds_393 : decode cL_holds 393 = .ok (.if_icmp .ne 50, 3) := by decide +kernel
theorem dL_holds_396 : decode cL_holds 396 = .ok (.iload_n 1, 1) := by decide +kernel
theorem dL_holds_397 : decode cL_holds 397 = .ok (.aload_n 0, 1) := by decide +kernel
theorem dL_holds_398 : decode cL_holds 398 = .ok (.iconst 3, 1) := by decide +kernel
theorem dL_holds_399 : decode cL_holds 399 = .ok (.invokevirtual 9, 3) := by decide +kernel
theorem dL_holds_402 : decode cL_holds 402 = .ok (.bipush 100, 2) := by decide +kernel
theorem dL_holds_404 : decode cL_holds 404 = .ok (.aload_n 0, 1) := by decide +kernel
theorem dL_holds_405 : decode cL_holds 405 = .ok (.iconst 4, 1) := by decide +kernel
theorem dL_holds_406 : decode cL_holds 406 = .ok (.invokevirtual 9, 3) := by decide +kernel
theorem dL_holds_409 : decode cL_holds 409 = .ok (.imul, 1) := by decide +kernel
theorem dL_holds_410 : decode cL_holds 410 = .ok (.iadd, 1) := by decide +kernel
theorem dL_holds_411 : decode cL_holds 411 = .ok (.if_icmp .ne 32, 3) := by decide +kernel
theorem dL_holds_414 : decode cL_holds 414 = .ok (.aload_n 0, 1) := by decide +kernel
theorem dL_holds_415 : decode cL_holds 415 = .ok (.iconst 1, 1) := by decide +kernel
theorem dL_holds_416 : decode cL_holds 416 = .ok (.invokevirtual 9, 3) := by decide +kernel
theorem dL_holds_419 : decode cL_holds 419 = .ok (.aload_n 0, 1) := by decide +kernel
theorem dL_holds_420 : decode cL_holds 420 = .ok (.iconst 3, 1) := by decide +kernel
theorem dL_holds_421 : decode cL_holds 421 = .ok (.invokevirtual 9, 3) := by decide +kernel
theorem dL_holds_424 : decode cL_holds 424 = .ok (.iadd, 1) := by decide +kernel
theorem dL_holds_425 : decode cL_holds 425 = .ok (.aload_n 0, 1) := by decide +kernel
theorem dL_holds_426 : decode cL_holds 426 = .ok (.iconst 4, 1) := by decide +kernel
theorem dL_holds_427 : decode cL_holds 427 = .ok (.invokevirtual 9, 3) := by decide +kernel
theorem dL_holds_430 : decode cL_holds 430 = .ok (.iadd, 1) := by decide +kernel
theorem dL_holds_431 : decode cL_holds 431 = .ok (.aload_n 0, 1) := by decide +kernel
theorem dL_holds_432 : decode cL_holds 432 = .ok (.iconst 2, 1) := by decide +kernel
theorem dL_holds_433 : decode cL_holds 433 = .ok (.invokevirtual 9, 3) := by decide +kernel
theorem dL_holds_436 : decode cL_holds 436 = .ok (.if_icmp .ne 7, 3) := by decide +kernel
theorem dL_holds_439 : decode cL_holds 439 = .ok (.iconst 1, 1) := by decide +kernel
theorem dL_holds_440 : decode cL_holds 440 = .ok (.goto 4, 3) := by decide +kernel
theorem dL_holds_443 : decode cL_holds 443 = .ok (.iconst 0, 1) := by decide +kernel
theorem dL_holds_444 : decode cL_holds 444 = .ok (.ireturn, 1) := by decide +kernel
set_option maxRecDepth 20000 in
theorem ggL_swings_X4_area : GoodIn wsL_swings wsX4_area := goodIn_r _ [5, 6, 7, 8, 9, 10, 11, 12, 13, 14, 15, 4, 16, 17, 18, 19, 20, 21, 22, 23, 24, 25, 26, 27, 28, 29, 30, 31, 32, 77, 78, 79, 80, 81, 82, 83, 84, 85, 86, 87, 88, 89, 90, 91, 92, 93, 94, 95, 96, 97, 98, 99, 100, 101] (by decide +kernel) (by decide +kernel)
set_option maxRecDepth 20000 in
theorem gL_swings_X4_area : GoodIn wsL_swings (wsV RL 30 RX4 yX4_area wsX4_area) := goodIn_app (goodIn_of _ (by decide +kernel)) ggL_swings_X4_area
set_option maxRecDepth 20000 in
theorem ggL_swings_X4_craneOf : GoodIn wsL_swings wsX4_craneOf := goodIn_r _ [36, 6, 37, 38, 39, 40, 41, 42, 43, 7, 8, 9, 10, 11, 12, 13, 44, 45, 4, 46, 47, 48, 49, 50, 51, 52, 53, 54, 55, 56, 57, 58, 59, 60, 61, 62, 63, 64, 65, 66, 67, 68, 69, 77, 78, 79, 80, 81, 95, 96, 97, 98, 99, 100, 101, 82, 83, 84, 85, 86, 87, 88, 89, 90, 91, 92, 93, 94, 102, 103, 104, 105, 106, 107, 108] (by decide +kernel) (by decide +kernel)
set_option maxRecDepth 20000 in
theorem gL_swings_X4_craneOf : GoodIn wsL_swings (wsV RL 23 RX4 yX4_craneOf wsX4_craneOf) := goodIn_app (goodIn_of _ (by decide +kernel)) ggL_swings_X4_craneOf
set_option maxRecDepth 20000 in
theorem ggL_swings_X4_covers : GoodIn wsL_swings wsX4_covers := goodIn_r _ [73, 6, 7, 8, 9, 10, 11, 12, 13, 14, 15, 4, 16, 17, 18, 19, 74, 75, 76, 20, 21, 22, 23, 24, 25, 77, 78, 79, 80, 81, 82, 83, 84, 85, 86, 87, 88, 89, 90, 91, 92, 93, 94, 95, 96, 97, 98, 99, 100, 101] (by decide +kernel) (by decide +kernel)
set_option maxRecDepth 20000 in
theorem gL_swings_X4_covers : GoodIn wsL_swings (wsV RL 33 RX4 yX4_covers wsX4_covers) := goodIn_app (goodIn_of _ (by decide +kernel)) ggL_swings_X4_covers
theorem dL_swings_0 : decode cL_swings 0 = .ok (.iconst 1, 1) := by decide +kernel
theorem dL_swings_1 : decode cL_swings 1 = .ok (.istore_n 2, 1) := by decide +kernel
theorem dL_swings_2 : decode cL_swings 2 = .ok (.iconst 1, 1) := by decide +kernel
theorem dL_swings_3 : decode cL_swings 3 = .ok (.istore_n 3, 1) := by decide +kernel
theorem dL_swings_4 : decode cL_swings 4 = .ok (.iconst 0, 1) := by decide +kernel
theorem dL_swings_5 : decode cL_swings 5 = .ok (.istore 4, 2) := by decide +kernel
theorem dL_swings_7 : decode cL_swings 7 = .ok (.iload 4, 2) := by decide +kernel
theorem dL_swings_9 : decode cL_swings 9 = .ok (.bipush 8, 2) := by decide +kernel
theorem dL_swings_11 : decode cL_swings 11 = .ok (.if_icmp .ge 23, 3) := by decide +kernel
theorem dL_swings_14 : decode cL_swings 14 = .ok (.iload_n 2, 1) := by decide +kernel
theorem dL_swings_15 : decode cL_swings 15 = .ok (.aload_n 0, 1) := by decide +kernel
theorem dL_swings_16 : decode cL_swings 16 = .ok (.iload_n 1, 1) := by decide +kernel
theorem dL_swings_17 : decode cL_swings 17 = .ok (.iconst 1, 1) := by decide +kernel
theorem dL_swings_18 : decode cL_swings 18 = .ok (.iload 4, 2) := by decide +kernel
theorem dL_swings_20 : decode cL_swings 20 = .ok (.ishl, 1) := by decide +kernel
theorem dL_swings_21 : decode cL_swings 21 = .ok (.invokevirtual 30, 3) := by decide +kernel
theorem dL_swings_24 : decode cL_swings 24 = .ok (.iconst 1, 1) := by decide +kernel
theorem dL_swings_25 : decode cL_swings 25 = .ok (.isub, 1) := by decide +kernel
theorem dL_swings_26 : decode cL_swings 26 = .ok (.iadd, 1) := by decide +kernel
theorem dL_swings_27 : decode cL_swings 27 = .ok (.istore_n 2, 1) := by decide +kernel
theorem dL_swings_28 : decode cL_swings 28 = .ok (.iinc 4 1, 3) := by decide +kernel
theorem dL_swings_31 : decode cL_swings 31 = .ok (.goto (-24), 3) := by decide +kernel
theorem dL_swings_34 : decode cL_swings 34 = .ok (.aload_n 0, 1) := by decide +kernel
theorem dL_swings_35 : decode cL_swings 35 = .ok (.iload_n 1, 1) := by decide +kernel
theorem dL_swings_36 : decode cL_swings 36 = .ok (.bipush 15, 2) := by decide +kernel
theorem dL_swings_38 : decode cL_swings 38 = .ok (.invokevirtual 30, 3) := by decide +kernel
theorem dL_swings_41 : decode cL_swings 41 = .ok (.istore 4, 2) := by decide +kernel
theorem dL_swings_43 : decode cL_swings 43 = .ok (.aload_n 0, 1) := by decide +kernel
theorem dL_swings_44 : decode cL_swings 44 = .ok (.iload_n 1, 1) := by decide +kernel
theorem dL_swings_45 : decode cL_swings 45 = .ok (.sipush 240, 3) := by decide +kernel
theorem dL_swings_48 : decode cL_swings 48 = .ok (.invokevirtual 30, 3) := by decide +kernel
theorem dL_swings_51 : decode cL_swings 51 = .ok (.istore 5, 2) := by decide +kernel
theorem dL_swings_53 : decode cL_swings 53 = .ok (.iload_n 2, 1) := by decide +kernel
theorem dL_swings_54 : decode cL_swings 54 = .ok (.aload_n 0, 1) := by decide +kernel
theorem dL_swings_55 : decode cL_swings 55 = .ok (.iload_n 1, 1) := by decide +kernel
theorem dL_swings_56 : decode cL_swings 56 = .ok (.sipush 255, 3) := by decide +kernel
theorem dL_swings_59 : decode cL_swings 59 = .ok (.invokevirtual 30, 3) := by decide +kernel
theorem dL_swings_62 : decode cL_swings 62 = .ok (.if_icmp .ne 41, 3) := by decide +kernel
theorem dL_swings_65 : decode cL_swings 65 = .ok (.iload 4, 2) := by decide +kernel
theorem dL_swings_67 : decode cL_swings 67 = .ok (.iload 5, 2) := by decide +kernel
theorem dL_swings_69 : decode cL_swings 69 = .ok (.iadd, 1) := by decide +kernel
theorem dL_swings_70 : decode cL_swings 70 = .ok (.iconst 1, 1) := by decide +kernel
theorem dL_swings_71 : decode cL_swings 71 = .ok (.isub, 1) := by decide +kernel
theorem dL_swings_72 : decode cL_swings 72 = .ok (.iload_n 2, 1) := by decide +kernel
theorem dL_swings_73 : decode cL_swings 73 = .ok (.if_icmp .ne 30, 3) := by decide +kernel
theorem dL_swings_76 : decode cL_swings 76 = .ok (.aload_n 0, 1) := by decide +kernel
theorem dL_swings_77 : decode cL_swings 77 = .ok (.iload_n 1, 1) := by decide +kernel
theorem dL_swings_78 : decode cL_swings 78 = .ok (.bipush 15, 2) := by decide +kernel
theorem dL_swings_80 : decode cL_swings 80 = .ok (.aload_n 0, 1) := by decide +kernel
theorem dL_swings_81 : decode cL_swings 81 = .ok (.iload_n 1, 1) := by decide +kernel
theorem dL_swings_82 : decode cL_swings 82 = .ok (.iconst 0, 1) := by decide +kernel
theorem dL_swings_83 : decode cL_swings 83 = .ok (.invokevirtual 23, 3) := by decide +kernel
theorem dL_swings_86 : decode cL_swings 86 = .ok (.aload_n 0, 1) := by decide +kernel
theorem dL_swings_87 : decode cL_swings 87 = .ok (.iload_n 1, 1) := by decide +kernel
theorem dL_swings_88 : decode cL_swings 88 = .ok (.iconst 1, 1) := by decide +kernel
theorem dL_swings_89 : decode cL_swings 89 = .ok (.invokevirtual 23, 3) := by decide +kernel
theorem dL_swings_92 : decode cL_swings 92 = .ok (.invokevirtual 33, 3) := by decide +kernel
theorem dL_swings_95 : decode cL_swings 95 = .ok (.iconst 1, 1) := by decide +kernel
theorem dL_swings_96 : decode cL_swings 96 = .ok (.if_icmp .ne 7, 3) := by decide +kernel
theorem dL_swings_99 : decode cL_swings 99 = .ok (.iconst 1, 1) := by decide +kernel
theorem dL_swings_100 : decode cL_swings 100 = .ok (.goto 4, 3) := by decide +kernel
theorem dL_swings_103 : decode cL_swings 103 = .ok (.iconst 0, 1) := by decide +kernel
theorem dL_swings_104 : decode cL_swings 104 = .ok (.istore_n 3, 1) := by decide +kernel
theorem dL_swings_105 : decode cL_swings 105 = .ok (.iload_n 3, 1) := by decide +kernel
theorem dL_swings_106 : decode cL_swings 106 = .ok (.ireturn, 1) := by decide +kernel
set_option maxRecDepth 20000 in
theorem ggL_law_X4_init : GoodIn wsL_law wsX4_init := goodIn_r _ [7, 8, 9, 10, 11, 12, 13, 14, 15, 16, 17, 18, 19, 20, 21, 22, 23, 24, 25, 26, 27, 28, 29, 30, 31, 32, 33, 34, 35, 36, 37, 38, 39, 40, 41, 42, 43, 44, 45, 46, 47, 48, 49, 50, 51, 52, 53, 54, 55, 56, 57, 58, 417, 418, 419, 420, 421, 422, 423, 424, 425, 426, 427, 428, 429, 412, 413, 414, 415, 416, 430, 431, 432, 433, 434, 435, 436, 437, 438] (by decide +kernel) (by decide +kernel)
set_option maxRecDepth 20000 in
theorem gL_law_X4_init : GoodIn wsL_law (wsX4_init) := ggL_law_X4_init
set_option maxRecDepth 20000 in
theorem ggL_law_L_holds : GoodIn wsL_law wsL_holds := goodIn_r _ [62, 63, 64, 65, 2, 66, 14, 67, 68, 69, 17, 21, 70, 71, 72, 73, 74, 13, 75, 38, 39, 76, 77, 78, 79, 80, 81, 41, 82, 83, 84, 85, 86, 87, 40, 88, 89, 90, 91, 30, 92, 93, 94, 95, 96, 97, 98, 99, 100, 101, 102, 103, 104, 105, 106, 107, 31, 108, 109, 110, 111, 112, 113, 114, 115, 116, 117, 118, 119, 120, 121, 122, 123, 124, 125, 126, 127, 128, 129, 130, 131, 132, 133, 134, 135, 136, 137, 138, 139, 140, 141, 142, 143, 37, 144, 145, 146, 147, 148, 149, 150, 151, 152, 153, 154, 155, 156, 157, 158, 159, 160, 161, 162, 163, 164, 33, 165, 166, 167, 168, 169, 170, 171, 34, 35, 172, 173, 174, 175, 176, 177, 178, 179, 180, 181, 182, 183, 184, 185, 186, 187, 188, 189, 190, 191, 192, 193, 194, 195, 196, 197, 198, 199, 28, 27, 200, 201, 202, 203, 204, 205, 206, 207, 208, 209, 210, 211, 212, 213, 214, 215, 216, 217, 218, 219, 220, 221, 222, 223, 224, 225, 226, 227, 228, 229, 230, 32, 231, 232, 233, 234, 235, 236, 237, 238, 412, 413, 414, 415, 416, 417, 418, 419, 420, 421, 422, 423, 424, 425, 426, 427, 428, 429, 430, 431, 432, 433, 434, 435, 436, 437, 438, 439, 440, 441, 442, 443, 444, 445, 446, 447, 448, 449, 450, 451, 452] (by decide +kernel) (by decide +kernel)
set_option maxRecDepth 20000 in
theorem gL_law_L_holds : GoodIn wsL_law (va_wsS RL 37 yL_holds wsL_holds) := goodIn_app (goodIn_of _ (by decide +kernel)) ggL_law_L_holds
set_option maxRecDepth 20000 in
theorem ggL_law_X4_undo : GoodIn wsL_law wsX4_undo := goodIn_r _ [242, 17, 14, 243, 244, 245, 2, 246, 16, 247, 248, 249, 13, 250, 27, 251, 252, 253, 254, 28, 30, 31, 32, 33, 34, 35, 37, 38, 39, 40, 41, 412, 413, 414, 415, 416, 417, 418, 419, 420, 421, 422, 423, 424, 425, 426, 427, 428, 429] (by decide +kernel) (by decide +kernel)
set_option maxRecDepth 20000 in
theorem gL_law_X4_undo : GoodIn wsL_law (wsV RL 43 RX4 yX4_undo wsX4_undo) := goodIn_app (goodIn_of _ (by decide +kernel)) ggL_law_X4_undo
set_option maxRecDepth 20000 in
theorem ggL_law_L_cell : GoodIn wsL_law wsL_cell := goodIn_r _ [257, 258, 259] (by decide +kernel) (by decide +kernel)
set_option maxRecDepth 20000 in
theorem gL_law_L_cell : GoodIn wsL_law (va_wsS RL 47 yL_cell wsL_cell) := goodIn_app (goodIn_of _ (by decide +kernel)) ggL_law_L_cell
set_option maxRecDepth 20000 in
theorem ggL_law_X4_crane : GoodIn wsL_law wsX4_crane := goodIn_r _ [263, 14, 67, 264, 265, 125, 134, 266, 267, 2, 268, 155, 156, 157, 152, 153, 154, 269, 270, 271, 13, 272, 28, 273, 274, 275, 197, 198, 199, 27, 276, 277, 278, 279, 17, 16, 280, 281, 282, 283, 243, 244, 245, 246, 247, 248, 249, 250, 251, 252, 253, 254, 30, 31, 32, 33, 34, 35, 37, 38, 39, 40, 41, 284, 285, 286, 287, 9, 10, 288, 127, 289, 290, 291, 292, 293, 294, 295, 296, 297, 298, 299, 300, 301, 302, 303, 304, 305, 306, 307, 308, 309, 310, 311, 412, 413, 414, 415, 416, 417, 418, 419, 420, 421, 422, 423, 424, 425, 426, 427, 428, 429, 446, 447, 448, 449, 450, 451, 452] (by decide +kernel) (by decide +kernel)
set_option maxRecDepth 20000 in
theorem gL_law_X4_crane : GoodIn wsL_law (wsV RL 52 RX4 yX4_crane wsX4_crane) := goodIn_app (goodIn_of _ (by decide +kernel)) ggL_law_X4_crane
set_option maxRecDepth 20000 in
theorem ggL_law_L_swings : GoodIn wsL_law wsL_swings := goodIn_r _ [314, 315, 316, 317, 2, 318, 14, 196, 197, 198, 13, 199, 28, 27, 215, 216, 217, 155, 156, 157, 319, 123, 124, 125, 126, 127, 320, 321, 322, 323, 324, 325, 326, 186, 187, 188, 189, 190, 191, 192, 193, 194, 195, 134, 128, 76, 77, 200, 201, 202, 203, 41, 84, 85, 86, 87, 40, 108, 109, 110, 111, 112, 113, 114, 204, 205, 206, 207, 31, 103, 327, 328, 329, 330, 266, 267, 268, 412, 413, 414, 415, 416, 417, 418, 419, 420, 421, 422, 423, 424, 425, 426, 427, 428, 429, 446, 447, 448, 449, 450, 451, 452, 439, 440, 441, 442, 443, 444, 445] (by decide +kernel) (by decide +kernel)
set_option maxRecDepth 20000 in
theorem gL_law_L_swings : GoodIn wsL_law (va_wsS RL 56 yL_swings wsL_swings) := goodIn_app (goodIn_of _ (by decide +kernel)) ggL_law_L_swings
set_option maxRecDepth 20000 in
theorem ggL_law_X4_count : GoodIn wsL_law wsX4_count := goodIn_r _ [66, 14, 67, 68, 69, 17, 21, 70, 71, 72, 73, 74, 13, 75, 38, 39, 76, 2, 77, 78, 79, 80, 81, 41, 82, 83, 84, 85, 86, 87, 40, 88, 89, 90, 91, 30, 92, 93, 94, 95, 96, 97, 98, 99, 100, 101, 102, 103, 104, 105, 106, 107, 31, 108, 109, 110, 111, 112, 113, 114, 115, 116, 117, 118, 119, 120, 121, 122, 123, 124, 125, 126, 127, 128, 412, 413, 414, 415, 416, 417, 418, 419, 420, 421, 422, 423, 424, 425, 426, 427, 428, 429, 430, 431, 432, 433, 434, 435, 436, 437, 438, 439, 440, 441, 442, 443, 444, 445, 446, 447, 448, 449, 450, 451, 452] (by decide +kernel) (by decide +kernel)
set_option maxRecDepth 20000 in
theorem gL_law_X4_count : GoodIn wsL_law (wsV RL 9 RX4 yX4_count wsX4_count) := goodIn_app (goodIn_of _ (by decide +kernel)) ggL_law_X4_count
set_option maxRecDepth 20000 in
theorem ggL_law_X4_wind : GoodIn wsL_law wsX4_wind := goodIn_r _ [334, 14, 151, 158, 159, 2, 160, 155, 156, 157, 276, 277, 278, 279, 17, 16, 280, 281, 282, 283, 243, 244, 245, 246, 247, 248, 249, 13, 250, 27, 251, 252, 253, 254, 28, 30, 31, 32, 33, 34, 35, 37, 38, 39, 40, 41, 335, 310, 311, 336, 337, 338, 339, 82, 97, 222, 84, 85, 86, 87, 227, 228, 229, 230, 76, 77, 231, 205, 206, 207, 103, 340, 341, 342, 343, 238, 169, 170, 171, 165, 166, 172, 162, 163, 164, 237, 174, 175, 176, 83, 177, 178, 179, 111, 180, 113, 181, 121, 88, 89, 90, 91, 92, 344, 345, 346, 347, 236, 412, 413, 414, 415, 416, 417, 418, 419, 420, 421, 422, 423, 424, 425, 426, 427, 428, 429, 439, 440, 441, 442, 443, 444, 445, 446, 447, 448, 449, 450, 451, 452] (by decide +kernel) (by decide +kernel)
set_option maxRecDepth 20000 in
theorem gL_law_X4_wind : GoodIn wsL_law (wsV RL 60 RX4 yX4_wind wsX4_wind) := goodIn_app (goodIn_of _ (by decide +kernel)) ggL_law_X4_wind
set_option maxRecDepth 20000 in
theorem ggL_law_X4_street : GoodIn wsL_law wsX4_street := goodIn_r _ [148, 14, 149, 150, 151, 152, 153, 2, 154, 155, 156, 157, 158, 159, 160, 161, 162, 163, 13, 164, 33, 31, 165, 166, 76, 77, 167, 128, 168, 169, 170, 171, 34, 35, 172, 173, 174, 175, 176, 41, 82, 83, 84, 85, 86, 87, 40, 177, 178, 179, 111, 180, 113, 181, 121, 88, 89, 90, 91, 30, 92, 182, 183, 184, 185, 412, 413, 414, 415, 416, 417, 418, 419, 420, 421, 422, 423, 424, 425, 426, 427, 428, 429, 439, 440, 441, 442, 443, 444, 445, 446, 447, 448, 449, 450, 451, 452] (by decide +kernel) (by decide +kernel)
set_option maxRecDepth 20000 in
theorem gL_law_X4_street : GoodIn wsL_law (wsV RL 19 RX4 yX4_street wsX4_street) := goodIn_app (goodIn_of _ (by decide +kernel)) ggL_law_X4_street
set_option maxRecDepth 20000 in
theorem ggL_law_X4_allow : GoodIn wsL_law wsX4_allow := goodIn_r _ [351, 14, 352, 152, 153, 2, 154, 155, 156, 157, 158, 159, 160, 276, 277, 278, 279, 17, 16, 280, 281, 282, 283, 243, 244, 245, 246, 247, 248, 249, 13, 250, 27, 251, 252, 253, 254, 28, 30, 31, 32, 33, 34, 35, 37, 38, 39, 40, 41, 167, 165, 166, 335, 310, 311, 336, 337, 338, 339, 82, 97, 222, 84, 85, 86, 87, 227, 228, 229, 230, 76, 77, 231, 205, 206, 207, 103, 340, 341, 342, 343, 238, 169, 170, 171, 172, 162, 163, 164, 237, 174, 175, 176, 83, 177, 178, 179, 111, 180, 113, 181, 121, 88, 89, 90, 91, 92, 344, 345, 346, 347, 236, 412, 413, 414, 415, 416, 417, 418, 419, 420, 421, 422, 423, 424, 425, 426, 427, 428, 429, 439, 440, 441, 442, 443, 444, 445, 446, 447, 448, 449, 450, 451, 452] (by decide +kernel) (by decide +kernel)
set_option maxRecDepth 20000 in
theorem gL_law_X4_allow : GoodIn wsL_law (wsV RL 63 RX4 yX4_allow wsX4_allow) := goodIn_app (goodIn_of _ (by decide +kernel)) ggL_law_X4_allow
set_option maxRecDepth 20000 in
theorem ggL_law_X4_transfer : GoodIn wsL_law wsX4_transfer := goodIn_r _ [356, 14, 150, 149, 152, 153, 2, 154, 155, 156, 157, 158, 159, 160, 357, 341, 342, 13, 343, 238, 169, 170, 171, 34, 35, 165, 166, 172, 162, 163, 164, 33, 31, 76, 77, 237, 174, 175, 176, 41, 82, 83, 84, 85, 86, 87, 40, 177, 178, 179, 111, 180, 113, 181, 121, 88, 89, 90, 91, 30, 92, 276, 277, 278, 279, 17, 16, 280, 281, 282, 283, 243, 244, 245, 246, 247, 248, 249, 250, 27, 251, 252, 253, 254, 28, 32, 37, 38, 39, 167, 128, 335, 310, 311, 412, 413, 414, 415, 416, 417, 418, 419, 420, 421, 422, 423, 424, 425, 426, 427, 428, 429, 439, 440, 441, 442, 443, 444, 445, 446, 447, 448, 449, 450, 451, 452] (by decide +kernel) (by decide +kernel)
set_option maxRecDepth 20000 in
theorem gL_law_X4_transfer : GoodIn wsL_law (wsV RL 66 RX4 yX4_transfer wsX4_transfer) := goodIn_app (goodIn_of _ (by decide +kernel)) ggL_law_X4_transfer
set_option maxRecDepth 20000 in
theorem ggL_law_X4_inOrder : GoodIn wsL_law wsX4_inOrder := goodIn_r _ [361, 14, 68, 139, 362, 85, 86, 13, 87, 41, 40, 363, 364, 365, 366, 84, 367, 368, 369, 111, 370, 121, 120, 371, 412, 413, 414, 415, 416, 417, 418, 419, 420, 421, 422, 423, 424, 425, 426, 427, 428, 429, 439, 440, 441, 442, 443, 444, 445] (by decide +kernel) (by decide +kernel)
set_option maxRecDepth 20000 in
theorem gL_law_X4_inOrder : GoodIn wsL_law (wsV RL 69 RX4 yX4_inOrder wsX4_inOrder) := goodIn_app (goodIn_of _ (by decide +kernel)) ggL_law_X4_inOrder
set_option maxRecDepth 20000 in
theorem ggL_law_X4_withdraw : GoodIn wsL_law wsX4_withdraw := goodIn_r _ [375, 14, 138, 139, 133, 136, 140, 141, 142, 13, 143, 38, 37, 128, 76, 2, 77, 276, 277, 278, 279, 17, 16, 280, 281, 282, 283, 243, 244, 245, 246, 247, 248, 249, 250, 27, 251, 252, 253, 254, 28, 30, 31, 32, 33, 34, 35, 39, 40, 41, 376, 345, 346, 347, 236, 310, 311, 84, 85, 86, 87, 144, 89, 90, 91, 92, 412, 413, 414, 415, 416, 417, 418, 419, 420, 421, 422, 423, 424, 425, 426, 427, 428, 429, 439, 440, 441, 442, 443, 444, 445, 446, 447, 448, 449, 450, 451, 452] (by decide +kernel) (by decide +kernel)
set_option maxRecDepth 20000 in
theorem gL_law_X4_withdraw : GoodIn wsL_law (wsV RL 72 RX4 yX4_withdraw wsX4_withdraw) := goodIn_app (goodIn_of _ (by decide +kernel)) ggL_law_X4_withdraw
set_option maxRecDepth 20000 in
theorem ggL_law_X4_noise : GoodIn wsL_law wsX4_noise := goodIn_r _ [380, 14, 195, 134, 196, 197, 198, 13, 199, 28, 27, 155, 156, 2, 157, 276, 277, 278, 279, 17, 16, 280, 281, 282, 283, 243, 244, 245, 246, 247, 248, 249, 250, 251, 252, 253, 254, 30, 31, 32, 33, 34, 35, 37, 38, 39, 40, 41, 335, 310, 311, 336, 337, 338, 339, 82, 97, 222, 84, 85, 86, 87, 227, 228, 229, 230, 76, 77, 231, 205, 206, 207, 103, 340, 341, 342, 343, 238, 169, 170, 171, 165, 166, 172, 162, 163, 164, 237, 174, 175, 176, 83, 177, 178, 179, 111, 180, 113, 181, 121, 88, 89, 90, 91, 92, 344, 345, 346, 347, 236, 412, 413, 414, 415, 416, 417, 418, 419, 420, 421, 422, 423, 424, 425, 426, 427, 428, 429, 446, 447, 448, 449, 450, 451, 452, 439, 440, 441, 442, 443, 444, 445] (by decide +kernel) (by decide +kernel)
set_option maxRecDepth 20000 in
theorem gL_law_X4_noise : GoodIn wsL_law (wsV RL 75 RX4 yX4_noise wsX4_noise) := goodIn_app (goodIn_of _ (by decide +kernel)) ggL_law_X4_noise
set_option maxRecDepth 20000 in
theorem ggL_law_X4_refusal : GoodIn wsL_law wsX4_refusal := goodIn_r _ [211, 14, 196, 197, 198, 13, 199, 28, 27, 212, 213, 2, 214, 158, 159, 160, 155, 156, 157, 215, 216, 217, 218, 219, 220, 221, 222, 223, 224, 225, 226, 41, 84, 85, 86, 87, 40, 108, 109, 110, 111, 112, 113, 114, 115, 116, 117, 118, 119, 120, 121, 227, 228, 229, 230, 32, 76, 77, 231, 205, 206, 207, 31, 103, 232, 233, 234, 235, 236, 99, 100, 101, 102, 82, 104, 105, 106, 107, 98, 122, 123, 124, 125, 126, 127, 237, 174, 175, 176, 83, 177, 178, 179, 180, 181, 88, 89, 90, 91, 30, 92, 238, 169, 170, 171, 34, 35, 165, 166, 172, 162, 163, 164, 33, 412, 413, 414, 415, 416, 417, 418, 419, 420, 421, 422, 423, 424, 425, 426, 427, 428, 429, 446, 447, 448, 449, 450, 451, 452, 439, 440, 441, 442, 443, 444, 445] (by decide +kernel) (by decide +kernel)
set_option maxRecDepth 20000 in
theorem gL_law_X4_refusal : GoodIn wsL_law (wsV RL 26 RX4 yX4_refusal wsX4_refusal) := goodIn_app (goodIn_of _ (by decide +kernel)) ggL_law_X4_refusal
set_option maxRecDepth 20000 in
theorem ggL_law_X4_apply : GoodIn wsL_law wsX4_apply := goodIn_r _ [384, 14, 385, 386, 111, 69, 139, 196, 197, 198, 13, 199, 28, 27, 212, 213, 2, 214, 158, 159, 160, 155, 156, 157, 215, 216, 217, 218, 219, 220, 221, 222, 223, 224, 225, 226, 41, 84, 85, 86, 87, 40, 108, 109, 110, 112, 113, 114, 115, 116, 117, 118, 119, 120, 121, 227, 228, 229, 230, 32, 76, 77, 231, 205, 206, 207, 31, 103, 232, 233, 234, 235, 236, 99, 100, 101, 102, 82, 104, 105, 106, 107, 98, 122, 123, 124, 125, 126, 127, 237, 174, 175, 176, 83, 177, 178, 179, 180, 181, 88, 89, 90, 91, 30, 92, 238, 169, 170, 171, 34, 35, 165, 166, 172, 162, 163, 164, 33, 387, 388, 389, 390, 38, 276, 277, 278, 279, 17, 16, 280, 281, 282, 283, 243, 244, 245, 246, 247, 248, 249, 250, 251, 252, 253, 254, 37, 39, 391, 392, 393, 394, 9, 10, 371, 395, 396, 397, 398, 399, 400, 310, 311, 412, 413, 414, 415, 416, 439, 440, 441, 442, 443, 444, 445, 417, 418, 419, 420, 421, 422, 423, 424, 425, 426, 427, 428, 429, 446, 447, 448, 449, 450, 451, 452] (by decide +kernel) (by decide +kernel)
set_option maxRecDepth 20000 in
theorem gL_law_X4_apply : GoodIn wsL_law (wsV RL 79 RX4 yX4_apply wsX4_apply) := goodIn_app (goodIn_of _ (by decide +kernel)) ggL_law_X4_apply
set_option maxRecDepth 20000 in
theorem ggL_law_X4_inTheWay : GoodIn wsL_law wsX4_inTheWay := goodIn_r _ [404, 14, 196, 197, 198, 13, 199, 28, 27, 212, 213, 2, 214, 158, 159, 160, 155, 156, 157, 215, 216, 217, 405, 233, 234, 235, 41, 236, 84, 85, 86, 87, 40, 99, 100, 101, 102, 103, 82, 104, 105, 106, 107, 31, 98, 108, 109, 110, 111, 112, 113, 114, 115, 116, 117, 118, 119, 120, 121, 76, 77, 122, 123, 124, 125, 126, 127, 412, 413, 414, 415, 416, 417, 418, 419, 420, 421, 422, 423, 424, 425, 426, 427, 428, 429, 439, 440, 441, 442, 443, 444, 445, 446, 447, 448, 449, 450, 451, 452] (by decide +kernel) (by decide +kernel)
set_option maxRecDepth 20000 in
theorem gL_law_X4_inTheWay : GoodIn wsL_law (wsV RL 82 RX4 yX4_inTheWay wsX4_inTheWay) := goodIn_app (goodIn_of _ (by decide +kernel)) ggL_law_X4_inTheWay
set_option maxRecDepth 20000 in
theorem ggL_law_X4_set : GoodIn wsL_law wsX4_set := goodIn_r _ [409, 410, 411, 14, 71, 155, 156, 2, 157, 128, 76, 77, 276, 277, 278, 279, 17, 16, 280, 281, 282, 283, 243, 244, 245, 246, 247, 248, 249, 13, 250, 27, 251, 252, 253, 254, 28, 30, 31, 32, 33, 34, 35, 37, 38, 39, 40, 41, 335, 310, 311, 336, 337, 338, 339, 82, 97, 222, 84, 85, 86, 87, 227, 228, 229, 230, 231, 205, 206, 207, 103, 340, 341, 342, 343, 238, 169, 170, 171, 165, 166, 172, 162, 163, 164, 237, 174, 175, 176, 83, 177, 178, 179, 111, 180, 113, 181, 121, 88, 89, 90, 91, 92, 344, 345, 346, 347, 236, 412, 413, 414, 415, 416, 417, 418, 419, 420, 421, 422, 423, 424, 425, 426, 427, 428, 429, 439, 440, 441, 442, 443, 444, 445, 446, 447, 448, 449, 450, 451, 452] (by decide +kernel) (by decide +kernel)
set_option maxRecDepth 20000 in
theorem gL_law_X4_set : GoodIn wsL_law (wsV RL 85 RX4 yX4_set wsX4_set) := goodIn_app (goodIn_of _ (by decide +kernel)) ggL_law_X4_set
theorem dL_law_0 : decode cL_law 0 = .ok (.new 10, 3) := by decide +kernel
theorem dL_law_3 : decode cL_law 3 = .ok (.dup, 1) := by decide +kernel
theorem dL_law_4 : decode cL_law 4 = .ok (.invokespecial 36, 3) := by decide +kernel
theorem dL_law_7 : decode cL_law 7 = .ok (.astore_n 1, 1) := by decide +kernel
theorem dL_law_8 : decode cL_law 8 = .ok (.aload_n 1, 1) := by decide +kernel
theorem dL_law_9 : decode cL_law 9 = .ok (.invokestatic 37, 3) := by decide +kernel
theorem dL_law_12 : decode cL_law 12 = .ok (.ifCond .eq 17, 3) := by decide +kernel
theorem dL_law_15 : decode cL_law 15 = .ok (.aload_n 1, 1) := by decide +kernel
theorem dL_law_16 : decode cL_law 16 = .ok (.invokevirtual 43, 3) := by decide +kernel
theorem dL_law_19 : decode cL_law 19 = .ok (.sipush (-1002), 3) := by decide +kernel
theorem dL_law_22 : decode cL_law 22 = .ok (.if_icmp .ne 7, 3) := by decide +kernel
theorem dL_law_25 : decode cL_law 25 = .ok (.iconst 1, 1) := by decide +kernel
theorem dL_law_26 : decode cL_law 26 = .ok (.goto 4, 3) := by decide +kernel
theorem dL_law_29 : decode cL_law 29 = .ok (.iconst 0, 1) := by decide +kernel
theorem dL_law_30 : decode cL_law 30 = .ok (.istore_n 2, 1) := by decide +kernel
theorem dL_law_31 : decode cL_law 31 = .ok (.iconst 0, 1) := by decide +kernel
theorem dL_law_32 : decode cL_law 32 = .ok (.istore_n 3, 1) := by decide +kernel
theorem dL_law_33 : decode cL_law 33 = .ok (.iload_n 3, 1) := by decide +kernel
theorem dL_law_34 : decode cL_law 34 = .ok (.iconst 4, 1) := by decide +kernel
theorem dL_law_35 : decode cL_law 35 = .ok (.if_icmp .ge 90, 3) := by decide +kernel
theorem dL_law_38 : decode cL_law 38 = .ok (.iload_n 2, 1) := by decide +kernel
theorem dL_law_39 : decode cL_law 39 = .ok (.ifCond .eq 86, 3) := by decide +kernel
theorem dL_law_42 : decode cL_law 42 = .ok (.aload_n 0, 1) := by decide +kernel
theorem dL_law_43 : decode cL_law 43 = .ok (.iload_n 3, 1) := by decide +kernel
theorem dL_law_44 : decode cL_law 44 = .ok (.invokestatic 47, 3) := by decide +kernel
theorem dL_law_47 : decode cL_law 47 = .ok (.istore 4, 2) := by decide +kernel
theorem dL_law_49 : decode cL_law 49 = .ok (.aload_n 1, 1) := by decide +kernel
theorem dL_law_50 : decode cL_law 50 = .ok (.iload 4, 2) := by decide +kernel
theorem dL_law_52 : decode cL_law 52 = .ok (.bipush 16, 2) := by decide +kernel
theorem dL_law_54 : decode cL_law 54 = .ok (.irem, 1) := by decide +kernel
theorem dL_law_55 : decode cL_law 55 = .ok (.iconst 5, 1) := by decide +kernel
theorem dL_law_56 : decode cL_law 56 = .ok (.iload_n 3, 1) := by decide +kernel
theorem dL_law_57 : decode cL_law 57 = .ok (.imul, 1) := by decide +kernel
theorem dL_law_58 : decode cL_law 58 = .ok (.iconst 1, 1) := by decide +kernel
theorem dL_law_59 : decode cL_law 59 = .ok (.iload 4, 2) := by decide +kernel
theorem dL_law_61 : decode cL_law 61 = .ok (.bipush 16, 2) := by decide +kernel
theorem dL_law_63 : decode cL_law 63 = .ok (.idiv, 1) := by decide +kernel
theorem dL_law_64 : decode cL_law 64 = .ok (.bipush 8, 2) := by decide +kernel
theorem dL_law_66 : decode cL_law 66 = .ok (.irem, 1) := by decide +kernel
theorem dL_law_67 : decode cL_law 67 = .ok (.iadd, 1) := by decide +kernel
theorem dL_law_68 : decode cL_law 68 = .ok (.bipush 10, 2) := by decide +kernel
theorem dL_law_70 : decode cL_law 70 = .ok (.iload 4, 2) := by decide +kernel
theorem dL_law_72 : decode cL_law 72 = .ok (.sipush 128, 3) := by decide +kernel
theorem dL_law_75 : decode cL_law 75 = .ok (.idiv, 1) := by decide +kernel
theorem dL_law_76 : decode cL_law 76 = .ok (.bipush 60, 2) := by decide +kernel
theorem dL_law_78 : decode cL_law 78 = .ok (.irem, 1) := by decide +kernel
theorem dL_law_79 : decode cL_law 79 = .ok (.iadd, 1) := by decide +kernel
theorem dL_law_80 : decode cL_law 80 = .ok (.iload 4, 2) := by decide +kernel
theorem dL_law_82 : decode cL_law 82 = .ok (.sipush 8192, 3) := by decide +kernel
theorem dL_law_85 : decode cL_law 85 = .ok (.idiv, 1) := by decide +kernel
theorem dL_law_86 : decode cL_law 86 = .ok (.iconst 3, 1) := by decide +kernel
theorem dL_law_87 : decode cL_law 87 = .ok (.irem, 1) := by decide +kernel
theorem dL_law_88 : decode cL_law 88 = .ok (.iconst 1, 1) := by decide +kernel
theorem dL_law_89 : decode cL_law 89 = .ok (.iload 4, 2) := by decide +kernel
theorem dL_law_91 : decode cL_law 91 = .ok (.ldc 51, 2) := by decide +kernel
theorem dL_law_93 : decode cL_law 93 = .ok (.idiv, 1) := by decide +kernel
theorem dL_law_94 : decode cL_law 94 = .ok (.bipush 6, 2) := by decide +kernel
theorem dL_law_96 : decode cL_law 96 = .ok (.irem, 1) := by decide +kernel
theorem dL_law_97 : decode cL_law 97 = .ok (.iadd, 1) := by decide +kernel
theorem dL_law_98 : decode cL_law 98 = .ok (.invokevirtual 52, 3) := by decide +kernel
theorem dL_law_101 : decode cL_law 101 = .ok (.iload_n 3, 1) := by decide +kernel
theorem dL_law_102 : decode cL_law 102 = .ok (.if_icmp .ne 15, 3) := by decide +kernel
theorem dL_law_105 : decode cL_law 105 = .ok (.aload_n 1, 1) := by decide +kernel
theorem dL_law_106 : decode cL_law 106 = .ok (.iload_n 3, 1) := by decide +kernel
theorem dL_law_107 : decode cL_law 107 = .ok (.invokestatic 56, 3) := by decide +kernel
theorem dL_law_110 : decode cL_law 110 = .ok (.ifCond .eq 7, 3) := by decide +kernel
theorem dL_law_113 : decode cL_law 113 = .ok (.iconst 1, 1) := by decide +kernel
theorem dL_law_114 : decode cL_law 114 = .ok (.goto 4, 3) := by decide +kernel
theorem dL_law_117 : decode cL_law 117 = .ok (.iconst 0, 1) := by decide +kernel
theorem dL_law_118 : decode cL_law 118 = .ok (.istore_n 2, 1) := by decide +kernel
theorem dL_law_119 : decode cL_law 119 = .ok (.iinc 3 1, 3) := by decide +kernel
theorem dL_law_122 : decode cL_law 122 = .ok (.goto (-89), 3) := by decide +kernel
theorem dL_law_125 : decode cL_law 125 = .ok (.iconst 0, 1) := by decide +kernel
theorem dL_law_126 : decode cL_law 126 = .ok (.istore_n 3, 1) := by decide +kernel
theorem dL_law_127 : decode cL_law 127 = .ok (.iload_n 3, 1) := by decide +kernel
theorem dL_law_128 : decode cL_law 128 = .ok (.bipush 32, 2) := by decide +kernel
theorem dL_law_130 : decode cL_law 130 = .ok (.if_icmp .ge 618, 3) := by decide +kernel
theorem dL_law_133 : decode cL_law 133 = .ok (.iload_n 2, 1) := by decide +kernel
theorem dL_law_134 : decode cL_law 134 = .ok (.ifCond .eq 614, 3) := by decide +kernel
theorem dL_law_137 : decode cL_law 137 = .ok (.aload_n 0, 1) := by decide +kernel
theorem dL_law_138 : decode cL_law 138 = .ok (.iconst 4, 1) := by decide +kernel
theorem dL_law_139 : decode cL_law 139 = .ok (.iload_n 3, 1) := by decide +kernel
theorem dL_law_140 : decode cL_law 140 = .ok (.iadd, 1) := by decide +kernel
theorem dL_law_141 : decode cL_law 141 = .ok (.invokestatic 47, 3) := by decide +kernel
theorem dL_law_144 : decode cL_law 144 = .ok (.istore 4, 2) := by decide +kernel
theorem dL_law_146 : decode cL_law 146 = .ok (.iload 4, 2) := by decide +kernel
theorem dL_law_148 : decode cL_law 148 = .ok (.bipush 8, 2) := by decide +kernel
theorem dL_law_150 : decode cL_law 150 = .ok (.idiv, 1) := by decide +kernel
theorem dL_law_151 : decode cL_law 151 = .ok (.istore 5, 2) := by decide +kernel
theorem dL_law_153 : decode cL_law 153 = .ok (.aload_n 1, 1) := by decide +kernel
theorem dL_law_154 : decode cL_law 154 = .ok (.bipush 6, 2) := by decide +kernel
theorem dL_law_156 : decode cL_law 156 = .ok (.invokevirtual 9, 3) := by decide +kernel
theorem dL_law_159 : decode cL_law 159 = .ok (.istore 6, 2) := by decide +kernel
theorem dL_law_161 : decode cL_law 161 = .ok (.iload 4, 2) := by decide +kernel
theorem dL_law_163 : decode cL_law 163 = .ok (.bipush 8, 2) := by decide +kernel
theorem dL_law_165 : decode cL_law 165 = .ok (.irem, 1) := by decide +kernel
theorem dL_law_166 : decode cL_law 166 = .ok (.tableswitch 368 0 4 #[34, 82, 142, 275, 324], 34) := by decide +kernel
theorem dL_law_200 : decode cL_law 200 = .ok (.aload_n 1, 1) := by decide +kernel
theorem dL_law_201 : decode cL_law 201 = .ok (.iload 5, 2) := by decide +kernel
theorem dL_law_203 : decode cL_law 203 = .ok (.iconst 4, 1) := by decide +kernel
theorem dL_law_204 : decode cL_law 204 = .ok (.irem, 1) := by decide +kernel
theorem dL_law_205 : decode cL_law 205 = .ok (.iload 5, 2) := by decide +kernel
theorem dL_law_207 : decode cL_law 207 = .ok (.iconst 4, 1) := by decide +kernel
theorem dL_law_208 : decode cL_law 208 = .ok (.idiv, 1) := by decide +kernel
theorem dL_law_209 : decode cL_law 209 = .ok (.bipush 100, 2) := by decide +kernel
theorem dL_law_211 : decode cL_law 211 = .ok (.irem, 1) := by decide +kernel
theorem dL_law_212 : decode cL_law 212 = .ok (.invokevirtual 60, 3) := by decide +kernel
theorem dL_law_215 : decode cL_law 215 = .ok (.ifCond .lt 28, 3) := by decide +kernel
theorem dL_law_218 : decode cL_law 218 = .ok (.aload_n 1, 1) := by decide +kernel
theorem dL_law_219 : decode cL_law 219 = .ok (.iconst 1, 1) := by decide +kernel
theorem dL_law_220 : decode cL_law 220 = .ok (.iload 5, 2) := by decide +kernel
theorem dL_law_222 : decode cL_law 222 = .ok (.iconst 4, 1) := by decide +kernel
theorem dL_law_223 : decode cL_law 223 = .ok (.irem, 1) := by decide +kernel
theorem dL_law_224 : decode cL_law 224 = .ok (.bipush 6, 2) := by decide +kernel
theorem dL_law_226 : decode cL_law 226 = .ok (.invokevirtual 19, 3) := by decide +kernel
theorem dL_law_229 : decode cL_law 229 = .ok (.iload 5, 2) := by decide +kernel
theorem dL_law_231 : decode cL_law 231 = .ok (.iconst 4, 1) := by decide +kernel
theorem dL_law_232 : decode cL_law 232 = .ok (.idiv, 1) := by decide +kernel
theorem dL_law_233 : decode cL_law 233 = .ok (.bipush 100, 2) := by decide +kernel
theorem dL_law_235 : decode cL_law 235 = .ok (.irem, 1) := by decide +kernel
theorem dL_law_236 : decode cL_law 236 = .ok (.if_icmp .ne 7, 3) := by decide +kernel
theorem dL_law_239 : decode cL_law 239 = .ok (.iconst 1, 1) := by decide +kernel
theorem dL_law_240 : decode cL_law 240 = .ok (.goto 4, 3) := by decide +kernel
theorem dL_law_243 : decode cL_law 243 = .ok (.iconst 0, 1) := by decide +kernel
theorem dL_law_244 : decode cL_law 244 = .ok (.istore_n 2, 1) := by decide +kernel
theorem dL_law_245 : decode cL_law 245 = .ok (.goto 471, 3) := by decide +kernel
theorem dL_law_248 : decode cL_law 248 = .ok (.aload_n 1, 1) := by decide +kernel
theorem dL_law_249 : decode cL_law 249 = .ok (.iload 5, 2) := by decide +kernel
theorem dL_law_251 : decode cL_law 251 = .ok (.iconst 3, 1) := by decide +kernel
theorem dL_law_252 : decode cL_law 252 = .ok (.irem, 1) := by decide +kernel
theorem dL_law_253 : decode cL_law 253 = .ok (.iload 5, 2) := by decide +kernel
theorem dL_law_255 : decode cL_law 255 = .ok (.iconst 4, 1) := by decide +kernel
theorem dL_law_256 : decode cL_law 256 = .ok (.idiv, 1) := by decide +kernel
theorem dL_law_257 : decode cL_law 257 = .ok (.iconst 4, 1) := by decide +kernel
theorem dL_law_258 : decode cL_law 258 = .ok (.irem, 1) := by decide +kernel
theorem dL_law_259 : decode cL_law 259 = .ok (.iload 5, 2) := by decide +kernel
theorem dL_law_261 : decode cL_law 261 = .ok (.bipush 16, 2) := by decide +kernel
theorem dL_law_263 : decode cL_law 263 = .ok (.idiv, 1) := by decide +kernel
theorem dL_law_264 : decode cL_law 264 = .ok (.bipush 80, 2) := by decide +kernel
theorem dL_law_266 : decode cL_law 266 = .ok (.irem, 1) := by decide +kernel
theorem dL_law_267 : decode cL_law 267 = .ok (.invokevirtual 63, 3) := by decide +kernel
theorem dL_law_270 : decode cL_law 270 = .ok (.ifCond .lt 33, 3) := by decide +kernel
theorem dL_law_273 : decode cL_law 273 = .ok (.aload_n 1, 1) := by decide +kernel
theorem dL_law_274 : decode cL_law 274 = .ok (.iload 5, 2) := by decide +kernel
theorem dL_law_276 : decode cL_law 276 = .ok (.iconst 3, 1) := by decide +kernel
theorem dL_law_277 : decode cL_law 277 = .ok (.irem, 1) := by decide +kernel
theorem dL_law_278 : decode cL_law 278 = .ok (.iload 5, 2) := by decide +kernel
theorem dL_law_280 : decode cL_law 280 = .ok (.iconst 4, 1) := by decide +kernel
theorem dL_law_281 : decode cL_law 281 = .ok (.idiv, 1) := by decide +kernel
theorem dL_law_282 : decode cL_law 282 = .ok (.iconst 4, 1) := by decide +kernel
theorem dL_law_283 : decode cL_law 283 = .ok (.irem, 1) := by decide +kernel
theorem dL_law_284 : decode cL_law 284 = .ok (.iconst 0, 1) := by decide +kernel
theorem dL_law_285 : decode cL_law 285 = .ok (.invokevirtual 19, 3) := by decide +kernel
theorem dL_law_288 : decode cL_law 288 = .ok (.iload 5, 2) := by decide +kernel
theorem dL_law_290 : decode cL_law 290 = .ok (.bipush 16, 2) := by decide +kernel
theorem dL_law_292 : decode cL_law 292 = .ok (.idiv, 1) := by decide +kernel
theorem dL_law_293 : decode cL_law 293 = .ok (.bipush 80, 2) := by decide +kernel
theorem dL_law_295 : decode cL_law 295 = .ok (.irem, 1) := by decide +kernel
theorem dL_law_296 : decode cL_law 296 = .ok (.if_icmp .ne 7, 3) := by decide +kernel
theorem dL_law_299 : decode cL_law 299 = .ok (.iconst 1, 1) := by decide +kernel
theorem dL_law_300 : decode cL_law 300 = .ok (.goto 4, 3) := by decide +kernel
theorem dL_law_303 : decode cL_law 303 = .ok (.iconst 0, 1) := by decide +kernel
theorem dL_law_304 : decode cL_law 304 = .ok (.istore_n 2, 1) := by decide +kernel
theorem dL_law_305 : decode cL_law 305 = .ok (.goto 411, 3) := by decide +kernel
theorem dL_law_308 : decode cL_law 308 = .ok (.iload 5, 2) := by decide +kernel
theorem dL_law_310 : decode cL_law 310 = .ok (.iconst 1, 1) := by decide +kernel
theorem dL_law_311 : decode cL_law 311 = .ok (.iadd, 1) := by decide +kernel
theorem dL_law_312 : decode cL_law 312 = .ok (.iconst 3, 1) := by decide +kernel
theorem dL_law_313 : decode cL_law 313 = .ok (.irem, 1) := by decide +kernel
theorem dL_law_314 : decode cL_law 314 = .ok (.istore 7, 2) := by decide +kernel
theorem dL_law_316 : decode cL_law 316 = .ok (.aload_n 1, 1) := by decide +kernel
theorem dL_law_317 : decode cL_law 317 = .ok (.iload 7, 2) := by decide +kernel
theorem dL_law_319 : decode cL_law 319 = .ok (.iload 5, 2) := by decide +kernel
theorem dL_law_321 : decode cL_law 321 = .ok (.iconst 4, 1) := by decide +kernel
theorem dL_law_322 : decode cL_law 322 = .ok (.idiv, 1) := by decide +kernel
theorem dL_law_323 : decode cL_law 323 = .ok (.iconst 4, 1) := by decide +kernel
theorem dL_law_324 : decode cL_law 324 = .ok (.irem, 1) := by decide +kernel
theorem dL_law_325 : decode cL_law 325 = .ok (.iconst 3, 1) := by decide +kernel
theorem dL_law_326 : decode cL_law 326 = .ok (.invokevirtual 19, 3) := by decide +kernel
theorem dL_law_329 : decode cL_law 329 = .ok (.istore 8, 2) := by decide +kernel
theorem dL_law_331 : decode cL_law 331 = .ok (.aload_n 1, 1) := by decide +kernel
theorem dL_law_332 : decode cL_law 332 = .ok (.iload 5, 2) := by decide +kernel
theorem dL_law_334 : decode cL_law 334 = .ok (.iconst 3, 1) := by decide +kernel
theorem dL_law_335 : decode cL_law 335 = .ok (.irem, 1) := by decide +kernel
theorem dL_law_336 : decode cL_law 336 = .ok (.iload 7, 2) := by decide +kernel
theorem dL_law_338 : decode cL_law 338 = .ok (.iload 5, 2) := by decide +kernel
theorem dL_law_340 : decode cL_law 340 = .ok (.iconst 4, 1) := by decide +kernel
theorem dL_law_341 : decode cL_law 341 = .ok (.idiv, 1) := by decide +kernel
theorem dL_law_342 : decode cL_law 342 = .ok (.iconst 4, 1) := by decide +kernel
theorem dL_law_343 : decode cL_law 343 = .ok (.irem, 1) := by decide +kernel
theorem dL_law_344 : decode cL_law 344 = .ok (.iconst 1, 1) := by decide +kernel
theorem dL_law_345 : decode cL_law 345 = .ok (.iload 5, 2) := by decide +kernel
theorem dL_law_347 : decode cL_law 347 = .ok (.bipush 16, 2) := by decide +kernel
theorem dL_law_349 : decode cL_law 349 = .ok (.idiv, 1) := by decide +kernel
theorem dL_law_350 : decode cL_law 350 = .ok (.bipush 30, 2) := by decide +kernel
theorem dL_law_352 : decode cL_law 352 = .ok (.irem, 1) := by decide +kernel
theorem dL_law_353 : decode cL_law 353 = .ok (.iadd, 1) := by decide +kernel
theorem dL_law_354 : decode cL_law 354 = .ok (.invokevirtual 66, 3) := by decide +kernel
theorem dL_law_357 : decode cL_law 357 = .ok (.istore 9, 2) := by decide +kernel
theorem dL_law_359 : decode cL_law 359 = .ok (.iload 9, 2) := by decide +kernel
theorem dL_law_361 : decode cL_law 361 = .ok (.sipush (-1002), 3) := by decide +kernel
theorem dL_law_364 : decode cL_law 364 = .ok (.if_icmp .eq 68, 3) := by decide +kernel
theorem dL_law_367 : decode cL_law 367 = .ok (.aload_n 1, 1) := by decide +kernel
theorem dL_law_368 : decode cL_law 368 = .ok (.iload 7, 2) := by decide +kernel
theorem dL_law_370 : decode cL_law 370 = .ok (.iload 5, 2) := by decide +kernel
theorem dL_law_372 : decode cL_law 372 = .ok (.iconst 4, 1) := by decide +kernel
theorem dL_law_373 : decode cL_law 373 = .ok (.idiv, 1) := by decide +kernel
theorem dL_law_374 : decode cL_law 374 = .ok (.iconst 4, 1) := by decide +kernel
theorem dL_law_375 : decode cL_law 375 = .ok (.irem, 1) := by decide +kernel
theorem dL_law_376 : decode cL_law 376 = .ok (.iconst 3, 1) := by decide +kernel
theorem dL_law_377 : decode cL_law 377 = .ok (.invokevirtual 19, 3) := by decide +kernel
theorem dL_law_380 : decode cL_law 380 = .ok (.iload 8, 2) := by decide +kernel
theorem dL_law_382 : decode cL_law 382 = .ok (.iconst 1, 1) := by decide +kernel
theorem dL_law_383 : decode cL_law 383 = .ok (.iadd, 1) := by decide +kernel
theorem dL_law_384 : decode cL_law 384 = .ok (.iload 5, 2) := by decide +kernel
theorem dL_law_386 : decode cL_law 386 = .ok (.bipush 16, 2) := by decide +kernel
theorem dL_law_388 : decode cL_law 388 = .ok (.idiv, 1) := by decide +kernel
theorem dL_law_389 : decode cL_law 389 = .ok (.bipush 30, 2) := by decide +kernel
theorem dL_law_391 : decode cL_law 391 = .ok (.irem, 1) := by decide +kernel
theorem dL_law_392 : decode cL_law 392 = .ok (.iadd, 1) := by decide +kernel
theorem dL_law_393 : decode cL_law 393 = .ok (.if_icmp .ne 43, 3) := by decide +kernel
theorem dL_law_396 : decode cL_law 396 = .ok (.iload 9, 2) := by decide +kernel
theorem dL_law_398 : decode cL_law 398 = .ok (.aload_n 1, 1) := by decide +kernel
theorem dL_law_399 : decode cL_law 399 = .ok (.iload 5, 2) := by decide +kernel
theorem dL_law_401 : decode cL_law 401 = .ok (.iconst 3, 1) := by decide +kernel
theorem dL_law_402 : decode cL_law 402 = .ok (.irem, 1) := by decide +kernel
theorem dL_law_403 : decode cL_law 403 = .ok (.iload 5, 2) := by decide +kernel
theorem dL_law_405 : decode cL_law 405 = .ok (.iconst 4, 1) := by decide +kernel
theorem dL_law_406 : decode cL_law 406 = .ok (.idiv, 1) := by decide +kernel
theorem dL_law_407 : decode cL_law 407 = .ok (.iconst 4, 1) := by decide +kernel
theorem dL_law_408 : decode cL_law 408 = .ok (.irem, 1) := by decide +kernel
theorem dL_law_409 : decode cL_law 409 = .ok (.iconst 3, 1) := by decide +kernel
theorem dL_law_410 : decode cL_law 410 = .ok (.invokevirtual 19, 3) := by decide +kernel
theorem dL_law_413 : decode cL_law 413 = .ok (.aload_n 1, 1) := by decide +kernel
theorem dL_law_414 : decode cL_law 414 = .ok (.iload 5, 2) := by decide +kernel
theorem dL_law_416 : decode cL_law 416 = .ok (.iconst 3, 1) := by decide +kernel
theorem dL_law_417 : decode cL_law 417 = .ok (.irem, 1) := by decide +kernel
theorem dL_law_418 : decode cL_law 418 = .ok (.iload 5, 2) := by decide +kernel
theorem dL_law_420 : decode cL_law 420 = .ok (.iconst 4, 1) := by decide +kernel
theorem dL_law_421 : decode cL_law 421 = .ok (.idiv, 1) := by decide +kernel
theorem dL_law_422 : decode cL_law 422 = .ok (.iconst 4, 1) := by decide +kernel
theorem dL_law_423 : decode cL_law 423 = .ok (.irem, 1) := by decide +kernel
theorem dL_law_424 : decode cL_law 424 = .ok (.iconst 4, 1) := by decide +kernel
theorem dL_law_425 : decode cL_law 425 = .ok (.invokevirtual 19, 3) := by decide +kernel
theorem dL_law_428 : decode cL_law 428 = .ok (.isub, 1) := by decide +kernel
theorem dL_law_429 : decode cL_law 429 = .ok (.if_icmp .ne 7, 3) := by decide +kernel
theorem dL_law_432 : decode cL_law 432 = .ok (.iconst 1, 1) := by decide +kernel
theorem dL_law_433 : decode cL_law 433 = .ok (.goto 4, 3) := by decide +kernel
theorem dL_law_436 : decode cL_law 436 = .ok (.iconst 0, 1) := by decide +kernel
theorem dL_law_437 : decode cL_law 437 = .ok (.istore_n 2, 1) := by decide +kernel
theorem dL_law_438 : decode cL_law 438 = .ok (.goto 278, 3) := by decide +kernel
theorem dL_law_441 : decode cL_law 441 = .ok (.aload_n 1, 1) := by decide +kernel
theorem dL_law_442 : decode cL_law 442 = .ok (.iconst 1, 1) := by decide +kernel
theorem dL_law_443 : decode cL_law 443 = .ok (.invokevirtual 9, 3) := by decide +kernel
theorem dL_law_446 : decode cL_law 446 = .ok (.istore 10, 2) := by decide +kernel
theorem dL_law_448 : decode cL_law 448 = .ok (.iload 10, 2) := by decide +kernel
theorem dL_law_450 : decode cL_law 450 = .ok (.ifCond .eq 31, 3) := by decide +kernel
theorem dL_law_453 : decode cL_law 453 = .ok (.aload_n 1, 1) := by decide +kernel
theorem dL_law_454 : decode cL_law 454 = .ok (.aload_n 1, 1) := by decide +kernel
theorem dL_law_455 : decode cL_law 455 = .ok (.iload 5, 2) := by decide +kernel
theorem dL_law_457 : decode cL_law 457 = .ok (.iload 10, 2) := by decide +kernel
theorem dL_law_459 : decode cL_law 459 = .ok (.irem, 1) := by decide +kernel
theorem dL_law_460 : decode cL_law 460 = .ok (.invokevirtual 69, 3) := by decide +kernel
theorem dL_law_463 : decode cL_law 463 = .ok (.invokevirtual 72, 3) := by decide +kernel
theorem dL_law_466 : decode cL_law 466 = .ok (.ifCond .le 19, 3) := by decide +kernel
theorem dL_law_469 : decode cL_law 469 = .ok (.aload_n 1, 1) := by decide +kernel
theorem dL_law_470 : decode cL_law 470 = .ok (.iconst 1, 1) := by decide +kernel
theorem dL_law_471 : decode cL_law 471 = .ok (.invokevirtual 9, 3) := by decide +kernel
theorem dL_law_474 : decode cL_law 474 = .ok (.iload 10, 2) := by decide +kernel
theorem dL_law_476 : decode cL_law 476 = .ok (.iconst 1, 1) := by decide +kernel
theorem dL_law_477 : decode cL_law 477 = .ok (.isub, 1) := by decide +kernel
theorem dL_law_478 : decode cL_law 478 = .ok (.if_icmp .ne 7, 3) := by decide +kernel
theorem dL_law_481 : decode cL_law 481 = .ok (.iconst 1, 1) := by decide +kernel
theorem dL_law_482 : decode cL_law 482 = .ok (.goto 4, 3) := by decide +kernel
theorem dL_law_485 : decode cL_law 485 = .ok (.iconst 0, 1) := by decide +kernel
theorem dL_law_486 : decode cL_law 486 = .ok (.istore_n 2, 1) := by decide +kernel
theorem dL_law_487 : decode cL_law 487 = .ok (.goto 229, 3) := by decide +kernel
theorem dL_law_490 : decode cL_law 490 = .ok (.aload_n 1, 1) := by decide +kernel
theorem dL_law_491 : decode cL_law 491 = .ok (.iconst 4, 1) := by decide +kernel
theorem dL_law_492 : decode cL_law 492 = .ok (.invokevirtual 9, 3) := by decide +kernel
theorem dL_law_495 : decode cL_law 495 = .ok (.istore 11, 2) := by decide +kernel
theorem dL_law_497 : decode cL_law 497 = .ok (.aload_n 1, 1) := by decide +kernel
theorem dL_law_498 : decode cL_law 498 = .ok (.iload 5, 2) := by decide +kernel
theorem dL_law_500 : decode cL_law 500 = .ok (.iconst 4, 1) := by decide +kernel
theorem dL_law_501 : decode cL_law 501 = .ok (.irem, 1) := by decide +kernel
theorem dL_law_502 : decode cL_law 502 = .ok (.iconst 1, 1) := by decide +kernel
theorem dL_law_503 : decode cL_law 503 = .ok (.iload 5, 2) := by decide +kernel
theorem dL_law_505 : decode cL_law 505 = .ok (.iconst 4, 1) := by decide +kernel
theorem dL_law_506 : decode cL_law 506 = .ok (.idiv, 1) := by decide +kernel
theorem dL_law_507 : decode cL_law 507 = .ok (.bipush 9, 2) := by decide +kernel
theorem dL_law_509 : decode cL_law 509 = .ok (.irem, 1) := by decide +kernel
theorem dL_law_510 : decode cL_law 510 = .ok (.iadd, 1) := by decide +kernel
theorem dL_law_511 : decode cL_law 511 = .ok (.invokevirtual 75, 3) := by decide +kernel
theorem dL_law_514 : decode cL_law 514 = .ok (.aload_n 1, 1) := by decide +kernel
theorem dL_law_515 : decode cL_law 515 = .ok (.iconst 4, 1) := by decide +kernel
theorem dL_law_516 : decode cL_law 516 = .ok (.invokevirtual 9, 3) := by decide +kernel
theorem dL_law_519 : decode cL_law 519 = .ok (.iload 11, 2) := by decide +kernel
theorem dL_law_521 : decode cL_law 521 = .ok (.isub, 1) := by decide +kernel
theorem dL_law_522 : decode cL_law 522 = .ok (.if_icmp .ne 7, 3) := by decide +kernel
theorem dL_law_525 : decode cL_law 525 = .ok (.iconst 1, 1) := by decide +kernel
theorem dL_law_526 : decode cL_law 526 = .ok (.goto 4, 3) := by decide +kernel
theorem dL_law_529 : decode cL_law 529 = .ok (.iconst 0, 1) := by decide +kernel
theorem dL_law_530 : decode cL_law 530 = .ok (.istore_n 2, 1) := by decide +kernel
theorem dL_law_531 : decode cL_law 531 = .ok (.goto 185, 3) := by decide +kernel
theorem dL_law_534 : decode cL_law 534 = .ok (.iload 5, 2) := by decide +kernel
theorem dL_law_536 : decode cL_law 536 = .ok (.iconst 4, 1) := by decide +kernel
theorem dL_law_537 : decode cL_law 537 = .ok (.idiv, 1) := by decide +kernel
theorem dL_law_538 : decode cL_law 538 = .ok (.bipush 10, 2) := by decide +kernel
theorem dL_law_540 : decode cL_law 540 = .ok (.irem, 1) := by decide +kernel
theorem dL_law_541 : decode cL_law 541 = .ok (.istore 12, 2) := by decide +kernel
theorem dL_law_543 : decode cL_law 543 = .ok (.bipush 10, 2) := by decide +kernel
theorem dL_law_545 : decode cL_law 545 = .ok (.iload 12, 2) := by decide +kernel
theorem dL_law_547 : decode cL_law 547 = .ok (.imul, 1) := by decide +kernel
theorem dL_law_548 : decode cL_law 548 = .ok (.iload 12, 2) := by decide +kernel
theorem dL_law_550 : decode cL_law 550 = .ok (.iadd, 1) := by decide +kernel
theorem dL_law_551 : decode cL_law 551 = .ok (.iload 5, 2) := by decide +kernel
theorem dL_law_553 : decode cL_law 553 = .ok (.bipush 64, 2) := by decide +kernel
theorem dL_law_555 : decode cL_law 555 = .ok (.idiv, 1) := by decide +kernel
theorem dL_law_556 : decode cL_law 556 = .ok (.bipush 10, 2) := by decide +kernel
theorem dL_law_558 : decode cL_law 558 = .ok (.iload 12, 2) := by decide +kernel
theorem dL_law_560 : decode cL_law 560 = .ok (.isub, 1) := by decide +kernel
theorem dL_law_561 : decode cL_law 561 = .ok (.irem, 1) := by decide +kernel
theorem dL_law_562 : decode cL_law 562 = .ok (.iadd, 1) := by decide +kernel
theorem dL_law_563 : decode cL_law 563 = .ok (.istore 13, 2) := by decide +kernel
theorem dL_law_565 : decode cL_law 565 = .ok (.iconst 1, 1) := by decide +kernel
theorem dL_law_566 : decode cL_law 566 = .ok (.iload 5, 2) := by decide +kernel
theorem dL_law_568 : decode cL_law 568 = .ok (.sipush 1024, 3) := by decide +kernel
theorem dL_law_571 : decode cL_law 571 = .ok (.idiv, 1) := by decide +kernel
theorem dL_law_572 : decode cL_law 572 = .ok (.sipush 255, 3) := by decide +kernel
theorem dL_law_575 : decode cL_law 575 = .ok (.irem, 1) := by decide +kernel
theorem dL_law_576 : decode cL_law 576 = .ok (.iadd, 1) := by decide +kernel
theorem dL_law_577 : decode cL_law 577 = .ok (.istore 14, 2) := by decide +kernel
theorem dL_law_579 : decode cL_law 579 = .ok (.iload 5, 2) := by decide +kernel
theorem dL_law_581 : decode cL_law 581 = .ok (.ldc 78, 2) := by decide +kernel
theorem dL_law_583 : decode cL_law 583 = .ok (.idiv, 1) := by decide +kernel
theorem dL_law_584 : decode cL_law 584 = .ok (.iconst 4, 1) := by decide +kernel
theorem dL_law_585 : decode cL_law 585 = .ok (.irem, 1) := by decide +kernel
theorem dL_law_586 : decode cL_law 586 = .ok (.istore 15, 2) := by decide +kernel
theorem dL_law_588 : decode cL_law 588 = .ok (.aload_n 1, 1) := by decide +kernel
theorem dL_law_589 : decode cL_law 589 = .ok (.iload 5, 2) := by decide +kernel
theorem dL_law_591 : decode cL_law 591 = .ok (.iconst 4, 1) := by decide +kernel
theorem dL_law_592 : decode cL_law 592 = .ok (.irem, 1) := by decide +kernel
theorem dL_law_593 : decode cL_law 593 = .ok (.iload 15, 2) := by decide +kernel
theorem dL_law_595 : decode cL_law 595 = .ok (.iload 13, 2) := by decide +kernel
theorem dL_law_597 : decode cL_law 597 = .ok (.iload 14, 2) := by decide +kernel
theorem dL_law_599 : decode cL_law 599 = .ok (.invokevirtual 26, 3) := by decide +kernel
theorem dL_law_602 : decode cL_law 602 = .ok (.istore 16, 2) := by decide +kernel
theorem dL_law_604 : decode cL_law 604 = .ok (.aload_n 1, 1) := by decide +kernel
theorem dL_law_605 : decode cL_law 605 = .ok (.iload 5, 2) := by decide +kernel
theorem dL_law_607 : decode cL_law 607 = .ok (.iconst 4, 1) := by decide +kernel
theorem dL_law_608 : decode cL_law 608 = .ok (.irem, 1) := by decide +kernel
theorem dL_law_609 : decode cL_law 609 = .ok (.iload 15, 2) := by decide +kernel
theorem dL_law_611 : decode cL_law 611 = .ok (.iload 13, 2) := by decide +kernel
theorem dL_law_613 : decode cL_law 613 = .ok (.iload 14, 2) := by decide +kernel
theorem dL_law_615 : decode cL_law 615 = .ok (.invokevirtual 79, 3) := by decide +kernel
theorem dL_law_618 : decode cL_law 618 = .ok (.istore 17, 2) := by decide +kernel
theorem dL_law_620 : decode cL_law 620 = .ok (.iload 16, 2) := by decide +kernel
theorem dL_law_622 : decode cL_law 622 = .ok (.ifCond .le 19, 3) := by decide +kernel
theorem dL_law_625 : decode cL_law 625 = .ok (.iload 17, 2) := by decide +kernel
theorem dL_law_627 : decode cL_law 627 = .ok (.sipush (-1002), 3) := by decide +kernel
theorem dL_law_630 : decode cL_law 630 = .ok (.if_icmp .ne 7, 3) := by decide +kernel
theorem dL_law_633 : decode cL_law 633 = .ok (.iconst 1, 1) := by decide +kernel
theorem dL_law_634 : decode cL_law 634 = .ok (.goto 81, 3) := by decide +kernel
theorem dL_law_637 : decode cL_law 637 = .ok (.iconst 0, 1) := by decide +kernel
theorem dL_law_638 : decode cL_law 638 = .ok (.goto 77, 3) := by decide +kernel
theorem dL_law_641 : decode cL_law 641 = .ok (.iload 17, 2) := by decide +kernel
theorem dL_law_643 : decode cL_law 643 = .ok (.sipush (-1003), 3) := by decide +kernel
theorem dL_law_646 : decode cL_law 646 = .ok (.if_icmp .ne 21, 3) := by decide +kernel
theorem dL_law_649 : decode cL_law 649 = .ok (.aload_n 1, 1) := by decide +kernel
theorem dL_law_650 : decode cL_law 650 = .ok (.iconst 1, 1) := by decide +kernel
theorem dL_law_651 : decode cL_law 651 = .ok (.invokevirtual 9, 3) := by decide +kernel
theorem dL_law_654 : decode cL_law 654 = .ok (.bipush 24, 2) := by decide +kernel
theorem dL_law_656 : decode cL_law 656 = .ok (.if_icmp .ne 7, 3) := by decide +kernel
theorem dL_law_659 : decode cL_law 659 = .ok (.iconst 1, 1) := by decide +kernel
theorem dL_law_660 : decode cL_law 660 = .ok (.goto 55, 3) := by decide +kernel
theorem dL_law_663 : decode cL_law 663 = .ok (.iconst 0, 1) := by decide +kernel
theorem dL_law_664 : decode cL_law 664 = .ok (.goto 51, 3) := by decide +kernel
theorem dL_law_667 : decode cL_law 667 = .ok (.iload 17, 2) := by decide +kernel
theorem dL_law_669 : decode cL_law 669 = .ok (.aload_n 1, 1) := by decide +kernel
theorem dL_law_670 : decode cL_law 670 = .ok (.iconst 2, 1) := by decide +kernel
theorem dL_law_671 : decode cL_law 671 = .ok (.invokevirtual 9, 3) := by decide +kernel
theorem dL_law_674 : decode cL_law 674 = .ok (.iconst 1, 1) := by decide +kernel
theorem dL_law_675 : decode cL_law 675 = .ok (.isub, 1) := by decide +kernel
theorem dL_law_676 : decode cL_law 676 = .ok (.if_icmp .ne 38, 3) := by decide +kernel
theorem dL_law_679 : decode cL_law 679 = .ok (.aload_n 1, 1) := by decide +kernel
theorem dL_law_680 : decode cL_law 680 = .ok (.iload 5, 2) := by decide +kernel
theorem dL_law_682 : decode cL_law 682 = .ok (.iconst 4, 1) := by decide +kernel
theorem dL_law_683 : decode cL_law 683 = .ok (.irem, 1) := by decide +kernel
theorem dL_law_684 : decode cL_law 684 = .ok (.iload 15, 2) := by decide +kernel
theorem dL_law_686 : decode cL_law 686 = .ok (.iload 13, 2) := by decide +kernel
theorem dL_law_688 : decode cL_law 688 = .ok (.sipush 255, 3) := by decide +kernel
theorem dL_law_691 : decode cL_law 691 = .ok (.invokevirtual 82, 3) := by decide +kernel
theorem dL_law_694 : decode cL_law 694 = .ok (.iload 17, 2) := by decide +kernel
theorem dL_law_696 : decode cL_law 696 = .ok (.if_icmp .eq 18, 3) := by decide +kernel
theorem dL_law_699 : decode cL_law 699 = .ok (.aload_n 1, 1) := by decide +kernel
theorem dL_law_700 : decode cL_law 700 = .ok (.bipush 6, 2) := by decide +kernel
theorem dL_law_702 : decode cL_law 702 = .ok (.invokevirtual 9, 3) := by decide +kernel
theorem dL_law_705 : decode cL_law 705 = .ok (.iload 6, 2) := by decide +kernel
theorem dL_law_707 : decode cL_law 707 = .ok (.if_icmp .ne 7, 3) := by decide +kernel
theorem dL_law_710 : decode cL_law 710 = .ok (.iconst 1, 1) := by decide +kernel
theorem dL_law_711 : decode cL_law 711 = .ok (.goto 4, 3) := by decide +kernel
theorem dL_law_714 : decode cL_law 714 = .ok (.iconst 0, 1) := by decide +kernel
theorem dL_law_715 : decode cL_law 715 = .ok (.istore_n 2, 1) := by decide +kernel
theorem dL_law_716 : decode cL_law 716 = .ok (.iload_n 2, 1) := by decide +kernel
theorem dL_law_717 : decode cL_law 717 = .ok (.ifCond .eq 23, 3) := by decide +kernel
theorem dL_law_720 : decode cL_law 720 = .ok (.aload_n 1, 1) := by decide +kernel
theorem dL_law_721 : decode cL_law 721 = .ok (.invokestatic 37, 3) := by decide +kernel
theorem dL_law_724 : decode cL_law 724 = .ok (.ifCond .eq 16, 3) := by decide +kernel
theorem dL_law_727 : decode cL_law 727 = .ok (.aload_n 1, 1) := by decide +kernel
theorem dL_law_728 : decode cL_law 728 = .ok (.bipush 6, 2) := by decide +kernel
theorem dL_law_730 : decode cL_law 730 = .ok (.invokevirtual 9, 3) := by decide +kernel
theorem dL_law_733 : decode cL_law 733 = .ok (.ifCond .ne 7, 3) := by decide +kernel
theorem dL_law_736 : decode cL_law 736 = .ok (.iconst 1, 1) := by decide +kernel
theorem dL_law_737 : decode cL_law 737 = .ok (.goto 4, 3) := by decide +kernel
theorem dL_law_740 : decode cL_law 740 = .ok (.iconst 0, 1) := by decide +kernel
theorem dL_law_741 : decode cL_law 741 = .ok (.istore_n 2, 1) := by decide +kernel
theorem dL_law_742 : decode cL_law 742 = .ok (.iinc 3 1, 3) := by decide +kernel
theorem dL_law_745 : decode cL_law 745 = .ok (.goto (-618), 3) := by decide +kernel
theorem dL_law_748 : decode cL_law 748 = .ok (.aload_n 1, 1) := by decide +kernel
theorem dL_law_749 : decode cL_law 749 = .ok (.iconst 2, 1) := by decide +kernel
theorem dL_law_750 : decode cL_law 750 = .ok (.invokevirtual 9, 3) := by decide +kernel
theorem dL_law_753 : decode cL_law 753 = .ok (.istore_n 3, 1) := by decide +kernel
theorem dL_law_754 : decode cL_law 754 = .ok (.aload_n 1, 1) := by decide +kernel
theorem dL_law_755 : decode cL_law 755 = .ok (.bipush 7, 2) := by decide +kernel
theorem dL_law_757 : decode cL_law 757 = .ok (.invokevirtual 9, 3) := by decide +kernel
theorem dL_law_760 : decode cL_law 760 = .ok (.istore 4, 2) := by decide +kernel
theorem dL_law_762 : decode cL_law 762 = .ok (.iload_n 2, 1) := by decide +kernel
theorem dL_law_763 : decode cL_law 763 = .ok (.ifCond .eq 52, 3) := by decide +kernel
theorem dL_law_766 : decode cL_law 766 = .ok (.aload_n 1, 1) := by decide +kernel
theorem dL_law_767 : decode cL_law 767 = .ok (.iconst 0, 1) := by decide +kernel
theorem dL_law_768 : decode cL_law 768 = .ok (.bipush 50, 2) := by decide +kernel
theorem dL_law_770 : decode cL_law 770 = .ok (.invokevirtual 85, 3) := by decide +kernel
theorem dL_law_773 : decode cL_law 773 = .ok (.ifCond .lt 42, 3) := by decide +kernel
theorem dL_law_776 : decode cL_law 776 = .ok (.aload_n 1, 1) := by decide +kernel
theorem dL_law_777 : decode cL_law 777 = .ok (.invokestatic 37, 3) := by decide +kernel
theorem dL_law_780 : decode cL_law 780 = .ok (.ifCond .eq 35, 3) := by decide +kernel
theorem dL_law_783 : decode cL_law 783 = .ok (.aload_n 1, 1) := by decide +kernel
theorem dL_law_784 : decode cL_law 784 = .ok (.invokevirtual 43, 3) := by decide +kernel
theorem dL_law_787 : decode cL_law 787 = .ok (.iload 4, 2) := by decide +kernel
theorem dL_law_789 : decode cL_law 789 = .ok (.iconst 4, 1) := by decide +kernel
theorem dL_law_790 : decode cL_law 790 = .ok (.if_icmp .ge 8, 3) := by decide +kernel
theorem dL_law_793 : decode cL_law 793 = .ok (.iload 4, 2) := by decide +kernel
theorem dL_law_795 : decode cL_law 795 = .ok (.goto 4, 3) := by decide +kernel
theorem dL_law_798 : decode cL_law 798 = .ok (.iconst 3, 1) := by decide +kernel
theorem dL_law_799 : decode cL_law 799 = .ok (.if_icmp .ne 16, 3) := by decide +kernel
theorem dL_law_802 : decode cL_law 802 = .ok (.aload_n 1, 1) := by decide +kernel
theorem dL_law_803 : decode cL_law 803 = .ok (.iconst 2, 1) := by decide +kernel
theorem dL_law_804 : decode cL_law 804 = .ok (.invokevirtual 9, 3) := by decide +kernel
theorem dL_law_807 : decode cL_law 807 = .ok (.iload_n 3, 1) := by decide +kernel
theorem dL_law_808 : decode cL_law 808 = .ok (.if_icmp .ne 7, 3) := by decide +kernel
theorem dL_law_811 : decode cL_law 811 = .ok (.iconst 1, 1) := by decide +kernel
theorem dL_law_812 : decode cL_law 812 = .ok (.goto 4, 3) := by decide +kernel
theorem dL_law_815 : decode cL_law 815 = .ok (.iconst 0, 1) := by decide +kernel
theorem dL_law_816 : decode cL_law 816 = .ok (.istore_n 2, 1) := by decide +kernel
theorem dL_law_817 : decode cL_law 817 = .ok (.iload_n 2, 1) := by decide +kernel
theorem dL_law_818 : decode cL_law 818 = .ok (.ifCond .eq 14, 3) := by decide +kernel
theorem dL_law_821 : decode cL_law 821 = .ok (.aload_n 1, 1) := by decide +kernel
theorem dL_law_822 : decode cL_law 822 = .ok (.invokestatic 37, 3) := by decide +kernel
theorem dL_law_825 : decode cL_law 825 = .ok (.ifCond .eq 7, 3) := by decide +kernel
theorem dL_law_828 : decode cL_law 828 = .ok (.iconst 1, 1) := by decide +kernel
theorem dL_law_829 : decode cL_law 829 = .ok (.goto 4, 3) := by decide +kernel
theorem dL_law_832 : decode cL_law 832 = .ok (.iconst 0, 1) := by decide +kernel
theorem dL_law_833 : decode cL_law 833 = .ok (.ireturn, 1) := by decide +kernel
abbrev vwCl : List vw_C := [(RX0, TX0, 7), (RX1, TX1, 7), (RX2, TX2, 13), (RX3, TX3, 9), (RX4, TX4, 5)]
