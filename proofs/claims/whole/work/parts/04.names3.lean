theorem dX5_init_13 : decode cX5_init 13 = .ok (.aload_n 0, 1) := by decide +kernel
theorem dX5_init_14 : decode cX5_init 14 = .ok (.sipush 800, 3) := by decide +kernel
theorem dX5_init_17 : decode cX5_init 17 = .ok (.newarray .int, 2) := by decide +kernel
theorem dX5_init_19 : decode cX5_init 19 = .ok (.putfield 15, 3) := by decide +kernel
theorem dX5_init_22 : decode cX5_init 22 = .ok (.aload_n 0, 1) := by decide +kernel
theorem dX5_init_23 : decode cX5_init 23 = .ok (.sipush 400, 3) := by decide +kernel
theorem dX5_init_26 : decode cX5_init 26 = .ok (.newarray .int, 2) := by decide +kernel
theorem dX5_init_28 : decode cX5_init 28 = .ok (.putfield 18, 3) := by decide +kernel
theorem dX5_init_31 : decode cX5_init 31 = .ok (.aload_n 0, 1) := by decide +kernel
theorem dX5_init_32 : decode cX5_init 32 = .ok (.sipush 400, 3) := by decide +kernel
theorem dX5_init_35 : decode cX5_init 35 = .ok (.newarray .int, 2) := by decide +kernel
theorem dX5_init_37 : decode cX5_init 37 = .ok (.putfield 21, 3) := by decide +kernel
theorem dX5_init_40 : decode cX5_init 40 = .ok (.aload_n 0, 1) := by decide +kernel
theorem dX5_init_41 : decode cX5_init 41 = .ok (.bipush 8, 2) := by decide +kernel
theorem dX5_init_43 : decode cX5_init 43 = .ok (.newarray .int, 2) := by decide +kernel
theorem dX5_init_45 : decode cX5_init 45 = .ok (.putfield 24, 3) := by decide +kernel
theorem dX5_init_48 : decode cX5_init 48 = .ok (.aload_n 0, 1) := by decide +kernel
theorem dX5_init_49 : decode cX5_init 49 = .ok (.bipush 8, 2) := by decide +kernel
theorem dX5_init_51 : decode cX5_init 51 = .ok (.newarray .int, 2) := by decide +kernel
theorem dX5_init_53 : decode cX5_init 53 = .ok (.putfield 27, 3) := by decide +kernel
theorem dX5_init_56 : decode cX5_init 56 = .ok (.return_, 1) := by decide +kernel
theorem dX5_forget_0 : decode cX5_forget 0 = .ok (.aload_n 0, 1) := by decide +kernel
theorem dX5_forget_1 : decode cX5_forget 1 = .ok (.iconst 0, 1) := by decide +kernel
theorem dX5_forget_2 : decode cX5_forget 2 = .ok (.putfield 30, 3) := by decide +kernel
theorem dX5_forget_5 : decode cX5_forget 5 = .ok (.aload_n 0, 1) := by decide +kernel
theorem dX5_forget_6 : decode cX5_forget 6 = .ok (.iconst 0, 1) := by decide +kernel
theorem dX5_forget_7 : decode cX5_forget 7 = .ok (.putfield 34, 3) := by decide +kernel
theorem dX5_forget_10 : decode cX5_forget 10 = .ok (.aload_n 0, 1) := by decide +kernel
theorem dX5_forget_11 : decode cX5_forget 11 = .ok (.iconst 0, 1) := by decide +kernel
theorem dX5_forget_12 : decode cX5_forget 12 = .ok (.putfield 37, 3) := by decide +kernel
theorem dX5_forget_15 : decode cX5_forget 15 = .ok (.aload_n 0, 1) := by decide +kernel
theorem dX5_forget_16 : decode cX5_forget 16 = .ok (.iconst 0, 1) := by decide +kernel
theorem dX5_forget_17 : decode cX5_forget 17 = .ok (.putfield 40, 3) := by decide +kernel
theorem dX5_forget_20 : decode cX5_forget 20 = .ok (.return_, 1) := by decide +kernel
theorem dX5_forgetMerged_0 : decode cX5_forgetMerged 0 = .ok (.aload_n 0, 1) := by decide +kernel
theorem dX5_forgetMerged_1 : decode cX5_forgetMerged 1 = .ok (.aload_n 0, 1) := by decide +kernel
theorem dX5_forgetMerged_2 : decode cX5_forgetMerged 2 = .ok (.getfield 34, 3) := by decide +kernel
theorem dX5_forgetMerged_5 : decode cX5_forgetMerged 5 = .ok (.putfield 37, 3) := by decide +kernel
theorem dX5_forgetMerged_8 : decode cX5_forgetMerged 8 = .ok (.aload_n 0, 1) := by decide +kernel
theorem dX5_forgetMerged_9 : decode cX5_forgetMerged 9 = .ok (.aload_n 0, 1) := by decide +kernel
theorem dX5_forgetMerged_10 : decode cX5_forgetMerged 10 = .ok (.getfield 30, 3) := by decide +kernel
theorem dX5_forgetMerged_13 : decode cX5_forgetMerged 13 = .ok (.putfield 40, 3) := by decide +kernel
theorem dX5_forgetMerged_16 : decode cX5_forgetMerged 16 = .ok (.return_, 1) := by decide +kernel
set_option maxRecDepth 20000 in
theorem ggX5_has_X6_isIn : GoodIn wsX5_has wsX6_isIn := goodIn_r _ [4] (by decide +kernel) (by decide +kernel)
set_option maxRecDepth 20000 in
theorem gX5_has_X6_isIn_n43 : GoodIn wsX5_has (wsX6_isIn) := ggX5_has_X6_isIn
theorem dX5_has_0 : decode cX5_has 0 = .ok (.iload_n 1, 1) := by decide +kernel
theorem dX5_has_1 : decode cX5_has 1 = .ok (.iconst 0, 1) := by decide +kernel
theorem dX5_has_2 : decode cX5_has 2 = .ok (.aload_n 0, 1) := by decide +kernel
theorem dX5_has_3 : decode cX5_has 3 = .ok (.getfield 37, 3) := by decide +kernel
theorem dX5_has_6 : decode cX5_has 6 = .ok (.iconst 1, 1) := by decide +kernel
theorem dX5_has_7 : decode cX5_has 7 = .ok (.isub, 1) := by decide +kernel
theorem dX5_has_8 : decode cX5_has 8 = .ok (.invokestatic 43, 3) := by decide +kernel
theorem dX5_has_11 : decode cX5_has 11 = .ok (.ireturn, 1) := by decide +kernel
set_option maxRecDepth 20000 in
theorem ggX5_sizeOf_X5_has : GoodIn wsX5_sizeOf wsX5_has := goodIn_r _ [6, 7, 8, 9, 10, 11, 12, 13, 14, 15, 16, 17, 18, 19, 20] (by decide +kernel) (by decide +kernel)
set_option maxRecDepth 20000 in
theorem gX5_sizeOf_X5_has : GoodIn wsX5_sizeOf (wsV RX5 47 RX5 yX5_has wsX5_has) := goodIn_app (goodIn_of _ (by decide +kernel)) ggX5_sizeOf_X5_has
theorem dX5_sizeOf_0 : decode cX5_sizeOf 0 = .ok (.aload_n 0, 1) := by decide +kernel
theorem dX5_sizeOf_1 : decode cX5_sizeOf 1 = .ok (.iload_n 1, 1) := by decide +kernel
theorem dX5_sizeOf_2 : decode cX5_sizeOf 2 = .ok (.invokevirtual 47, 3) := by decide +kernel
theorem dX5_sizeOf_5 : decode cX5_sizeOf 5 = .ok (.ifCond .eq 21, 3) := by decide +kernel
theorem dX5_sizeOf_8 : decode cX5_sizeOf 8 = .ok (.aload_n 0, 1) := by decide +kernel
theorem dX5_sizeOf_9 : decode cX5_sizeOf 9 = .ok (.getfield 15, 3) := by decide +kernel
theorem dX5_sizeOf_12 : decode cX5_sizeOf 12 = .ok (.iload_n 1, 1) := by decide +kernel
theorem dX5_sizeOf_13 : decode cX5_sizeOf 13 = .ok (.iconst 1, 1) := by decide +kernel
theorem dX5_sizeOf_14 : decode cX5_sizeOf 14 = .ok (.iadd, 1) := by decide +kernel
theorem dX5_sizeOf_15 : decode cX5_sizeOf 15 = .ok (.iaload, 1) := by decide +kernel
theorem dX5_sizeOf_16 : decode cX5_sizeOf 16 = .ok (.aload_n 0, 1) := by decide +kernel
theorem dX5_sizeOf_17 : decode cX5_sizeOf 17 = .ok (.getfield 15, 3) := by decide +kernel
theorem dX5_sizeOf_20 : decode cX5_sizeOf 20 = .ok (.iload_n 1, 1) := by decide +kernel
theorem dX5_sizeOf_21 : decode cX5_sizeOf 21 = .ok (.iaload, 1) := by decide +kernel
theorem dX5_sizeOf_22 : decode cX5_sizeOf 22 = .ok (.isub, 1) := by decide +kernel
theorem dX5_sizeOf_23 : decode cX5_sizeOf 23 = .ok (.goto 4, 3) := by decide +kernel
theorem dX5_sizeOf_26 : decode cX5_sizeOf 26 = .ok (.iconst 0, 1) := by decide +kernel
theorem dX5_sizeOf_27 : decode cX5_sizeOf 27 = .ok (.ireturn, 1) := by decide +kernel
set_option maxRecDepth 20000 in
theorem ggX5_rowIn_X5_sizeOf : GoodIn wsX5_rowIn wsX5_sizeOf := goodIn_r _ [7, 2, 8, 9, 10, 6, 11, 12, 13, 14, 15, 16, 17, 18, 19, 20, 21, 22, 23, 24, 25] (by decide +kernel) (by decide +kernel)
set_option maxRecDepth 20000 in
theorem gX5_rowIn_X5_sizeOf : GoodIn wsX5_rowIn (wsV RX5 51 RX5 yX5_sizeOf wsX5_sizeOf) := goodIn_app (goodIn_of _ (by decide +kernel)) ggX5_rowIn_X5_sizeOf
set_option maxRecDepth 20000 in
theorem ggX5_rowIn_X6_isIn : GoodIn wsX5_rowIn wsX6_isIn := goodIn_r _ [15] (by decide +kernel) (by decide +kernel)
set_option maxRecDepth 20000 in
theorem gX5_rowIn_X6_isIn_n43 : GoodIn wsX5_rowIn (wsX6_isIn) := ggX5_rowIn_X6_isIn
theorem dX5_rowIn_0 : decode cX5_rowIn 0 = .ok (.iload_n 2, 1) := by decide +kernel
theorem dX5_rowIn_1 : decode cX5_rowIn 1 = .ok (.iconst 0, 1) := by decide +kernel
theorem dX5_rowIn_2 : decode cX5_rowIn 2 = .ok (.aload_n 0, 1) := by decide +kernel
theorem dX5_rowIn_3 : decode cX5_rowIn 3 = .ok (.iload_n 1, 1) := by decide +kernel
theorem dX5_rowIn_4 : decode cX5_rowIn 4 = .ok (.invokevirtual 51, 3) := by decide +kernel
theorem dX5_rowIn_7 : decode cX5_rowIn 7 = .ok (.iconst 1, 1) := by decide +kernel
theorem dX5_rowIn_8 : decode cX5_rowIn 8 = .ok (.isub, 1) := by decide +kernel
theorem dX5_rowIn_9 : decode cX5_rowIn 9 = .ok (.invokestatic 43, 3) := by decide +kernel
theorem dX5_rowIn_12 : decode cX5_rowIn 12 = .ok (.ifCond .eq 19, 3) := by decide +kernel
theorem dX5_rowIn_15 : decode cX5_rowIn 15 = .ok (.aload_n 0, 1) := by decide +kernel
theorem dX5_rowIn_16 : decode cX5_rowIn 16 = .ok (.getfield 9, 3) := by decide +kernel
theorem dX5_rowIn_19 : decode cX5_rowIn 19 = .ok (.aload_n 0, 1) := by decide +kernel
theorem dX5_rowIn_20 : decode cX5_rowIn 20 = .ok (.getfield 15, 3) := by decide +kernel
theorem dX5_rowIn_23 : decode cX5_rowIn 23 = .ok (.iload_n 1, 1) := by decide +kernel
theorem dX5_rowIn_24 : decode cX5_rowIn 24 = .ok (.iaload, 1) := by decide +kernel
theorem dX5_rowIn_25 : decode cX5_rowIn 25 = .ok (.iload_n 2, 1) := by decide +kernel
theorem dX5_rowIn_26 : decode cX5_rowIn 26 = .ok (.iadd, 1) := by decide +kernel
theorem dX5_rowIn_27 : decode cX5_rowIn 27 = .ok (.iaload, 1) := by decide +kernel
theorem dX5_rowIn_28 : decode cX5_rowIn 28 = .ok (.goto 4, 3) := by decide +kernel
theorem dX5_rowIn_31 : decode cX5_rowIn 31 = .ok (.iconst (-1), 1) := by decide +kernel
theorem dX5_rowIn_32 : decode cX5_rowIn 32 = .ok (.ireturn, 1) := by decide +kernel
set_option maxRecDepth 20000 in
theorem ggX5_rowInOrder_X6_isIn : GoodIn wsX5_rowInOrder wsX6_isIn := goodIn_r _ [5] (by decide +kernel) (by decide +kernel)
set_option maxRecDepth 20000 in
theorem gX5_rowInOrder_X6_isIn_n43 : GoodIn wsX5_rowInOrder (wsX6_isIn) := ggX5_rowInOrder_X6_isIn
theorem dX5_rowInOrder_0 : decode cX5_rowInOrder 0 = .ok (.iload_n 1, 1) := by decide +kernel
theorem dX5_rowInOrder_1 : decode cX5_rowInOrder 1 = .ok (.iconst 0, 1) := by decide +kernel
theorem dX5_rowInOrder_2 : decode cX5_rowInOrder 2 = .ok (.aload_n 0, 1) := by decide +kernel
theorem dX5_rowInOrder_3 : decode cX5_rowInOrder 3 = .ok (.getfield 30, 3) := by decide +kernel
theorem dX5_rowInOrder_6 : decode cX5_rowInOrder 6 = .ok (.iconst 1, 1) := by decide +kernel
theorem dX5_rowInOrder_7 : decode cX5_rowInOrder 7 = .ok (.isub, 1) := by decide +kernel
theorem dX5_rowInOrder_8 : decode cX5_rowInOrder 8 = .ok (.invokestatic 43, 3) := by decide +kernel
theorem dX5_rowInOrder_11 : decode cX5_rowInOrder 11 = .ok (.ifCond .eq 12, 3) := by decide +kernel
theorem dX5_rowInOrder_14 : decode cX5_rowInOrder 14 = .ok (.aload_n 0, 1) := by decide +kernel
theorem dX5_rowInOrder_15 : decode cX5_rowInOrder 15 = .ok (.getfield 18, 3) := by decide +kernel
theorem dX5_rowInOrder_18 : decode cX5_rowInOrder 18 = .ok (.iload_n 1, 1) := by decide +kernel
theorem dX5_rowInOrder_19 : decode cX5_rowInOrder 19 = .ok (.iaload, 1) := by decide +kernel
theorem dX5_rowInOrder_20 : decode cX5_rowInOrder 20 = .ok (.goto 4, 3) := by decide +kernel
theorem dX5_rowInOrder_23 : decode cX5_rowInOrder 23 = .ok (.iconst (-1), 1) := by decide +kernel
theorem dX5_rowInOrder_24 : decode cX5_rowInOrder 24 = .ok (.ireturn, 1) := by decide +kernel
set_option maxRecDepth 20000 in
theorem ggX5_standingOf_X6_isIn : GoodIn wsX5_standingOf wsX6_isIn := goodIn_r _ [5] (by decide +kernel) (by decide +kernel)
set_option maxRecDepth 20000 in
theorem gX5_standingOf_X6_isIn_n43 : GoodIn wsX5_standingOf (wsX6_isIn) := ggX5_standingOf_X6_isIn
theorem dX5_standingOf_0 : decode cX5_standingOf 0 = .ok (.iload_n 1, 1) := by decide +kernel
theorem dX5_standingOf_1 : decode cX5_standingOf 1 = .ok (.iconst 0, 1) := by decide +kernel
theorem dX5_standingOf_2 : decode cX5_standingOf 2 = .ok (.aload_n 0, 1) := by decide +kernel
theorem dX5_standingOf_3 : decode cX5_standingOf 3 = .ok (.getfield 30, 3) := by decide +kernel
theorem dX5_standingOf_6 : decode cX5_standingOf 6 = .ok (.iconst 1, 1) := by decide +kernel
theorem dX5_standingOf_7 : decode cX5_standingOf 7 = .ok (.isub, 1) := by decide +kernel
theorem dX5_standingOf_8 : decode cX5_standingOf 8 = .ok (.invokestatic 43, 3) := by decide +kernel
theorem dX5_standingOf_11 : decode cX5_standingOf 11 = .ok (.ifCond .eq 12, 3) := by decide +kernel
theorem dX5_standingOf_14 : decode cX5_standingOf 14 = .ok (.aload_n 0, 1) := by decide +kernel
theorem dX5_standingOf_15 : decode cX5_standingOf 15 = .ok (.getfield 21, 3) := by decide +kernel
theorem dX5_standingOf_18 : decode cX5_standingOf 18 = .ok (.iload_n 1, 1) := by decide +kernel
theorem dX5_standingOf_19 : decode cX5_standingOf 19 = .ok (.iaload, 1) := by decide +kernel
theorem dX5_standingOf_20 : decode cX5_standingOf 20 = .ok (.goto 4, 3) := by decide +kernel
theorem dX5_standingOf_23 : decode cX5_standingOf 23 = .ok (.iconst (-1), 1) := by decide +kernel
theorem dX5_standingOf_24 : decode cX5_standingOf 24 = .ok (.ireturn, 1) := by decide +kernel
set_option maxRecDepth 20000 in
theorem ggX5_makeOf_X5_putInOrder : GoodIn wsX5_makeOf wsX5_putInOrder := goodIn_r _ [8, 1, 9, 10, 11, 12, 13, 14, 15, 16, 17, 18, 19, 20, 21, 22, 23, 24, 25, 26, 27, 28, 29, 30, 31, 32, 33, 34, 35, 36, 37, 38, 39, 40, 41, 42, 43, 44, 45, 46, 47, 48, 49, 50, 51, 52, 53, 79, 80, 81, 82, 83, 84, 85, 86, 87, 88, 89, 90, 74, 75, 76, 77, 78] (by decide +kernel) (by decide +kernel)
set_option maxRecDepth 20000 in
theorem gX5_makeOf_X5_putInOrder : GoodIn wsX5_makeOf (wsV RX5 60 RX5 yX5_putInOrder wsX5_putInOrder) := goodIn_app (goodIn_of _ (by decide +kernel)) ggX5_makeOf_X5_putInOrder
set_option maxRecDepth 20000 in
theorem ggX5_makeOf_X5_select : GoodIn wsX5_makeOf wsX5_select := goodIn_r _ [57, 1, 58, 59, 60, 61, 62, 2, 11, 12, 13, 14, 15, 16, 17, 18, 19, 20, 21, 22, 23, 24, 25, 26, 27, 28, 29, 30, 31, 32, 33, 34, 35, 36, 37, 38, 39, 40, 41, 42, 43, 44, 45, 46, 47, 48, 49, 63, 64, 65, 7, 66, 67, 68, 50, 51, 52, 53, 69, 70, 71, 72, 73, 79, 80, 81, 82, 83, 84, 85, 86, 87, 88, 89, 90, 74, 75, 76, 77, 78] (by decide +kernel) (by decide +kernel)
set_option maxRecDepth 20000 in
theorem gX5_makeOf_X5_select : GoodIn wsX5_makeOf (wsV RX5 64 RX5 yX5_select wsX5_select) := goodIn_app (goodIn_of _ (by decide +kernel)) ggX5_makeOf_X5_select
theorem dX5_makeOf_0 : decode cX5_makeOf 0 = .ok (.aload_n 0, 1) := by decide +kernel
theorem dX5_makeOf_1 : decode cX5_makeOf 1 = .ok (.aload_n 1, 1) := by decide +kernel
theorem dX5_makeOf_2 : decode cX5_makeOf 2 = .ok (.getfield 55, 3) := by decide +kernel
theorem dX5_makeOf_5 : decode cX5_makeOf 5 = .ok (.putfield 30, 3) := by decide +kernel
theorem dX5_makeOf_8 : decode cX5_makeOf 8 = .ok (.aload_n 0, 1) := by decide +kernel
theorem dX5_makeOf_9 : decode cX5_makeOf 9 = .ok (.aload_n 1, 1) := by decide +kernel
theorem dX5_makeOf_10 : decode cX5_makeOf 10 = .ok (.aload_n 3, 1) := by decide +kernel
theorem dX5_makeOf_11 : decode cX5_makeOf 11 = .ok (.invokevirtual 60, 3) := by decide +kernel
theorem dX5_makeOf_14 : decode cX5_makeOf 14 = .ok (.aload_n 0, 1) := by decide +kernel
theorem dX5_makeOf_15 : decode cX5_makeOf 15 = .ok (.aload_n 1, 1) := by decide +kernel
theorem dX5_makeOf_16 : decode cX5_makeOf 16 = .ok (.iload_n 2, 1) := by decide +kernel
theorem dX5_makeOf_17 : decode cX5_makeOf 17 = .ok (.aload_n 3, 1) := by decide +kernel
theorem dX5_makeOf_18 : decode cX5_makeOf 18 = .ok (.invokevirtual 64, 3) := by decide +kernel
theorem dX5_makeOf_21 : decode cX5_makeOf 21 = .ok (.aload_n 0, 1) := by decide +kernel
theorem dX5_makeOf_22 : decode cX5_makeOf 22 = .ok (.aload_n 0, 1) := by decide +kernel
theorem dX5_makeOf_23 : decode cX5_makeOf 23 = .ok (.getfield 37, 3) := by decide +kernel
theorem dX5_makeOf_26 : decode cX5_makeOf 26 = .ok (.putfield 34, 3) := by decide +kernel
theorem dX5_makeOf_29 : decode cX5_makeOf 29 = .ok (.return_, 1) := by decide +kernel
set_option maxRecDepth 20000 in
theorem ggX5_putInOrder_X1_forget : GoodIn wsX5_putInOrder wsX1_forget := goodIn_r _ [8, 9, 57, 58] (by decide +kernel) (by decide +kernel)
set_option maxRecDepth 20000 in
theorem gX5_putInOrder_X1_forget : GoodIn wsX5_putInOrder (wsV RX5 68 RX1 yX1_forget wsX1_forget) := goodIn_app (goodIn_of _ (by decide +kernel)) ggX5_putInOrder_X1_forget
set_option maxRecDepth 20000 in
theorem ggX5_putInOrder_X4_placeOf : GoodIn wsX5_putInOrder wsX4_placeOf := goodIn_r _ [14, 15, 16, 17, 18, 19, 20, 21, 22, 23, 24, 13, 25, 26, 27, 28, 29, 59, 60, 61, 62, 63] (by decide +kernel) (by decide +kernel)
set_option maxRecDepth 20000 in
theorem gX5_putInOrder_X4_placeOf : GoodIn wsX5_putInOrder (wsV RX5 73 RX4 yX4_placeOf wsX4_placeOf) := goodIn_app (goodIn_of _ (by decide +kernel)) ggX5_putInOrder_X4_placeOf
set_option maxRecDepth 20000 in
theorem ggX5_putInOrder_X1_add : GoodIn wsX5_putInOrder wsX1_add := goodIn_r _ [33, 9, 34, 57, 58] (by decide +kernel) (by decide +kernel)
set_option maxRecDepth 20000 in
theorem gX5_putInOrder_X1_add : GoodIn wsX5_putInOrder (wsV RX5 76 RX1 yX1_add wsX1_add) := goodIn_app (goodIn_of _ (by decide +kernel)) ggX5_putInOrder_X1_add
set_option maxRecDepth 20000 in
theorem ggX5_putInOrder_X1_takeLeast : GoodIn wsX5_putInOrder wsX1_takeLeast := goodIn_r _ [38, 9, 34, 39, 40, 41, 7, 42, 57, 58] (by decide +kernel) (by decide +kernel)
set_option maxRecDepth 20000 in
theorem gX5_putInOrder_X1_takeLeast : GoodIn wsX5_putInOrder (wsV RX5 80 RX1 yX1_takeLeast wsX1_takeLeast) := goodIn_app (goodIn_of _ (by decide +kernel)) ggX5_putInOrder_X1_takeLeast
set_option maxRecDepth 20000 in
theorem ggX5_putInOrder_X4_rowOf : GoodIn wsX5_putInOrder wsX4_rowOf := goodIn_r _ [45, 46] (by decide +kernel) (by decide +kernel)
set_option maxRecDepth 20000 in
theorem gX5_putInOrder_X4_rowOf : GoodIn wsX5_putInOrder (va_wsS RX5 84 yX4_rowOf wsX4_rowOf) := goodIn_app (goodIn_of _ (by decide +kernel)) ggX5_putInOrder_X4_rowOf
theorem dX5_putInOrder_0 : decode cX5_putInOrder 0 = .ok (.aload_n 2, 1) := by decide +kernel
theorem dX5_putInOrder_1 : decode cX5_putInOrder 1 = .ok (.invokevirtual 68, 3) := by decide +kernel
theorem dX5_putInOrder_4 : decode cX5_putInOrder 4 = .ok (.iconst 0, 1) := by decide +kernel
theorem dX5_putInOrder_5 : decode cX5_putInOrder 5 = .ok (.istore_n 3, 1) := by decide +kernel
theorem dX5_putInOrder_6 : decode cX5_putInOrder 6 = .ok (.iload_n 3, 1) := by decide +kernel
theorem dX5_putInOrder_7 : decode cX5_putInOrder 7 = .ok (.aload_n 0, 1) := by decide +kernel
theorem dX5_putInOrder_8 : decode cX5_putInOrder 8 = .ok (.getfield 30, 3) := by decide +kernel
theorem dX5_putInOrder_11 : decode cX5_putInOrder 11 = .ok (.if_icmp .ge 19, 3) := by decide +kernel
theorem dX5_putInOrder_14 : decode cX5_putInOrder 14 = .ok (.aload_n 2, 1) := by decide +kernel
theorem dX5_putInOrder_15 : decode cX5_putInOrder 15 = .ok (.aload_n 1, 1) := by decide +kernel
theorem dX5_putInOrder_16 : decode cX5_putInOrder 16 = .ok (.iload_n 3, 1) := by decide +kernel
theorem dX5_putInOrder_17 : decode cX5_putInOrder 17 = .ok (.invokevirtual 73, 3) := by decide +kernel
theorem dX5_putInOrder_20 : decode cX5_putInOrder 20 = .ok (.i2l, 1) := by decide +kernel
theorem dX5_putInOrder_21 : decode cX5_putInOrder 21 = .ok (.invokevirtual 76, 3) := by decide +kernel
theorem dX5_putInOrder_24 : decode cX5_putInOrder 24 = .ok (.iinc 3 1, 3) := by decide +kernel
theorem dX5_putInOrder_27 : decode cX5_putInOrder 27 = .ok (.goto (-21), 3) := by decide +kernel
theorem dX5_putInOrder_30 : decode cX5_putInOrder 30 = .ok (.iconst 0, 1) := by decide +kernel
theorem dX5_putInOrder_31 : decode cX5_putInOrder 31 = .ok (.istore_n 3, 1) := by decide +kernel
theorem dX5_putInOrder_32 : decode cX5_putInOrder 32 = .ok (.iload_n 3, 1) := by decide +kernel
theorem dX5_putInOrder_33 : decode cX5_putInOrder 33 = .ok (.aload_n 0, 1) := by decide +kernel
theorem dX5_putInOrder_34 : decode cX5_putInOrder 34 = .ok (.getfield 30, 3) := by decide +kernel
theorem dX5_putInOrder_37 : decode cX5_putInOrder 37 = .ok (.if_icmp .ge 34, 3) := by decide +kernel
theorem dX5_putInOrder_40 : decode cX5_putInOrder 40 = .ok (.aload_n 2, 1) := by decide +kernel
theorem dX5_putInOrder_41 : decode cX5_putInOrder 41 = .ok (.invokevirtual 80, 3) := by decide +kernel
theorem dX5_putInOrder_44 : decode cX5_putInOrder 44 = .ok (.invokestatic 84, 3) := by decide +kernel
theorem dX5_putInOrder_47 : decode cX5_putInOrder 47 = .ok (.istore 4, 2) := by decide +kernel
theorem dX5_putInOrder_49 : decode cX5_putInOrder 49 = .ok (.aload_n 0, 1) := by decide +kernel
theorem dX5_putInOrder_50 : decode cX5_putInOrder 50 = .ok (.getfield 18, 3) := by decide +kernel
theorem dX5_putInOrder_53 : decode cX5_putInOrder 53 = .ok (.iload_n 3, 1) := by decide +kernel
theorem dX5_putInOrder_54 : decode cX5_putInOrder 54 = .ok (.iload 4, 2) := by decide +kernel
theorem dX5_putInOrder_56 : decode cX5_putInOrder 56 = .ok (.iastore, 1) := by decide +kernel
theorem dX5_putInOrder_57 : decode cX5_putInOrder 57 = .ok (.aload_n 0, 1) := by decide +kernel
theorem dX5_putInOrder_58 : decode cX5_putInOrder 58 = .ok (.getfield 21, 3) := by decide +kernel
theorem dX5_putInOrder_61 : decode cX5_putInOrder 61 = .ok (.iload 4, 2) := by decide +kernel
theorem dX5_putInOrder_63 : decode cX5_putInOrder 63 = .ok (.iload_n 3, 1) := by decide +kernel
theorem dX5_putInOrder_64 : decode cX5_putInOrder 64 = .ok (.iastore, 1) := by decide +kernel
theorem dX5_putInOrder_65 : decode cX5_putInOrder 65 = .ok (.iinc 3 1, 3) := by decide +kernel
theorem dX5_putInOrder_68 : decode cX5_putInOrder 68 = .ok (.goto (-36), 3) := by decide +kernel
theorem dX5_putInOrder_71 : decode cX5_putInOrder 71 = .ok (.return_, 1) := by decide +kernel
set_option maxRecDepth 20000 in
theorem ggX5_select_X1_forget : GoodIn wsX5_select wsX1_forget := goodIn_r _ [12, 13, 73, 74] (by decide +kernel) (by decide +kernel)
set_option maxRecDepth 20000 in
theorem gX5_select_X1_forget : GoodIn wsX5_select (wsV RX5 68 RX1 yX1_forget wsX1_forget) := goodIn_app (goodIn_of _ (by decide +kernel)) ggX5_select_X1_forget
set_option maxRecDepth 20000 in
theorem ggX5_select_X4_placeOf : GoodIn wsX5_select wsX4_placeOf := goodIn_r _ [18, 19, 20, 21, 22, 23, 24, 25, 26, 27, 28, 17, 29, 30, 31, 32, 33, 75, 76, 77, 78, 79] (by decide +kernel) (by decide +kernel)
set_option maxRecDepth 20000 in
theorem gX5_select_X4_placeOf : GoodIn wsX5_select (wsV RX5 73 RX4 yX4_placeOf wsX4_placeOf) := goodIn_app (goodIn_of _ (by decide +kernel)) ggX5_select_X4_placeOf
set_option maxRecDepth 20000 in
theorem ggX5_select_X1_add : GoodIn wsX5_select wsX1_add := goodIn_r _ [37, 13, 38, 73, 74] (by decide +kernel) (by decide +kernel)
set_option maxRecDepth 20000 in
theorem gX5_select_X1_add : GoodIn wsX5_select (wsV RX5 76 RX1 yX1_add wsX1_add) := goodIn_app (goodIn_of _ (by decide +kernel)) ggX5_select_X1_add
set_option maxRecDepth 20000 in
theorem ggX5_select_X1_takeLeast : GoodIn wsX5_select wsX1_takeLeast := goodIn_r _ [42, 13, 38, 43, 44, 45, 11, 46, 73, 74] (by decide +kernel) (by decide +kernel)
set_option maxRecDepth 20000 in
theorem gX5_select_X1_takeLeast : GoodIn wsX5_select (wsV RX5 80 RX1 yX1_takeLeast wsX1_takeLeast) := goodIn_app (goodIn_of _ (by decide +kernel)) ggX5_select_X1_takeLeast
set_option maxRecDepth 20000 in
theorem ggX5_select_X5_begin : GoodIn wsX5_select wsX5_begin := goodIn_r _ [51, 7, 52, 53, 63, 64, 65, 66, 67, 68, 69, 70, 71, 72] (by decide +kernel) (by decide +kernel)
set_option maxRecDepth 20000 in
theorem gX5_select_X5_begin : GoodIn wsX5_select (wsV RX5 96 RX5 yX5_begin wsX5_begin) := goodIn_app (goodIn_of _ (by decide +kernel)) ggX5_select_X5_begin
set_option maxRecDepth 20000 in
theorem ggX5_select_X4_rowOf : GoodIn wsX5_select wsX4_rowOf := goodIn_r _ [56, 57] (by decide +kernel) (by decide +kernel)
set_option maxRecDepth 20000 in
theorem gX5_select_X4_rowOf : GoodIn wsX5_select (va_wsS RX5 84 yX4_rowOf wsX4_rowOf) := goodIn_app (goodIn_of _ (by decide +kernel)) ggX5_select_X4_rowOf
set_option maxRecDepth 20000 in
theorem ggX5_select_X5_append : GoodIn wsX5_select wsX5_append := goodIn_r _ [61, 53, 62, 52, 7, 63, 64, 65, 66, 67, 68, 69, 70, 71, 72] (by decide +kernel) (by decide +kernel)
set_option maxRecDepth 20000 in
theorem gX5_select_X5_append : GoodIn wsX5_select (wsV RX5 99 RX5 yX5_append wsX5_append) := goodIn_app (goodIn_of _ (by decide +kernel)) ggX5_select_X5_append
theorem dX5_select_0 : decode cX5_select 0 = .ok (.aload_n 3, 1) := by decide +kernel
theorem dX5_select_1 : decode cX5_select 1 = .ok (.invokevirtual 68, 3) := by decide +kernel
theorem dX5_select_4 : decode cX5_select 4 = .ok (.iload_n 2, 1) := by decide +kernel
theorem dX5_select_5 : decode cX5_select 5 = .ok (.aload_n 0, 1) := by decide +kernel
theorem dX5_select_6 : decode cX5_select 6 = .ok (.getfield 30, 3) := by decide +kernel
theorem dX5_select_9 : decode cX5_select 9 = .ok (.invokestatic 88, 3) := by decide +kernel
theorem dX5_select_12 : decode cX5_select 12 = .ok (.istore 4, 2) := by decide +kernel
theorem dX5_select_14 : decode cX5_select 14 = .ok (.iconst 0, 1) := by decide +kernel
theorem dX5_select_15 : decode cX5_select 15 = .ok (.istore 5, 2) := by decide +kernel
theorem dX5_select_17 : decode cX5_select 17 = .ok (.iload 5, 2) := by decide +kernel
theorem dX5_select_19 : decode cX5_select 19 = .ok (.iload 4, 2) := by decide +kernel
theorem dX5_select_21 : decode cX5_select 21 = .ok (.if_icmp .ge 20, 3) := by decide +kernel
theorem dX5_select_24 : decode cX5_select 24 = .ok (.aload_n 3, 1) := by decide +kernel
theorem dX5_select_25 : decode cX5_select 25 = .ok (.aload_n 1, 1) := by decide +kernel
theorem dX5_select_26 : decode cX5_select 26 = .ok (.iload 5, 2) := by decide +kernel
theorem dX5_select_28 : decode cX5_select 28 = .ok (.invokevirtual 73, 3) := by decide +kernel
theorem dX5_select_31 : decode cX5_select 31 = .ok (.i2l, 1) := by decide +kernel
theorem dX5_select_32 : decode cX5_select 32 = .ok (.invokevirtual 76, 3) := by decide +kernel
theorem dX5_select_35 : decode cX5_select 35 = .ok (.iinc 5 1, 3) := by decide +kernel
theorem dX5_select_38 : decode cX5_select 38 = .ok (.goto (-21), 3) := by decide +kernel
theorem dX5_select_41 : decode cX5_select 41 = .ok (.iconst 0, 1) := by decide +kernel
theorem dX5_select_42 : decode cX5_select 42 = .ok (.istore 5, 2) := by decide +kernel
theorem dX5_select_44 : decode cX5_select 44 = .ok (.iload 5, 2) := by decide +kernel
theorem dX5_select_46 : decode cX5_select 46 = .ok (.aload_n 0, 1) := by decide +kernel
theorem dX5_select_47 : decode cX5_select 47 = .ok (.getfield 30, 3) := by decide +kernel
theorem dX5_select_50 : decode cX5_select 50 = .ok (.if_icmp .ge 101, 3) := by decide +kernel
theorem dX5_select_53 : decode cX5_select 53 = .ok (.aload_n 3, 1) := by decide +kernel
theorem dX5_select_54 : decode cX5_select 54 = .ok (.invokevirtual 80, 3) := by decide +kernel
theorem dX5_select_57 : decode cX5_select 57 = .ok (.lstore 6, 2) := by decide +kernel
theorem dX5_select_59 : decode cX5_select 59 = .ok (.lload 6, 2) := by decide +kernel
theorem dX5_select_61 : decode cX5_select 61 = .ok (.ldc2_w 94, 3) := by decide +kernel
theorem dX5_select_64 : decode cX5_select 64 = .ok (.ldiv, 1) := by decide +kernel
theorem dX5_select_65 : decode cX5_select 65 = .ok (.lstore 8, 2) := by decide +kernel
theorem dX5_select_67 : decode cX5_select 67 = .ok (.lload 8, 2) := by decide +kernel
theorem dX5_select_69 : decode cX5_select 69 = .ok (.aload_n 0, 1) := by decide +kernel
theorem dX5_select_70 : decode cX5_select 70 = .ok (.getfield 37, 3) := by decide +kernel
theorem dX5_select_73 : decode cX5_select 73 = .ok (.i2l, 1) := by decide +kernel
theorem dX5_select_74 : decode cX5_select 74 = .ok (.lcmp, 1) := by decide +kernel
theorem dX5_select_75 : decode cX5_select 75 = .ok (.ifCond .lt 7, 3) := by decide +kernel
theorem dX5_select_78 : decode cX5_select 78 = .ok (.aload_n 0, 1) := by decide +kernel
theorem dX5_select_79 : decode cX5_select 79 = .ok (.invokevirtual 96, 3) := by decide +kernel
theorem dX5_select_82 : decode cX5_select 82 = .ok (.aload_n 0, 1) := by decide +kernel
theorem dX5_select_83 : decode cX5_select 83 = .ok (.lload 6, 2) := by decide +kernel
theorem dX5_select_85 : decode cX5_select 85 = .ok (.invokestatic 84, 3) := by decide +kernel
theorem dX5_select_88 : decode cX5_select 88 = .ok (.invokevirtual 99, 3) := by decide +kernel
theorem dX5_select_91 : decode cX5_select 91 = .ok (.iload 4, 2) := by decide +kernel
theorem dX5_select_93 : decode cX5_select 93 = .ok (.aload_n 0, 1) := by decide +kernel
theorem dX5_select_94 : decode cX5_select 94 = .ok (.getfield 30, 3) := by decide +kernel
theorem dX5_select_97 : decode cX5_select 97 = .ok (.if_icmp .ge 48, 3) := by decide +kernel
theorem dX5_select_100 : decode cX5_select 100 = .ok (.aload_n 1, 1) := by decide +kernel
theorem dX5_select_101 : decode cX5_select 101 = .ok (.iload 4, 2) := by decide +kernel
theorem dX5_select_103 : decode cX5_select 103 = .ok (.invokevirtual 73, 3) := by decide +kernel
theorem dX5_select_106 : decode cX5_select 106 = .ok (.istore 10, 2) := by decide +kernel
theorem dX5_select_108 : decode cX5_select 108 = .ok (.aload_n 3, 1) := by decide +kernel
theorem dX5_select_109 : decode cX5_select 109 = .ok (.iload 10, 2) := by decide +kernel
theorem dX5_select_111 : decode cX5_select 111 = .ok (.i2l, 1) := by decide +kernel
theorem dX5_select_112 : decode cX5_select 112 = .ok (.ldc2_w 94, 3) := by decide +kernel
theorem dX5_select_115 : decode cX5_select 115 = .ok (.iload 10, 2) := by decide +kernel
theorem dX5_select_117 : decode cX5_select 117 = .ok (.i2l, 1) := by decide +kernel
theorem dX5_select_118 : decode cX5_select 118 = .ok (.lload 6, 2) := by decide +kernel
theorem dX5_select_120 : decode cX5_select 120 = .ok (.ldc2_w 94, 3) := by decide +kernel
theorem dX5_select_123 : decode cX5_select 123 = .ok (.lrem, 1) := by decide +kernel
theorem dX5_select_124 : decode cX5_select 124 = .ok (.lcmp, 1) := by decide +kernel
theorem dX5_select_125 : decode cX5_select 125 = .ok (.ifCond .ge 10, 3) := by decide +kernel
theorem dX5_select_128 : decode cX5_select 128 = .ok (.lload 8, 2) := by decide +kernel
theorem dX5_select_130 : decode cX5_select 130 = .ok (.lconst 1, 1) := by decide +kernel
theorem dX5_select_131 : decode cX5_select 131 = .ok (.ladd, 1) := by decide +kernel
theorem dX5_select_132 : decode cX5_select 132 = .ok (.goto 5, 3) := by decide +kernel
theorem dX5_select_135 : decode cX5_select 135 = .ok (.lload 8, 2) := by decide +kernel
theorem dX5_select_137 : decode cX5_select 137 = .ok (.lmul, 1) := by decide +kernel
theorem dX5_select_138 : decode cX5_select 138 = .ok (.ladd, 1) := by decide +kernel
theorem dX5_select_139 : decode cX5_select 139 = .ok (.invokevirtual 76, 3) := by decide +kernel
theorem dX5_select_142 : decode cX5_select 142 = .ok (.iinc 4 1, 3) := by decide +kernel
theorem dX5_select_145 : decode cX5_select 145 = .ok (.iinc 5 1, 3) := by decide +kernel
theorem dX5_select_148 : decode cX5_select 148 = .ok (.goto (-104), 3) := by decide +kernel
theorem dX5_select_151 : decode cX5_select 151 = .ok (.return_, 1) := by decide +kernel
theorem dX5_begin_0 : decode cX5_begin 0 = .ok (.aload_n 0, 1) := by decide +kernel
theorem dX5_begin_1 : decode cX5_begin 1 = .ok (.getfield 37, 3) := by decide +kernel
theorem dX5_begin_4 : decode cX5_begin 4 = .ok (.sipush 799, 3) := by decide +kernel
theorem dX5_begin_7 : decode cX5_begin 7 = .ok (.if_icmp .ge 39, 3) := by decide +kernel
theorem dX5_begin_10 : decode cX5_begin 10 = .ok (.aload_n 0, 1) := by decide +kernel
theorem dX5_begin_11 : decode cX5_begin 11 = .ok (.getfield 15, 3) := by decide +kernel
theorem dX5_begin_14 : decode cX5_begin 14 = .ok (.aload_n 0, 1) := by decide +kernel
theorem dX5_begin_15 : decode cX5_begin 15 = .ok (.getfield 37, 3) := by decide +kernel
theorem dX5_begin_18 : decode cX5_begin 18 = .ok (.aload_n 0, 1) := by decide +kernel
theorem dX5_begin_19 : decode cX5_begin 19 = .ok (.getfield 40, 3) := by decide +kernel
theorem dX5_begin_22 : decode cX5_begin 22 = .ok (.iastore, 1) := by decide +kernel
theorem dX5_begin_23 : decode cX5_begin 23 = .ok (.aload_n 0, 1) := by decide +kernel
theorem dX5_begin_24 : decode cX5_begin 24 = .ok (.dup, 1) := by decide +kernel
theorem dX5_begin_25 : decode cX5_begin 25 = .ok (.getfield 37, 3) := by decide +kernel
theorem dX5_begin_28 : decode cX5_begin 28 = .ok (.iconst 1, 1) := by decide +kernel
theorem dX5_begin_29 : decode cX5_begin 29 = .ok (.iadd, 1) := by decide +kernel
theorem dX5_begin_30 : decode cX5_begin 30 = .ok (.putfield 37, 3) := by decide +kernel
theorem dX5_begin_33 : decode cX5_begin 33 = .ok (.aload_n 0, 1) := by decide +kernel
theorem dX5_begin_34 : decode cX5_begin 34 = .ok (.getfield 15, 3) := by decide +kernel
theorem dX5_begin_37 : decode cX5_begin 37 = .ok (.aload_n 0, 1) := by decide +kernel
theorem dX5_begin_38 : decode cX5_begin 38 = .ok (.getfield 37, 3) := by decide +kernel
theorem dX5_begin_41 : decode cX5_begin 41 = .ok (.aload_n 0, 1) := by decide +kernel
theorem dX5_begin_42 : decode cX5_begin 42 = .ok (.getfield 40, 3) := by decide +kernel
theorem dX5_begin_45 : decode cX5_begin 45 = .ok (.iastore, 1) := by decide +kernel
theorem dX5_begin_46 : decode cX5_begin 46 = .ok (.return_, 1) := by decide +kernel
theorem dX5_append_0 : decode cX5_append 0 = .ok (.aload_n 0, 1) := by decide +kernel
theorem dX5_append_1 : decode cX5_append 1 = .ok (.getfield 40, 3) := by decide +kernel
theorem dX5_append_4 : decode cX5_append 4 = .ok (.aload_n 0, 1) := by decide +kernel
theorem dX5_append_5 : decode cX5_append 5 = .ok (.getfield 9, 3) := by decide +kernel
theorem dX5_append_8 : decode cX5_append 8 = .ok (.arraylength, 1) := by decide +kernel
theorem dX5_append_9 : decode cX5_append 9 = .ok (.if_icmp .ge 36, 3) := by decide +kernel
theorem dX5_append_12 : decode cX5_append 12 = .ok (.aload_n 0, 1) := by decide +kernel
theorem dX5_append_13 : decode cX5_append 13 = .ok (.getfield 9, 3) := by decide +kernel
theorem dX5_append_16 : decode cX5_append 16 = .ok (.aload_n 0, 1) := by decide +kernel
theorem dX5_append_17 : decode cX5_append 17 = .ok (.getfield 40, 3) := by decide +kernel
theorem dX5_append_20 : decode cX5_append 20 = .ok (.iload_n 1, 1) := by decide +kernel
theorem dX5_append_21 : decode cX5_append 21 = .ok (.iastore, 1) := by decide +kernel
theorem dX5_append_22 : decode cX5_append 22 = .ok (.aload_n 0, 1) := by decide +kernel
theorem dX5_append_23 : decode cX5_append 23 = .ok (.dup, 1) := by decide +kernel
theorem dX5_append_24 : decode cX5_append 24 = .ok (.getfield 40, 3) := by decide +kernel
theorem dX5_append_27 : decode cX5_append 27 = .ok (.iconst 1, 1) := by decide +kernel
theorem dX5_append_28 : decode cX5_append 28 = .ok (.iadd, 1) := by decide +kernel
theorem dX5_append_29 : decode cX5_append 29 = .ok (.putfield 40, 3) := by decide +kernel
theorem dX5_append_32 : decode cX5_append 32 = .ok (.aload_n 0, 1) := by decide +kernel
theorem dX5_append_33 : decode cX5_append 33 = .ok (.getfield 15, 3) := by decide +kernel
theorem dX5_append_36 : decode cX5_append 36 = .ok (.aload_n 0, 1) := by decide +kernel
theorem dX5_append_37 : decode cX5_append 37 = .ok (.getfield 37, 3) := by decide +kernel
theorem dX5_append_40 : decode cX5_append 40 = .ok (.aload_n 0, 1) := by decide +kernel
theorem dX5_append_41 : decode cX5_append 41 = .ok (.getfield 40, 3) := by decide +kernel
theorem dX5_append_44 : decode cX5_append 44 = .ok (.iastore, 1) := by decide +kernel
theorem dX5_append_45 : decode cX5_append 45 = .ok (.return_, 1) := by decide +kernel
set_option maxRecDepth 20000 in
theorem ggX5_mergeThose_X3_waysIn : GoodIn wsX5_mergeThose wsX3_waysIn := goodIn_r _ [12, 13, 14, 15, 16, 17, 64, 65, 66, 67, 68] (by decide +kernel) (by decide +kernel)
set_option maxRecDepth 20000 in
theorem gX5_mergeThose_X3_waysIn : GoodIn wsX5_mergeThose (wsV RX5 103 RX3 yX3_waysIn wsX3_waysIn) := goodIn_app (goodIn_of _ (by decide +kernel)) ggX5_mergeThose_X3_waysIn
set_option maxRecDepth 20000 in
theorem ggX5_mergeThose_X3_taken : GoodIn wsX5_mergeThose wsX3_taken := goodIn_r _ [21, 22, 14, 23, 9, 10, 11, 12, 13, 15, 16, 17, 64, 65, 66, 67, 68] (by decide +kernel) (by decide +kernel)
set_option maxRecDepth 20000 in
theorem gX5_mergeThose_X3_taken : GoodIn wsX5_mergeThose (wsV RX5 108 RX3 yX3_taken wsX3_taken) := goodIn_app (goodIn_of _ (by decide +kernel)) ggX5_mergeThose_X3_taken
set_option maxRecDepth 20000 in
theorem ggX5_mergeThose_X5_has : GoodIn wsX5_mergeThose wsX5_has := goodIn_r _ [28, 29, 15, 16, 17, 54, 55, 56, 57, 58, 59, 60, 61, 62, 63] (by decide +kernel) (by decide +kernel)
set_option maxRecDepth 20000 in
theorem gX5_mergeThose_X5_has : GoodIn wsX5_mergeThose (wsV RX5 47 RX5 yX5_has wsX5_has) := goodIn_app (goodIn_of _ (by decide +kernel)) ggX5_mergeThose_X5_has
set_option maxRecDepth 20000 in
theorem ggX5_mergeThose_X5_sizeOf : GoodIn wsX5_mergeThose wsX5_sizeOf := goodIn_r _ [33, 6, 24, 25, 26, 27, 28, 29, 15, 16, 17, 54, 55, 56, 57, 58, 59, 60, 61, 62, 63] (by decide +kernel) (by decide +kernel)
set_option maxRecDepth 20000 in
theorem gX5_mergeThose_X5_sizeOf : GoodIn wsX5_mergeThose (wsV RX5 51 RX5 yX5_sizeOf wsX5_sizeOf) := goodIn_app (goodIn_of _ (by decide +kernel)) ggX5_mergeThose_X5_sizeOf
set_option maxRecDepth 20000 in
theorem ggX5_mergeThose_X5_begin : GoodIn wsX5_mergeThose wsX5_begin := goodIn_r _ [37, 29, 6, 38, 54, 55, 56, 57, 58, 59, 60, 61, 62, 63] (by decide +kernel) (by decide +kernel)
set_option maxRecDepth 20000 in
theorem gX5_mergeThose_X5_begin : GoodIn wsX5_mergeThose (wsV RX5 96 RX5 yX5_begin wsX5_begin) := goodIn_app (goodIn_of _ (by decide +kernel)) ggX5_mergeThose_X5_begin
set_option maxRecDepth 20000 in
theorem ggX5_mergeThose_X5_takeFirst : GoodIn wsX5_mergeThose wsX5_takeFirst := goodIn_r _ [42, 5, 7, 43, 44, 45, 46, 27, 47, 48, 49, 15, 16, 17, 50, 51, 52, 53, 38, 6, 29, 54, 55, 56, 57, 58, 59, 60, 61, 62, 63] (by decide +kernel) (by decide +kernel)
set_option maxRecDepth 20000 in
theorem gX5_mergeThose_X5_takeFirst : GoodIn wsX5_mergeThose (wsV RX5 111 RX5 yX5_takeFirst wsX5_takeFirst) := goodIn_app (goodIn_of _ (by decide +kernel)) ggX5_mergeThose_X5_takeFirst
theorem dX5_mergeThose_0 : decode cX5_mergeThose 0 = .ok (.aload_n 1, 1) := by decide +kernel
theorem dX5_mergeThose_1 : decode cX5_mergeThose 1 = .ok (.iload_n 2, 1) := by decide +kernel
theorem dX5_mergeThose_2 : decode cX5_mergeThose 2 = .ok (.invokevirtual 103, 3) := by decide +kernel
theorem dX5_mergeThose_5 : decode cX5_mergeThose 5 = .ok (.bipush 8, 2) := by decide +kernel
theorem dX5_mergeThose_7 : decode cX5_mergeThose 7 = .ok (.invokestatic 88, 3) := by decide +kernel
theorem dX5_mergeThose_10 : decode cX5_mergeThose 10 = .ok (.istore_n 3, 1) := by decide +kernel
theorem dX5_mergeThose_11 : decode cX5_mergeThose 11 = .ok (.iconst 0, 1) := by decide +kernel
theorem dX5_mergeThose_12 : decode cX5_mergeThose 12 = .ok (.istore 4, 2) := by decide +kernel
theorem dX5_mergeThose_14 : decode cX5_mergeThose 14 = .ok (.iconst 0, 1) := by decide +kernel
theorem dX5_mergeThose_15 : decode cX5_mergeThose 15 = .ok (.istore 5, 2) := by decide +kernel
theorem dX5_mergeThose_17 : decode cX5_mergeThose 17 = .ok (.iload 5, 2) := by decide +kernel
theorem dX5_mergeThose_19 : decode cX5_mergeThose 19 = .ok (.iload_n 3, 1) := by decide +kernel
theorem dX5_mergeThose_20 : decode cX5_mergeThose 20 = .ok (.if_icmp .ge 77, 3) := by decide +kernel
theorem dX5_mergeThose_23 : decode cX5_mergeThose 23 = .ok (.aload_n 1, 1) := by decide +kernel
theorem dX5_mergeThose_24 : decode cX5_mergeThose 24 = .ok (.iload_n 2, 1) := by decide +kernel
theorem dX5_mergeThose_25 : decode cX5_mergeThose 25 = .ok (.iload 5, 2) := by decide +kernel
theorem dX5_mergeThose_27 : decode cX5_mergeThose 27 = .ok (.invokevirtual 108, 3) := by decide +kernel
theorem dX5_mergeThose_30 : decode cX5_mergeThose 30 = .ok (.istore 6, 2) := by decide +kernel
theorem dX5_mergeThose_32 : decode cX5_mergeThose 32 = .ok (.aload_n 0, 1) := by decide +kernel
theorem dX5_mergeThose_33 : decode cX5_mergeThose 33 = .ok (.getfield 24, 3) := by decide +kernel
theorem dX5_mergeThose_36 : decode cX5_mergeThose 36 = .ok (.iload 5, 2) := by decide +kernel
theorem dX5_mergeThose_38 : decode cX5_mergeThose 38 = .ok (.aload_n 0, 1) := by decide +kernel
theorem dX5_mergeThose_39 : decode cX5_mergeThose 39 = .ok (.iload 6, 2) := by decide +kernel
theorem dX5_mergeThose_41 : decode cX5_mergeThose 41 = .ok (.invokevirtual 47, 3) := by decide +kernel
theorem dX5_mergeThose_44 : decode cX5_mergeThose 44 = .ok (.ifCond .eq 13, 3) := by decide +kernel
theorem dX5_mergeThose_47 : decode cX5_mergeThose 47 = .ok (.aload_n 0, 1) := by decide +kernel
theorem dX5_mergeThose_48 : decode cX5_mergeThose 48 = .ok (.getfield 15, 3) := by decide +kernel
theorem dX5_mergeThose_51 : decode cX5_mergeThose 51 = .ok (.iload 6, 2) := by decide +kernel
theorem dX5_mergeThose_53 : decode cX5_mergeThose 53 = .ok (.iaload, 1) := by decide +kernel
theorem dX5_mergeThose_54 : decode cX5_mergeThose 54 = .ok (.goto 4, 3) := by decide +kernel
theorem dX5_mergeThose_57 : decode cX5_mergeThose 57 = .ok (.iconst 0, 1) := by decide +kernel
theorem dX5_mergeThose_58 : decode cX5_mergeThose 58 = .ok (.iastore, 1) := by decide +kernel
theorem dX5_mergeThose_59 : decode cX5_mergeThose 59 = .ok (.aload_n 0, 1) := by decide +kernel
theorem dX5_mergeThose_60 : decode cX5_mergeThose 60 = .ok (.getfield 27, 3) := by decide +kernel
theorem dX5_mergeThose_63 : decode cX5_mergeThose 63 = .ok (.iload 5, 2) := by decide +kernel
theorem dX5_mergeThose_65 : decode cX5_mergeThose 65 = .ok (.aload_n 0, 1) := by decide +kernel
theorem dX5_mergeThose_66 : decode cX5_mergeThose 66 = .ok (.getfield 24, 3) := by decide +kernel
theorem dX5_mergeThose_69 : decode cX5_mergeThose 69 = .ok (.iload 5, 2) := by decide +kernel
theorem dX5_mergeThose_71 : decode cX5_mergeThose 71 = .ok (.iaload, 1) := by decide +kernel
theorem dX5_mergeThose_72 : decode cX5_mergeThose 72 = .ok (.aload_n 0, 1) := by decide +kernel
theorem dX5_mergeThose_73 : decode cX5_mergeThose 73 = .ok (.iload 6, 2) := by decide +kernel
theorem dX5_mergeThose_75 : decode cX5_mergeThose 75 = .ok (.invokevirtual 51, 3) := by decide +kernel
theorem dX5_mergeThose_78 : decode cX5_mergeThose 78 = .ok (.iadd, 1) := by decide +kernel
theorem dX5_mergeThose_79 : decode cX5_mergeThose 79 = .ok (.iastore, 1) := by decide +kernel
theorem dX5_mergeThose_80 : decode cX5_mergeThose 80 = .ok (.iload 4, 2) := by decide +kernel
theorem dX5_mergeThose_82 : decode cX5_mergeThose 82 = .ok (.aload_n 0, 1) := by decide +kernel
theorem dX5_mergeThose_83 : decode cX5_mergeThose 83 = .ok (.iload 6, 2) := by decide +kernel
theorem dX5_mergeThose_85 : decode cX5_mergeThose 85 = .ok (.invokevirtual 51, 3) := by decide +kernel
theorem dX5_mergeThose_88 : decode cX5_mergeThose 88 = .ok (.iadd, 1) := by decide +kernel
theorem dX5_mergeThose_89 : decode cX5_mergeThose 89 = .ok (.istore 4, 2) := by decide +kernel
theorem dX5_mergeThose_91 : decode cX5_mergeThose 91 = .ok (.iinc 5 1, 3) := by decide +kernel
theorem dX5_mergeThose_94 : decode cX5_mergeThose 94 = .ok (.goto (-77), 3) := by decide +kernel
theorem dX5_mergeThose_97 : decode cX5_mergeThose 97 = .ok (.aload_n 0, 1) := by decide +kernel
theorem dX5_mergeThose_98 : decode cX5_mergeThose 98 = .ok (.invokevirtual 96, 3) := by decide +kernel
theorem dX5_mergeThose_101 : decode cX5_mergeThose 101 = .ok (.iconst 0, 1) := by decide +kernel
theorem dX5_mergeThose_102 : decode cX5_mergeThose 102 = .ok (.istore 5, 2) := by decide +kernel
theorem dX5_mergeThose_104 : decode cX5_mergeThose 104 = .ok (.iconst 0, 1) := by decide +kernel
theorem dX5_mergeThose_105 : decode cX5_mergeThose 105 = .ok (.istore 6, 2) := by decide +kernel
theorem dX5_mergeThose_107 : decode cX5_mergeThose 107 = .ok (.iload 6, 2) := by decide +kernel
theorem dX5_mergeThose_109 : decode cX5_mergeThose 109 = .ok (.iload 4, 2) := by decide +kernel
theorem dX5_mergeThose_111 : decode cX5_mergeThose 111 = .ok (.if_icmp .ge 19, 3) := by decide +kernel
theorem dX5_mergeThose_114 : decode cX5_mergeThose 114 = .ok (.iload 5, 2) := by decide +kernel
theorem dX5_mergeThose_116 : decode cX5_mergeThose 116 = .ok (.aload_n 0, 1) := by decide +kernel
theorem dX5_mergeThose_117 : decode cX5_mergeThose 117 = .ok (.iload_n 3, 1) := by decide +kernel
theorem dX5_mergeThose_118 : decode cX5_mergeThose 118 = .ok (.invokevirtual 111, 3) := by decide +kernel
theorem dX5_mergeThose_121 : decode cX5_mergeThose 121 = .ok (.iadd, 1) := by decide +kernel
theorem dX5_mergeThose_122 : decode cX5_mergeThose 122 = .ok (.istore 5, 2) := by decide +kernel
theorem dX5_mergeThose_124 : decode cX5_mergeThose 124 = .ok (.iinc 6 1, 3) := by decide +kernel
theorem dX5_mergeThose_127 : decode cX5_mergeThose 127 = .ok (.goto (-20), 3) := by decide +kernel
theorem dX5_mergeThose_130 : decode cX5_mergeThose 130 = .ok (.iload 5, 2) := by decide +kernel
theorem dX5_mergeThose_132 : decode cX5_mergeThose 132 = .ok (.ireturn, 1) := by decide +kernel
set_option maxRecDepth 20000 in
theorem ggX5_takeFirst_X5_standingOf : GoodIn wsX5_takeFirst wsX5_standingOf := goodIn_r _ [8, 9, 10, 11, 12, 13, 21, 22, 23, 24, 25, 26, 27, 28, 29, 30] (by decide +kernel) (by decide +kernel)
set_option maxRecDepth 20000 in
theorem gX5_takeFirst_X5_standingOf : GoodIn wsX5_takeFirst (wsV RX5 114 RX5 yX5_standingOf wsX5_standingOf) := goodIn_app (goodIn_of _ (by decide +kernel)) ggX5_takeFirst_X5_standingOf
set_option maxRecDepth 20000 in
theorem ggX5_takeFirst_X5_append : GoodIn wsX5_takeFirst wsX5_append := goodIn_r _ [17, 18, 3, 19, 20, 21, 22, 23, 24, 25, 26, 27, 28, 29, 30] (by decide +kernel) (by decide +kernel)
set_option maxRecDepth 20000 in
theorem gX5_takeFirst_X5_append : GoodIn wsX5_takeFirst (wsV RX5 99 RX5 yX5_append wsX5_append) := goodIn_app (goodIn_of _ (by decide +kernel)) ggX5_takeFirst_X5_append
theorem dX5_takeFirst_0 : decode cX5_takeFirst 0 = .ok (.iconst 0, 1) := by decide +kernel
theorem dX5_takeFirst_1 : decode cX5_takeFirst 1 = .ok (.istore_n 2, 1) := by decide +kernel
theorem dX5_takeFirst_2 : decode cX5_takeFirst 2 = .ok (.iconst 0, 1) := by decide +kernel
theorem dX5_takeFirst_3 : decode cX5_takeFirst 3 = .ok (.istore_n 3, 1) := by decide +kernel
theorem dX5_takeFirst_4 : decode cX5_takeFirst 4 = .ok (.iconst (-1), 1) := by decide +kernel
theorem dX5_takeFirst_5 : decode cX5_takeFirst 5 = .ok (.istore 4, 2) := by decide +kernel
theorem dX5_takeFirst_7 : decode cX5_takeFirst 7 = .ok (.iconst 0, 1) := by decide +kernel
theorem dX5_takeFirst_8 : decode cX5_takeFirst 8 = .ok (.istore 5, 2) := by decide +kernel
theorem dX5_takeFirst_10 : decode cX5_takeFirst 10 = .ok (.iload 5, 2) := by decide +kernel
theorem dX5_takeFirst_12 : decode cX5_takeFirst 12 = .ok (.iload_n 1, 1) := by decide +kernel
theorem dX5_takeFirst_13 : decode cX5_takeFirst 13 = .ok (.if_icmp .ge 74, 3) := by decide +kernel
theorem dX5_takeFirst_16 : decode cX5_takeFirst 16 = .ok (.aload_n 0, 1) := by decide +kernel
theorem dX5_takeFirst_17 : decode cX5_takeFirst 17 = .ok (.getfield 24, 3) := by decide +kernel
theorem dX5_takeFirst_20 : decode cX5_takeFirst 20 = .ok (.iload 5, 2) := by decide +kernel
theorem dX5_takeFirst_22 : decode cX5_takeFirst 22 = .ok (.iaload, 1) := by decide +kernel
theorem dX5_takeFirst_23 : decode cX5_takeFirst 23 = .ok (.aload_n 0, 1) := by decide +kernel
theorem dX5_takeFirst_24 : decode cX5_takeFirst 24 = .ok (.getfield 27, 3) := by decide +kernel
theorem dX5_takeFirst_27 : decode cX5_takeFirst 27 = .ok (.iload 5, 2) := by decide +kernel
theorem dX5_takeFirst_29 : decode cX5_takeFirst 29 = .ok (.iaload, 1) := by decide +kernel
theorem dX5_takeFirst_30 : decode cX5_takeFirst 30 = .ok (.if_icmp .lt 6, 3) := by decide +kernel
theorem dX5_takeFirst_33 : decode cX5_takeFirst 33 = .ok (.goto 48, 3) := by decide +kernel
theorem dX5_takeFirst_36 : decode cX5_takeFirst 36 = .ok (.iinc 2 1, 3) := by decide +kernel
theorem dX5_takeFirst_39 : decode cX5_takeFirst 39 = .ok (.aload_n 0, 1) := by decide +kernel
theorem dX5_takeFirst_40 : decode cX5_takeFirst 40 = .ok (.getfield 9, 3) := by decide +kernel
theorem dX5_takeFirst_43 : decode cX5_takeFirst 43 = .ok (.aload_n 0, 1) := by decide +kernel
theorem dX5_takeFirst_44 : decode cX5_takeFirst 44 = .ok (.getfield 24, 3) := by decide +kernel
theorem dX5_takeFirst_47 : decode cX5_takeFirst 47 = .ok (.iload 5, 2) := by decide +kernel
theorem dX5_takeFirst_49 : decode cX5_takeFirst 49 = .ok (.iaload, 1) := by decide +kernel
theorem dX5_takeFirst_50 : decode cX5_takeFirst 50 = .ok (.iaload, 1) := by decide +kernel
theorem dX5_takeFirst_51 : decode cX5_takeFirst 51 = .ok (.istore 6, 2) := by decide +kernel
theorem dX5_takeFirst_53 : decode cX5_takeFirst 53 = .ok (.iload 4, 2) := by decide +kernel
theorem dX5_takeFirst_55 : decode cX5_takeFirst 55 = .ok (.iconst (-1), 1) := by decide +kernel
theorem dX5_takeFirst_56 : decode cX5_takeFirst 56 = .ok (.if_icmp .eq 18, 3) := by decide +kernel
theorem dX5_takeFirst_59 : decode cX5_takeFirst 59 = .ok (.aload_n 0, 1) := by decide +kernel
theorem dX5_takeFirst_60 : decode cX5_takeFirst 60 = .ok (.iload 6, 2) := by decide +kernel
theorem dX5_takeFirst_62 : decode cX5_takeFirst 62 = .ok (.invokevirtual 114, 3) := by decide +kernel
theorem dX5_takeFirst_65 : decode cX5_takeFirst 65 = .ok (.aload_n 0, 1) := by decide +kernel
theorem dX5_takeFirst_66 : decode cX5_takeFirst 66 = .ok (.iload 4, 2) := by decide +kernel
theorem dX5_takeFirst_68 : decode cX5_takeFirst 68 = .ok (.invokevirtual 114, 3) := by decide +kernel
theorem dX5_takeFirst_71 : decode cX5_takeFirst 71 = .ok (.if_icmp .ge 10, 3) := by decide +kernel
theorem dX5_takeFirst_74 : decode cX5_takeFirst 74 = .ok (.iload 6, 2) := by decide +kernel
theorem dX5_takeFirst_76 : decode cX5_takeFirst 76 = .ok (.istore 4, 2) := by decide +kernel
theorem dX5_takeFirst_78 : decode cX5_takeFirst 78 = .ok (.iload 5, 2) := by decide +kernel
theorem dX5_takeFirst_80 : decode cX5_takeFirst 80 = .ok (.istore_n 3, 1) := by decide +kernel
theorem dX5_takeFirst_81 : decode cX5_takeFirst 81 = .ok (.iinc 5 1, 3) := by decide +kernel
theorem dX5_takeFirst_84 : decode cX5_takeFirst 84 = .ok (.goto (-74), 3) := by decide +kernel
theorem dX5_takeFirst_87 : decode cX5_takeFirst 87 = .ok (.iload_n 2, 1) := by decide +kernel
theorem dX5_takeFirst_88 : decode cX5_takeFirst 88 = .ok (.ifCond .ne 5, 3) := by decide +kernel
theorem dX5_takeFirst_91 : decode cX5_takeFirst 91 = .ok (.iconst 0, 1) := by decide +kernel
theorem dX5_takeFirst_92 : decode cX5_takeFirst 92 = .ok (.ireturn, 1) := by decide +kernel
theorem dX5_takeFirst_93 : decode cX5_takeFirst 93 = .ok (.aload_n 0, 1) := by decide +kernel
theorem dX5_takeFirst_94 : decode cX5_takeFirst 94 = .ok (.getfield 24, 3) := by decide +kernel
theorem dX5_takeFirst_97 : decode cX5_takeFirst 97 = .ok (.iload_n 3, 1) := by decide +kernel
theorem dX5_takeFirst_98 : decode cX5_takeFirst 98 = .ok (.dup2, 1) := by decide +kernel
theorem dX5_takeFirst_99 : decode cX5_takeFirst 99 = .ok (.iaload, 1) := by decide +kernel
theorem dX5_takeFirst_100 : decode cX5_takeFirst 100 = .ok (.iconst 1, 1) := by decide +kernel
theorem dX5_takeFirst_101 : decode cX5_takeFirst 101 = .ok (.iadd, 1) := by decide +kernel
theorem dX5_takeFirst_102 : decode cX5_takeFirst 102 = .ok (.iastore, 1) := by decide +kernel
theorem dX5_takeFirst_103 : decode cX5_takeFirst 103 = .ok (.aload_n 0, 1) := by decide +kernel
theorem dX5_takeFirst_104 : decode cX5_takeFirst 104 = .ok (.iload 4, 2) := by decide +kernel
theorem dX5_takeFirst_106 : decode cX5_takeFirst 106 = .ok (.invokevirtual 99, 3) := by decide +kernel
theorem dX5_takeFirst_109 : decode cX5_takeFirst 109 = .ok (.iload_n 2, 1) := by decide +kernel
theorem dX5_takeFirst_110 : decode cX5_takeFirst 110 = .ok (.iconst 1, 1) := by decide +kernel
theorem dX5_takeFirst_111 : decode cX5_takeFirst 111 = .ok (.isub, 1) := by decide +kernel
theorem dX5_takeFirst_112 : decode cX5_takeFirst 112 = .ok (.ireturn, 1) := by decide +kernel
set_option maxRecDepth 20000 in
theorem ggX6_init_X4_init : GoodIn wsX6_init wsX4_init := goodIn_r _ [29, 30, 2, 3, 31, 32, 33, 34, 35, 36, 75, 76, 77, 78, 79] (by decide +kernel) (by decide +kernel)
set_option maxRecDepth 20000 in
theorem gX6_init_X4_init_n11 : GoodIn wsX6_init (wsX4_init) := ggX6_init_X4_init
set_option maxRecDepth 20000 in
theorem ggX6_init_X1_init : GoodIn wsX6_init wsX1_init := goodIn_r _ [38, 39, 2, 3, 40, 41, 86, 87] (by decide +kernel) (by decide +kernel)
set_option maxRecDepth 20000 in
theorem gX6_init_X1_init_n18 : GoodIn wsX6_init (wsX1_init) := ggX6_init_X1_init
set_option maxRecDepth 20000 in
theorem ggX6_init_X5_init : GoodIn wsX6_init wsX5_init := goodIn_r _ [43, 44, 2, 3, 31, 45, 46, 47, 48, 49, 50, 88, 89, 90, 91, 92, 93, 94, 95, 96, 97] (by decide +kernel) (by decide +kernel)
set_option maxRecDepth 20000 in
theorem gX6_init_X5_init_n25 : GoodIn wsX6_init (wsX5_init) := ggX6_init_X5_init
set_option maxRecDepth 20000 in
theorem ggX6_init_X3_init : GoodIn wsX6_init wsX3_init := goodIn_r _ [52, 53, 2, 3, 31, 54, 55, 56, 98, 99, 100, 101, 102] (by decide +kernel) (by decide +kernel)
set_option maxRecDepth 20000 in
theorem gX6_init_X3_init_n32 : GoodIn wsX6_init (wsX3_init) := ggX6_init_X3_init
set_option maxRecDepth 20000 in
theorem ggX6_init_X0_init : GoodIn wsX6_init wsX0_init := goodIn_r _ [58, 59, 2, 3, 35, 60, 31, 61, 62, 63, 64, 65, 66, 67, 68, 103, 104, 105, 106, 107, 108, 109, 110, 111, 112, 113, 114, 115, 116, 117] (by decide +kernel) (by decide +kernel)
set_option maxRecDepth 20000 in
theorem gX6_init_X0_init_n39 : GoodIn wsX6_init (wsX0_init) := ggX6_init_X0_init
set_option maxRecDepth 20000 in
theorem ggX6_init_X2_init : GoodIn wsX6_init wsX2_init := goodIn_r _ [71, 72, 2, 3, 31, 73, 35, 74, 118, 119] (by decide +kernel) (by decide +kernel)
set_option maxRecDepth 20000 in
theorem gX6_init_X2_init : GoodIn wsX6_init (wsX2_init) := ggX6_init_X2_init
theorem dX6_init_0 : decode cX6_init 0 = .ok (.aload_n 0, 1) := by decide +kernel
theorem dX6_init_1 : decode cX6_init 1 = .ok (.invokespecial 3, 3) := by decide +kernel
theorem dX6_init_4 : decode cX6_init 4 = .ok (.aload_n 0, 1) := by decide +kernel
theorem dX6_init_5 : decode cX6_init 5 = .ok (.new 9, 3) := by decide +kernel
theorem dX6_init_8 : decode cX6_init 8 = .ok (.dup, 1) := by decide +kernel
theorem dX6_init_9 : decode cX6_init 9 = .ok (.invokespecial 11, 3) := by decide +kernel
theorem dX6_init_12 : decode cX6_init 12 = .ok (.putfield 12, 3) := by decide +kernel
theorem dX6_init_15 : decode cX6_init 15 = .ok (.aload_n 0, 1) := by decide +kernel
theorem dX6_init_16 : decode cX6_init 16 = .ok (.new 16, 3) := by decide +kernel
theorem dX6_init_19 : decode cX6_init 19 = .ok (.dup, 1) := by decide +kernel
theorem dX6_init_20 : decode cX6_init 20 = .ok (.invokespecial 18, 3) := by decide +kernel
theorem dX6_init_23 : decode cX6_init 23 = .ok (.putfield 19, 3) := by decide +kernel
theorem dX6_init_26 : decode cX6_init 26 = .ok (.aload_n 0, 1) := by decide +kernel
theorem dX6_init_27 : decode cX6_init 27 = .ok (.new 23, 3) := by decide +kernel
theorem dX6_init_30 : decode cX6_init 30 = .ok (.dup, 1) := by decide +kernel
theorem dX6_init_31 : decode cX6_init 31 = .ok (.invokespecial 25, 3) := by decide +kernel
theorem dX6_init_34 : decode cX6_init 34 = .ok (.putfield 26, 3) := by decide +kernel
theorem dX6_init_37 : decode cX6_init 37 = .ok (.aload_n 0, 1) := by decide +kernel
theorem dX6_init_38 : decode cX6_init 38 = .ok (.new 30, 3) := by decide +kernel
theorem dX6_init_41 : decode cX6_init 41 = .ok (.dup, 1) := by decide +kernel
theorem dX6_init_42 : decode cX6_init 42 = .ok (.invokespecial 32, 3) := by decide +kernel
theorem dX6_init_45 : decode cX6_init 45 = .ok (.putfield 33, 3) := by decide +kernel
theorem dX6_init_48 : decode cX6_init 48 = .ok (.aload_n 0, 1) := by decide +kernel
theorem dX6_init_49 : decode cX6_init 49 = .ok (.new 37, 3) := by decide +kernel
theorem dX6_init_52 : decode cX6_init 52 = .ok (.dup, 1) := by decide +kernel
theorem dX6_init_53 : decode cX6_init 53 = .ok (.invokespecial 39, 3) := by decide +kernel
theorem dX6_init_56 : decode cX6_init 56 = .ok (.putfield 40, 3) := by decide +kernel
theorem dX6_init_59 : decode cX6_init 59 = .ok (.aload_n 0, 1) := by decide +kernel
theorem dX6_init_60 : decode cX6_init 60 = .ok (.new 44, 3) := by decide +kernel
theorem dX6_init_63 : decode cX6_init 63 = .ok (.dup, 1) := by decide +kernel
theorem dX6_init_64 : decode cX6_init 64 = .ok (.invokespecial 46, 3) := by decide +kernel
theorem dX6_init_67 : decode cX6_init 67 = .ok (.putfield 47, 3) := by decide +kernel
theorem dX6_init_70 : decode cX6_init 70 = .ok (.return_, 1) := by decide +kernel
set_option maxRecDepth 20000 in
theorem ggX6_give_X6_isIn : GoodIn wsX6_give wsX6_isIn := goodIn_r _ [7] (by decide +kernel) (by decide +kernel)
set_option maxRecDepth 20000 in
theorem gX6_give_X6_isIn : GoodIn wsX6_give (va_wsS RX6 51 yX6_isIn wsX6_isIn) := goodIn_app (goodIn_of _ (by decide +kernel)) ggX6_give_X6_isIn
set_option maxRecDepth 20000 in
theorem ggX6_give_X4_hasRoomFor : GoodIn wsX6_give wsX4_hasRoomFor := goodIn_r _ [12, 13, 26, 27, 28, 29, 30] (by decide +kernel) (by decide +kernel)
set_option maxRecDepth 20000 in
theorem gX6_give_X4_hasRoomFor : GoodIn wsX6_give (wsV RX6 57 RX4 yX4_hasRoomFor wsX4_hasRoomFor) := goodIn_app (goodIn_of _ (by decide +kernel)) ggX6_give_X4_hasRoomFor
set_option maxRecDepth 20000 in
theorem ggX6_give_X4_add : GoodIn wsX6_give wsX4_add := goodIn_r _ [17, 13, 18, 19, 26, 27, 28, 29, 30] (by decide +kernel) (by decide +kernel)
set_option maxRecDepth 20000 in
theorem gX6_give_X4_add : GoodIn wsX6_give (wsV RX6 61 RX4 yX4_add wsX4_add) := goodIn_app (goodIn_of _ (by decide +kernel)) ggX6_give_X4_add
theorem dX6_give_0 : decode cX6_give 0 = .ok (.iload_n 1, 1) := by decide +kernel
theorem dX6_give_1 : decode cX6_give 1 = .ok (.iconst 0, 1) := by decide +kernel
theorem dX6_give_2 : decode cX6_give 2 = .ok (.iconst 3, 1) := by decide +kernel
theorem dX6_give_3 : decode cX6_give 3 = .ok (.invokestatic 51, 3) := by decide +kernel
theorem dX6_give_6 : decode cX6_give 6 = .ok (.ifCond .eq 25, 3) := by decide +kernel
theorem dX6_give_9 : decode cX6_give 9 = .ok (.iload_n 2, 1) := by decide +kernel
theorem dX6_give_10 : decode cX6_give 10 = .ok (.ldc 55, 2) := by decide +kernel
theorem dX6_give_12 : decode cX6_give 12 = .ok (.ldc 56, 2) := by decide +kernel
theorem dX6_give_14 : decode cX6_give 14 = .ok (.invokestatic 51, 3) := by decide +kernel
theorem dX6_give_17 : decode cX6_give 17 = .ok (.ifCond .eq 14, 3) := by decide +kernel
theorem dX6_give_20 : decode cX6_give 20 = .ok (.aload_n 0, 1) := by decide +kernel
theorem dX6_give_21 : decode cX6_give 21 = .ok (.getfield 12, 3) := by decide +kernel
theorem dX6_give_24 : decode cX6_give 24 = .ok (.iconst 1, 1) := by decide +kernel
theorem dX6_give_25 : decode cX6_give 25 = .ok (.invokevirtual 57, 3) := by decide +kernel
theorem dX6_give_28 : decode cX6_give 28 = .ok (.ifCond .ne 5, 3) := by decide +kernel
theorem dX6_give_31 : decode cX6_give 31 = .ok (.iconst (-1), 1) := by decide +kernel
theorem dX6_give_32 : decode cX6_give 32 = .ok (.ireturn, 1) := by decide +kernel
theorem dX6_give_33 : decode cX6_give 33 = .ok (.aload_n 0, 1) := by decide +kernel
theorem dX6_give_34 : decode cX6_give 34 = .ok (.getfield 12, 3) := by decide +kernel
theorem dX6_give_37 : decode cX6_give 37 = .ok (.iload_n 1, 1) := by decide +kernel
theorem dX6_give_38 : decode cX6_give 38 = .ok (.iload_n 2, 1) := by decide +kernel
theorem dX6_give_39 : decode cX6_give 39 = .ok (.invokevirtual 61, 3) := by decide +kernel
theorem dX6_give_42 : decode cX6_give 42 = .ok (.aload_n 0, 1) := by decide +kernel
theorem dX6_give_43 : decode cX6_give 43 = .ok (.getfield 12, 3) := by decide +kernel
theorem dX6_give_46 : decode cX6_give 46 = .ok (.getfield 65, 3) := by decide +kernel
theorem dX6_give_49 : decode cX6_give 49 = .ok (.iconst 1, 1) := by decide +kernel
theorem dX6_give_50 : decode cX6_give 50 = .ok (.isub, 1) := by decide +kernel
theorem dX6_give_51 : decode cX6_give 51 = .ok (.ireturn, 1) := by decide +kernel
set_option maxRecDepth 20000 in
theorem ggX6_sow_X6_isIn : GoodIn wsX6_sow wsX6_isIn := goodIn_r _ [6] (by decide +kernel) (by decide +kernel)
set_option maxRecDepth 20000 in
theorem gX6_sow_X6_isIn : GoodIn wsX6_sow (va_wsS RX6 51 yX6_isIn wsX6_isIn) := goodIn_app (goodIn_of _ (by decide +kernel)) ggX6_sow_X6_isIn
set_option maxRecDepth 20000 in
theorem ggX6_sow_X4_hasRoomFor : GoodIn wsX6_sow wsX4_hasRoomFor := goodIn_r _ [11, 12, 25, 26, 27, 28, 29] (by decide +kernel) (by decide +kernel)
set_option maxRecDepth 20000 in
theorem gX6_sow_X4_hasRoomFor : GoodIn wsX6_sow (wsV RX6 57 RX4 yX4_hasRoomFor wsX4_hasRoomFor) := goodIn_app (goodIn_of _ (by decide +kernel)) ggX6_sow_X4_hasRoomFor
set_option maxRecDepth 20000 in
theorem ggX6_sow_X4_add : GoodIn wsX6_sow wsX4_add := goodIn_r _ [16, 12, 17, 18, 25, 26, 27, 28, 29] (by decide +kernel) (by decide +kernel)
set_option maxRecDepth 20000 in
theorem gX6_sow_X4_add : GoodIn wsX6_sow (wsV RX6 61 RX4 yX4_add wsX4_add) := goodIn_app (goodIn_of _ (by decide +kernel)) ggX6_sow_X4_add
theorem dX6_sow_0 : decode cX6_sow 0 = .ok (.iload_n 1, 1) := by decide +kernel
theorem dX6_sow_1 : decode cX6_sow 1 = .ok (.iconst 0, 1) := by decide +kernel
theorem dX6_sow_2 : decode cX6_sow 2 = .ok (.iconst 3, 1) := by decide +kernel
theorem dX6_sow_3 : decode cX6_sow 3 = .ok (.invokestatic 51, 3) := by decide +kernel
theorem dX6_sow_6 : decode cX6_sow 6 = .ok (.ifCond .eq 48, 3) := by decide +kernel
theorem dX6_sow_9 : decode cX6_sow 9 = .ok (.iload_n 2, 1) := by decide +kernel
theorem dX6_sow_10 : decode cX6_sow 10 = .ok (.iconst 1, 1) := by decide +kernel
theorem dX6_sow_11 : decode cX6_sow 11 = .ok (.bipush 100, 2) := by decide +kernel
theorem dX6_sow_13 : decode cX6_sow 13 = .ok (.invokestatic 51, 3) := by decide +kernel
theorem dX6_sow_16 : decode cX6_sow 16 = .ok (.ifCond .eq 38, 3) := by decide +kernel
theorem dX6_sow_19 : decode cX6_sow 19 = .ok (.iload 4, 2) := by decide +kernel
theorem dX6_sow_21 : decode cX6_sow 21 = .ok (.bipush (-100), 2) := by decide +kernel
theorem dX6_sow_23 : decode cX6_sow 23 = .ok (.bipush 100, 2) := by decide +kernel
theorem dX6_sow_25 : decode cX6_sow 25 = .ok (.invokestatic 51, 3) := by decide +kernel
theorem dX6_sow_28 : decode cX6_sow 28 = .ok (.ifCond .eq 26, 3) := by decide +kernel
theorem dX6_sow_31 : decode cX6_sow 31 = .ok (.iload 5, 2) := by decide +kernel
theorem dX6_sow_33 : decode cX6_sow 33 = .ok (.iconst 1, 1) := by decide +kernel
theorem dX6_sow_34 : decode cX6_sow 34 = .ok (.sipush 10000, 3) := by decide +kernel
theorem dX6_sow_37 : decode cX6_sow 37 = .ok (.invokestatic 51, 3) := by decide +kernel
theorem dX6_sow_40 : decode cX6_sow 40 = .ok (.ifCond .eq 14, 3) := by decide +kernel
theorem dX6_sow_43 : decode cX6_sow 43 = .ok (.aload_n 0, 1) := by decide +kernel
theorem dX6_sow_44 : decode cX6_sow 44 = .ok (.getfield 12, 3) := by decide +kernel
theorem dX6_sow_47 : decode cX6_sow 47 = .ok (.iload_n 2, 1) := by decide +kernel
theorem dX6_sow_48 : decode cX6_sow 48 = .ok (.invokevirtual 57, 3) := by decide +kernel
theorem dX6_sow_51 : decode cX6_sow 51 = .ok (.ifCond .ne 5, 3) := by decide +kernel
theorem dX6_sow_54 : decode cX6_sow 54 = .ok (.iconst (-1), 1) := by decide +kernel
theorem dX6_sow_55 : decode cX6_sow 55 = .ok (.ireturn, 1) := by decide +kernel
theorem dX6_sow_56 : decode cX6_sow 56 = .ok (.iload_n 3, 1) := by decide +kernel
theorem dX6_sow_57 : decode cX6_sow 57 = .ok (.istore 6, 2) := by decide +kernel
theorem dX6_sow_59 : decode cX6_sow 59 = .ok (.iconst 0, 1) := by decide +kernel
theorem dX6_sow_60 : decode cX6_sow 60 = .ok (.istore 7, 2) := by decide +kernel
theorem dX6_sow_62 : decode cX6_sow 62 = .ok (.iload 7, 2) := by decide +kernel
theorem dX6_sow_64 : decode cX6_sow 64 = .ok (.iload_n 2, 1) := by decide +kernel
theorem dX6_sow_65 : decode cX6_sow 65 = .ok (.if_icmp .ge 47, 3) := by decide +kernel
theorem dX6_sow_68 : decode cX6_sow 68 = .ok (.ldc 69, 2) := by decide +kernel
theorem dX6_sow_70 : decode cX6_sow 70 = .ok (.iload 6, 2) := by decide +kernel
theorem dX6_sow_72 : decode cX6_sow 72 = .ok (.imul, 1) := by decide +kernel
theorem dX6_sow_73 : decode cX6_sow 73 = .ok (.sipush 12345, 3) := by decide +kernel
theorem dX6_sow_76 : decode cX6_sow 76 = .ok (.iadd, 1) := by decide +kernel
theorem dX6_sow_77 : decode cX6_sow 77 = .ok (.istore 6, 2) := by decide +kernel
theorem dX6_sow_79 : decode cX6_sow 79 = .ok (.aload_n 0, 1) := by decide +kernel
theorem dX6_sow_80 : decode cX6_sow 80 = .ok (.getfield 12, 3) := by decide +kernel
theorem dX6_sow_83 : decode cX6_sow 83 = .ok (.iload_n 1, 1) := by decide +kernel
theorem dX6_sow_84 : decode cX6_sow 84 = .ok (.aload_n 0, 1) := by decide +kernel
theorem dX6_sow_85 : decode cX6_sow 85 = .ok (.getfield 12, 3) := by decide +kernel
theorem dX6_sow_88 : decode cX6_sow 88 = .ok (.getfield 65, 3) := by decide +kernel
theorem dX6_sow_91 : decode cX6_sow 91 = .ok (.iload 4, 2) := by decide +kernel
theorem dX6_sow_93 : decode cX6_sow 93 = .ok (.imul, 1) := by decide +kernel
theorem dX6_sow_94 : decode cX6_sow 94 = .ok (.iload 6, 2) := by decide +kernel
theorem dX6_sow_96 : decode cX6_sow 96 = .ok (.bipush 8, 2) := by decide +kernel
theorem dX6_sow_98 : decode cX6_sow 98 = .ok (.iushr, 1) := by decide +kernel
theorem dX6_sow_99 : decode cX6_sow 99 = .ok (.iload 5, 2) := by decide +kernel
theorem dX6_sow_101 : decode cX6_sow 101 = .ok (.irem, 1) := by decide +kernel
theorem dX6_sow_102 : decode cX6_sow 102 = .ok (.iadd, 1) := by decide +kernel
theorem dX6_sow_103 : decode cX6_sow 103 = .ok (.invokevirtual 61, 3) := by decide +kernel
theorem dX6_sow_106 : decode cX6_sow 106 = .ok (.iinc 7 1, 3) := by decide +kernel
theorem dX6_sow_109 : decode cX6_sow 109 = .ok (.goto (-47), 3) := by decide +kernel
theorem dX6_sow_112 : decode cX6_sow 112 = .ok (.aload_n 0, 1) := by decide +kernel
theorem dX6_sow_113 : decode cX6_sow 113 = .ok (.getfield 12, 3) := by decide +kernel
theorem dX6_sow_116 : decode cX6_sow 116 = .ok (.getfield 65, 3) := by decide +kernel
theorem dX6_sow_119 : decode cX6_sow 119 = .ok (.ireturn, 1) := by decide +kernel
set_option maxRecDepth 20000 in
theorem ggX6_clear_X6_forgetRuns : GoodIn wsX6_clear wsX6_forgetRuns := goodIn_r _ [6, 7, 8, 9, 10, 11, 12, 13, 14, 15, 16, 17, 18, 19, 20, 21, 22, 23, 24, 25, 26, 27, 28, 29, 30, 31, 32, 33, 34, 35, 36, 37, 38, 39, 40, 41, 42, 43, 49, 50, 51, 52, 53, 54, 55, 56, 57, 58, 59, 60, 61, 62, 63, 64, 65, 66, 67, 68, 69, 70, 71, 72, 73, 74, 75, 76, 77, 78] (by decide +kernel) (by decide +kernel)
set_option maxRecDepth 20000 in
theorem gX6_clear_X6_forgetRuns : GoodIn wsX6_clear (wsV RX6 70 RX6 yX6_forgetRuns wsX6_forgetRuns) := goodIn_app (goodIn_of _ (by decide +kernel)) ggX6_clear_X6_forgetRuns
theorem dX6_clear_0 : decode cX6_clear 0 = .ok (.aload_n 0, 1) := by decide +kernel
theorem dX6_clear_1 : decode cX6_clear 1 = .ok (.getfield 12, 3) := by decide +kernel
theorem dX6_clear_4 : decode cX6_clear 4 = .ok (.getfield 65, 3) := by decide +kernel
theorem dX6_clear_7 : decode cX6_clear 7 = .ok (.istore_n 1, 1) := by decide +kernel
theorem dX6_clear_8 : decode cX6_clear 8 = .ok (.aload_n 0, 1) := by decide +kernel
theorem dX6_clear_9 : decode cX6_clear 9 = .ok (.getfield 12, 3) := by decide +kernel
theorem dX6_clear_12 : decode cX6_clear 12 = .ok (.iconst 0, 1) := by decide +kernel
theorem dX6_clear_13 : decode cX6_clear 13 = .ok (.putfield 65, 3) := by decide +kernel
theorem dX6_clear_16 : decode cX6_clear 16 = .ok (.aload_n 0, 1) := by decide +kernel
theorem dX6_clear_17 : decode cX6_clear 17 = .ok (.invokevirtual 70, 3) := by decide +kernel
theorem dX6_clear_20 : decode cX6_clear 20 = .ok (.iload_n 1, 1) := by decide +kernel
theorem dX6_clear_21 : decode cX6_clear 21 = .ok (.ireturn, 1) := by decide +kernel
set_option maxRecDepth 20000 in
theorem ggX6_order_X6_isEachSortOnce : GoodIn wsX6_order wsX6_isEachSortOnce := goodIn_r _ [6, 7, 8, 5, 9] (by decide +kernel) (by decide +kernel)
set_option maxRecDepth 20000 in
theorem gX6_order_X6_isEachSortOnce : GoodIn wsX6_order (va_wsS RX6 76 yX6_isEachSortOnce wsX6_isEachSortOnce) := goodIn_app (goodIn_of _ (by decide +kernel)) ggX6_order_X6_isEachSortOnce
theorem dX6_order_0 : decode cX6_order 0 = .ok (.aload_n 0, 1) := by decide +kernel
theorem dX6_order_1 : decode cX6_order 1 = .ok (.getfield 26, 3) := by decide +kernel
theorem dX6_order_4 : decode cX6_order 4 = .ok (.getfield 73, 3) := by decide +kernel
theorem dX6_order_7 : decode cX6_order 7 = .ok (.ifCond .gt 14, 3) := by decide +kernel
theorem dX6_order_10 : decode cX6_order 10 = .ok (.iload_n 1, 1) := by decide +kernel
theorem dX6_order_11 : decode cX6_order 11 = .ok (.iload_n 2, 1) := by decide +kernel
theorem dX6_order_12 : decode cX6_order 12 = .ok (.iload_n 3, 1) := by decide +kernel
theorem dX6_order_13 : decode cX6_order 13 = .ok (.iload 4, 2) := by decide +kernel
theorem dX6_order_15 : decode cX6_order 15 = .ok (.invokestatic 76, 3) := by decide +kernel
theorem dX6_order_18 : decode cX6_order 18 = .ok (.ifCond .ne 5, 3) := by decide +kernel
theorem dX6_order_21 : decode cX6_order 21 = .ok (.iconst 0, 1) := by decide +kernel
theorem dX6_order_22 : decode cX6_order 22 = .ok (.ireturn, 1) := by decide +kernel
theorem dX6_order_23 : decode cX6_order 23 = .ok (.aload_n 0, 1) := by decide +kernel
theorem dX6_order_24 : decode cX6_order 24 = .ok (.getfield 12, 3) := by decide +kernel
theorem dX6_order_27 : decode cX6_order 27 = .ok (.getfield 80, 3) := by decide +kernel
theorem dX6_order_30 : decode cX6_order 30 = .ok (.iload_n 1, 1) := by decide +kernel
theorem dX6_order_31 : decode cX6_order 31 = .ok (.iconst 0, 1) := by decide +kernel
theorem dX6_order_32 : decode cX6_order 32 = .ok (.iastore, 1) := by decide +kernel
theorem dX6_order_33 : decode cX6_order 33 = .ok (.aload_n 0, 1) := by decide +kernel
theorem dX6_order_34 : decode cX6_order 34 = .ok (.getfield 12, 3) := by decide +kernel
theorem dX6_order_37 : decode cX6_order 37 = .ok (.getfield 80, 3) := by decide +kernel
theorem dX6_order_40 : decode cX6_order 40 = .ok (.iload_n 2, 1) := by decide +kernel
theorem dX6_order_41 : decode cX6_order 41 = .ok (.iconst 1, 1) := by decide +kernel
theorem dX6_order_42 : decode cX6_order 42 = .ok (.iastore, 1) := by decide +kernel
theorem dX6_order_43 : decode cX6_order 43 = .ok (.aload_n 0, 1) := by decide +kernel
theorem dX6_order_44 : decode cX6_order 44 = .ok (.getfield 12, 3) := by decide +kernel
theorem dX6_order_47 : decode cX6_order 47 = .ok (.getfield 80, 3) := by decide +kernel
theorem dX6_order_50 : decode cX6_order 50 = .ok (.iload_n 3, 1) := by decide +kernel
theorem dX6_order_51 : decode cX6_order 51 = .ok (.iconst 2, 1) := by decide +kernel
theorem dX6_order_52 : decode cX6_order 52 = .ok (.iastore, 1) := by decide +kernel
theorem dX6_order_53 : decode cX6_order 53 = .ok (.aload_n 0, 1) := by decide +kernel
theorem dX6_order_54 : decode cX6_order 54 = .ok (.getfield 12, 3) := by decide +kernel
theorem dX6_order_57 : decode cX6_order 57 = .ok (.getfield 80, 3) := by decide +kernel
theorem dX6_order_60 : decode cX6_order 60 = .ok (.iload 4, 2) := by decide +kernel
theorem dX6_order_62 : decode cX6_order 62 = .ok (.iconst 3, 1) := by decide +kernel
theorem dX6_order_63 : decode cX6_order 63 = .ok (.iastore, 1) := by decide +kernel
theorem dX6_order_64 : decode cX6_order 64 = .ok (.iconst 1, 1) := by decide +kernel
theorem dX6_order_65 : decode cX6_order 65 = .ok (.ireturn, 1) := by decide +kernel
set_option maxRecDepth 20000 in
theorem ggX6_falls_X6_isIn : GoodIn wsX6_falls wsX6_isIn := goodIn_r _ [6] (by decide +kernel) (by decide +kernel)
set_option maxRecDepth 20000 in
theorem gX6_falls_X6_isIn : GoodIn wsX6_falls (va_wsS RX6 51 yX6_isIn wsX6_isIn) := goodIn_app (goodIn_of _ (by decide +kernel)) ggX6_falls_X6_isIn
theorem dX6_falls_0 : decode cX6_falls 0 = .ok (.aload_n 0, 1) := by decide +kernel
theorem dX6_falls_1 : decode cX6_falls 1 = .ok (.getfield 26, 3) := by decide +kernel
theorem dX6_falls_4 : decode cX6_falls 4 = .ok (.getfield 73, 3) := by decide +kernel
theorem dX6_falls_7 : decode cX6_falls 7 = .ok (.ifCond .gt 12, 3) := by decide +kernel
theorem dX6_falls_10 : decode cX6_falls 10 = .ok (.iload_n 1, 1) := by decide +kernel
theorem dX6_falls_11 : decode cX6_falls 11 = .ok (.iconst 0, 1) := by decide +kernel
theorem dX6_falls_12 : decode cX6_falls 12 = .ok (.iconst 3, 1) := by decide +kernel
theorem dX6_falls_13 : decode cX6_falls 13 = .ok (.invokestatic 51, 3) := by decide +kernel
theorem dX6_falls_16 : decode cX6_falls 16 = .ok (.ifCond .ne 5, 3) := by decide +kernel
theorem dX6_falls_19 : decode cX6_falls 19 = .ok (.iconst 0, 1) := by decide +kernel
theorem dX6_falls_20 : decode cX6_falls 20 = .ok (.ireturn, 1) := by decide +kernel
theorem dX6_falls_21 : decode cX6_falls 21 = .ok (.aload_n 0, 1) := by decide +kernel
theorem dX6_falls_22 : decode cX6_falls 22 = .ok (.getfield 12, 3) := by decide +kernel
theorem dX6_falls_25 : decode cX6_falls 25 = .ok (.getfield 84, 3) := by decide +kernel
theorem dX6_falls_28 : decode cX6_falls 28 = .ok (.iload_n 1, 1) := by decide +kernel
theorem dX6_falls_29 : decode cX6_falls 29 = .ok (.iload_n 2, 1) := by decide +kernel
theorem dX6_falls_30 : decode cX6_falls 30 = .ok (.bastore, 1) := by decide +kernel
theorem dX6_falls_31 : decode cX6_falls 31 = .ok (.iconst 1, 1) := by decide +kernel
theorem dX6_falls_32 : decode cX6_falls 32 = .ok (.ireturn, 1) := by decide +kernel
set_option maxRecDepth 20000 in
theorem ggX6_row_X4_has : GoodIn wsX6_row wsX4_has := goodIn_r _ [7, 8, 9, 10, 11, 18, 19, 20, 21, 22] (by decide +kernel) (by decide +kernel)
set_option maxRecDepth 20000 in
theorem gX6_row_X4_has : GoodIn wsX6_row (wsV RX6 88 RX4 yX4_has wsX4_has) := goodIn_app (goodIn_of _ (by decide +kernel)) ggX6_row_X4_has
theorem dX6_row_0 : decode cX6_row 0 = .ok (.aload_n 0, 1) := by decide +kernel
theorem dX6_row_1 : decode cX6_row 1 = .ok (.getfield 12, 3) := by decide +kernel
theorem dX6_row_4 : decode cX6_row 4 = .ok (.iload_n 1, 1) := by decide +kernel
theorem dX6_row_5 : decode cX6_row 5 = .ok (.invokevirtual 88, 3) := by decide +kernel
theorem dX6_row_8 : decode cX6_row 8 = .ok (.ifCond .ne 6, 3) := by decide +kernel
theorem dX6_row_11 : decode cX6_row 11 = .ok (.ldc 91, 2) := by decide +kernel
theorem dX6_row_13 : decode cX6_row 13 = .ok (.ireturn, 1) := by decide +kernel
theorem dX6_row_14 : decode cX6_row 14 = .ok (.iload_n 2, 1) := by decide +kernel
theorem dX6_row_15 : decode cX6_row 15 = .ok (.lookupswitch 45 #[(0, 25), (1, 35)], 25) := by decide +kernel
theorem dX6_row_40 : decode cX6_row 40 = .ok (.aload_n 0, 1) := by decide +kernel
theorem dX6_row_41 : decode cX6_row 41 = .ok (.getfield 12, 3) := by decide +kernel
theorem dX6_row_44 : decode cX6_row 44 = .ok (.getfield 92, 3) := by decide +kernel
theorem dX6_row_47 : decode cX6_row 47 = .ok (.iload_n 1, 1) := by decide +kernel
theorem dX6_row_48 : decode cX6_row 48 = .ok (.iaload, 1) := by decide +kernel
theorem dX6_row_49 : decode cX6_row 49 = .ok (.ireturn, 1) := by decide +kernel
theorem dX6_row_50 : decode cX6_row 50 = .ok (.aload_n 0, 1) := by decide +kernel
theorem dX6_row_51 : decode cX6_row 51 = .ok (.getfield 12, 3) := by decide +kernel
theorem dX6_row_54 : decode cX6_row 54 = .ok (.getfield 95, 3) := by decide +kernel
theorem dX6_row_57 : decode cX6_row 57 = .ok (.iload_n 1, 1) := by decide +kernel
theorem dX6_row_58 : decode cX6_row 58 = .ok (.iaload, 1) := by decide +kernel
theorem dX6_row_59 : decode cX6_row 59 = .ok (.ireturn, 1) := by decide +kernel
theorem dX6_row_60 : decode cX6_row 60 = .ok (.ldc 91, 2) := by decide +kernel
theorem dX6_row_62 : decode cX6_row 62 = .ok (.ireturn, 1) := by decide +kernel
set_option maxRecDepth 20000 in
theorem ggX6_against_X4_has : GoodIn wsX6_against wsX4_has := goodIn_r _ [6, 7, 8, 9, 10, 33, 34, 35, 36, 37] (by decide +kernel) (by decide +kernel)
set_option maxRecDepth 20000 in
theorem gX6_against_X4_has : GoodIn wsX6_against (wsV RX6 88 RX4 yX4_has wsX4_has) := goodIn_app (goodIn_of _ (by decide +kernel)) ggX6_against_X4_has
set_option maxRecDepth 20000 in
theorem ggX6_against_X4_placeOf : GoodIn wsX6_against wsX4_placeOf := goodIn_r _ [14, 15, 16, 17, 18, 19, 20, 21, 22, 3, 4, 5, 6, 7, 8, 9, 10, 33, 34, 35, 36, 37] (by decide +kernel) (by decide +kernel)
set_option maxRecDepth 20000 in
theorem gX6_against_X4_placeOf : GoodIn wsX6_against (wsV RX6 98 RX4 yX4_placeOf wsX4_placeOf) := goodIn_app (goodIn_of _ (by decide +kernel)) ggX6_against_X4_placeOf
set_option maxRecDepth 20000 in
theorem ggX6_against_J6_compare_7cf53 : GoodIn wsX6_against wsJ6_compare_7cf53 := goodIn_r _ [26] (by decide +kernel) (by decide +kernel)
set_option maxRecDepth 20000 in
theorem gX6_against_J6_compare_7cf53 : GoodIn wsX6_against (va_wsS RX6 102 yJ6_compare_7cf53 wsJ6_compare_7cf53) := goodIn_app (goodIn_of _ (by decide +kernel)) ggX6_against_J6_compare_7cf53
theorem dX6_against_0 : decode cX6_against 0 = .ok (.aload_n 0, 1) := by decide +kernel
theorem dX6_against_1 : decode cX6_against 1 = .ok (.getfield 12, 3) := by decide +kernel
theorem dX6_against_4 : decode cX6_against 4 = .ok (.iload_n 1, 1) := by decide +kernel
theorem dX6_against_5 : decode cX6_against 5 = .ok (.invokevirtual 88, 3) := by decide +kernel
theorem dX6_against_8 : decode cX6_against 8 = .ok (.ifCond .eq 14, 3) := by decide +kernel
theorem dX6_against_11 : decode cX6_against 11 = .ok (.aload_n 0, 1) := by decide +kernel
theorem dX6_against_12 : decode cX6_against 12 = .ok (.getfield 12, 3) := by decide +kernel
theorem dX6_against_15 : decode cX6_against 15 = .ok (.iload_n 2, 1) := by decide +kernel
theorem dX6_against_16 : decode cX6_against 16 = .ok (.invokevirtual 88, 3) := by decide +kernel
theorem dX6_against_19 : decode cX6_against 19 = .ok (.ifCond .ne 6, 3) := by decide +kernel
theorem dX6_against_22 : decode cX6_against 22 = .ok (.bipush (-2), 2) := by decide +kernel
theorem dX6_against_24 : decode cX6_against 24 = .ok (.ireturn, 1) := by decide +kernel
theorem dX6_against_25 : decode cX6_against 25 = .ok (.aload_n 0, 1) := by decide +kernel
theorem dX6_against_26 : decode cX6_against 26 = .ok (.getfield 12, 3) := by decide +kernel
theorem dX6_against_29 : decode cX6_against 29 = .ok (.iload_n 1, 1) := by decide +kernel
theorem dX6_against_30 : decode cX6_against 30 = .ok (.invokevirtual 98, 3) := by decide +kernel
theorem dX6_against_33 : decode cX6_against 33 = .ok (.aload_n 0, 1) := by decide +kernel
theorem dX6_against_34 : decode cX6_against 34 = .ok (.getfield 12, 3) := by decide +kernel
theorem dX6_against_37 : decode cX6_against 37 = .ok (.iload_n 2, 1) := by decide +kernel
theorem dX6_against_38 : decode cX6_against 38 = .ok (.invokevirtual 98, 3) := by decide +kernel
theorem dX6_against_41 : decode cX6_against 41 = .ok (.invokestatic 102, 3) := by decide +kernel
theorem dX6_against_44 : decode cX6_against 44 = .ok (.ireturn, 1) := by decide +kernel
set_option maxRecDepth 20000 in
theorem ggX6_rank_X4_has : GoodIn wsX6_rank wsX4_has := goodIn_r _ [6, 7, 8, 9, 10, 29, 30, 31, 32, 33] (by decide +kernel) (by decide +kernel)
set_option maxRecDepth 20000 in
theorem gX6_rank_X4_has : GoodIn wsX6_rank (wsV RX6 88 RX4 yX4_has wsX4_has) := goodIn_app (goodIn_of _ (by decide +kernel)) ggX6_rank_X4_has
set_option maxRecDepth 20000 in
theorem ggX6_rank_X4_placeOf : GoodIn wsX6_rank wsX4_placeOf := goodIn_r _ [14, 15, 16, 17, 18, 19, 20, 21, 22, 3, 4, 5, 6, 7, 8, 9, 10, 29, 30, 31, 32, 33] (by decide +kernel) (by decide +kernel)
set_option maxRecDepth 20000 in
theorem gX6_rank_X4_placeOf : GoodIn wsX6_rank (wsV RX6 98 RX4 yX4_placeOf wsX4_placeOf) := goodIn_app (goodIn_of _ (by decide +kernel)) ggX6_rank_X4_placeOf
theorem dX6_rank_0 : decode cX6_rank 0 = .ok (.aload_n 0, 1) := by decide +kernel
theorem dX6_rank_1 : decode cX6_rank 1 = .ok (.getfield 12, 3) := by decide +kernel
theorem dX6_rank_4 : decode cX6_rank 4 = .ok (.iload_n 1, 1) := by decide +kernel
theorem dX6_rank_5 : decode cX6_rank 5 = .ok (.invokevirtual 88, 3) := by decide +kernel
theorem dX6_rank_8 : decode cX6_rank 8 = .ok (.ifCond .ne 5, 3) := by decide +kernel
theorem dX6_rank_11 : decode cX6_rank 11 = .ok (.iconst (-1), 1) := by decide +kernel
theorem dX6_rank_12 : decode cX6_rank 12 = .ok (.ireturn, 1) := by decide +kernel
theorem dX6_rank_13 : decode cX6_rank 13 = .ok (.aload_n 0, 1) := by decide +kernel
theorem dX6_rank_14 : decode cX6_rank 14 = .ok (.getfield 12, 3) := by decide +kernel
theorem dX6_rank_17 : decode cX6_rank 17 = .ok (.iload_n 1, 1) := by decide +kernel
theorem dX6_rank_18 : decode cX6_rank 18 = .ok (.invokevirtual 98, 3) := by decide +kernel
theorem dX6_rank_21 : decode cX6_rank 21 = .ok (.istore_n 2, 1) := by decide +kernel
theorem dX6_rank_22 : decode cX6_rank 22 = .ok (.iconst 0, 1) := by decide +kernel
theorem dX6_rank_23 : decode cX6_rank 23 = .ok (.istore_n 3, 1) := by decide +kernel
theorem dX6_rank_24 : decode cX6_rank 24 = .ok (.iconst 0, 1) := by decide +kernel
theorem dX6_rank_25 : decode cX6_rank 25 = .ok (.istore 4, 2) := by decide +kernel
theorem dX6_rank_27 : decode cX6_rank 27 = .ok (.iload 4, 2) := by decide +kernel
theorem dX6_rank_29 : decode cX6_rank 29 = .ok (.aload_n 0, 1) := by decide +kernel
theorem dX6_rank_30 : decode cX6_rank 30 = .ok (.getfield 12, 3) := by decide +kernel
theorem dX6_rank_33 : decode cX6_rank 33 = .ok (.getfield 65, 3) := by decide +kernel
theorem dX6_rank_36 : decode cX6_rank 36 = .ok (.if_icmp .ge 25, 3) := by decide +kernel
theorem dX6_rank_39 : decode cX6_rank 39 = .ok (.aload_n 0, 1) := by decide +kernel
theorem dX6_rank_40 : decode cX6_rank 40 = .ok (.getfield 12, 3) := by decide +kernel
theorem dX6_rank_43 : decode cX6_rank 43 = .ok (.iload 4, 2) := by decide +kernel
theorem dX6_rank_45 : decode cX6_rank 45 = .ok (.invokevirtual 98, 3) := by decide +kernel
theorem dX6_rank_48 : decode cX6_rank 48 = .ok (.iload_n 2, 1) := by decide +kernel
theorem dX6_rank_49 : decode cX6_rank 49 = .ok (.if_icmp .ge 6, 3) := by decide +kernel
theorem dX6_rank_52 : decode cX6_rank 52 = .ok (.iinc 3 1, 3) := by decide +kernel
theorem dX6_rank_55 : decode cX6_rank 55 = .ok (.iinc 4 1, 3) := by decide +kernel
theorem dX6_rank_58 : decode cX6_rank 58 = .ok (.goto (-31), 3) := by decide +kernel
theorem dX6_rank_61 : decode cX6_rank 61 = .ok (.iload_n 3, 1) := by decide +kernel
theorem dX6_rank_62 : decode cX6_rank 62 = .ok (.ireturn, 1) := by decide +kernel
set_option maxRecDepth 20000 in
theorem ggX6_runs_X6_isIn : GoodIn wsX6_runs wsX6_isIn := goodIn_r _ [7] (by decide +kernel) (by decide +kernel)
set_option maxRecDepth 20000 in
theorem gX6_runs_X6_isIn : GoodIn wsX6_runs (va_wsS RX6 51 yX6_isIn wsX6_isIn) := goodIn_app (goodIn_of _ (by decide +kernel)) ggX6_runs_X6_isIn
set_option maxRecDepth 20000 in
theorem ggX6_runs_X6_forgetRuns : GoodIn wsX6_runs wsX6_forgetRuns := goodIn_r _ [11, 1, 12, 13, 14, 15, 16, 17, 18, 19, 20, 21, 22, 23, 24, 25, 26, 27, 28, 29, 30, 31, 32, 33, 34, 35, 36, 37, 38, 39, 40, 41, 111, 112, 113, 114, 115, 116, 117, 118, 119, 120, 121, 122, 123, 124, 125, 126, 127, 128, 129, 130, 131, 132, 133, 134, 135, 136, 137, 138, 139, 140, 141, 142, 143, 144, 145, 146] (by decide +kernel) (by decide +kernel)
set_option maxRecDepth 20000 in
theorem gX6_runs_X6_forgetRuns : GoodIn wsX6_runs (wsV RX6 70 RX6 yX6_forgetRuns wsX6_forgetRuns) := goodIn_app (goodIn_of _ (by decide +kernel)) ggX6_runs_X6_forgetRuns
set_option maxRecDepth 20000 in
theorem ggX6_runs_X5_makeOf : GoodIn wsX6_runs wsX5_makeOf := goodIn_r _ [45, 19, 21, 20, 46, 47, 48, 17, 49, 50, 51, 52, 53, 54, 55, 56, 57, 58, 59, 60, 61, 62, 63, 64, 65, 66, 67, 68, 69, 70, 71, 72, 73, 74, 5, 6, 7, 75, 76, 77, 78, 79, 80, 81, 82, 83, 84, 85, 86, 87, 88, 89, 90, 91, 92, 93, 94, 95, 96, 97, 98, 99, 100, 101, 102, 103, 104, 105, 22, 106, 107, 108, 109, 110, 147, 148, 149, 150, 151, 117, 118, 119, 120, 121, 122, 123, 124, 125, 126, 152, 153] (by decide +kernel) (by decide +kernel)
set_option maxRecDepth 20000 in
theorem gX6_runs_X5_makeOf : GoodIn wsX6_runs (wsV RX6 108 RX5 yX5_makeOf wsX5_makeOf) := goodIn_app (goodIn_of _ (by decide +kernel)) ggX6_runs_X5_makeOf
theorem dX6_runs_0 : decode cX6_runs 0 = .ok (.iload_n 1, 1) := by decide +kernel
theorem dX6_runs_1 : decode cX6_runs 1 = .ok (.iconst 1, 1) := by decide +kernel
theorem dX6_runs_2 : decode cX6_runs 2 = .ok (.bipush 40, 2) := by decide +kernel
theorem dX6_runs_4 : decode cX6_runs 4 = .ok (.invokestatic 51, 3) := by decide +kernel
theorem dX6_runs_7 : decode cX6_runs 7 = .ok (.ifCond .ne 5, 3) := by decide +kernel
theorem dX6_runs_10 : decode cX6_runs 10 = .ok (.iconst (-1), 1) := by decide +kernel
theorem dX6_runs_11 : decode cX6_runs 11 = .ok (.ireturn, 1) := by decide +kernel
theorem dX6_runs_12 : decode cX6_runs 12 = .ok (.aload_n 0, 1) := by decide +kernel
theorem dX6_runs_13 : decode cX6_runs 13 = .ok (.invokevirtual 70, 3) := by decide +kernel
theorem dX6_runs_16 : decode cX6_runs 16 = .ok (.aload_n 0, 1) := by decide +kernel
theorem dX6_runs_17 : decode cX6_runs 17 = .ok (.getfield 26, 3) := by decide +kernel
theorem dX6_runs_20 : decode cX6_runs 20 = .ok (.aload_n 0, 1) := by decide +kernel
theorem dX6_runs_21 : decode cX6_runs 21 = .ok (.getfield 12, 3) := by decide +kernel
theorem dX6_runs_24 : decode cX6_runs 24 = .ok (.iload_n 1, 1) := by decide +kernel
theorem dX6_runs_25 : decode cX6_runs 25 = .ok (.aload_n 0, 1) := by decide +kernel
theorem dX6_runs_26 : decode cX6_runs 26 = .ok (.getfield 19, 3) := by decide +kernel
theorem dX6_runs_29 : decode cX6_runs 29 = .ok (.invokevirtual 108, 3) := by decide +kernel
theorem dX6_runs_32 : decode cX6_runs 32 = .ok (.aload_n 0, 1) := by decide +kernel
theorem dX6_runs_33 : decode cX6_runs 33 = .ok (.getfield 26, 3) := by decide +kernel
theorem dX6_runs_36 : decode cX6_runs 36 = .ok (.getfield 73, 3) := by decide +kernel
theorem dX6_runs_39 : decode cX6_runs 39 = .ok (.ireturn, 1) := by decide +kernel
set_option maxRecDepth 20000 in
theorem ggX6_length_X5_has : GoodIn wsX6_length wsX5_has := goodIn_r _ [6, 7, 8, 9, 10, 23, 24, 25, 26, 27, 28, 29, 30, 31, 32] (by decide +kernel) (by decide +kernel)
set_option maxRecDepth 20000 in
theorem gX6_length_X5_has : GoodIn wsX6_length (wsV RX6 112 RX5 yX5_has wsX5_has) := goodIn_app (goodIn_of _ (by decide +kernel)) ggX6_length_X5_has
set_option maxRecDepth 20000 in
theorem ggX6_length_X5_sizeOf : GoodIn wsX6_length wsX5_sizeOf := goodIn_r _ [14, 15, 16, 3, 4, 5, 6, 7, 8, 9, 10, 23, 24, 25, 26, 27, 28, 29, 30, 31, 32] (by decide +kernel) (by decide +kernel)
set_option maxRecDepth 20000 in
theorem gX6_length_X5_sizeOf : GoodIn wsX6_length (wsV RX6 113 RX5 yX5_sizeOf wsX5_sizeOf) := goodIn_app (goodIn_of _ (by decide +kernel)) ggX6_length_X5_sizeOf
theorem dX6_length_0 : decode cX6_length 0 = .ok (.aload_n 0, 1) := by decide +kernel
theorem dX6_length_1 : decode cX6_length 1 = .ok (.getfield 26, 3) := by decide +kernel
theorem dX6_length_4 : decode cX6_length 4 = .ok (.iload_n 1, 1) := by decide +kernel
theorem dX6_length_5 : decode cX6_length 5 = .ok (.invokevirtual 112, 3) := by decide +kernel
theorem dX6_length_8 : decode cX6_length 8 = .ok (.ifCond .eq 14, 3) := by decide +kernel
theorem dX6_length_11 : decode cX6_length 11 = .ok (.aload_n 0, 1) := by decide +kernel
theorem dX6_length_12 : decode cX6_length 12 = .ok (.getfield 26, 3) := by decide +kernel
theorem dX6_length_15 : decode cX6_length 15 = .ok (.iload_n 1, 1) := by decide +kernel
theorem dX6_length_16 : decode cX6_length 16 = .ok (.invokevirtual 113, 3) := by decide +kernel
theorem dX6_length_19 : decode cX6_length 19 = .ok (.goto 4, 3) := by decide +kernel
theorem dX6_length_22 : decode cX6_length 22 = .ok (.iconst (-1), 1) := by decide +kernel
theorem dX6_length_23 : decode cX6_length 23 = .ok (.ireturn, 1) := by decide +kernel
set_option maxRecDepth 20000 in
theorem ggX6_at_X5_rowIn : GoodIn wsX6_at wsX5_rowIn := goodIn_r _ [6, 7, 8, 9, 10, 11, 5, 12, 13, 14, 15, 16, 17, 18, 19, 20, 27, 28, 29, 30, 31, 32, 33, 34, 35, 36] (by decide +kernel) (by decide +kernel)
set_option maxRecDepth 20000 in
theorem gX6_at_X5_rowIn : GoodIn wsX6_at (wsV RX6 116 RX5 yX5_rowIn wsX5_rowIn) := goodIn_app (goodIn_of _ (by decide +kernel)) ggX6_at_X5_rowIn
theorem dX6_at_0 : decode cX6_at 0 = .ok (.aload_n 0, 1) := by decide +kernel
theorem dX6_at_1 : decode cX6_at 1 = .ok (.getfield 26, 3) := by decide +kernel
theorem dX6_at_4 : decode cX6_at 4 = .ok (.iload_n 1, 1) := by decide +kernel
theorem dX6_at_5 : decode cX6_at 5 = .ok (.iload_n 2, 1) := by decide +kernel
theorem dX6_at_6 : decode cX6_at 6 = .ok (.invokevirtual 116, 3) := by decide +kernel
theorem dX6_at_9 : decode cX6_at 9 = .ok (.ireturn, 1) := by decide +kernel
set_option maxRecDepth 20000 in
theorem ggX6_plan_X6_isIn : GoodIn wsX6_plan wsX6_isIn := goodIn_r _ [7] (by decide +kernel) (by decide +kernel)
set_option maxRecDepth 20000 in
theorem gX6_plan_X6_isIn : GoodIn wsX6_plan (va_wsS RX6 51 yX6_isIn wsX6_isIn) := goodIn_app (goodIn_of _ (by decide +kernel)) ggX6_plan_X6_isIn
set_option maxRecDepth 20000 in
theorem ggX6_plan_X5_forgetMerged : GoodIn wsX6_plan wsX5_forgetMerged := goodIn_r _ [12, 13, 14, 15, 16, 78, 79, 80, 81, 82, 83, 84, 85, 86, 87] (by decide +kernel) (by decide +kernel)
set_option maxRecDepth 20000 in
theorem gX6_plan_X5_forgetMerged : GoodIn wsX6_plan (wsV RX6 119 RX5 yX5_forgetMerged wsX5_forgetMerged) := goodIn_app (goodIn_of _ (by decide +kernel)) ggX6_plan_X5_forgetMerged
set_option maxRecDepth 20000 in
theorem ggX6_plan_X3_tell : GoodIn wsX6_plan wsX3_tell := goodIn_r _ [21, 22, 23, 24, 25, 26, 27, 28, 29, 30, 31, 32, 33, 34, 35, 36, 11, 37, 38, 39, 40, 41, 42, 14, 5, 6, 7, 43, 44, 20, 45, 46, 47, 48, 49, 50, 51, 52, 53, 54, 55, 56, 57, 58, 59, 60, 61, 62, 63, 64, 65, 66, 67, 68, 69, 70, 71, 78, 79, 80, 81, 82, 83, 84, 85, 86, 87, 88, 89, 90, 91, 92, 93, 94] (by decide +kernel) (by decide +kernel)
set_option maxRecDepth 20000 in
theorem gX6_plan_X3_tell : GoodIn wsX6_plan (wsV RX6 122 RX3 yX3_tell wsX3_tell) := goodIn_app (goodIn_of _ (by decide +kernel)) ggX6_plan_X3_tell
theorem dX6_plan_0 : decode cX6_plan 0 = .ok (.aload_n 0, 1) := by decide +kernel
theorem dX6_plan_1 : decode cX6_plan 1 = .ok (.getfield 26, 3) := by decide +kernel
theorem dX6_plan_4 : decode cX6_plan 4 = .ok (.getfield 73, 3) := by decide +kernel
theorem dX6_plan_7 : decode cX6_plan 7 = .ok (.ifCond .eq 13, 3) := by decide +kernel
theorem dX6_plan_10 : decode cX6_plan 10 = .ok (.iload_n 1, 1) := by decide +kernel
theorem dX6_plan_11 : decode cX6_plan 11 = .ok (.iconst 2, 1) := by decide +kernel
theorem dX6_plan_12 : decode cX6_plan 12 = .ok (.bipush 8, 2) := by decide +kernel
theorem dX6_plan_14 : decode cX6_plan 14 = .ok (.invokestatic 51, 3) := by decide +kernel
theorem dX6_plan_17 : decode cX6_plan 17 = .ok (.ifCond .ne 5, 3) := by decide +kernel
theorem dX6_plan_20 : decode cX6_plan 20 = .ok (.iconst (-1), 1) := by decide +kernel
theorem dX6_plan_21 : decode cX6_plan 21 = .ok (.ireturn, 1) := by decide +kernel
theorem dX6_plan_22 : decode cX6_plan 22 = .ok (.aload_n 0, 1) := by decide +kernel
theorem dX6_plan_23 : decode cX6_plan 23 = .ok (.getfield 26, 3) := by decide +kernel
theorem dX6_plan_26 : decode cX6_plan 26 = .ok (.invokevirtual 119, 3) := by decide +kernel
theorem dX6_plan_29 : decode cX6_plan 29 = .ok (.aload_n 0, 1) := by decide +kernel
theorem dX6_plan_30 : decode cX6_plan 30 = .ok (.getfield 33, 3) := by decide +kernel
theorem dX6_plan_33 : decode cX6_plan 33 = .ok (.aload_n 0, 1) := by decide +kernel
theorem dX6_plan_34 : decode cX6_plan 34 = .ok (.getfield 26, 3) := by decide +kernel
theorem dX6_plan_37 : decode cX6_plan 37 = .ok (.iload_n 1, 1) := by decide +kernel
theorem dX6_plan_38 : decode cX6_plan 38 = .ok (.aload_n 0, 1) := by decide +kernel
theorem dX6_plan_39 : decode cX6_plan 39 = .ok (.getfield 19, 3) := by decide +kernel
theorem dX6_plan_42 : decode cX6_plan 42 = .ok (.invokevirtual 122, 3) := by decide +kernel
theorem dX6_plan_45 : decode cX6_plan 45 = .ok (.ireturn, 1) := by decide +kernel
set_option maxRecDepth 20000 in
theorem ggX6_queue_X6_isIn : GoodIn wsX6_queue wsX6_isIn := goodIn_r _ [6] (by decide +kernel) (by decide +kernel)
set_option maxRecDepth 20000 in
theorem gX6_queue_X6_isIn : GoodIn wsX6_queue (va_wsS RX6 51 yX6_isIn wsX6_isIn) := goodIn_app (goodIn_of _ (by decide +kernel)) ggX6_queue_X6_isIn
set_option maxRecDepth 20000 in
theorem ggX6_queue_X3_movedByQueue : GoodIn wsX6_queue wsX3_movedByQueue := goodIn_r _ [11, 12, 13, 14, 15, 16, 17, 18, 19, 20, 21, 22, 23, 24, 25, 26, 27, 4, 5, 6, 28, 29, 10, 30, 31, 32, 33, 40, 41, 42, 43, 44, 45, 46, 47, 48, 49, 50, 51, 52, 53, 54] (by decide +kernel) (by decide +kernel)
set_option maxRecDepth 20000 in
theorem gX6_queue_X3_movedByQueue : GoodIn wsX6_queue (wsV RX6 126 RX3 yX3_movedByQueue wsX3_movedByQueue) := goodIn_app (goodIn_of _ (by decide +kernel)) ggX6_queue_X3_movedByQueue
theorem dX6_queue_0 : decode cX6_queue 0 = .ok (.aload_n 0, 1) := by decide +kernel
theorem dX6_queue_1 : decode cX6_queue 1 = .ok (.getfield 26, 3) := by decide +kernel
theorem dX6_queue_4 : decode cX6_queue 4 = .ok (.getfield 73, 3) := by decide +kernel
theorem dX6_queue_7 : decode cX6_queue 7 = .ok (.ifCond .eq 13, 3) := by decide +kernel
theorem dX6_queue_10 : decode cX6_queue 10 = .ok (.iload_n 1, 1) := by decide +kernel
theorem dX6_queue_11 : decode cX6_queue 11 = .ok (.iconst 2, 1) := by decide +kernel
theorem dX6_queue_12 : decode cX6_queue 12 = .ok (.bipush 8, 2) := by decide +kernel
theorem dX6_queue_14 : decode cX6_queue 14 = .ok (.invokestatic 51, 3) := by decide +kernel
theorem dX6_queue_17 : decode cX6_queue 17 = .ok (.ifCond .ne 5, 3) := by decide +kernel
theorem dX6_queue_20 : decode cX6_queue 20 = .ok (.iconst (-1), 1) := by decide +kernel
theorem dX6_queue_21 : decode cX6_queue 21 = .ok (.ireturn, 1) := by decide +kernel
theorem dX6_queue_22 : decode cX6_queue 22 = .ok (.aload_n 0, 1) := by decide +kernel
theorem dX6_queue_23 : decode cX6_queue 23 = .ok (.getfield 33, 3) := by decide +kernel
theorem dX6_queue_26 : decode cX6_queue 26 = .ok (.aload_n 0, 1) := by decide +kernel
theorem dX6_queue_27 : decode cX6_queue 27 = .ok (.getfield 26, 3) := by decide +kernel
theorem dX6_queue_30 : decode cX6_queue 30 = .ok (.iload_n 1, 1) := by decide +kernel
theorem dX6_queue_31 : decode cX6_queue 31 = .ok (.invokevirtual 126, 3) := by decide +kernel
theorem dX6_queue_34 : decode cX6_queue 34 = .ok (.ireturn, 1) := by decide +kernel
theorem dX6_merges_0 : decode cX6_merges 0 = .ok (.aload_n 0, 1) := by decide +kernel
theorem dX6_merges_1 : decode cX6_merges 1 = .ok (.getfield 33, 3) := by decide +kernel
theorem dX6_merges_4 : decode cX6_merges 4 = .ok (.getfield 130, 3) := by decide +kernel
theorem dX6_merges_7 : decode cX6_merges 7 = .ok (.ireturn, 1) := by decide +kernel
set_option maxRecDepth 20000 in
theorem ggX6_takes_X3_taken : GoodIn wsX6_takes wsX3_taken := goodIn_r _ [6, 7, 8, 9, 10, 11, 5, 12, 13, 14, 15, 16, 23, 24, 25, 26, 27] (by decide +kernel) (by decide +kernel)
set_option maxRecDepth 20000 in
theorem gX6_takes_X3_taken : GoodIn wsX6_takes (wsV RX6 133 RX3 yX3_taken wsX3_taken) := goodIn_app (goodIn_of _ (by decide +kernel)) ggX6_takes_X3_taken
theorem dX6_takes_0 : decode cX6_takes 0 = .ok (.aload_n 0, 1) := by decide +kernel
theorem dX6_takes_1 : decode cX6_takes 1 = .ok (.getfield 33, 3) := by decide +kernel
theorem dX6_takes_4 : decode cX6_takes 4 = .ok (.iload_n 1, 1) := by decide +kernel
theorem dX6_takes_5 : decode cX6_takes 5 = .ok (.iload_n 2, 1) := by decide +kernel
theorem dX6_takes_6 : decode cX6_takes 6 = .ok (.invokevirtual 133, 3) := by decide +kernel
theorem dX6_takes_9 : decode cX6_takes 9 = .ok (.ireturn, 1) := by decide +kernel
set_option maxRecDepth 20000 in
theorem ggX6_merge_X5_forgetMerged : GoodIn wsX6_merge wsX5_forgetMerged := goodIn_r _ [7, 8, 9, 10, 11, 76, 77, 78, 79, 80, 81, 82, 83, 84, 85] (by decide +kernel) (by decide +kernel)
set_option maxRecDepth 20000 in
theorem gX6_merge_X5_forgetMerged : GoodIn wsX6_merge (wsV RX6 119 RX5 yX5_forgetMerged wsX5_forgetMerged) := goodIn_app (goodIn_of _ (by decide +kernel)) ggX6_merge_X5_forgetMerged
set_option maxRecDepth 20000 in
theorem ggX6_merge_X5_mergeThose : GoodIn wsX6_merge wsX5_mergeThose := goodIn_r _ [15, 16, 17, 18, 19, 20, 21, 22, 23, 24, 25, 26, 27, 28, 29, 30, 31, 32, 33, 34, 35, 36, 37, 38, 39, 40, 41, 6, 42, 9, 43, 44, 45, 46, 47, 48, 49, 50, 11, 51, 52, 53, 54, 55, 56, 57, 58, 59, 10, 60, 61, 62, 63, 64, 76, 77, 78, 79, 80, 81, 82, 83, 84, 85, 71, 72, 73, 74, 75] (by decide +kernel) (by decide +kernel)
set_option maxRecDepth 20000 in
theorem gX6_merge_X5_mergeThose : GoodIn wsX6_merge (wsV RX6 140 RX5 yX5_mergeThose wsX5_mergeThose) := goodIn_app (goodIn_of _ (by decide +kernel)) ggX6_merge_X5_mergeThose
theorem dX6_merge_0 : decode cX6_merge 0 = .ok (.aload_n 0, 1) := by decide +kernel
theorem dX6_merge_1 : decode cX6_merge 1 = .ok (.getfield 33, 3) := by decide +kernel
theorem dX6_merge_4 : decode cX6_merge 4 = .ok (.getfield 136, 3) := by decide +kernel
theorem dX6_merge_7 : decode cX6_merge 7 = .ok (.ifCond .ne 5, 3) := by decide +kernel
theorem dX6_merge_10 : decode cX6_merge 10 = .ok (.iconst (-1), 1) := by decide +kernel
theorem dX6_merge_11 : decode cX6_merge 11 = .ok (.ireturn, 1) := by decide +kernel
theorem dX6_merge_12 : decode cX6_merge 12 = .ok (.aload_n 0, 1) := by decide +kernel
theorem dX6_merge_13 : decode cX6_merge 13 = .ok (.getfield 26, 3) := by decide +kernel
theorem dX6_merge_16 : decode cX6_merge 16 = .ok (.invokevirtual 119, 3) := by decide +kernel
theorem dX6_merge_19 : decode cX6_merge 19 = .ok (.iconst 0, 1) := by decide +kernel
theorem dX6_merge_20 : decode cX6_merge 20 = .ok (.istore_n 1, 1) := by decide +kernel
theorem dX6_merge_21 : decode cX6_merge 21 = .ok (.iconst 0, 1) := by decide +kernel
theorem dX6_merge_22 : decode cX6_merge 22 = .ok (.istore_n 2, 1) := by decide +kernel
theorem dX6_merge_23 : decode cX6_merge 23 = .ok (.iload_n 2, 1) := by decide +kernel
theorem dX6_merge_24 : decode cX6_merge 24 = .ok (.aload_n 0, 1) := by decide +kernel
theorem dX6_merge_25 : decode cX6_merge 25 = .ok (.getfield 33, 3) := by decide +kernel
theorem dX6_merge_28 : decode cX6_merge 28 = .ok (.getfield 130, 3) := by decide +kernel
theorem dX6_merge_31 : decode cX6_merge 31 = .ok (.if_icmp .ge 24, 3) := by decide +kernel
theorem dX6_merge_34 : decode cX6_merge 34 = .ok (.iload_n 1, 1) := by decide +kernel
theorem dX6_merge_35 : decode cX6_merge 35 = .ok (.aload_n 0, 1) := by decide +kernel
theorem dX6_merge_36 : decode cX6_merge 36 = .ok (.getfield 26, 3) := by decide +kernel
theorem dX6_merge_39 : decode cX6_merge 39 = .ok (.aload_n 0, 1) := by decide +kernel
theorem dX6_merge_40 : decode cX6_merge 40 = .ok (.getfield 33, 3) := by decide +kernel
theorem dX6_merge_43 : decode cX6_merge 43 = .ok (.iload_n 2, 1) := by decide +kernel
theorem dX6_merge_44 : decode cX6_merge 44 = .ok (.invokevirtual 140, 3) := by decide +kernel
theorem dX6_merge_47 : decode cX6_merge 47 = .ok (.iadd, 1) := by decide +kernel
theorem dX6_merge_48 : decode cX6_merge 48 = .ok (.istore_n 1, 1) := by decide +kernel
theorem dX6_merge_49 : decode cX6_merge 49 = .ok (.iinc 2 1, 3) := by decide +kernel
theorem dX6_merge_52 : decode cX6_merge 52 = .ok (.goto (-29), 3) := by decide +kernel
theorem dX6_merge_55 : decode cX6_merge 55 = .ok (.iload_n 1, 1) := by decide +kernel
theorem dX6_merge_56 : decode cX6_merge 56 = .ok (.ireturn, 1) := by decide +kernel
set_option maxRecDepth 20000 in
theorem ggX6_cut_X6_isIn : GoodIn wsX6_cut wsX6_isIn := goodIn_r _ [7] (by decide +kernel) (by decide +kernel)
set_option maxRecDepth 20000 in
theorem gX6_cut_X6_isIn : GoodIn wsX6_cut (va_wsS RX6 51 yX6_isIn wsX6_isIn) := goodIn_app (goodIn_of _ (by decide +kernel)) ggX6_cut_X6_isIn
set_option maxRecDepth 20000 in
theorem ggX6_cut_X0_makeOf : GoodIn wsX6_cut wsX0_makeOf := goodIn_r _ [12, 13, 14, 15, 16, 17, 18, 19, 20, 21, 11, 22, 23, 24, 25, 26, 27, 28, 29, 30, 31, 32, 33, 34, 35, 36, 37, 38, 39, 40, 41, 42, 43, 5, 6, 7, 44, 45, 46, 47, 48, 49, 50, 51, 52, 53, 54, 55, 56, 57, 58, 59, 60, 61, 62, 63, 64, 65, 66, 67, 68, 69, 70, 104, 105, 106, 107, 108, 109, 110, 111, 112, 113, 114, 115, 116, 117, 118, 94, 95, 96, 97, 98, 99, 100, 101, 102, 103] (by decide +kernel) (by decide +kernel)
set_option maxRecDepth 20000 in
theorem gX6_cut_X0_makeOf : GoodIn wsX6_cut (wsV RX6 144 RX0 yX0_makeOf wsX0_makeOf) := goodIn_app (goodIn_of _ (by decide +kernel)) ggX6_cut_X0_makeOf
set_option maxRecDepth 20000 in
theorem ggX6_cut_X0_layOn : GoodIn wsX6_cut wsX0_layOn := goodIn_r _ [74, 13, 75, 76, 77, 78, 11, 79, 65, 66, 67, 68, 69, 70, 80, 81, 82, 83, 84, 85, 86, 87, 17, 104, 105, 106, 107, 108, 109, 110, 111, 112, 113, 114, 115, 116, 117, 118, 119, 120] (by decide +kernel) (by decide +kernel)
set_option maxRecDepth 20000 in
theorem gX6_cut_X0_layOn : GoodIn wsX6_cut (wsV RX6 147 RX0 yX0_layOn wsX0_layOn) := goodIn_app (goodIn_of _ (by decide +kernel)) ggX6_cut_X0_layOn
theorem dX6_cut_0 : decode cX6_cut 0 = .ok (.aload_n 0, 1) := by decide +kernel
theorem dX6_cut_1 : decode cX6_cut 1 = .ok (.getfield 26, 3) := by decide +kernel
theorem dX6_cut_4 : decode cX6_cut 4 = .ok (.getfield 73, 3) := by decide +kernel
theorem dX6_cut_7 : decode cX6_cut 7 = .ok (.ifCond .eq 23, 3) := by decide +kernel
theorem dX6_cut_10 : decode cX6_cut 10 = .ok (.iload_n 1, 1) := by decide +kernel
theorem dX6_cut_11 : decode cX6_cut 11 = .ok (.iconst 1, 1) := by decide +kernel
theorem dX6_cut_12 : decode cX6_cut 12 = .ok (.bipush 8, 2) := by decide +kernel
theorem dX6_cut_14 : decode cX6_cut 14 = .ok (.invokestatic 51, 3) := by decide +kernel
theorem dX6_cut_17 : decode cX6_cut 17 = .ok (.ifCond .eq 13, 3) := by decide +kernel
theorem dX6_cut_20 : decode cX6_cut 20 = .ok (.iload_n 2, 1) := by decide +kernel
theorem dX6_cut_21 : decode cX6_cut 21 = .ok (.iconst 1, 1) := by decide +kernel
theorem dX6_cut_22 : decode cX6_cut 22 = .ok (.bipush 20, 2) := by decide +kernel
theorem dX6_cut_24 : decode cX6_cut 24 = .ok (.invokestatic 51, 3) := by decide +kernel
theorem dX6_cut_27 : decode cX6_cut 27 = .ok (.ifCond .ne 5, 3) := by decide +kernel
theorem dX6_cut_30 : decode cX6_cut 30 = .ok (.iconst (-1), 1) := by decide +kernel
theorem dX6_cut_31 : decode cX6_cut 31 = .ok (.ireturn, 1) := by decide +kernel
theorem dX6_cut_32 : decode cX6_cut 32 = .ok (.aload_n 0, 1) := by decide +kernel
theorem dX6_cut_33 : decode cX6_cut 33 = .ok (.getfield 40, 3) := by decide +kernel
theorem dX6_cut_36 : decode cX6_cut 36 = .ok (.aload_n 0, 1) := by decide +kernel
theorem dX6_cut_37 : decode cX6_cut 37 = .ok (.getfield 26, 3) := by decide +kernel
theorem dX6_cut_40 : decode cX6_cut 40 = .ok (.iload_n 1, 1) := by decide +kernel
theorem dX6_cut_41 : decode cX6_cut 41 = .ok (.iload_n 2, 1) := by decide +kernel
theorem dX6_cut_42 : decode cX6_cut 42 = .ok (.invokevirtual 144, 3) := by decide +kernel
theorem dX6_cut_45 : decode cX6_cut 45 = .ok (.aload_n 0, 1) := by decide +kernel
theorem dX6_cut_46 : decode cX6_cut 46 = .ok (.getfield 40, 3) := by decide +kernel
theorem dX6_cut_49 : decode cX6_cut 49 = .ok (.aload_n 0, 1) := by decide +kernel
theorem dX6_cut_50 : decode cX6_cut 50 = .ok (.getfield 47, 3) := by decide +kernel
theorem dX6_cut_53 : decode cX6_cut 53 = .ok (.invokevirtual 147, 3) := by decide +kernel
theorem dX6_cut_56 : decode cX6_cut 56 = .ok (.aload_n 0, 1) := by decide +kernel
theorem dX6_cut_57 : decode cX6_cut 57 = .ok (.getfield 40, 3) := by decide +kernel
theorem dX6_cut_60 : decode cX6_cut 60 = .ok (.getfield 151, 3) := by decide +kernel
theorem dX6_cut_63 : decode cX6_cut 63 = .ok (.ireturn, 1) := by decide +kernel
set_option maxRecDepth 20000 in
theorem ggX6_bound_X0_stands : GoodIn wsX6_bound wsX0_stands := goodIn_r _ [6, 7, 14, 15, 16, 17, 18, 19, 20, 21, 22, 23, 24, 25, 26, 27, 28] (by decide +kernel) (by decide +kernel)
set_option maxRecDepth 20000 in
theorem gX6_bound_X0_stands : GoodIn wsX6_bound (wsV RX6 154 RX0 yX0_stands wsX0_stands) := goodIn_app (goodIn_of _ (by decide +kernel)) ggX6_bound_X0_stands
theorem dX6_bound_0 : decode cX6_bound 0 = .ok (.aload_n 0, 1) := by decide +kernel
theorem dX6_bound_1 : decode cX6_bound 1 = .ok (.getfield 40, 3) := by decide +kernel
theorem dX6_bound_4 : decode cX6_bound 4 = .ok (.invokevirtual 154, 3) := by decide +kernel
theorem dX6_bound_7 : decode cX6_bound 7 = .ok (.ifCond .eq 13, 3) := by decide +kernel
theorem dX6_bound_10 : decode cX6_bound 10 = .ok (.aload_n 0, 1) := by decide +kernel
theorem dX6_bound_11 : decode cX6_bound 11 = .ok (.getfield 40, 3) := by decide +kernel
theorem dX6_bound_14 : decode cX6_bound 14 = .ok (.getfield 158, 3) := by decide +kernel
theorem dX6_bound_17 : decode cX6_bound 17 = .ok (.goto 4, 3) := by decide +kernel
theorem dX6_bound_20 : decode cX6_bound 20 = .ok (.iconst (-1), 1) := by decide +kernel
theorem dX6_bound_21 : decode cX6_bound 21 = .ok (.ireturn, 1) := by decide +kernel
set_option maxRecDepth 20000 in
theorem ggX6_part_X6_isIn : GoodIn wsX6_part wsX6_isIn := goodIn_r _ [5] (by decide +kernel) (by decide +kernel)
set_option maxRecDepth 20000 in
theorem gX6_part_X6_isIn : GoodIn wsX6_part (va_wsS RX6 51 yX6_isIn wsX6_isIn) := goodIn_app (goodIn_of _ (by decide +kernel)) ggX6_part_X6_isIn
theorem dX6_part_0 : decode cX6_part 0 = .ok (.iload_n 1, 1) := by decide +kernel
theorem dX6_part_1 : decode cX6_part 1 = .ok (.iconst 0, 1) := by decide +kernel
theorem dX6_part_2 : decode cX6_part 2 = .ok (.aload_n 0, 1) := by decide +kernel
theorem dX6_part_3 : decode cX6_part 3 = .ok (.getfield 40, 3) := by decide +kernel
theorem dX6_part_6 : decode cX6_part 6 = .ok (.getfield 161, 3) := by decide +kernel
theorem dX6_part_9 : decode cX6_part 9 = .ok (.iconst 1, 1) := by decide +kernel
theorem dX6_part_10 : decode cX6_part 10 = .ok (.isub, 1) := by decide +kernel
theorem dX6_part_11 : decode cX6_part 11 = .ok (.invokestatic 51, 3) := by decide +kernel
theorem dX6_part_14 : decode cX6_part 14 = .ok (.ifCond .ne 6, 3) := by decide +kernel
theorem dX6_part_17 : decode cX6_part 17 = .ok (.bipush (-2), 2) := by decide +kernel
theorem dX6_part_19 : decode cX6_part 19 = .ok (.ireturn, 1) := by decide +kernel
theorem dX6_part_20 : decode cX6_part 20 = .ok (.iload_n 2, 1) := by decide +kernel
theorem dX6_part_21 : decode cX6_part 21 = .ok (.tableswitch 71 0 3 #[31, 41, 51, 61], 31) := by decide +kernel
theorem dX6_part_52 : decode cX6_part 52 = .ok (.aload_n 0, 1) := by decide +kernel
theorem dX6_part_53 : decode cX6_part 53 = .ok (.getfield 40, 3) := by decide +kernel
theorem dX6_part_56 : decode cX6_part 56 = .ok (.getfield 164, 3) := by decide +kernel
theorem dX6_part_59 : decode cX6_part 59 = .ok (.iload_n 1, 1) := by decide +kernel
theorem dX6_part_60 : decode cX6_part 60 = .ok (.iaload, 1) := by decide +kernel
theorem dX6_part_61 : decode cX6_part 61 = .ok (.ireturn, 1) := by decide +kernel
theorem dX6_part_62 : decode cX6_part 62 = .ok (.aload_n 0, 1) := by decide +kernel
theorem dX6_part_63 : decode cX6_part 63 = .ok (.getfield 40, 3) := by decide +kernel
theorem dX6_part_66 : decode cX6_part 66 = .ok (.getfield 167, 3) := by decide +kernel
theorem dX6_part_69 : decode cX6_part 69 = .ok (.iload_n 1, 1) := by decide +kernel
theorem dX6_part_70 : decode cX6_part 70 = .ok (.iaload, 1) := by decide +kernel
theorem dX6_part_71 : decode cX6_part 71 = .ok (.ireturn, 1) := by decide +kernel
theorem dX6_part_72 : decode cX6_part 72 = .ok (.aload_n 0, 1) := by decide +kernel
theorem dX6_part_73 : decode cX6_part 73 = .ok (.getfield 40, 3) := by decide +kernel
theorem dX6_part_76 : decode cX6_part 76 = .ok (.getfield 170, 3) := by decide +kernel
theorem dX6_part_79 : decode cX6_part 79 = .ok (.iload_n 1, 1) := by decide +kernel
theorem dX6_part_80 : decode cX6_part 80 = .ok (.iaload, 1) := by decide +kernel
theorem dX6_part_81 : decode cX6_part 81 = .ok (.ireturn, 1) := by decide +kernel
theorem dX6_part_82 : decode cX6_part 82 = .ok (.aload_n 0, 1) := by decide +kernel
theorem dX6_part_83 : decode cX6_part 83 = .ok (.getfield 40, 3) := by decide +kernel
theorem dX6_part_86 : decode cX6_part 86 = .ok (.getfield 173, 3) := by decide +kernel
theorem dX6_part_89 : decode cX6_part 89 = .ok (.iload_n 1, 1) := by decide +kernel
theorem dX6_part_90 : decode cX6_part 90 = .ok (.iaload, 1) := by decide +kernel
theorem dX6_part_91 : decode cX6_part 91 = .ok (.ireturn, 1) := by decide +kernel
theorem dX6_part_92 : decode cX6_part 92 = .ok (.bipush (-2), 2) := by decide +kernel
theorem dX6_part_94 : decode cX6_part 94 = .ok (.ireturn, 1) := by decide +kernel
set_option maxRecDepth 20000 in
theorem ggX6_pace_X6_isHost : GoodIn wsX6_pace wsX6_isHost := goodIn_r _ [5, 6, 7, 4, 8] (by decide +kernel) (by decide +kernel)
set_option maxRecDepth 20000 in
theorem gX6_pace_X6_isHost : GoodIn wsX6_pace (va_wsS RX6 176 yX6_isHost wsX6_isHost) := goodIn_app (goodIn_of _ (by decide +kernel)) ggX6_pace_X6_isHost
set_option maxRecDepth 20000 in
theorem ggX6_pace_X6_isIn : GoodIn wsX6_pace wsX6_isIn := goodIn_r _ [8] (by decide +kernel) (by decide +kernel)
set_option maxRecDepth 20000 in
theorem gX6_pace_X6_isIn : GoodIn wsX6_pace (va_wsS RX6 51 yX6_isIn wsX6_isIn) := goodIn_app (goodIn_of _ (by decide +kernel)) ggX6_pace_X6_isIn
theorem dX6_pace_0 : decode cX6_pace 0 = .ok (.iload_n 1, 1) := by decide +kernel
theorem dX6_pace_1 : decode cX6_pace 1 = .ok (.invokestatic 176, 3) := by decide +kernel
theorem dX6_pace_4 : decode cX6_pace 4 = .ok (.ifCond .eq 13, 3) := by decide +kernel
theorem dX6_pace_7 : decode cX6_pace 7 = .ok (.iload_n 2, 1) := by decide +kernel
theorem dX6_pace_8 : decode cX6_pace 8 = .ok (.iconst 0, 1) := by decide +kernel
theorem dX6_pace_9 : decode cX6_pace 9 = .ok (.bipush 50, 2) := by decide +kernel
theorem dX6_pace_11 : decode cX6_pace 11 = .ok (.invokestatic 51, 3) := by decide +kernel
theorem dX6_pace_14 : decode cX6_pace 14 = .ok (.ifCond .ne 5, 3) := by decide +kernel
theorem dX6_pace_17 : decode cX6_pace 17 = .ok (.iconst 0, 1) := by decide +kernel
theorem dX6_pace_18 : decode cX6_pace 18 = .ok (.ireturn, 1) := by decide +kernel
theorem dX6_pace_19 : decode cX6_pace 19 = .ok (.aload_n 0, 1) := by decide +kernel
theorem dX6_pace_20 : decode cX6_pace 20 = .ok (.getfield 47, 3) := by decide +kernel
theorem dX6_pace_23 : decode cX6_pace 23 = .ok (.getfield 179, 3) := by decide +kernel
theorem dX6_pace_26 : decode cX6_pace 26 = .ok (.iload_n 1, 1) := by decide +kernel
theorem dX6_pace_27 : decode cX6_pace 27 = .ok (.iload_n 2, 1) := by decide +kernel
theorem dX6_pace_28 : decode cX6_pace 28 = .ok (.iastore, 1) := by decide +kernel
theorem dX6_pace_29 : decode cX6_pace 29 = .ok (.iconst 1, 1) := by decide +kernel
theorem dX6_pace_30 : decode cX6_pace 30 = .ok (.ireturn, 1) := by decide +kernel
set_option maxRecDepth 20000 in
theorem ggX6_fall_X6_isHost : GoodIn wsX6_fall wsX6_isHost := goodIn_r _ [6, 7, 8, 5, 9] (by decide +kernel) (by decide +kernel)
set_option maxRecDepth 20000 in
theorem gX6_fall_X6_isHost : GoodIn wsX6_fall (va_wsS RX6 176 yX6_isHost wsX6_isHost) := goodIn_app (goodIn_of _ (by decide +kernel)) ggX6_fall_X6_isHost
set_option maxRecDepth 20000 in
theorem ggX6_fall_X0_moveFrom : GoodIn wsX6_fall wsX0_moveFrom := goodIn_r _ [14, 15, 16, 17, 18, 19, 13, 20, 21, 22, 23, 24, 25, 26, 27, 28, 29, 30, 31, 40, 41, 42, 43, 44, 45, 46, 47, 48, 49, 50, 51, 52, 53, 54, 38, 39] (by decide +kernel) (by decide +kernel)
set_option maxRecDepth 20000 in
theorem gX6_fall_X0_moveFrom : GoodIn wsX6_fall (wsV RX6 185 RX0 yX0_moveFrom wsX0_moveFrom) := goodIn_app (goodIn_of _ (by decide +kernel)) ggX6_fall_X0_moveFrom
theorem dX6_fall_0 : decode cX6_fall 0 = .ok (.iload_n 1, 1) := by decide +kernel
theorem dX6_fall_1 : decode cX6_fall 1 = .ok (.invokestatic 176, 3) := by decide +kernel
theorem dX6_fall_4 : decode cX6_fall 4 = .ok (.ifCond .eq 15, 3) := by decide +kernel
theorem dX6_fall_7 : decode cX6_fall 7 = .ok (.aload_n 0, 1) := by decide +kernel
theorem dX6_fall_8 : decode cX6_fall 8 = .ok (.getfield 47, 3) := by decide +kernel
theorem dX6_fall_11 : decode cX6_fall 11 = .ok (.getfield 182, 3) := by decide +kernel
theorem dX6_fall_14 : decode cX6_fall 14 = .ok (.iload_n 1, 1) := by decide +kernel
theorem dX6_fall_15 : decode cX6_fall 15 = .ok (.baload, 1) := by decide +kernel
theorem dX6_fall_16 : decode cX6_fall 16 = .ok (.ifCond .ne 5, 3) := by decide +kernel
theorem dX6_fall_19 : decode cX6_fall 19 = .ok (.iconst (-1), 1) := by decide +kernel
theorem dX6_fall_20 : decode cX6_fall 20 = .ok (.ireturn, 1) := by decide +kernel
theorem dX6_fall_21 : decode cX6_fall 21 = .ok (.aload_n 0, 1) := by decide +kernel
theorem dX6_fall_22 : decode cX6_fall 22 = .ok (.getfield 47, 3) := by decide +kernel
theorem dX6_fall_25 : decode cX6_fall 25 = .ok (.getfield 182, 3) := by decide +kernel
theorem dX6_fall_28 : decode cX6_fall 28 = .ok (.iload_n 1, 1) := by decide +kernel
theorem dX6_fall_29 : decode cX6_fall 29 = .ok (.iconst 0, 1) := by decide +kernel
theorem dX6_fall_30 : decode cX6_fall 30 = .ok (.bastore, 1) := by decide +kernel
theorem dX6_fall_31 : decode cX6_fall 31 = .ok (.aload_n 0, 1) := by decide +kernel
theorem dX6_fall_32 : decode cX6_fall 32 = .ok (.getfield 40, 3) := by decide +kernel
theorem dX6_fall_35 : decode cX6_fall 35 = .ok (.iload_n 1, 1) := by decide +kernel
theorem dX6_fall_36 : decode cX6_fall 36 = .ok (.aload_n 0, 1) := by decide +kernel
theorem dX6_fall_37 : decode cX6_fall 37 = .ok (.getfield 47, 3) := by decide +kernel
theorem dX6_fall_40 : decode cX6_fall 40 = .ok (.invokevirtual 185, 3) := by decide +kernel
theorem dX6_fall_43 : decode cX6_fall 43 = .ok (.ireturn, 1) := by decide +kernel
set_option maxRecDepth 20000 in
theorem ggX6_rise_X6_isHost : GoodIn wsX6_rise wsX6_isHost := goodIn_r _ [6, 7, 8, 5, 9] (by decide +kernel) (by decide +kernel)
set_option maxRecDepth 20000 in
theorem gX6_rise_X6_isHost : GoodIn wsX6_rise (va_wsS RX6 176 yX6_isHost wsX6_isHost) := goodIn_app (goodIn_of _ (by decide +kernel)) ggX6_rise_X6_isHost
set_option maxRecDepth 20000 in
theorem ggX6_rise_X0_bringTo : GoodIn wsX6_rise wsX0_bringTo := goodIn_r _ [14, 15, 16, 25, 26, 27, 28, 29, 30, 31, 32, 33, 34, 35, 36, 37, 38, 39] (by decide +kernel) (by decide +kernel)
set_option maxRecDepth 20000 in
theorem gX6_rise_X0_bringTo : GoodIn wsX6_rise (wsV RX6 189 RX0 yX0_bringTo wsX0_bringTo) := goodIn_app (goodIn_of _ (by decide +kernel)) ggX6_rise_X0_bringTo
theorem dX6_rise_0 : decode cX6_rise 0 = .ok (.iload_n 1, 1) := by decide +kernel
theorem dX6_rise_1 : decode cX6_rise 1 = .ok (.invokestatic 176, 3) := by decide +kernel
theorem dX6_rise_4 : decode cX6_rise 4 = .ok (.ifCond .eq 15, 3) := by decide +kernel
theorem dX6_rise_7 : decode cX6_rise 7 = .ok (.aload_n 0, 1) := by decide +kernel
theorem dX6_rise_8 : decode cX6_rise 8 = .ok (.getfield 47, 3) := by decide +kernel
theorem dX6_rise_11 : decode cX6_rise 11 = .ok (.getfield 182, 3) := by decide +kernel
theorem dX6_rise_14 : decode cX6_rise 14 = .ok (.iload_n 1, 1) := by decide +kernel
theorem dX6_rise_15 : decode cX6_rise 15 = .ok (.baload, 1) := by decide +kernel
theorem dX6_rise_16 : decode cX6_rise 16 = .ok (.ifCond .eq 5, 3) := by decide +kernel
theorem dX6_rise_19 : decode cX6_rise 19 = .ok (.iconst (-1), 1) := by decide +kernel
theorem dX6_rise_20 : decode cX6_rise 20 = .ok (.ireturn, 1) := by decide +kernel
theorem dX6_rise_21 : decode cX6_rise 21 = .ok (.aload_n 0, 1) := by decide +kernel
theorem dX6_rise_22 : decode cX6_rise 22 = .ok (.getfield 47, 3) := by decide +kernel
theorem dX6_rise_25 : decode cX6_rise 25 = .ok (.getfield 182, 3) := by decide +kernel
theorem dX6_rise_28 : decode cX6_rise 28 = .ok (.iload_n 1, 1) := by decide +kernel
theorem dX6_rise_29 : decode cX6_rise 29 = .ok (.iconst 1, 1) := by decide +kernel
theorem dX6_rise_30 : decode cX6_rise 30 = .ok (.bastore, 1) := by decide +kernel
theorem dX6_rise_31 : decode cX6_rise 31 = .ok (.aload_n 0, 1) := by decide +kernel
theorem dX6_rise_32 : decode cX6_rise 32 = .ok (.getfield 40, 3) := by decide +kernel
theorem dX6_rise_35 : decode cX6_rise 35 = .ok (.iload_n 1, 1) := by decide +kernel
theorem dX6_rise_36 : decode cX6_rise 36 = .ok (.invokevirtual 189, 3) := by decide +kernel
theorem dX6_rise_39 : decode cX6_rise 39 = .ok (.ireturn, 1) := by decide +kernel
set_option maxRecDepth 20000 in
theorem ggX6_host_X6_isHost : GoodIn wsX6_host wsX6_isHost := goodIn_r _ [6, 7, 8, 5, 9] (by decide +kernel) (by decide +kernel)
set_option maxRecDepth 20000 in
theorem gX6_host_X6_isHost : GoodIn wsX6_host (va_wsS RX6 176 yX6_isHost wsX6_isHost) := goodIn_app (goodIn_of _ (by decide +kernel)) ggX6_host_X6_isHost
set_option maxRecDepth 20000 in
theorem ggX6_host_X0_partsOn : GoodIn wsX6_host wsX0_partsOn := goodIn_r _ [14, 15, 16, 31, 32, 33, 34, 35, 36, 37, 38, 39, 40, 41, 42, 43, 44, 45] (by decide +kernel) (by decide +kernel)
set_option maxRecDepth 20000 in
theorem gX6_host_X0_partsOn : GoodIn wsX6_host (wsV RX6 192 RX0 yX0_partsOn wsX0_partsOn) := goodIn_app (goodIn_of _ (by decide +kernel)) ggX6_host_X0_partsOn
set_option maxRecDepth 20000 in
theorem ggX6_host_X0_leftOn : GoodIn wsX6_host wsX0_leftOn := goodIn_r _ [20, 15, 16, 21, 22, 31, 32, 33, 34, 35, 36, 37, 38, 39, 40, 41, 42, 43, 44, 45] (by decide +kernel) (by decide +kernel)
set_option maxRecDepth 20000 in
theorem gX6_host_X0_leftOn : GoodIn wsX6_host (wsV RX6 195 RX0 yX0_leftOn wsX0_leftOn) := goodIn_app (goodIn_of _ (by decide +kernel)) ggX6_host_X0_leftOn
theorem dX6_host_0 : decode cX6_host 0 = .ok (.iload_n 1, 1) := by decide +kernel
theorem dX6_host_1 : decode cX6_host 1 = .ok (.invokestatic 176, 3) := by decide +kernel
theorem dX6_host_4 : decode cX6_host 4 = .ok (.ifCond .ne 5, 3) := by decide +kernel
theorem dX6_host_7 : decode cX6_host 7 = .ok (.iconst (-1), 1) := by decide +kernel
theorem dX6_host_8 : decode cX6_host 8 = .ok (.ireturn, 1) := by decide +kernel
theorem dX6_host_9 : decode cX6_host 9 = .ok (.iload_n 2, 1) := by decide +kernel
theorem dX6_host_10 : decode cX6_host 10 = .ok (.tableswitch 90 0 4 #[34, 44, 62, 71, 80], 34) := by decide +kernel
theorem dX6_host_44 : decode cX6_host 44 = .ok (.aload_n 0, 1) := by decide +kernel
theorem dX6_host_45 : decode cX6_host 45 = .ok (.getfield 47, 3) := by decide +kernel
theorem dX6_host_48 : decode cX6_host 48 = .ok (.getfield 179, 3) := by decide +kernel
theorem dX6_host_51 : decode cX6_host 51 = .ok (.iload_n 1, 1) := by decide +kernel
theorem dX6_host_52 : decode cX6_host 52 = .ok (.iaload, 1) := by decide +kernel
theorem dX6_host_53 : decode cX6_host 53 = .ok (.ireturn, 1) := by decide +kernel
theorem dX6_host_54 : decode cX6_host 54 = .ok (.aload_n 0, 1) := by decide +kernel
theorem dX6_host_55 : decode cX6_host 55 = .ok (.getfield 47, 3) := by decide +kernel
theorem dX6_host_58 : decode cX6_host 58 = .ok (.getfield 182, 3) := by decide +kernel
theorem dX6_host_61 : decode cX6_host 61 = .ok (.iload_n 1, 1) := by decide +kernel
theorem dX6_host_62 : decode cX6_host 62 = .ok (.baload, 1) := by decide +kernel
theorem dX6_host_63 : decode cX6_host 63 = .ok (.ifCond .eq 7, 3) := by decide +kernel
theorem dX6_host_66 : decode cX6_host 66 = .ok (.iconst 1, 1) := by decide +kernel
theorem dX6_host_67 : decode cX6_host 67 = .ok (.goto 4, 3) := by decide +kernel
theorem dX6_host_70 : decode cX6_host 70 = .ok (.iconst 0, 1) := by decide +kernel
theorem dX6_host_71 : decode cX6_host 71 = .ok (.ireturn, 1) := by decide +kernel
theorem dX6_host_72 : decode cX6_host 72 = .ok (.aload_n 0, 1) := by decide +kernel
theorem dX6_host_73 : decode cX6_host 73 = .ok (.getfield 40, 3) := by decide +kernel
theorem dX6_host_76 : decode cX6_host 76 = .ok (.iload_n 1, 1) := by decide +kernel
theorem dX6_host_77 : decode cX6_host 77 = .ok (.invokevirtual 192, 3) := by decide +kernel
theorem dX6_host_80 : decode cX6_host 80 = .ok (.ireturn, 1) := by decide +kernel
theorem dX6_host_81 : decode cX6_host 81 = .ok (.aload_n 0, 1) := by decide +kernel
theorem dX6_host_82 : decode cX6_host 82 = .ok (.getfield 40, 3) := by decide +kernel
theorem dX6_host_85 : decode cX6_host 85 = .ok (.iload_n 1, 1) := by decide +kernel
theorem dX6_host_86 : decode cX6_host 86 = .ok (.invokevirtual 195, 3) := by decide +kernel
theorem dX6_host_89 : decode cX6_host 89 = .ok (.ireturn, 1) := by decide +kernel
theorem dX6_host_90 : decode cX6_host 90 = .ok (.aload_n 0, 1) := by decide +kernel
theorem dX6_host_91 : decode cX6_host 91 = .ok (.getfield 40, 3) := by decide +kernel
theorem dX6_host_94 : decode cX6_host 94 = .ok (.getfield 198, 3) := by decide +kernel
theorem dX6_host_97 : decode cX6_host 97 = .ok (.iload_n 1, 1) := by decide +kernel
theorem dX6_host_98 : decode cX6_host 98 = .ok (.iaload, 1) := by decide +kernel
theorem dX6_host_99 : decode cX6_host 99 = .ok (.ireturn, 1) := by decide +kernel
theorem dX6_host_100 : decode cX6_host 100 = .ok (.iconst (-1), 1) := by decide +kernel
theorem dX6_host_101 : decode cX6_host 101 = .ok (.ireturn, 1) := by decide +kernel
set_option maxRecDepth 20000 in
theorem ggX6_tick_X0_stands : GoodIn wsX6_tick wsX0_stands := goodIn_r _ [7, 8, 43, 44, 45, 46, 47, 48, 49, 50, 51, 52, 53, 54, 55, 56, 57] (by decide +kernel) (by decide +kernel)
set_option maxRecDepth 20000 in
theorem gX6_tick_X0_stands : GoodIn wsX6_tick (wsV RX6 154 RX0 yX0_stands wsX0_stands) := goodIn_app (goodIn_of _ (by decide +kernel)) ggX6_tick_X0_stands
set_option maxRecDepth 20000 in
theorem ggX6_tick_X0_goOn : GoodIn wsX6_tick wsX0_goOn := goodIn_r _ [12, 13, 14, 15, 16, 17, 6, 18, 8, 19, 20, 21, 22, 23, 24, 25, 26, 27, 28, 29, 30, 31, 32, 33, 34, 35, 36, 43, 44, 45, 46, 47, 48, 49, 50, 51, 52, 53, 54, 55, 56, 57, 58, 59] (by decide +kernel) (by decide +kernel)
set_option maxRecDepth 20000 in
theorem gX6_tick_X0_goOn : GoodIn wsX6_tick (wsV RX6 201 RX0 yX0_goOn wsX0_goOn) := goodIn_app (goodIn_of _ (by decide +kernel)) ggX6_tick_X0_goOn
theorem dX6_tick_0 : decode cX6_tick 0 = .ok (.aload_n 0, 1) := by decide +kernel
theorem dX6_tick_1 : decode cX6_tick 1 = .ok (.getfield 40, 3) := by decide +kernel
theorem dX6_tick_4 : decode cX6_tick 4 = .ok (.invokevirtual 154, 3) := by decide +kernel
theorem dX6_tick_7 : decode cX6_tick 7 = .ok (.ifCond .eq 17, 3) := by decide +kernel
theorem dX6_tick_10 : decode cX6_tick 10 = .ok (.aload_n 0, 1) := by decide +kernel
theorem dX6_tick_11 : decode cX6_tick 11 = .ok (.getfield 40, 3) := by decide +kernel
theorem dX6_tick_14 : decode cX6_tick 14 = .ok (.aload_n 0, 1) := by decide +kernel
theorem dX6_tick_15 : decode cX6_tick 15 = .ok (.getfield 47, 3) := by decide +kernel
theorem dX6_tick_18 : decode cX6_tick 18 = .ok (.invokevirtual 201, 3) := by decide +kernel
theorem dX6_tick_21 : decode cX6_tick 21 = .ok (.goto 4, 3) := by decide +kernel
theorem dX6_tick_24 : decode cX6_tick 24 = .ok (.iconst (-1), 1) := by decide +kernel
theorem dX6_tick_25 : decode cX6_tick 25 = .ok (.ireturn, 1) := by decide +kernel
set_option maxRecDepth 20000 in
theorem ggX6_work_X0_stands : GoodIn wsX6_work wsX0_stands := goodIn_r _ [6, 7, 25, 26, 27, 28, 29, 30, 31, 32, 33, 34, 35, 36, 37, 38, 39] (by decide +kernel) (by decide +kernel)
set_option maxRecDepth 20000 in
theorem gX6_work_X0_stands : GoodIn wsX6_work (wsV RX6 154 RX0 yX0_stands wsX0_stands) := goodIn_app (goodIn_of _ (by decide +kernel)) ggX6_work_X0_stands
set_option maxRecDepth 20000 in
theorem ggX6_work_X0_partsDone : GoodIn wsX6_work wsX0_partsDone := goodIn_r _ [11, 7, 12, 25, 26, 27, 28, 29, 30, 31, 32, 33, 34, 35, 36, 37, 38, 39] (by decide +kernel) (by decide +kernel)
set_option maxRecDepth 20000 in
theorem gX6_work_X0_partsDone : GoodIn wsX6_work (wsV RX6 214 RX0 yX0_partsDone wsX0_partsDone) := goodIn_app (goodIn_of _ (by decide +kernel)) ggX6_work_X0_partsDone
set_option maxRecDepth 20000 in
theorem ggX6_work_X0_isAtEnd : GoodIn wsX6_work wsX0_isAtEnd := goodIn_r _ [16, 7, 17, 3, 4, 5, 6, 18, 9, 10, 11, 12, 25, 26, 27, 28, 29, 30, 31, 32, 33, 34, 35, 36, 37, 38, 39] (by decide +kernel) (by decide +kernel)
set_option maxRecDepth 20000 in
theorem gX6_work_X0_isAtEnd : GoodIn wsX6_work (wsV RX6 218 RX0 yX0_isAtEnd wsX0_isAtEnd) := goodIn_app (goodIn_of _ (by decide +kernel)) ggX6_work_X0_isAtEnd
theorem dX6_work_0 : decode cX6_work 0 = .ok (.aload_n 0, 1) := by decide +kernel
theorem dX6_work_1 : decode cX6_work 1 = .ok (.getfield 40, 3) := by decide +kernel
theorem dX6_work_4 : decode cX6_work 4 = .ok (.invokevirtual 154, 3) := by decide +kernel
theorem dX6_work_7 : decode cX6_work 7 = .ok (.ifCond .ne 5, 3) := by decide +kernel
theorem dX6_work_10 : decode cX6_work 10 = .ok (.iconst (-1), 1) := by decide +kernel
theorem dX6_work_11 : decode cX6_work 11 = .ok (.ireturn, 1) := by decide +kernel
theorem dX6_work_12 : decode cX6_work 12 = .ok (.iload_n 1, 1) := by decide +kernel
theorem dX6_work_13 : decode cX6_work 13 = .ok (.tableswitch 83 0 4 #[35, 43, 51, 59, 67], 35) := by decide +kernel
theorem dX6_work_48 : decode cX6_work 48 = .ok (.aload_n 0, 1) := by decide +kernel
theorem dX6_work_49 : decode cX6_work 49 = .ok (.getfield 40, 3) := by decide +kernel
theorem dX6_work_52 : decode cX6_work 52 = .ok (.getfield 205, 3) := by decide +kernel
theorem dX6_work_55 : decode cX6_work 55 = .ok (.ireturn, 1) := by decide +kernel
theorem dX6_work_56 : decode cX6_work 56 = .ok (.aload_n 0, 1) := by decide +kernel
theorem dX6_work_57 : decode cX6_work 57 = .ok (.getfield 40, 3) := by decide +kernel
theorem dX6_work_60 : decode cX6_work 60 = .ok (.getfield 208, 3) := by decide +kernel
theorem dX6_work_63 : decode cX6_work 63 = .ok (.ireturn, 1) := by decide +kernel
theorem dX6_work_64 : decode cX6_work 64 = .ok (.aload_n 0, 1) := by decide +kernel
theorem dX6_work_65 : decode cX6_work 65 = .ok (.getfield 40, 3) := by decide +kernel
theorem dX6_work_68 : decode cX6_work 68 = .ok (.getfield 211, 3) := by decide +kernel
theorem dX6_work_71 : decode cX6_work 71 = .ok (.ireturn, 1) := by decide +kernel
theorem dX6_work_72 : decode cX6_work 72 = .ok (.aload_n 0, 1) := by decide +kernel
theorem dX6_work_73 : decode cX6_work 73 = .ok (.getfield 40, 3) := by decide +kernel
theorem dX6_work_76 : decode cX6_work 76 = .ok (.invokevirtual 214, 3) := by decide +kernel
theorem dX6_work_79 : decode cX6_work 79 = .ok (.ireturn, 1) := by decide +kernel
theorem dX6_work_80 : decode cX6_work 80 = .ok (.aload_n 0, 1) := by decide +kernel
theorem dX6_work_81 : decode cX6_work 81 = .ok (.getfield 40, 3) := by decide +kernel
theorem dX6_work_84 : decode cX6_work 84 = .ok (.invokevirtual 218, 3) := by decide +kernel
theorem dX6_work_87 : decode cX6_work 87 = .ok (.ifCond .eq 7, 3) := by decide +kernel
theorem dX6_work_90 : decode cX6_work 90 = .ok (.iconst 1, 1) := by decide +kernel
theorem dX6_work_91 : decode cX6_work 91 = .ok (.goto 4, 3) := by decide +kernel
theorem dX6_work_94 : decode cX6_work 94 = .ok (.iconst 0, 1) := by decide +kernel
theorem dX6_work_95 : decode cX6_work 95 = .ok (.ireturn, 1) := by decide +kernel
theorem dX6_work_96 : decode cX6_work 96 = .ok (.iconst (-1), 1) := by decide +kernel
theorem dX6_work_97 : decode cX6_work 97 = .ok (.ireturn, 1) := by decide +kernel
set_option maxRecDepth 20000 in
theorem ggX6_end_X0_isAtEnd : GoodIn wsX6_end wsX0_isAtEnd := goodIn_r _ [7, 8, 9, 10, 11, 6, 12, 13, 14, 15, 16, 17, 34, 35, 36, 37, 38, 39, 40, 41, 42, 43, 44, 45, 46, 47, 48] (by decide +kernel) (by decide +kernel)
set_option maxRecDepth 20000 in
theorem gX6_end_X0_isAtEnd : GoodIn wsX6_end (wsV RX6 218 RX0 yX0_isAtEnd wsX0_isAtEnd) := goodIn_app (goodIn_of _ (by decide +kernel)) ggX6_end_X0_isAtEnd
set_option maxRecDepth 20000 in
theorem ggX6_end_X5_rowInOrder : GoodIn wsX6_end wsX5_rowInOrder := goodIn_r _ [22, 23, 24, 25, 26, 27, 49, 50, 51, 52, 53, 54, 55, 56, 57, 58] (by decide +kernel) (by decide +kernel)
set_option maxRecDepth 20000 in
theorem gX6_end_X5_rowInOrder : GoodIn wsX6_end (wsV RX6 221 RX5 yX5_rowInOrder wsX5_rowInOrder) := goodIn_app (goodIn_of _ (by decide +kernel)) ggX6_end_X5_rowInOrder
theorem dX6_end_0 : decode cX6_end 0 = .ok (.aload_n 0, 1) := by decide +kernel
theorem dX6_end_1 : decode cX6_end 1 = .ok (.getfield 40, 3) := by decide +kernel
theorem dX6_end_4 : decode cX6_end 4 = .ok (.invokevirtual 218, 3) := by decide +kernel
theorem dX6_end_7 : decode cX6_end 7 = .ok (.ifCond .eq 14, 3) := by decide +kernel
theorem dX6_end_10 : decode cX6_end 10 = .ok (.aload_n 0, 1) := by decide +kernel
theorem dX6_end_11 : decode cX6_end 11 = .ok (.getfield 26, 3) := by decide +kernel
theorem dX6_end_14 : decode cX6_end 14 = .ok (.iload_n 1, 1) := by decide +kernel
theorem dX6_end_15 : decode cX6_end 15 = .ok (.invokevirtual 221, 3) := by decide +kernel
theorem dX6_end_18 : decode cX6_end 18 = .ok (.goto 4, 3) := by decide +kernel
theorem dX6_end_21 : decode cX6_end 21 = .ok (.iconst (-1), 1) := by decide +kernel
theorem dX6_end_22 : decode cX6_end 22 = .ok (.ireturn, 1) := by decide +kernel
theorem dX6_count_0 : decode cX6_count 0 = .ok (.iload_n 1, 1) := by decide +kernel
theorem dX6_count_1 : decode cX6_count 1 = .ok (.tableswitch 63 0 3 #[31, 39, 47, 55], 31) := by decide +kernel
theorem dX6_count_32 : decode cX6_count 32 = .ok (.aload_n 0, 1) := by decide +kernel
theorem dX6_count_33 : decode cX6_count 33 = .ok (.getfield 12, 3) := by decide +kernel
theorem dX6_count_36 : decode cX6_count 36 = .ok (.getfield 65, 3) := by decide +kernel
theorem dX6_count_39 : decode cX6_count 39 = .ok (.ireturn, 1) := by decide +kernel
theorem dX6_count_40 : decode cX6_count 40 = .ok (.aload_n 0, 1) := by decide +kernel
theorem dX6_count_41 : decode cX6_count 41 = .ok (.getfield 26, 3) := by decide +kernel
theorem dX6_count_44 : decode cX6_count 44 = .ok (.getfield 73, 3) := by decide +kernel
theorem dX6_count_47 : decode cX6_count 47 = .ok (.ireturn, 1) := by decide +kernel
theorem dX6_count_48 : decode cX6_count 48 = .ok (.aload_n 0, 1) := by decide +kernel
theorem dX6_count_49 : decode cX6_count 49 = .ok (.getfield 40, 3) := by decide +kernel
theorem dX6_count_52 : decode cX6_count 52 = .ok (.getfield 151, 3) := by decide +kernel
theorem dX6_count_55 : decode cX6_count 55 = .ok (.ireturn, 1) := by decide +kernel
theorem dX6_count_56 : decode cX6_count 56 = .ok (.aload_n 0, 1) := by decide +kernel
theorem dX6_count_57 : decode cX6_count 57 = .ok (.getfield 40, 3) := by decide +kernel
theorem dX6_count_60 : decode cX6_count 60 = .ok (.getfield 161, 3) := by decide +kernel
theorem dX6_count_63 : decode cX6_count 63 = .ok (.ireturn, 1) := by decide +kernel
theorem dX6_count_64 : decode cX6_count 64 = .ok (.iconst (-1), 1) := by decide +kernel
theorem dX6_count_65 : decode cX6_count 65 = .ok (.ireturn, 1) := by decide +kernel
set_option maxRecDepth 20000 in
theorem ggX6_forgetRuns_X5_forget : GoodIn wsX6_forgetRuns wsX5_forget := goodIn_r _ [8, 9, 10, 11, 12, 38, 39, 40, 41, 42, 43, 44, 45, 46, 47] (by decide +kernel) (by decide +kernel)
set_option maxRecDepth 20000 in
theorem gX6_forgetRuns_X5_forget : GoodIn wsX6_forgetRuns (wsV RX6 224 RX5 yX5_forget wsX5_forget) := goodIn_app (goodIn_of _ (by decide +kernel)) ggX6_forgetRuns_X5_forget
set_option maxRecDepth 20000 in
theorem ggX6_forgetRuns_X3_forget : GoodIn wsX6_forgetRuns wsX3_forget := goodIn_r _ [17, 18, 19, 48, 49, 50, 51, 52] (by decide +kernel) (by decide +kernel)
set_option maxRecDepth 20000 in
theorem gX6_forgetRuns_X3_forget : GoodIn wsX6_forgetRuns (wsV RX6 227 RX3 yX3_forget wsX3_forget) := goodIn_app (goodIn_of _ (by decide +kernel)) ggX6_forgetRuns_X3_forget
set_option maxRecDepth 20000 in
theorem ggX6_forgetRuns_X0_forget : GoodIn wsX6_forgetRuns wsX0_forget := goodIn_r _ [24, 25, 26, 27, 28, 29, 30, 31, 53, 54, 55, 56, 57, 58, 59, 60, 61, 62, 63, 64, 65, 66, 67] (by decide +kernel) (by decide +kernel)
set_option maxRecDepth 20000 in
theorem gX6_forgetRuns_X0_forget : GoodIn wsX6_forgetRuns (wsV RX6 228 RX0 yX0_forget wsX0_forget) := goodIn_app (goodIn_of _ (by decide +kernel)) ggX6_forgetRuns_X0_forget
theorem dX6_forgetRuns_0 : decode cX6_forgetRuns 0 = .ok (.aload_n 0, 1) := by decide +kernel
theorem dX6_forgetRuns_1 : decode cX6_forgetRuns 1 = .ok (.getfield 26, 3) := by decide +kernel
theorem dX6_forgetRuns_4 : decode cX6_forgetRuns 4 = .ok (.invokevirtual 224, 3) := by decide +kernel
theorem dX6_forgetRuns_7 : decode cX6_forgetRuns 7 = .ok (.aload_n 0, 1) := by decide +kernel
theorem dX6_forgetRuns_8 : decode cX6_forgetRuns 8 = .ok (.getfield 33, 3) := by decide +kernel
theorem dX6_forgetRuns_11 : decode cX6_forgetRuns 11 = .ok (.invokevirtual 227, 3) := by decide +kernel
theorem dX6_forgetRuns_14 : decode cX6_forgetRuns 14 = .ok (.aload_n 0, 1) := by decide +kernel
theorem dX6_forgetRuns_15 : decode cX6_forgetRuns 15 = .ok (.getfield 40, 3) := by decide +kernel
theorem dX6_forgetRuns_18 : decode cX6_forgetRuns 18 = .ok (.invokevirtual 228, 3) := by decide +kernel
theorem dX6_forgetRuns_21 : decode cX6_forgetRuns 21 = .ok (.return_, 1) := by decide +kernel
theorem dX6_isIn_0 : decode cX6_isIn 0 = .ok (.iload_n 0, 1) := by decide +kernel
theorem dX6_isIn_1 : decode cX6_isIn 1 = .ok (.iload_n 1, 1) := by decide +kernel
theorem dX6_isIn_2 : decode cX6_isIn 2 = .ok (.if_icmp .lt 12, 3) := by decide +kernel
theorem dX6_isIn_5 : decode cX6_isIn 5 = .ok (.iload_n 0, 1) := by decide +kernel
theorem dX6_isIn_6 : decode cX6_isIn 6 = .ok (.iload_n 2, 1) := by decide +kernel
theorem dX6_isIn_7 : decode cX6_isIn 7 = .ok (.if_icmp .gt 7, 3) := by decide +kernel
theorem dX6_isIn_10 : decode cX6_isIn 10 = .ok (.iconst 1, 1) := by decide +kernel
theorem dX6_isIn_11 : decode cX6_isIn 11 = .ok (.goto 4, 3) := by decide +kernel
theorem dX6_isIn_14 : decode cX6_isIn 14 = .ok (.iconst 0, 1) := by decide +kernel
theorem dX6_isIn_15 : decode cX6_isIn 15 = .ok (.ireturn, 1) := by decide +kernel
set_option maxRecDepth 20000 in
theorem ggX6_isHost_X6_isIn : GoodIn wsX6_isHost wsX6_isIn := goodIn_r _ [4] (by decide +kernel) (by decide +kernel)
set_option maxRecDepth 20000 in
theorem gX6_isHost_X6_isIn : GoodIn wsX6_isHost (va_wsS RX6 51 yX6_isIn wsX6_isIn) := goodIn_app (goodIn_of _ (by decide +kernel)) ggX6_isHost_X6_isIn
theorem dX6_isHost_0 : decode cX6_isHost 0 = .ok (.iload_n 0, 1) := by decide +kernel
theorem dX6_isHost_1 : decode cX6_isHost 1 = .ok (.iconst 0, 1) := by decide +kernel
theorem dX6_isHost_2 : decode cX6_isHost 2 = .ok (.bipush 7, 2) := by decide +kernel
theorem dX6_isHost_4 : decode cX6_isHost 4 = .ok (.invokestatic 51, 3) := by decide +kernel
theorem dX6_isHost_7 : decode cX6_isHost 7 = .ok (.ireturn, 1) := by decide +kernel
set_option maxRecDepth 20000 in
theorem ggX6_isEachSortOnce_X6_isIn : GoodIn wsX6_isEachSortOnce wsX6_isIn := goodIn_r _ [4] (by decide +kernel) (by decide +kernel)
set_option maxRecDepth 20000 in
theorem gX6_isEachSortOnce_X6_isIn : GoodIn wsX6_isEachSortOnce (va_wsS RX6 51 yX6_isIn wsX6_isIn) := goodIn_app (goodIn_of _ (by decide +kernel)) ggX6_isEachSortOnce_X6_isIn
theorem dX6_isEachSortOnce_0 : decode cX6_isEachSortOnce 0 = .ok (.iconst 3, 1) := by decide +kernel
theorem dX6_isEachSortOnce_1 : decode cX6_isEachSortOnce 1 = .ok (.istore 4, 2) := by decide +kernel
theorem dX6_isEachSortOnce_3 : decode cX6_isEachSortOnce 3 = .ok (.iload_n 0, 1) := by decide +kernel
theorem dX6_isEachSortOnce_4 : decode cX6_isEachSortOnce 4 = .ok (.iconst 0, 1) := by decide +kernel
theorem dX6_isEachSortOnce_5 : decode cX6_isEachSortOnce 5 = .ok (.iload 4, 2) := by decide +kernel
theorem dX6_isEachSortOnce_7 : decode cX6_isEachSortOnce 7 = .ok (.invokestatic 51, 3) := by decide +kernel
theorem dX6_isEachSortOnce_10 : decode cX6_isEachSortOnce 10 = .ok (.ifCond .eq 67, 3) := by decide +kernel
theorem dX6_isEachSortOnce_13 : decode cX6_isEachSortOnce 13 = .ok (.iload_n 1, 1) := by decide +kernel
theorem dX6_isEachSortOnce_14 : decode cX6_isEachSortOnce 14 = .ok (.iconst 0, 1) := by decide +kernel
theorem dX6_isEachSortOnce_15 : decode cX6_isEachSortOnce 15 = .ok (.iload 4, 2) := by decide +kernel
theorem dX6_isEachSortOnce_17 : decode cX6_isEachSortOnce 17 = .ok (.invokestatic 51, 3) := by decide +kernel
theorem dX6_isEachSortOnce_20 : decode cX6_isEachSortOnce 20 = .ok (.ifCond .eq 57, 3) := by decide +kernel
theorem dX6_isEachSortOnce_23 : decode cX6_isEachSortOnce 23 = .ok (.iload_n 2, 1) := by decide +kernel
theorem dX6_isEachSortOnce_24 : decode cX6_isEachSortOnce 24 = .ok (.iconst 0, 1) := by decide +kernel
theorem dX6_isEachSortOnce_25 : decode cX6_isEachSortOnce 25 = .ok (.iload 4, 2) := by decide +kernel
theorem dX6_isEachSortOnce_27 : decode cX6_isEachSortOnce 27 = .ok (.invokestatic 51, 3) := by decide +kernel
theorem dX6_isEachSortOnce_30 : decode cX6_isEachSortOnce 30 = .ok (.ifCond .eq 47, 3) := by decide +kernel
theorem dX6_isEachSortOnce_33 : decode cX6_isEachSortOnce 33 = .ok (.iload_n 3, 1) := by decide +kernel
theorem dX6_isEachSortOnce_34 : decode cX6_isEachSortOnce 34 = .ok (.iconst 0, 1) := by decide +kernel
theorem dX6_isEachSortOnce_35 : decode cX6_isEachSortOnce 35 = .ok (.iload 4, 2) := by decide +kernel
theorem dX6_isEachSortOnce_37 : decode cX6_isEachSortOnce 37 = .ok (.invokestatic 51, 3) := by decide +kernel
theorem dX6_isEachSortOnce_40 : decode cX6_isEachSortOnce 40 = .ok (.ifCond .eq 37, 3) := by decide +kernel
theorem dX6_isEachSortOnce_43 : decode cX6_isEachSortOnce 43 = .ok (.iload_n 0, 1) := by decide +kernel
theorem dX6_isEachSortOnce_44 : decode cX6_isEachSortOnce 44 = .ok (.iload_n 1, 1) := by decide +kernel
theorem dX6_isEachSortOnce_45 : decode cX6_isEachSortOnce 45 = .ok (.if_icmp .eq 32, 3) := by decide +kernel
theorem dX6_isEachSortOnce_48 : decode cX6_isEachSortOnce 48 = .ok (.iload_n 0, 1) := by decide +kernel
theorem dX6_isEachSortOnce_49 : decode cX6_isEachSortOnce 49 = .ok (.iload_n 2, 1) := by decide +kernel
