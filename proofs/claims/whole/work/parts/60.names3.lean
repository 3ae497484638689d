set_option maxRecDepth 20000 in
theorem ggX10_init_X6_init : GoodIn wsX10_init wsX6_init := goodIn_r _ [34, 35, 2, 3, 36, 37, 38, 39, 40, 41, 42, 43, 44, 45, 46, 47, 48, 49, 50, 51, 52, 53, 54, 55, 56, 57, 58, 59, 131, 132, 133, 134, 135, 136, 86, 87, 88, 89, 90, 91, 137, 138, 139] (by decide +kernel) (by decide +kernel)
set_option maxRecDepth 20000 in
theorem gX10_init_X6_init_n9 : GoodIn wsX10_init (wsX6_init) := ggX10_init_X6_init
set_option maxRecDepth 20000 in
theorem ggX10_init_X0_init : GoodIn wsX10_init wsX0_init := goodIn_r _ [61, 62, 2, 3, 63, 64, 5, 6, 33, 34, 35, 36, 37, 38, 39, 40, 41, 42, 43, 44, 45, 46, 47, 48, 49, 50, 51, 52, 53, 54, 55, 56, 57, 58, 59, 100, 101, 86, 87, 88, 89, 90, 91, 131, 132, 133, 134, 135, 136, 137, 138, 139] (by decide +kernel) (by decide +kernel)
set_option maxRecDepth 20000 in
theorem gX10_init_X0_init_n21 : GoodIn wsX10_init (wsX0_init) := ggX10_init_X0_init
set_option maxRecDepth 20000 in
theorem ggX10_init_X3_init : GoodIn wsX10_init wsX3_init := goodIn_r _ [66, 67, 2, 3, 49, 68, 69, 102, 103, 104, 105, 106] (by decide +kernel) (by decide +kernel)
set_option maxRecDepth 20000 in
theorem gX10_init_X3_init_n28 : GoodIn wsX10_init (wsX3_init) := ggX10_init_X3_init
set_option maxRecDepth 20000 in
theorem ggX10_init_X2_init : GoodIn wsX10_init wsX2_init := goodIn_r _ [71, 72, 2, 3, 49, 73, 74, 107, 108, 109, 110, 111, 112, 113] (by decide +kernel) (by decide +kernel)
set_option maxRecDepth 20000 in
theorem gX10_init_X2_init_n35 : GoodIn wsX10_init (wsX2_init) := ggX10_init_X2_init
set_option maxRecDepth 20000 in
theorem ggX10_init_X1_init : GoodIn wsX10_init wsX1_init := goodIn_r _ [76, 77, 2, 3] (by decide +kernel) (by decide +kernel)
set_option maxRecDepth 20000 in
theorem gX10_init_X1_init_n42 : GoodIn wsX10_init (wsX1_init) := ggX10_init_X1_init
set_option maxRecDepth 20000 in
theorem ggX10_init_X8_init : GoodIn wsX10_init wsX8_init := goodIn_r _ [79, 80, 2, 3, 81, 82, 120, 121, 122, 123, 124, 125, 126] (by decide +kernel) (by decide +kernel)
set_option maxRecDepth 20000 in
theorem gX10_init_X8_init_n49 : GoodIn wsX10_init (wsX8_init) := ggX10_init_X8_init
set_option maxRecDepth 20000 in
theorem ggX10_init_X5_init : GoodIn wsX10_init wsX5_init := goodIn_r _ [84, 85, 2, 3] (by decide +kernel) (by decide +kernel)
set_option maxRecDepth 20000 in
theorem gX10_init_X5_init_n56 : GoodIn wsX10_init (wsX5_init) := ggX10_init_X5_init
theorem dX10_init_0 : decode cX10_init 0 = .ok (.aload_n 0, 1) := by decide +kernel
theorem dX10_init_1 : decode cX10_init 1 = .ok (.invokespecial 1, 3) := by decide +kernel
theorem dX10_init_4 : decode cX10_init 4 = .ok (.aload_n 0, 1) := by decide +kernel
theorem dX10_init_5 : decode cX10_init 5 = .ok (.new 7, 3) := by decide +kernel
theorem dX10_init_8 : decode cX10_init 8 = .ok (.dup, 1) := by decide +kernel
theorem dX10_init_9 : decode cX10_init 9 = .ok (.invokespecial 9, 3) := by decide +kernel
theorem dX10_init_12 : decode cX10_init 12 = .ok (.putfield 10, 3) := by decide +kernel
theorem dX10_init_15 : decode cX10_init 15 = .ok (.aload_n 0, 1) := by decide +kernel
theorem dX10_init_16 : decode cX10_init 16 = .ok (.new 7, 3) := by decide +kernel
theorem dX10_init_19 : decode cX10_init 19 = .ok (.dup, 1) := by decide +kernel
theorem dX10_init_20 : decode cX10_init 20 = .ok (.invokespecial 9, 3) := by decide +kernel
theorem dX10_init_23 : decode cX10_init 23 = .ok (.putfield 16, 3) := by decide +kernel
theorem dX10_init_26 : decode cX10_init 26 = .ok (.aload_n 0, 1) := by decide +kernel
theorem dX10_init_27 : decode cX10_init 27 = .ok (.new 19, 3) := by decide +kernel
theorem dX10_init_30 : decode cX10_init 30 = .ok (.dup, 1) := by decide +kernel
theorem dX10_init_31 : decode cX10_init 31 = .ok (.invokespecial 21, 3) := by decide +kernel
theorem dX10_init_34 : decode cX10_init 34 = .ok (.putfield 22, 3) := by decide +kernel
theorem dX10_init_37 : decode cX10_init 37 = .ok (.aload_n 0, 1) := by decide +kernel
theorem dX10_init_38 : decode cX10_init 38 = .ok (.new 26, 3) := by decide +kernel
theorem dX10_init_41 : decode cX10_init 41 = .ok (.dup, 1) := by decide +kernel
theorem dX10_init_42 : decode cX10_init 42 = .ok (.invokespecial 28, 3) := by decide +kernel
theorem dX10_init_45 : decode cX10_init 45 = .ok (.putfield 29, 3) := by decide +kernel
theorem dX10_init_48 : decode cX10_init 48 = .ok (.aload_n 0, 1) := by decide +kernel
theorem dX10_init_49 : decode cX10_init 49 = .ok (.new 33, 3) := by decide +kernel
theorem dX10_init_52 : decode cX10_init 52 = .ok (.dup, 1) := by decide +kernel
theorem dX10_init_53 : decode cX10_init 53 = .ok (.invokespecial 35, 3) := by decide +kernel
theorem dX10_init_56 : decode cX10_init 56 = .ok (.putfield 36, 3) := by decide +kernel
theorem dX10_init_59 : decode cX10_init 59 = .ok (.aload_n 0, 1) := by decide +kernel
theorem dX10_init_60 : decode cX10_init 60 = .ok (.new 40, 3) := by decide +kernel
theorem dX10_init_63 : decode cX10_init 63 = .ok (.dup, 1) := by decide +kernel
theorem dX10_init_64 : decode cX10_init 64 = .ok (.invokespecial 42, 3) := by decide +kernel
theorem dX10_init_67 : decode cX10_init 67 = .ok (.putfield 43, 3) := by decide +kernel
theorem dX10_init_70 : decode cX10_init 70 = .ok (.aload_n 0, 1) := by decide +kernel
theorem dX10_init_71 : decode cX10_init 71 = .ok (.new 47, 3) := by decide +kernel
theorem dX10_init_74 : decode cX10_init 74 = .ok (.dup, 1) := by decide +kernel
theorem dX10_init_75 : decode cX10_init 75 = .ok (.invokespecial 49, 3) := by decide +kernel
theorem dX10_init_78 : decode cX10_init 78 = .ok (.putfield 50, 3) := by decide +kernel
theorem dX10_init_81 : decode cX10_init 81 = .ok (.aload_n 0, 1) := by decide +kernel
theorem dX10_init_82 : decode cX10_init 82 = .ok (.new 54, 3) := by decide +kernel
theorem dX10_init_85 : decode cX10_init 85 = .ok (.dup, 1) := by decide +kernel
theorem dX10_init_86 : decode cX10_init 86 = .ok (.invokespecial 56, 3) := by decide +kernel
theorem dX10_init_89 : decode cX10_init 89 = .ok (.putfield 57, 3) := by decide +kernel
theorem dX10_init_92 : decode cX10_init 92 = .ok (.return_, 1) := by decide +kernel
set_option maxRecDepth 20000 in
theorem ggX10_drop_X4_contains : GoodIn wsX10_drop wsX4_contains := goodIn_r _ [7, 8, 80, 81, 82, 83, 84, 85] (by decide +kernel) (by decide +kernel)
set_option maxRecDepth 20000 in
theorem gX10_drop_X4_contains_n65 : GoodIn wsX10_drop (wsX4_contains) := ggX10_drop_X4_contains
set_option maxRecDepth 20000 in
theorem ggX10_drop_X10_startTrial : GoodIn wsX10_drop wsX10_startTrial := goodIn_r _ [13, 3, 1, 14, 15, 16, 17, 18, 19, 20, 21, 22, 23, 24, 5, 25, 26, 27, 28, 29, 30, 31, 32, 33, 34, 35, 8, 36, 37, 38, 39, 40, 41, 42, 43, 66, 67, 68, 69, 70, 71, 72, 73, 74, 75, 76, 77, 78, 79, 80, 81, 82, 83, 84, 85, 86, 87, 88] (by decide +kernel) (by decide +kernel)
set_option maxRecDepth 20000 in
theorem gX10_drop_X10_startTrial : GoodIn wsX10_drop (wsV RX10 72 RX10 yX10_startTrial wsX10_startTrial) := goodIn_app (goodIn_of _ (by decide +kernel)) ggX10_drop_X10_startTrial
set_option maxRecDepth 20000 in
theorem ggX10_drop_X6_removeRule : GoodIn wsX10_drop wsX6_removeRule := goodIn_r _ [46, 18, 19, 47, 5, 48, 49, 8, 27, 32, 33, 34, 35, 50, 4, 6, 7, 74, 75, 76, 77, 78, 79, 86, 87, 88, 80, 81, 82, 83, 84, 85] (by decide +kernel) (by decide +kernel)
set_option maxRecDepth 20000 in
theorem gX10_drop_X6_removeRule_n75 : GoodIn wsX10_drop (wsX6_removeRule) := ggX10_drop_X6_removeRule
set_option maxRecDepth 20000 in
theorem ggX10_drop_X10_keepTrial : GoodIn wsX10_drop wsX10_keepTrial := goodIn_r _ [54, 55, 1, 3, 56, 57, 58, 59, 60, 61, 62, 63, 64, 65, 14, 15, 16, 17, 18, 19, 20, 21, 22, 23, 24, 5, 25, 26, 27, 28, 29, 30, 31, 32, 33, 34, 35, 8, 36, 37, 38, 39, 40, 41, 42, 43, 66, 67, 68, 69, 70, 71, 72, 73, 89, 90, 74, 75, 76, 77, 78, 79, 80, 81, 82, 83, 84, 85, 86, 87, 88] (by decide +kernel) (by decide +kernel)
set_option maxRecDepth 20000 in
theorem gX10_drop_X10_keepTrial : GoodIn wsX10_drop (wsV RX10 79 RX10 yX10_keepTrial wsX10_keepTrial) := goodIn_app (goodIn_of _ (by decide +kernel)) ggX10_drop_X10_keepTrial
theorem dX10_drop_0 : decode cX10_drop 0 = .ok (.aload_n 0, 1) := by decide +kernel
theorem dX10_drop_1 : decode cX10_drop 1 = .ok (.getfield 10, 3) := by decide +kernel
theorem dX10_drop_4 : decode cX10_drop 4 = .ok (.getfield 61, 3) := by decide +kernel
theorem dX10_drop_7 : decode cX10_drop 7 = .ok (.iload_n 1, 1) := by decide +kernel
theorem dX10_drop_8 : decode cX10_drop 8 = .ok (.invokevirtual 65, 3) := by decide +kernel
theorem dX10_drop_11 : decode cX10_drop 11 = .ok (.ifCond .ne 6, 3) := by decide +kernel
theorem dX10_drop_14 : decode cX10_drop 14 = .ok (.ldc 71, 2) := by decide +kernel
theorem dX10_drop_16 : decode cX10_drop 16 = .ok (.ireturn, 1) := by decide +kernel
theorem dX10_drop_17 : decode cX10_drop 17 = .ok (.aload_n 0, 1) := by decide +kernel
theorem dX10_drop_18 : decode cX10_drop 18 = .ok (.invokevirtual 72, 3) := by decide +kernel
theorem dX10_drop_21 : decode cX10_drop 21 = .ok (.aload_n 0, 1) := by decide +kernel
theorem dX10_drop_22 : decode cX10_drop 22 = .ok (.getfield 16, 3) := by decide +kernel
theorem dX10_drop_25 : decode cX10_drop 25 = .ok (.iload_n 1, 1) := by decide +kernel
theorem dX10_drop_26 : decode cX10_drop 26 = .ok (.invokevirtual 75, 3) := by decide +kernel
theorem dX10_drop_29 : decode cX10_drop 29 = .ok (.aload_n 0, 1) := by decide +kernel
theorem dX10_drop_30 : decode cX10_drop 30 = .ok (.invokevirtual 79, 3) := by decide +kernel
theorem dX10_drop_33 : decode cX10_drop 33 = .ok (.aload_n 0, 1) := by decide +kernel
theorem dX10_drop_34 : decode cX10_drop 34 = .ok (.getfield 10, 3) := by decide +kernel
theorem dX10_drop_37 : decode cX10_drop 37 = .ok (.getfield 61, 3) := by decide +kernel
theorem dX10_drop_40 : decode cX10_drop 40 = .ok (.getfield 82, 3) := by decide +kernel
theorem dX10_drop_43 : decode cX10_drop 43 = .ok (.ireturn, 1) := by decide +kernel
set_option maxRecDepth 20000 in
theorem ggX10_way_X10_startTrial : GoodIn wsX10_way wsX10_startTrial := goodIn_r _ [8, 3, 2, 9, 10, 11, 12, 13, 14, 15, 16, 17, 18, 19, 20, 21, 22, 23, 24, 25, 26, 27, 28, 29, 30, 31, 32, 33, 34, 35, 36, 37, 38, 39, 40, 59, 60, 61, 62, 63, 64, 65, 66, 67, 68, 69, 70, 71, 72, 73, 74, 75, 76, 77, 78, 79, 80, 81] (by decide +kernel) (by decide +kernel)
set_option maxRecDepth 20000 in
theorem gX10_way_X10_startTrial : GoodIn wsX10_way (wsV RX10 72 RX10 yX10_startTrial wsX10_startTrial) := goodIn_app (goodIn_of _ (by decide +kernel)) ggX10_way_X10_startTrial
set_option maxRecDepth 20000 in
theorem ggX10_way_X6_setChoosing : GoodIn wsX10_way wsX6_setChoosing := goodIn_r _ [43, 16, 14, 67, 68, 69, 70, 71, 72, 79, 80, 81] (by decide +kernel) (by decide +kernel)
set_option maxRecDepth 20000 in
theorem gX10_way_X6_setChoosing_n89 : GoodIn wsX10_way (wsX6_setChoosing) := ggX10_way_X6_setChoosing
set_option maxRecDepth 20000 in
theorem ggX10_way_X10_keepTrial : GoodIn wsX10_way wsX10_keepTrial := goodIn_r _ [47, 48, 2, 3, 49, 50, 51, 52, 53, 54, 55, 56, 57, 58, 9, 10, 11, 12, 13, 14, 15, 16, 17, 18, 19, 20, 21, 22, 23, 24, 25, 26, 27, 28, 29, 30, 31, 32, 33, 34, 35, 36, 37, 38, 39, 40, 59, 60, 61, 62, 63, 64, 65, 66, 82, 83, 67, 68, 69, 70, 71, 72, 73, 74, 75, 76, 77, 78, 79, 80, 81] (by decide +kernel) (by decide +kernel)
set_option maxRecDepth 20000 in
theorem gX10_way_X10_keepTrial : GoodIn wsX10_way (wsV RX10 79 RX10 yX10_keepTrial wsX10_keepTrial) := goodIn_app (goodIn_of _ (by decide +kernel)) ggX10_way_X10_keepTrial
theorem dX10_way_0 : decode cX10_way 0 = .ok (.iload_n 1, 1) := by decide +kernel
theorem dX10_way_1 : decode cX10_way 1 = .ok (.ifCond .lt 8, 3) := by decide +kernel
theorem dX10_way_4 : decode cX10_way 4 = .ok (.iload_n 1, 1) := by decide +kernel
theorem dX10_way_5 : decode cX10_way 5 = .ok (.iconst 2, 1) := by decide +kernel
theorem dX10_way_6 : decode cX10_way 6 = .ok (.if_icmp .le 6, 3) := by decide +kernel
theorem dX10_way_9 : decode cX10_way 9 = .ok (.ldc 71, 2) := by decide +kernel
theorem dX10_way_11 : decode cX10_way 11 = .ok (.ireturn, 1) := by decide +kernel
theorem dX10_way_12 : decode cX10_way 12 = .ok (.aload_n 0, 1) := by decide +kernel
theorem dX10_way_13 : decode cX10_way 13 = .ok (.getfield 10, 3) := by decide +kernel
theorem dX10_way_16 : decode cX10_way 16 = .ok (.getfield 86, 3) := by decide +kernel
theorem dX10_way_19 : decode cX10_way 19 = .ok (.istore_n 2, 1) := by decide +kernel
theorem dX10_way_20 : decode cX10_way 20 = .ok (.aload_n 0, 1) := by decide +kernel
theorem dX10_way_21 : decode cX10_way 21 = .ok (.invokevirtual 72, 3) := by decide +kernel
theorem dX10_way_24 : decode cX10_way 24 = .ok (.aload_n 0, 1) := by decide +kernel
theorem dX10_way_25 : decode cX10_way 25 = .ok (.getfield 16, 3) := by decide +kernel
theorem dX10_way_28 : decode cX10_way 28 = .ok (.iload_n 1, 1) := by decide +kernel
theorem dX10_way_29 : decode cX10_way 29 = .ok (.invokevirtual 89, 3) := by decide +kernel
theorem dX10_way_32 : decode cX10_way 32 = .ok (.aload_n 0, 1) := by decide +kernel
theorem dX10_way_33 : decode cX10_way 33 = .ok (.invokevirtual 79, 3) := by decide +kernel
theorem dX10_way_36 : decode cX10_way 36 = .ok (.iload_n 2, 1) := by decide +kernel
theorem dX10_way_37 : decode cX10_way 37 = .ok (.ireturn, 1) := by decide +kernel
set_option maxRecDepth 20000 in
theorem ggX10_ruleOf_X4_contains : GoodIn wsX10_ruleOf wsX4_contains := goodIn_r _ [6, 7, 42, 43, 44, 45, 46, 47] (by decide +kernel) (by decide +kernel)
set_option maxRecDepth 20000 in
theorem gX10_ruleOf_X4_contains_n65 : GoodIn wsX10_ruleOf (wsX4_contains) := ggX10_ruleOf_X4_contains
set_option maxRecDepth 20000 in
theorem ggX10_ruleOf_X10_isLetterOf : GoodIn wsX10_ruleOf wsX10_isLetterOf := goodIn_r _ [11] (by decide +kernel) (by decide +kernel)
set_option maxRecDepth 20000 in
theorem gX10_ruleOf_X10_isLetterOf : GoodIn wsX10_ruleOf (va_wsS RX10 92 yX10_isLetterOf wsX10_isLetterOf) := goodIn_app (goodIn_of _ (by decide +kernel)) ggX10_ruleOf_X10_isLetterOf
set_option maxRecDepth 20000 in
theorem ggX10_ruleOf_X9_letterOf : GoodIn wsX10_ruleOf wsX9_letterOf := goodIn_r _ [14, 15, 16, 17, 13, 18] (by decide +kernel) (by decide +kernel)
set_option maxRecDepth 20000 in
theorem gX10_ruleOf_X9_letterOf_n100 : GoodIn wsX10_ruleOf (wsX9_letterOf) := ggX10_ruleOf_X9_letterOf
set_option maxRecDepth 20000 in
theorem ggX10_ruleOf_X4_placesIn : GoodIn wsX10_ruleOf wsX4_placesIn := goodIn_r _ [21, 17, 13, 18, 22, 23, 24, 4, 25, 26, 27, 42, 43, 44, 45, 46, 47] (by decide +kernel) (by decide +kernel)
set_option maxRecDepth 20000 in
theorem gX10_ruleOf_X4_placesIn_n118 : GoodIn wsX10_ruleOf (wsX4_placesIn) := ggX10_ruleOf_X4_placesIn
theorem dX10_ruleOf_0 : decode cX10_ruleOf 0 = .ok (.aload_n 0, 1) := by decide +kernel
theorem dX10_ruleOf_1 : decode cX10_ruleOf 1 = .ok (.getfield 10, 3) := by decide +kernel
theorem dX10_ruleOf_4 : decode cX10_ruleOf 4 = .ok (.getfield 61, 3) := by decide +kernel
theorem dX10_ruleOf_7 : decode cX10_ruleOf 7 = .ok (.astore_n 3, 1) := by decide +kernel
theorem dX10_ruleOf_8 : decode cX10_ruleOf 8 = .ok (.aload_n 3, 1) := by decide +kernel
theorem dX10_ruleOf_9 : decode cX10_ruleOf 9 = .ok (.iload_n 1, 1) := by decide +kernel
theorem dX10_ruleOf_10 : decode cX10_ruleOf 10 = .ok (.invokevirtual 65, 3) := by decide +kernel
theorem dX10_ruleOf_13 : decode cX10_ruleOf 13 = .ok (.ifCond .ne 6, 3) := by decide +kernel
theorem dX10_ruleOf_16 : decode cX10_ruleOf 16 = .ok (.ldc 71, 2) := by decide +kernel
theorem dX10_ruleOf_18 : decode cX10_ruleOf 18 = .ok (.ireturn, 1) := by decide +kernel
theorem dX10_ruleOf_19 : decode cX10_ruleOf 19 = .ok (.iload_n 2, 1) := by decide +kernel
theorem dX10_ruleOf_20 : decode cX10_ruleOf 20 = .ok (.bipush 10, 2) := by decide +kernel
theorem dX10_ruleOf_22 : decode cX10_ruleOf 22 = .ok (.iconst 4, 1) := by decide +kernel
theorem dX10_ruleOf_23 : decode cX10_ruleOf 23 = .ok (.invokestatic 92, 3) := by decide +kernel
theorem dX10_ruleOf_26 : decode cX10_ruleOf 26 = .ok (.ifCond .eq 17, 3) := by decide +kernel
theorem dX10_ruleOf_29 : decode cX10_ruleOf 29 = .ok (.aload_n 3, 1) := by decide +kernel
theorem dX10_ruleOf_30 : decode cX10_ruleOf 30 = .ok (.getfield 96, 3) := by decide +kernel
theorem dX10_ruleOf_33 : decode cX10_ruleOf 33 = .ok (.iload_n 1, 1) := by decide +kernel
theorem dX10_ruleOf_34 : decode cX10_ruleOf 34 = .ok (.iaload, 1) := by decide +kernel
theorem dX10_ruleOf_35 : decode cX10_ruleOf 35 = .ok (.iload_n 2, 1) := by decide +kernel
theorem dX10_ruleOf_36 : decode cX10_ruleOf 36 = .ok (.bipush 10, 2) := by decide +kernel
theorem dX10_ruleOf_38 : decode cX10_ruleOf 38 = .ok (.isub, 1) := by decide +kernel
theorem dX10_ruleOf_39 : decode cX10_ruleOf 39 = .ok (.invokestatic 100, 3) := by decide +kernel
theorem dX10_ruleOf_42 : decode cX10_ruleOf 42 = .ok (.ireturn, 1) := by decide +kernel
theorem dX10_ruleOf_43 : decode cX10_ruleOf 43 = .ok (.iload_n 2, 1) := by decide +kernel
theorem dX10_ruleOf_44 : decode cX10_ruleOf 44 = .ok (.bipush 20, 2) := by decide +kernel
theorem dX10_ruleOf_46 : decode cX10_ruleOf 46 = .ok (.iconst 4, 1) := by decide +kernel
theorem dX10_ruleOf_47 : decode cX10_ruleOf 47 = .ok (.invokestatic 92, 3) := by decide +kernel
theorem dX10_ruleOf_50 : decode cX10_ruleOf 50 = .ok (.ifCond .eq 17, 3) := by decide +kernel
theorem dX10_ruleOf_53 : decode cX10_ruleOf 53 = .ok (.aload_n 3, 1) := by decide +kernel
theorem dX10_ruleOf_54 : decode cX10_ruleOf 54 = .ok (.getfield 106, 3) := by decide +kernel
theorem dX10_ruleOf_57 : decode cX10_ruleOf 57 = .ok (.iload_n 1, 1) := by decide +kernel
theorem dX10_ruleOf_58 : decode cX10_ruleOf 58 = .ok (.iaload, 1) := by decide +kernel
theorem dX10_ruleOf_59 : decode cX10_ruleOf 59 = .ok (.iload_n 2, 1) := by decide +kernel
theorem dX10_ruleOf_60 : decode cX10_ruleOf 60 = .ok (.bipush 20, 2) := by decide +kernel
theorem dX10_ruleOf_62 : decode cX10_ruleOf 62 = .ok (.isub, 1) := by decide +kernel
theorem dX10_ruleOf_63 : decode cX10_ruleOf 63 = .ok (.invokestatic 100, 3) := by decide +kernel
theorem dX10_ruleOf_66 : decode cX10_ruleOf 66 = .ok (.ireturn, 1) := by decide +kernel
theorem dX10_ruleOf_67 : decode cX10_ruleOf 67 = .ok (.iload_n 2, 1) := by decide +kernel
theorem dX10_ruleOf_68 : decode cX10_ruleOf 68 = .ok (.tableswitch 91 0 4 #[36, 43, 50, 71, 84], 36) := by decide +kernel
theorem dX10_ruleOf_104 : decode cX10_ruleOf 104 = .ok (.aload_n 3, 1) := by decide +kernel
theorem dX10_ruleOf_105 : decode cX10_ruleOf 105 = .ok (.getfield 109, 3) := by decide +kernel
theorem dX10_ruleOf_108 : decode cX10_ruleOf 108 = .ok (.iload_n 1, 1) := by decide +kernel
theorem dX10_ruleOf_109 : decode cX10_ruleOf 109 = .ok (.iaload, 1) := by decide +kernel
theorem dX10_ruleOf_110 : decode cX10_ruleOf 110 = .ok (.ireturn, 1) := by decide +kernel
theorem dX10_ruleOf_111 : decode cX10_ruleOf 111 = .ok (.aload_n 3, 1) := by decide +kernel
theorem dX10_ruleOf_112 : decode cX10_ruleOf 112 = .ok (.getfield 112, 3) := by decide +kernel
theorem dX10_ruleOf_115 : decode cX10_ruleOf 115 = .ok (.iload_n 1, 1) := by decide +kernel
theorem dX10_ruleOf_116 : decode cX10_ruleOf 116 = .ok (.iaload, 1) := by decide +kernel
theorem dX10_ruleOf_117 : decode cX10_ruleOf 117 = .ok (.ireturn, 1) := by decide +kernel
theorem dX10_ruleOf_118 : decode cX10_ruleOf 118 = .ok (.aload_n 3, 1) := by decide +kernel
theorem dX10_ruleOf_119 : decode cX10_ruleOf 119 = .ok (.getfield 112, 3) := by decide +kernel
theorem dX10_ruleOf_122 : decode cX10_ruleOf 122 = .ok (.iload_n 1, 1) := by decide +kernel
theorem dX10_ruleOf_123 : decode cX10_ruleOf 123 = .ok (.iaload, 1) := by decide +kernel
theorem dX10_ruleOf_124 : decode cX10_ruleOf 124 = .ok (.aload_n 3, 1) := by decide +kernel
theorem dX10_ruleOf_125 : decode cX10_ruleOf 125 = .ok (.getfield 109, 3) := by decide +kernel
theorem dX10_ruleOf_128 : decode cX10_ruleOf 128 = .ok (.iload_n 1, 1) := by decide +kernel
theorem dX10_ruleOf_129 : decode cX10_ruleOf 129 = .ok (.iaload, 1) := by decide +kernel
theorem dX10_ruleOf_130 : decode cX10_ruleOf 130 = .ok (.if_icmp .ge 7, 3) := by decide +kernel
theorem dX10_ruleOf_133 : decode cX10_ruleOf 133 = .ok (.iconst 1, 1) := by decide +kernel
theorem dX10_ruleOf_134 : decode cX10_ruleOf 134 = .ok (.goto 4, 3) := by decide +kernel
theorem dX10_ruleOf_137 : decode cX10_ruleOf 137 = .ok (.iconst 0, 1) := by decide +kernel
theorem dX10_ruleOf_138 : decode cX10_ruleOf 138 = .ok (.ireturn, 1) := by decide +kernel
theorem dX10_ruleOf_139 : decode cX10_ruleOf 139 = .ok (.aload_n 3, 1) := by decide +kernel
theorem dX10_ruleOf_140 : decode cX10_ruleOf 140 = .ok (.aload_n 0, 1) := by decide +kernel
theorem dX10_ruleOf_141 : decode cX10_ruleOf 141 = .ok (.getfield 10, 3) := by decide +kernel
theorem dX10_ruleOf_144 : decode cX10_ruleOf 144 = .ok (.getfield 115, 3) := by decide +kernel
theorem dX10_ruleOf_147 : decode cX10_ruleOf 147 = .ok (.iload_n 1, 1) := by decide +kernel
theorem dX10_ruleOf_148 : decode cX10_ruleOf 148 = .ok (.invokevirtual 118, 3) := by decide +kernel
theorem dX10_ruleOf_151 : decode cX10_ruleOf 151 = .ok (.ireturn, 1) := by decide +kernel
theorem dX10_ruleOf_152 : decode cX10_ruleOf 152 = .ok (.aload_n 3, 1) := by decide +kernel
theorem dX10_ruleOf_153 : decode cX10_ruleOf 153 = .ok (.getfield 121, 3) := by decide +kernel
theorem dX10_ruleOf_156 : decode cX10_ruleOf 156 = .ok (.iload_n 1, 1) := by decide +kernel
theorem dX10_ruleOf_157 : decode cX10_ruleOf 157 = .ok (.iaload, 1) := by decide +kernel
theorem dX10_ruleOf_158 : decode cX10_ruleOf 158 = .ok (.ireturn, 1) := by decide +kernel
theorem dX10_ruleOf_159 : decode cX10_ruleOf 159 = .ok (.ldc 71, 2) := by decide +kernel
theorem dX10_ruleOf_161 : decode cX10_ruleOf 161 = .ok (.ireturn, 1) := by decide +kernel
set_option maxRecDepth 20000 in
theorem ggX10_step_X10_startTrial : GoodIn wsX10_step wsX10_startTrial := goodIn_r _ [6, 1, 7, 8, 9, 10, 11, 12, 13, 14, 15, 16, 17, 18, 19, 20, 21, 22, 23, 24, 25, 26, 27, 28, 29, 30, 31, 32, 33, 34, 35, 36, 37, 38, 39, 78, 79, 80, 81, 82, 83, 84, 85, 86, 87, 88, 89, 90, 91, 92, 93, 94, 95, 96, 97, 98, 99, 100] (by decide +kernel) (by decide +kernel)
set_option maxRecDepth 20000 in
theorem gX10_step_X10_startTrial : GoodIn wsX10_step (wsV RX10 72 RX10 yX10_startTrial wsX10_startTrial) := goodIn_app (goodIn_of _ (by decide +kernel)) ggX10_step_X10_startTrial
set_option maxRecDepth 20000 in
theorem ggX10_step_X6_takeStep : GoodIn wsX10_step wsX6_takeStep := goodIn_r _ [42, 12, 14, 15, 43, 17, 44, 19, 45, 46, 31, 47, 48, 49, 50, 51, 52, 53, 28, 22, 54, 55, 56, 57, 58, 59, 60, 27, 29, 61, 62, 86, 87, 88, 89, 90, 91, 92, 93, 94, 95, 96, 97] (by decide +kernel) (by decide +kernel)
set_option maxRecDepth 20000 in
theorem gX10_step_X6_takeStep_n124 : GoodIn wsX10_step (wsX6_takeStep) := ggX10_step_X6_takeStep
set_option maxRecDepth 20000 in
theorem ggX10_step_X10_keepTrial : GoodIn wsX10_step wsX10_keepTrial := goodIn_r _ [66, 67, 7, 1, 68, 69, 70, 71, 72, 73, 74, 75, 76, 77, 8, 9, 10, 11, 12, 13, 14, 15, 16, 17, 18, 19, 20, 21, 22, 23, 24, 25, 26, 27, 28, 29, 30, 31, 32, 33, 34, 35, 36, 37, 38, 39, 78, 79, 80, 81, 82, 83, 84, 85, 101, 102, 86, 87, 88, 89, 90, 91, 92, 93, 94, 95, 96, 97, 98, 99, 100] (by decide +kernel) (by decide +kernel)
set_option maxRecDepth 20000 in
theorem gX10_step_X10_keepTrial : GoodIn wsX10_step (wsV RX10 79 RX10 yX10_keepTrial wsX10_keepTrial) := goodIn_app (goodIn_of _ (by decide +kernel)) ggX10_step_X10_keepTrial
theorem dX10_step_0 : decode cX10_step 0 = .ok (.aload_n 0, 1) := by decide +kernel
theorem dX10_step_1 : decode cX10_step 1 = .ok (.invokevirtual 72, 3) := by decide +kernel
theorem dX10_step_4 : decode cX10_step 4 = .ok (.aload_n 0, 1) := by decide +kernel
theorem dX10_step_5 : decode cX10_step 5 = .ok (.getfield 16, 3) := by decide +kernel
theorem dX10_step_8 : decode cX10_step 8 = .ok (.invokevirtual 124, 3) := by decide +kernel
theorem dX10_step_11 : decode cX10_step 11 = .ok (.istore_n 1, 1) := by decide +kernel
theorem dX10_step_12 : decode cX10_step 12 = .ok (.iload_n 1, 1) := by decide +kernel
theorem dX10_step_13 : decode cX10_step 13 = .ok (.ifCond .lt 7, 3) := by decide +kernel
theorem dX10_step_16 : decode cX10_step 16 = .ok (.aload_n 0, 1) := by decide +kernel
theorem dX10_step_17 : decode cX10_step 17 = .ok (.invokevirtual 79, 3) := by decide +kernel
theorem dX10_step_20 : decode cX10_step 20 = .ok (.iload_n 1, 1) := by decide +kernel
theorem dX10_step_21 : decode cX10_step 21 = .ok (.ireturn, 1) := by decide +kernel
set_option maxRecDepth 20000 in
theorem ggX10_normal_X10_startTrial : GoodIn wsX10_normal wsX10_startTrial := goodIn_r _ [7, 1, 8, 9, 10, 11, 12, 13, 14, 15, 16, 17, 18, 19, 20, 21, 22, 23, 24, 25, 26, 27, 28, 29, 30, 31, 32, 33, 34, 35, 36, 37, 38, 39, 40, 112, 113, 114, 115, 116, 117, 118, 119, 120, 121, 122, 123, 124, 125, 126, 127, 128, 129, 130, 131, 132, 133, 134] (by decide +kernel) (by decide +kernel)
set_option maxRecDepth 20000 in
theorem gX10_normal_X10_startTrial : GoodIn wsX10_normal (wsV RX10 72 RX10 yX10_startTrial wsX10_startTrial) := goodIn_app (goodIn_of _ (by decide +kernel)) ggX10_normal_X10_startTrial
set_option maxRecDepth 20000 in
theorem ggX10_normal_X6_reduce : GoodIn wsX10_normal wsX6_reduce := goodIn_r _ [43, 14, 15, 17, 13, 16, 44, 45, 18, 46, 34, 47, 48, 40, 37, 49, 50, 51, 39, 52, 53, 54, 55, 56, 57, 58, 59, 60, 61, 62, 63, 64, 65, 66, 67, 68, 69, 20, 70, 71, 32, 72, 73, 74, 75, 76, 77, 78, 29, 23, 79, 80, 81, 82, 83, 84, 85, 28, 30, 86, 87, 88, 89, 90, 91, 92, 93, 94, 95, 96, 120, 121, 122, 123, 124, 125, 135, 136, 137, 138, 139, 132, 133, 134, 126, 127, 128, 129, 130, 131] (by decide +kernel) (by decide +kernel)
set_option maxRecDepth 20000 in
theorem gX10_normal_X6_reduce_n128 : GoodIn wsX10_normal (wsX6_reduce) := ggX10_normal_X6_reduce
set_option maxRecDepth 20000 in
theorem ggX10_normal_X10_keepTrial : GoodIn wsX10_normal wsX10_keepTrial := goodIn_r _ [100, 101, 8, 1, 102, 103, 104, 105, 106, 107, 108, 109, 110, 111, 9, 10, 11, 12, 13, 14, 15, 16, 17, 18, 19, 20, 21, 22, 23, 24, 25, 26, 27, 28, 29, 30, 31, 32, 33, 34, 35, 36, 37, 38, 39, 40, 112, 113, 114, 115, 116, 117, 118, 119, 140, 141, 120, 121, 122, 123, 124, 125, 126, 127, 128, 129, 130, 131, 132, 133, 134] (by decide +kernel) (by decide +kernel)
set_option maxRecDepth 20000 in
theorem gX10_normal_X10_keepTrial : GoodIn wsX10_normal (wsV RX10 79 RX10 yX10_keepTrial wsX10_keepTrial) := goodIn_app (goodIn_of _ (by decide +kernel)) ggX10_normal_X10_keepTrial
theorem dX10_normal_0 : decode cX10_normal 0 = .ok (.aload_n 0, 1) := by decide +kernel
theorem dX10_normal_1 : decode cX10_normal 1 = .ok (.invokevirtual 72, 3) := by decide +kernel
theorem dX10_normal_4 : decode cX10_normal 4 = .ok (.aload_n 0, 1) := by decide +kernel
theorem dX10_normal_5 : decode cX10_normal 5 = .ok (.getfield 16, 3) := by decide +kernel
theorem dX10_normal_8 : decode cX10_normal 8 = .ok (.aload_n 0, 1) := by decide +kernel
theorem dX10_normal_9 : decode cX10_normal 9 = .ok (.getfield 29, 3) := by decide +kernel
theorem dX10_normal_12 : decode cX10_normal 12 = .ok (.invokevirtual 128, 3) := by decide +kernel
theorem dX10_normal_15 : decode cX10_normal 15 = .ok (.istore_n 1, 1) := by decide +kernel
theorem dX10_normal_16 : decode cX10_normal 16 = .ok (.iload_n 1, 1) := by decide +kernel
theorem dX10_normal_17 : decode cX10_normal 17 = .ok (.ifCond .lt 7, 3) := by decide +kernel
theorem dX10_normal_20 : decode cX10_normal 20 = .ok (.aload_n 0, 1) := by decide +kernel
theorem dX10_normal_21 : decode cX10_normal 21 = .ok (.invokevirtual 79, 3) := by decide +kernel
theorem dX10_normal_24 : decode cX10_normal 24 = .ok (.iload_n 1, 1) := by decide +kernel
theorem dX10_normal_25 : decode cX10_normal 25 = .ok (.ireturn, 1) := by decide +kernel
set_option maxRecDepth 20000 in
theorem ggX10_letterAt_X9_letterOf : GoodIn wsX10_letterAt wsX9_letterOf := goodIn_r _ [5, 6, 7, 8, 4, 9] (by decide +kernel) (by decide +kernel)
set_option maxRecDepth 20000 in
theorem gX10_letterAt_X9_letterOf_n100 : GoodIn wsX10_letterAt (wsX9_letterOf) := ggX10_letterAt_X9_letterOf
theorem dX10_letterAt_0 : decode cX10_letterAt 0 = .ok (.iload_n 1, 1) := by decide +kernel
theorem dX10_letterAt_1 : decode cX10_letterAt 1 = .ok (.ifCond .ge 6, 3) := by decide +kernel
theorem dX10_letterAt_4 : decode cX10_letterAt 4 = .ok (.ldc 71, 2) := by decide +kernel
theorem dX10_letterAt_6 : decode cX10_letterAt 6 = .ok (.ireturn, 1) := by decide +kernel
theorem dX10_letterAt_7 : decode cX10_letterAt 7 = .ok (.aload_n 0, 1) := by decide +kernel
theorem dX10_letterAt_8 : decode cX10_letterAt 8 = .ok (.getfield 10, 3) := by decide +kernel
theorem dX10_letterAt_11 : decode cX10_letterAt 11 = .ok (.getfield 115, 3) := by decide +kernel
theorem dX10_letterAt_14 : decode cX10_letterAt 14 = .ok (.iload_n 1, 1) := by decide +kernel
theorem dX10_letterAt_15 : decode cX10_letterAt 15 = .ok (.invokestatic 100, 3) := by decide +kernel
theorem dX10_letterAt_18 : decode cX10_letterAt 18 = .ok (.ireturn, 1) := by decide +kernel
set_option maxRecDepth 20000 in
theorem ggX10_next_X4_choiceFor : GoodIn wsX10_next wsX4_choiceFor := goodIn_r _ [7, 8, 9, 10, 11, 12, 13, 14, 5, 15, 16, 17, 36, 37, 38, 39, 40, 41] (by decide +kernel) (by decide +kernel)
set_option maxRecDepth 20000 in
theorem gX10_next_X4_choiceFor_n132 : GoodIn wsX10_next (wsX4_choiceFor) := ggX10_next_X4_choiceFor
set_option maxRecDepth 20000 in
theorem ggX10_next_X4_ruleIn : GoodIn wsX10_next wsX4_ruleIn := goodIn_r _ [19] (by decide +kernel) (by decide +kernel)
set_option maxRecDepth 20000 in
theorem gX10_next_X4_ruleIn_n136 : GoodIn wsX10_next (wsX4_ruleIn) := ggX10_next_X4_ruleIn
set_option maxRecDepth 20000 in
theorem ggX10_next_X4_placeIn : GoodIn wsX10_next wsX4_placeIn := goodIn_r _ [21] (by decide +kernel) (by decide +kernel)
set_option maxRecDepth 20000 in
theorem gX10_next_X4_placeIn_n140 : GoodIn wsX10_next (wsX4_placeIn) := ggX10_next_X4_placeIn
theorem dX10_next_0 : decode cX10_next 0 = .ok (.iload_n 1, 1) := by decide +kernel
theorem dX10_next_1 : decode cX10_next 1 = .ok (.ifCond .lt 8, 3) := by decide +kernel
theorem dX10_next_4 : decode cX10_next 4 = .ok (.iload_n 1, 1) := by decide +kernel
theorem dX10_next_5 : decode cX10_next 5 = .ok (.iconst 1, 1) := by decide +kernel
theorem dX10_next_6 : decode cX10_next 6 = .ok (.if_icmp .le 6, 3) := by decide +kernel
theorem dX10_next_9 : decode cX10_next 9 = .ok (.ldc 71, 2) := by decide +kernel
theorem dX10_next_11 : decode cX10_next 11 = .ok (.ireturn, 1) := by decide +kernel
theorem dX10_next_12 : decode cX10_next 12 = .ok (.aload_n 0, 1) := by decide +kernel
theorem dX10_next_13 : decode cX10_next 13 = .ok (.getfield 10, 3) := by decide +kernel
theorem dX10_next_16 : decode cX10_next 16 = .ok (.getfield 61, 3) := by decide +kernel
theorem dX10_next_19 : decode cX10_next 19 = .ok (.aload_n 0, 1) := by decide +kernel
theorem dX10_next_20 : decode cX10_next 20 = .ok (.getfield 10, 3) := by decide +kernel
theorem dX10_next_23 : decode cX10_next 23 = .ok (.getfield 115, 3) := by decide +kernel
theorem dX10_next_26 : decode cX10_next 26 = .ok (.aload_n 0, 1) := by decide +kernel
theorem dX10_next_27 : decode cX10_next 27 = .ok (.getfield 10, 3) := by decide +kernel
theorem dX10_next_30 : decode cX10_next 30 = .ok (.getfield 86, 3) := by decide +kernel
theorem dX10_next_33 : decode cX10_next 33 = .ok (.invokevirtual 132, 3) := by decide +kernel
theorem dX10_next_36 : decode cX10_next 36 = .ok (.istore_n 2, 1) := by decide +kernel
theorem dX10_next_37 : decode cX10_next 37 = .ok (.iload_n 2, 1) := by decide +kernel
theorem dX10_next_38 : decode cX10_next 38 = .ok (.ifCond .ge 6, 3) := by decide +kernel
theorem dX10_next_41 : decode cX10_next 41 = .ok (.ldc 135, 2) := by decide +kernel
theorem dX10_next_43 : decode cX10_next 43 = .ok (.ireturn, 1) := by decide +kernel
theorem dX10_next_44 : decode cX10_next 44 = .ok (.iload_n 1, 1) := by decide +kernel
theorem dX10_next_45 : decode cX10_next 45 = .ok (.ifCond .ne 10, 3) := by decide +kernel
theorem dX10_next_48 : decode cX10_next 48 = .ok (.iload_n 2, 1) := by decide +kernel
theorem dX10_next_49 : decode cX10_next 49 = .ok (.invokestatic 136, 3) := by decide +kernel
theorem dX10_next_52 : decode cX10_next 52 = .ok (.goto 7, 3) := by decide +kernel
theorem dX10_next_55 : decode cX10_next 55 = .ok (.iload_n 2, 1) := by decide +kernel
theorem dX10_next_56 : decode cX10_next 56 = .ok (.invokestatic 140, 3) := by decide +kernel
theorem dX10_next_59 : decode cX10_next 59 = .ok (.ireturn, 1) := by decide +kernel
set_option maxRecDepth 20000 in
theorem ggX10_reduced_X10_isLetterOf : GoodIn wsX10_reduced wsX10_isLetterOf := goodIn_r _ [8] (by decide +kernel) (by decide +kernel)
set_option maxRecDepth 20000 in
theorem gX10_reduced_X10_isLetterOf : GoodIn wsX10_reduced (va_wsS RX10 92 yX10_isLetterOf wsX10_isLetterOf) := goodIn_app (goodIn_of _ (by decide +kernel)) ggX10_reduced_X10_isLetterOf
set_option maxRecDepth 20000 in
theorem ggX10_reduced_X3_run : GoodIn wsX10_reduced wsX3_run := goodIn_r _ [12, 13, 14, 15, 16, 17, 18, 19, 20, 10, 21, 22, 23, 24, 25, 26, 27, 28, 29, 30, 31, 32, 33, 34, 35, 36, 37, 38, 39, 40, 41, 42, 43, 44, 45, 46, 72, 73, 74, 75, 76, 77, 78, 79, 80, 81, 82] (by decide +kernel) (by decide +kernel)
set_option maxRecDepth 20000 in
theorem gX10_reduced_X3_run_n143 : GoodIn wsX10_reduced (wsX3_run) := ggX10_reduced_X3_run
set_option maxRecDepth 20000 in
theorem ggX10_reduced_X10_ringAnswer : GoodIn wsX10_reduced wsX10_ringAnswer := goodIn_r _ [50, 2, 4, 58, 59, 60, 61, 62, 63, 64, 65, 72, 73, 74, 75, 76] (by decide +kernel) (by decide +kernel)
set_option maxRecDepth 20000 in
theorem gX10_reduced_X10_ringAnswer : GoodIn wsX10_reduced (wsV RX10 153 RX10 yX10_ringAnswer wsX10_ringAnswer) := goodIn_app (goodIn_of _ (by decide +kernel)) ggX10_reduced_X10_ringAnswer
set_option maxRecDepth 20000 in
theorem ggX10_reduced_X3_last : GoodIn wsX10_reduced wsX3_last := goodIn_r _ [53, 13, 14, 72, 73, 74, 75, 76] (by decide +kernel) (by decide +kernel)
set_option maxRecDepth 20000 in
theorem gX10_reduced_X3_last_n156 : GoodIn wsX10_reduced (wsX3_last) := ggX10_reduced_X3_last
set_option maxRecDepth 20000 in
theorem ggX10_reduced_X9_letterOf : GoodIn wsX10_reduced wsX9_letterOf := goodIn_r _ [55, 56, 57, 27, 28, 29] (by decide +kernel) (by decide +kernel)
set_option maxRecDepth 20000 in
theorem gX10_reduced_X9_letterOf_n100 : GoodIn wsX10_reduced (wsX9_letterOf) := ggX10_reduced_X9_letterOf
set_option maxRecDepth 20000 in
theorem ggX10_reduced_X9_lengthOf : GoodIn wsX10_reduced wsX9_lengthOf := goodIn_r _ [29] (by decide +kernel) (by decide +kernel)
set_option maxRecDepth 20000 in
theorem gX10_reduced_X9_lengthOf_n159 : GoodIn wsX10_reduced (wsX9_lengthOf) := ggX10_reduced_X9_lengthOf
theorem dX10_reduced_0 : decode cX10_reduced 0 = .ok (.iload_n 1, 1) := by decide +kernel
theorem dX10_reduced_1 : decode cX10_reduced 1 = .ok (.bipush 10, 2) := by decide +kernel
theorem dX10_reduced_3 : decode cX10_reduced 3 = .ok (.bipush 12, 2) := by decide +kernel
theorem dX10_reduced_5 : decode cX10_reduced 5 = .ok (.invokestatic 92, 3) := by decide +kernel
theorem dX10_reduced_8 : decode cX10_reduced 8 = .ok (.istore_n 2, 1) := by decide +kernel
theorem dX10_reduced_9 : decode cX10_reduced 9 = .ok (.iload_n 2, 1) := by decide +kernel
theorem dX10_reduced_10 : decode cX10_reduced 10 = .ok (.ifCond .ne 15, 3) := by decide +kernel
theorem dX10_reduced_13 : decode cX10_reduced 13 = .ok (.iload_n 1, 1) := by decide +kernel
theorem dX10_reduced_14 : decode cX10_reduced 14 = .ok (.ifCond .lt 8, 3) := by decide +kernel
theorem dX10_reduced_17 : decode cX10_reduced 17 = .ok (.iload_n 1, 1) := by decide +kernel
theorem dX10_reduced_18 : decode cX10_reduced 18 = .ok (.iconst 4, 1) := by decide +kernel
theorem dX10_reduced_19 : decode cX10_reduced 19 = .ok (.if_icmp .le 6, 3) := by decide +kernel
theorem dX10_reduced_22 : decode cX10_reduced 22 = .ok (.ldc 71, 2) := by decide +kernel
theorem dX10_reduced_24 : decode cX10_reduced 24 = .ok (.ireturn, 1) := by decide +kernel
theorem dX10_reduced_25 : decode cX10_reduced 25 = .ok (.aload_n 0, 1) := by decide +kernel
theorem dX10_reduced_26 : decode cX10_reduced 26 = .ok (.getfield 29, 3) := by decide +kernel
theorem dX10_reduced_29 : decode cX10_reduced 29 = .ok (.aload_n 0, 1) := by decide +kernel
theorem dX10_reduced_30 : decode cX10_reduced 30 = .ok (.getfield 10, 3) := by decide +kernel
theorem dX10_reduced_33 : decode cX10_reduced 33 = .ok (.getfield 61, 3) := by decide +kernel
theorem dX10_reduced_36 : decode cX10_reduced 36 = .ok (.aload_n 0, 1) := by decide +kernel
theorem dX10_reduced_37 : decode cX10_reduced 37 = .ok (.getfield 10, 3) := by decide +kernel
theorem dX10_reduced_40 : decode cX10_reduced 40 = .ok (.getfield 86, 3) := by decide +kernel
theorem dX10_reduced_43 : decode cX10_reduced 43 = .ok (.aload_n 0, 1) := by decide +kernel
theorem dX10_reduced_44 : decode cX10_reduced 44 = .ok (.getfield 10, 3) := by decide +kernel
theorem dX10_reduced_47 : decode cX10_reduced 47 = .ok (.getfield 115, 3) := by decide +kernel
theorem dX10_reduced_50 : decode cX10_reduced 50 = .ok (.invokevirtual 143, 3) := by decide +kernel
theorem dX10_reduced_53 : decode cX10_reduced 53 = .ok (.iload_n 1, 1) := by decide +kernel
theorem dX10_reduced_54 : decode cX10_reduced 54 = .ok (.ifCond .ne 11, 3) := by decide +kernel
theorem dX10_reduced_57 : decode cX10_reduced 57 = .ok (.aload_n 0, 1) := by decide +kernel
theorem dX10_reduced_58 : decode cX10_reduced 58 = .ok (.getfield 29, 3) := by decide +kernel
theorem dX10_reduced_61 : decode cX10_reduced 61 = .ok (.getfield 147, 3) := by decide +kernel
theorem dX10_reduced_64 : decode cX10_reduced 64 = .ok (.ireturn, 1) := by decide +kernel
theorem dX10_reduced_65 : decode cX10_reduced 65 = .ok (.iload_n 1, 1) := by decide +kernel
theorem dX10_reduced_66 : decode cX10_reduced 66 = .ok (.iconst 1, 1) := by decide +kernel
theorem dX10_reduced_67 : decode cX10_reduced 67 = .ok (.if_icmp .ne 11, 3) := by decide +kernel
theorem dX10_reduced_70 : decode cX10_reduced 70 = .ok (.aload_n 0, 1) := by decide +kernel
theorem dX10_reduced_71 : decode cX10_reduced 71 = .ok (.getfield 29, 3) := by decide +kernel
theorem dX10_reduced_74 : decode cX10_reduced 74 = .ok (.getfield 150, 3) := by decide +kernel
theorem dX10_reduced_77 : decode cX10_reduced 77 = .ok (.ireturn, 1) := by decide +kernel
theorem dX10_reduced_78 : decode cX10_reduced 78 = .ok (.iload_n 1, 1) := by decide +kernel
theorem dX10_reduced_79 : decode cX10_reduced 79 = .ok (.iconst 2, 1) := by decide +kernel
theorem dX10_reduced_80 : decode cX10_reduced 80 = .ok (.if_icmp .eq 8, 3) := by decide +kernel
theorem dX10_reduced_83 : decode cX10_reduced 83 = .ok (.iload_n 1, 1) := by decide +kernel
theorem dX10_reduced_84 : decode cX10_reduced 84 = .ok (.iconst 3, 1) := by decide +kernel
theorem dX10_reduced_85 : decode cX10_reduced 85 = .ok (.if_icmp .ne 9, 3) := by decide +kernel
theorem dX10_reduced_88 : decode cX10_reduced 88 = .ok (.aload_n 0, 1) := by decide +kernel
theorem dX10_reduced_89 : decode cX10_reduced 89 = .ok (.iload_n 1, 1) := by decide +kernel
theorem dX10_reduced_90 : decode cX10_reduced 90 = .ok (.invokevirtual 153, 3) := by decide +kernel
theorem dX10_reduced_93 : decode cX10_reduced 93 = .ok (.ireturn, 1) := by decide +kernel
theorem dX10_reduced_94 : decode cX10_reduced 94 = .ok (.aload_n 0, 1) := by decide +kernel
theorem dX10_reduced_95 : decode cX10_reduced 95 = .ok (.getfield 29, 3) := by decide +kernel
theorem dX10_reduced_98 : decode cX10_reduced 98 = .ok (.getfield 147, 3) := by decide +kernel
theorem dX10_reduced_101 : decode cX10_reduced 101 = .ok (.ifCond .eq 6, 3) := by decide +kernel
theorem dX10_reduced_104 : decode cX10_reduced 104 = .ok (.ldc 135, 2) := by decide +kernel
theorem dX10_reduced_106 : decode cX10_reduced 106 = .ok (.ireturn, 1) := by decide +kernel
theorem dX10_reduced_107 : decode cX10_reduced 107 = .ok (.iload_n 2, 1) := by decide +kernel
theorem dX10_reduced_108 : decode cX10_reduced 108 = .ok (.ifCond .eq 20, 3) := by decide +kernel
theorem dX10_reduced_111 : decode cX10_reduced 111 = .ok (.aload_n 0, 1) := by decide +kernel
theorem dX10_reduced_112 : decode cX10_reduced 112 = .ok (.getfield 29, 3) := by decide +kernel
theorem dX10_reduced_115 : decode cX10_reduced 115 = .ok (.invokevirtual 156, 3) := by decide +kernel
theorem dX10_reduced_118 : decode cX10_reduced 118 = .ok (.iload_n 1, 1) := by decide +kernel
theorem dX10_reduced_119 : decode cX10_reduced 119 = .ok (.bipush 10, 2) := by decide +kernel
theorem dX10_reduced_121 : decode cX10_reduced 121 = .ok (.isub, 1) := by decide +kernel
theorem dX10_reduced_122 : decode cX10_reduced 122 = .ok (.invokestatic 100, 3) := by decide +kernel
theorem dX10_reduced_125 : decode cX10_reduced 125 = .ok (.goto 13, 3) := by decide +kernel
theorem dX10_reduced_128 : decode cX10_reduced 128 = .ok (.aload_n 0, 1) := by decide +kernel
theorem dX10_reduced_129 : decode cX10_reduced 129 = .ok (.getfield 29, 3) := by decide +kernel
theorem dX10_reduced_132 : decode cX10_reduced 132 = .ok (.invokevirtual 156, 3) := by decide +kernel
theorem dX10_reduced_135 : decode cX10_reduced 135 = .ok (.invokestatic 159, 3) := by decide +kernel
theorem dX10_reduced_138 : decode cX10_reduced 138 = .ok (.ireturn, 1) := by decide +kernel
theorem dX10_ringAnswer_0 : decode cX10_ringAnswer 0 = .ok (.aload_n 0, 1) := by decide +kernel
theorem dX10_ringAnswer_1 : decode cX10_ringAnswer 1 = .ok (.getfield 29, 3) := by decide +kernel
theorem dX10_ringAnswer_4 : decode cX10_ringAnswer 4 = .ok (.getfield 147, 3) := by decide +kernel
theorem dX10_ringAnswer_7 : decode cX10_ringAnswer 7 = .ok (.iconst 1, 1) := by decide +kernel
theorem dX10_ringAnswer_8 : decode cX10_ringAnswer 8 = .ok (.if_icmp .eq 6, 3) := by decide +kernel
theorem dX10_ringAnswer_11 : decode cX10_ringAnswer 11 = .ok (.ldc 135, 2) := by decide +kernel
theorem dX10_ringAnswer_13 : decode cX10_ringAnswer 13 = .ok (.ireturn, 1) := by decide +kernel
theorem dX10_ringAnswer_14 : decode cX10_ringAnswer 14 = .ok (.iload_n 1, 1) := by decide +kernel
theorem dX10_ringAnswer_15 : decode cX10_ringAnswer 15 = .ok (.iconst 2, 1) := by decide +kernel
theorem dX10_ringAnswer_16 : decode cX10_ringAnswer 16 = .ok (.if_icmp .ne 21, 3) := by decide +kernel
theorem dX10_ringAnswer_19 : decode cX10_ringAnswer 19 = .ok (.aload_n 0, 1) := by decide +kernel
theorem dX10_ringAnswer_20 : decode cX10_ringAnswer 20 = .ok (.getfield 29, 3) := by decide +kernel
theorem dX10_ringAnswer_23 : decode cX10_ringAnswer 23 = .ok (.getfield 150, 3) := by decide +kernel
theorem dX10_ringAnswer_26 : decode cX10_ringAnswer 26 = .ok (.aload_n 0, 1) := by decide +kernel
theorem dX10_ringAnswer_27 : decode cX10_ringAnswer 27 = .ok (.getfield 29, 3) := by decide +kernel
theorem dX10_ringAnswer_30 : decode cX10_ringAnswer 30 = .ok (.getfield 162, 3) := by decide +kernel
theorem dX10_ringAnswer_33 : decode cX10_ringAnswer 33 = .ok (.isub, 1) := by decide +kernel
theorem dX10_ringAnswer_34 : decode cX10_ringAnswer 34 = .ok (.goto 10, 3) := by decide +kernel
theorem dX10_ringAnswer_37 : decode cX10_ringAnswer 37 = .ok (.aload_n 0, 1) := by decide +kernel
theorem dX10_ringAnswer_38 : decode cX10_ringAnswer 38 = .ok (.getfield 29, 3) := by decide +kernel
theorem dX10_ringAnswer_41 : decode cX10_ringAnswer 41 = .ok (.getfield 162, 3) := by decide +kernel
theorem dX10_ringAnswer_44 : decode cX10_ringAnswer 44 = .ok (.ireturn, 1) := by decide +kernel
set_option maxRecDepth 20000 in
theorem ggX10_reached_X10_isLetterOf : GoodIn wsX10_reached wsX10_isLetterOf := goodIn_r _ [9] (by decide +kernel) (by decide +kernel)
set_option maxRecDepth 20000 in
theorem gX10_reached_X10_isLetterOf : GoodIn wsX10_reached (va_wsS RX10 92 yX10_isLetterOf wsX10_isLetterOf) := goodIn_app (goodIn_of _ (by decide +kernel)) ggX10_reached_X10_isLetterOf
set_option maxRecDepth 20000 in
theorem ggX10_reached_X2_run : GoodIn wsX10_reached wsX2_run := goodIn_r _ [13, 14, 15, 16, 17, 18, 19, 20, 21, 22, 23, 24, 25, 11, 26, 27, 28, 29, 30, 31, 32, 33, 34, 35, 36, 37, 38, 39, 40, 41, 42, 43, 44, 45, 46, 47, 48, 49, 50, 51, 52, 53, 54, 55, 56, 57, 58, 59, 60, 79, 80, 81, 82, 83, 84, 85, 86, 87, 88, 89, 90, 91] (by decide +kernel) (by decide +kernel)
set_option maxRecDepth 20000 in
theorem gX10_reached_X2_run_n165 : GoodIn wsX10_reached (wsX2_run) := ggX10_reached_X2_run
set_option maxRecDepth 20000 in
theorem ggX10_reached_X9_letterOf : GoodIn wsX10_reached wsX9_letterOf := goodIn_r _ [62, 63, 64, 32, 33, 34] (by decide +kernel) (by decide +kernel)
set_option maxRecDepth 20000 in
theorem gX10_reached_X9_letterOf_n100 : GoodIn wsX10_reached (wsX9_letterOf) := ggX10_reached_X9_letterOf
set_option maxRecDepth 20000 in
theorem ggX10_reached_X9_lengthOf : GoodIn wsX10_reached wsX9_lengthOf := goodIn_r _ [34] (by decide +kernel) (by decide +kernel)
set_option maxRecDepth 20000 in
theorem gX10_reached_X9_lengthOf_n159 : GoodIn wsX10_reached (wsX9_lengthOf) := ggX10_reached_X9_lengthOf
theorem dX10_reached_0 : decode cX10_reached 0 = .ok (.iload_n 1, 1) := by decide +kernel
theorem dX10_reached_1 : decode cX10_reached 1 = .ok (.bipush 10, 2) := by decide +kernel
theorem dX10_reached_3 : decode cX10_reached 3 = .ok (.bipush 12, 2) := by decide +kernel
theorem dX10_reached_5 : decode cX10_reached 5 = .ok (.invokestatic 92, 3) := by decide +kernel
theorem dX10_reached_8 : decode cX10_reached 8 = .ok (.istore_n 2, 1) := by decide +kernel
theorem dX10_reached_9 : decode cX10_reached 9 = .ok (.iload_n 1, 1) := by decide +kernel
theorem dX10_reached_10 : decode cX10_reached 10 = .ok (.bipush 30, 2) := by decide +kernel
theorem dX10_reached_12 : decode cX10_reached 12 = .ok (.bipush 12, 2) := by decide +kernel
theorem dX10_reached_14 : decode cX10_reached 14 = .ok (.invokestatic 92, 3) := by decide +kernel
theorem dX10_reached_17 : decode cX10_reached 17 = .ok (.istore_n 3, 1) := by decide +kernel
theorem dX10_reached_18 : decode cX10_reached 18 = .ok (.iload_n 2, 1) := by decide +kernel
theorem dX10_reached_19 : decode cX10_reached 19 = .ok (.ifCond .ne 19, 3) := by decide +kernel
theorem dX10_reached_22 : decode cX10_reached 22 = .ok (.iload_n 3, 1) := by decide +kernel
theorem dX10_reached_23 : decode cX10_reached 23 = .ok (.ifCond .ne 15, 3) := by decide +kernel
theorem dX10_reached_26 : decode cX10_reached 26 = .ok (.iload_n 1, 1) := by decide +kernel
theorem dX10_reached_27 : decode cX10_reached 27 = .ok (.ifCond .lt 8, 3) := by decide +kernel
theorem dX10_reached_30 : decode cX10_reached 30 = .ok (.iload_n 1, 1) := by decide +kernel
theorem dX10_reached_31 : decode cX10_reached 31 = .ok (.iconst 3, 1) := by decide +kernel
theorem dX10_reached_32 : decode cX10_reached 32 = .ok (.if_icmp .le 6, 3) := by decide +kernel
theorem dX10_reached_35 : decode cX10_reached 35 = .ok (.ldc 71, 2) := by decide +kernel
theorem dX10_reached_37 : decode cX10_reached 37 = .ok (.ireturn, 1) := by decide +kernel
theorem dX10_reached_38 : decode cX10_reached 38 = .ok (.aload_n 0, 1) := by decide +kernel
theorem dX10_reached_39 : decode cX10_reached 39 = .ok (.getfield 36, 3) := by decide +kernel
theorem dX10_reached_42 : decode cX10_reached 42 = .ok (.aload_n 0, 1) := by decide +kernel
theorem dX10_reached_43 : decode cX10_reached 43 = .ok (.getfield 10, 3) := by decide +kernel
theorem dX10_reached_46 : decode cX10_reached 46 = .ok (.getfield 61, 3) := by decide +kernel
theorem dX10_reached_49 : decode cX10_reached 49 = .ok (.aload_n 0, 1) := by decide +kernel
theorem dX10_reached_50 : decode cX10_reached 50 = .ok (.getfield 10, 3) := by decide +kernel
theorem dX10_reached_53 : decode cX10_reached 53 = .ok (.getfield 115, 3) := by decide +kernel
theorem dX10_reached_56 : decode cX10_reached 56 = .ok (.invokevirtual 165, 3) := by decide +kernel
theorem dX10_reached_59 : decode cX10_reached 59 = .ok (.aload_n 0, 1) := by decide +kernel
theorem dX10_reached_60 : decode cX10_reached 60 = .ok (.getfield 36, 3) := by decide +kernel
theorem dX10_reached_63 : decode cX10_reached 63 = .ok (.getfield 168, 3) := by decide +kernel
theorem dX10_reached_66 : decode cX10_reached 66 = .ok (.ifCond .eq 6, 3) := by decide +kernel
theorem dX10_reached_69 : decode cX10_reached 69 = .ok (.ldc 172, 2) := by decide +kernel
theorem dX10_reached_71 : decode cX10_reached 71 = .ok (.ireturn, 1) := by decide +kernel
theorem dX10_reached_72 : decode cX10_reached 72 = .ok (.iload_n 1, 1) := by decide +kernel
theorem dX10_reached_73 : decode cX10_reached 73 = .ok (.ifCond .ne 11, 3) := by decide +kernel
theorem dX10_reached_76 : decode cX10_reached 76 = .ok (.aload_n 0, 1) := by decide +kernel
theorem dX10_reached_77 : decode cX10_reached 77 = .ok (.getfield 36, 3) := by decide +kernel
theorem dX10_reached_80 : decode cX10_reached 80 = .ok (.getfield 173, 3) := by decide +kernel
theorem dX10_reached_83 : decode cX10_reached 83 = .ok (.ireturn, 1) := by decide +kernel
theorem dX10_reached_84 : decode cX10_reached 84 = .ok (.iload_n 1, 1) := by decide +kernel
theorem dX10_reached_85 : decode cX10_reached 85 = .ok (.iconst 1, 1) := by decide +kernel
theorem dX10_reached_86 : decode cX10_reached 86 = .ok (.if_icmp .ne 11, 3) := by decide +kernel
theorem dX10_reached_89 : decode cX10_reached 89 = .ok (.aload_n 0, 1) := by decide +kernel
theorem dX10_reached_90 : decode cX10_reached 90 = .ok (.getfield 36, 3) := by decide +kernel
theorem dX10_reached_93 : decode cX10_reached 93 = .ok (.getfield 174, 3) := by decide +kernel
theorem dX10_reached_96 : decode cX10_reached 96 = .ok (.ireturn, 1) := by decide +kernel
theorem dX10_reached_97 : decode cX10_reached 97 = .ok (.aload_n 0, 1) := by decide +kernel
theorem dX10_reached_98 : decode cX10_reached 98 = .ok (.getfield 36, 3) := by decide +kernel
theorem dX10_reached_101 : decode cX10_reached 101 = .ok (.getfield 174, 3) := by decide +kernel
theorem dX10_reached_104 : decode cX10_reached 104 = .ok (.ifCond .ne 6, 3) := by decide +kernel
theorem dX10_reached_107 : decode cX10_reached 107 = .ok (.ldc 135, 2) := by decide +kernel
theorem dX10_reached_109 : decode cX10_reached 109 = .ok (.ireturn, 1) := by decide +kernel
theorem dX10_reached_110 : decode cX10_reached 110 = .ok (.iload_n 2, 1) := by decide +kernel
theorem dX10_reached_111 : decode cX10_reached 111 = .ok (.ifCond .eq 18, 3) := by decide +kernel
theorem dX10_reached_114 : decode cX10_reached 114 = .ok (.aload_n 0, 1) := by decide +kernel
theorem dX10_reached_115 : decode cX10_reached 115 = .ok (.getfield 36, 3) := by decide +kernel
theorem dX10_reached_118 : decode cX10_reached 118 = .ok (.getfield 177, 3) := by decide +kernel
theorem dX10_reached_121 : decode cX10_reached 121 = .ok (.iload_n 1, 1) := by decide +kernel
theorem dX10_reached_122 : decode cX10_reached 122 = .ok (.bipush 10, 2) := by decide +kernel
theorem dX10_reached_124 : decode cX10_reached 124 = .ok (.isub, 1) := by decide +kernel
theorem dX10_reached_125 : decode cX10_reached 125 = .ok (.invokestatic 100, 3) := by decide +kernel
theorem dX10_reached_128 : decode cX10_reached 128 = .ok (.ireturn, 1) := by decide +kernel
theorem dX10_reached_129 : decode cX10_reached 129 = .ok (.iload_n 3, 1) := by decide +kernel
theorem dX10_reached_130 : decode cX10_reached 130 = .ok (.ifCond .eq 18, 3) := by decide +kernel
theorem dX10_reached_133 : decode cX10_reached 133 = .ok (.aload_n 0, 1) := by decide +kernel
theorem dX10_reached_134 : decode cX10_reached 134 = .ok (.getfield 36, 3) := by decide +kernel
theorem dX10_reached_137 : decode cX10_reached 137 = .ok (.getfield 180, 3) := by decide +kernel
theorem dX10_reached_140 : decode cX10_reached 140 = .ok (.iload_n 1, 1) := by decide +kernel
theorem dX10_reached_141 : decode cX10_reached 141 = .ok (.bipush 30, 2) := by decide +kernel
theorem dX10_reached_143 : decode cX10_reached 143 = .ok (.isub, 1) := by decide +kernel
theorem dX10_reached_144 : decode cX10_reached 144 = .ok (.invokestatic 100, 3) := by decide +kernel
theorem dX10_reached_147 : decode cX10_reached 147 = .ok (.ireturn, 1) := by decide +kernel
theorem dX10_reached_148 : decode cX10_reached 148 = .ok (.iload_n 1, 1) := by decide +kernel
theorem dX10_reached_149 : decode cX10_reached 149 = .ok (.iconst 2, 1) := by decide +kernel
theorem dX10_reached_150 : decode cX10_reached 150 = .ok (.if_icmp .ne 13, 3) := by decide +kernel
theorem dX10_reached_153 : decode cX10_reached 153 = .ok (.aload_n 0, 1) := by decide +kernel
theorem dX10_reached_154 : decode cX10_reached 154 = .ok (.getfield 36, 3) := by decide +kernel
theorem dX10_reached_157 : decode cX10_reached 157 = .ok (.getfield 177, 3) := by decide +kernel
theorem dX10_reached_160 : decode cX10_reached 160 = .ok (.goto 10, 3) := by decide +kernel
theorem dX10_reached_163 : decode cX10_reached 163 = .ok (.aload_n 0, 1) := by decide +kernel
theorem dX10_reached_164 : decode cX10_reached 164 = .ok (.getfield 36, 3) := by decide +kernel
theorem dX10_reached_167 : decode cX10_reached 167 = .ok (.getfield 180, 3) := by decide +kernel
theorem dX10_reached_170 : decode cX10_reached 170 = .ok (.invokestatic 159, 3) := by decide +kernel
theorem dX10_reached_173 : decode cX10_reached 173 = .ok (.ireturn, 1) := by decide +kernel
set_option maxRecDepth 20000 in
theorem ggX10_storeOf_X10_isLetterOf : GoodIn wsX10_storeOf wsX10_isLetterOf := goodIn_r _ [7] (by decide +kernel) (by decide +kernel)
set_option maxRecDepth 20000 in
theorem gX10_storeOf_X10_isLetterOf : GoodIn wsX10_storeOf (va_wsS RX10 92 yX10_isLetterOf wsX10_isLetterOf) := goodIn_app (goodIn_of _ (by decide +kernel)) ggX10_storeOf_X10_isLetterOf
set_option maxRecDepth 20000 in
theorem ggX10_storeOf_X9_letterOf : GoodIn wsX10_storeOf wsX9_letterOf := goodIn_r _ [10, 11, 12, 13, 9, 14] (by decide +kernel) (by decide +kernel)
set_option maxRecDepth 20000 in
theorem gX10_storeOf_X9_letterOf_n100 : GoodIn wsX10_storeOf (wsX9_letterOf) := ggX10_storeOf_X9_letterOf
set_option maxRecDepth 20000 in
theorem ggX10_storeOf_X9_lengthOf : GoodIn wsX10_storeOf wsX9_lengthOf := goodIn_r _ [14] (by decide +kernel) (by decide +kernel)
set_option maxRecDepth 20000 in
theorem gX10_storeOf_X9_lengthOf_n159 : GoodIn wsX10_storeOf (wsX9_lengthOf) := ggX10_storeOf_X9_lengthOf
theorem dX10_storeOf_0 : decode cX10_storeOf 0 = .ok (.iload_n 2, 1) := by decide +kernel
theorem dX10_storeOf_1 : decode cX10_storeOf 1 = .ok (.bipush 10, 2) := by decide +kernel
theorem dX10_storeOf_3 : decode cX10_storeOf 3 = .ok (.bipush 12, 2) := by decide +kernel
theorem dX10_storeOf_5 : decode cX10_storeOf 5 = .ok (.invokestatic 92, 3) := by decide +kernel
theorem dX10_storeOf_8 : decode cX10_storeOf 8 = .ok (.istore_n 3, 1) := by decide +kernel
theorem dX10_storeOf_9 : decode cX10_storeOf 9 = .ok (.iload_n 2, 1) := by decide +kernel
theorem dX10_storeOf_10 : decode cX10_storeOf 10 = .ok (.bipush 30, 2) := by decide +kernel
theorem dX10_storeOf_12 : decode cX10_storeOf 12 = .ok (.bipush 12, 2) := by decide +kernel
theorem dX10_storeOf_14 : decode cX10_storeOf 14 = .ok (.invokestatic 92, 3) := by decide +kernel
theorem dX10_storeOf_17 : decode cX10_storeOf 17 = .ok (.istore 4, 2) := by decide +kernel
theorem dX10_storeOf_19 : decode cX10_storeOf 19 = .ok (.iload_n 1, 1) := by decide +kernel
theorem dX10_storeOf_20 : decode cX10_storeOf 20 = .ok (.ifCond .lt 21, 3) := by decide +kernel
theorem dX10_storeOf_23 : decode cX10_storeOf 23 = .ok (.iload_n 3, 1) := by decide +kernel
theorem dX10_storeOf_24 : decode cX10_storeOf 24 = .ok (.ifCond .ne 20, 3) := by decide +kernel
theorem dX10_storeOf_27 : decode cX10_storeOf 27 = .ok (.iload 4, 2) := by decide +kernel
theorem dX10_storeOf_29 : decode cX10_storeOf 29 = .ok (.ifCond .ne 15, 3) := by decide +kernel
theorem dX10_storeOf_32 : decode cX10_storeOf 32 = .ok (.iload_n 2, 1) := by decide +kernel
theorem dX10_storeOf_33 : decode cX10_storeOf 33 = .ok (.ifCond .eq 11, 3) := by decide +kernel
theorem dX10_storeOf_36 : decode cX10_storeOf 36 = .ok (.iload_n 2, 1) := by decide +kernel
theorem dX10_storeOf_37 : decode cX10_storeOf 37 = .ok (.iconst 1, 1) := by decide +kernel
theorem dX10_storeOf_38 : decode cX10_storeOf 38 = .ok (.if_icmp .eq 6, 3) := by decide +kernel
theorem dX10_storeOf_41 : decode cX10_storeOf 41 = .ok (.ldc 71, 2) := by decide +kernel
theorem dX10_storeOf_43 : decode cX10_storeOf 43 = .ok (.ireturn, 1) := by decide +kernel
theorem dX10_storeOf_44 : decode cX10_storeOf 44 = .ok (.iload_n 1, 1) := by decide +kernel
theorem dX10_storeOf_45 : decode cX10_storeOf 45 = .ok (.aload_n 0, 1) := by decide +kernel
theorem dX10_storeOf_46 : decode cX10_storeOf 46 = .ok (.getfield 10, 3) := by decide +kernel
theorem dX10_storeOf_49 : decode cX10_storeOf 49 = .ok (.getfield 183, 3) := by decide +kernel
theorem dX10_storeOf_52 : decode cX10_storeOf 52 = .ok (.getfield 187, 3) := by decide +kernel
theorem dX10_storeOf_55 : decode cX10_storeOf 55 = .ok (.if_icmp .lt 6, 3) := by decide +kernel
theorem dX10_storeOf_58 : decode cX10_storeOf 58 = .ok (.ldc 135, 2) := by decide +kernel
theorem dX10_storeOf_60 : decode cX10_storeOf 60 = .ok (.ireturn, 1) := by decide +kernel
theorem dX10_storeOf_61 : decode cX10_storeOf 61 = .ok (.iload_n 3, 1) := by decide +kernel
theorem dX10_storeOf_62 : decode cX10_storeOf 62 = .ok (.ifCond .eq 23, 3) := by decide +kernel
theorem dX10_storeOf_65 : decode cX10_storeOf 65 = .ok (.aload_n 0, 1) := by decide +kernel
theorem dX10_storeOf_66 : decode cX10_storeOf 66 = .ok (.getfield 10, 3) := by decide +kernel
theorem dX10_storeOf_69 : decode cX10_storeOf 69 = .ok (.getfield 183, 3) := by decide +kernel
theorem dX10_storeOf_72 : decode cX10_storeOf 72 = .ok (.getfield 190, 3) := by decide +kernel
theorem dX10_storeOf_75 : decode cX10_storeOf 75 = .ok (.iload_n 1, 1) := by decide +kernel
theorem dX10_storeOf_76 : decode cX10_storeOf 76 = .ok (.iaload, 1) := by decide +kernel
