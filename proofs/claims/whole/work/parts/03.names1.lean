set_option maxRecDepth 20000 in
theorem ggX0_init_X6_init : GoodIn wsX0_init wsX6_init := goodIn_r _ [9, 10, 2, 3, 11, 12, 13, 14, 15, 16, 17, 18, 19, 20, 21, 22, 23, 24, 25, 26, 27, 28, 29, 30, 31, 32, 33, 34, 43, 44, 45, 46, 47, 48, 37, 38, 39, 40, 41, 42, 49, 50, 51] (by decide +kernel) (by decide +kernel)
set_option maxRecDepth 20000 in
theorem gX0_init_X6_init_n17 : GoodIn wsX0_init (wsX6_init) := ggX0_init_X6_init
theorem dX0_init_0 : decode cX0_init 0 = .ok (.aload_n 0, 1) := by decide +kernel
theorem dX0_init_1 : decode cX0_init 1 = .ok (.invokespecial 3, 3) := by decide +kernel
theorem dX0_init_4 : decode cX0_init 4 = .ok (.aload_n 0, 1) := by decide +kernel
theorem dX0_init_5 : decode cX0_init 5 = .ok (.iconst 4, 1) := by decide +kernel
theorem dX0_init_6 : decode cX0_init 6 = .ok (.anewarray 9, 3) := by decide +kernel
theorem dX0_init_9 : decode cX0_init 9 = .ok (.putfield 11, 3) := by decide +kernel
theorem dX0_init_12 : decode cX0_init 12 = .ok (.iconst 0, 1) := by decide +kernel
theorem dX0_init_13 : decode cX0_init 13 = .ok (.istore_n 1, 1) := by decide +kernel
theorem dX0_init_14 : decode cX0_init 14 = .ok (.iload_n 1, 1) := by decide +kernel
theorem dX0_init_15 : decode cX0_init 15 = .ok (.iconst 4, 1) := by decide +kernel
theorem dX0_init_16 : decode cX0_init 16 = .ok (.if_icmp .ge 22, 3) := by decide +kernel
theorem dX0_init_19 : decode cX0_init 19 = .ok (.aload_n 0, 1) := by decide +kernel
theorem dX0_init_20 : decode cX0_init 20 = .ok (.getfield 11, 3) := by decide +kernel
theorem dX0_init_23 : decode cX0_init 23 = .ok (.iload_n 1, 1) := by decide +kernel
theorem dX0_init_24 : decode cX0_init 24 = .ok (.new 9, 3) := by decide +kernel
theorem dX0_init_27 : decode cX0_init 27 = .ok (.dup, 1) := by decide +kernel
theorem dX0_init_28 : decode cX0_init 28 = .ok (.invokespecial 17, 3) := by decide +kernel
theorem dX0_init_31 : decode cX0_init 31 = .ok (.aastore, 1) := by decide +kernel
theorem dX0_init_32 : decode cX0_init 32 = .ok (.iinc 1 1, 3) := by decide +kernel
theorem dX0_init_35 : decode cX0_init 35 = .ok (.goto (-21), 3) := by decide +kernel
theorem dX0_init_38 : decode cX0_init 38 = .ok (.return_, 1) := by decide +kernel
set_option maxRecDepth 20000 in
theorem ggX0_keep_X0_forgetOldest : GoodIn wsX0_keep wsX0_forgetOldest := goodIn_r _ [7, 2, 1, 40, 41] (by decide +kernel) (by decide +kernel)
set_option maxRecDepth 20000 in
theorem gX0_keep_X0_forgetOldest : GoodIn wsX0_keep (wsV RX0 22 RX0 yX0_forgetOldest wsX0_forgetOldest) := goodIn_app (goodIn_of _ (by decide +kernel)) ggX0_keep_X0_forgetOldest
set_option maxRecDepth 20000 in
theorem ggX0_keep_X6_takeOver : GoodIn wsX0_keep wsX6_takeOver := goodIn_r _ [11, 12, 13, 14, 15, 16, 17, 18, 19, 20, 21, 22, 23, 24, 25, 26, 27, 28, 29, 30, 31, 32, 33, 34, 35, 36, 37, 38, 39, 42, 43, 44, 45, 46, 47, 48, 49, 50, 51, 52, 53, 54, 55, 56] (by decide +kernel) (by decide +kernel)
set_option maxRecDepth 20000 in
theorem gX0_keep_X6_takeOver_n25 : GoodIn wsX0_keep (wsX6_takeOver) := ggX0_keep_X6_takeOver
theorem dX0_keep_0 : decode cX0_keep 0 = .ok (.aload_n 0, 1) := by decide +kernel
theorem dX0_keep_1 : decode cX0_keep 1 = .ok (.getfield 18, 3) := by decide +kernel
theorem dX0_keep_4 : decode cX0_keep 4 = .ok (.iconst 4, 1) := by decide +kernel
theorem dX0_keep_5 : decode cX0_keep 5 = .ok (.if_icmp .lt 7, 3) := by decide +kernel
theorem dX0_keep_8 : decode cX0_keep 8 = .ok (.aload_n 0, 1) := by decide +kernel
theorem dX0_keep_9 : decode cX0_keep 9 = .ok (.invokevirtual 22, 3) := by decide +kernel
theorem dX0_keep_12 : decode cX0_keep 12 = .ok (.aload_n 0, 1) := by decide +kernel
theorem dX0_keep_13 : decode cX0_keep 13 = .ok (.getfield 11, 3) := by decide +kernel
theorem dX0_keep_16 : decode cX0_keep 16 = .ok (.aload_n 0, 1) := by decide +kernel
theorem dX0_keep_17 : decode cX0_keep 17 = .ok (.getfield 18, 3) := by decide +kernel
theorem dX0_keep_20 : decode cX0_keep 20 = .ok (.aaload, 1) := by decide +kernel
theorem dX0_keep_21 : decode cX0_keep 21 = .ok (.aload_n 1, 1) := by decide +kernel
theorem dX0_keep_22 : decode cX0_keep 22 = .ok (.invokevirtual 25, 3) := by decide +kernel
theorem dX0_keep_25 : decode cX0_keep 25 = .ok (.aload_n 0, 1) := by decide +kernel
theorem dX0_keep_26 : decode cX0_keep 26 = .ok (.dup, 1) := by decide +kernel
theorem dX0_keep_27 : decode cX0_keep 27 = .ok (.getfield 18, 3) := by decide +kernel
theorem dX0_keep_30 : decode cX0_keep 30 = .ok (.iconst 1, 1) := by decide +kernel
theorem dX0_keep_31 : decode cX0_keep 31 = .ok (.iadd, 1) := by decide +kernel
theorem dX0_keep_32 : decode cX0_keep 32 = .ok (.putfield 18, 3) := by decide +kernel
theorem dX0_keep_35 : decode cX0_keep 35 = .ok (.return_, 1) := by decide +kernel
theorem dX0_forgetOldest_0 : decode cX0_forgetOldest 0 = .ok (.aload_n 0, 1) := by decide +kernel
theorem dX0_forgetOldest_1 : decode cX0_forgetOldest 1 = .ok (.getfield 11, 3) := by decide +kernel
theorem dX0_forgetOldest_4 : decode cX0_forgetOldest 4 = .ok (.iconst 0, 1) := by decide +kernel
theorem dX0_forgetOldest_5 : decode cX0_forgetOldest 5 = .ok (.aaload, 1) := by decide +kernel
theorem dX0_forgetOldest_6 : decode cX0_forgetOldest 6 = .ok (.astore_n 1, 1) := by decide +kernel
theorem dX0_forgetOldest_7 : decode cX0_forgetOldest 7 = .ok (.iconst 0, 1) := by decide +kernel
theorem dX0_forgetOldest_8 : decode cX0_forgetOldest 8 = .ok (.istore_n 2, 1) := by decide +kernel
theorem dX0_forgetOldest_9 : decode cX0_forgetOldest 9 = .ok (.iload_n 2, 1) := by decide +kernel
theorem dX0_forgetOldest_10 : decode cX0_forgetOldest 10 = .ok (.iconst 1, 1) := by decide +kernel
theorem dX0_forgetOldest_11 : decode cX0_forgetOldest 11 = .ok (.iadd, 1) := by decide +kernel
theorem dX0_forgetOldest_12 : decode cX0_forgetOldest 12 = .ok (.iconst 4, 1) := by decide +kernel
theorem dX0_forgetOldest_13 : decode cX0_forgetOldest 13 = .ok (.if_icmp .ge 23, 3) := by decide +kernel
theorem dX0_forgetOldest_16 : decode cX0_forgetOldest 16 = .ok (.aload_n 0, 1) := by decide +kernel
theorem dX0_forgetOldest_17 : decode cX0_forgetOldest 17 = .ok (.getfield 11, 3) := by decide +kernel
theorem dX0_forgetOldest_20 : decode cX0_forgetOldest 20 = .ok (.iload_n 2, 1) := by decide +kernel
theorem dX0_forgetOldest_21 : decode cX0_forgetOldest 21 = .ok (.aload_n 0, 1) := by decide +kernel
theorem dX0_forgetOldest_22 : decode cX0_forgetOldest 22 = .ok (.getfield 11, 3) := by decide +kernel
theorem dX0_forgetOldest_25 : decode cX0_forgetOldest 25 = .ok (.iload_n 2, 1) := by decide +kernel
theorem dX0_forgetOldest_26 : decode cX0_forgetOldest 26 = .ok (.iconst 1, 1) := by decide +kernel
theorem dX0_forgetOldest_27 : decode cX0_forgetOldest 27 = .ok (.iadd, 1) := by decide +kernel
theorem dX0_forgetOldest_28 : decode cX0_forgetOldest 28 = .ok (.aaload, 1) := by decide +kernel
theorem dX0_forgetOldest_29 : decode cX0_forgetOldest 29 = .ok (.aastore, 1) := by decide +kernel
theorem dX0_forgetOldest_30 : decode cX0_forgetOldest 30 = .ok (.iinc 2 1, 3) := by decide +kernel
theorem dX0_forgetOldest_33 : decode cX0_forgetOldest 33 = .ok (.goto (-24), 3) := by decide +kernel
theorem dX0_forgetOldest_36 : decode cX0_forgetOldest 36 = .ok (.aload_n 0, 1) := by decide +kernel
theorem dX0_forgetOldest_37 : decode cX0_forgetOldest 37 = .ok (.getfield 11, 3) := by decide +kernel
theorem dX0_forgetOldest_40 : decode cX0_forgetOldest 40 = .ok (.iconst 3, 1) := by decide +kernel
theorem dX0_forgetOldest_41 : decode cX0_forgetOldest 41 = .ok (.aload_n 1, 1) := by decide +kernel
theorem dX0_forgetOldest_42 : decode cX0_forgetOldest 42 = .ok (.aastore, 1) := by decide +kernel
theorem dX0_forgetOldest_43 : decode cX0_forgetOldest 43 = .ok (.aload_n 0, 1) := by decide +kernel
theorem dX0_forgetOldest_44 : decode cX0_forgetOldest 44 = .ok (.dup, 1) := by decide +kernel
theorem dX0_forgetOldest_45 : decode cX0_forgetOldest 45 = .ok (.getfield 18, 3) := by decide +kernel
theorem dX0_forgetOldest_48 : decode cX0_forgetOldest 48 = .ok (.iconst 1, 1) := by decide +kernel
theorem dX0_forgetOldest_49 : decode cX0_forgetOldest 49 = .ok (.isub, 1) := by decide +kernel
theorem dX0_forgetOldest_50 : decode cX0_forgetOldest 50 = .ok (.putfield 18, 3) := by decide +kernel
theorem dX0_forgetOldest_53 : decode cX0_forgetOldest 53 = .ok (.return_, 1) := by decide +kernel
set_option maxRecDepth 20000 in
theorem ggX0_restoreTo_X6_takeOver : GoodIn wsX0_restoreTo wsX6_takeOver := goodIn_r _ [6, 7, 8, 9, 10, 11, 12, 13, 14, 15, 16, 17, 18, 19, 20, 21, 22, 23, 24, 25, 26, 27, 28, 29, 30, 31, 32, 33, 34, 37, 38, 39, 40, 41, 42, 43, 44, 45, 46, 47, 48, 49, 50, 51] (by decide +kernel) (by decide +kernel)
set_option maxRecDepth 20000 in
theorem gX0_restoreTo_X6_takeOver_n25 : GoodIn wsX0_restoreTo (wsX6_takeOver) := ggX0_restoreTo_X6_takeOver
theorem dX0_restoreTo_0 : decode cX0_restoreTo 0 = .ok (.aload_n 0, 1) := by decide +kernel
theorem dX0_restoreTo_1 : decode cX0_restoreTo 1 = .ok (.getfield 18, 3) := by decide +kernel
theorem dX0_restoreTo_4 : decode cX0_restoreTo 4 = .ok (.ifCond .le 26, 3) := by decide +kernel
theorem dX0_restoreTo_7 : decode cX0_restoreTo 7 = .ok (.aload_n 0, 1) := by decide +kernel
theorem dX0_restoreTo_8 : decode cX0_restoreTo 8 = .ok (.dup, 1) := by decide +kernel
theorem dX0_restoreTo_9 : decode cX0_restoreTo 9 = .ok (.getfield 18, 3) := by decide +kernel
theorem dX0_restoreTo_12 : decode cX0_restoreTo 12 = .ok (.iconst 1, 1) := by decide +kernel
theorem dX0_restoreTo_13 : decode cX0_restoreTo 13 = .ok (.isub, 1) := by decide +kernel
theorem dX0_restoreTo_14 : decode cX0_restoreTo 14 = .ok (.putfield 18, 3) := by decide +kernel
theorem dX0_restoreTo_17 : decode cX0_restoreTo 17 = .ok (.aload_n 1, 1) := by decide +kernel
theorem dX0_restoreTo_18 : decode cX0_restoreTo 18 = .ok (.aload_n 0, 1) := by decide +kernel
theorem dX0_restoreTo_19 : decode cX0_restoreTo 19 = .ok (.getfield 11, 3) := by decide +kernel
theorem dX0_restoreTo_22 : decode cX0_restoreTo 22 = .ok (.aload_n 0, 1) := by decide +kernel
theorem dX0_restoreTo_23 : decode cX0_restoreTo 23 = .ok (.getfield 18, 3) := by decide +kernel
theorem dX0_restoreTo_26 : decode cX0_restoreTo 26 = .ok (.aaload, 1) := by decide +kernel
theorem dX0_restoreTo_27 : decode cX0_restoreTo 27 = .ok (.invokevirtual 25, 3) := by decide +kernel
theorem dX0_restoreTo_30 : decode cX0_restoreTo 30 = .ok (.return_, 1) := by decide +kernel
theorem dX1_init_0 : decode cX1_init 0 = .ok (.aload_n 0, 1) := by decide +kernel
theorem dX1_init_1 : decode cX1_init 1 = .ok (.invokespecial 3, 3) := by decide +kernel
theorem dX1_init_4 : decode cX1_init 4 = .ok (.return_, 1) := by decide +kernel
set_option maxRecDepth 20000 in
theorem ggX1_find_X1_isOverlap : GoodIn wsX1_find wsX1_isOverlap := goodIn_r _ [5, 6, 7, 8, 9, 10, 11, 12, 13, 14, 15, 16, 17, 4, 18, 19, 20, 21, 22, 23, 24, 25, 26, 27, 28, 29, 30, 31, 32, 33, 34, 35, 36, 37, 38, 39, 40] (by decide +kernel) (by decide +kernel)
set_option maxRecDepth 20000 in
theorem gX1_find_X1_isOverlap : GoodIn wsX1_find (wsV RX1 11 RX1 yX1_isOverlap wsX1_isOverlap) := goodIn_app (goodIn_of _ (by decide +kernel)) ggX1_find_X1_isOverlap
theorem dX1_find_0 : decode cX1_find 0 = .ok (.iconst 0, 1) := by decide +kernel
theorem dX1_find_1 : decode cX1_find 1 = .ok (.istore_n 3, 1) := by decide +kernel
theorem dX1_find_2 : decode cX1_find 2 = .ok (.iconst 0, 1) := by decide +kernel
theorem dX1_find_3 : decode cX1_find 3 = .ok (.istore 4, 2) := by decide +kernel
theorem dX1_find_5 : decode cX1_find 5 = .ok (.iload 4, 2) := by decide +kernel
theorem dX1_find_7 : decode cX1_find 7 = .ok (.sipush 400, 3) := by decide +kernel
theorem dX1_find_10 : decode cX1_find 10 = .ok (.if_icmp .ge 29, 3) := by decide +kernel
theorem dX1_find_13 : decode cX1_find 13 = .ok (.aload_n 0, 1) := by decide +kernel
theorem dX1_find_14 : decode cX1_find 14 = .ok (.aload_n 1, 1) := by decide +kernel
theorem dX1_find_15 : decode cX1_find 15 = .ok (.iload 4, 2) := by decide +kernel
theorem dX1_find_17 : decode cX1_find 17 = .ok (.invokevirtual 11, 3) := by decide +kernel
theorem dX1_find_20 : decode cX1_find 20 = .ok (.ifCond .eq 13, 3) := by decide +kernel
theorem dX1_find_23 : decode cX1_find 23 = .ok (.iload_n 3, 1) := by decide +kernel
theorem dX1_find_24 : decode cX1_find 24 = .ok (.iload_n 2, 1) := by decide +kernel
theorem dX1_find_25 : decode cX1_find 25 = .ok (.if_icmp .ne 5, 3) := by decide +kernel
theorem dX1_find_28 : decode cX1_find 28 = .ok (.iconst 1, 1) := by decide +kernel
theorem dX1_find_29 : decode cX1_find 29 = .ok (.ireturn, 1) := by decide +kernel
theorem dX1_find_30 : decode cX1_find 30 = .ok (.iinc 3 1, 3) := by decide +kernel
theorem dX1_find_33 : decode cX1_find 33 = .ok (.iinc 4 1, 3) := by decide +kernel
theorem dX1_find_36 : decode cX1_find 36 = .ok (.goto (-31), 3) := by decide +kernel
theorem dX1_find_39 : decode cX1_find 39 = .ok (.iconst 0, 1) := by decide +kernel
theorem dX1_find_40 : decode cX1_find 40 = .ok (.ireturn, 1) := by decide +kernel
set_option maxRecDepth 20000 in
theorem ggX1_findParting_X1_isOverlap : GoodIn wsX1_findParting wsX1_isOverlap := goodIn_r _ [5, 6, 7, 8, 9, 10, 11, 12, 13, 14, 15, 16, 17, 4, 18, 19, 20, 21, 22, 23, 24, 25, 26, 27, 28, 78, 79, 80, 81, 82, 83, 84, 85, 86, 87, 88, 89] (by decide +kernel) (by decide +kernel)
set_option maxRecDepth 20000 in
theorem gX1_findParting_X1_isOverlap : GoodIn wsX1_findParting (wsV RX1 11 RX1 yX1_isOverlap wsX1_isOverlap) := goodIn_app (goodIn_of _ (by decide +kernel)) ggX1_findParting_X1_isOverlap
set_option maxRecDepth 20000 in
theorem ggX1_findParting_X1_verdict : GoodIn wsX1_findParting wsX1_verdict := goodIn_r _ [32, 33, 34, 35, 36, 37, 4, 38, 9, 6, 39, 11, 40, 41, 42, 43, 27, 22, 20, 23, 19, 21, 44, 45, 46, 47, 48, 49, 50, 51, 52, 53, 54, 55, 56, 57, 58, 59, 14, 60, 24, 25, 26, 28, 61, 62, 63, 64, 65, 66, 67, 68, 69, 70, 71, 7, 8, 72, 73, 74, 75, 76, 77, 90, 91, 92, 93, 94, 78, 79, 80, 81, 82, 83, 84, 85, 86, 87, 88, 89] (by decide +kernel) (by decide +kernel)
set_option maxRecDepth 20000 in
theorem gX1_findParting_X1_verdict : GoodIn wsX1_findParting (wsV RX1 21 RX1 yX1_verdict wsX1_verdict) := goodIn_app (goodIn_of _ (by decide +kernel)) ggX1_findParting_X1_verdict
theorem dX1_findParting_0 : decode cX1_findParting 0 = .ok (.iconst 0, 1) := by decide +kernel
theorem dX1_findParting_1 : decode cX1_findParting 1 = .ok (.istore_n 3, 1) := by decide +kernel
theorem dX1_findParting_2 : decode cX1_findParting 2 = .ok (.iload_n 3, 1) := by decide +kernel
theorem dX1_findParting_3 : decode cX1_findParting 3 = .ok (.sipush 400, 3) := by decide +kernel
theorem dX1_findParting_6 : decode cX1_findParting 6 = .ok (.if_icmp .ge 33, 3) := by decide +kernel
theorem dX1_findParting_9 : decode cX1_findParting 9 = .ok (.aload_n 0, 1) := by decide +kernel
theorem dX1_findParting_10 : decode cX1_findParting 10 = .ok (.aload_n 1, 1) := by decide +kernel
theorem dX1_findParting_11 : decode cX1_findParting 11 = .ok (.getfield 15, 3) := by decide +kernel
theorem dX1_findParting_14 : decode cX1_findParting 14 = .ok (.iload_n 3, 1) := by decide +kernel
theorem dX1_findParting_15 : decode cX1_findParting 15 = .ok (.invokevirtual 11, 3) := by decide +kernel
theorem dX1_findParting_18 : decode cX1_findParting 18 = .ok (.ifCond .eq 15, 3) := by decide +kernel
theorem dX1_findParting_21 : decode cX1_findParting 21 = .ok (.aload_n 0, 1) := by decide +kernel
theorem dX1_findParting_22 : decode cX1_findParting 22 = .ok (.aload_n 1, 1) := by decide +kernel
theorem dX1_findParting_23 : decode cX1_findParting 23 = .ok (.aload_n 2, 1) := by decide +kernel
theorem dX1_findParting_24 : decode cX1_findParting 24 = .ok (.invokevirtual 21, 3) := by decide +kernel
theorem dX1_findParting_27 : decode cX1_findParting 27 = .ok (.iconst 1, 1) := by decide +kernel
theorem dX1_findParting_28 : decode cX1_findParting 28 = .ok (.if_icmp .ne 5, 3) := by decide +kernel
theorem dX1_findParting_31 : decode cX1_findParting 31 = .ok (.iconst 1, 1) := by decide +kernel
theorem dX1_findParting_32 : decode cX1_findParting 32 = .ok (.ireturn, 1) := by decide +kernel
theorem dX1_findParting_33 : decode cX1_findParting 33 = .ok (.iinc 3 1, 3) := by decide +kernel
theorem dX1_findParting_36 : decode cX1_findParting 36 = .ok (.goto (-34), 3) := by decide +kernel
theorem dX1_findParting_39 : decode cX1_findParting 39 = .ok (.iconst 0, 1) := by decide +kernel
theorem dX1_findParting_40 : decode cX1_findParting 40 = .ok (.ireturn, 1) := by decide +kernel
set_option maxRecDepth 20000 in
theorem ggX1_howMany_X1_isOverlap : GoodIn wsX1_howMany wsX1_isOverlap := goodIn_r _ [5, 6, 7, 8, 9, 10, 11, 12, 13, 14, 15, 16, 17, 4, 18, 19, 20, 21, 22, 23, 24, 25, 26, 27, 28, 29, 30, 31, 32, 33, 34, 35, 36, 37, 38, 39, 40] (by decide +kernel) (by decide +kernel)
set_option maxRecDepth 20000 in
theorem gX1_howMany_X1_isOverlap : GoodIn wsX1_howMany (wsV RX1 11 RX1 yX1_isOverlap wsX1_isOverlap) := goodIn_app (goodIn_of _ (by decide +kernel)) ggX1_howMany_X1_isOverlap
theorem dX1_howMany_0 : decode cX1_howMany 0 = .ok (.iconst 0, 1) := by decide +kernel
theorem dX1_howMany_1 : decode cX1_howMany 1 = .ok (.istore_n 2, 1) := by decide +kernel
theorem dX1_howMany_2 : decode cX1_howMany 2 = .ok (.iconst 0, 1) := by decide +kernel
theorem dX1_howMany_3 : decode cX1_howMany 3 = .ok (.istore_n 3, 1) := by decide +kernel
theorem dX1_howMany_4 : decode cX1_howMany 4 = .ok (.iload_n 3, 1) := by decide +kernel
theorem dX1_howMany_5 : decode cX1_howMany 5 = .ok (.sipush 400, 3) := by decide +kernel
theorem dX1_howMany_8 : decode cX1_howMany 8 = .ok (.if_icmp .ge 21, 3) := by decide +kernel
theorem dX1_howMany_11 : decode cX1_howMany 11 = .ok (.aload_n 0, 1) := by decide +kernel
theorem dX1_howMany_12 : decode cX1_howMany 12 = .ok (.aload_n 1, 1) := by decide +kernel
theorem dX1_howMany_13 : decode cX1_howMany 13 = .ok (.iload_n 3, 1) := by decide +kernel
theorem dX1_howMany_14 : decode cX1_howMany 14 = .ok (.invokevirtual 11, 3) := by decide +kernel
theorem dX1_howMany_17 : decode cX1_howMany 17 = .ok (.ifCond .eq 6, 3) := by decide +kernel
theorem dX1_howMany_20 : decode cX1_howMany 20 = .ok (.iinc 2 1, 3) := by decide +kernel
theorem dX1_howMany_23 : decode cX1_howMany 23 = .ok (.iinc 3 1, 3) := by decide +kernel
theorem dX1_howMany_26 : decode cX1_howMany 26 = .ok (.goto (-22), 3) := by decide +kernel
theorem dX1_howMany_29 : decode cX1_howMany 29 = .ok (.iload_n 2, 1) := by decide +kernel
theorem dX1_howMany_30 : decode cX1_howMany 30 = .ok (.ireturn, 1) := by decide +kernel
set_option maxRecDepth 20000 in
theorem ggX1_howManyAre_X1_isOverlap : GoodIn wsX1_howManyAre wsX1_isOverlap := goodIn_r _ [5, 6, 7, 8, 9, 10, 11, 12, 13, 14, 15, 16, 17, 4, 18, 19, 20, 21, 22, 23, 24, 25, 26, 27, 28, 78, 79, 80, 81, 82, 83, 84, 85, 86, 87, 88, 89] (by decide +kernel) (by decide +kernel)
set_option maxRecDepth 20000 in
theorem gX1_howManyAre_X1_isOverlap : GoodIn wsX1_howManyAre (wsV RX1 11 RX1 yX1_isOverlap wsX1_isOverlap) := goodIn_app (goodIn_of _ (by decide +kernel)) ggX1_howManyAre_X1_isOverlap
set_option maxRecDepth 20000 in
theorem ggX1_howManyAre_X1_verdict : GoodIn wsX1_howManyAre wsX1_verdict := goodIn_r _ [32, 33, 34, 35, 36, 37, 4, 38, 9, 6, 39, 11, 40, 41, 42, 43, 27, 22, 20, 23, 19, 21, 44, 45, 46, 47, 48, 49, 50, 51, 52, 53, 54, 55, 56, 57, 58, 59, 14, 60, 24, 25, 26, 28, 61, 62, 63, 64, 65, 66, 67, 68, 69, 70, 71, 7, 8, 72, 73, 74, 75, 76, 77, 90, 91, 92, 93, 94, 78, 79, 80, 81, 82, 83, 84, 85, 86, 87, 88, 89] (by decide +kernel) (by decide +kernel)
set_option maxRecDepth 20000 in
theorem gX1_howManyAre_X1_verdict : GoodIn wsX1_howManyAre (wsV RX1 21 RX1 yX1_verdict wsX1_verdict) := goodIn_app (goodIn_of _ (by decide +kernel)) ggX1_howManyAre_X1_verdict
theorem dX1_howManyAre_0 : decode cX1_howManyAre 0 = .ok (.iconst 0, 1) := by decide +kernel
theorem dX1_howManyAre_1 : decode cX1_howManyAre 1 = .ok (.istore 4, 2) := by decide +kernel
theorem dX1_howManyAre_3 : decode cX1_howManyAre 3 = .ok (.iconst 0, 1) := by decide +kernel
theorem dX1_howManyAre_4 : decode cX1_howManyAre 4 = .ok (.istore 5, 2) := by decide +kernel
theorem dX1_howManyAre_6 : decode cX1_howManyAre 6 = .ok (.iload 5, 2) := by decide +kernel
theorem dX1_howManyAre_8 : decode cX1_howManyAre 8 = .ok (.sipush 400, 3) := by decide +kernel
theorem dX1_howManyAre_11 : decode cX1_howManyAre 11 = .ok (.if_icmp .ge 35, 3) := by decide +kernel
theorem dX1_howManyAre_14 : decode cX1_howManyAre 14 = .ok (.aload_n 0, 1) := by decide +kernel
theorem dX1_howManyAre_15 : decode cX1_howManyAre 15 = .ok (.aload_n 2, 1) := by decide +kernel
theorem dX1_howManyAre_16 : decode cX1_howManyAre 16 = .ok (.getfield 15, 3) := by decide +kernel
theorem dX1_howManyAre_19 : decode cX1_howManyAre 19 = .ok (.iload 5, 2) := by decide +kernel
theorem dX1_howManyAre_21 : decode cX1_howManyAre 21 = .ok (.invokevirtual 11, 3) := by decide +kernel
theorem dX1_howManyAre_24 : decode cX1_howManyAre 24 = .ok (.ifCond .eq 16, 3) := by decide +kernel
theorem dX1_howManyAre_27 : decode cX1_howManyAre 27 = .ok (.aload_n 0, 1) := by decide +kernel
theorem dX1_howManyAre_28 : decode cX1_howManyAre 28 = .ok (.aload_n 2, 1) := by decide +kernel
theorem dX1_howManyAre_29 : decode cX1_howManyAre 29 = .ok (.aload_n 3, 1) := by decide +kernel
theorem dX1_howManyAre_30 : decode cX1_howManyAre 30 = .ok (.invokevirtual 21, 3) := by decide +kernel
theorem dX1_howManyAre_33 : decode cX1_howManyAre 33 = .ok (.iload_n 1, 1) := by decide +kernel
theorem dX1_howManyAre_34 : decode cX1_howManyAre 34 = .ok (.if_icmp .ne 6, 3) := by decide +kernel
theorem dX1_howManyAre_37 : decode cX1_howManyAre 37 = .ok (.iinc 4 1, 3) := by decide +kernel
theorem dX1_howManyAre_40 : decode cX1_howManyAre 40 = .ok (.iinc 5 1, 3) := by decide +kernel
theorem dX1_howManyAre_43 : decode cX1_howManyAre 43 = .ok (.goto (-37), 3) := by decide +kernel
theorem dX1_howManyAre_46 : decode cX1_howManyAre 46 = .ok (.iload 4, 2) := by decide +kernel
theorem dX1_howManyAre_48 : decode cX1_howManyAre 48 = .ok (.ireturn, 1) := by decide +kernel
set_option maxRecDepth 20000 in
theorem ggX1_isOverlap_X4_contains : GoodIn wsX1_isOverlap wsX4_contains := goodIn_r _ [8, 9, 31, 32, 33, 34, 35, 36] (by decide +kernel) (by decide +kernel)
set_option maxRecDepth 20000 in
theorem gX1_isOverlap_X4_contains_n35 : GoodIn wsX1_isOverlap (wsX4_contains) := ggX1_isOverlap_X4_contains
set_option maxRecDepth 20000 in
theorem ggX1_isOverlap_X1_coveredWord : GoodIn wsX1_isOverlap wsX1_coveredWord := goodIn_r _ [14, 1, 2, 15, 16, 17, 31, 32, 33, 34, 35, 36, 25, 26, 27, 28, 29, 30] (by decide +kernel) (by decide +kernel)
set_option maxRecDepth 20000 in
theorem gX1_isOverlap_X1_coveredWord : GoodIn wsX1_isOverlap (wsV RX1 45 RX1 yX1_coveredWord wsX1_coveredWord) := goodIn_app (goodIn_of _ (by decide +kernel)) ggX1_isOverlap_X1_coveredWord
set_option maxRecDepth 20000 in
theorem ggX1_isOverlap_X9_lengthOf : GoodIn wsX1_isOverlap wsX9_lengthOf := goodIn_r _ [19] (by decide +kernel) (by decide +kernel)
set_option maxRecDepth 20000 in
theorem gX1_isOverlap_X9_lengthOf_n52 : GoodIn wsX1_isOverlap (wsX9_lengthOf) := ggX1_isOverlap_X9_lengthOf
set_option maxRecDepth 20000 in
theorem ggX1_isOverlap_X4_appliesAt : GoodIn wsX1_isOverlap wsX4_appliesAt := goodIn_r _ [22, 23, 24, 31, 32, 33, 34, 35, 36] (by decide +kernel) (by decide +kernel)
set_option maxRecDepth 20000 in
theorem gX1_isOverlap_X4_appliesAt_n58 : GoodIn wsX1_isOverlap (wsX4_appliesAt) := ggX1_isOverlap_X4_appliesAt
theorem dX1_isOverlap_0 : decode cX1_isOverlap 0 = .ok (.aload_n 0, 1) := by decide +kernel
theorem dX1_isOverlap_1 : decode cX1_isOverlap 1 = .ok (.iload_n 2, 1) := by decide +kernel
theorem dX1_isOverlap_2 : decode cX1_isOverlap 2 = .ok (.bipush 40, 2) := by decide +kernel
theorem dX1_isOverlap_4 : decode cX1_isOverlap 4 = .ok (.idiv, 1) := by decide +kernel
theorem dX1_isOverlap_5 : decode cX1_isOverlap 5 = .ok (.putfield 25, 3) := by decide +kernel
theorem dX1_isOverlap_8 : decode cX1_isOverlap 8 = .ok (.aload_n 0, 1) := by decide +kernel
theorem dX1_isOverlap_9 : decode cX1_isOverlap 9 = .ok (.iload_n 2, 1) := by decide +kernel
theorem dX1_isOverlap_10 : decode cX1_isOverlap 10 = .ok (.iconst 4, 1) := by decide +kernel
theorem dX1_isOverlap_11 : decode cX1_isOverlap 11 = .ok (.idiv, 1) := by decide +kernel
theorem dX1_isOverlap_12 : decode cX1_isOverlap 12 = .ok (.bipush 10, 2) := by decide +kernel
theorem dX1_isOverlap_14 : decode cX1_isOverlap 14 = .ok (.irem, 1) := by decide +kernel
theorem dX1_isOverlap_15 : decode cX1_isOverlap 15 = .ok (.putfield 29, 3) := by decide +kernel
theorem dX1_isOverlap_18 : decode cX1_isOverlap 18 = .ok (.aload_n 0, 1) := by decide +kernel
theorem dX1_isOverlap_19 : decode cX1_isOverlap 19 = .ok (.iload_n 2, 1) := by decide +kernel
theorem dX1_isOverlap_20 : decode cX1_isOverlap 20 = .ok (.iconst 4, 1) := by decide +kernel
theorem dX1_isOverlap_21 : decode cX1_isOverlap 21 = .ok (.irem, 1) := by decide +kernel
theorem dX1_isOverlap_22 : decode cX1_isOverlap 22 = .ok (.putfield 32, 3) := by decide +kernel
theorem dX1_isOverlap_25 : decode cX1_isOverlap 25 = .ok (.aload_n 1, 1) := by decide +kernel
theorem dX1_isOverlap_26 : decode cX1_isOverlap 26 = .ok (.aload_n 0, 1) := by decide +kernel
theorem dX1_isOverlap_27 : decode cX1_isOverlap 27 = .ok (.getfield 25, 3) := by decide +kernel
theorem dX1_isOverlap_30 : decode cX1_isOverlap 30 = .ok (.invokevirtual 35, 3) := by decide +kernel
theorem dX1_isOverlap_33 : decode cX1_isOverlap 33 = .ok (.ifCond .eq 14, 3) := by decide +kernel
theorem dX1_isOverlap_36 : decode cX1_isOverlap 36 = .ok (.aload_n 1, 1) := by decide +kernel
theorem dX1_isOverlap_37 : decode cX1_isOverlap 37 = .ok (.aload_n 0, 1) := by decide +kernel
theorem dX1_isOverlap_38 : decode cX1_isOverlap 38 = .ok (.getfield 29, 3) := by decide +kernel
theorem dX1_isOverlap_41 : decode cX1_isOverlap 41 = .ok (.invokevirtual 35, 3) := by decide +kernel
theorem dX1_isOverlap_44 : decode cX1_isOverlap 44 = .ok (.ifCond .ne 5, 3) := by decide +kernel
theorem dX1_isOverlap_47 : decode cX1_isOverlap 47 = .ok (.iconst 0, 1) := by decide +kernel
theorem dX1_isOverlap_48 : decode cX1_isOverlap 48 = .ok (.ireturn, 1) := by decide +kernel
theorem dX1_isOverlap_49 : decode cX1_isOverlap 49 = .ok (.aload_n 1, 1) := by decide +kernel
theorem dX1_isOverlap_50 : decode cX1_isOverlap 50 = .ok (.getfield 41, 3) := by decide +kernel
theorem dX1_isOverlap_53 : decode cX1_isOverlap 53 = .ok (.aload_n 0, 1) := by decide +kernel
theorem dX1_isOverlap_54 : decode cX1_isOverlap 54 = .ok (.getfield 25, 3) := by decide +kernel
theorem dX1_isOverlap_57 : decode cX1_isOverlap 57 = .ok (.iaload, 1) := by decide +kernel
theorem dX1_isOverlap_58 : decode cX1_isOverlap 58 = .ok (.istore_n 3, 1) := by decide +kernel
theorem dX1_isOverlap_59 : decode cX1_isOverlap 59 = .ok (.aload_n 0, 1) := by decide +kernel
theorem dX1_isOverlap_60 : decode cX1_isOverlap 60 = .ok (.getfield 32, 3) := by decide +kernel
theorem dX1_isOverlap_63 : decode cX1_isOverlap 63 = .ok (.aload_n 1, 1) := by decide +kernel
theorem dX1_isOverlap_64 : decode cX1_isOverlap 64 = .ok (.getfield 41, 3) := by decide +kernel
theorem dX1_isOverlap_67 : decode cX1_isOverlap 67 = .ok (.aload_n 0, 1) := by decide +kernel
theorem dX1_isOverlap_68 : decode cX1_isOverlap 68 = .ok (.getfield 29, 3) := by decide +kernel
theorem dX1_isOverlap_71 : decode cX1_isOverlap 71 = .ok (.iaload, 1) := by decide +kernel
theorem dX1_isOverlap_72 : decode cX1_isOverlap 72 = .ok (.iadd, 1) := by decide +kernel
theorem dX1_isOverlap_73 : decode cX1_isOverlap 73 = .ok (.istore 4, 2) := by decide +kernel
theorem dX1_isOverlap_75 : decode cX1_isOverlap 75 = .ok (.aload_n 0, 1) := by decide +kernel
theorem dX1_isOverlap_76 : decode cX1_isOverlap 76 = .ok (.getfield 32, 3) := by decide +kernel
theorem dX1_isOverlap_79 : decode cX1_isOverlap 79 = .ok (.ifCond .le 21, 3) := by decide +kernel
theorem dX1_isOverlap_82 : decode cX1_isOverlap 82 = .ok (.aload_n 0, 1) := by decide +kernel
theorem dX1_isOverlap_83 : decode cX1_isOverlap 83 = .ok (.getfield 32, 3) := by decide +kernel
theorem dX1_isOverlap_86 : decode cX1_isOverlap 86 = .ok (.iload_n 3, 1) := by decide +kernel
theorem dX1_isOverlap_87 : decode cX1_isOverlap 87 = .ok (.if_icmp .ge 13, 3) := by decide +kernel
theorem dX1_isOverlap_90 : decode cX1_isOverlap 90 = .ok (.iload 4, 2) := by decide +kernel
theorem dX1_isOverlap_92 : decode cX1_isOverlap 92 = .ok (.iload_n 3, 1) := by decide +kernel
theorem dX1_isOverlap_93 : decode cX1_isOverlap 93 = .ok (.if_icmp .lt 7, 3) := by decide +kernel
theorem dX1_isOverlap_96 : decode cX1_isOverlap 96 = .ok (.iconst 1, 1) := by decide +kernel
theorem dX1_isOverlap_97 : decode cX1_isOverlap 97 = .ok (.goto 4, 3) := by decide +kernel
theorem dX1_isOverlap_100 : decode cX1_isOverlap 100 = .ok (.iconst 0, 1) := by decide +kernel
theorem dX1_isOverlap_101 : decode cX1_isOverlap 101 = .ok (.istore 5, 2) := by decide +kernel
theorem dX1_isOverlap_103 : decode cX1_isOverlap 103 = .ok (.aload_n 0, 1) := by decide +kernel
theorem dX1_isOverlap_104 : decode cX1_isOverlap 104 = .ok (.getfield 25, 3) := by decide +kernel
theorem dX1_isOverlap_107 : decode cX1_isOverlap 107 = .ok (.aload_n 0, 1) := by decide +kernel
theorem dX1_isOverlap_108 : decode cX1_isOverlap 108 = .ok (.getfield 29, 3) := by decide +kernel
theorem dX1_isOverlap_111 : decode cX1_isOverlap 111 = .ok (.if_icmp .eq 13, 3) := by decide +kernel
theorem dX1_isOverlap_114 : decode cX1_isOverlap 114 = .ok (.iload 4, 2) := by decide +kernel
theorem dX1_isOverlap_116 : decode cX1_isOverlap 116 = .ok (.iload_n 3, 1) := by decide +kernel
theorem dX1_isOverlap_117 : decode cX1_isOverlap 117 = .ok (.if_icmp .gt 7, 3) := by decide +kernel
theorem dX1_isOverlap_120 : decode cX1_isOverlap 120 = .ok (.iconst 1, 1) := by decide +kernel
theorem dX1_isOverlap_121 : decode cX1_isOverlap 121 = .ok (.goto 4, 3) := by decide +kernel
theorem dX1_isOverlap_124 : decode cX1_isOverlap 124 = .ok (.iconst 0, 1) := by decide +kernel
theorem dX1_isOverlap_125 : decode cX1_isOverlap 125 = .ok (.istore 6, 2) := by decide +kernel
theorem dX1_isOverlap_127 : decode cX1_isOverlap 127 = .ok (.iload 5, 2) := by decide +kernel
theorem dX1_isOverlap_129 : decode cX1_isOverlap 129 = .ok (.ifCond .ne 10, 3) := by decide +kernel
theorem dX1_isOverlap_132 : decode cX1_isOverlap 132 = .ok (.iload 6, 2) := by decide +kernel
theorem dX1_isOverlap_134 : decode cX1_isOverlap 134 = .ok (.ifCond .ne 5, 3) := by decide +kernel
theorem dX1_isOverlap_137 : decode cX1_isOverlap 137 = .ok (.iconst 0, 1) := by decide +kernel
theorem dX1_isOverlap_138 : decode cX1_isOverlap 138 = .ok (.ireturn, 1) := by decide +kernel
theorem dX1_isOverlap_139 : decode cX1_isOverlap 139 = .ok (.aload_n 0, 1) := by decide +kernel
theorem dX1_isOverlap_140 : decode cX1_isOverlap 140 = .ok (.aload_n 0, 1) := by decide +kernel
theorem dX1_isOverlap_141 : decode cX1_isOverlap 141 = .ok (.aload_n 1, 1) := by decide +kernel
theorem dX1_isOverlap_142 : decode cX1_isOverlap 142 = .ok (.iload 4, 2) := by decide +kernel
theorem dX1_isOverlap_144 : decode cX1_isOverlap 144 = .ok (.iload_n 3, 1) := by decide +kernel
theorem dX1_isOverlap_145 : decode cX1_isOverlap 145 = .ok (.isub, 1) := by decide +kernel
theorem dX1_isOverlap_146 : decode cX1_isOverlap 146 = .ok (.invokevirtual 45, 3) := by decide +kernel
theorem dX1_isOverlap_149 : decode cX1_isOverlap 149 = .ok (.putfield 49, 3) := by decide +kernel
theorem dX1_isOverlap_152 : decode cX1_isOverlap 152 = .ok (.aload_n 1, 1) := by decide +kernel
theorem dX1_isOverlap_153 : decode cX1_isOverlap 153 = .ok (.aload_n 0, 1) := by decide +kernel
theorem dX1_isOverlap_154 : decode cX1_isOverlap 154 = .ok (.getfield 49, 3) := by decide +kernel
theorem dX1_isOverlap_157 : decode cX1_isOverlap 157 = .ok (.aload_n 0, 1) := by decide +kernel
theorem dX1_isOverlap_158 : decode cX1_isOverlap 158 = .ok (.getfield 49, 3) := by decide +kernel
theorem dX1_isOverlap_161 : decode cX1_isOverlap 161 = .ok (.invokestatic 52, 3) := by decide +kernel
theorem dX1_isOverlap_164 : decode cX1_isOverlap 164 = .ok (.aload_n 0, 1) := by decide +kernel
theorem dX1_isOverlap_165 : decode cX1_isOverlap 165 = .ok (.getfield 25, 3) := by decide +kernel
theorem dX1_isOverlap_168 : decode cX1_isOverlap 168 = .ok (.iconst 0, 1) := by decide +kernel
theorem dX1_isOverlap_169 : decode cX1_isOverlap 169 = .ok (.invokevirtual 58, 3) := by decide +kernel
theorem dX1_isOverlap_172 : decode cX1_isOverlap 172 = .ok (.ifCond .eq 33, 3) := by decide +kernel
theorem dX1_isOverlap_175 : decode cX1_isOverlap 175 = .ok (.aload_n 1, 1) := by decide +kernel
theorem dX1_isOverlap_176 : decode cX1_isOverlap 176 = .ok (.aload_n 0, 1) := by decide +kernel
theorem dX1_isOverlap_177 : decode cX1_isOverlap 177 = .ok (.getfield 49, 3) := by decide +kernel
theorem dX1_isOverlap_180 : decode cX1_isOverlap 180 = .ok (.aload_n 0, 1) := by decide +kernel
theorem dX1_isOverlap_181 : decode cX1_isOverlap 181 = .ok (.getfield 49, 3) := by decide +kernel
theorem dX1_isOverlap_184 : decode cX1_isOverlap 184 = .ok (.invokestatic 52, 3) := by decide +kernel
theorem dX1_isOverlap_187 : decode cX1_isOverlap 187 = .ok (.aload_n 0, 1) := by decide +kernel
theorem dX1_isOverlap_188 : decode cX1_isOverlap 188 = .ok (.getfield 29, 3) := by decide +kernel
theorem dX1_isOverlap_191 : decode cX1_isOverlap 191 = .ok (.aload_n 0, 1) := by decide +kernel
theorem dX1_isOverlap_192 : decode cX1_isOverlap 192 = .ok (.getfield 32, 3) := by decide +kernel
theorem dX1_isOverlap_195 : decode cX1_isOverlap 195 = .ok (.invokevirtual 58, 3) := by decide +kernel
theorem dX1_isOverlap_198 : decode cX1_isOverlap 198 = .ok (.ifCond .eq 7, 3) := by decide +kernel
theorem dX1_isOverlap_201 : decode cX1_isOverlap 201 = .ok (.iconst 1, 1) := by decide +kernel
theorem dX1_isOverlap_202 : decode cX1_isOverlap 202 = .ok (.goto 4, 3) := by decide +kernel
theorem dX1_isOverlap_205 : decode cX1_isOverlap 205 = .ok (.iconst 0, 1) := by decide +kernel
theorem dX1_isOverlap_206 : decode cX1_isOverlap 206 = .ok (.ireturn, 1) := by decide +kernel
set_option maxRecDepth 20000 in
theorem ggX1_coveredWord_X9_lastBits : GoodIn wsX1_coveredWord wsX9_lastBits := goodIn_r _ [5] (by decide +kernel) (by decide +kernel)
set_option maxRecDepth 20000 in
theorem gX1_coveredWord_X9_lastBits_n65 : GoodIn wsX1_coveredWord (wsX9_lastBits) := ggX1_coveredWord_X9_lastBits
theorem dX1_coveredWord_0 : decode cX1_coveredWord 0 = .ok (.aload_n 1, 1) := by decide +kernel
theorem dX1_coveredWord_1 : decode cX1_coveredWord 1 = .ok (.getfield 62, 3) := by decide +kernel
theorem dX1_coveredWord_4 : decode cX1_coveredWord 4 = .ok (.aload_n 0, 1) := by decide +kernel
theorem dX1_coveredWord_5 : decode cX1_coveredWord 5 = .ok (.getfield 25, 3) := by decide +kernel
theorem dX1_coveredWord_8 : decode cX1_coveredWord 8 = .ok (.iaload, 1) := by decide +kernel
theorem dX1_coveredWord_9 : decode cX1_coveredWord 9 = .ok (.istore_n 3, 1) := by decide +kernel
theorem dX1_coveredWord_10 : decode cX1_coveredWord 10 = .ok (.iload_n 2, 1) := by decide +kernel
theorem dX1_coveredWord_11 : decode cX1_coveredWord 11 = .ok (.ifCond .gt 5, 3) := by decide +kernel
theorem dX1_coveredWord_14 : decode cX1_coveredWord 14 = .ok (.iload_n 3, 1) := by decide +kernel
theorem dX1_coveredWord_15 : decode cX1_coveredWord 15 = .ok (.ireturn, 1) := by decide +kernel
theorem dX1_coveredWord_16 : decode cX1_coveredWord 16 = .ok (.iload_n 3, 1) := by decide +kernel
theorem dX1_coveredWord_17 : decode cX1_coveredWord 17 = .ok (.iconst 2, 1) := by decide +kernel
theorem dX1_coveredWord_18 : decode cX1_coveredWord 18 = .ok (.iload_n 2, 1) := by decide +kernel
theorem dX1_coveredWord_19 : decode cX1_coveredWord 19 = .ok (.imul, 1) := by decide +kernel
theorem dX1_coveredWord_20 : decode cX1_coveredWord 20 = .ok (.ishl, 1) := by decide +kernel
theorem dX1_coveredWord_21 : decode cX1_coveredWord 21 = .ok (.aload_n 1, 1) := by decide +kernel
theorem dX1_coveredWord_22 : decode cX1_coveredWord 22 = .ok (.getfield 62, 3) := by decide +kernel
theorem dX1_coveredWord_25 : decode cX1_coveredWord 25 = .ok (.aload_n 0, 1) := by decide +kernel
theorem dX1_coveredWord_26 : decode cX1_coveredWord 26 = .ok (.getfield 29, 3) := by decide +kernel
theorem dX1_coveredWord_29 : decode cX1_coveredWord 29 = .ok (.iaload, 1) := by decide +kernel
theorem dX1_coveredWord_30 : decode cX1_coveredWord 30 = .ok (.iload_n 2, 1) := by decide +kernel
theorem dX1_coveredWord_31 : decode cX1_coveredWord 31 = .ok (.invokestatic 65, 3) := by decide +kernel
theorem dX1_coveredWord_34 : decode cX1_coveredWord 34 = .ok (.ior, 1) := by decide +kernel
theorem dX1_coveredWord_35 : decode cX1_coveredWord 35 = .ok (.ireturn, 1) := by decide +kernel
set_option maxRecDepth 20000 in
theorem ggX1_firstWord_X4_applied : GoodIn wsX1_firstWord wsX4_applied := goodIn_r _ [6, 7, 8, 9, 10, 11, 12, 13, 14, 21, 22, 23, 24, 25, 26] (by decide +kernel) (by decide +kernel)
set_option maxRecDepth 20000 in
theorem gX1_firstWord_X4_applied_n69 : GoodIn wsX1_firstWord (wsX4_applied) := ggX1_firstWord_X4_applied
theorem dX1_firstWord_0 : decode cX1_firstWord 0 = .ok (.aload_n 1, 1) := by decide +kernel
theorem dX1_firstWord_1 : decode cX1_firstWord 1 = .ok (.aload_n 0, 1) := by decide +kernel
theorem dX1_firstWord_2 : decode cX1_firstWord 2 = .ok (.getfield 49, 3) := by decide +kernel
theorem dX1_firstWord_5 : decode cX1_firstWord 5 = .ok (.aload_n 0, 1) := by decide +kernel
theorem dX1_firstWord_6 : decode cX1_firstWord 6 = .ok (.getfield 25, 3) := by decide +kernel
theorem dX1_firstWord_9 : decode cX1_firstWord 9 = .ok (.iconst 0, 1) := by decide +kernel
theorem dX1_firstWord_10 : decode cX1_firstWord 10 = .ok (.invokevirtual 69, 3) := by decide +kernel
theorem dX1_firstWord_13 : decode cX1_firstWord 13 = .ok (.ireturn, 1) := by decide +kernel
set_option maxRecDepth 20000 in
theorem ggX1_secondWord_X4_applied : GoodIn wsX1_secondWord wsX4_applied := goodIn_r _ [7, 8, 9, 10, 11, 12, 13, 14, 15, 22, 23, 24, 25, 26, 27] (by decide +kernel) (by decide +kernel)
set_option maxRecDepth 20000 in
theorem gX1_secondWord_X4_applied_n69 : GoodIn wsX1_secondWord (wsX4_applied) := ggX1_secondWord_X4_applied
theorem dX1_secondWord_0 : decode cX1_secondWord 0 = .ok (.aload_n 1, 1) := by decide +kernel
theorem dX1_secondWord_1 : decode cX1_secondWord 1 = .ok (.aload_n 0, 1) := by decide +kernel
theorem dX1_secondWord_2 : decode cX1_secondWord 2 = .ok (.getfield 49, 3) := by decide +kernel
theorem dX1_secondWord_5 : decode cX1_secondWord 5 = .ok (.aload_n 0, 1) := by decide +kernel
theorem dX1_secondWord_6 : decode cX1_secondWord 6 = .ok (.getfield 29, 3) := by decide +kernel
theorem dX1_secondWord_9 : decode cX1_secondWord 9 = .ok (.aload_n 0, 1) := by decide +kernel
theorem dX1_secondWord_10 : decode cX1_secondWord 10 = .ok (.getfield 32, 3) := by decide +kernel
theorem dX1_secondWord_13 : decode cX1_secondWord 13 = .ok (.invokevirtual 69, 3) := by decide +kernel
theorem dX1_secondWord_16 : decode cX1_secondWord 16 = .ok (.ireturn, 1) := by decide +kernel
set_option maxRecDepth 20000 in
theorem ggX1_verdict_X1_firstWord : GoodIn wsX1_verdict wsX1_firstWord := goodIn_r _ [7, 8, 9, 10, 11, 12, 13, 14, 15, 16, 17, 18, 19, 20, 21, 68, 69, 70, 71, 72, 73, 74, 75, 76, 77, 78, 79] (by decide +kernel) (by decide +kernel)
set_option maxRecDepth 20000 in
theorem gX1_verdict_X1_firstWord : GoodIn wsX1_verdict (wsV RX1 76 RX1 yX1_firstWord wsX1_firstWord) := goodIn_app (goodIn_of _ (by decide +kernel)) ggX1_verdict_X1_firstWord
set_option maxRecDepth 20000 in
theorem ggX1_verdict_X3_run : GoodIn wsX1_verdict wsX3_run := goodIn_r _ [25, 26, 27, 28, 29, 30, 31, 32, 33, 23, 34, 35, 11, 36, 37, 38, 17, 18, 19, 39, 40, 41, 42, 16, 43, 44, 45, 46, 47, 10, 12, 13, 14, 15, 20, 21, 63, 64, 65, 66, 67, 74, 75, 76, 77, 78, 79] (by decide +kernel) (by decide +kernel)
set_option maxRecDepth 20000 in
theorem gX1_verdict_X3_run_n80 : GoodIn wsX1_verdict (wsX3_run) := ggX1_verdict_X3_run
set_option maxRecDepth 20000 in
theorem ggX1_verdict_X3_last : GoodIn wsX1_verdict wsX3_last := goodIn_r _ [50, 26, 27, 63, 64, 65, 66, 67] (by decide +kernel) (by decide +kernel)
set_option maxRecDepth 20000 in
theorem gX1_verdict_X3_last_n89 : GoodIn wsX1_verdict (wsX3_last) := ggX1_verdict_X3_last
set_option maxRecDepth 20000 in
theorem ggX1_verdict_X1_secondWord : GoodIn wsX1_verdict wsX1_secondWord := goodIn_r _ [54, 8, 55, 56, 10, 11, 12, 13, 14, 15, 16, 17, 18, 19, 20, 21, 68, 69, 70, 71, 72, 73, 74, 75, 76, 77, 78, 79] (by decide +kernel) (by decide +kernel)
set_option maxRecDepth 20000 in
theorem gX1_verdict_X1_secondWord : GoodIn wsX1_verdict (wsV RX1 96 RX1 yX1_secondWord wsX1_secondWord) := goodIn_app (goodIn_of _ (by decide +kernel)) ggX1_verdict_X1_secondWord
theorem dX1_verdict_0 : decode cX1_verdict 0 = .ok (.aload_n 2, 1) := by decide +kernel
theorem dX1_verdict_1 : decode cX1_verdict 1 = .ok (.aload_n 1, 1) := by decide +kernel
theorem dX1_verdict_2 : decode cX1_verdict 2 = .ok (.getfield 15, 3) := by decide +kernel
theorem dX1_verdict_5 : decode cX1_verdict 5 = .ok (.aload_n 1, 1) := by decide +kernel
theorem dX1_verdict_6 : decode cX1_verdict 6 = .ok (.getfield 73, 3) := by decide +kernel
theorem dX1_verdict_9 : decode cX1_verdict 9 = .ok (.aload_n 0, 1) := by decide +kernel
theorem dX1_verdict_10 : decode cX1_verdict 10 = .ok (.aload_n 1, 1) := by decide +kernel
theorem dX1_verdict_11 : decode cX1_verdict 11 = .ok (.getfield 15, 3) := by decide +kernel
theorem dX1_verdict_14 : decode cX1_verdict 14 = .ok (.invokevirtual 76, 3) := by decide +kernel
theorem dX1_verdict_17 : decode cX1_verdict 17 = .ok (.invokevirtual 80, 3) := by decide +kernel
theorem dX1_verdict_20 : decode cX1_verdict 20 = .ok (.aload_n 2, 1) := by decide +kernel
theorem dX1_verdict_21 : decode cX1_verdict 21 = .ok (.getfield 86, 3) := by decide +kernel
theorem dX1_verdict_24 : decode cX1_verdict 24 = .ok (.ifCond .eq 5, 3) := by decide +kernel
theorem dX1_verdict_27 : decode cX1_verdict 27 = .ok (.iconst 2, 1) := by decide +kernel
theorem dX1_verdict_28 : decode cX1_verdict 28 = .ok (.ireturn, 1) := by decide +kernel
theorem dX1_verdict_29 : decode cX1_verdict 29 = .ok (.aload_n 0, 1) := by decide +kernel
theorem dX1_verdict_30 : decode cX1_verdict 30 = .ok (.aload_n 2, 1) := by decide +kernel
theorem dX1_verdict_31 : decode cX1_verdict 31 = .ok (.invokevirtual 89, 3) := by decide +kernel
theorem dX1_verdict_34 : decode cX1_verdict 34 = .ok (.putfield 93, 3) := by decide +kernel
theorem dX1_verdict_37 : decode cX1_verdict 37 = .ok (.aload_n 2, 1) := by decide +kernel
theorem dX1_verdict_38 : decode cX1_verdict 38 = .ok (.aload_n 1, 1) := by decide +kernel
theorem dX1_verdict_39 : decode cX1_verdict 39 = .ok (.getfield 15, 3) := by decide +kernel
theorem dX1_verdict_42 : decode cX1_verdict 42 = .ok (.aload_n 1, 1) := by decide +kernel
theorem dX1_verdict_43 : decode cX1_verdict 43 = .ok (.getfield 73, 3) := by decide +kernel
theorem dX1_verdict_46 : decode cX1_verdict 46 = .ok (.aload_n 0, 1) := by decide +kernel
theorem dX1_verdict_47 : decode cX1_verdict 47 = .ok (.aload_n 1, 1) := by decide +kernel
theorem dX1_verdict_48 : decode cX1_verdict 48 = .ok (.getfield 15, 3) := by decide +kernel
theorem dX1_verdict_51 : decode cX1_verdict 51 = .ok (.invokevirtual 96, 3) := by decide +kernel
theorem dX1_verdict_54 : decode cX1_verdict 54 = .ok (.invokevirtual 80, 3) := by decide +kernel
theorem dX1_verdict_57 : decode cX1_verdict 57 = .ok (.aload_n 2, 1) := by decide +kernel
theorem dX1_verdict_58 : decode cX1_verdict 58 = .ok (.getfield 86, 3) := by decide +kernel
theorem dX1_verdict_61 : decode cX1_verdict 61 = .ok (.ifCond .eq 5, 3) := by decide +kernel
theorem dX1_verdict_64 : decode cX1_verdict 64 = .ok (.iconst 2, 1) := by decide +kernel
theorem dX1_verdict_65 : decode cX1_verdict 65 = .ok (.ireturn, 1) := by decide +kernel
theorem dX1_verdict_66 : decode cX1_verdict 66 = .ok (.aload_n 0, 1) := by decide +kernel
theorem dX1_verdict_67 : decode cX1_verdict 67 = .ok (.aload_n 2, 1) := by decide +kernel
theorem dX1_verdict_68 : decode cX1_verdict 68 = .ok (.invokevirtual 89, 3) := by decide +kernel
theorem dX1_verdict_71 : decode cX1_verdict 71 = .ok (.putfield 99, 3) := by decide +kernel
theorem dX1_verdict_74 : decode cX1_verdict 74 = .ok (.aload_n 0, 1) := by decide +kernel
theorem dX1_verdict_75 : decode cX1_verdict 75 = .ok (.getfield 93, 3) := by decide +kernel
theorem dX1_verdict_78 : decode cX1_verdict 78 = .ok (.aload_n 0, 1) := by decide +kernel
theorem dX1_verdict_79 : decode cX1_verdict 79 = .ok (.getfield 99, 3) := by decide +kernel
theorem dX1_verdict_82 : decode cX1_verdict 82 = .ok (.if_icmp .ne 7, 3) := by decide +kernel
theorem dX1_verdict_85 : decode cX1_verdict 85 = .ok (.iconst 0, 1) := by decide +kernel
theorem dX1_verdict_86 : decode cX1_verdict 86 = .ok (.goto 4, 3) := by decide +kernel
theorem dX1_verdict_89 : decode cX1_verdict 89 = .ok (.iconst 1, 1) := by decide +kernel
theorem dX1_verdict_90 : decode cX1_verdict 90 = .ok (.ireturn, 1) := by decide +kernel
theorem dX2_init_0 : decode cX2_init 0 = .ok (.aload_n 0, 1) := by decide +kernel
theorem dX2_init_1 : decode cX2_init 1 = .ok (.invokespecial 3, 3) := by decide +kernel
theorem dX2_init_4 : decode cX2_init 4 = .ok (.aload_n 0, 1) := by decide +kernel
theorem dX2_init_5 : decode cX2_init 5 = .ok (.sipush 400, 3) := by decide +kernel
theorem dX2_init_8 : decode cX2_init 8 = .ok (.newarray .int, 2) := by decide +kernel
theorem dX2_init_10 : decode cX2_init 10 = .ok (.putfield 9, 3) := by decide +kernel
theorem dX2_init_13 : decode cX2_init 13 = .ok (.aload_n 0, 1) := by decide +kernel
theorem dX2_init_14 : decode cX2_init 14 = .ok (.sipush 1024, 3) := by decide +kernel
theorem dX2_init_17 : decode cX2_init 17 = .ok (.newarray .int, 2) := by decide +kernel
theorem dX2_init_19 : decode cX2_init 19 = .ok (.putfield 15, 3) := by decide +kernel
theorem dX2_init_22 : decode cX2_init 22 = .ok (.return_, 1) := by decide +kernel
set_option maxRecDepth 20000 in
theorem ggX2_run_J7_fill_53178 : GoodIn wsX2_run wsJ7_fill_53178 := goodIn_r _ [9] (by decide +kernel) (by decide +kernel)
set_option maxRecDepth 20000 in
theorem gX2_run_J7_fill_53178 : GoodIn wsX2_run (va_wsS RX2 18 yJ7_fill_53178 wsJ7_fill_53178) := goodIn_app (goodIn_of _ (by decide +kernel)) ggX2_run_J7_fill_53178
set_option maxRecDepth 20000 in
theorem ggX2_run_X2_add : GoodIn wsX2_run wsX2_add := goodIn_r _ [14, 15, 1, 2, 3, 5, 49, 50, 51, 52, 53, 54, 55] (by decide +kernel) (by decide +kernel)
set_option maxRecDepth 20000 in
theorem gX2_run_X2_add : GoodIn wsX2_run (wsV RX2 35 RX2 yX2_add wsX2_add) := goodIn_app (goodIn_of _ (by decide +kernel)) ggX2_run_X2_add
set_option maxRecDepth 20000 in
theorem ggX2_run_X2_addAllFrom : GoodIn wsX2_run wsX2_addAllFrom := goodIn_r _ [19, 20, 21, 22, 23, 24, 25, 26, 27, 28, 29, 30, 31, 32, 33, 34, 35, 10, 11, 12, 13, 14, 15, 1, 2, 3, 5, 36, 37, 38, 39, 4, 40, 41, 42, 43, 44, 45, 46, 47, 48, 56, 57, 58, 59, 60, 61, 49, 50, 51, 52, 53, 54, 55] (by decide +kernel) (by decide +kernel)
set_option maxRecDepth 20000 in
theorem gX2_run_X2_addAllFrom : GoodIn wsX2_run (wsV RX2 39 RX2 yX2_addAllFrom wsX2_addAllFrom) := goodIn_app (goodIn_of _ (by decide +kernel)) ggX2_run_X2_addAllFrom
theorem dX2_run_0 : decode cX2_run 0 = .ok (.aload_n 0, 1) := by decide +kernel
theorem dX2_run_1 : decode cX2_run 1 = .ok (.getfield 15, 3) := by decide +kernel
theorem dX2_run_4 : decode cX2_run 4 = .ok (.iconst 0, 1) := by decide +kernel
theorem dX2_run_5 : decode cX2_run 5 = .ok (.invokestatic 18, 3) := by decide +kernel
theorem dX2_run_8 : decode cX2_run 8 = .ok (.aload_n 0, 1) := by decide +kernel
theorem dX2_run_9 : decode cX2_run 9 = .ok (.iconst 0, 1) := by decide +kernel
theorem dX2_run_10 : decode cX2_run 10 = .ok (.putfield 24, 3) := by decide +kernel
theorem dX2_run_13 : decode cX2_run 13 = .ok (.aload_n 0, 1) := by decide +kernel
theorem dX2_run_14 : decode cX2_run 14 = .ok (.iconst 0, 1) := by decide +kernel
theorem dX2_run_15 : decode cX2_run 15 = .ok (.putfield 28, 3) := by decide +kernel
theorem dX2_run_18 : decode cX2_run 18 = .ok (.aload_n 0, 1) := by decide +kernel
theorem dX2_run_19 : decode cX2_run 19 = .ok (.iconst 0, 1) := by decide +kernel
theorem dX2_run_20 : decode cX2_run 20 = .ok (.putfield 32, 3) := by decide +kernel
theorem dX2_run_23 : decode cX2_run 23 = .ok (.aload_n 0, 1) := by decide +kernel
theorem dX2_run_24 : decode cX2_run 24 = .ok (.iload_n 2, 1) := by decide +kernel
theorem dX2_run_25 : decode cX2_run 25 = .ok (.invokevirtual 35, 3) := by decide +kernel
theorem dX2_run_28 : decode cX2_run 28 = .ok (.iconst 0, 1) := by decide +kernel
theorem dX2_run_29 : decode cX2_run 29 = .ok (.istore_n 3, 1) := by decide +kernel
theorem dX2_run_30 : decode cX2_run 30 = .ok (.iload_n 3, 1) := by decide +kernel
theorem dX2_run_31 : decode cX2_run 31 = .ok (.aload_n 0, 1) := by decide +kernel
theorem dX2_run_32 : decode cX2_run 32 = .ok (.getfield 24, 3) := by decide +kernel
theorem dX2_run_35 : decode cX2_run 35 = .ok (.if_icmp .ge 34, 3) := by decide +kernel
theorem dX2_run_38 : decode cX2_run 38 = .ok (.iload_n 3, 1) := by decide +kernel
theorem dX2_run_39 : decode cX2_run 39 = .ok (.sipush 400, 3) := by decide +kernel
theorem dX2_run_42 : decode cX2_run 42 = .ok (.if_icmp .ge 27, 3) := by decide +kernel
theorem dX2_run_45 : decode cX2_run 45 = .ok (.aload_n 0, 1) := by decide +kernel
theorem dX2_run_46 : decode cX2_run 46 = .ok (.getfield 28, 3) := by decide +kernel
theorem dX2_run_49 : decode cX2_run 49 = .ok (.ifCond .ne 20, 3) := by decide +kernel
theorem dX2_run_52 : decode cX2_run 52 = .ok (.aload_n 0, 1) := by decide +kernel
theorem dX2_run_53 : decode cX2_run 53 = .ok (.aload_n 0, 1) := by decide +kernel
theorem dX2_run_54 : decode cX2_run 54 = .ok (.getfield 9, 3) := by decide +kernel
theorem dX2_run_57 : decode cX2_run 57 = .ok (.iload_n 3, 1) := by decide +kernel
theorem dX2_run_58 : decode cX2_run 58 = .ok (.iaload, 1) := by decide +kernel
theorem dX2_run_59 : decode cX2_run 59 = .ok (.aload_n 1, 1) := by decide +kernel
theorem dX2_run_60 : decode cX2_run 60 = .ok (.invokevirtual 39, 3) := by decide +kernel
theorem dX2_run_63 : decode cX2_run 63 = .ok (.iinc 3 1, 3) := by decide +kernel
theorem dX2_run_66 : decode cX2_run 66 = .ok (.goto (-36), 3) := by decide +kernel
theorem dX2_run_69 : decode cX2_run 69 = .ok (.return_, 1) := by decide +kernel
set_option maxRecDepth 20000 in
theorem ggX2_addAllFrom_X9_lengthOf : GoodIn wsX2_addAllFrom wsX9_lengthOf := goodIn_r _ [3] (by decide +kernel) (by decide +kernel)
set_option maxRecDepth 20000 in
theorem gX2_addAllFrom_X9_lengthOf_n43 : GoodIn wsX2_addAllFrom (wsX9_lengthOf) := ggX2_addAllFrom_X9_lengthOf
set_option maxRecDepth 20000 in
theorem ggX2_addAllFrom_X4_appliesAt : GoodIn wsX2_addAllFrom wsX4_appliesAt := goodIn_r _ [7, 8, 9, 41, 42, 43, 44, 45, 46] (by decide +kernel) (by decide +kernel)
set_option maxRecDepth 20000 in
theorem gX2_addAllFrom_X4_appliesAt_n52 : GoodIn wsX2_addAllFrom (wsX4_appliesAt) := ggX2_addAllFrom_X4_appliesAt
set_option maxRecDepth 20000 in
theorem ggX2_addAllFrom_X4_applied : GoodIn wsX2_addAllFrom wsX4_applied := goodIn_r _ [12, 13, 14, 8, 1, 2, 3, 15, 16, 41, 42, 43, 44, 45, 46] (by decide +kernel) (by decide +kernel)
set_option maxRecDepth 20000 in
theorem gX2_addAllFrom_X4_applied_n56 : GoodIn wsX2_addAllFrom (wsX4_applied) := ggX2_addAllFrom_X4_applied
set_option maxRecDepth 20000 in
theorem ggX2_addAllFrom_X2_add : GoodIn wsX2_addAllFrom wsX2_add := goodIn_r _ [21, 22, 23, 24, 25, 26, 47, 48, 49, 50, 51, 52, 53] (by decide +kernel) (by decide +kernel)
set_option maxRecDepth 20000 in
theorem gX2_addAllFrom_X2_add : GoodIn wsX2_addAllFrom (wsV RX2 35 RX2 yX2_add wsX2_add) := goodIn_app (goodIn_of _ (by decide +kernel)) ggX2_addAllFrom_X2_add
set_option maxRecDepth 20000 in
theorem ggX2_addAllFrom_X2_addEnd : GoodIn wsX2_addAllFrom wsX2_addEnd := goodIn_r _ [30, 31, 32, 33, 34, 35, 36, 37, 38, 39, 40, 47, 48, 49, 50, 51, 52, 53] (by decide +kernel) (by decide +kernel)
set_option maxRecDepth 20000 in
theorem gX2_addAllFrom_X2_addEnd : GoodIn wsX2_addAllFrom (wsV RX2 60 RX2 yX2_addEnd wsX2_addEnd) := goodIn_app (goodIn_of _ (by decide +kernel)) ggX2_addAllFrom_X2_addEnd
theorem dX2_addAllFrom_0 : decode cX2_addAllFrom 0 = .ok (.iload_n 1, 1) := by decide +kernel
theorem dX2_addAllFrom_1 : decode cX2_addAllFrom 1 = .ok (.invokestatic 43, 3) := by decide +kernel
theorem dX2_addAllFrom_4 : decode cX2_addAllFrom 4 = .ok (.istore_n 3, 1) := by decide +kernel
theorem dX2_addAllFrom_5 : decode cX2_addAllFrom 5 = .ok (.iconst 1, 1) := by decide +kernel
theorem dX2_addAllFrom_6 : decode cX2_addAllFrom 6 = .ok (.istore 4, 2) := by decide +kernel
theorem dX2_addAllFrom_8 : decode cX2_addAllFrom 8 = .ok (.iconst 0, 1) := by decide +kernel
theorem dX2_addAllFrom_9 : decode cX2_addAllFrom 9 = .ok (.istore 5, 2) := by decide +kernel
theorem dX2_addAllFrom_11 : decode cX2_addAllFrom 11 = .ok (.iload 5, 2) := by decide +kernel
theorem dX2_addAllFrom_13 : decode cX2_addAllFrom 13 = .ok (.iload_n 3, 1) := by decide +kernel
theorem dX2_addAllFrom_14 : decode cX2_addAllFrom 14 = .ok (.if_icmp .ge 56, 3) := by decide +kernel
theorem dX2_addAllFrom_17 : decode cX2_addAllFrom 17 = .ok (.iconst 0, 1) := by decide +kernel
theorem dX2_addAllFrom_18 : decode cX2_addAllFrom 18 = .ok (.istore 6, 2) := by decide +kernel
theorem dX2_addAllFrom_20 : decode cX2_addAllFrom 20 = .ok (.iload 6, 2) := by decide +kernel
theorem dX2_addAllFrom_22 : decode cX2_addAllFrom 22 = .ok (.aload_n 2, 1) := by decide +kernel
theorem dX2_addAllFrom_23 : decode cX2_addAllFrom 23 = .ok (.getfield 49, 3) := by decide +kernel
theorem dX2_addAllFrom_26 : decode cX2_addAllFrom 26 = .ok (.if_icmp .ge 38, 3) := by decide +kernel
theorem dX2_addAllFrom_29 : decode cX2_addAllFrom 29 = .ok (.aload_n 2, 1) := by decide +kernel
theorem dX2_addAllFrom_30 : decode cX2_addAllFrom 30 = .ok (.iload_n 1, 1) := by decide +kernel
theorem dX2_addAllFrom_31 : decode cX2_addAllFrom 31 = .ok (.iload_n 3, 1) := by decide +kernel
theorem dX2_addAllFrom_32 : decode cX2_addAllFrom 32 = .ok (.iload 6, 2) := by decide +kernel
theorem dX2_addAllFrom_34 : decode cX2_addAllFrom 34 = .ok (.iload 5, 2) := by decide +kernel
theorem dX2_addAllFrom_36 : decode cX2_addAllFrom 36 = .ok (.invokevirtual 52, 3) := by decide +kernel
theorem dX2_addAllFrom_39 : decode cX2_addAllFrom 39 = .ok (.ifCond .eq 19, 3) := by decide +kernel
theorem dX2_addAllFrom_42 : decode cX2_addAllFrom 42 = .ok (.iconst 0, 1) := by decide +kernel
theorem dX2_addAllFrom_43 : decode cX2_addAllFrom 43 = .ok (.istore 4, 2) := by decide +kernel
theorem dX2_addAllFrom_45 : decode cX2_addAllFrom 45 = .ok (.aload_n 0, 1) := by decide +kernel
theorem dX2_addAllFrom_46 : decode cX2_addAllFrom 46 = .ok (.aload_n 2, 1) := by decide +kernel
theorem dX2_addAllFrom_47 : decode cX2_addAllFrom 47 = .ok (.iload_n 1, 1) := by decide +kernel
theorem dX2_addAllFrom_48 : decode cX2_addAllFrom 48 = .ok (.iload 6, 2) := by decide +kernel
theorem dX2_addAllFrom_50 : decode cX2_addAllFrom 50 = .ok (.iload 5, 2) := by decide +kernel
theorem dX2_addAllFrom_52 : decode cX2_addAllFrom 52 = .ok (.invokevirtual 56, 3) := by decide +kernel
theorem dX2_addAllFrom_55 : decode cX2_addAllFrom 55 = .ok (.invokevirtual 35, 3) := by decide +kernel
theorem dX2_addAllFrom_58 : decode cX2_addAllFrom 58 = .ok (.iinc 6 1, 3) := by decide +kernel
theorem dX2_addAllFrom_61 : decode cX2_addAllFrom 61 = .ok (.goto (-41), 3) := by decide +kernel
theorem dX2_addAllFrom_64 : decode cX2_addAllFrom 64 = .ok (.iinc 5 1, 3) := by decide +kernel
theorem dX2_addAllFrom_67 : decode cX2_addAllFrom 67 = .ok (.goto (-56), 3) := by decide +kernel
theorem dX2_addAllFrom_70 : decode cX2_addAllFrom 70 = .ok (.iload 4, 2) := by decide +kernel
theorem dX2_addAllFrom_72 : decode cX2_addAllFrom 72 = .ok (.ifCond .eq 8, 3) := by decide +kernel
theorem dX2_addAllFrom_75 : decode cX2_addAllFrom 75 = .ok (.aload_n 0, 1) := by decide +kernel
theorem dX2_addAllFrom_76 : decode cX2_addAllFrom 76 = .ok (.iload_n 1, 1) := by decide +kernel
theorem dX2_addAllFrom_77 : decode cX2_addAllFrom 77 = .ok (.invokevirtual 60, 3) := by decide +kernel
theorem dX2_addAllFrom_80 : decode cX2_addAllFrom 80 = .ok (.return_, 1) := by decide +kernel
theorem dX2_addEnd_0 : decode cX2_addEnd 0 = .ok (.aload_n 0, 1) := by decide +kernel
theorem dX2_addEnd_1 : decode cX2_addEnd 1 = .ok (.aload_n 0, 1) := by decide +kernel
theorem dX2_addEnd_2 : decode cX2_addEnd 2 = .ok (.getfield 32, 3) := by decide +kernel
theorem dX2_addEnd_5 : decode cX2_addEnd 5 = .ok (.ifCond .ne 7, 3) := by decide +kernel
theorem dX2_addEnd_8 : decode cX2_addEnd 8 = .ok (.iload_n 1, 1) := by decide +kernel
theorem dX2_addEnd_9 : decode cX2_addEnd 9 = .ok (.goto 11, 3) := by decide +kernel
theorem dX2_addEnd_12 : decode cX2_addEnd 12 = .ok (.aload_n 0, 1) := by decide +kernel
theorem dX2_addEnd_13 : decode cX2_addEnd 13 = .ok (.getfield 63, 3) := by decide +kernel
theorem dX2_addEnd_16 : decode cX2_addEnd 16 = .ok (.iload_n 1, 1) := by decide +kernel
theorem dX2_addEnd_17 : decode cX2_addEnd 17 = .ok (.invokestatic 66, 3) := by decide +kernel
theorem dX2_addEnd_20 : decode cX2_addEnd 20 = .ok (.putfield 63, 3) := by decide +kernel
theorem dX2_addEnd_23 : decode cX2_addEnd 23 = .ok (.aload_n 0, 1) := by decide +kernel
theorem dX2_addEnd_24 : decode cX2_addEnd 24 = .ok (.aload_n 0, 1) := by decide +kernel
theorem dX2_addEnd_25 : decode cX2_addEnd 25 = .ok (.getfield 32, 3) := by decide +kernel
theorem dX2_addEnd_28 : decode cX2_addEnd 28 = .ok (.ifCond .ne 7, 3) := by decide +kernel
theorem dX2_addEnd_31 : decode cX2_addEnd 31 = .ok (.iload_n 1, 1) := by decide +kernel
theorem dX2_addEnd_32 : decode cX2_addEnd 32 = .ok (.goto 11, 3) := by decide +kernel
theorem dX2_addEnd_35 : decode cX2_addEnd 35 = .ok (.aload_n 0, 1) := by decide +kernel
theorem dX2_addEnd_36 : decode cX2_addEnd 36 = .ok (.getfield 72, 3) := by decide +kernel
theorem dX2_addEnd_39 : decode cX2_addEnd 39 = .ok (.iload_n 1, 1) := by decide +kernel
theorem dX2_addEnd_40 : decode cX2_addEnd 40 = .ok (.invokestatic 75, 3) := by decide +kernel
theorem dX2_addEnd_43 : decode cX2_addEnd 43 = .ok (.putfield 72, 3) := by decide +kernel
theorem dX2_addEnd_46 : decode cX2_addEnd 46 = .ok (.aload_n 0, 1) := by decide +kernel
theorem dX2_addEnd_47 : decode cX2_addEnd 47 = .ok (.dup, 1) := by decide +kernel
theorem dX2_addEnd_48 : decode cX2_addEnd 48 = .ok (.getfield 32, 3) := by decide +kernel
theorem dX2_addEnd_51 : decode cX2_addEnd 51 = .ok (.iconst 1, 1) := by decide +kernel
theorem dX2_addEnd_52 : decode cX2_addEnd 52 = .ok (.iadd, 1) := by decide +kernel
theorem dX2_addEnd_53 : decode cX2_addEnd 53 = .ok (.putfield 32, 3) := by decide +kernel
theorem dX2_addEnd_56 : decode cX2_addEnd 56 = .ok (.return_, 1) := by decide +kernel
theorem dX2_add_0 : decode cX2_add 0 = .ok (.iload_n 1, 1) := by decide +kernel
theorem dX2_add_1 : decode cX2_add 1 = .ok (.ldc 78, 2) := by decide +kernel
theorem dX2_add_3 : decode cX2_add 3 = .ok (.imul, 1) := by decide +kernel
theorem dX2_add_4 : decode cX2_add 4 = .ok (.bipush 22, 2) := by decide +kernel
theorem dX2_add_6 : decode cX2_add 6 = .ok (.iushr, 1) := by decide +kernel
theorem dX2_add_7 : decode cX2_add 7 = .ok (.istore_n 2, 1) := by decide +kernel
theorem dX2_add_8 : decode cX2_add 8 = .ok (.iconst 0, 1) := by decide +kernel
theorem dX2_add_9 : decode cX2_add 9 = .ok (.istore_n 3, 1) := by decide +kernel
theorem dX2_add_10 : decode cX2_add 10 = .ok (.iload_n 3, 1) := by decide +kernel
theorem dX2_add_11 : decode cX2_add 11 = .ok (.sipush 1024, 3) := by decide +kernel
theorem dX2_add_14 : decode cX2_add 14 = .ok (.if_icmp .ge 37, 3) := by decide +kernel
theorem dX2_add_17 : decode cX2_add 17 = .ok (.aload_n 0, 1) := by decide +kernel
theorem dX2_add_18 : decode cX2_add 18 = .ok (.getfield 15, 3) := by decide +kernel
theorem dX2_add_21 : decode cX2_add 21 = .ok (.iload_n 2, 1) := by decide +kernel
theorem dX2_add_22 : decode cX2_add 22 = .ok (.iaload, 1) := by decide +kernel
theorem dX2_add_23 : decode cX2_add 23 = .ok (.ifCond .eq 28, 3) := by decide +kernel
theorem dX2_add_26 : decode cX2_add 26 = .ok (.aload_n 0, 1) := by decide +kernel
theorem dX2_add_27 : decode cX2_add 27 = .ok (.getfield 15, 3) := by decide +kernel
theorem dX2_add_30 : decode cX2_add 30 = .ok (.iload_n 2, 1) := by decide +kernel
theorem dX2_add_31 : decode cX2_add 31 = .ok (.iaload, 1) := by decide +kernel
theorem dX2_add_32 : decode cX2_add 32 = .ok (.iload_n 1, 1) := by decide +kernel
theorem dX2_add_33 : decode cX2_add 33 = .ok (.if_icmp .ne 4, 3) := by decide +kernel
theorem dX2_add_36 : decode cX2_add 36 = .ok (.return_, 1) := by decide +kernel
theorem dX2_add_37 : decode cX2_add 37 = .ok (.iload_n 2, 1) := by decide +kernel
theorem dX2_add_38 : decode cX2_add 38 = .ok (.iconst 1, 1) := by decide +kernel
theorem dX2_add_39 : decode cX2_add 39 = .ok (.iadd, 1) := by decide +kernel
theorem dX2_add_40 : decode cX2_add 40 = .ok (.sipush 1024, 3) := by decide +kernel
theorem dX2_add_43 : decode cX2_add 43 = .ok (.irem, 1) := by decide +kernel
theorem dX2_add_44 : decode cX2_add 44 = .ok (.istore_n 2, 1) := by decide +kernel
theorem dX2_add_45 : decode cX2_add 45 = .ok (.iinc 3 1, 3) := by decide +kernel
theorem dX2_add_48 : decode cX2_add 48 = .ok (.goto (-38), 3) := by decide +kernel
theorem dX2_add_51 : decode cX2_add 51 = .ok (.aload_n 0, 1) := by decide +kernel
theorem dX2_add_52 : decode cX2_add 52 = .ok (.getfield 24, 3) := by decide +kernel
theorem dX2_add_55 : decode cX2_add 55 = .ok (.sipush 400, 3) := by decide +kernel
theorem dX2_add_58 : decode cX2_add 58 = .ok (.if_icmp .ne 9, 3) := by decide +kernel
theorem dX2_add_61 : decode cX2_add 61 = .ok (.aload_n 0, 1) := by decide +kernel
theorem dX2_add_62 : decode cX2_add 62 = .ok (.iconst 1, 1) := by decide +kernel
theorem dX2_add_63 : decode cX2_add 63 = .ok (.putfield 28, 3) := by decide +kernel
theorem dX2_add_66 : decode cX2_add 66 = .ok (.return_, 1) := by decide +kernel
theorem dX2_add_67 : decode cX2_add 67 = .ok (.aload_n 0, 1) := by decide +kernel
theorem dX2_add_68 : decode cX2_add 68 = .ok (.getfield 15, 3) := by decide +kernel
theorem dX2_add_71 : decode cX2_add 71 = .ok (.iload_n 2, 1) := by decide +kernel
theorem dX2_add_72 : decode cX2_add 72 = .ok (.iload_n 1, 1) := by decide +kernel
theorem dX2_add_73 : decode cX2_add 73 = .ok (.iastore, 1) := by decide +kernel
theorem dX2_add_74 : decode cX2_add 74 = .ok (.aload_n 0, 1) := by decide +kernel
theorem dX2_add_75 : decode cX2_add 75 = .ok (.getfield 9, 3) := by decide +kernel
theorem dX2_add_78 : decode cX2_add 78 = .ok (.aload_n 0, 1) := by decide +kernel
theorem dX2_add_79 : decode cX2_add 79 = .ok (.getfield 24, 3) := by decide +kernel
theorem dX2_add_82 : decode cX2_add 82 = .ok (.iload_n 1, 1) := by decide +kernel
theorem dX2_add_83 : decode cX2_add 83 = .ok (.iastore, 1) := by decide +kernel
theorem dX2_add_84 : decode cX2_add 84 = .ok (.aload_n 0, 1) := by decide +kernel
theorem dX2_add_85 : decode cX2_add 85 = .ok (.dup, 1) := by decide +kernel
theorem dX2_add_86 : decode cX2_add 86 = .ok (.getfield 24, 3) := by decide +kernel
theorem dX2_add_89 : decode cX2_add 89 = .ok (.iconst 1, 1) := by decide +kernel
theorem dX2_add_90 : decode cX2_add 90 = .ok (.iadd, 1) := by decide +kernel
theorem dX2_add_91 : decode cX2_add 91 = .ok (.putfield 24, 3) := by decide +kernel
theorem dX2_add_94 : decode cX2_add 94 = .ok (.return_, 1) := by decide +kernel
theorem dX3_init_0 : decode cX3_init 0 = .ok (.aload_n 0, 1) := by decide +kernel
theorem dX3_init_1 : decode cX3_init 1 = .ok (.invokespecial 3, 3) := by decide +kernel
theorem dX3_init_4 : decode cX3_init 4 = .ok (.aload_n 0, 1) := by decide +kernel
theorem dX3_init_5 : decode cX3_init 5 = .ok (.bipush 101, 2) := by decide +kernel
theorem dX3_init_7 : decode cX3_init 7 = .ok (.newarray .int, 2) := by decide +kernel
theorem dX3_init_9 : decode cX3_init 9 = .ok (.putfield 9, 3) := by decide +kernel
theorem dX3_init_12 : decode cX3_init 12 = .ok (.aload_n 0, 1) := by decide +kernel
theorem dX3_init_13 : decode cX3_init 13 = .ok (.bipush 100, 2) := by decide +kernel
theorem dX3_init_15 : decode cX3_init 15 = .ok (.newarray .int, 2) := by decide +kernel
theorem dX3_init_17 : decode cX3_init 17 = .ok (.putfield 15, 3) := by decide +kernel
theorem dX3_init_20 : decode cX3_init 20 = .ok (.return_, 1) := by decide +kernel
set_option maxRecDepth 20000 in
theorem ggX3_run_X3_firstTimeOf : GoodIn wsX3_run wsX3_firstTimeOf := goodIn_r _ [10, 2, 1, 36, 37, 38, 39, 40] (by decide +kernel) (by decide +kernel)
set_option maxRecDepth 20000 in
theorem gX3_run_X3_firstTimeOf : GoodIn wsX3_run (wsV RX3 22 RX3 yX3_firstTimeOf wsX3_firstTimeOf) := goodIn_app (goodIn_of _ (by decide +kernel)) ggX3_run_X3_firstTimeOf
set_option maxRecDepth 20000 in
theorem ggX3_run_X4_choiceFor : GoodIn wsX3_run wsX4_choiceFor := goodIn_r _ [14, 15, 16, 17, 18, 19, 20, 21, 12, 22, 23, 24, 41, 42, 43, 44, 45, 46] (by decide +kernel) (by decide +kernel)
set_option maxRecDepth 20000 in
theorem gX3_run_X4_choiceFor_n32 : GoodIn wsX3_run (wsX4_choiceFor) := ggX3_run_X4_choiceFor
set_option maxRecDepth 20000 in
theorem ggX3_run_X4_ruleIn : GoodIn wsX3_run wsX4_ruleIn := goodIn_r _ [26] (by decide +kernel) (by decide +kernel)
set_option maxRecDepth 20000 in
theorem gX3_run_X4_ruleIn_n38 : GoodIn wsX3_run (wsX4_ruleIn) := ggX3_run_X4_ruleIn
set_option maxRecDepth 20000 in
theorem ggX3_run_X4_placeIn : GoodIn wsX3_run wsX4_placeIn := goodIn_r _ [28] (by decide +kernel) (by decide +kernel)
set_option maxRecDepth 20000 in
theorem gX3_run_X4_placeIn_n41 : GoodIn wsX3_run (wsX4_placeIn) := ggX3_run_X4_placeIn
set_option maxRecDepth 20000 in
theorem ggX3_run_X4_applied : GoodIn wsX3_run wsX4_applied := goodIn_r _ [31, 32, 33, 23, 16, 17, 18, 34, 35, 41, 42, 43, 44, 45, 46] (by decide +kernel) (by decide +kernel)
set_option maxRecDepth 20000 in
theorem gX3_run_X4_applied_n44 : GoodIn wsX3_run (wsX4_applied) := ggX3_run_X4_applied
theorem dX3_run_0 : decode cX3_run 0 = .ok (.aload_n 0, 1) := by decide +kernel
theorem dX3_run_1 : decode cX3_run 1 = .ok (.getfield 9, 3) := by decide +kernel
theorem dX3_run_4 : decode cX3_run 4 = .ok (.iconst 0, 1) := by decide +kernel
theorem dX3_run_5 : decode cX3_run 5 = .ok (.iload_n 3, 1) := by decide +kernel
theorem dX3_run_6 : decode cX3_run 6 = .ok (.iastore, 1) := by decide +kernel
theorem dX3_run_7 : decode cX3_run 7 = .ok (.aload_n 0, 1) := by decide +kernel
theorem dX3_run_8 : decode cX3_run 8 = .ok (.iconst 0, 1) := by decide +kernel
theorem dX3_run_9 : decode cX3_run 9 = .ok (.putfield 18, 3) := by decide +kernel
theorem dX3_run_12 : decode cX3_run 12 = .ok (.aload_n 0, 1) := by decide +kernel
theorem dX3_run_13 : decode cX3_run 13 = .ok (.getfield 18, 3) := by decide +kernel
theorem dX3_run_16 : decode cX3_run 16 = .ok (.bipush 100, 2) := by decide +kernel
theorem dX3_run_18 : decode cX3_run 18 = .ok (.if_icmp .gt 140, 3) := by decide +kernel
theorem dX3_run_21 : decode cX3_run 21 = .ok (.aload_n 0, 1) := by decide +kernel
theorem dX3_run_22 : decode cX3_run 22 = .ok (.aload_n 0, 1) := by decide +kernel
theorem dX3_run_23 : decode cX3_run 23 = .ok (.aload_n 0, 1) := by decide +kernel
theorem dX3_run_24 : decode cX3_run 24 = .ok (.getfield 9, 3) := by decide +kernel
theorem dX3_run_27 : decode cX3_run 27 = .ok (.aload_n 0, 1) := by decide +kernel
theorem dX3_run_28 : decode cX3_run 28 = .ok (.getfield 18, 3) := by decide +kernel
theorem dX3_run_31 : decode cX3_run 31 = .ok (.iaload, 1) := by decide +kernel
theorem dX3_run_32 : decode cX3_run 32 = .ok (.invokevirtual 22, 3) := by decide +kernel
theorem dX3_run_35 : decode cX3_run 35 = .ok (.putfield 26, 3) := by decide +kernel
theorem dX3_run_38 : decode cX3_run 38 = .ok (.aload_n 0, 1) := by decide +kernel
theorem dX3_run_39 : decode cX3_run 39 = .ok (.getfield 26, 3) := by decide +kernel
theorem dX3_run_42 : decode cX3_run 42 = .ok (.aload_n 0, 1) := by decide +kernel
theorem dX3_run_43 : decode cX3_run 43 = .ok (.getfield 18, 3) := by decide +kernel
theorem dX3_run_46 : decode cX3_run 46 = .ok (.if_icmp .ge 9, 3) := by decide +kernel
theorem dX3_run_49 : decode cX3_run 49 = .ok (.aload_n 0, 1) := by decide +kernel
theorem dX3_run_50 : decode cX3_run 50 = .ok (.iconst 1, 1) := by decide +kernel
theorem dX3_run_51 : decode cX3_run 51 = .ok (.putfield 29, 3) := by decide +kernel
theorem dX3_run_54 : decode cX3_run 54 = .ok (.return_, 1) := by decide +kernel
theorem dX3_run_55 : decode cX3_run 55 = .ok (.aload_n 1, 1) := by decide +kernel
theorem dX3_run_56 : decode cX3_run 56 = .ok (.aload_n 0, 1) := by decide +kernel
theorem dX3_run_57 : decode cX3_run 57 = .ok (.getfield 9, 3) := by decide +kernel
theorem dX3_run_60 : decode cX3_run 60 = .ok (.aload_n 0, 1) := by decide +kernel
theorem dX3_run_61 : decode cX3_run 61 = .ok (.getfield 18, 3) := by decide +kernel
theorem dX3_run_64 : decode cX3_run 64 = .ok (.iaload, 1) := by decide +kernel
theorem dX3_run_65 : decode cX3_run 65 = .ok (.iload_n 2, 1) := by decide +kernel
theorem dX3_run_66 : decode cX3_run 66 = .ok (.invokevirtual 32, 3) := by decide +kernel
theorem dX3_run_69 : decode cX3_run 69 = .ok (.istore 4, 2) := by decide +kernel
theorem dX3_run_71 : decode cX3_run 71 = .ok (.iload 4, 2) := by decide +kernel
theorem dX3_run_73 : decode cX3_run 73 = .ok (.ifCond .ge 9, 3) := by decide +kernel
theorem dX3_run_76 : decode cX3_run 76 = .ok (.aload_n 0, 1) := by decide +kernel
theorem dX3_run_77 : decode cX3_run 77 = .ok (.iconst 0, 1) := by decide +kernel
theorem dX3_run_78 : decode cX3_run 78 = .ok (.putfield 29, 3) := by decide +kernel
theorem dX3_run_81 : decode cX3_run 81 = .ok (.return_, 1) := by decide +kernel
theorem dX3_run_82 : decode cX3_run 82 = .ok (.aload_n 0, 1) := by decide +kernel
theorem dX3_run_83 : decode cX3_run 83 = .ok (.getfield 18, 3) := by decide +kernel
theorem dX3_run_86 : decode cX3_run 86 = .ok (.bipush 100, 2) := by decide +kernel
theorem dX3_run_88 : decode cX3_run 88 = .ok (.if_icmp .ne 9, 3) := by decide +kernel
theorem dX3_run_91 : decode cX3_run 91 = .ok (.aload_n 0, 1) := by decide +kernel
theorem dX3_run_92 : decode cX3_run 92 = .ok (.iconst 2, 1) := by decide +kernel
theorem dX3_run_93 : decode cX3_run 93 = .ok (.putfield 29, 3) := by decide +kernel
theorem dX3_run_96 : decode cX3_run 96 = .ok (.return_, 1) := by decide +kernel
theorem dX3_run_97 : decode cX3_run 97 = .ok (.aload_n 0, 1) := by decide +kernel
theorem dX3_run_98 : decode cX3_run 98 = .ok (.getfield 15, 3) := by decide +kernel
theorem dX3_run_101 : decode cX3_run 101 = .ok (.aload_n 0, 1) := by decide +kernel
theorem dX3_run_102 : decode cX3_run 102 = .ok (.getfield 18, 3) := by decide +kernel
theorem dX3_run_105 : decode cX3_run 105 = .ok (.iload 4, 2) := by decide +kernel
theorem dX3_run_107 : decode cX3_run 107 = .ok (.invokestatic 38, 3) := by decide +kernel
theorem dX3_run_110 : decode cX3_run 110 = .ok (.iastore, 1) := by decide +kernel
theorem dX3_run_111 : decode cX3_run 111 = .ok (.aload_n 0, 1) := by decide +kernel
theorem dX3_run_112 : decode cX3_run 112 = .ok (.getfield 9, 3) := by decide +kernel
theorem dX3_run_115 : decode cX3_run 115 = .ok (.aload_n 0, 1) := by decide +kernel
theorem dX3_run_116 : decode cX3_run 116 = .ok (.getfield 18, 3) := by decide +kernel
theorem dX3_run_119 : decode cX3_run 119 = .ok (.iconst 1, 1) := by decide +kernel
theorem dX3_run_120 : decode cX3_run 120 = .ok (.iadd, 1) := by decide +kernel
theorem dX3_run_121 : decode cX3_run 121 = .ok (.aload_n 1, 1) := by decide +kernel
theorem dX3_run_122 : decode cX3_run 122 = .ok (.aload_n 0, 1) := by decide +kernel
theorem dX3_run_123 : decode cX3_run 123 = .ok (.getfield 9, 3) := by decide +kernel
theorem dX3_run_126 : decode cX3_run 126 = .ok (.aload_n 0, 1) := by decide +kernel
theorem dX3_run_127 : decode cX3_run 127 = .ok (.getfield 18, 3) := by decide +kernel
theorem dX3_run_130 : decode cX3_run 130 = .ok (.iaload, 1) := by decide +kernel
theorem dX3_run_131 : decode cX3_run 131 = .ok (.iload 4, 2) := by decide +kernel
theorem dX3_run_133 : decode cX3_run 133 = .ok (.invokestatic 38, 3) := by decide +kernel
theorem dX3_run_136 : decode cX3_run 136 = .ok (.iload 4, 2) := by decide +kernel
theorem dX3_run_138 : decode cX3_run 138 = .ok (.invokestatic 41, 3) := by decide +kernel
theorem dX3_run_141 : decode cX3_run 141 = .ok (.invokevirtual 44, 3) := by decide +kernel
theorem dX3_run_144 : decode cX3_run 144 = .ok (.iastore, 1) := by decide +kernel
theorem dX3_run_145 : decode cX3_run 145 = .ok (.aload_n 0, 1) := by decide +kernel
theorem dX3_run_146 : decode cX3_run 146 = .ok (.dup, 1) := by decide +kernel
theorem dX3_run_147 : decode cX3_run 147 = .ok (.getfield 18, 3) := by decide +kernel
theorem dX3_run_150 : decode cX3_run 150 = .ok (.iconst 1, 1) := by decide +kernel
theorem dX3_run_151 : decode cX3_run 151 = .ok (.iadd, 1) := by decide +kernel
theorem dX3_run_152 : decode cX3_run 152 = .ok (.putfield 18, 3) := by decide +kernel
theorem dX3_run_155 : decode cX3_run 155 = .ok (.goto (-143), 3) := by decide +kernel
theorem dX3_run_158 : decode cX3_run 158 = .ok (.return_, 1) := by decide +kernel
theorem dX3_firstTimeOf_0 : decode cX3_firstTimeOf 0 = .ok (.iconst 0, 1) := by decide +kernel
theorem dX3_firstTimeOf_1 : decode cX3_firstTimeOf 1 = .ok (.istore_n 2, 1) := by decide +kernel
theorem dX3_firstTimeOf_2 : decode cX3_firstTimeOf 2 = .ok (.iload_n 2, 1) := by decide +kernel
theorem dX3_firstTimeOf_3 : decode cX3_firstTimeOf 3 = .ok (.aload_n 0, 1) := by decide +kernel
theorem dX3_firstTimeOf_4 : decode cX3_firstTimeOf 4 = .ok (.getfield 18, 3) := by decide +kernel
theorem dX3_firstTimeOf_7 : decode cX3_firstTimeOf 7 = .ok (.if_icmp .ge 21, 3) := by decide +kernel
theorem dX3_firstTimeOf_10 : decode cX3_firstTimeOf 10 = .ok (.aload_n 0, 1) := by decide +kernel
theorem dX3_firstTimeOf_11 : decode cX3_firstTimeOf 11 = .ok (.getfield 9, 3) := by decide +kernel
theorem dX3_firstTimeOf_14 : decode cX3_firstTimeOf 14 = .ok (.iload_n 2, 1) := by decide +kernel
theorem dX3_firstTimeOf_15 : decode cX3_firstTimeOf 15 = .ok (.iaload, 1) := by decide +kernel
theorem dX3_firstTimeOf_16 : decode cX3_firstTimeOf 16 = .ok (.iload_n 1, 1) := by decide +kernel
theorem dX3_firstTimeOf_17 : decode cX3_firstTimeOf 17 = .ok (.if_icmp .ne 5, 3) := by decide +kernel
theorem dX3_firstTimeOf_20 : decode cX3_firstTimeOf 20 = .ok (.iload_n 2, 1) := by decide +kernel
theorem dX3_firstTimeOf_21 : decode cX3_firstTimeOf 21 = .ok (.ireturn, 1) := by decide +kernel
theorem dX3_firstTimeOf_22 : decode cX3_firstTimeOf 22 = .ok (.iinc 2 1, 3) := by decide +kernel
theorem dX3_firstTimeOf_25 : decode cX3_firstTimeOf 25 = .ok (.goto (-23), 3) := by decide +kernel
theorem dX3_firstTimeOf_28 : decode cX3_firstTimeOf 28 = .ok (.aload_n 0, 1) := by decide +kernel
theorem dX3_firstTimeOf_29 : decode cX3_firstTimeOf 29 = .ok (.getfield 18, 3) := by decide +kernel
theorem dX3_firstTimeOf_32 : decode cX3_firstTimeOf 32 = .ok (.ireturn, 1) := by decide +kernel
theorem dX3_last_0 : decode cX3_last 0 = .ok (.aload_n 0, 1) := by decide +kernel
theorem dX3_last_1 : decode cX3_last 1 = .ok (.getfield 9, 3) := by decide +kernel
theorem dX3_last_4 : decode cX3_last 4 = .ok (.aload_n 0, 1) := by decide +kernel
theorem dX3_last_5 : decode cX3_last 5 = .ok (.getfield 18, 3) := by decide +kernel
theorem dX3_last_8 : decode cX3_last 8 = .ok (.iaload, 1) := by decide +kernel
theorem dX3_last_9 : decode cX3_last 9 = .ok (.ireturn, 1) := by decide +kernel
theorem dX3_countRules_0 : decode cX3_countRules 0 = .ok (.iconst 0, 1) := by decide +kernel
theorem dX3_countRules_1 : decode cX3_countRules 1 = .ok (.istore_n 2, 1) := by decide +kernel
theorem dX3_countRules_2 : decode cX3_countRules 2 = .ok (.iload_n 2, 1) := by decide +kernel
theorem dX3_countRules_3 : decode cX3_countRules 3 = .ok (.aload_n 0, 1) := by decide +kernel
theorem dX3_countRules_4 : decode cX3_countRules 4 = .ok (.getfield 18, 3) := by decide +kernel
theorem dX3_countRules_7 : decode cX3_countRules 7 = .ok (.if_icmp .ge 24, 3) := by decide +kernel
theorem dX3_countRules_10 : decode cX3_countRules 10 = .ok (.aload_n 1, 1) := by decide +kernel
theorem dX3_countRules_11 : decode cX3_countRules 11 = .ok (.getfield 48, 3) := by decide +kernel
theorem dX3_countRules_14 : decode cX3_countRules 14 = .ok (.aload_n 0, 1) := by decide +kernel
theorem dX3_countRules_15 : decode cX3_countRules 15 = .ok (.getfield 15, 3) := by decide +kernel
theorem dX3_countRules_18 : decode cX3_countRules 18 = .ok (.iload_n 2, 1) := by decide +kernel
theorem dX3_countRules_19 : decode cX3_countRules 19 = .ok (.iaload, 1) := by decide +kernel
theorem dX3_countRules_20 : decode cX3_countRules 20 = .ok (.dup2, 1) := by decide +kernel
theorem dX3_countRules_21 : decode cX3_countRules 21 = .ok (.iaload, 1) := by decide +kernel
theorem dX3_countRules_22 : decode cX3_countRules 22 = .ok (.iconst 1, 1) := by decide +kernel
theorem dX3_countRules_23 : decode cX3_countRules 23 = .ok (.iadd, 1) := by decide +kernel
theorem dX3_countRules_24 : decode cX3_countRules 24 = .ok (.iastore, 1) := by decide +kernel
theorem dX3_countRules_25 : decode cX3_countRules 25 = .ok (.iinc 2 1, 3) := by decide +kernel
theorem dX3_countRules_28 : decode cX3_countRules 28 = .ok (.goto (-26), 3) := by decide +kernel
theorem dX3_countRules_31 : decode cX3_countRules 31 = .ok (.return_, 1) := by decide +kernel
theorem dX4_init_0 : decode cX4_init 0 = .ok (.aload_n 0, 1) := by decide +kernel
theorem dX4_init_1 : decode cX4_init 1 = .ok (.invokespecial 3, 3) := by decide +kernel
theorem dX4_init_4 : decode cX4_init 4 = .ok (.aload_n 0, 1) := by decide +kernel
theorem dX4_init_5 : decode cX4_init 5 = .ok (.bipush 10, 2) := by decide +kernel
theorem dX4_init_7 : decode cX4_init 7 = .ok (.newarray .int, 2) := by decide +kernel
theorem dX4_init_9 : decode cX4_init 9 = .ok (.putfield 9, 3) := by decide +kernel
theorem dX4_init_12 : decode cX4_init 12 = .ok (.aload_n 0, 1) := by decide +kernel
theorem dX4_init_13 : decode cX4_init 13 = .ok (.bipush 10, 2) := by decide +kernel
theorem dX4_init_15 : decode cX4_init 15 = .ok (.newarray .int, 2) := by decide +kernel
theorem dX4_init_17 : decode cX4_init 17 = .ok (.putfield 15, 3) := by decide +kernel
theorem dX4_init_20 : decode cX4_init 20 = .ok (.aload_n 0, 1) := by decide +kernel
theorem dX4_init_21 : decode cX4_init 21 = .ok (.bipush 10, 2) := by decide +kernel
theorem dX4_init_23 : decode cX4_init 23 = .ok (.newarray .int, 2) := by decide +kernel
theorem dX4_init_25 : decode cX4_init 25 = .ok (.putfield 18, 3) := by decide +kernel
theorem dX4_init_28 : decode cX4_init 28 = .ok (.aload_n 0, 1) := by decide +kernel
theorem dX4_init_29 : decode cX4_init 29 = .ok (.bipush 10, 2) := by decide +kernel
theorem dX4_init_31 : decode cX4_init 31 = .ok (.newarray .int, 2) := by decide +kernel
theorem dX4_init_33 : decode cX4_init 33 = .ok (.putfield 21, 3) := by decide +kernel
theorem dX4_init_36 : decode cX4_init 36 = .ok (.aload_n 0, 1) := by decide +kernel
theorem dX4_init_37 : decode cX4_init 37 = .ok (.bipush 10, 2) := by decide +kernel
theorem dX4_init_39 : decode cX4_init 39 = .ok (.newarray .int, 2) := by decide +kernel
theorem dX4_init_41 : decode cX4_init 41 = .ok (.putfield 24, 3) := by decide +kernel
theorem dX4_init_44 : decode cX4_init 44 = .ok (.return_, 1) := by decide +kernel
theorem dX4_takeOver_0 : decode cX4_takeOver 0 = .ok (.aload_n 1, 1) := by decide +kernel
theorem dX4_takeOver_1 : decode cX4_takeOver 1 = .ok (.getfield 9, 3) := by decide +kernel
theorem dX4_takeOver_4 : decode cX4_takeOver 4 = .ok (.iconst 0, 1) := by decide +kernel
theorem dX4_takeOver_5 : decode cX4_takeOver 5 = .ok (.aload_n 0, 1) := by decide +kernel
theorem dX4_takeOver_6 : decode cX4_takeOver 6 = .ok (.getfield 9, 3) := by decide +kernel
theorem dX4_takeOver_9 : decode cX4_takeOver 9 = .ok (.iconst 0, 1) := by decide +kernel
theorem dX4_takeOver_10 : decode cX4_takeOver 10 = .ok (.bipush 10, 2) := by decide +kernel
theorem dX4_takeOver_12 : decode cX4_takeOver 12 = .ok (.invokestatic 27, 3) := by decide +kernel
theorem dX4_takeOver_15 : decode cX4_takeOver 15 = .ok (.aload_n 1, 1) := by decide +kernel
theorem dX4_takeOver_16 : decode cX4_takeOver 16 = .ok (.getfield 15, 3) := by decide +kernel
theorem dX4_takeOver_19 : decode cX4_takeOver 19 = .ok (.iconst 0, 1) := by decide +kernel
theorem dX4_takeOver_20 : decode cX4_takeOver 20 = .ok (.aload_n 0, 1) := by decide +kernel
theorem dX4_takeOver_21 : decode cX4_takeOver 21 = .ok (.getfield 15, 3) := by decide +kernel
theorem dX4_takeOver_24 : decode cX4_takeOver 24 = .ok (.iconst 0, 1) := by decide +kernel
theorem dX4_takeOver_25 : decode cX4_takeOver 25 = .ok (.bipush 10, 2) := by decide +kernel
theorem dX4_takeOver_27 : decode cX4_takeOver 27 = .ok (.invokestatic 27, 3) := by decide +kernel
theorem dX4_takeOver_30 : decode cX4_takeOver 30 = .ok (.aload_n 1, 1) := by decide +kernel
theorem dX4_takeOver_31 : decode cX4_takeOver 31 = .ok (.getfield 18, 3) := by decide +kernel
theorem dX4_takeOver_34 : decode cX4_takeOver 34 = .ok (.iconst 0, 1) := by decide +kernel
theorem dX4_takeOver_35 : decode cX4_takeOver 35 = .ok (.aload_n 0, 1) := by decide +kernel
theorem dX4_takeOver_36 : decode cX4_takeOver 36 = .ok (.getfield 18, 3) := by decide +kernel
theorem dX4_takeOver_39 : decode cX4_takeOver 39 = .ok (.iconst 0, 1) := by decide +kernel
theorem dX4_takeOver_40 : decode cX4_takeOver 40 = .ok (.bipush 10, 2) := by decide +kernel
theorem dX4_takeOver_42 : decode cX4_takeOver 42 = .ok (.invokestatic 27, 3) := by decide +kernel
theorem dX4_takeOver_45 : decode cX4_takeOver 45 = .ok (.aload_n 1, 1) := by decide +kernel
theorem dX4_takeOver_46 : decode cX4_takeOver 46 = .ok (.getfield 21, 3) := by decide +kernel
theorem dX4_takeOver_49 : decode cX4_takeOver 49 = .ok (.iconst 0, 1) := by decide +kernel
theorem dX4_takeOver_50 : decode cX4_takeOver 50 = .ok (.aload_n 0, 1) := by decide +kernel
theorem dX4_takeOver_51 : decode cX4_takeOver 51 = .ok (.getfield 21, 3) := by decide +kernel
theorem dX4_takeOver_54 : decode cX4_takeOver 54 = .ok (.iconst 0, 1) := by decide +kernel
theorem dX4_takeOver_55 : decode cX4_takeOver 55 = .ok (.bipush 10, 2) := by decide +kernel
theorem dX4_takeOver_57 : decode cX4_takeOver 57 = .ok (.invokestatic 27, 3) := by decide +kernel
theorem dX4_takeOver_60 : decode cX4_takeOver 60 = .ok (.aload_n 1, 1) := by decide +kernel
theorem dX4_takeOver_61 : decode cX4_takeOver 61 = .ok (.getfield 24, 3) := by decide +kernel
theorem dX4_takeOver_64 : decode cX4_takeOver 64 = .ok (.iconst 0, 1) := by decide +kernel
theorem dX4_takeOver_65 : decode cX4_takeOver 65 = .ok (.aload_n 0, 1) := by decide +kernel
theorem dX4_takeOver_66 : decode cX4_takeOver 66 = .ok (.getfield 24, 3) := by decide +kernel
theorem dX4_takeOver_69 : decode cX4_takeOver 69 = .ok (.iconst 0, 1) := by decide +kernel
theorem dX4_takeOver_70 : decode cX4_takeOver 70 = .ok (.bipush 10, 2) := by decide +kernel
theorem dX4_takeOver_72 : decode cX4_takeOver 72 = .ok (.invokestatic 27, 3) := by decide +kernel
theorem dX4_takeOver_75 : decode cX4_takeOver 75 = .ok (.aload_n 0, 1) := by decide +kernel
theorem dX4_takeOver_76 : decode cX4_takeOver 76 = .ok (.aload_n 1, 1) := by decide +kernel
theorem dX4_takeOver_77 : decode cX4_takeOver 77 = .ok (.getfield 33, 3) := by decide +kernel
theorem dX4_takeOver_80 : decode cX4_takeOver 80 = .ok (.putfield 33, 3) := by decide +kernel
theorem dX4_takeOver_83 : decode cX4_takeOver 83 = .ok (.return_, 1) := by decide +kernel
theorem dX4_contains_0 : decode cX4_contains 0 = .ok (.iload_n 1, 1) := by decide +kernel
theorem dX4_contains_1 : decode cX4_contains 1 = .ok (.ifCond .lt 15, 3) := by decide +kernel
theorem dX4_contains_4 : decode cX4_contains 4 = .ok (.iload_n 1, 1) := by decide +kernel
theorem dX4_contains_5 : decode cX4_contains 5 = .ok (.aload_n 0, 1) := by decide +kernel
theorem dX4_contains_6 : decode cX4_contains 6 = .ok (.getfield 33, 3) := by decide +kernel
theorem dX4_contains_9 : decode cX4_contains 9 = .ok (.if_icmp .ge 7, 3) := by decide +kernel
theorem dX4_contains_12 : decode cX4_contains 12 = .ok (.iconst 1, 1) := by decide +kernel
theorem dX4_contains_13 : decode cX4_contains 13 = .ok (.goto 4, 3) := by decide +kernel
theorem dX4_contains_16 : decode cX4_contains 16 = .ok (.iconst 0, 1) := by decide +kernel
theorem dX4_contains_17 : decode cX4_contains 17 = .ok (.ireturn, 1) := by decide +kernel
theorem dX4_isFull_0 : decode cX4_isFull 0 = .ok (.aload_n 0, 1) := by decide +kernel
theorem dX4_isFull_1 : decode cX4_isFull 1 = .ok (.getfield 33, 3) := by decide +kernel
theorem dX4_isFull_4 : decode cX4_isFull 4 = .ok (.bipush 10, 2) := by decide +kernel
theorem dX4_isFull_6 : decode cX4_isFull 6 = .ok (.if_icmp .lt 7, 3) := by decide +kernel
theorem dX4_isFull_9 : decode cX4_isFull 9 = .ok (.iconst 1, 1) := by decide +kernel
theorem dX4_isFull_10 : decode cX4_isFull 10 = .ok (.goto 4, 3) := by decide +kernel
theorem dX4_isFull_13 : decode cX4_isFull 13 = .ok (.iconst 0, 1) := by decide +kernel
theorem dX4_isFull_14 : decode cX4_isFull 14 = .ok (.ireturn, 1) := by decide +kernel
theorem dX4_hasSides_0 : decode cX4_hasSides 0 = .ok (.iconst 0, 1) := by decide +kernel
theorem dX4_hasSides_1 : decode cX4_hasSides 1 = .ok (.istore_n 3, 1) := by decide +kernel
theorem dX4_hasSides_2 : decode cX4_hasSides 2 = .ok (.iload_n 3, 1) := by decide +kernel
theorem dX4_hasSides_3 : decode cX4_hasSides 3 = .ok (.aload_n 0, 1) := by decide +kernel
theorem dX4_hasSides_4 : decode cX4_hasSides 4 = .ok (.getfield 33, 3) := by decide +kernel
theorem dX4_hasSides_7 : decode cX4_hasSides 7 = .ok (.if_icmp .ge 31, 3) := by decide +kernel
theorem dX4_hasSides_10 : decode cX4_hasSides 10 = .ok (.aload_n 0, 1) := by decide +kernel
theorem dX4_hasSides_11 : decode cX4_hasSides 11 = .ok (.getfield 9, 3) := by decide +kernel
theorem dX4_hasSides_14 : decode cX4_hasSides 14 = .ok (.iload_n 3, 1) := by decide +kernel
theorem dX4_hasSides_15 : decode cX4_hasSides 15 = .ok (.iaload, 1) := by decide +kernel
theorem dX4_hasSides_16 : decode cX4_hasSides 16 = .ok (.iload_n 1, 1) := by decide +kernel
theorem dX4_hasSides_17 : decode cX4_hasSides 17 = .ok (.if_icmp .ne 15, 3) := by decide +kernel
theorem dX4_hasSides_20 : decode cX4_hasSides 20 = .ok (.aload_n 0, 1) := by decide +kernel
theorem dX4_hasSides_21 : decode cX4_hasSides 21 = .ok (.getfield 15, 3) := by decide +kernel
theorem dX4_hasSides_24 : decode cX4_hasSides 24 = .ok (.iload_n 3, 1) := by decide +kernel
theorem dX4_hasSides_25 : decode cX4_hasSides 25 = .ok (.iaload, 1) := by decide +kernel
theorem dX4_hasSides_26 : decode cX4_hasSides 26 = .ok (.iload_n 2, 1) := by decide +kernel
theorem dX4_hasSides_27 : decode cX4_hasSides 27 = .ok (.if_icmp .ne 5, 3) := by decide +kernel
theorem dX4_hasSides_30 : decode cX4_hasSides 30 = .ok (.iconst 1, 1) := by decide +kernel
theorem dX4_hasSides_31 : decode cX4_hasSides 31 = .ok (.ireturn, 1) := by decide +kernel
theorem dX4_hasSides_32 : decode cX4_hasSides 32 = .ok (.iinc 3 1, 3) := by decide +kernel
theorem dX4_hasSides_35 : decode cX4_hasSides 35 = .ok (.goto (-33), 3) := by decide +kernel
theorem dX4_hasSides_38 : decode cX4_hasSides 38 = .ok (.iconst 0, 1) := by decide +kernel
theorem dX4_hasSides_39 : decode cX4_hasSides 39 = .ok (.ireturn, 1) := by decide +kernel
set_option maxRecDepth 20000 in
theorem ggX4_add_X4_isFull : GoodIn wsX4_add wsX4_isFull := goodIn_r _ [11, 2, 15, 16, 17, 18, 19, 20] (by decide +kernel) (by decide +kernel)
set_option maxRecDepth 20000 in
theorem gX4_add_X4_isFull : GoodIn wsX4_add (wsV RX4 37 RX4 yX4_isFull wsX4_isFull) := goodIn_app (goodIn_of _ (by decide +kernel)) ggX4_add_X4_isFull
set_option maxRecDepth 20000 in
theorem ggX4_add_X9_lengthOf : GoodIn wsX4_add wsX9_lengthOf := goodIn_r _ [14] (by decide +kernel) (by decide +kernel)
set_option maxRecDepth 20000 in
theorem gX4_add_X9_lengthOf_n41 : GoodIn wsX4_add (wsX9_lengthOf) := ggX4_add_X9_lengthOf
theorem dX4_add_0 : decode cX4_add 0 = .ok (.aload_n 0, 1) := by decide +kernel
theorem dX4_add_1 : decode cX4_add 1 = .ok (.invokevirtual 37, 3) := by decide +kernel
theorem dX4_add_4 : decode cX4_add 4 = .ok (.ifCond .eq 4, 3) := by decide +kernel
theorem dX4_add_7 : decode cX4_add 7 = .ok (.return_, 1) := by decide +kernel
theorem dX4_add_8 : decode cX4_add 8 = .ok (.aload_n 0, 1) := by decide +kernel
theorem dX4_add_9 : decode cX4_add 9 = .ok (.getfield 9, 3) := by decide +kernel
theorem dX4_add_12 : decode cX4_add 12 = .ok (.aload_n 0, 1) := by decide +kernel
theorem dX4_add_13 : decode cX4_add 13 = .ok (.getfield 33, 3) := by decide +kernel
theorem dX4_add_16 : decode cX4_add 16 = .ok (.iload_n 1, 1) := by decide +kernel
theorem dX4_add_17 : decode cX4_add 17 = .ok (.iastore, 1) := by decide +kernel
theorem dX4_add_18 : decode cX4_add 18 = .ok (.aload_n 0, 1) := by decide +kernel
theorem dX4_add_19 : decode cX4_add 19 = .ok (.getfield 15, 3) := by decide +kernel
theorem dX4_add_22 : decode cX4_add 22 = .ok (.aload_n 0, 1) := by decide +kernel
theorem dX4_add_23 : decode cX4_add 23 = .ok (.getfield 33, 3) := by decide +kernel
theorem dX4_add_26 : decode cX4_add 26 = .ok (.iload_n 2, 1) := by decide +kernel
theorem dX4_add_27 : decode cX4_add 27 = .ok (.iastore, 1) := by decide +kernel
theorem dX4_add_28 : decode cX4_add 28 = .ok (.aload_n 0, 1) := by decide +kernel
theorem dX4_add_29 : decode cX4_add 29 = .ok (.getfield 18, 3) := by decide +kernel
theorem dX4_add_32 : decode cX4_add 32 = .ok (.aload_n 0, 1) := by decide +kernel
theorem dX4_add_33 : decode cX4_add 33 = .ok (.getfield 33, 3) := by decide +kernel
theorem dX4_add_36 : decode cX4_add 36 = .ok (.iload_n 1, 1) := by decide +kernel
theorem dX4_add_37 : decode cX4_add 37 = .ok (.invokestatic 41, 3) := by decide +kernel
theorem dX4_add_40 : decode cX4_add 40 = .ok (.iastore, 1) := by decide +kernel
theorem dX4_add_41 : decode cX4_add 41 = .ok (.aload_n 0, 1) := by decide +kernel
theorem dX4_add_42 : decode cX4_add 42 = .ok (.getfield 21, 3) := by decide +kernel
theorem dX4_add_45 : decode cX4_add 45 = .ok (.aload_n 0, 1) := by decide +kernel
theorem dX4_add_46 : decode cX4_add 46 = .ok (.getfield 33, 3) := by decide +kernel
theorem dX4_add_49 : decode cX4_add 49 = .ok (.iload_n 2, 1) := by decide +kernel
theorem dX4_add_50 : decode cX4_add 50 = .ok (.invokestatic 41, 3) := by decide +kernel
theorem dX4_add_53 : decode cX4_add 53 = .ok (.iastore, 1) := by decide +kernel
theorem dX4_add_54 : decode cX4_add 54 = .ok (.aload_n 0, 1) := by decide +kernel
theorem dX4_add_55 : decode cX4_add 55 = .ok (.getfield 24, 3) := by decide +kernel
theorem dX4_add_58 : decode cX4_add 58 = .ok (.aload_n 0, 1) := by decide +kernel
theorem dX4_add_59 : decode cX4_add 59 = .ok (.getfield 33, 3) := by decide +kernel
theorem dX4_add_62 : decode cX4_add 62 = .ok (.iconst 0, 1) := by decide +kernel
theorem dX4_add_63 : decode cX4_add 63 = .ok (.iastore, 1) := by decide +kernel
theorem dX4_add_64 : decode cX4_add 64 = .ok (.aload_n 0, 1) := by decide +kernel
theorem dX4_add_65 : decode cX4_add 65 = .ok (.dup, 1) := by decide +kernel
theorem dX4_add_66 : decode cX4_add 66 = .ok (.getfield 33, 3) := by decide +kernel
theorem dX4_add_69 : decode cX4_add 69 = .ok (.iconst 1, 1) := by decide +kernel
theorem dX4_add_70 : decode cX4_add 70 = .ok (.iadd, 1) := by decide +kernel
theorem dX4_add_71 : decode cX4_add 71 = .ok (.putfield 33, 3) := by decide +kernel
theorem dX4_add_74 : decode cX4_add 74 = .ok (.return_, 1) := by decide +kernel
set_option maxRecDepth 20000 in
theorem ggX4_remove_X4_contains : GoodIn wsX4_remove wsX4_contains := goodIn_r _ [11, 1, 12, 13, 14, 15, 16, 17] (by decide +kernel) (by decide +kernel)
set_option maxRecDepth 20000 in
theorem gX4_remove_X4_contains : GoodIn wsX4_remove (wsV RX4 47 RX4 yX4_contains wsX4_contains) := goodIn_app (goodIn_of _ (by decide +kernel)) ggX4_remove_X4_contains
theorem dX4_remove_0 : decode cX4_remove 0 = .ok (.aload_n 0, 1) := by decide +kernel
theorem dX4_remove_1 : decode cX4_remove 1 = .ok (.iload_n 1, 1) := by decide +kernel
theorem dX4_remove_2 : decode cX4_remove 2 = .ok (.invokevirtual 47, 3) := by decide +kernel
theorem dX4_remove_5 : decode cX4_remove 5 = .ok (.ifCond .ne 4, 3) := by decide +kernel
theorem dX4_remove_8 : decode cX4_remove 8 = .ok (.return_, 1) := by decide +kernel
theorem dX4_remove_9 : decode cX4_remove 9 = .ok (.iload_n 1, 1) := by decide +kernel
theorem dX4_remove_10 : decode cX4_remove 10 = .ok (.istore_n 2, 1) := by decide +kernel
theorem dX4_remove_11 : decode cX4_remove 11 = .ok (.iload_n 2, 1) := by decide +kernel
theorem dX4_remove_12 : decode cX4_remove 12 = .ok (.iconst 1, 1) := by decide +kernel
theorem dX4_remove_13 : decode cX4_remove 13 = .ok (.iadd, 1) := by decide +kernel
theorem dX4_remove_14 : decode cX4_remove 14 = .ok (.aload_n 0, 1) := by decide +kernel
theorem dX4_remove_15 : decode cX4_remove 15 = .ok (.getfield 33, 3) := by decide +kernel
theorem dX4_remove_18 : decode cX4_remove 18 = .ok (.if_icmp .ge 79, 3) := by decide +kernel
theorem dX4_remove_21 : decode cX4_remove 21 = .ok (.aload_n 0, 1) := by decide +kernel
theorem dX4_remove_22 : decode cX4_remove 22 = .ok (.getfield 9, 3) := by decide +kernel
theorem dX4_remove_25 : decode cX4_remove 25 = .ok (.iload_n 2, 1) := by decide +kernel
theorem dX4_remove_26 : decode cX4_remove 26 = .ok (.aload_n 0, 1) := by decide +kernel
theorem dX4_remove_27 : decode cX4_remove 27 = .ok (.getfield 9, 3) := by decide +kernel
theorem dX4_remove_30 : decode cX4_remove 30 = .ok (.iload_n 2, 1) := by decide +kernel
theorem dX4_remove_31 : decode cX4_remove 31 = .ok (.iconst 1, 1) := by decide +kernel
theorem dX4_remove_32 : decode cX4_remove 32 = .ok (.iadd, 1) := by decide +kernel
theorem dX4_remove_33 : decode cX4_remove 33 = .ok (.iaload, 1) := by decide +kernel
theorem dX4_remove_34 : decode cX4_remove 34 = .ok (.iastore, 1) := by decide +kernel
theorem dX4_remove_35 : decode cX4_remove 35 = .ok (.aload_n 0, 1) := by decide +kernel
theorem dX4_remove_36 : decode cX4_remove 36 = .ok (.getfield 15, 3) := by decide +kernel
theorem dX4_remove_39 : decode cX4_remove 39 = .ok (.iload_n 2, 1) := by decide +kernel
theorem dX4_remove_40 : decode cX4_remove 40 = .ok (.aload_n 0, 1) := by decide +kernel
theorem dX4_remove_41 : decode cX4_remove 41 = .ok (.getfield 15, 3) := by decide +kernel
theorem dX4_remove_44 : decode cX4_remove 44 = .ok (.iload_n 2, 1) := by decide +kernel
theorem dX4_remove_45 : decode cX4_remove 45 = .ok (.iconst 1, 1) := by decide +kernel
theorem dX4_remove_46 : decode cX4_remove 46 = .ok (.iadd, 1) := by decide +kernel
theorem dX4_remove_47 : decode cX4_remove 47 = .ok (.iaload, 1) := by decide +kernel
theorem dX4_remove_48 : decode cX4_remove 48 = .ok (.iastore, 1) := by decide +kernel
theorem dX4_remove_49 : decode cX4_remove 49 = .ok (.aload_n 0, 1) := by decide +kernel
theorem dX4_remove_50 : decode cX4_remove 50 = .ok (.getfield 18, 3) := by decide +kernel
theorem dX4_remove_53 : decode cX4_remove 53 = .ok (.iload_n 2, 1) := by decide +kernel
theorem dX4_remove_54 : decode cX4_remove 54 = .ok (.aload_n 0, 1) := by decide +kernel
theorem dX4_remove_55 : decode cX4_remove 55 = .ok (.getfield 18, 3) := by decide +kernel
theorem dX4_remove_58 : decode cX4_remove 58 = .ok (.iload_n 2, 1) := by decide +kernel
theorem dX4_remove_59 : decode cX4_remove 59 = .ok (.iconst 1, 1) := by decide +kernel
theorem dX4_remove_60 : decode cX4_remove 60 = .ok (.iadd, 1) := by decide +kernel
theorem dX4_remove_61 : decode cX4_remove 61 = .ok (.iaload, 1) := by decide +kernel
theorem dX4_remove_62 : decode cX4_remove 62 = .ok (.iastore, 1) := by decide +kernel
theorem dX4_remove_63 : decode cX4_remove 63 = .ok (.aload_n 0, 1) := by decide +kernel
theorem dX4_remove_64 : decode cX4_remove 64 = .ok (.getfield 21, 3) := by decide +kernel
theorem dX4_remove_67 : decode cX4_remove 67 = .ok (.iload_n 2, 1) := by decide +kernel
theorem dX4_remove_68 : decode cX4_remove 68 = .ok (.aload_n 0, 1) := by decide +kernel
theorem dX4_remove_69 : decode cX4_remove 69 = .ok (.getfield 21, 3) := by decide +kernel
theorem dX4_remove_72 : decode cX4_remove 72 = .ok (.iload_n 2, 1) := by decide +kernel
theorem dX4_remove_73 : decode cX4_remove 73 = .ok (.iconst 1, 1) := by decide +kernel
theorem dX4_remove_74 : decode cX4_remove 74 = .ok (.iadd, 1) := by decide +kernel
theorem dX4_remove_75 : decode cX4_remove 75 = .ok (.iaload, 1) := by decide +kernel
theorem dX4_remove_76 : decode cX4_remove 76 = .ok (.iastore, 1) := by decide +kernel
theorem dX4_remove_77 : decode cX4_remove 77 = .ok (.aload_n 0, 1) := by decide +kernel
theorem dX4_remove_78 : decode cX4_remove 78 = .ok (.getfield 24, 3) := by decide +kernel
theorem dX4_remove_81 : decode cX4_remove 81 = .ok (.iload_n 2, 1) := by decide +kernel
theorem dX4_remove_82 : decode cX4_remove 82 = .ok (.aload_n 0, 1) := by decide +kernel
theorem dX4_remove_83 : decode cX4_remove 83 = .ok (.getfield 24, 3) := by decide +kernel
theorem dX4_remove_86 : decode cX4_remove 86 = .ok (.iload_n 2, 1) := by decide +kernel
theorem dX4_remove_87 : decode cX4_remove 87 = .ok (.iconst 1, 1) := by decide +kernel
theorem dX4_remove_88 : decode cX4_remove 88 = .ok (.iadd, 1) := by decide +kernel
theorem dX4_remove_89 : decode cX4_remove 89 = .ok (.iaload, 1) := by decide +kernel
theorem dX4_remove_90 : decode cX4_remove 90 = .ok (.iastore, 1) := by decide +kernel
theorem dX4_remove_91 : decode cX4_remove 91 = .ok (.iinc 2 1, 3) := by decide +kernel
theorem dX4_remove_94 : decode cX4_remove 94 = .ok (.goto (-83), 3) := by decide +kernel
theorem dX4_remove_97 : decode cX4_remove 97 = .ok (.aload_n 0, 1) := by decide +kernel
theorem dX4_remove_98 : decode cX4_remove 98 = .ok (.dup, 1) := by decide +kernel
theorem dX4_remove_99 : decode cX4_remove 99 = .ok (.getfield 33, 3) := by decide +kernel
theorem dX4_remove_102 : decode cX4_remove 102 = .ok (.iconst 1, 1) := by decide +kernel
theorem dX4_remove_103 : decode cX4_remove 103 = .ok (.isub, 1) := by decide +kernel
theorem dX4_remove_104 : decode cX4_remove 104 = .ok (.putfield 33, 3) := by decide +kernel
theorem dX4_remove_107 : decode cX4_remove 107 = .ok (.return_, 1) := by decide +kernel
theorem dX4_appliesAt_0 : decode cX4_appliesAt 0 = .ok (.iload_n 2, 1) := by decide +kernel
theorem dX4_appliesAt_1 : decode cX4_appliesAt 1 = .ok (.iload 4, 2) := by decide +kernel
theorem dX4_appliesAt_3 : decode cX4_appliesAt 3 = .ok (.isub, 1) := by decide +kernel
theorem dX4_appliesAt_4 : decode cX4_appliesAt 4 = .ok (.aload_n 0, 1) := by decide +kernel
theorem dX4_appliesAt_5 : decode cX4_appliesAt 5 = .ok (.getfield 18, 3) := by decide +kernel
theorem dX4_appliesAt_8 : decode cX4_appliesAt 8 = .ok (.iload_n 3, 1) := by decide +kernel
theorem dX4_appliesAt_9 : decode cX4_appliesAt 9 = .ok (.iaload, 1) := by decide +kernel
theorem dX4_appliesAt_10 : decode cX4_appliesAt 10 = .ok (.isub, 1) := by decide +kernel
theorem dX4_appliesAt_11 : decode cX4_appliesAt 11 = .ok (.istore 5, 2) := by decide +kernel
theorem dX4_appliesAt_13 : decode cX4_appliesAt 13 = .ok (.iload 5, 2) := by decide +kernel
theorem dX4_appliesAt_15 : decode cX4_appliesAt 15 = .ok (.ifCond .ge 5, 3) := by decide +kernel
theorem dX4_appliesAt_18 : decode cX4_appliesAt 18 = .ok (.iconst 0, 1) := by decide +kernel
theorem dX4_appliesAt_19 : decode cX4_appliesAt 19 = .ok (.ireturn, 1) := by decide +kernel
theorem dX4_appliesAt_20 : decode cX4_appliesAt 20 = .ok (.iload_n 1, 1) := by decide +kernel
theorem dX4_appliesAt_21 : decode cX4_appliesAt 21 = .ok (.iconst 2, 1) := by decide +kernel
theorem dX4_appliesAt_22 : decode cX4_appliesAt 22 = .ok (.iload 5, 2) := by decide +kernel
theorem dX4_appliesAt_24 : decode cX4_appliesAt 24 = .ok (.imul, 1) := by decide +kernel
theorem dX4_appliesAt_25 : decode cX4_appliesAt 25 = .ok (.ishr, 1) := by decide +kernel
theorem dX4_appliesAt_26 : decode cX4_appliesAt 26 = .ok (.aload_n 0, 1) := by decide +kernel
theorem dX4_appliesAt_27 : decode cX4_appliesAt 27 = .ok (.getfield 9, 3) := by decide +kernel
theorem dX4_appliesAt_30 : decode cX4_appliesAt 30 = .ok (.iload_n 3, 1) := by decide +kernel
theorem dX4_appliesAt_31 : decode cX4_appliesAt 31 = .ok (.iaload, 1) := by decide +kernel
theorem dX4_appliesAt_32 : decode cX4_appliesAt 32 = .ok (.ixor, 1) := by decide +kernel
theorem dX4_appliesAt_33 : decode cX4_appliesAt 33 = .ok (.istore 6, 2) := by decide +kernel
theorem dX4_appliesAt_35 : decode cX4_appliesAt 35 = .ok (.iconst 1, 1) := by decide +kernel
theorem dX4_appliesAt_36 : decode cX4_appliesAt 36 = .ok (.iconst 2, 1) := by decide +kernel
theorem dX4_appliesAt_37 : decode cX4_appliesAt 37 = .ok (.aload_n 0, 1) := by decide +kernel
theorem dX4_appliesAt_38 : decode cX4_appliesAt 38 = .ok (.getfield 18, 3) := by decide +kernel
theorem dX4_appliesAt_41 : decode cX4_appliesAt 41 = .ok (.iload_n 3, 1) := by decide +kernel
theorem dX4_appliesAt_42 : decode cX4_appliesAt 42 = .ok (.iaload, 1) := by decide +kernel
theorem dX4_appliesAt_43 : decode cX4_appliesAt 43 = .ok (.imul, 1) := by decide +kernel
theorem dX4_appliesAt_44 : decode cX4_appliesAt 44 = .ok (.ishl, 1) := by decide +kernel
theorem dX4_appliesAt_45 : decode cX4_appliesAt 45 = .ok (.iconst 1, 1) := by decide +kernel
theorem dX4_appliesAt_46 : decode cX4_appliesAt 46 = .ok (.isub, 1) := by decide +kernel
theorem dX4_appliesAt_47 : decode cX4_appliesAt 47 = .ok (.istore 7, 2) := by decide +kernel
theorem dX4_appliesAt_49 : decode cX4_appliesAt 49 = .ok (.iload 6, 2) := by decide +kernel
theorem dX4_appliesAt_51 : decode cX4_appliesAt 51 = .ok (.iload 7, 2) := by decide +kernel
theorem dX4_appliesAt_53 : decode cX4_appliesAt 53 = .ok (.iand, 1) := by decide +kernel
theorem dX4_appliesAt_54 : decode cX4_appliesAt 54 = .ok (.ifCond .ne 7, 3) := by decide +kernel
theorem dX4_appliesAt_57 : decode cX4_appliesAt 57 = .ok (.iconst 1, 1) := by decide +kernel
theorem dX4_appliesAt_58 : decode cX4_appliesAt 58 = .ok (.goto 4, 3) := by decide +kernel
theorem dX4_appliesAt_61 : decode cX4_appliesAt 61 = .ok (.iconst 0, 1) := by decide +kernel
theorem dX4_appliesAt_62 : decode cX4_appliesAt 62 = .ok (.ireturn, 1) := by decide +kernel
set_option maxRecDepth 20000 in
theorem ggX4_placesIn_X9_lengthOf : GoodIn wsX4_placesIn wsX9_lengthOf := goodIn_r _ [3] (by decide +kernel) (by decide +kernel)
set_option maxRecDepth 20000 in
theorem gX4_placesIn_X9_lengthOf_n41 : GoodIn wsX4_placesIn (wsX9_lengthOf) := ggX4_placesIn_X9_lengthOf
set_option maxRecDepth 20000 in
theorem ggX4_placesIn_X4_appliesAt : GoodIn wsX4_placesIn wsX4_appliesAt := goodIn_r _ [8, 9, 10, 11, 12, 13, 14, 15, 16] (by decide +kernel) (by decide +kernel)
set_option maxRecDepth 20000 in
theorem gX4_placesIn_X4_appliesAt : GoodIn wsX4_placesIn (wsV RX4 51 RX4 yX4_appliesAt wsX4_appliesAt) := goodIn_app (goodIn_of _ (by decide +kernel)) ggX4_placesIn_X4_appliesAt
theorem dX4_placesIn_0 : decode cX4_placesIn 0 = .ok (.iload_n 1, 1) := by decide +kernel
theorem dX4_placesIn_1 : decode cX4_placesIn 1 = .ok (.invokestatic 41, 3) := by decide +kernel
theorem dX4_placesIn_4 : decode cX4_placesIn 4 = .ok (.istore_n 3, 1) := by decide +kernel
theorem dX4_placesIn_5 : decode cX4_placesIn 5 = .ok (.iconst 0, 1) := by decide +kernel
theorem dX4_placesIn_6 : decode cX4_placesIn 6 = .ok (.istore 4, 2) := by decide +kernel
theorem dX4_placesIn_8 : decode cX4_placesIn 8 = .ok (.iconst 0, 1) := by decide +kernel
theorem dX4_placesIn_9 : decode cX4_placesIn 9 = .ok (.istore 5, 2) := by decide +kernel
theorem dX4_placesIn_11 : decode cX4_placesIn 11 = .ok (.iload 5, 2) := by decide +kernel
theorem dX4_placesIn_13 : decode cX4_placesIn 13 = .ok (.iload_n 3, 1) := by decide +kernel
theorem dX4_placesIn_14 : decode cX4_placesIn 14 = .ok (.if_icmp .ge 24, 3) := by decide +kernel
theorem dX4_placesIn_17 : decode cX4_placesIn 17 = .ok (.aload_n 0, 1) := by decide +kernel
theorem dX4_placesIn_18 : decode cX4_placesIn 18 = .ok (.iload_n 1, 1) := by decide +kernel
theorem dX4_placesIn_19 : decode cX4_placesIn 19 = .ok (.iload_n 3, 1) := by decide +kernel
theorem dX4_placesIn_20 : decode cX4_placesIn 20 = .ok (.iload_n 2, 1) := by decide +kernel
theorem dX4_placesIn_21 : decode cX4_placesIn 21 = .ok (.iload 5, 2) := by decide +kernel
theorem dX4_placesIn_23 : decode cX4_placesIn 23 = .ok (.invokevirtual 51, 3) := by decide +kernel
theorem dX4_placesIn_26 : decode cX4_placesIn 26 = .ok (.ifCond .eq 6, 3) := by decide +kernel
theorem dX4_placesIn_29 : decode cX4_placesIn 29 = .ok (.iinc 4 1, 3) := by decide +kernel
theorem dX4_placesIn_32 : decode cX4_placesIn 32 = .ok (.iinc 5 1, 3) := by decide +kernel
theorem dX4_placesIn_35 : decode cX4_placesIn 35 = .ok (.goto (-24), 3) := by decide +kernel
theorem dX4_placesIn_38 : decode cX4_placesIn 38 = .ok (.iload 4, 2) := by decide +kernel
theorem dX4_placesIn_40 : decode cX4_placesIn 40 = .ok (.ireturn, 1) := by decide +kernel
set_option maxRecDepth 20000 in
theorem ggX4_choiceFor_X9_lengthOf : GoodIn wsX4_choiceFor wsX9_lengthOf := goodIn_r _ [4] (by decide +kernel) (by decide +kernel)
set_option maxRecDepth 20000 in
theorem gX4_choiceFor_X9_lengthOf_n41 : GoodIn wsX4_choiceFor (wsX9_lengthOf) := ggX4_choiceFor_X9_lengthOf
set_option maxRecDepth 20000 in
theorem ggX4_choiceFor_X4_appliesAt : GoodIn wsX4_choiceFor wsX4_appliesAt := goodIn_r _ [9, 10, 11, 12, 13, 14, 15, 16, 17] (by decide +kernel) (by decide +kernel)
set_option maxRecDepth 20000 in
theorem gX4_choiceFor_X4_appliesAt : GoodIn wsX4_choiceFor (wsV RX4 51 RX4 yX4_appliesAt wsX4_appliesAt) := goodIn_app (goodIn_of _ (by decide +kernel)) ggX4_choiceFor_X4_appliesAt
theorem dX4_choiceFor_0 : decode cX4_choiceFor 0 = .ok (.iload_n 1, 1) := by decide +kernel
theorem dX4_choiceFor_1 : decode cX4_choiceFor 1 = .ok (.invokestatic 41, 3) := by decide +kernel
theorem dX4_choiceFor_4 : decode cX4_choiceFor 4 = .ok (.istore_n 3, 1) := by decide +kernel
theorem dX4_choiceFor_5 : decode cX4_choiceFor 5 = .ok (.iload_n 2, 1) := by decide +kernel
theorem dX4_choiceFor_6 : decode cX4_choiceFor 6 = .ok (.iconst 2, 1) := by decide +kernel
theorem dX4_choiceFor_7 : decode cX4_choiceFor 7 = .ok (.if_icmp .ne 7, 3) := by decide +kernel
theorem dX4_choiceFor_10 : decode cX4_choiceFor 10 = .ok (.iconst 1, 1) := by decide +kernel
theorem dX4_choiceFor_11 : decode cX4_choiceFor 11 = .ok (.goto 4, 3) := by decide +kernel
theorem dX4_choiceFor_14 : decode cX4_choiceFor 14 = .ok (.iconst 0, 1) := by decide +kernel
theorem dX4_choiceFor_15 : decode cX4_choiceFor 15 = .ok (.istore 4, 2) := by decide +kernel
theorem dX4_choiceFor_17 : decode cX4_choiceFor 17 = .ok (.iload 4, 2) := by decide +kernel
theorem dX4_choiceFor_19 : decode cX4_choiceFor 19 = .ok (.ifCond .eq 10, 3) := by decide +kernel
theorem dX4_choiceFor_22 : decode cX4_choiceFor 22 = .ok (.aload_n 0, 1) := by decide +kernel
theorem dX4_choiceFor_23 : decode cX4_choiceFor 23 = .ok (.getfield 33, 3) := by decide +kernel
theorem dX4_choiceFor_26 : decode cX4_choiceFor 26 = .ok (.goto 4, 3) := by decide +kernel
theorem dX4_choiceFor_29 : decode cX4_choiceFor 29 = .ok (.iload_n 3, 1) := by decide +kernel
theorem dX4_choiceFor_30 : decode cX4_choiceFor 30 = .ok (.istore 5, 2) := by decide +kernel
theorem dX4_choiceFor_32 : decode cX4_choiceFor 32 = .ok (.iload 4, 2) := by decide +kernel
theorem dX4_choiceFor_34 : decode cX4_choiceFor 34 = .ok (.ifCond .eq 7, 3) := by decide +kernel
theorem dX4_choiceFor_37 : decode cX4_choiceFor 37 = .ok (.iload_n 3, 1) := by decide +kernel
theorem dX4_choiceFor_38 : decode cX4_choiceFor 38 = .ok (.goto 7, 3) := by decide +kernel
theorem dX4_choiceFor_41 : decode cX4_choiceFor 41 = .ok (.aload_n 0, 1) := by decide +kernel
theorem dX4_choiceFor_42 : decode cX4_choiceFor 42 = .ok (.getfield 33, 3) := by decide +kernel
theorem dX4_choiceFor_45 : decode cX4_choiceFor 45 = .ok (.istore 6, 2) := by decide +kernel
theorem dX4_choiceFor_47 : decode cX4_choiceFor 47 = .ok (.iconst 0, 1) := by decide +kernel
theorem dX4_choiceFor_48 : decode cX4_choiceFor 48 = .ok (.istore 7, 2) := by decide +kernel
theorem dX4_choiceFor_50 : decode cX4_choiceFor 50 = .ok (.iload 7, 2) := by decide +kernel
theorem dX4_choiceFor_52 : decode cX4_choiceFor 52 = .ok (.iload 5, 2) := by decide +kernel
theorem dX4_choiceFor_54 : decode cX4_choiceFor 54 = .ok (.if_icmp .ge 93, 3) := by decide +kernel
theorem dX4_choiceFor_57 : decode cX4_choiceFor 57 = .ok (.iconst 0, 1) := by decide +kernel
theorem dX4_choiceFor_58 : decode cX4_choiceFor 58 = .ok (.istore 8, 2) := by decide +kernel
theorem dX4_choiceFor_60 : decode cX4_choiceFor 60 = .ok (.iload 8, 2) := by decide +kernel
theorem dX4_choiceFor_62 : decode cX4_choiceFor 62 = .ok (.iload 6, 2) := by decide +kernel
theorem dX4_choiceFor_64 : decode cX4_choiceFor 64 = .ok (.if_icmp .ge 77, 3) := by decide +kernel
theorem dX4_choiceFor_67 : decode cX4_choiceFor 67 = .ok (.iload 4, 2) := by decide +kernel
theorem dX4_choiceFor_69 : decode cX4_choiceFor 69 = .ok (.ifCond .eq 8, 3) := by decide +kernel
theorem dX4_choiceFor_72 : decode cX4_choiceFor 72 = .ok (.iload 7, 2) := by decide +kernel
theorem dX4_choiceFor_74 : decode cX4_choiceFor 74 = .ok (.goto 5, 3) := by decide +kernel
theorem dX4_choiceFor_77 : decode cX4_choiceFor 77 = .ok (.iload 8, 2) := by decide +kernel
theorem dX4_choiceFor_79 : decode cX4_choiceFor 79 = .ok (.istore 9, 2) := by decide +kernel
theorem dX4_choiceFor_81 : decode cX4_choiceFor 81 = .ok (.iload 4, 2) := by decide +kernel
theorem dX4_choiceFor_83 : decode cX4_choiceFor 83 = .ok (.ifCond .eq 8, 3) := by decide +kernel
theorem dX4_choiceFor_86 : decode cX4_choiceFor 86 = .ok (.iload 8, 2) := by decide +kernel
theorem dX4_choiceFor_88 : decode cX4_choiceFor 88 = .ok (.goto 5, 3) := by decide +kernel
theorem dX4_choiceFor_91 : decode cX4_choiceFor 91 = .ok (.iload 7, 2) := by decide +kernel
theorem dX4_choiceFor_93 : decode cX4_choiceFor 93 = .ok (.istore 10, 2) := by decide +kernel
theorem dX4_choiceFor_95 : decode cX4_choiceFor 95 = .ok (.iload_n 2, 1) := by decide +kernel
theorem dX4_choiceFor_96 : decode cX4_choiceFor 96 = .ok (.iconst 1, 1) := by decide +kernel
theorem dX4_choiceFor_97 : decode cX4_choiceFor 97 = .ok (.if_icmp .ne 12, 3) := by decide +kernel
theorem dX4_choiceFor_100 : decode cX4_choiceFor 100 = .ok (.iload_n 3, 1) := by decide +kernel
theorem dX4_choiceFor_101 : decode cX4_choiceFor 101 = .ok (.iconst 1, 1) := by decide +kernel
theorem dX4_choiceFor_102 : decode cX4_choiceFor 102 = .ok (.isub, 1) := by decide +kernel
theorem dX4_choiceFor_103 : decode cX4_choiceFor 103 = .ok (.iload 10, 2) := by decide +kernel
theorem dX4_choiceFor_105 : decode cX4_choiceFor 105 = .ok (.isub, 1) := by decide +kernel
theorem dX4_choiceFor_106 : decode cX4_choiceFor 106 = .ok (.goto 5, 3) := by decide +kernel
theorem dX4_choiceFor_109 : decode cX4_choiceFor 109 = .ok (.iload 10, 2) := by decide +kernel
theorem dX4_choiceFor_111 : decode cX4_choiceFor 111 = .ok (.istore 11, 2) := by decide +kernel
theorem dX4_choiceFor_113 : decode cX4_choiceFor 113 = .ok (.aload_n 0, 1) := by decide +kernel
theorem dX4_choiceFor_114 : decode cX4_choiceFor 114 = .ok (.iload_n 1, 1) := by decide +kernel
theorem dX4_choiceFor_115 : decode cX4_choiceFor 115 = .ok (.iload_n 3, 1) := by decide +kernel
theorem dX4_choiceFor_116 : decode cX4_choiceFor 116 = .ok (.iload 9, 2) := by decide +kernel
theorem dX4_choiceFor_118 : decode cX4_choiceFor 118 = .ok (.iload 11, 2) := by decide +kernel
theorem dX4_choiceFor_120 : decode cX4_choiceFor 120 = .ok (.invokevirtual 51, 3) := by decide +kernel
theorem dX4_choiceFor_123 : decode cX4_choiceFor 123 = .ok (.ifCond .eq 12, 3) := by decide +kernel
theorem dX4_choiceFor_126 : decode cX4_choiceFor 126 = .ok (.iload 11, 2) := by decide +kernel
theorem dX4_choiceFor_128 : decode cX4_choiceFor 128 = .ok (.bipush 10, 2) := by decide +kernel
theorem dX4_choiceFor_130 : decode cX4_choiceFor 130 = .ok (.imul, 1) := by decide +kernel
theorem dX4_choiceFor_131 : decode cX4_choiceFor 131 = .ok (.iload 9, 2) := by decide +kernel
theorem dX4_choiceFor_133 : decode cX4_choiceFor 133 = .ok (.iadd, 1) := by decide +kernel
theorem dX4_choiceFor_134 : decode cX4_choiceFor 134 = .ok (.ireturn, 1) := by decide +kernel
theorem dX4_choiceFor_135 : decode cX4_choiceFor 135 = .ok (.iinc 8 1, 3) := by decide +kernel
theorem dX4_choiceFor_138 : decode cX4_choiceFor 138 = .ok (.goto (-78), 3) := by decide +kernel
theorem dX4_choiceFor_141 : decode cX4_choiceFor 141 = .ok (.iinc 7 1, 3) := by decide +kernel
theorem dX4_choiceFor_144 : decode cX4_choiceFor 144 = .ok (.goto (-94), 3) := by decide +kernel
theorem dX4_choiceFor_147 : decode cX4_choiceFor 147 = .ok (.iconst (-1), 1) := by decide +kernel
theorem dX4_choiceFor_148 : decode cX4_choiceFor 148 = .ok (.ireturn, 1) := by decide +kernel
theorem dX4_ruleIn_0 : decode cX4_ruleIn 0 = .ok (.iload_n 0, 1) := by decide +kernel
theorem dX4_ruleIn_1 : decode cX4_ruleIn 1 = .ok (.bipush 10, 2) := by decide +kernel
theorem dX4_ruleIn_3 : decode cX4_ruleIn 3 = .ok (.irem, 1) := by decide +kernel
theorem dX4_ruleIn_4 : decode cX4_ruleIn 4 = .ok (.ireturn, 1) := by decide +kernel
theorem dX4_placeIn_0 : decode cX4_placeIn 0 = .ok (.iload_n 0, 1) := by decide +kernel
theorem dX4_placeIn_1 : decode cX4_placeIn 1 = .ok (.bipush 10, 2) := by decide +kernel
theorem dX4_placeIn_3 : decode cX4_placeIn 3 = .ok (.idiv, 1) := by decide +kernel
theorem dX4_placeIn_4 : decode cX4_placeIn 4 = .ok (.ireturn, 1) := by decide +kernel
set_option maxRecDepth 20000 in
theorem ggX4_applied_X9_lengthOf : GoodIn wsX4_applied wsX9_lengthOf := goodIn_r _ [6] (by decide +kernel) (by decide +kernel)
set_option maxRecDepth 20000 in
theorem gX4_applied_X9_lengthOf_n41 : GoodIn wsX4_applied (wsX9_lengthOf) := ggX4_applied_X9_lengthOf
set_option maxRecDepth 20000 in
theorem ggX4_applied_X9_lastBits : GoodIn wsX4_applied wsX9_lastBits := goodIn_r _ [8] (by decide +kernel) (by decide +kernel)
set_option maxRecDepth 20000 in
theorem gX4_applied_X9_lastBits_n55 : GoodIn wsX4_applied (wsX9_lastBits) := ggX4_applied_X9_lastBits
theorem dX4_applied_0 : decode cX4_applied 0 = .ok (.iload_n 1, 1) := by decide +kernel
theorem dX4_applied_1 : decode cX4_applied 1 = .ok (.invokestatic 41, 3) := by decide +kernel
theorem dX4_applied_4 : decode cX4_applied 4 = .ok (.istore 4, 2) := by decide +kernel
theorem dX4_applied_6 : decode cX4_applied 6 = .ok (.iload_n 1, 1) := by decide +kernel
theorem dX4_applied_7 : decode cX4_applied 7 = .ok (.iconst 2, 1) := by decide +kernel
theorem dX4_applied_8 : decode cX4_applied 8 = .ok (.iload 4, 2) := by decide +kernel
theorem dX4_applied_10 : decode cX4_applied 10 = .ok (.iload_n 3, 1) := by decide +kernel
theorem dX4_applied_11 : decode cX4_applied 11 = .ok (.isub, 1) := by decide +kernel
theorem dX4_applied_12 : decode cX4_applied 12 = .ok (.imul, 1) := by decide +kernel
theorem dX4_applied_13 : decode cX4_applied 13 = .ok (.ishr, 1) := by decide +kernel
theorem dX4_applied_14 : decode cX4_applied 14 = .ok (.istore 5, 2) := by decide +kernel
theorem dX4_applied_16 : decode cX4_applied 16 = .ok (.aload_n 0, 1) := by decide +kernel
theorem dX4_applied_17 : decode cX4_applied 17 = .ok (.getfield 15, 3) := by decide +kernel
theorem dX4_applied_20 : decode cX4_applied 20 = .ok (.iload_n 2, 1) := by decide +kernel
theorem dX4_applied_21 : decode cX4_applied 21 = .ok (.iaload, 1) := by decide +kernel
theorem dX4_applied_22 : decode cX4_applied 22 = .ok (.aload_n 0, 1) := by decide +kernel
theorem dX4_applied_23 : decode cX4_applied 23 = .ok (.getfield 21, 3) := by decide +kernel
theorem dX4_applied_26 : decode cX4_applied 26 = .ok (.iload_n 2, 1) := by decide +kernel
theorem dX4_applied_27 : decode cX4_applied 27 = .ok (.iaload, 1) := by decide +kernel
theorem dX4_applied_28 : decode cX4_applied 28 = .ok (.invokestatic 55, 3) := by decide +kernel
theorem dX4_applied_31 : decode cX4_applied 31 = .ok (.istore 6, 2) := by decide +kernel
theorem dX4_applied_33 : decode cX4_applied 33 = .ok (.iload 4, 2) := by decide +kernel
theorem dX4_applied_35 : decode cX4_applied 35 = .ok (.iload_n 3, 1) := by decide +kernel
theorem dX4_applied_36 : decode cX4_applied 36 = .ok (.isub, 1) := by decide +kernel
theorem dX4_applied_37 : decode cX4_applied 37 = .ok (.aload_n 0, 1) := by decide +kernel
theorem dX4_applied_38 : decode cX4_applied 38 = .ok (.getfield 18, 3) := by decide +kernel
theorem dX4_applied_41 : decode cX4_applied 41 = .ok (.iload_n 2, 1) := by decide +kernel
theorem dX4_applied_42 : decode cX4_applied 42 = .ok (.iaload, 1) := by decide +kernel
theorem dX4_applied_43 : decode cX4_applied 43 = .ok (.isub, 1) := by decide +kernel
theorem dX4_applied_44 : decode cX4_applied 44 = .ok (.istore 7, 2) := by decide +kernel
theorem dX4_applied_46 : decode cX4_applied 46 = .ok (.iload 5, 2) := by decide +kernel
theorem dX4_applied_48 : decode cX4_applied 48 = .ok (.iconst 2, 1) := by decide +kernel
theorem dX4_applied_49 : decode cX4_applied 49 = .ok (.aload_n 0, 1) := by decide +kernel
theorem dX4_applied_50 : decode cX4_applied 50 = .ok (.getfield 21, 3) := by decide +kernel
theorem dX4_applied_53 : decode cX4_applied 53 = .ok (.iload_n 2, 1) := by decide +kernel
theorem dX4_applied_54 : decode cX4_applied 54 = .ok (.iaload, 1) := by decide +kernel
theorem dX4_applied_55 : decode cX4_applied 55 = .ok (.imul, 1) := by decide +kernel
theorem dX4_applied_56 : decode cX4_applied 56 = .ok (.ishl, 1) := by decide +kernel
theorem dX4_applied_57 : decode cX4_applied 57 = .ok (.iload 6, 2) := by decide +kernel
theorem dX4_applied_59 : decode cX4_applied 59 = .ok (.ior, 1) := by decide +kernel
theorem dX4_applied_60 : decode cX4_applied 60 = .ok (.istore 8, 2) := by decide +kernel
theorem dX4_applied_62 : decode cX4_applied 62 = .ok (.iload 8, 2) := by decide +kernel
theorem dX4_applied_64 : decode cX4_applied 64 = .ok (.iconst 2, 1) := by decide +kernel
theorem dX4_applied_65 : decode cX4_applied 65 = .ok (.iload 7, 2) := by decide +kernel
theorem dX4_applied_67 : decode cX4_applied 67 = .ok (.imul, 1) := by decide +kernel
theorem dX4_applied_68 : decode cX4_applied 68 = .ok (.ishl, 1) := by decide +kernel
theorem dX4_applied_69 : decode cX4_applied 69 = .ok (.iload_n 1, 1) := by decide +kernel
theorem dX4_applied_70 : decode cX4_applied 70 = .ok (.iload 7, 2) := by decide +kernel
theorem dX4_applied_72 : decode cX4_applied 72 = .ok (.invokestatic 55, 3) := by decide +kernel
theorem dX4_applied_75 : decode cX4_applied 75 = .ok (.ior, 1) := by decide +kernel
theorem dX4_applied_76 : decode cX4_applied 76 = .ok (.ireturn, 1) := by decide +kernel
