theorem dX11_init_0 : decode cX11_init 0 = .ok (.aload_n 0, 1) := by decide +kernel
theorem dX11_init_1 : decode cX11_init 1 = .ok (.invokespecial 1, 3) := by decide +kernel
theorem dX11_init_4 : decode cX11_init 4 = .ok (.aload_n 0, 1) := by decide +kernel
theorem dX11_init_5 : decode cX11_init 5 = .ok (.bipush 52, 2) := by decide +kernel
theorem dX11_init_7 : decode cX11_init 7 = .ok (.newarray .int, 2) := by decide +kernel
theorem dX11_init_9 : decode cX11_init 9 = .ok (.putfield 7, 3) := by decide +kernel
theorem dX11_init_12 : decode cX11_init 12 = .ok (.aload_n 0, 1) := by decide +kernel
theorem dX11_init_13 : decode cX11_init 13 = .ok (.sipush 208, 3) := by decide +kernel
theorem dX11_init_16 : decode cX11_init 16 = .ok (.newarray .int, 2) := by decide +kernel
theorem dX11_init_18 : decode cX11_init 18 = .ok (.putfield 13, 3) := by decide +kernel
theorem dX11_init_21 : decode cX11_init 21 = .ok (.aload_n 0, 1) := by decide +kernel
theorem dX11_init_22 : decode cX11_init 22 = .ok (.bipush 52, 2) := by decide +kernel
theorem dX11_init_24 : decode cX11_init 24 = .ok (.newarray .int, 2) := by decide +kernel
theorem dX11_init_26 : decode cX11_init 26 = .ok (.putfield 16, 3) := by decide +kernel
theorem dX11_init_29 : decode cX11_init 29 = .ok (.aload_n 0, 1) := by decide +kernel
theorem dX11_init_30 : decode cX11_init 30 = .ok (.bipush 52, 2) := by decide +kernel
theorem dX11_init_32 : decode cX11_init 32 = .ok (.newarray .int, 2) := by decide +kernel
theorem dX11_init_34 : decode cX11_init 34 = .ok (.putfield 19, 3) := by decide +kernel
theorem dX11_init_37 : decode cX11_init 37 = .ok (.aload_n 0, 1) := by decide +kernel
theorem dX11_init_38 : decode cX11_init 38 = .ok (.bipush 80, 2) := by decide +kernel
theorem dX11_init_40 : decode cX11_init 40 = .ok (.newarray .char, 2) := by decide +kernel
theorem dX11_init_42 : decode cX11_init 42 = .ok (.putfield 22, 3) := by decide +kernel
theorem dX11_init_45 : decode cX11_init 45 = .ok (.aload_n 0, 1) := by decide +kernel
theorem dX11_init_46 : decode cX11_init 46 = .ok (.bipush 101, 2) := by decide +kernel
theorem dX11_init_48 : decode cX11_init 48 = .ok (.newarray .int, 2) := by decide +kernel
theorem dX11_init_50 : decode cX11_init 50 = .ok (.putfield 26, 3) := by decide +kernel
theorem dX11_init_53 : decode cX11_init 53 = .ok (.aload_n 0, 1) := by decide +kernel
theorem dX11_init_54 : decode cX11_init 54 = .ok (.bipush 101, 2) := by decide +kernel
theorem dX11_init_56 : decode cX11_init 56 = .ok (.newarray .int, 2) := by decide +kernel
theorem dX11_init_58 : decode cX11_init 58 = .ok (.putfield 29, 3) := by decide +kernel
theorem dX11_init_61 : decode cX11_init 61 = .ok (.aload_n 0, 1) := by decide +kernel
theorem dX11_init_62 : decode cX11_init 62 = .ok (.sipush 401, 3) := by decide +kernel
theorem dX11_init_65 : decode cX11_init 65 = .ok (.newarray .int, 2) := by decide +kernel
theorem dX11_init_67 : decode cX11_init 67 = .ok (.putfield 32, 3) := by decide +kernel
theorem dX11_init_70 : decode cX11_init 70 = .ok (.aload_n 0, 1) := by decide +kernel
theorem dX11_init_71 : decode cX11_init 71 = .ok (.getfield 7, 3) := by decide +kernel
theorem dX11_init_74 : decode cX11_init 74 = .ok (.iconst 0, 1) := by decide +kernel
theorem dX11_init_75 : decode cX11_init 75 = .ok (.iconst 1, 1) := by decide +kernel
theorem dX11_init_76 : decode cX11_init 76 = .ok (.iastore, 1) := by decide +kernel
theorem dX11_init_77 : decode cX11_init 77 = .ok (.return_, 1) := by decide +kernel
theorem dX11_in_0 : decode cX11_in 0 = .ok (.iload_n 0, 1) := by decide +kernel
theorem dX11_in_1 : decode cX11_in 1 = .ok (.iload_n 1, 1) := by decide +kernel
theorem dX11_in_2 : decode cX11_in 2 = .ok (.if_icmp .lt 12, 3) := by decide +kernel
theorem dX11_in_5 : decode cX11_in 5 = .ok (.iload_n 0, 1) := by decide +kernel
theorem dX11_in_6 : decode cX11_in 6 = .ok (.iload_n 2, 1) := by decide +kernel
theorem dX11_in_7 : decode cX11_in 7 = .ok (.if_icmp .gt 7, 3) := by decide +kernel
theorem dX11_in_10 : decode cX11_in 10 = .ok (.iconst 1, 1) := by decide +kernel
theorem dX11_in_11 : decode cX11_in 11 = .ok (.goto 4, 3) := by decide +kernel
theorem dX11_in_14 : decode cX11_in 14 = .ok (.iconst 0, 1) := by decide +kernel
theorem dX11_in_15 : decode cX11_in 15 = .ok (.ireturn, 1) := by decide +kernel
theorem dX11_length_0 : decode cX11_length 0 = .ok (.iconst 0, 1) := by decide +kernel
theorem dX11_length_1 : decode cX11_length 1 = .ok (.istore_n 1, 1) := by decide +kernel
theorem dX11_length_2 : decode cX11_length 2 = .ok (.iload_n 0, 1) := by decide +kernel
theorem dX11_length_3 : decode cX11_length 3 = .ok (.istore_n 2, 1) := by decide +kernel
theorem dX11_length_4 : decode cX11_length 4 = .ok (.iload_n 2, 1) := by decide +kernel
theorem dX11_length_5 : decode cX11_length 5 = .ok (.iconst 1, 1) := by decide +kernel
theorem dX11_length_6 : decode cX11_length 6 = .ok (.if_icmp .le 13, 3) := by decide +kernel
theorem dX11_length_9 : decode cX11_length 9 = .ok (.iinc 1 1, 3) := by decide +kernel
theorem dX11_length_12 : decode cX11_length 12 = .ok (.iload_n 2, 1) := by decide +kernel
theorem dX11_length_13 : decode cX11_length 13 = .ok (.iconst 4, 1) := by decide +kernel
theorem dX11_length_14 : decode cX11_length 14 = .ok (.idiv, 1) := by decide +kernel
theorem dX11_length_15 : decode cX11_length 15 = .ok (.istore_n 2, 1) := by decide +kernel
theorem dX11_length_16 : decode cX11_length 16 = .ok (.goto (-12), 3) := by decide +kernel
theorem dX11_length_19 : decode cX11_length 19 = .ok (.iload_n 1, 1) := by decide +kernel
theorem dX11_length_20 : decode cX11_length 20 = .ok (.ireturn, 1) := by decide +kernel
set_option maxRecDepth 20000 in
theorem ggX11_letter_X11_length : GoodIn wsX11_letter wsX11_length := goodIn_r _ [4] (by decide +kernel) (by decide +kernel)
set_option maxRecDepth 20000 in
theorem gX11_letter_X11_length : GoodIn wsX11_letter (va_wsS RX11 35 yX11_length wsX11_length) := goodIn_app (goodIn_of _ (by decide +kernel)) ggX11_letter_X11_length
theorem dX11_letter_0 : decode cX11_letter 0 = .ok (.iload_n 0, 1) := by decide +kernel
theorem dX11_letter_1 : decode cX11_letter 1 = .ok (.iconst 2, 1) := by decide +kernel
theorem dX11_letter_2 : decode cX11_letter 2 = .ok (.iload_n 0, 1) := by decide +kernel
theorem dX11_letter_3 : decode cX11_letter 3 = .ok (.invokestatic 35, 3) := by decide +kernel
theorem dX11_letter_6 : decode cX11_letter 6 = .ok (.iconst 1, 1) := by decide +kernel
theorem dX11_letter_7 : decode cX11_letter 7 = .ok (.isub, 1) := by decide +kernel
theorem dX11_letter_8 : decode cX11_letter 8 = .ok (.iload_n 1, 1) := by decide +kernel
theorem dX11_letter_9 : decode cX11_letter 9 = .ok (.isub, 1) := by decide +kernel
theorem dX11_letter_10 : decode cX11_letter 10 = .ok (.imul, 1) := by decide +kernel
theorem dX11_letter_11 : decode cX11_letter 11 = .ok (.ishr, 1) := by decide +kernel
theorem dX11_letter_12 : decode cX11_letter 12 = .ok (.iconst 3, 1) := by decide +kernel
theorem dX11_letter_13 : decode cX11_letter 13 = .ok (.iand, 1) := by decide +kernel
theorem dX11_letter_14 : decode cX11_letter 14 = .ok (.ireturn, 1) := by decide +kernel
set_option maxRecDepth 20000 in
theorem ggX11_letterOf_X11_length : GoodIn wsX11_letterOf wsX11_length := goodIn_r _ [5] (by decide +kernel) (by decide +kernel)
set_option maxRecDepth 20000 in
theorem gX11_letterOf_X11_length : GoodIn wsX11_letterOf (va_wsS RX11 35 yX11_length wsX11_length) := goodIn_app (goodIn_of _ (by decide +kernel)) ggX11_letterOf_X11_length
set_option maxRecDepth 20000 in
theorem ggX11_letterOf_X11_letter : GoodIn wsX11_letterOf wsX11_letter := goodIn_r _ [8, 2, 3, 4, 5] (by decide +kernel) (by decide +kernel)
set_option maxRecDepth 20000 in
theorem gX11_letterOf_X11_letter : GoodIn wsX11_letterOf (va_wsS RX11 39 yX11_letter wsX11_letter) := goodIn_app (goodIn_of _ (by decide +kernel)) ggX11_letterOf_X11_letter
theorem dX11_letterOf_0 : decode cX11_letterOf 0 = .ok (.iload_n 1, 1) := by decide +kernel
theorem dX11_letterOf_1 : decode cX11_letterOf 1 = .ok (.iload_n 0, 1) := by decide +kernel
theorem dX11_letterOf_2 : decode cX11_letterOf 2 = .ok (.invokestatic 35, 3) := by decide +kernel
theorem dX11_letterOf_5 : decode cX11_letterOf 5 = .ok (.if_icmp .ge 11, 3) := by decide +kernel
theorem dX11_letterOf_8 : decode cX11_letterOf 8 = .ok (.iload_n 0, 1) := by decide +kernel
theorem dX11_letterOf_9 : decode cX11_letterOf 9 = .ok (.iload_n 1, 1) := by decide +kernel
theorem dX11_letterOf_10 : decode cX11_letterOf 10 = .ok (.invokestatic 39, 3) := by decide +kernel
theorem dX11_letterOf_13 : decode cX11_letterOf 13 = .ok (.goto 5, 3) := by decide +kernel
theorem dX11_letterOf_16 : decode cX11_letterOf 16 = .ok (.ldc 43, 2) := by decide +kernel
theorem dX11_letterOf_18 : decode cX11_letterOf 18 = .ok (.ireturn, 1) := by decide +kernel
theorem dX11_left_0 : decode cX11_left 0 = .ok (.aload_n 0, 1) := by decide +kernel
theorem dX11_left_1 : decode cX11_left 1 = .ok (.getfield 7, 3) := by decide +kernel
theorem dX11_left_4 : decode cX11_left 4 = .ok (.bipush 6, 2) := by decide +kernel
theorem dX11_left_6 : decode cX11_left 6 = .ok (.iconst 3, 1) := by decide +kernel
theorem dX11_left_7 : decode cX11_left 7 = .ok (.iload_n 1, 1) := by decide +kernel
theorem dX11_left_8 : decode cX11_left 8 = .ok (.imul, 1) := by decide +kernel
theorem dX11_left_9 : decode cX11_left 9 = .ok (.iadd, 1) := by decide +kernel
theorem dX11_left_10 : decode cX11_left 10 = .ok (.iaload, 1) := by decide +kernel
theorem dX11_left_11 : decode cX11_left 11 = .ok (.ireturn, 1) := by decide +kernel
theorem dX11_right_0 : decode cX11_right 0 = .ok (.aload_n 0, 1) := by decide +kernel
theorem dX11_right_1 : decode cX11_right 1 = .ok (.getfield 7, 3) := by decide +kernel
theorem dX11_right_4 : decode cX11_right 4 = .ok (.bipush 6, 2) := by decide +kernel
theorem dX11_right_6 : decode cX11_right 6 = .ok (.iconst 3, 1) := by decide +kernel
theorem dX11_right_7 : decode cX11_right 7 = .ok (.iload_n 1, 1) := by decide +kernel
theorem dX11_right_8 : decode cX11_right 8 = .ok (.imul, 1) := by decide +kernel
theorem dX11_right_9 : decode cX11_right 9 = .ok (.iadd, 1) := by decide +kernel
theorem dX11_right_10 : decode cX11_right 10 = .ok (.iconst 1, 1) := by decide +kernel
theorem dX11_right_11 : decode cX11_right 11 = .ok (.iadd, 1) := by decide +kernel
theorem dX11_right_12 : decode cX11_right 12 = .ok (.iaload, 1) := by decide +kernel
theorem dX11_right_13 : decode cX11_right 13 = .ok (.ireturn, 1) := by decide +kernel
set_option maxRecDepth 20000 in
theorem ggX11_isRule_X11_in : GoodIn wsX11_isRule wsX11_in := goodIn_r _ [5] (by decide +kernel) (by decide +kernel)
set_option maxRecDepth 20000 in
theorem gX11_isRule_X11_in : GoodIn wsX11_isRule (va_wsS RX11 44 yX11_in wsX11_in) := goodIn_app (goodIn_of _ (by decide +kernel)) ggX11_isRule_X11_in
theorem dX11_isRule_0 : decode cX11_isRule 0 = .ok (.iload_n 1, 1) := by decide +kernel
theorem dX11_isRule_1 : decode cX11_isRule 1 = .ok (.iconst 0, 1) := by decide +kernel
theorem dX11_isRule_2 : decode cX11_isRule 2 = .ok (.aload_n 0, 1) := by decide +kernel
theorem dX11_isRule_3 : decode cX11_isRule 3 = .ok (.getfield 7, 3) := by decide +kernel
theorem dX11_isRule_6 : decode cX11_isRule 6 = .ok (.iconst 1, 1) := by decide +kernel
theorem dX11_isRule_7 : decode cX11_isRule 7 = .ok (.iaload, 1) := by decide +kernel
theorem dX11_isRule_8 : decode cX11_isRule 8 = .ok (.iconst 1, 1) := by decide +kernel
theorem dX11_isRule_9 : decode cX11_isRule 9 = .ok (.isub, 1) := by decide +kernel
theorem dX11_isRule_10 : decode cX11_isRule 10 = .ok (.invokestatic 44, 3) := by decide +kernel
theorem dX11_isRule_13 : decode cX11_isRule 13 = .ok (.ireturn, 1) := by decide +kernel
set_option maxRecDepth 20000 in
theorem ggX11_stands_X11_length : GoodIn wsX11_stands wsX11_length := goodIn_r _ [4] (by decide +kernel) (by decide +kernel)
set_option maxRecDepth 20000 in
theorem gX11_stands_X11_length : GoodIn wsX11_stands (va_wsS RX11 35 yX11_length wsX11_length) := goodIn_app (goodIn_of _ (by decide +kernel)) ggX11_stands_X11_length
theorem dX11_stands_0 : decode cX11_stands 0 = .ok (.iload_n 0, 1) := by decide +kernel
theorem dX11_stands_1 : decode cX11_stands 1 = .ok (.invokestatic 35, 3) := by decide +kernel
theorem dX11_stands_4 : decode cX11_stands 4 = .ok (.istore_n 3, 1) := by decide +kernel
theorem dX11_stands_5 : decode cX11_stands 5 = .ok (.iload_n 1, 1) := by decide +kernel
theorem dX11_stands_6 : decode cX11_stands 6 = .ok (.invokestatic 35, 3) := by decide +kernel
theorem dX11_stands_9 : decode cX11_stands 9 = .ok (.iload_n 2, 1) := by decide +kernel
theorem dX11_stands_10 : decode cX11_stands 10 = .ok (.isub, 1) := by decide +kernel
theorem dX11_stands_11 : decode cX11_stands 11 = .ok (.iload_n 3, 1) := by decide +kernel
theorem dX11_stands_12 : decode cX11_stands 12 = .ok (.isub, 1) := by decide +kernel
theorem dX11_stands_13 : decode cX11_stands 13 = .ok (.istore 4, 2) := by decide +kernel
theorem dX11_stands_15 : decode cX11_stands 15 = .ok (.iconst 1, 1) := by decide +kernel
theorem dX11_stands_16 : decode cX11_stands 16 = .ok (.iconst 2, 1) := by decide +kernel
theorem dX11_stands_17 : decode cX11_stands 17 = .ok (.iload_n 3, 1) := by decide +kernel
theorem dX11_stands_18 : decode cX11_stands 18 = .ok (.imul, 1) := by decide +kernel
theorem dX11_stands_19 : decode cX11_stands 19 = .ok (.ishl, 1) := by decide +kernel
theorem dX11_stands_20 : decode cX11_stands 20 = .ok (.iconst 1, 1) := by decide +kernel
theorem dX11_stands_21 : decode cX11_stands 21 = .ok (.isub, 1) := by decide +kernel
theorem dX11_stands_22 : decode cX11_stands 22 = .ok (.istore 5, 2) := by decide +kernel
theorem dX11_stands_24 : decode cX11_stands 24 = .ok (.iload 4, 2) := by decide +kernel
theorem dX11_stands_26 : decode cX11_stands 26 = .ok (.ifCond .lt 23, 3) := by decide +kernel
theorem dX11_stands_29 : decode cX11_stands 29 = .ok (.iload_n 1, 1) := by decide +kernel
theorem dX11_stands_30 : decode cX11_stands 30 = .ok (.iconst 2, 1) := by decide +kernel
theorem dX11_stands_31 : decode cX11_stands 31 = .ok (.iload 4, 2) := by decide +kernel
theorem dX11_stands_33 : decode cX11_stands 33 = .ok (.imul, 1) := by decide +kernel
theorem dX11_stands_34 : decode cX11_stands 34 = .ok (.ishr, 1) := by decide +kernel
theorem dX11_stands_35 : decode cX11_stands 35 = .ok (.iload 5, 2) := by decide +kernel
theorem dX11_stands_37 : decode cX11_stands 37 = .ok (.iand, 1) := by decide +kernel
theorem dX11_stands_38 : decode cX11_stands 38 = .ok (.iload_n 0, 1) := by decide +kernel
theorem dX11_stands_39 : decode cX11_stands 39 = .ok (.iload 5, 2) := by decide +kernel
theorem dX11_stands_41 : decode cX11_stands 41 = .ok (.iand, 1) := by decide +kernel
theorem dX11_stands_42 : decode cX11_stands 42 = .ok (.if_icmp .ne 7, 3) := by decide +kernel
theorem dX11_stands_45 : decode cX11_stands 45 = .ok (.iconst 1, 1) := by decide +kernel
theorem dX11_stands_46 : decode cX11_stands 46 = .ok (.goto 4, 3) := by decide +kernel
theorem dX11_stands_49 : decode cX11_stands 49 = .ok (.iconst 0, 1) := by decide +kernel
theorem dX11_stands_50 : decode cX11_stands 50 = .ok (.ireturn, 1) := by decide +kernel
set_option maxRecDepth 20000 in
theorem ggX11_applied_X11_length : GoodIn wsX11_applied wsX11_length := goodIn_r _ [4] (by decide +kernel) (by decide +kernel)
set_option maxRecDepth 20000 in
theorem gX11_applied_X11_length : GoodIn wsX11_applied (va_wsS RX11 35 yX11_length wsX11_length) := goodIn_app (goodIn_of _ (by decide +kernel)) ggX11_applied_X11_length
set_option maxRecDepth 20000 in
theorem ggX11_applied_X11_left : GoodIn wsX11_applied wsX11_left := goodIn_r _ [8, 9, 14, 15, 16, 17, 18, 19, 20, 21, 22, 23, 24, 25, 26, 27, 28, 29, 30, 31, 32, 33, 34, 35, 36, 37, 38, 39, 40] (by decide +kernel) (by decide +kernel)
set_option maxRecDepth 20000 in
theorem gX11_applied_X11_left : GoodIn wsX11_applied (wsV RX11 48 RX11 yX11_left wsX11_left) := goodIn_app (goodIn_of _ (by decide +kernel)) ggX11_applied_X11_left
set_option maxRecDepth 20000 in
theorem ggX11_applied_X11_right : GoodIn wsX11_applied wsX11_right := goodIn_r _ [13, 9, 14, 15, 16, 17, 18, 19, 20, 21, 22, 23, 24, 25, 26, 27, 28, 29, 30, 31, 32, 33, 34, 35, 36, 37, 38, 39, 40] (by decide +kernel) (by decide +kernel)
set_option maxRecDepth 20000 in
theorem gX11_applied_X11_right : GoodIn wsX11_applied (wsV RX11 51 RX11 yX11_right wsX11_right) := goodIn_app (goodIn_of _ (by decide +kernel)) ggX11_applied_X11_right
theorem dX11_applied_0 : decode cX11_applied 0 = .ok (.iload_n 1, 1) := by decide +kernel
theorem dX11_applied_1 : decode cX11_applied 1 = .ok (.invokestatic 35, 3) := by decide +kernel
theorem dX11_applied_4 : decode cX11_applied 4 = .ok (.iload_n 3, 1) := by decide +kernel
theorem dX11_applied_5 : decode cX11_applied 5 = .ok (.isub, 1) := by decide +kernel
theorem dX11_applied_6 : decode cX11_applied 6 = .ok (.aload_n 0, 1) := by decide +kernel
theorem dX11_applied_7 : decode cX11_applied 7 = .ok (.iload_n 2, 1) := by decide +kernel
theorem dX11_applied_8 : decode cX11_applied 8 = .ok (.invokevirtual 48, 3) := by decide +kernel
theorem dX11_applied_11 : decode cX11_applied 11 = .ok (.invokestatic 35, 3) := by decide +kernel
theorem dX11_applied_14 : decode cX11_applied 14 = .ok (.isub, 1) := by decide +kernel
theorem dX11_applied_15 : decode cX11_applied 15 = .ok (.istore 4, 2) := by decide +kernel
theorem dX11_applied_17 : decode cX11_applied 17 = .ok (.iload_n 1, 1) := by decide +kernel
theorem dX11_applied_18 : decode cX11_applied 18 = .ok (.iconst 2, 1) := by decide +kernel
theorem dX11_applied_19 : decode cX11_applied 19 = .ok (.iload_n 1, 1) := by decide +kernel
theorem dX11_applied_20 : decode cX11_applied 20 = .ok (.invokestatic 35, 3) := by decide +kernel
theorem dX11_applied_23 : decode cX11_applied 23 = .ok (.iload_n 3, 1) := by decide +kernel
theorem dX11_applied_24 : decode cX11_applied 24 = .ok (.isub, 1) := by decide +kernel
theorem dX11_applied_25 : decode cX11_applied 25 = .ok (.imul, 1) := by decide +kernel
theorem dX11_applied_26 : decode cX11_applied 26 = .ok (.ishr, 1) := by decide +kernel
theorem dX11_applied_27 : decode cX11_applied 27 = .ok (.istore 5, 2) := by decide +kernel
theorem dX11_applied_29 : decode cX11_applied 29 = .ok (.aload_n 0, 1) := by decide +kernel
theorem dX11_applied_30 : decode cX11_applied 30 = .ok (.iload_n 2, 1) := by decide +kernel
theorem dX11_applied_31 : decode cX11_applied 31 = .ok (.invokevirtual 51, 3) := by decide +kernel
theorem dX11_applied_34 : decode cX11_applied 34 = .ok (.invokestatic 35, 3) := by decide +kernel
theorem dX11_applied_37 : decode cX11_applied 37 = .ok (.istore 6, 2) := by decide +kernel
theorem dX11_applied_39 : decode cX11_applied 39 = .ok (.iload 5, 2) := by decide +kernel
theorem dX11_applied_41 : decode cX11_applied 41 = .ok (.iconst 2, 1) := by decide +kernel
theorem dX11_applied_42 : decode cX11_applied 42 = .ok (.iload 6, 2) := by decide +kernel
theorem dX11_applied_44 : decode cX11_applied 44 = .ok (.imul, 1) := by decide +kernel
theorem dX11_applied_45 : decode cX11_applied 45 = .ok (.ishl, 1) := by decide +kernel
theorem dX11_applied_46 : decode cX11_applied 46 = .ok (.aload_n 0, 1) := by decide +kernel
theorem dX11_applied_47 : decode cX11_applied 47 = .ok (.iload_n 2, 1) := by decide +kernel
theorem dX11_applied_48 : decode cX11_applied 48 = .ok (.invokevirtual 51, 3) := by decide +kernel
theorem dX11_applied_51 : decode cX11_applied 51 = .ok (.iconst 1, 1) := by decide +kernel
theorem dX11_applied_52 : decode cX11_applied 52 = .ok (.iconst 2, 1) := by decide +kernel
theorem dX11_applied_53 : decode cX11_applied 53 = .ok (.iload 6, 2) := by decide +kernel
theorem dX11_applied_55 : decode cX11_applied 55 = .ok (.imul, 1) := by decide +kernel
theorem dX11_applied_56 : decode cX11_applied 56 = .ok (.ishl, 1) := by decide +kernel
theorem dX11_applied_57 : decode cX11_applied 57 = .ok (.iconst 1, 1) := by decide +kernel
theorem dX11_applied_58 : decode cX11_applied 58 = .ok (.isub, 1) := by decide +kernel
theorem dX11_applied_59 : decode cX11_applied 59 = .ok (.iand, 1) := by decide +kernel
theorem dX11_applied_60 : decode cX11_applied 60 = .ok (.ior, 1) := by decide +kernel
theorem dX11_applied_61 : decode cX11_applied 61 = .ok (.istore 5, 2) := by decide +kernel
theorem dX11_applied_63 : decode cX11_applied 63 = .ok (.iload 5, 2) := by decide +kernel
theorem dX11_applied_65 : decode cX11_applied 65 = .ok (.iconst 2, 1) := by decide +kernel
theorem dX11_applied_66 : decode cX11_applied 66 = .ok (.iload 4, 2) := by decide +kernel
theorem dX11_applied_68 : decode cX11_applied 68 = .ok (.imul, 1) := by decide +kernel
theorem dX11_applied_69 : decode cX11_applied 69 = .ok (.ishl, 1) := by decide +kernel
theorem dX11_applied_70 : decode cX11_applied 70 = .ok (.iload_n 1, 1) := by decide +kernel
theorem dX11_applied_71 : decode cX11_applied 71 = .ok (.iconst 1, 1) := by decide +kernel
theorem dX11_applied_72 : decode cX11_applied 72 = .ok (.iconst 2, 1) := by decide +kernel
theorem dX11_applied_73 : decode cX11_applied 73 = .ok (.iload 4, 2) := by decide +kernel
theorem dX11_applied_75 : decode cX11_applied 75 = .ok (.imul, 1) := by decide +kernel
theorem dX11_applied_76 : decode cX11_applied 76 = .ok (.ishl, 1) := by decide +kernel
theorem dX11_applied_77 : decode cX11_applied 77 = .ok (.iconst 1, 1) := by decide +kernel
theorem dX11_applied_78 : decode cX11_applied 78 = .ok (.isub, 1) := by decide +kernel
theorem dX11_applied_79 : decode cX11_applied 79 = .ok (.iand, 1) := by decide +kernel
theorem dX11_applied_80 : decode cX11_applied 80 = .ok (.ior, 1) := by decide +kernel
theorem dX11_applied_81 : decode cX11_applied 81 = .ok (.ireturn, 1) := by decide +kernel
set_option maxRecDepth 20000 in
theorem ggX11_chooses_X11_length : GoodIn wsX11_chooses wsX11_length := goodIn_r _ [7] (by decide +kernel) (by decide +kernel)
set_option maxRecDepth 20000 in
theorem gX11_chooses_X11_length : GoodIn wsX11_chooses (va_wsS RX11 35 yX11_length wsX11_length) := goodIn_app (goodIn_of _ (by decide +kernel)) ggX11_chooses_X11_length
set_option maxRecDepth 20000 in
theorem ggX11_chooses_X11_left : GoodIn wsX11_chooses wsX11_left := goodIn_r _ [11, 2, 15, 16, 17, 18, 19, 20, 21, 22, 23, 24, 25, 26, 27, 28, 29, 30, 31, 32, 33, 34, 35, 36, 37, 38, 39, 40, 41] (by decide +kernel) (by decide +kernel)
set_option maxRecDepth 20000 in
theorem gX11_chooses_X11_left : GoodIn wsX11_chooses (wsV RX11 48 RX11 yX11_left wsX11_left) := goodIn_app (goodIn_of _ (by decide +kernel)) ggX11_chooses_X11_left
set_option maxRecDepth 20000 in
theorem ggX11_chooses_X11_stands : GoodIn wsX11_chooses wsX11_stands := goodIn_r _ [14, 4, 5, 6, 7] (by decide +kernel) (by decide +kernel)
set_option maxRecDepth 20000 in
theorem gX11_chooses_X11_stands : GoodIn wsX11_chooses (va_wsS RX11 61 yX11_stands wsX11_stands) := goodIn_app (goodIn_of _ (by decide +kernel)) ggX11_chooses_X11_stands
theorem dX11_chooses_0 : decode cX11_chooses 0 = .ok (.iload_n 1, 1) := by decide +kernel
theorem dX11_chooses_1 : decode cX11_chooses 1 = .ok (.invokestatic 35, 3) := by decide +kernel
theorem dX11_chooses_4 : decode cX11_chooses 4 = .ok (.istore_n 2, 1) := by decide +kernel
theorem dX11_chooses_5 : decode cX11_chooses 5 = .ok (.aload_n 0, 1) := by decide +kernel
theorem dX11_chooses_6 : decode cX11_chooses 6 = .ok (.iconst (-1), 1) := by decide +kernel
theorem dX11_chooses_7 : decode cX11_chooses 7 = .ok (.putfield 54, 3) := by decide +kernel
theorem dX11_chooses_10 : decode cX11_chooses 10 = .ok (.iconst 0, 1) := by decide +kernel
theorem dX11_chooses_11 : decode cX11_chooses 11 = .ok (.istore_n 3, 1) := by decide +kernel
theorem dX11_chooses_12 : decode cX11_chooses 12 = .ok (.iload_n 3, 1) := by decide +kernel
theorem dX11_chooses_13 : decode cX11_chooses 13 = .ok (.iload_n 2, 1) := by decide +kernel
theorem dX11_chooses_14 : decode cX11_chooses 14 = .ok (.if_icmp .ge 110, 3) := by decide +kernel
theorem dX11_chooses_17 : decode cX11_chooses 17 = .ok (.iconst 0, 1) := by decide +kernel
theorem dX11_chooses_18 : decode cX11_chooses 18 = .ok (.istore 4, 2) := by decide +kernel
theorem dX11_chooses_20 : decode cX11_chooses 20 = .ok (.iload 4, 2) := by decide +kernel
theorem dX11_chooses_22 : decode cX11_chooses 22 = .ok (.aload_n 0, 1) := by decide +kernel
theorem dX11_chooses_23 : decode cX11_chooses 23 = .ok (.getfield 7, 3) := by decide +kernel
theorem dX11_chooses_26 : decode cX11_chooses 26 = .ok (.iconst 1, 1) := by decide +kernel
theorem dX11_chooses_27 : decode cX11_chooses 27 = .ok (.iaload, 1) := by decide +kernel
theorem dX11_chooses_28 : decode cX11_chooses 28 = .ok (.if_icmp .ge 90, 3) := by decide +kernel
theorem dX11_chooses_31 : decode cX11_chooses 31 = .ok (.aload_n 0, 1) := by decide +kernel
theorem dX11_chooses_32 : decode cX11_chooses 32 = .ok (.getfield 54, 3) := by decide +kernel
theorem dX11_chooses_35 : decode cX11_chooses 35 = .ok (.ifCond .lt 40, 3) := by decide +kernel
theorem dX11_chooses_38 : decode cX11_chooses 38 = .ok (.aload_n 0, 1) := by decide +kernel
theorem dX11_chooses_39 : decode cX11_chooses 39 = .ok (.getfield 7, 3) := by decide +kernel
theorem dX11_chooses_42 : decode cX11_chooses 42 = .ok (.iconst 2, 1) := by decide +kernel
theorem dX11_chooses_43 : decode cX11_chooses 43 = .ok (.iaload, 1) := by decide +kernel
theorem dX11_chooses_44 : decode cX11_chooses 44 = .ok (.iconst 1, 1) := by decide +kernel
theorem dX11_chooses_45 : decode cX11_chooses 45 = .ok (.if_icmp .ne 11, 3) := by decide +kernel
theorem dX11_chooses_48 : decode cX11_chooses 48 = .ok (.iload_n 3, 1) := by decide +kernel
theorem dX11_chooses_49 : decode cX11_chooses 49 = .ok (.aload_n 0, 1) := by decide +kernel
theorem dX11_chooses_50 : decode cX11_chooses 50 = .ok (.getfield 58, 3) := by decide +kernel
theorem dX11_chooses_53 : decode cX11_chooses 53 = .ok (.if_icmp .gt 22, 3) := by decide +kernel
theorem dX11_chooses_56 : decode cX11_chooses 56 = .ok (.aload_n 0, 1) := by decide +kernel
theorem dX11_chooses_57 : decode cX11_chooses 57 = .ok (.getfield 7, 3) := by decide +kernel
theorem dX11_chooses_60 : decode cX11_chooses 60 = .ok (.iconst 2, 1) := by decide +kernel
theorem dX11_chooses_61 : decode cX11_chooses 61 = .ok (.iaload, 1) := by decide +kernel
theorem dX11_chooses_62 : decode cX11_chooses 62 = .ok (.iconst 2, 1) := by decide +kernel
theorem dX11_chooses_63 : decode cX11_chooses 63 = .ok (.if_icmp .ne 16, 3) := by decide +kernel
theorem dX11_chooses_66 : decode cX11_chooses 66 = .ok (.iload 4, 2) := by decide +kernel
theorem dX11_chooses_68 : decode cX11_chooses 68 = .ok (.aload_n 0, 1) := by decide +kernel
theorem dX11_chooses_69 : decode cX11_chooses 69 = .ok (.getfield 54, 3) := by decide +kernel
theorem dX11_chooses_72 : decode cX11_chooses 72 = .ok (.if_icmp .ge 7, 3) := by decide +kernel
theorem dX11_chooses_75 : decode cX11_chooses 75 = .ok (.iconst 1, 1) := by decide +kernel
theorem dX11_chooses_76 : decode cX11_chooses 76 = .ok (.goto 4, 3) := by decide +kernel
theorem dX11_chooses_79 : decode cX11_chooses 79 = .ok (.iconst 0, 1) := by decide +kernel
theorem dX11_chooses_80 : decode cX11_chooses 80 = .ok (.istore 5, 2) := by decide +kernel
theorem dX11_chooses_82 : decode cX11_chooses 82 = .ok (.iload 5, 2) := by decide +kernel
theorem dX11_chooses_84 : decode cX11_chooses 84 = .ok (.ifCond .eq 28, 3) := by decide +kernel
theorem dX11_chooses_87 : decode cX11_chooses 87 = .ok (.aload_n 0, 1) := by decide +kernel
theorem dX11_chooses_88 : decode cX11_chooses 88 = .ok (.iload 4, 2) := by decide +kernel
theorem dX11_chooses_90 : decode cX11_chooses 90 = .ok (.invokevirtual 48, 3) := by decide +kernel
theorem dX11_chooses_93 : decode cX11_chooses 93 = .ok (.iload_n 1, 1) := by decide +kernel
theorem dX11_chooses_94 : decode cX11_chooses 94 = .ok (.iload_n 3, 1) := by decide +kernel
theorem dX11_chooses_95 : decode cX11_chooses 95 = .ok (.invokestatic 61, 3) := by decide +kernel
theorem dX11_chooses_98 : decode cX11_chooses 98 = .ok (.ifCond .eq 14, 3) := by decide +kernel
theorem dX11_chooses_101 : decode cX11_chooses 101 = .ok (.aload_n 0, 1) := by decide +kernel
theorem dX11_chooses_102 : decode cX11_chooses 102 = .ok (.iload 4, 2) := by decide +kernel
theorem dX11_chooses_104 : decode cX11_chooses 104 = .ok (.putfield 54, 3) := by decide +kernel
theorem dX11_chooses_107 : decode cX11_chooses 107 = .ok (.aload_n 0, 1) := by decide +kernel
theorem dX11_chooses_108 : decode cX11_chooses 108 = .ok (.iload_n 3, 1) := by decide +kernel
theorem dX11_chooses_109 : decode cX11_chooses 109 = .ok (.putfield 58, 3) := by decide +kernel
theorem dX11_chooses_112 : decode cX11_chooses 112 = .ok (.iinc 4 1, 3) := by decide +kernel
theorem dX11_chooses_115 : decode cX11_chooses 115 = .ok (.goto (-95), 3) := by decide +kernel
theorem dX11_chooses_118 : decode cX11_chooses 118 = .ok (.iinc 3 1, 3) := by decide +kernel
theorem dX11_chooses_121 : decode cX11_chooses 121 = .ok (.goto (-109), 3) := by decide +kernel
theorem dX11_chooses_124 : decode cX11_chooses 124 = .ok (.aload_n 0, 1) := by decide +kernel
theorem dX11_chooses_125 : decode cX11_chooses 125 = .ok (.getfield 54, 3) := by decide +kernel
theorem dX11_chooses_128 : decode cX11_chooses 128 = .ok (.ifCond .lt 7, 3) := by decide +kernel
theorem dX11_chooses_131 : decode cX11_chooses 131 = .ok (.iconst 1, 1) := by decide +kernel
theorem dX11_chooses_132 : decode cX11_chooses 132 = .ok (.goto 4, 3) := by decide +kernel
theorem dX11_chooses_135 : decode cX11_chooses 135 = .ok (.iconst 0, 1) := by decide +kernel
theorem dX11_chooses_136 : decode cX11_chooses 136 = .ok (.ireturn, 1) := by decide +kernel
set_option maxRecDepth 20000 in
theorem ggX11_reduces_X11_chooses : GoodIn wsX11_reduces wsX11_chooses := goodIn_r _ [11, 3, 12, 4, 13, 14, 10, 15, 16, 17, 18, 19, 20, 21, 22, 31, 32, 33, 34, 35, 36, 37, 38, 39, 40, 41, 42, 43, 44, 45, 46, 47, 48, 49, 50, 51, 52, 53, 54, 55, 56, 57] (by decide +kernel) (by decide +kernel)
set_option maxRecDepth 20000 in
theorem gX11_reduces_X11_chooses : GoodIn wsX11_reduces (wsV RX11 67 RX11 yX11_chooses wsX11_chooses) := goodIn_app (goodIn_of _ (by decide +kernel)) ggX11_reduces_X11_chooses
set_option maxRecDepth 20000 in
theorem ggX11_reduces_X11_applied : GoodIn wsX11_reduces wsX11_applied := goodIn_r _ [26, 13, 14, 10, 15, 16, 17, 18, 19, 12, 27, 28, 29, 30, 31, 32, 33, 34, 35, 36, 37, 38, 39, 40, 41, 42, 43, 44, 45, 46, 47, 48, 49, 50, 51, 52, 53, 54, 55, 56, 57] (by decide +kernel) (by decide +kernel)
set_option maxRecDepth 20000 in
theorem gX11_reduces_X11_applied : GoodIn wsX11_reduces (wsV RX11 71 RX11 yX11_applied wsX11_applied) := goodIn_app (goodIn_of _ (by decide +kernel)) ggX11_reduces_X11_applied
theorem dX11_reduces_0 : decode cX11_reduces 0 = .ok (.aload_n 0, 1) := by decide +kernel
theorem dX11_reduces_1 : decode cX11_reduces 1 = .ok (.getfield 26, 3) := by decide +kernel
theorem dX11_reduces_4 : decode cX11_reduces 4 = .ok (.iconst 0, 1) := by decide +kernel
theorem dX11_reduces_5 : decode cX11_reduces 5 = .ok (.iload_n 1, 1) := by decide +kernel
theorem dX11_reduces_6 : decode cX11_reduces 6 = .ok (.iastore, 1) := by decide +kernel
theorem dX11_reduces_7 : decode cX11_reduces 7 = .ok (.aload_n 0, 1) := by decide +kernel
theorem dX11_reduces_8 : decode cX11_reduces 8 = .ok (.iconst 0, 1) := by decide +kernel
theorem dX11_reduces_9 : decode cX11_reduces 9 = .ok (.putfield 64, 3) := by decide +kernel
theorem dX11_reduces_12 : decode cX11_reduces 12 = .ok (.aload_n 0, 1) := by decide +kernel
theorem dX11_reduces_13 : decode cX11_reduces 13 = .ok (.getfield 64, 3) := by decide +kernel
theorem dX11_reduces_16 : decode cX11_reduces 16 = .ok (.bipush 100, 2) := by decide +kernel
theorem dX11_reduces_18 : decode cX11_reduces 18 = .ok (.if_icmp .ge 110, 3) := by decide +kernel
theorem dX11_reduces_21 : decode cX11_reduces 21 = .ok (.aload_n 0, 1) := by decide +kernel
theorem dX11_reduces_22 : decode cX11_reduces 22 = .ok (.aload_n 0, 1) := by decide +kernel
theorem dX11_reduces_23 : decode cX11_reduces 23 = .ok (.getfield 26, 3) := by decide +kernel
theorem dX11_reduces_26 : decode cX11_reduces 26 = .ok (.aload_n 0, 1) := by decide +kernel
theorem dX11_reduces_27 : decode cX11_reduces 27 = .ok (.getfield 64, 3) := by decide +kernel
theorem dX11_reduces_30 : decode cX11_reduces 30 = .ok (.iaload, 1) := by decide +kernel
theorem dX11_reduces_31 : decode cX11_reduces 31 = .ok (.invokevirtual 67, 3) := by decide +kernel
theorem dX11_reduces_34 : decode cX11_reduces 34 = .ok (.ifCond .eq 94, 3) := by decide +kernel
theorem dX11_reduces_37 : decode cX11_reduces 37 = .ok (.aload_n 0, 1) := by decide +kernel
theorem dX11_reduces_38 : decode cX11_reduces 38 = .ok (.aload_n 0, 1) := by decide +kernel
theorem dX11_reduces_39 : decode cX11_reduces 39 = .ok (.getfield 26, 3) := by decide +kernel
theorem dX11_reduces_42 : decode cX11_reduces 42 = .ok (.aload_n 0, 1) := by decide +kernel
theorem dX11_reduces_43 : decode cX11_reduces 43 = .ok (.getfield 64, 3) := by decide +kernel
theorem dX11_reduces_46 : decode cX11_reduces 46 = .ok (.iaload, 1) := by decide +kernel
theorem dX11_reduces_47 : decode cX11_reduces 47 = .ok (.aload_n 0, 1) := by decide +kernel
theorem dX11_reduces_48 : decode cX11_reduces 48 = .ok (.getfield 54, 3) := by decide +kernel
theorem dX11_reduces_51 : decode cX11_reduces 51 = .ok (.aload_n 0, 1) := by decide +kernel
theorem dX11_reduces_52 : decode cX11_reduces 52 = .ok (.getfield 58, 3) := by decide +kernel
theorem dX11_reduces_55 : decode cX11_reduces 55 = .ok (.invokevirtual 71, 3) := by decide +kernel
theorem dX11_reduces_58 : decode cX11_reduces 58 = .ok (.istore_n 2, 1) := by decide +kernel
theorem dX11_reduces_59 : decode cX11_reduces 59 = .ok (.aload_n 0, 1) := by decide +kernel
theorem dX11_reduces_60 : decode cX11_reduces 60 = .ok (.getfield 29, 3) := by decide +kernel
theorem dX11_reduces_63 : decode cX11_reduces 63 = .ok (.aload_n 0, 1) := by decide +kernel
theorem dX11_reduces_64 : decode cX11_reduces 64 = .ok (.getfield 64, 3) := by decide +kernel
theorem dX11_reduces_67 : decode cX11_reduces 67 = .ok (.aload_n 0, 1) := by decide +kernel
theorem dX11_reduces_68 : decode cX11_reduces 68 = .ok (.getfield 54, 3) := by decide +kernel
theorem dX11_reduces_71 : decode cX11_reduces 71 = .ok (.iastore, 1) := by decide +kernel
theorem dX11_reduces_72 : decode cX11_reduces 72 = .ok (.aload_n 0, 1) := by decide +kernel
theorem dX11_reduces_73 : decode cX11_reduces 73 = .ok (.dup, 1) := by decide +kernel
theorem dX11_reduces_74 : decode cX11_reduces 74 = .ok (.getfield 64, 3) := by decide +kernel
theorem dX11_reduces_77 : decode cX11_reduces 77 = .ok (.iconst 1, 1) := by decide +kernel
theorem dX11_reduces_78 : decode cX11_reduces 78 = .ok (.iadd, 1) := by decide +kernel
theorem dX11_reduces_79 : decode cX11_reduces 79 = .ok (.putfield 64, 3) := by decide +kernel
theorem dX11_reduces_82 : decode cX11_reduces 82 = .ok (.aload_n 0, 1) := by decide +kernel
theorem dX11_reduces_83 : decode cX11_reduces 83 = .ok (.getfield 26, 3) := by decide +kernel
theorem dX11_reduces_86 : decode cX11_reduces 86 = .ok (.aload_n 0, 1) := by decide +kernel
theorem dX11_reduces_87 : decode cX11_reduces 87 = .ok (.getfield 64, 3) := by decide +kernel
theorem dX11_reduces_90 : decode cX11_reduces 90 = .ok (.iload_n 2, 1) := by decide +kernel
theorem dX11_reduces_91 : decode cX11_reduces 91 = .ok (.iastore, 1) := by decide +kernel
theorem dX11_reduces_92 : decode cX11_reduces 92 = .ok (.iconst 0, 1) := by decide +kernel
theorem dX11_reduces_93 : decode cX11_reduces 93 = .ok (.istore_n 3, 1) := by decide +kernel
theorem dX11_reduces_94 : decode cX11_reduces 94 = .ok (.iload_n 3, 1) := by decide +kernel
theorem dX11_reduces_95 : decode cX11_reduces 95 = .ok (.aload_n 0, 1) := by decide +kernel
theorem dX11_reduces_96 : decode cX11_reduces 96 = .ok (.getfield 64, 3) := by decide +kernel
theorem dX11_reduces_99 : decode cX11_reduces 99 = .ok (.if_icmp .ge 26, 3) := by decide +kernel
theorem dX11_reduces_102 : decode cX11_reduces 102 = .ok (.aload_n 0, 1) := by decide +kernel
theorem dX11_reduces_103 : decode cX11_reduces 103 = .ok (.getfield 26, 3) := by decide +kernel
theorem dX11_reduces_106 : decode cX11_reduces 106 = .ok (.iload_n 3, 1) := by decide +kernel
theorem dX11_reduces_107 : decode cX11_reduces 107 = .ok (.iaload, 1) := by decide +kernel
theorem dX11_reduces_108 : decode cX11_reduces 108 = .ok (.iload_n 2, 1) := by decide +kernel
theorem dX11_reduces_109 : decode cX11_reduces 109 = .ok (.if_icmp .ne 10, 3) := by decide +kernel
theorem dX11_reduces_112 : decode cX11_reduces 112 = .ok (.aload_n 0, 1) := by decide +kernel
theorem dX11_reduces_113 : decode cX11_reduces 113 = .ok (.iload_n 3, 1) := by decide +kernel
theorem dX11_reduces_114 : decode cX11_reduces 114 = .ok (.putfield 75, 3) := by decide +kernel
theorem dX11_reduces_117 : decode cX11_reduces 117 = .ok (.iconst 1, 1) := by decide +kernel
theorem dX11_reduces_118 : decode cX11_reduces 118 = .ok (.ireturn, 1) := by decide +kernel
theorem dX11_reduces_119 : decode cX11_reduces 119 = .ok (.iinc 3 1, 3) := by decide +kernel
theorem dX11_reduces_122 : decode cX11_reduces 122 = .ok (.goto (-28), 3) := by decide +kernel
theorem dX11_reduces_125 : decode cX11_reduces 125 = .ok (.goto (-113), 3) := by decide +kernel
theorem dX11_reduces_128 : decode cX11_reduces 128 = .ok (.aload_n 0, 1) := by decide +kernel
theorem dX11_reduces_129 : decode cX11_reduces 129 = .ok (.aload_n 0, 1) := by decide +kernel
theorem dX11_reduces_130 : decode cX11_reduces 130 = .ok (.getfield 26, 3) := by decide +kernel
theorem dX11_reduces_133 : decode cX11_reduces 133 = .ok (.aload_n 0, 1) := by decide +kernel
theorem dX11_reduces_134 : decode cX11_reduces 134 = .ok (.getfield 64, 3) := by decide +kernel
theorem dX11_reduces_137 : decode cX11_reduces 137 = .ok (.iaload, 1) := by decide +kernel
theorem dX11_reduces_138 : decode cX11_reduces 138 = .ok (.invokevirtual 67, 3) := by decide +kernel
theorem dX11_reduces_141 : decode cX11_reduces 141 = .ok (.ifCond .eq 7, 3) := by decide +kernel
theorem dX11_reduces_144 : decode cX11_reduces 144 = .ok (.iconst 2, 1) := by decide +kernel
theorem dX11_reduces_145 : decode cX11_reduces 145 = .ok (.goto 4, 3) := by decide +kernel
theorem dX11_reduces_148 : decode cX11_reduces 148 = .ok (.iconst 0, 1) := by decide +kernel
theorem dX11_reduces_149 : decode cX11_reduces 149 = .ok (.ireturn, 1) := by decide +kernel
theorem dX11_keeps_0 : decode cX11_keeps 0 = .ok (.iconst 0, 1) := by decide +kernel
theorem dX11_keeps_1 : decode cX11_keeps 1 = .ok (.istore_n 1, 1) := by decide +kernel
theorem dX11_keeps_2 : decode cX11_keeps 2 = .ok (.iload_n 1, 1) := by decide +kernel
theorem dX11_keeps_3 : decode cX11_keeps 3 = .ok (.bipush 52, 2) := by decide +kernel
theorem dX11_keeps_5 : decode cX11_keeps 5 = .ok (.if_icmp .ge 21, 3) := by decide +kernel
theorem dX11_keeps_8 : decode cX11_keeps 8 = .ok (.aload_n 0, 1) := by decide +kernel
theorem dX11_keeps_9 : decode cX11_keeps 9 = .ok (.getfield 16, 3) := by decide +kernel
theorem dX11_keeps_12 : decode cX11_keeps 12 = .ok (.iload_n 1, 1) := by decide +kernel
theorem dX11_keeps_13 : decode cX11_keeps 13 = .ok (.aload_n 0, 1) := by decide +kernel
theorem dX11_keeps_14 : decode cX11_keeps 14 = .ok (.getfield 7, 3) := by decide +kernel
theorem dX11_keeps_17 : decode cX11_keeps 17 = .ok (.iload_n 1, 1) := by decide +kernel
theorem dX11_keeps_18 : decode cX11_keeps 18 = .ok (.iaload, 1) := by decide +kernel
theorem dX11_keeps_19 : decode cX11_keeps 19 = .ok (.iastore, 1) := by decide +kernel
theorem dX11_keeps_20 : decode cX11_keeps 20 = .ok (.iinc 1 1, 3) := by decide +kernel
theorem dX11_keeps_23 : decode cX11_keeps 23 = .ok (.goto (-21), 3) := by decide +kernel
theorem dX11_keeps_26 : decode cX11_keeps 26 = .ok (.return_, 1) := by decide +kernel
theorem dX11_acted_0 : decode cX11_acted 0 = .ok (.iload_n 1, 1) := by decide +kernel
theorem dX11_acted_1 : decode cX11_acted 1 = .ok (.ldc 78, 2) := by decide +kernel
theorem dX11_acted_3 : decode cX11_acted 3 = .ok (.if_icmp .le 95, 3) := by decide +kernel
theorem dX11_acted_6 : decode cX11_acted 6 = .ok (.aload_n 0, 1) := by decide +kernel
theorem dX11_acted_7 : decode cX11_acted 7 = .ok (.getfield 79, 3) := by decide +kernel
theorem dX11_acted_10 : decode cX11_acted 10 = .ok (.iconst 4, 1) := by decide +kernel
theorem dX11_acted_11 : decode cX11_acted 11 = .ok (.if_icmp .ne 43, 3) := by decide +kernel
theorem dX11_acted_14 : decode cX11_acted 14 = .ok (.iconst 0, 1) := by decide +kernel
theorem dX11_acted_15 : decode cX11_acted 15 = .ok (.istore_n 2, 1) := by decide +kernel
theorem dX11_acted_16 : decode cX11_acted 16 = .ok (.iload_n 2, 1) := by decide +kernel
theorem dX11_acted_17 : decode cX11_acted 17 = .ok (.sipush 156, 3) := by decide +kernel
theorem dX11_acted_20 : decode cX11_acted 20 = .ok (.if_icmp .ge 24, 3) := by decide +kernel
theorem dX11_acted_23 : decode cX11_acted 23 = .ok (.aload_n 0, 1) := by decide +kernel
theorem dX11_acted_24 : decode cX11_acted 24 = .ok (.getfield 13, 3) := by decide +kernel
theorem dX11_acted_27 : decode cX11_acted 27 = .ok (.iload_n 2, 1) := by decide +kernel
theorem dX11_acted_28 : decode cX11_acted 28 = .ok (.aload_n 0, 1) := by decide +kernel
theorem dX11_acted_29 : decode cX11_acted 29 = .ok (.getfield 13, 3) := by decide +kernel
theorem dX11_acted_32 : decode cX11_acted 32 = .ok (.iload_n 2, 1) := by decide +kernel
theorem dX11_acted_33 : decode cX11_acted 33 = .ok (.bipush 52, 2) := by decide +kernel
theorem dX11_acted_35 : decode cX11_acted 35 = .ok (.iadd, 1) := by decide +kernel
theorem dX11_acted_36 : decode cX11_acted 36 = .ok (.iaload, 1) := by decide +kernel
theorem dX11_acted_37 : decode cX11_acted 37 = .ok (.iastore, 1) := by decide +kernel
theorem dX11_acted_38 : decode cX11_acted 38 = .ok (.iinc 2 1, 3) := by decide +kernel
theorem dX11_acted_41 : decode cX11_acted 41 = .ok (.goto (-25), 3) := by decide +kernel
theorem dX11_acted_44 : decode cX11_acted 44 = .ok (.aload_n 0, 1) := by decide +kernel
theorem dX11_acted_45 : decode cX11_acted 45 = .ok (.dup, 1) := by decide +kernel
theorem dX11_acted_46 : decode cX11_acted 46 = .ok (.getfield 79, 3) := by decide +kernel
theorem dX11_acted_49 : decode cX11_acted 49 = .ok (.iconst 1, 1) := by decide +kernel
theorem dX11_acted_50 : decode cX11_acted 50 = .ok (.isub, 1) := by decide +kernel
theorem dX11_acted_51 : decode cX11_acted 51 = .ok (.putfield 79, 3) := by decide +kernel
theorem dX11_acted_54 : decode cX11_acted 54 = .ok (.iconst 0, 1) := by decide +kernel
theorem dX11_acted_55 : decode cX11_acted 55 = .ok (.istore_n 2, 1) := by decide +kernel
theorem dX11_acted_56 : decode cX11_acted 56 = .ok (.iload_n 2, 1) := by decide +kernel
theorem dX11_acted_57 : decode cX11_acted 57 = .ok (.bipush 52, 2) := by decide +kernel
theorem dX11_acted_59 : decode cX11_acted 59 = .ok (.if_icmp .ge 29, 3) := by decide +kernel
theorem dX11_acted_62 : decode cX11_acted 62 = .ok (.aload_n 0, 1) := by decide +kernel
theorem dX11_acted_63 : decode cX11_acted 63 = .ok (.getfield 13, 3) := by decide +kernel
theorem dX11_acted_66 : decode cX11_acted 66 = .ok (.bipush 52, 2) := by decide +kernel
theorem dX11_acted_68 : decode cX11_acted 68 = .ok (.aload_n 0, 1) := by decide +kernel
theorem dX11_acted_69 : decode cX11_acted 69 = .ok (.getfield 79, 3) := by decide +kernel
theorem dX11_acted_72 : decode cX11_acted 72 = .ok (.imul, 1) := by decide +kernel
theorem dX11_acted_73 : decode cX11_acted 73 = .ok (.iload_n 2, 1) := by decide +kernel
theorem dX11_acted_74 : decode cX11_acted 74 = .ok (.iadd, 1) := by decide +kernel
theorem dX11_acted_75 : decode cX11_acted 75 = .ok (.aload_n 0, 1) := by decide +kernel
theorem dX11_acted_76 : decode cX11_acted 76 = .ok (.getfield 16, 3) := by decide +kernel
theorem dX11_acted_79 : decode cX11_acted 79 = .ok (.iload_n 2, 1) := by decide +kernel
theorem dX11_acted_80 : decode cX11_acted 80 = .ok (.iaload, 1) := by decide +kernel
theorem dX11_acted_81 : decode cX11_acted 81 = .ok (.iastore, 1) := by decide +kernel
theorem dX11_acted_82 : decode cX11_acted 82 = .ok (.iinc 2 1, 3) := by decide +kernel
theorem dX11_acted_85 : decode cX11_acted 85 = .ok (.goto (-29), 3) := by decide +kernel
theorem dX11_acted_88 : decode cX11_acted 88 = .ok (.aload_n 0, 1) := by decide +kernel
theorem dX11_acted_89 : decode cX11_acted 89 = .ok (.dup, 1) := by decide +kernel
theorem dX11_acted_90 : decode cX11_acted 90 = .ok (.getfield 79, 3) := by decide +kernel
theorem dX11_acted_93 : decode cX11_acted 93 = .ok (.iconst 1, 1) := by decide +kernel
theorem dX11_acted_94 : decode cX11_acted 94 = .ok (.iadd, 1) := by decide +kernel
theorem dX11_acted_95 : decode cX11_acted 95 = .ok (.putfield 79, 3) := by decide +kernel
theorem dX11_acted_98 : decode cX11_acted 98 = .ok (.iload_n 1, 1) := by decide +kernel
theorem dX11_acted_99 : decode cX11_acted 99 = .ok (.ireturn, 1) := by decide +kernel
set_option maxRecDepth 20000 in
theorem ggX11_drops_X11_isRule : GoodIn wsX11_drops wsX11_isRule := goodIn_r _ [7, 2, 8, 9, 6, 10, 11, 12, 13, 14, 15, 16, 17, 18, 19, 20, 21, 22, 23, 24, 25, 26, 27, 28, 29, 30, 31, 32, 33, 34, 35, 36, 37] (by decide +kernel) (by decide +kernel)
set_option maxRecDepth 20000 in
theorem gX11_drops_X11_isRule : GoodIn wsX11_drops (wsV RX11 82 RX11 yX11_isRule wsX11_isRule) := goodIn_app (goodIn_of _ (by decide +kernel)) ggX11_drops_X11_isRule
theorem dX11_drops_0 : decode cX11_drops 0 = .ok (.aload_n 0, 1) := by decide +kernel
theorem dX11_drops_1 : decode cX11_drops 1 = .ok (.iload_n 1, 1) := by decide +kernel
theorem dX11_drops_2 : decode cX11_drops 2 = .ok (.invokevirtual 82, 3) := by decide +kernel
theorem dX11_drops_5 : decode cX11_drops 5 = .ok (.ifCond .ne 6, 3) := by decide +kernel
theorem dX11_drops_8 : decode cX11_drops 8 = .ok (.ldc 78, 2) := by decide +kernel
theorem dX11_drops_10 : decode cX11_drops 10 = .ok (.ireturn, 1) := by decide +kernel
theorem dX11_drops_11 : decode cX11_drops 11 = .ok (.aload_n 0, 1) := by decide +kernel
theorem dX11_drops_12 : decode cX11_drops 12 = .ok (.getfield 7, 3) := by decide +kernel
theorem dX11_drops_15 : decode cX11_drops 15 = .ok (.iconst 1, 1) := by decide +kernel
theorem dX11_drops_16 : decode cX11_drops 16 = .ok (.dup2, 1) := by decide +kernel
theorem dX11_drops_17 : decode cX11_drops 17 = .ok (.iaload, 1) := by decide +kernel
theorem dX11_drops_18 : decode cX11_drops 18 = .ok (.iconst 1, 1) := by decide +kernel
theorem dX11_drops_19 : decode cX11_drops 19 = .ok (.isub, 1) := by decide +kernel
theorem dX11_drops_20 : decode cX11_drops 20 = .ok (.iastore, 1) := by decide +kernel
theorem dX11_drops_21 : decode cX11_drops 21 = .ok (.iconst 3, 1) := by decide +kernel
theorem dX11_drops_22 : decode cX11_drops 22 = .ok (.iload_n 1, 1) := by decide +kernel
theorem dX11_drops_23 : decode cX11_drops 23 = .ok (.imul, 1) := by decide +kernel
theorem dX11_drops_24 : decode cX11_drops 24 = .ok (.istore_n 2, 1) := by decide +kernel
theorem dX11_drops_25 : decode cX11_drops 25 = .ok (.iload_n 2, 1) := by decide +kernel
theorem dX11_drops_26 : decode cX11_drops 26 = .ok (.iconst 3, 1) := by decide +kernel
theorem dX11_drops_27 : decode cX11_drops 27 = .ok (.aload_n 0, 1) := by decide +kernel
theorem dX11_drops_28 : decode cX11_drops 28 = .ok (.getfield 7, 3) := by decide +kernel
theorem dX11_drops_31 : decode cX11_drops 31 = .ok (.iconst 1, 1) := by decide +kernel
theorem dX11_drops_32 : decode cX11_drops 32 = .ok (.iaload, 1) := by decide +kernel
theorem dX11_drops_33 : decode cX11_drops 33 = .ok (.imul, 1) := by decide +kernel
theorem dX11_drops_34 : decode cX11_drops 34 = .ok (.if_icmp .ge 29, 3) := by decide +kernel
theorem dX11_drops_37 : decode cX11_drops 37 = .ok (.aload_n 0, 1) := by decide +kernel
theorem dX11_drops_38 : decode cX11_drops 38 = .ok (.getfield 7, 3) := by decide +kernel
theorem dX11_drops_41 : decode cX11_drops 41 = .ok (.bipush 6, 2) := by decide +kernel
theorem dX11_drops_43 : decode cX11_drops 43 = .ok (.iload_n 2, 1) := by decide +kernel
theorem dX11_drops_44 : decode cX11_drops 44 = .ok (.iadd, 1) := by decide +kernel
theorem dX11_drops_45 : decode cX11_drops 45 = .ok (.aload_n 0, 1) := by decide +kernel
theorem dX11_drops_46 : decode cX11_drops 46 = .ok (.getfield 7, 3) := by decide +kernel
theorem dX11_drops_49 : decode cX11_drops 49 = .ok (.bipush 6, 2) := by decide +kernel
theorem dX11_drops_51 : decode cX11_drops 51 = .ok (.iload_n 2, 1) := by decide +kernel
theorem dX11_drops_52 : decode cX11_drops 52 = .ok (.iadd, 1) := by decide +kernel
theorem dX11_drops_53 : decode cX11_drops 53 = .ok (.iconst 3, 1) := by decide +kernel
theorem dX11_drops_54 : decode cX11_drops 54 = .ok (.iadd, 1) := by decide +kernel
theorem dX11_drops_55 : decode cX11_drops 55 = .ok (.iaload, 1) := by decide +kernel
theorem dX11_drops_56 : decode cX11_drops 56 = .ok (.iastore, 1) := by decide +kernel
theorem dX11_drops_57 : decode cX11_drops 57 = .ok (.iinc 2 1, 3) := by decide +kernel
theorem dX11_drops_60 : decode cX11_drops 60 = .ok (.goto (-35), 3) := by decide +kernel
theorem dX11_drops_63 : decode cX11_drops 63 = .ok (.aload_n 0, 1) := by decide +kernel
theorem dX11_drops_64 : decode cX11_drops 64 = .ok (.getfield 7, 3) := by decide +kernel
theorem dX11_drops_67 : decode cX11_drops 67 = .ok (.iconst 3, 1) := by decide +kernel
theorem dX11_drops_68 : decode cX11_drops 68 = .ok (.iconst 0, 1) := by decide +kernel
theorem dX11_drops_69 : decode cX11_drops 69 = .ok (.iastore, 1) := by decide +kernel
theorem dX11_drops_70 : decode cX11_drops 70 = .ok (.aload_n 0, 1) := by decide +kernel
theorem dX11_drops_71 : decode cX11_drops 71 = .ok (.getfield 7, 3) := by decide +kernel
theorem dX11_drops_74 : decode cX11_drops 74 = .ok (.iconst 1, 1) := by decide +kernel
theorem dX11_drops_75 : decode cX11_drops 75 = .ok (.iaload, 1) := by decide +kernel
theorem dX11_drops_76 : decode cX11_drops 76 = .ok (.ireturn, 1) := by decide +kernel
set_option maxRecDepth 20000 in
theorem ggX11_drop_X11_keeps : GoodIn wsX11_drop wsX11_keeps := goodIn_r _ [5, 6, 7, 26, 27, 28, 29, 30, 31, 32, 33, 34, 35, 36, 37, 38, 39, 40, 41, 42, 43, 44, 45, 46, 47, 48, 49, 50, 51, 52] (by decide +kernel) (by decide +kernel)
set_option maxRecDepth 20000 in
theorem gX11_drop_X11_keeps : GoodIn wsX11_drop (wsV RX11 85 RX11 yX11_keeps wsX11_keeps) := goodIn_app (goodIn_of _ (by decide +kernel)) ggX11_drop_X11_keeps
set_option maxRecDepth 20000 in
theorem ggX11_drop_X11_drops : GoodIn wsX11_drop wsX11_drops := goodIn_r _ [11, 12, 7, 13, 14, 15, 4, 16, 17, 18, 19, 26, 27, 28, 29, 30, 31, 32, 33, 34, 35, 36, 37, 38, 39, 40, 41, 42, 43, 44, 45, 46, 47, 48, 49, 50, 51, 52] (by decide +kernel) (by decide +kernel)
set_option maxRecDepth 20000 in
theorem gX11_drop_X11_drops : GoodIn wsX11_drop (wsV RX11 88 RX11 yX11_drops wsX11_drops) := goodIn_app (goodIn_of _ (by decide +kernel)) ggX11_drop_X11_drops
set_option maxRecDepth 20000 in
theorem ggX11_drop_X11_acted : GoodIn wsX11_drop wsX11_acted := goodIn_r _ [23, 12, 24, 25, 6, 26, 27, 28, 29, 30, 31, 32, 33, 34, 35, 36, 37, 38, 39, 40, 41, 42, 43, 44, 45, 46, 47, 48, 49, 50, 51, 52] (by decide +kernel) (by decide +kernel)
set_option maxRecDepth 20000 in
theorem gX11_drop_X11_acted : GoodIn wsX11_drop (wsV RX11 91 RX11 yX11_acted wsX11_acted) := goodIn_app (goodIn_of _ (by decide +kernel)) ggX11_drop_X11_acted
theorem dX11_drop_0 : decode cX11_drop 0 = .ok (.aload_n 0, 1) := by decide +kernel
theorem dX11_drop_1 : decode cX11_drop 1 = .ok (.invokevirtual 85, 3) := by decide +kernel
theorem dX11_drop_4 : decode cX11_drop 4 = .ok (.aload_n 0, 1) := by decide +kernel
theorem dX11_drop_5 : decode cX11_drop 5 = .ok (.aload_n 0, 1) := by decide +kernel
theorem dX11_drop_6 : decode cX11_drop 6 = .ok (.iload_n 1, 1) := by decide +kernel
theorem dX11_drop_7 : decode cX11_drop 7 = .ok (.invokevirtual 88, 3) := by decide +kernel
theorem dX11_drop_10 : decode cX11_drop 10 = .ok (.invokevirtual 91, 3) := by decide +kernel
theorem dX11_drop_13 : decode cX11_drop 13 = .ok (.ireturn, 1) := by decide +kernel
set_option maxRecDepth 20000 in
theorem ggX11_goes_X11_in : GoodIn wsX11_goes wsX11_in := goodIn_r _ [6] (by decide +kernel) (by decide +kernel)
set_option maxRecDepth 20000 in
theorem gX11_goes_X11_in : GoodIn wsX11_goes (va_wsS RX11 44 yX11_in wsX11_in) := goodIn_app (goodIn_of _ (by decide +kernel)) ggX11_goes_X11_in
theorem dX11_goes_0 : decode cX11_goes 0 = .ok (.iload_n 1, 1) := by decide +kernel
theorem dX11_goes_1 : decode cX11_goes 1 = .ok (.iconst 0, 1) := by decide +kernel
theorem dX11_goes_2 : decode cX11_goes 2 = .ok (.iconst 2, 1) := by decide +kernel
theorem dX11_goes_3 : decode cX11_goes 3 = .ok (.invokestatic 44, 3) := by decide +kernel
theorem dX11_goes_6 : decode cX11_goes 6 = .ok (.ifCond .ne 6, 3) := by decide +kernel
theorem dX11_goes_9 : decode cX11_goes 9 = .ok (.ldc 78, 2) := by decide +kernel
theorem dX11_goes_11 : decode cX11_goes 11 = .ok (.ireturn, 1) := by decide +kernel
theorem dX11_goes_12 : decode cX11_goes 12 = .ok (.aload_n 0, 1) := by decide +kernel
theorem dX11_goes_13 : decode cX11_goes 13 = .ok (.getfield 7, 3) := by decide +kernel
theorem dX11_goes_16 : decode cX11_goes 16 = .ok (.iconst 2, 1) := by decide +kernel
theorem dX11_goes_17 : decode cX11_goes 17 = .ok (.iaload, 1) := by decide +kernel
theorem dX11_goes_18 : decode cX11_goes 18 = .ok (.istore_n 2, 1) := by decide +kernel
theorem dX11_goes_19 : decode cX11_goes 19 = .ok (.aload_n 0, 1) := by decide +kernel
theorem dX11_goes_20 : decode cX11_goes 20 = .ok (.getfield 7, 3) := by decide +kernel
theorem dX11_goes_23 : decode cX11_goes 23 = .ok (.iconst 2, 1) := by decide +kernel
theorem dX11_goes_24 : decode cX11_goes 24 = .ok (.iload_n 1, 1) := by decide +kernel
theorem dX11_goes_25 : decode cX11_goes 25 = .ok (.iastore, 1) := by decide +kernel
theorem dX11_goes_26 : decode cX11_goes 26 = .ok (.aload_n 0, 1) := by decide +kernel
theorem dX11_goes_27 : decode cX11_goes 27 = .ok (.getfield 7, 3) := by decide +kernel
theorem dX11_goes_30 : decode cX11_goes 30 = .ok (.iconst 3, 1) := by decide +kernel
theorem dX11_goes_31 : decode cX11_goes 31 = .ok (.iconst 0, 1) := by decide +kernel
theorem dX11_goes_32 : decode cX11_goes 32 = .ok (.iastore, 1) := by decide +kernel
theorem dX11_goes_33 : decode cX11_goes 33 = .ok (.iload_n 2, 1) := by decide +kernel
theorem dX11_goes_34 : decode cX11_goes 34 = .ok (.ireturn, 1) := by decide +kernel
set_option maxRecDepth 20000 in
theorem ggX11_way_X11_keeps : GoodIn wsX11_way wsX11_keeps := goodIn_r _ [5, 6, 7, 22, 23, 24, 25, 26, 27, 28, 29, 30, 31, 32, 33, 34, 35, 36, 37, 38, 39, 40, 41, 42, 43, 44, 45, 46, 47, 48] (by decide +kernel) (by decide +kernel)
set_option maxRecDepth 20000 in
theorem gX11_way_X11_keeps : GoodIn wsX11_way (wsV RX11 85 RX11 yX11_keeps wsX11_keeps) := goodIn_app (goodIn_of _ (by decide +kernel)) ggX11_way_X11_keeps
set_option maxRecDepth 20000 in
theorem ggX11_way_X11_goes : GoodIn wsX11_way wsX11_goes := goodIn_r _ [11, 12, 7, 13, 14, 4, 15, 22, 23, 24, 25, 26, 27, 28, 29, 30, 31, 32, 33, 34, 35, 36, 37, 38, 39, 40, 41, 42, 43, 44, 45, 46, 47, 48] (by decide +kernel) (by decide +kernel)
set_option maxRecDepth 20000 in
theorem gX11_way_X11_goes : GoodIn wsX11_way (wsV RX11 94 RX11 yX11_goes wsX11_goes) := goodIn_app (goodIn_of _ (by decide +kernel)) ggX11_way_X11_goes
set_option maxRecDepth 20000 in
theorem ggX11_way_X11_acted : GoodIn wsX11_way wsX11_acted := goodIn_r _ [19, 12, 20, 21, 6, 22, 23, 24, 25, 26, 27, 28, 29, 30, 31, 32, 33, 34, 35, 36, 37, 38, 39, 40, 41, 42, 43, 44, 45, 46, 47, 48] (by decide +kernel) (by decide +kernel)
set_option maxRecDepth 20000 in
theorem gX11_way_X11_acted : GoodIn wsX11_way (wsV RX11 91 RX11 yX11_acted wsX11_acted) := goodIn_app (goodIn_of _ (by decide +kernel)) ggX11_way_X11_acted
theorem dX11_way_0 : decode cX11_way 0 = .ok (.aload_n 0, 1) := by decide +kernel
theorem dX11_way_1 : decode cX11_way 1 = .ok (.invokevirtual 85, 3) := by decide +kernel
theorem dX11_way_4 : decode cX11_way 4 = .ok (.aload_n 0, 1) := by decide +kernel
theorem dX11_way_5 : decode cX11_way 5 = .ok (.aload_n 0, 1) := by decide +kernel
theorem dX11_way_6 : decode cX11_way 6 = .ok (.iload_n 1, 1) := by decide +kernel
theorem dX11_way_7 : decode cX11_way 7 = .ok (.invokevirtual 94, 3) := by decide +kernel
theorem dX11_way_10 : decode cX11_way 10 = .ok (.invokevirtual 91, 3) := by decide +kernel
theorem dX11_way_13 : decode cX11_way 13 = .ok (.ireturn, 1) := by decide +kernel
theorem dX11_adds_0 : decode cX11_adds 0 = .ok (.bipush 6, 2) := by decide +kernel
theorem dX11_adds_2 : decode cX11_adds 2 = .ok (.iconst 3, 1) := by decide +kernel
theorem dX11_adds_3 : decode cX11_adds 3 = .ok (.aload_n 0, 1) := by decide +kernel
theorem dX11_adds_4 : decode cX11_adds 4 = .ok (.getfield 7, 3) := by decide +kernel
theorem dX11_adds_7 : decode cX11_adds 7 = .ok (.iconst 1, 1) := by decide +kernel
theorem dX11_adds_8 : decode cX11_adds 8 = .ok (.iaload, 1) := by decide +kernel
theorem dX11_adds_9 : decode cX11_adds 9 = .ok (.imul, 1) := by decide +kernel
theorem dX11_adds_10 : decode cX11_adds 10 = .ok (.iadd, 1) := by decide +kernel
theorem dX11_adds_11 : decode cX11_adds 11 = .ok (.istore_n 3, 1) := by decide +kernel
theorem dX11_adds_12 : decode cX11_adds 12 = .ok (.aload_n 0, 1) := by decide +kernel
theorem dX11_adds_13 : decode cX11_adds 13 = .ok (.getfield 7, 3) := by decide +kernel
theorem dX11_adds_16 : decode cX11_adds 16 = .ok (.iload_n 3, 1) := by decide +kernel
theorem dX11_adds_17 : decode cX11_adds 17 = .ok (.iload_n 1, 1) := by decide +kernel
theorem dX11_adds_18 : decode cX11_adds 18 = .ok (.iastore, 1) := by decide +kernel
theorem dX11_adds_19 : decode cX11_adds 19 = .ok (.aload_n 0, 1) := by decide +kernel
theorem dX11_adds_20 : decode cX11_adds 20 = .ok (.getfield 7, 3) := by decide +kernel
theorem dX11_adds_23 : decode cX11_adds 23 = .ok (.iload_n 3, 1) := by decide +kernel
theorem dX11_adds_24 : decode cX11_adds 24 = .ok (.iconst 1, 1) := by decide +kernel
theorem dX11_adds_25 : decode cX11_adds 25 = .ok (.iadd, 1) := by decide +kernel
theorem dX11_adds_26 : decode cX11_adds 26 = .ok (.iload_n 2, 1) := by decide +kernel
theorem dX11_adds_27 : decode cX11_adds 27 = .ok (.iastore, 1) := by decide +kernel
theorem dX11_adds_28 : decode cX11_adds 28 = .ok (.aload_n 0, 1) := by decide +kernel
theorem dX11_adds_29 : decode cX11_adds 29 = .ok (.getfield 7, 3) := by decide +kernel
theorem dX11_adds_32 : decode cX11_adds 32 = .ok (.iload_n 3, 1) := by decide +kernel
theorem dX11_adds_33 : decode cX11_adds 33 = .ok (.iconst 2, 1) := by decide +kernel
theorem dX11_adds_34 : decode cX11_adds 34 = .ok (.iadd, 1) := by decide +kernel
theorem dX11_adds_35 : decode cX11_adds 35 = .ok (.iconst 0, 1) := by decide +kernel
theorem dX11_adds_36 : decode cX11_adds 36 = .ok (.iastore, 1) := by decide +kernel
theorem dX11_adds_37 : decode cX11_adds 37 = .ok (.aload_n 0, 1) := by decide +kernel
theorem dX11_adds_38 : decode cX11_adds 38 = .ok (.getfield 7, 3) := by decide +kernel
theorem dX11_adds_41 : decode cX11_adds 41 = .ok (.iconst 1, 1) := by decide +kernel
theorem dX11_adds_42 : decode cX11_adds 42 = .ok (.dup2, 1) := by decide +kernel
theorem dX11_adds_43 : decode cX11_adds 43 = .ok (.iaload, 1) := by decide +kernel
theorem dX11_adds_44 : decode cX11_adds 44 = .ok (.iconst 1, 1) := by decide +kernel
theorem dX11_adds_45 : decode cX11_adds 45 = .ok (.iadd, 1) := by decide +kernel
theorem dX11_adds_46 : decode cX11_adds 46 = .ok (.iastore, 1) := by decide +kernel
theorem dX11_adds_47 : decode cX11_adds 47 = .ok (.aload_n 0, 1) := by decide +kernel
theorem dX11_adds_48 : decode cX11_adds 48 = .ok (.getfield 7, 3) := by decide +kernel
theorem dX11_adds_51 : decode cX11_adds 51 = .ok (.iconst 3, 1) := by decide +kernel
theorem dX11_adds_52 : decode cX11_adds 52 = .ok (.iconst 0, 1) := by decide +kernel
theorem dX11_adds_53 : decode cX11_adds 53 = .ok (.iastore, 1) := by decide +kernel
theorem dX11_adds_54 : decode cX11_adds 54 = .ok (.return_, 1) := by decide +kernel
set_option maxRecDepth 20000 in
theorem ggX11_places_X11_length : GoodIn wsX11_places wsX11_length := goodIn_r _ [5] (by decide +kernel) (by decide +kernel)
set_option maxRecDepth 20000 in
theorem gX11_places_X11_length : GoodIn wsX11_places (va_wsS RX11 35 yX11_length wsX11_length) := goodIn_app (goodIn_of _ (by decide +kernel)) ggX11_places_X11_length
set_option maxRecDepth 20000 in
theorem ggX11_places_X11_left : GoodIn wsX11_places wsX11_left := goodIn_r _ [9, 1, 13, 14, 15, 16, 17, 18, 19, 20, 21, 22, 23, 24, 25, 26, 27, 28, 29, 30, 31, 32, 33, 34, 35, 36, 37, 38, 39] (by decide +kernel) (by decide +kernel)
set_option maxRecDepth 20000 in
theorem gX11_places_X11_left : GoodIn wsX11_places (wsV RX11 48 RX11 yX11_left wsX11_left) := goodIn_app (goodIn_of _ (by decide +kernel)) ggX11_places_X11_left
set_option maxRecDepth 20000 in
theorem ggX11_places_X11_stands : GoodIn wsX11_places wsX11_stands := goodIn_r _ [12, 2, 3, 4, 5] (by decide +kernel) (by decide +kernel)
set_option maxRecDepth 20000 in
theorem gX11_places_X11_stands : GoodIn wsX11_places (va_wsS RX11 61 yX11_stands wsX11_stands) := goodIn_app (goodIn_of _ (by decide +kernel)) ggX11_places_X11_stands
theorem dX11_places_0 : decode cX11_places 0 = .ok (.iconst 0, 1) := by decide +kernel
theorem dX11_places_1 : decode cX11_places 1 = .ok (.istore_n 2, 1) := by decide +kernel
theorem dX11_places_2 : decode cX11_places 2 = .ok (.iconst 0, 1) := by decide +kernel
theorem dX11_places_3 : decode cX11_places 3 = .ok (.istore_n 3, 1) := by decide +kernel
theorem dX11_places_4 : decode cX11_places 4 = .ok (.iload_n 3, 1) := by decide +kernel
theorem dX11_places_5 : decode cX11_places 5 = .ok (.aload_n 0, 1) := by decide +kernel
theorem dX11_places_6 : decode cX11_places 6 = .ok (.getfield 7, 3) := by decide +kernel
theorem dX11_places_9 : decode cX11_places 9 = .ok (.iconst 0, 1) := by decide +kernel
theorem dX11_places_10 : decode cX11_places 10 = .ok (.iaload, 1) := by decide +kernel
theorem dX11_places_11 : decode cX11_places 11 = .ok (.invokestatic 35, 3) := by decide +kernel
theorem dX11_places_14 : decode cX11_places 14 = .ok (.if_icmp .ge 35, 3) := by decide +kernel
theorem dX11_places_17 : decode cX11_places 17 = .ok (.iload_n 2, 1) := by decide +kernel
theorem dX11_places_18 : decode cX11_places 18 = .ok (.aload_n 0, 1) := by decide +kernel
theorem dX11_places_19 : decode cX11_places 19 = .ok (.iload_n 1, 1) := by decide +kernel
theorem dX11_places_20 : decode cX11_places 20 = .ok (.invokevirtual 48, 3) := by decide +kernel
theorem dX11_places_23 : decode cX11_places 23 = .ok (.aload_n 0, 1) := by decide +kernel
theorem dX11_places_24 : decode cX11_places 24 = .ok (.getfield 7, 3) := by decide +kernel
theorem dX11_places_27 : decode cX11_places 27 = .ok (.iconst 0, 1) := by decide +kernel
theorem dX11_places_28 : decode cX11_places 28 = .ok (.iaload, 1) := by decide +kernel
theorem dX11_places_29 : decode cX11_places 29 = .ok (.iload_n 3, 1) := by decide +kernel
theorem dX11_places_30 : decode cX11_places 30 = .ok (.invokestatic 61, 3) := by decide +kernel
theorem dX11_places_33 : decode cX11_places 33 = .ok (.ifCond .eq 7, 3) := by decide +kernel
theorem dX11_places_36 : decode cX11_places 36 = .ok (.iconst 1, 1) := by decide +kernel
theorem dX11_places_37 : decode cX11_places 37 = .ok (.goto 4, 3) := by decide +kernel
theorem dX11_places_40 : decode cX11_places 40 = .ok (.iconst 0, 1) := by decide +kernel
theorem dX11_places_41 : decode cX11_places 41 = .ok (.iadd, 1) := by decide +kernel
theorem dX11_places_42 : decode cX11_places 42 = .ok (.istore_n 2, 1) := by decide +kernel
theorem dX11_places_43 : decode cX11_places 43 = .ok (.iinc 3 1, 3) := by decide +kernel
theorem dX11_places_46 : decode cX11_places 46 = .ok (.goto (-42), 3) := by decide +kernel
theorem dX11_places_49 : decode cX11_places 49 = .ok (.iload_n 2, 1) := by decide +kernel
theorem dX11_places_50 : decode cX11_places 50 = .ok (.ireturn, 1) := by decide +kernel
set_option maxRecDepth 20000 in
theorem ggX11_ruleOf_X11_isRule : GoodIn wsX11_ruleOf wsX11_isRule := goodIn_r _ [7, 2, 8, 9, 6, 10, 36, 37, 38, 39, 40, 41, 42, 43, 44, 45, 46, 47, 48, 49, 50, 51, 52, 53, 54, 55, 56, 57, 58, 59, 60, 61, 62] (by decide +kernel) (by decide +kernel)
set_option maxRecDepth 20000 in
theorem gX11_ruleOf_X11_isRule : GoodIn wsX11_ruleOf (wsV RX11 82 RX11 yX11_isRule wsX11_isRule) := goodIn_app (goodIn_of _ (by decide +kernel)) ggX11_ruleOf_X11_isRule
set_option maxRecDepth 20000 in
theorem ggX11_ruleOf_X11_in : GoodIn wsX11_ruleOf wsX11_in := goodIn_r _ [10] (by decide +kernel) (by decide +kernel)
set_option maxRecDepth 20000 in
theorem gX11_ruleOf_X11_in : GoodIn wsX11_ruleOf (va_wsS RX11 44 yX11_in wsX11_in) := goodIn_app (goodIn_of _ (by decide +kernel)) ggX11_ruleOf_X11_in
set_option maxRecDepth 20000 in
theorem ggX11_ruleOf_X11_left : GoodIn wsX11_ruleOf wsX11_left := goodIn_r _ [14, 2, 36, 37, 38, 39, 40, 41, 42, 43, 44, 45, 46, 47, 48, 49, 50, 51, 52, 53, 54, 55, 56, 57, 58, 59, 60, 61, 62] (by decide +kernel) (by decide +kernel)
set_option maxRecDepth 20000 in
theorem gX11_ruleOf_X11_left : GoodIn wsX11_ruleOf (wsV RX11 48 RX11 yX11_left wsX11_left) := goodIn_app (goodIn_of _ (by decide +kernel)) ggX11_ruleOf_X11_left
set_option maxRecDepth 20000 in
theorem ggX11_ruleOf_X11_length : GoodIn wsX11_ruleOf wsX11_length := goodIn_r _ [17] (by decide +kernel) (by decide +kernel)
set_option maxRecDepth 20000 in
theorem gX11_ruleOf_X11_length : GoodIn wsX11_ruleOf (va_wsS RX11 35 yX11_length wsX11_length) := goodIn_app (goodIn_of _ (by decide +kernel)) ggX11_ruleOf_X11_length
set_option maxRecDepth 20000 in
theorem ggX11_ruleOf_X11_right : GoodIn wsX11_ruleOf wsX11_right := goodIn_r _ [21, 2, 36, 37, 38, 39, 40, 41, 42, 43, 44, 45, 46, 47, 48, 49, 50, 51, 52, 53, 54, 55, 56, 57, 58, 59, 60, 61, 62] (by decide +kernel) (by decide +kernel)
set_option maxRecDepth 20000 in
theorem gX11_ruleOf_X11_right : GoodIn wsX11_ruleOf (wsV RX11 51 RX11 yX11_right wsX11_right) := goodIn_app (goodIn_of _ (by decide +kernel)) ggX11_ruleOf_X11_right
set_option maxRecDepth 20000 in
theorem ggX11_ruleOf_X11_places : GoodIn wsX11_ruleOf wsX11_places := goodIn_r _ [25, 2, 15, 16, 6, 17, 11, 12, 13, 14, 26, 27, 28, 36, 37, 38, 39, 40, 41, 42, 43, 44, 45, 46, 47, 48, 49, 50, 51, 52, 53, 54, 55, 56, 57, 58, 59, 60, 61, 62] (by decide +kernel) (by decide +kernel)
set_option maxRecDepth 20000 in
theorem gX11_ruleOf_X11_places : GoodIn wsX11_ruleOf (wsV RX11 97 RX11 yX11_places wsX11_places) := goodIn_app (goodIn_of _ (by decide +kernel)) ggX11_ruleOf_X11_places
set_option maxRecDepth 20000 in
theorem ggX11_ruleOf_X11_letterOf : GoodIn wsX11_ruleOf wsX11_letterOf := goodIn_r _ [31, 32, 15, 16, 6, 17, 33, 34, 35] (by decide +kernel) (by decide +kernel)
set_option maxRecDepth 20000 in
theorem gX11_ruleOf_X11_letterOf : GoodIn wsX11_ruleOf (va_wsS RX11 100 yX11_letterOf wsX11_letterOf) := goodIn_app (goodIn_of _ (by decide +kernel)) ggX11_ruleOf_X11_letterOf
theorem dX11_ruleOf_0 : decode cX11_ruleOf 0 = .ok (.aload_n 0, 1) := by decide +kernel
theorem dX11_ruleOf_1 : decode cX11_ruleOf 1 = .ok (.iload_n 1, 1) := by decide +kernel
theorem dX11_ruleOf_2 : decode cX11_ruleOf 2 = .ok (.invokevirtual 82, 3) := by decide +kernel
theorem dX11_ruleOf_5 : decode cX11_ruleOf 5 = .ok (.ifCond .eq 34, 3) := by decide +kernel
theorem dX11_ruleOf_8 : decode cX11_ruleOf 8 = .ok (.iload_n 2, 1) := by decide +kernel
theorem dX11_ruleOf_9 : decode cX11_ruleOf 9 = .ok (.iconst 0, 1) := by decide +kernel
theorem dX11_ruleOf_10 : decode cX11_ruleOf 10 = .ok (.iconst 4, 1) := by decide +kernel
theorem dX11_ruleOf_11 : decode cX11_ruleOf 11 = .ok (.invokestatic 44, 3) := by decide +kernel
theorem dX11_ruleOf_14 : decode cX11_ruleOf 14 = .ok (.ifCond .ne 28, 3) := by decide +kernel
theorem dX11_ruleOf_17 : decode cX11_ruleOf 17 = .ok (.iload_n 2, 1) := by decide +kernel
theorem dX11_ruleOf_18 : decode cX11_ruleOf 18 = .ok (.bipush 10, 2) := by decide +kernel
theorem dX11_ruleOf_20 : decode cX11_ruleOf 20 = .ok (.bipush 13, 2) := by decide +kernel
theorem dX11_ruleOf_22 : decode cX11_ruleOf 22 = .ok (.invokestatic 44, 3) := by decide +kernel
theorem dX11_ruleOf_25 : decode cX11_ruleOf 25 = .ok (.ifCond .ne 17, 3) := by decide +kernel
theorem dX11_ruleOf_28 : decode cX11_ruleOf 28 = .ok (.iload_n 2, 1) := by decide +kernel
theorem dX11_ruleOf_29 : decode cX11_ruleOf 29 = .ok (.bipush 20, 2) := by decide +kernel
theorem dX11_ruleOf_31 : decode cX11_ruleOf 31 = .ok (.bipush 23, 2) := by decide +kernel
theorem dX11_ruleOf_33 : decode cX11_ruleOf 33 = .ok (.invokestatic 44, 3) := by decide +kernel
theorem dX11_ruleOf_36 : decode cX11_ruleOf 36 = .ok (.ifCond .ne 6, 3) := by decide +kernel
theorem dX11_ruleOf_39 : decode cX11_ruleOf 39 = .ok (.ldc 78, 2) := by decide +kernel
theorem dX11_ruleOf_41 : decode cX11_ruleOf 41 = .ok (.ireturn, 1) := by decide +kernel
theorem dX11_ruleOf_42 : decode cX11_ruleOf 42 = .ok (.iload_n 2, 1) := by decide +kernel
theorem dX11_ruleOf_43 : decode cX11_ruleOf 43 = .ok (.tableswitch 96 0 4 #[33, 42, 51, 76, 82], 33) := by decide +kernel
theorem dX11_ruleOf_76 : decode cX11_ruleOf 76 = .ok (.aload_n 0, 1) := by decide +kernel
theorem dX11_ruleOf_77 : decode cX11_ruleOf 77 = .ok (.iload_n 1, 1) := by decide +kernel
theorem dX11_ruleOf_78 : decode cX11_ruleOf 78 = .ok (.invokevirtual 48, 3) := by decide +kernel
theorem dX11_ruleOf_81 : decode cX11_ruleOf 81 = .ok (.invokestatic 35, 3) := by decide +kernel
theorem dX11_ruleOf_84 : decode cX11_ruleOf 84 = .ok (.ireturn, 1) := by decide +kernel
theorem dX11_ruleOf_85 : decode cX11_ruleOf 85 = .ok (.aload_n 0, 1) := by decide +kernel
theorem dX11_ruleOf_86 : decode cX11_ruleOf 86 = .ok (.iload_n 1, 1) := by decide +kernel
theorem dX11_ruleOf_87 : decode cX11_ruleOf 87 = .ok (.invokevirtual 51, 3) := by decide +kernel
theorem dX11_ruleOf_90 : decode cX11_ruleOf 90 = .ok (.invokestatic 35, 3) := by decide +kernel
theorem dX11_ruleOf_93 : decode cX11_ruleOf 93 = .ok (.ireturn, 1) := by decide +kernel
theorem dX11_ruleOf_94 : decode cX11_ruleOf 94 = .ok (.aload_n 0, 1) := by decide +kernel
theorem dX11_ruleOf_95 : decode cX11_ruleOf 95 = .ok (.iload_n 1, 1) := by decide +kernel
theorem dX11_ruleOf_96 : decode cX11_ruleOf 96 = .ok (.invokevirtual 51, 3) := by decide +kernel
theorem dX11_ruleOf_99 : decode cX11_ruleOf 99 = .ok (.invokestatic 35, 3) := by decide +kernel
theorem dX11_ruleOf_102 : decode cX11_ruleOf 102 = .ok (.aload_n 0, 1) := by decide +kernel
theorem dX11_ruleOf_103 : decode cX11_ruleOf 103 = .ok (.iload_n 1, 1) := by decide +kernel
theorem dX11_ruleOf_104 : decode cX11_ruleOf 104 = .ok (.invokevirtual 48, 3) := by decide +kernel
theorem dX11_ruleOf_107 : decode cX11_ruleOf 107 = .ok (.invokestatic 35, 3) := by decide +kernel
theorem dX11_ruleOf_110 : decode cX11_ruleOf 110 = .ok (.if_icmp .ge 7, 3) := by decide +kernel
theorem dX11_ruleOf_113 : decode cX11_ruleOf 113 = .ok (.iconst 1, 1) := by decide +kernel
theorem dX11_ruleOf_114 : decode cX11_ruleOf 114 = .ok (.goto 4, 3) := by decide +kernel
theorem dX11_ruleOf_117 : decode cX11_ruleOf 117 = .ok (.iconst 0, 1) := by decide +kernel
theorem dX11_ruleOf_118 : decode cX11_ruleOf 118 = .ok (.ireturn, 1) := by decide +kernel
theorem dX11_ruleOf_119 : decode cX11_ruleOf 119 = .ok (.aload_n 0, 1) := by decide +kernel
theorem dX11_ruleOf_120 : decode cX11_ruleOf 120 = .ok (.iload_n 1, 1) := by decide +kernel
theorem dX11_ruleOf_121 : decode cX11_ruleOf 121 = .ok (.invokevirtual 97, 3) := by decide +kernel
theorem dX11_ruleOf_124 : decode cX11_ruleOf 124 = .ok (.ireturn, 1) := by decide +kernel
theorem dX11_ruleOf_125 : decode cX11_ruleOf 125 = .ok (.aload_n 0, 1) := by decide +kernel
theorem dX11_ruleOf_126 : decode cX11_ruleOf 126 = .ok (.getfield 7, 3) := by decide +kernel
theorem dX11_ruleOf_129 : decode cX11_ruleOf 129 = .ok (.bipush 6, 2) := by decide +kernel
theorem dX11_ruleOf_131 : decode cX11_ruleOf 131 = .ok (.iconst 3, 1) := by decide +kernel
theorem dX11_ruleOf_132 : decode cX11_ruleOf 132 = .ok (.iload_n 1, 1) := by decide +kernel
theorem dX11_ruleOf_133 : decode cX11_ruleOf 133 = .ok (.imul, 1) := by decide +kernel
theorem dX11_ruleOf_134 : decode cX11_ruleOf 134 = .ok (.iadd, 1) := by decide +kernel
theorem dX11_ruleOf_135 : decode cX11_ruleOf 135 = .ok (.iconst 2, 1) := by decide +kernel
theorem dX11_ruleOf_136 : decode cX11_ruleOf 136 = .ok (.iadd, 1) := by decide +kernel
theorem dX11_ruleOf_137 : decode cX11_ruleOf 137 = .ok (.iaload, 1) := by decide +kernel
theorem dX11_ruleOf_138 : decode cX11_ruleOf 138 = .ok (.ireturn, 1) := by decide +kernel
theorem dX11_ruleOf_139 : decode cX11_ruleOf 139 = .ok (.iload_n 2, 1) := by decide +kernel
theorem dX11_ruleOf_140 : decode cX11_ruleOf 140 = .ok (.bipush 20, 2) := by decide +kernel
theorem dX11_ruleOf_142 : decode cX11_ruleOf 142 = .ok (.if_icmp .ge 18, 3) := by decide +kernel
theorem dX11_ruleOf_145 : decode cX11_ruleOf 145 = .ok (.aload_n 0, 1) := by decide +kernel
theorem dX11_ruleOf_146 : decode cX11_ruleOf 146 = .ok (.iload_n 1, 1) := by decide +kernel
theorem dX11_ruleOf_147 : decode cX11_ruleOf 147 = .ok (.invokevirtual 48, 3) := by decide +kernel
theorem dX11_ruleOf_150 : decode cX11_ruleOf 150 = .ok (.iload_n 2, 1) := by decide +kernel
theorem dX11_ruleOf_151 : decode cX11_ruleOf 151 = .ok (.bipush 10, 2) := by decide +kernel
theorem dX11_ruleOf_153 : decode cX11_ruleOf 153 = .ok (.isub, 1) := by decide +kernel
theorem dX11_ruleOf_154 : decode cX11_ruleOf 154 = .ok (.invokestatic 100, 3) := by decide +kernel
theorem dX11_ruleOf_157 : decode cX11_ruleOf 157 = .ok (.goto 15, 3) := by decide +kernel
theorem dX11_ruleOf_160 : decode cX11_ruleOf 160 = .ok (.aload_n 0, 1) := by decide +kernel
theorem dX11_ruleOf_161 : decode cX11_ruleOf 161 = .ok (.iload_n 1, 1) := by decide +kernel
theorem dX11_ruleOf_162 : decode cX11_ruleOf 162 = .ok (.invokevirtual 51, 3) := by decide +kernel
theorem dX11_ruleOf_165 : decode cX11_ruleOf 165 = .ok (.iload_n 2, 1) := by decide +kernel
theorem dX11_ruleOf_166 : decode cX11_ruleOf 166 = .ok (.bipush 20, 2) := by decide +kernel
theorem dX11_ruleOf_168 : decode cX11_ruleOf 168 = .ok (.isub, 1) := by decide +kernel
theorem dX11_ruleOf_169 : decode cX11_ruleOf 169 = .ok (.invokestatic 100, 3) := by decide +kernel
theorem dX11_ruleOf_172 : decode cX11_ruleOf 172 = .ok (.ireturn, 1) := by decide +kernel
set_option maxRecDepth 20000 in
theorem ggX11_steps_X11_chooses : GoodIn wsX11_steps wsX11_chooses := goodIn_r _ [9, 3, 1, 4, 10, 11, 8, 12, 13, 14, 15, 16, 17, 18, 19, 28, 29, 30, 31, 32, 33, 34, 35, 36, 37, 38, 39, 40, 41, 42, 43, 44, 45, 46, 47, 48, 49, 50, 51, 52, 53, 54] (by decide +kernel) (by decide +kernel)
set_option maxRecDepth 20000 in
theorem gX11_steps_X11_chooses : GoodIn wsX11_steps (wsV RX11 67 RX11 yX11_chooses wsX11_chooses) := goodIn_app (goodIn_of _ (by decide +kernel)) ggX11_steps_X11_chooses
set_option maxRecDepth 20000 in
theorem ggX11_steps_X11_applied : GoodIn wsX11_steps wsX11_applied := goodIn_r _ [23, 10, 11, 8, 12, 13, 14, 15, 16, 1, 24, 25, 26, 27, 28, 29, 30, 31, 32, 33, 34, 35, 36, 37, 38, 39, 40, 41, 42, 43, 44, 45, 46, 47, 48, 49, 50, 51, 52, 53, 54] (by decide +kernel) (by decide +kernel)
set_option maxRecDepth 20000 in
theorem gX11_steps_X11_applied : GoodIn wsX11_steps (wsV RX11 71 RX11 yX11_applied wsX11_applied) := goodIn_app (goodIn_of _ (by decide +kernel)) ggX11_steps_X11_applied
theorem dX11_steps_0 : decode cX11_steps 0 = .ok (.aload_n 0, 1) := by decide +kernel
theorem dX11_steps_1 : decode cX11_steps 1 = .ok (.aload_n 0, 1) := by decide +kernel
theorem dX11_steps_2 : decode cX11_steps 2 = .ok (.getfield 7, 3) := by decide +kernel
theorem dX11_steps_5 : decode cX11_steps 5 = .ok (.iconst 0, 1) := by decide +kernel
theorem dX11_steps_6 : decode cX11_steps 6 = .ok (.iaload, 1) := by decide +kernel
theorem dX11_steps_7 : decode cX11_steps 7 = .ok (.invokevirtual 67, 3) := by decide +kernel
theorem dX11_steps_10 : decode cX11_steps 10 = .ok (.ifCond .ne 6, 3) := by decide +kernel
theorem dX11_steps_13 : decode cX11_steps 13 = .ok (.ldc 103, 2) := by decide +kernel
theorem dX11_steps_15 : decode cX11_steps 15 = .ok (.ireturn, 1) := by decide +kernel
theorem dX11_steps_16 : decode cX11_steps 16 = .ok (.aload_n 0, 1) := by decide +kernel
theorem dX11_steps_17 : decode cX11_steps 17 = .ok (.getfield 7, 3) := by decide +kernel
theorem dX11_steps_20 : decode cX11_steps 20 = .ok (.iconst 0, 1) := by decide +kernel
theorem dX11_steps_21 : decode cX11_steps 21 = .ok (.aload_n 0, 1) := by decide +kernel
theorem dX11_steps_22 : decode cX11_steps 22 = .ok (.aload_n 0, 1) := by decide +kernel
theorem dX11_steps_23 : decode cX11_steps 23 = .ok (.getfield 7, 3) := by decide +kernel
theorem dX11_steps_26 : decode cX11_steps 26 = .ok (.iconst 0, 1) := by decide +kernel
theorem dX11_steps_27 : decode cX11_steps 27 = .ok (.iaload, 1) := by decide +kernel
theorem dX11_steps_28 : decode cX11_steps 28 = .ok (.aload_n 0, 1) := by decide +kernel
theorem dX11_steps_29 : decode cX11_steps 29 = .ok (.getfield 54, 3) := by decide +kernel
theorem dX11_steps_32 : decode cX11_steps 32 = .ok (.aload_n 0, 1) := by decide +kernel
theorem dX11_steps_33 : decode cX11_steps 33 = .ok (.getfield 58, 3) := by decide +kernel
theorem dX11_steps_36 : decode cX11_steps 36 = .ok (.invokevirtual 71, 3) := by decide +kernel
theorem dX11_steps_39 : decode cX11_steps 39 = .ok (.iastore, 1) := by decide +kernel
theorem dX11_steps_40 : decode cX11_steps 40 = .ok (.aload_n 0, 1) := by decide +kernel
theorem dX11_steps_41 : decode cX11_steps 41 = .ok (.getfield 7, 3) := by decide +kernel
theorem dX11_steps_44 : decode cX11_steps 44 = .ok (.bipush 6, 2) := by decide +kernel
theorem dX11_steps_46 : decode cX11_steps 46 = .ok (.iconst 3, 1) := by decide +kernel
theorem dX11_steps_47 : decode cX11_steps 47 = .ok (.aload_n 0, 1) := by decide +kernel
theorem dX11_steps_48 : decode cX11_steps 48 = .ok (.getfield 54, 3) := by decide +kernel
theorem dX11_steps_51 : decode cX11_steps 51 = .ok (.imul, 1) := by decide +kernel
theorem dX11_steps_52 : decode cX11_steps 52 = .ok (.iadd, 1) := by decide +kernel
theorem dX11_steps_53 : decode cX11_steps 53 = .ok (.iconst 2, 1) := by decide +kernel
theorem dX11_steps_54 : decode cX11_steps 54 = .ok (.iadd, 1) := by decide +kernel
theorem dX11_steps_55 : decode cX11_steps 55 = .ok (.dup2, 1) := by decide +kernel
theorem dX11_steps_56 : decode cX11_steps 56 = .ok (.iaload, 1) := by decide +kernel
theorem dX11_steps_57 : decode cX11_steps 57 = .ok (.iconst 1, 1) := by decide +kernel
theorem dX11_steps_58 : decode cX11_steps 58 = .ok (.iadd, 1) := by decide +kernel
theorem dX11_steps_59 : decode cX11_steps 59 = .ok (.iastore, 1) := by decide +kernel
theorem dX11_steps_60 : decode cX11_steps 60 = .ok (.aload_n 0, 1) := by decide +kernel
theorem dX11_steps_61 : decode cX11_steps 61 = .ok (.getfield 7, 3) := by decide +kernel
theorem dX11_steps_64 : decode cX11_steps 64 = .ok (.iconst 5, 1) := by decide +kernel
theorem dX11_steps_65 : decode cX11_steps 65 = .ok (.dup2, 1) := by decide +kernel
theorem dX11_steps_66 : decode cX11_steps 66 = .ok (.iaload, 1) := by decide +kernel
theorem dX11_steps_67 : decode cX11_steps 67 = .ok (.iconst 1, 1) := by decide +kernel
theorem dX11_steps_68 : decode cX11_steps 68 = .ok (.iadd, 1) := by decide +kernel
theorem dX11_steps_69 : decode cX11_steps 69 = .ok (.iastore, 1) := by decide +kernel
theorem dX11_steps_70 : decode cX11_steps 70 = .ok (.aload_n 0, 1) := by decide +kernel
theorem dX11_steps_71 : decode cX11_steps 71 = .ok (.getfield 54, 3) := by decide +kernel
theorem dX11_steps_74 : decode cX11_steps 74 = .ok (.ireturn, 1) := by decide +kernel
set_option maxRecDepth 20000 in
theorem ggX11_step_X11_keeps : GoodIn wsX11_step wsX11_keeps := goodIn_r _ [5, 6, 7, 44, 45, 46, 47, 48, 49, 50, 51, 52, 53, 54, 55, 56, 57, 58, 59, 60, 61, 62, 63, 64, 65, 66, 67, 68, 69, 70] (by decide +kernel) (by decide +kernel)
set_option maxRecDepth 20000 in
theorem gX11_step_X11_keeps : GoodIn wsX11_step (wsV RX11 85 RX11 yX11_keeps wsX11_keeps) := goodIn_app (goodIn_of _ (by decide +kernel)) ggX11_step_X11_keeps
set_option maxRecDepth 20000 in
theorem ggX11_step_X11_steps : GoodIn wsX11_step wsX11_steps := goodIn_r _ [11, 7, 12, 13, 14, 15, 16, 17, 4, 18, 19, 20, 21, 22, 23, 24, 25, 26, 27, 28, 29, 30, 31, 32, 33, 34, 35, 36, 44, 45, 46, 47, 48, 49, 50, 51, 52, 53, 54, 55, 56, 57, 58, 59, 60, 61, 62, 63, 64, 65, 66, 67, 68, 69, 70] (by decide +kernel) (by decide +kernel)
set_option maxRecDepth 20000 in
theorem gX11_step_X11_steps : GoodIn wsX11_step (wsV RX11 104 RX11 yX11_steps wsX11_steps) := goodIn_app (goodIn_of _ (by decide +kernel)) ggX11_step_X11_steps
set_option maxRecDepth 20000 in
theorem ggX11_step_X11_acted : GoodIn wsX11_step wsX11_acted := goodIn_r _ [40, 41, 42, 43, 6, 44, 45, 46, 47, 48, 49, 50, 51, 52, 53, 54, 55, 56, 57, 58, 59, 60, 61, 62, 63, 64, 65, 66, 67, 68, 69, 70] (by decide +kernel) (by decide +kernel)
set_option maxRecDepth 20000 in
theorem gX11_step_X11_acted : GoodIn wsX11_step (wsV RX11 91 RX11 yX11_acted wsX11_acted) := goodIn_app (goodIn_of _ (by decide +kernel)) ggX11_step_X11_acted
theorem dX11_step_0 : decode cX11_step 0 = .ok (.aload_n 0, 1) := by decide +kernel
theorem dX11_step_1 : decode cX11_step 1 = .ok (.invokevirtual 85, 3) := by decide +kernel
theorem dX11_step_4 : decode cX11_step 4 = .ok (.aload_n 0, 1) := by decide +kernel
theorem dX11_step_5 : decode cX11_step 5 = .ok (.aload_n 0, 1) := by decide +kernel
theorem dX11_step_6 : decode cX11_step 6 = .ok (.invokevirtual 104, 3) := by decide +kernel
theorem dX11_step_9 : decode cX11_step 9 = .ok (.invokevirtual 91, 3) := by decide +kernel
theorem dX11_step_12 : decode cX11_step 12 = .ok (.ireturn, 1) := by decide +kernel
theorem dX11_comesFirst_0 : decode cX11_comesFirst 0 = .ok (.iload_n 3, 1) := by decide +kernel
theorem dX11_comesFirst_1 : decode cX11_comesFirst 1 = .ok (.istore 4, 2) := by decide +kernel
theorem dX11_comesFirst_3 : decode cX11_comesFirst 3 = .ok (.iload 4, 2) := by decide +kernel
theorem dX11_comesFirst_5 : decode cX11_comesFirst 5 = .ok (.ifCond .le 63, 3) := by decide +kernel
theorem dX11_comesFirst_8 : decode cX11_comesFirst 8 = .ok (.aload_n 0, 1) := by decide +kernel
theorem dX11_comesFirst_9 : decode cX11_comesFirst 9 = .ok (.getfield 7, 3) := by decide +kernel
theorem dX11_comesFirst_12 : decode cX11_comesFirst 12 = .ok (.bipush 36, 2) := by decide +kernel
theorem dX11_comesFirst_14 : decode cX11_comesFirst 14 = .ok (.iconst 2, 1) := by decide +kernel
theorem dX11_comesFirst_15 : decode cX11_comesFirst 15 = .ok (.iload 4, 2) := by decide +kernel
theorem dX11_comesFirst_17 : decode cX11_comesFirst 17 = .ok (.imul, 1) := by decide +kernel
theorem dX11_comesFirst_18 : decode cX11_comesFirst 18 = .ok (.iadd, 1) := by decide +kernel
theorem dX11_comesFirst_19 : decode cX11_comesFirst 19 = .ok (.aload_n 0, 1) := by decide +kernel
theorem dX11_comesFirst_20 : decode cX11_comesFirst 20 = .ok (.getfield 7, 3) := by decide +kernel
theorem dX11_comesFirst_23 : decode cX11_comesFirst 23 = .ok (.bipush 36, 2) := by decide +kernel
theorem dX11_comesFirst_25 : decode cX11_comesFirst 25 = .ok (.iconst 2, 1) := by decide +kernel
theorem dX11_comesFirst_26 : decode cX11_comesFirst 26 = .ok (.iload 4, 2) := by decide +kernel
theorem dX11_comesFirst_28 : decode cX11_comesFirst 28 = .ok (.imul, 1) := by decide +kernel
theorem dX11_comesFirst_29 : decode cX11_comesFirst 29 = .ok (.iadd, 1) := by decide +kernel
theorem dX11_comesFirst_30 : decode cX11_comesFirst 30 = .ok (.iconst 2, 1) := by decide +kernel
theorem dX11_comesFirst_31 : decode cX11_comesFirst 31 = .ok (.isub, 1) := by decide +kernel
theorem dX11_comesFirst_32 : decode cX11_comesFirst 32 = .ok (.iaload, 1) := by decide +kernel
theorem dX11_comesFirst_33 : decode cX11_comesFirst 33 = .ok (.iastore, 1) := by decide +kernel
theorem dX11_comesFirst_34 : decode cX11_comesFirst 34 = .ok (.aload_n 0, 1) := by decide +kernel
theorem dX11_comesFirst_35 : decode cX11_comesFirst 35 = .ok (.getfield 7, 3) := by decide +kernel
theorem dX11_comesFirst_38 : decode cX11_comesFirst 38 = .ok (.bipush 36, 2) := by decide +kernel
theorem dX11_comesFirst_40 : decode cX11_comesFirst 40 = .ok (.iconst 2, 1) := by decide +kernel
theorem dX11_comesFirst_41 : decode cX11_comesFirst 41 = .ok (.iload 4, 2) := by decide +kernel
theorem dX11_comesFirst_43 : decode cX11_comesFirst 43 = .ok (.imul, 1) := by decide +kernel
theorem dX11_comesFirst_44 : decode cX11_comesFirst 44 = .ok (.iadd, 1) := by decide +kernel
theorem dX11_comesFirst_45 : decode cX11_comesFirst 45 = .ok (.iconst 1, 1) := by decide +kernel
theorem dX11_comesFirst_46 : decode cX11_comesFirst 46 = .ok (.iadd, 1) := by decide +kernel
theorem dX11_comesFirst_47 : decode cX11_comesFirst 47 = .ok (.aload_n 0, 1) := by decide +kernel
theorem dX11_comesFirst_48 : decode cX11_comesFirst 48 = .ok (.getfield 7, 3) := by decide +kernel
theorem dX11_comesFirst_51 : decode cX11_comesFirst 51 = .ok (.bipush 36, 2) := by decide +kernel
theorem dX11_comesFirst_53 : decode cX11_comesFirst 53 = .ok (.iconst 2, 1) := by decide +kernel
theorem dX11_comesFirst_54 : decode cX11_comesFirst 54 = .ok (.iload 4, 2) := by decide +kernel
theorem dX11_comesFirst_56 : decode cX11_comesFirst 56 = .ok (.imul, 1) := by decide +kernel
theorem dX11_comesFirst_57 : decode cX11_comesFirst 57 = .ok (.iadd, 1) := by decide +kernel
theorem dX11_comesFirst_58 : decode cX11_comesFirst 58 = .ok (.iconst 1, 1) := by decide +kernel
theorem dX11_comesFirst_59 : decode cX11_comesFirst 59 = .ok (.isub, 1) := by decide +kernel
theorem dX11_comesFirst_60 : decode cX11_comesFirst 60 = .ok (.iaload, 1) := by decide +kernel
theorem dX11_comesFirst_61 : decode cX11_comesFirst 61 = .ok (.iastore, 1) := by decide +kernel
theorem dX11_comesFirst_62 : decode cX11_comesFirst 62 = .ok (.iinc 4 (-1), 3) := by decide +kernel
theorem dX11_comesFirst_65 : decode cX11_comesFirst 65 = .ok (.goto (-62), 3) := by decide +kernel
theorem dX11_comesFirst_68 : decode cX11_comesFirst 68 = .ok (.aload_n 0, 1) := by decide +kernel
theorem dX11_comesFirst_69 : decode cX11_comesFirst 69 = .ok (.getfield 7, 3) := by decide +kernel
theorem dX11_comesFirst_72 : decode cX11_comesFirst 72 = .ok (.bipush 36, 2) := by decide +kernel
theorem dX11_comesFirst_74 : decode cX11_comesFirst 74 = .ok (.iload_n 1, 1) := by decide +kernel
theorem dX11_comesFirst_75 : decode cX11_comesFirst 75 = .ok (.iastore, 1) := by decide +kernel
theorem dX11_comesFirst_76 : decode cX11_comesFirst 76 = .ok (.aload_n 0, 1) := by decide +kernel
