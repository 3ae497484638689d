theorem dX5_init_0 : decode cX5_init 0 = .ok (.aload_n 0, 1) := by decide +kernel
theorem dX5_init_1 : decode cX5_init 1 = .ok (.invokespecial 3, 3) := by decide +kernel
theorem dX5_init_4 : decode cX5_init 4 = .ok (.return_, 1) := by decide +kernel
set_option maxRecDepth 20000 in
theorem ggX5_run_X8_readCommand : GoodIn wsX5_run wsX8_readCommand := goodIn_r _ [8, 9, 10, 11, 12, 13, 14, 15, 6, 16, 17, 18, 19, 20, 21, 22, 23, 24, 25, 26, 27, 28, 29, 30, 31, 32, 33, 34, 166, 167, 168, 169, 170, 171, 172] (by decide +kernel) (by decide +kernel)
set_option maxRecDepth 20000 in
theorem gX5_run_X8_readCommand_n29 : GoodIn wsX5_run (wsX8_readCommand) := ggX5_run_X8_readCommand
set_option maxRecDepth 20000 in
theorem ggX5_run_X5_perform : GoodIn wsX5_run wsX5_perform := goodIn_r _ [39, 40, 41, 42, 38, 43, 44, 24, 45, 46, 47, 48, 49, 3, 4, 50, 51, 52, 53, 54, 55, 56, 57, 58, 59, 60, 61, 62, 63, 64, 65, 66, 67, 68, 69, 70, 71, 72, 73, 74, 75, 76, 77, 78, 79, 80, 81, 82, 83, 84, 85, 86, 87, 88, 89, 90, 91, 92, 93, 94, 95, 96, 97, 98, 99, 100, 101, 102, 103, 104, 105, 106, 107, 108, 109, 110, 111, 112, 113, 114, 115, 116, 117, 118, 119, 120, 121, 122, 123, 124, 125, 126, 127, 128, 129, 130, 131, 132, 133, 134, 135, 136, 137, 138, 139, 140, 141, 142, 143, 144, 145, 146, 147, 148, 149, 150, 151, 152, 153, 154, 155, 156, 157, 158, 159, 160, 161, 166, 167, 168, 169, 170, 171, 172, 173, 174, 175, 176, 177, 178, 162, 163, 164, 165, 179, 180, 181, 182, 183, 184, 185, 186, 187, 188, 189, 190, 191, 192] (by decide +kernel) (by decide +kernel)
set_option maxRecDepth 20000 in
theorem gX5_run_X5_perform : GoodIn wsX5_run (wsV RX5 33 RX5 yX5_perform wsX5_perform) := goodIn_app (goodIn_of _ (by decide +kernel)) ggX5_run_X5_perform
set_option maxRecDepth 20000 in
theorem ggX5_run_X5_failWith : GoodIn wsX5_run wsX5_failWith := goodIn_r _ [49, 3, 4, 162, 163, 164, 165] (by decide +kernel) (by decide +kernel)
set_option maxRecDepth 20000 in
theorem gX5_run_X5_failWith : GoodIn wsX5_run (wsV RX5 40 RX5 yX5_failWith wsX5_failWith) := goodIn_app (goodIn_of _ (by decide +kernel)) ggX5_run_X5_failWith
theorem dX5_run_0 : decode cX5_run 0 = .ok (.aload_n 0, 1) := by decide +kernel
theorem dX5_run_1 : decode cX5_run 1 = .ok (.iconst 0, 1) := by decide +kernel
theorem dX5_run_2 : decode cX5_run 2 = .ok (.putfield 9, 3) := by decide +kernel
theorem dX5_run_5 : decode cX5_run 5 = .ok (.aload_n 0, 1) := by decide +kernel
theorem dX5_run_6 : decode cX5_run 6 = .ok (.iconst 0, 1) := by decide +kernel
theorem dX5_run_7 : decode cX5_run 7 = .ok (.putfield 15, 3) := by decide +kernel
theorem dX5_run_10 : decode cX5_run 10 = .ok (.aload_n 0, 1) := by decide +kernel
theorem dX5_run_11 : decode cX5_run 11 = .ok (.iconst 0, 1) := by decide +kernel
theorem dX5_run_12 : decode cX5_run 12 = .ok (.putfield 18, 3) := by decide +kernel
theorem dX5_run_15 : decode cX5_run 15 = .ok (.aload_n 0, 1) := by decide +kernel
theorem dX5_run_16 : decode cX5_run 16 = .ok (.iconst 0, 1) := by decide +kernel
theorem dX5_run_17 : decode cX5_run 17 = .ok (.putfield 21, 3) := by decide +kernel
theorem dX5_run_20 : decode cX5_run 20 = .ok (.iconst 0, 1) := by decide +kernel
theorem dX5_run_21 : decode cX5_run 21 = .ok (.istore 4, 2) := by decide +kernel
theorem dX5_run_23 : decode cX5_run 23 = .ok (.iload 4, 2) := by decide +kernel
theorem dX5_run_25 : decode cX5_run 25 = .ok (.bipush 80, 2) := by decide +kernel
theorem dX5_run_27 : decode cX5_run 27 = .ok (.if_icmp .ge 81, 3) := by decide +kernel
theorem dX5_run_30 : decode cX5_run 30 = .ok (.aload_n 0, 1) := by decide +kernel
theorem dX5_run_31 : decode cX5_run 31 = .ok (.getfield 15, 3) := by decide +kernel
theorem dX5_run_34 : decode cX5_run 34 = .ok (.aload_n 1, 1) := by decide +kernel
theorem dX5_run_35 : decode cX5_run 35 = .ok (.getfield 24, 3) := by decide +kernel
theorem dX5_run_38 : decode cX5_run 38 = .ok (.if_icmp .ge 70, 3) := by decide +kernel
theorem dX5_run_41 : decode cX5_run 41 = .ok (.aload_n 1, 1) := by decide +kernel
theorem dX5_run_42 : decode cX5_run 42 = .ok (.aload_n 0, 1) := by decide +kernel
theorem dX5_run_43 : decode cX5_run 43 = .ok (.getfield 15, 3) := by decide +kernel
theorem dX5_run_46 : decode cX5_run 46 = .ok (.invokevirtual 29, 3) := by decide +kernel
theorem dX5_run_49 : decode cX5_run 49 = .ok (.ifCond .eq 13, 3) := by decide +kernel
theorem dX5_run_52 : decode cX5_run 52 = .ok (.aload_n 0, 1) := by decide +kernel
theorem dX5_run_53 : decode cX5_run 53 = .ok (.aload_n 1, 1) := by decide +kernel
theorem dX5_run_54 : decode cX5_run 54 = .ok (.aload_n 2, 1) := by decide +kernel
theorem dX5_run_55 : decode cX5_run 55 = .ok (.aload_n 3, 1) := by decide +kernel
theorem dX5_run_56 : decode cX5_run 56 = .ok (.invokevirtual 33, 3) := by decide +kernel
theorem dX5_run_59 : decode cX5_run 59 = .ok (.goto 17, 3) := by decide +kernel
theorem dX5_run_62 : decode cX5_run 62 = .ok (.aload_n 0, 1) := by decide +kernel
theorem dX5_run_63 : decode cX5_run 63 = .ok (.iconst 1, 1) := by decide +kernel
theorem dX5_run_64 : decode cX5_run 64 = .ok (.aload_n 1, 1) := by decide +kernel
theorem dX5_run_65 : decode cX5_run 65 = .ok (.getfield 37, 3) := by decide +kernel
theorem dX5_run_68 : decode cX5_run 68 = .ok (.aload_n 0, 1) := by decide +kernel
theorem dX5_run_69 : decode cX5_run 69 = .ok (.getfield 15, 3) := by decide +kernel
theorem dX5_run_72 : decode cX5_run 72 = .ok (.isub, 1) := by decide +kernel
theorem dX5_run_73 : decode cX5_run 73 = .ok (.invokevirtual 40, 3) := by decide +kernel
theorem dX5_run_76 : decode cX5_run 76 = .ok (.aload_n 0, 1) := by decide +kernel
theorem dX5_run_77 : decode cX5_run 77 = .ok (.getfield 18, 3) := by decide +kernel
theorem dX5_run_80 : decode cX5_run 80 = .ok (.ifCond .eq 4, 3) := by decide +kernel
theorem dX5_run_83 : decode cX5_run 83 = .ok (.return_, 1) := by decide +kernel
theorem dX5_run_84 : decode cX5_run 84 = .ok (.aload_n 0, 1) := by decide +kernel
theorem dX5_run_85 : decode cX5_run 85 = .ok (.dup, 1) := by decide +kernel
theorem dX5_run_86 : decode cX5_run 86 = .ok (.getfield 9, 3) := by decide +kernel
theorem dX5_run_89 : decode cX5_run 89 = .ok (.iconst 1, 1) := by decide +kernel
theorem dX5_run_90 : decode cX5_run 90 = .ok (.iadd, 1) := by decide +kernel
theorem dX5_run_91 : decode cX5_run 91 = .ok (.putfield 9, 3) := by decide +kernel
theorem dX5_run_94 : decode cX5_run 94 = .ok (.aload_n 0, 1) := by decide +kernel
theorem dX5_run_95 : decode cX5_run 95 = .ok (.aload_n 1, 1) := by decide +kernel
theorem dX5_run_96 : decode cX5_run 96 = .ok (.getfield 37, 3) := by decide +kernel
theorem dX5_run_99 : decode cX5_run 99 = .ok (.putfield 15, 3) := by decide +kernel
theorem dX5_run_102 : decode cX5_run 102 = .ok (.iinc 4 1, 3) := by decide +kernel
theorem dX5_run_105 : decode cX5_run 105 = .ok (.goto (-82), 3) := by decide +kernel
theorem dX5_run_108 : decode cX5_run 108 = .ok (.return_, 1) := by decide +kernel
theorem dX5_failWith_0 : decode cX5_failWith 0 = .ok (.aload_n 0, 1) := by decide +kernel
theorem dX5_failWith_1 : decode cX5_failWith 1 = .ok (.iload_n 1, 1) := by decide +kernel
theorem dX5_failWith_2 : decode cX5_failWith 2 = .ok (.putfield 18, 3) := by decide +kernel
theorem dX5_failWith_5 : decode cX5_failWith 5 = .ok (.aload_n 0, 1) := by decide +kernel
theorem dX5_failWith_6 : decode cX5_failWith 6 = .ok (.iload_n 2, 1) := by decide +kernel
theorem dX5_failWith_7 : decode cX5_failWith 7 = .ok (.putfield 21, 3) := by decide +kernel
theorem dX5_failWith_10 : decode cX5_failWith 10 = .ok (.return_, 1) := by decide +kernel
set_option maxRecDepth 20000 in
theorem ggX5_perform_X5_addRule : GoodIn wsX5_perform wsX5_addRule := goodIn_r _ [5, 6, 7, 8, 9, 10, 11, 4, 12, 13, 14, 15, 16, 17, 18, 19, 20, 21, 22, 23, 24, 25, 26, 27, 28, 29, 30, 31, 32, 33, 34, 35, 36, 37, 134, 135, 136, 137, 138, 139, 140, 141, 142, 143, 144, 145, 146, 147, 148, 149, 150, 151, 152] (by decide +kernel) (by decide +kernel)
set_option maxRecDepth 20000 in
theorem gX5_perform_X5_addRule : GoodIn wsX5_perform (wsV RX5 53 RX5 yX5_addRule wsX5_addRule) := goodIn_app (goodIn_of _ (by decide +kernel)) ggX5_perform_X5_addRule
set_option maxRecDepth 20000 in
theorem ggX5_perform_X5_removeRule : GoodIn wsX5_perform wsX5_removeRule := goodIn_r _ [41, 42, 16, 43, 44, 19, 45, 26, 46, 47, 29, 30, 48, 49, 50, 20, 21, 34, 35, 36, 51, 9, 10, 11, 4, 12, 13, 14, 134, 135, 136, 137, 138, 139, 144, 145, 146, 147, 148, 149, 150, 151, 152, 140, 141, 142, 143] (by decide +kernel) (by decide +kernel)
set_option maxRecDepth 20000 in
theorem gX5_perform_X5_removeRule : GoodIn wsX5_perform (wsV RX5 60 RX5 yX5_removeRule wsX5_removeRule) := goodIn_app (goodIn_of _ (by decide +kernel)) ggX5_perform_X5_removeRule
set_option maxRecDepth 20000 in
theorem ggX5_perform_X5_setWord : GoodIn wsX5_perform wsX5_setWord := goodIn_r _ [55, 6, 7, 8, 9, 10, 11, 4, 12, 13, 14, 134, 135, 136, 137, 138, 139, 140, 141, 142, 143] (by decide +kernel) (by decide +kernel)
set_option maxRecDepth 20000 in
theorem gX5_perform_X5_setWord : GoodIn wsX5_perform (wsV RX5 64 RX5 yX5_setWord wsX5_setWord) := goodIn_app (goodIn_of _ (by decide +kernel)) ggX5_perform_X5_setWord
set_option maxRecDepth 20000 in
theorem ggX5_perform_X6_takeStep : GoodIn wsX5_perform wsX6_takeStep := goodIn_r _ [58, 29, 59, 60, 61, 62, 63, 16, 64, 65, 19, 6, 7, 8, 66, 67, 68, 69, 34, 20, 70, 71, 72, 73, 74, 75, 76, 21, 35, 77, 78, 134, 135, 136, 137, 138, 139, 144, 145, 146, 147, 148, 149] (by decide +kernel) (by decide +kernel)
set_option maxRecDepth 20000 in
theorem gX5_perform_X6_takeStep_n67 : GoodIn wsX5_perform (wsX6_takeStep) := ggX5_perform_X6_takeStep
set_option maxRecDepth 20000 in
theorem ggX5_perform_X5_failWith : GoodIn wsX5_perform wsX5_failWith := goodIn_r _ [12, 13, 14, 140, 141, 142, 143] (by decide +kernel) (by decide +kernel)
set_option maxRecDepth 20000 in
theorem gX5_perform_X5_failWith : GoodIn wsX5_perform (wsV RX5 40 RX5 yX5_failWith wsX5_failWith) := goodIn_app (goodIn_of _ (by decide +kernel)) ggX5_perform_X5_failWith
set_option maxRecDepth 20000 in
theorem ggX5_perform_X6_reduce : GoodIn wsX5_perform wsX6_reduce := goodIn_r _ [81, 30, 59, 82, 29, 60, 61, 83, 62, 84, 85, 86, 87, 88, 89, 90, 91, 92, 93, 94, 95, 96, 97, 98, 99, 100, 101, 102, 103, 104, 105, 106, 107, 108, 109, 110, 63, 16, 64, 65, 19, 6, 7, 8, 66, 67, 68, 69, 34, 20, 70, 71, 72, 73, 74, 75, 76, 21, 35, 77, 78, 111, 112, 113, 114, 115, 116, 117, 118, 119, 134, 135, 136, 137, 138, 139, 153, 154, 155, 156, 157, 150, 151, 152, 144, 145, 146, 147, 148, 149] (by decide +kernel) (by decide +kernel)
set_option maxRecDepth 20000 in
theorem gX5_perform_X6_reduce_n73 : GoodIn wsX5_perform (wsX6_reduce) := ggX5_perform_X6_reduce
set_option maxRecDepth 20000 in
theorem ggX5_perform_X5_setChoosing : GoodIn wsX5_perform wsX5_setChoosing := goodIn_r _ [123, 124, 26, 125, 126, 60, 30, 9, 10, 11, 4, 12, 13, 14, 134, 135, 136, 137, 138, 139, 150, 151, 152, 140, 141, 142, 143] (by decide +kernel) (by decide +kernel)
set_option maxRecDepth 20000 in
theorem gX5_perform_X5_setChoosing : GoodIn wsX5_perform (wsV RX5 77 RX5 yX5_setChoosing wsX5_setChoosing) := goodIn_app (goodIn_of _ (by decide +kernel)) ggX5_perform_X5_setChoosing
theorem dX5_perform_0 : decode cX5_perform 0 = .ok (.aload_n 1, 1) := by decide +kernel
theorem dX5_perform_1 : decode cX5_perform 1 = .ok (.getfield 44, 3) := by decide +kernel
theorem dX5_perform_4 : decode cX5_perform 4 = .ok (.lookupswitch 125 #[(43, 52), (45, 68), (61, 80), (110, 108), (115, 92)], 52) := by decide +kernel
theorem dX5_perform_56 : decode cX5_perform 56 = .ok (.aload_n 0, 1) := by decide +kernel
theorem dX5_perform_57 : decode cX5_perform 57 = .ok (.aload_n 1, 1) := by decide +kernel
theorem dX5_perform_58 : decode cX5_perform 58 = .ok (.getfield 47, 3) := by decide +kernel
theorem dX5_perform_61 : decode cX5_perform 61 = .ok (.aload_n 1, 1) := by decide +kernel
theorem dX5_perform_62 : decode cX5_perform 62 = .ok (.getfield 50, 3) := by decide +kernel
theorem dX5_perform_65 : decode cX5_perform 65 = .ok (.aload_n 2, 1) := by decide +kernel
theorem dX5_perform_66 : decode cX5_perform 66 = .ok (.invokevirtual 53, 3) := by decide +kernel
theorem dX5_perform_69 : decode cX5_perform 69 = .ok (.goto 69, 3) := by decide +kernel
theorem dX5_perform_72 : decode cX5_perform 72 = .ok (.aload_n 0, 1) := by decide +kernel
theorem dX5_perform_73 : decode cX5_perform 73 = .ok (.aload_n 1, 1) := by decide +kernel
theorem dX5_perform_74 : decode cX5_perform 74 = .ok (.getfield 57, 3) := by decide +kernel
theorem dX5_perform_77 : decode cX5_perform 77 = .ok (.aload_n 2, 1) := by decide +kernel
theorem dX5_perform_78 : decode cX5_perform 78 = .ok (.invokevirtual 60, 3) := by decide +kernel
theorem dX5_perform_81 : decode cX5_perform 81 = .ok (.goto 57, 3) := by decide +kernel
theorem dX5_perform_84 : decode cX5_perform 84 = .ok (.aload_n 0, 1) := by decide +kernel
theorem dX5_perform_85 : decode cX5_perform 85 = .ok (.aload_n 1, 1) := by decide +kernel
theorem dX5_perform_86 : decode cX5_perform 86 = .ok (.getfield 47, 3) := by decide +kernel
theorem dX5_perform_89 : decode cX5_perform 89 = .ok (.aload_n 2, 1) := by decide +kernel
theorem dX5_perform_90 : decode cX5_perform 90 = .ok (.invokevirtual 64, 3) := by decide +kernel
theorem dX5_perform_93 : decode cX5_perform 93 = .ok (.goto 45, 3) := by decide +kernel
theorem dX5_perform_96 : decode cX5_perform 96 = .ok (.aload_n 2, 1) := by decide +kernel
theorem dX5_perform_97 : decode cX5_perform 97 = .ok (.invokevirtual 67, 3) := by decide +kernel
theorem dX5_perform_100 : decode cX5_perform 100 = .ok (.ifCond .ge 38, 3) := by decide +kernel
theorem dX5_perform_103 : decode cX5_perform 103 = .ok (.aload_n 0, 1) := by decide +kernel
theorem dX5_perform_104 : decode cX5_perform 104 = .ok (.iconst 3, 1) := by decide +kernel
theorem dX5_perform_105 : decode cX5_perform 105 = .ok (.iconst 4, 1) := by decide +kernel
theorem dX5_perform_106 : decode cX5_perform 106 = .ok (.invokevirtual 40, 3) := by decide +kernel
theorem dX5_perform_109 : decode cX5_perform 109 = .ok (.goto 29, 3) := by decide +kernel
theorem dX5_perform_112 : decode cX5_perform 112 = .ok (.aload_n 2, 1) := by decide +kernel
theorem dX5_perform_113 : decode cX5_perform 113 = .ok (.aload_n 3, 1) := by decide +kernel
theorem dX5_perform_114 : decode cX5_perform 114 = .ok (.invokevirtual 73, 3) := by decide +kernel
theorem dX5_perform_117 : decode cX5_perform 117 = .ok (.ifCond .ge 21, 3) := by decide +kernel
theorem dX5_perform_120 : decode cX5_perform 120 = .ok (.aload_n 0, 1) := by decide +kernel
theorem dX5_perform_121 : decode cX5_perform 121 = .ok (.iconst 3, 1) := by decide +kernel
theorem dX5_perform_122 : decode cX5_perform 122 = .ok (.iconst 5, 1) := by decide +kernel
theorem dX5_perform_123 : decode cX5_perform 123 = .ok (.invokevirtual 40, 3) := by decide +kernel
theorem dX5_perform_126 : decode cX5_perform 126 = .ok (.goto 12, 3) := by decide +kernel
theorem dX5_perform_129 : decode cX5_perform 129 = .ok (.aload_n 0, 1) := by decide +kernel
theorem dX5_perform_130 : decode cX5_perform 130 = .ok (.aload_n 1, 1) := by decide +kernel
theorem dX5_perform_131 : decode cX5_perform 131 = .ok (.getfield 57, 3) := by decide +kernel
theorem dX5_perform_134 : decode cX5_perform 134 = .ok (.aload_n 2, 1) := by decide +kernel
theorem dX5_perform_135 : decode cX5_perform 135 = .ok (.invokevirtual 77, 3) := by decide +kernel
theorem dX5_perform_138 : decode cX5_perform 138 = .ok (.return_, 1) := by decide +kernel
set_option maxRecDepth 20000 in
theorem ggX5_addRule_X9_lengthOf : GoodIn wsX5_addRule wsX9_lengthOf := goodIn_r _ [3] (by decide +kernel) (by decide +kernel)
set_option maxRecDepth 20000 in
theorem gX5_addRule_X9_lengthOf_n80 : GoodIn wsX5_addRule (wsX9_lengthOf) := ggX5_addRule_X9_lengthOf
set_option maxRecDepth 20000 in
theorem ggX5_addRule_X5_failWith : GoodIn wsX5_addRule wsX5_failWith := goodIn_r _ [8, 9, 10, 40, 41, 42, 43] (by decide +kernel) (by decide +kernel)
set_option maxRecDepth 20000 in
theorem gX5_addRule_X5_failWith : GoodIn wsX5_addRule (wsV RX5 40 RX5 yX5_failWith wsX5_failWith) := goodIn_app (goodIn_of _ (by decide +kernel)) ggX5_addRule_X5_failWith
set_option maxRecDepth 20000 in
theorem ggX5_addRule_X4_hasSides : GoodIn wsX5_addRule wsX4_hasSides := goodIn_r _ [14, 15, 16, 17, 44, 45, 46, 47, 48, 49] (by decide +kernel) (by decide +kernel)
set_option maxRecDepth 20000 in
theorem gX5_addRule_X4_hasSides_n90 : GoodIn wsX5_addRule (wsX4_hasSides) := ggX5_addRule_X4_hasSides
set_option maxRecDepth 20000 in
theorem ggX5_addRule_X4_isFull : GoodIn wsX5_addRule wsX4_isFull := goodIn_r _ [20, 15, 44, 45, 46, 47, 48, 49] (by decide +kernel) (by decide +kernel)
set_option maxRecDepth 20000 in
theorem gX5_addRule_X4_isFull_n96 : GoodIn wsX5_addRule (wsX4_isFull) := ggX5_addRule_X4_isFull
set_option maxRecDepth 20000 in
theorem ggX5_addRule_X6_addRule : GoodIn wsX5_addRule wsX6_addRule := goodIn_r _ [24, 25, 26, 27, 12, 28, 29, 16, 15, 17, 30, 31, 32, 33, 18, 19, 20, 1, 2, 3, 34, 35, 36, 37, 38, 39, 50, 51, 52, 44, 45, 46, 47, 48, 49] (by decide +kernel) (by decide +kernel)
set_option maxRecDepth 20000 in
theorem gX5_addRule_X6_addRule_n100 : GoodIn wsX5_addRule (wsX6_addRule) := ggX5_addRule_X6_addRule
theorem dX5_addRule_0 : decode cX5_addRule 0 = .ok (.iload_n 1, 1) := by decide +kernel
theorem dX5_addRule_1 : decode cX5_addRule 1 = .ok (.invokestatic 80, 3) := by decide +kernel
theorem dX5_addRule_4 : decode cX5_addRule 4 = .ok (.istore 4, 2) := by decide +kernel
theorem dX5_addRule_6 : decode cX5_addRule 6 = .ok (.iload_n 2, 1) := by decide +kernel
theorem dX5_addRule_7 : decode cX5_addRule 7 = .ok (.invokestatic 80, 3) := by decide +kernel
theorem dX5_addRule_10 : decode cX5_addRule 10 = .ok (.istore 5, 2) := by decide +kernel
theorem dX5_addRule_12 : decode cX5_addRule 12 = .ok (.iload 4, 2) := by decide +kernel
theorem dX5_addRule_14 : decode cX5_addRule 14 = .ok (.ifCond .eq 15, 3) := by decide +kernel
theorem dX5_addRule_17 : decode cX5_addRule 17 = .ok (.iload 4, 2) := by decide +kernel
theorem dX5_addRule_19 : decode cX5_addRule 19 = .ok (.iconst 4, 1) := by decide +kernel
theorem dX5_addRule_20 : decode cX5_addRule 20 = .ok (.if_icmp .gt 9, 3) := by decide +kernel
theorem dX5_addRule_23 : decode cX5_addRule 23 = .ok (.iload 5, 2) := by decide +kernel
theorem dX5_addRule_25 : decode cX5_addRule 25 = .ok (.iconst 4, 1) := by decide +kernel
theorem dX5_addRule_26 : decode cX5_addRule 26 = .ok (.if_icmp .le 12, 3) := by decide +kernel
theorem dX5_addRule_29 : decode cX5_addRule 29 = .ok (.aload_n 0, 1) := by decide +kernel
theorem dX5_addRule_30 : decode cX5_addRule 30 = .ok (.iconst 2, 1) := by decide +kernel
theorem dX5_addRule_31 : decode cX5_addRule 31 = .ok (.iconst 0, 1) := by decide +kernel
theorem dX5_addRule_32 : decode cX5_addRule 32 = .ok (.invokevirtual 40, 3) := by decide +kernel
theorem dX5_addRule_35 : decode cX5_addRule 35 = .ok (.goto 70, 3) := by decide +kernel
theorem dX5_addRule_38 : decode cX5_addRule 38 = .ok (.iload 5, 2) := by decide +kernel
theorem dX5_addRule_40 : decode cX5_addRule 40 = .ok (.iload 4, 2) := by decide +kernel
theorem dX5_addRule_42 : decode cX5_addRule 42 = .ok (.if_icmp .gt 8, 3) := by decide +kernel
theorem dX5_addRule_45 : decode cX5_addRule 45 = .ok (.iload_n 1, 1) := by decide +kernel
theorem dX5_addRule_46 : decode cX5_addRule 46 = .ok (.iload_n 2, 1) := by decide +kernel
theorem dX5_addRule_47 : decode cX5_addRule 47 = .ok (.if_icmp .ne 12, 3) := by decide +kernel
theorem dX5_addRule_50 : decode cX5_addRule 50 = .ok (.aload_n 0, 1) := by decide +kernel
theorem dX5_addRule_51 : decode cX5_addRule 51 = .ok (.iconst 3, 1) := by decide +kernel
theorem dX5_addRule_52 : decode cX5_addRule 52 = .ok (.iconst 1, 1) := by decide +kernel
theorem dX5_addRule_53 : decode cX5_addRule 53 = .ok (.invokevirtual 40, 3) := by decide +kernel
theorem dX5_addRule_56 : decode cX5_addRule 56 = .ok (.goto 49, 3) := by decide +kernel
theorem dX5_addRule_59 : decode cX5_addRule 59 = .ok (.aload_n 3, 1) := by decide +kernel
theorem dX5_addRule_60 : decode cX5_addRule 60 = .ok (.getfield 86, 3) := by decide +kernel
theorem dX5_addRule_63 : decode cX5_addRule 63 = .ok (.iload_n 1, 1) := by decide +kernel
theorem dX5_addRule_64 : decode cX5_addRule 64 = .ok (.iload_n 2, 1) := by decide +kernel
theorem dX5_addRule_65 : decode cX5_addRule 65 = .ok (.invokevirtual 90, 3) := by decide +kernel
theorem dX5_addRule_68 : decode cX5_addRule 68 = .ok (.ifCond .eq 12, 3) := by decide +kernel
theorem dX5_addRule_71 : decode cX5_addRule 71 = .ok (.aload_n 0, 1) := by decide +kernel
theorem dX5_addRule_72 : decode cX5_addRule 72 = .ok (.iconst 3, 1) := by decide +kernel
theorem dX5_addRule_73 : decode cX5_addRule 73 = .ok (.iconst 2, 1) := by decide +kernel
theorem dX5_addRule_74 : decode cX5_addRule 74 = .ok (.invokevirtual 40, 3) := by decide +kernel
theorem dX5_addRule_77 : decode cX5_addRule 77 = .ok (.goto 28, 3) := by decide +kernel
theorem dX5_addRule_80 : decode cX5_addRule 80 = .ok (.aload_n 3, 1) := by decide +kernel
theorem dX5_addRule_81 : decode cX5_addRule 81 = .ok (.getfield 86, 3) := by decide +kernel
theorem dX5_addRule_84 : decode cX5_addRule 84 = .ok (.invokevirtual 96, 3) := by decide +kernel
theorem dX5_addRule_87 : decode cX5_addRule 87 = .ok (.ifCond .eq 12, 3) := by decide +kernel
theorem dX5_addRule_90 : decode cX5_addRule 90 = .ok (.aload_n 0, 1) := by decide +kernel
theorem dX5_addRule_91 : decode cX5_addRule 91 = .ok (.iconst 3, 1) := by decide +kernel
theorem dX5_addRule_92 : decode cX5_addRule 92 = .ok (.iconst 3, 1) := by decide +kernel
theorem dX5_addRule_93 : decode cX5_addRule 93 = .ok (.invokevirtual 40, 3) := by decide +kernel
theorem dX5_addRule_96 : decode cX5_addRule 96 = .ok (.goto 9, 3) := by decide +kernel
theorem dX5_addRule_99 : decode cX5_addRule 99 = .ok (.aload_n 3, 1) := by decide +kernel
theorem dX5_addRule_100 : decode cX5_addRule 100 = .ok (.iload_n 1, 1) := by decide +kernel
theorem dX5_addRule_101 : decode cX5_addRule 101 = .ok (.iload_n 2, 1) := by decide +kernel
theorem dX5_addRule_102 : decode cX5_addRule 102 = .ok (.invokevirtual 100, 3) := by decide +kernel
theorem dX5_addRule_105 : decode cX5_addRule 105 = .ok (.return_, 1) := by decide +kernel
set_option maxRecDepth 20000 in
theorem ggX5_removeRule_X4_contains : GoodIn wsX5_removeRule wsX4_contains := goodIn_r _ [4, 5, 34, 35, 36, 37, 38, 39] (by decide +kernel) (by decide +kernel)
set_option maxRecDepth 20000 in
theorem gX5_removeRule_X4_contains_n102 : GoodIn wsX5_removeRule (wsX4_contains) := ggX5_removeRule_X4_contains
set_option maxRecDepth 20000 in
theorem ggX5_removeRule_X6_removeRule : GoodIn wsX5_removeRule wsX6_removeRule := goodIn_r _ [9, 10, 11, 12, 2, 13, 14, 5, 15, 16, 17, 18, 19, 20, 1, 3, 4, 28, 29, 30, 31, 32, 33, 40, 41, 42, 34, 35, 36, 37, 38, 39] (by decide +kernel) (by decide +kernel)
set_option maxRecDepth 20000 in
theorem gX5_removeRule_X6_removeRule_n105 : GoodIn wsX5_removeRule (wsX6_removeRule) := ggX5_removeRule_X6_removeRule
set_option maxRecDepth 20000 in
theorem ggX5_removeRule_X5_failWith : GoodIn wsX5_removeRule wsX5_failWith := goodIn_r _ [25, 26, 27, 43, 44, 45, 46] (by decide +kernel) (by decide +kernel)
set_option maxRecDepth 20000 in
theorem gX5_removeRule_X5_failWith : GoodIn wsX5_removeRule (wsV RX5 40 RX5 yX5_failWith wsX5_failWith) := goodIn_app (goodIn_of _ (by decide +kernel)) ggX5_removeRule_X5_failWith
theorem dX5_removeRule_0 : decode cX5_removeRule 0 = .ok (.aload_n 2, 1) := by decide +kernel
theorem dX5_removeRule_1 : decode cX5_removeRule 1 = .ok (.getfield 86, 3) := by decide +kernel
theorem dX5_removeRule_4 : decode cX5_removeRule 4 = .ok (.iload_n 1, 1) := by decide +kernel
theorem dX5_removeRule_5 : decode cX5_removeRule 5 = .ok (.invokevirtual 102, 3) := by decide +kernel
theorem dX5_removeRule_8 : decode cX5_removeRule 8 = .ok (.ifCond .eq 11, 3) := by decide +kernel
theorem dX5_removeRule_11 : decode cX5_removeRule 11 = .ok (.aload_n 2, 1) := by decide +kernel
theorem dX5_removeRule_12 : decode cX5_removeRule 12 = .ok (.iload_n 1, 1) := by decide +kernel
theorem dX5_removeRule_13 : decode cX5_removeRule 13 = .ok (.invokevirtual 105, 3) := by decide +kernel
theorem dX5_removeRule_16 : decode cX5_removeRule 16 = .ok (.goto 9, 3) := by decide +kernel
theorem dX5_removeRule_19 : decode cX5_removeRule 19 = .ok (.aload_n 0, 1) := by decide +kernel
theorem dX5_removeRule_20 : decode cX5_removeRule 20 = .ok (.iconst 2, 1) := by decide +kernel
theorem dX5_removeRule_21 : decode cX5_removeRule 21 = .ok (.iconst 0, 1) := by decide +kernel
theorem dX5_removeRule_22 : decode cX5_removeRule 22 = .ok (.invokevirtual 40, 3) := by decide +kernel
theorem dX5_removeRule_25 : decode cX5_removeRule 25 = .ok (.return_, 1) := by decide +kernel
set_option maxRecDepth 20000 in
theorem ggX5_setWord_X9_lengthOf : GoodIn wsX5_setWord wsX9_lengthOf := goodIn_r _ [3] (by decide +kernel) (by decide +kernel)
set_option maxRecDepth 20000 in
theorem gX5_setWord_X9_lengthOf_n80 : GoodIn wsX5_setWord (wsX9_lengthOf) := ggX5_setWord_X9_lengthOf
set_option maxRecDepth 20000 in
theorem ggX5_setWord_X5_failWith : GoodIn wsX5_setWord wsX5_failWith := goodIn_r _ [8, 9, 10, 17, 18, 19, 20] (by decide +kernel) (by decide +kernel)
set_option maxRecDepth 20000 in
theorem gX5_setWord_X5_failWith : GoodIn wsX5_setWord (wsV RX5 40 RX5 yX5_failWith wsX5_failWith) := goodIn_app (goodIn_of _ (by decide +kernel)) ggX5_setWord_X5_failWith
theorem dX5_setWord_0 : decode cX5_setWord 0 = .ok (.iload_n 1, 1) := by decide +kernel
theorem dX5_setWord_1 : decode cX5_setWord 1 = .ok (.invokestatic 80, 3) := by decide +kernel
theorem dX5_setWord_4 : decode cX5_setWord 4 = .ok (.bipush 12, 2) := by decide +kernel
theorem dX5_setWord_6 : decode cX5_setWord 6 = .ok (.if_icmp .gt 11, 3) := by decide +kernel
theorem dX5_setWord_9 : decode cX5_setWord 9 = .ok (.aload_n 2, 1) := by decide +kernel
theorem dX5_setWord_10 : decode cX5_setWord 10 = .ok (.iload_n 1, 1) := by decide +kernel
theorem dX5_setWord_11 : decode cX5_setWord 11 = .ok (.putfield 108, 3) := by decide +kernel
theorem dX5_setWord_14 : decode cX5_setWord 14 = .ok (.goto 9, 3) := by decide +kernel
theorem dX5_setWord_17 : decode cX5_setWord 17 = .ok (.aload_n 0, 1) := by decide +kernel
theorem dX5_setWord_18 : decode cX5_setWord 18 = .ok (.iconst 2, 1) := by decide +kernel
theorem dX5_setWord_19 : decode cX5_setWord 19 = .ok (.iconst 0, 1) := by decide +kernel
theorem dX5_setWord_20 : decode cX5_setWord 20 = .ok (.invokevirtual 40, 3) := by decide +kernel
theorem dX5_setWord_23 : decode cX5_setWord 23 = .ok (.return_, 1) := by decide +kernel
set_option maxRecDepth 20000 in
theorem ggX5_setChoosing_X6_setChoosing : GoodIn wsX5_setChoosing wsX6_setChoosing := goodIn_r _ [4, 5, 6, 14, 15, 16, 17, 18, 19, 20, 21, 22] (by decide +kernel) (by decide +kernel)
set_option maxRecDepth 20000 in
theorem gX5_setChoosing_X6_setChoosing_n111 : GoodIn wsX5_setChoosing (wsX6_setChoosing) := ggX5_setChoosing_X6_setChoosing
set_option maxRecDepth 20000 in
theorem ggX5_setChoosing_X5_failWith : GoodIn wsX5_setChoosing wsX5_failWith := goodIn_r _ [11, 12, 13, 23, 24, 25, 26] (by decide +kernel) (by decide +kernel)
set_option maxRecDepth 20000 in
theorem gX5_setChoosing_X5_failWith : GoodIn wsX5_setChoosing (wsV RX5 40 RX5 yX5_failWith wsX5_failWith) := goodIn_app (goodIn_of _ (by decide +kernel)) ggX5_setChoosing_X5_failWith
theorem dX5_setChoosing_0 : decode cX5_setChoosing 0 = .ok (.iload_n 1, 1) := by decide +kernel
theorem dX5_setChoosing_1 : decode cX5_setChoosing 1 = .ok (.iconst 2, 1) := by decide +kernel
theorem dX5_setChoosing_2 : decode cX5_setChoosing 2 = .ok (.if_icmp .gt 11, 3) := by decide +kernel
theorem dX5_setChoosing_5 : decode cX5_setChoosing 5 = .ok (.aload_n 2, 1) := by decide +kernel
theorem dX5_setChoosing_6 : decode cX5_setChoosing 6 = .ok (.iload_n 1, 1) := by decide +kernel
theorem dX5_setChoosing_7 : decode cX5_setChoosing 7 = .ok (.invokevirtual 111, 3) := by decide +kernel
theorem dX5_setChoosing_10 : decode cX5_setChoosing 10 = .ok (.goto 9, 3) := by decide +kernel
theorem dX5_setChoosing_13 : decode cX5_setChoosing 13 = .ok (.aload_n 0, 1) := by decide +kernel
theorem dX5_setChoosing_14 : decode cX5_setChoosing 14 = .ok (.iconst 2, 1) := by decide +kernel
theorem dX5_setChoosing_15 : decode cX5_setChoosing 15 = .ok (.iconst 0, 1) := by decide +kernel
theorem dX5_setChoosing_16 : decode cX5_setChoosing 16 = .ok (.invokevirtual 40, 3) := by decide +kernel
theorem dX5_setChoosing_19 : decode cX5_setChoosing 19 = .ok (.return_, 1) := by decide +kernel
set_option maxRecDepth 20000 in
theorem ggX6_init_X4_init : GoodIn wsX6_init wsX4_init := goodIn_r _ [15, 16, 2, 3, 17, 18, 19, 20, 21, 22, 28, 29, 30, 31, 32, 33] (by decide +kernel) (by decide +kernel)
set_option maxRecDepth 20000 in
theorem gX6_init_X4_init_n11 : GoodIn wsX6_init (wsX4_init) := ggX6_init_X4_init
set_option maxRecDepth 20000 in
theorem ggX6_init_X7_init : GoodIn wsX6_init wsX7_init := goodIn_r _ [24, 25, 2, 3, 17, 26, 27, 40, 41, 42] (by decide +kernel) (by decide +kernel)
set_option maxRecDepth 20000 in
theorem gX6_init_X7_init_n20 : GoodIn wsX6_init (wsX7_init) := ggX6_init_X7_init
theorem dX6_init_0 : decode cX6_init 0 = .ok (.aload_n 0, 1) := by decide +kernel
theorem dX6_init_1 : decode cX6_init 1 = .ok (.invokespecial 3, 3) := by decide +kernel
theorem dX6_init_4 : decode cX6_init 4 = .ok (.aload_n 0, 1) := by decide +kernel
theorem dX6_init_5 : decode cX6_init 5 = .ok (.new 9, 3) := by decide +kernel
theorem dX6_init_8 : decode cX6_init 8 = .ok (.dup, 1) := by decide +kernel
theorem dX6_init_9 : decode cX6_init 9 = .ok (.invokespecial 11, 3) := by decide +kernel
theorem dX6_init_12 : decode cX6_init 12 = .ok (.putfield 12, 3) := by decide +kernel
theorem dX6_init_15 : decode cX6_init 15 = .ok (.aload_n 0, 1) := by decide +kernel
theorem dX6_init_16 : decode cX6_init 16 = .ok (.new 18, 3) := by decide +kernel
theorem dX6_init_19 : decode cX6_init 19 = .ok (.dup, 1) := by decide +kernel
theorem dX6_init_20 : decode cX6_init 20 = .ok (.invokespecial 20, 3) := by decide +kernel
theorem dX6_init_23 : decode cX6_init 23 = .ok (.putfield 21, 3) := by decide +kernel
theorem dX6_init_26 : decode cX6_init 26 = .ok (.aload_n 0, 1) := by decide +kernel
theorem dX6_init_27 : decode cX6_init 27 = .ok (.iconst 1, 1) := by decide +kernel
theorem dX6_init_28 : decode cX6_init 28 = .ok (.putfield 27, 3) := by decide +kernel
theorem dX6_init_31 : decode cX6_init 31 = .ok (.aload_n 0, 1) := by decide +kernel
theorem dX6_init_32 : decode cX6_init 32 = .ok (.iconst 0, 1) := by decide +kernel
theorem dX6_init_33 : decode cX6_init 33 = .ok (.putfield 31, 3) := by decide +kernel
theorem dX6_init_36 : decode cX6_init 36 = .ok (.return_, 1) := by decide +kernel
set_option maxRecDepth 20000 in
theorem ggX6_takeOver_X4_takeOver : GoodIn wsX6_takeOver wsX4_takeOver := goodIn_r _ [10, 11, 12, 13, 14, 15, 16, 17, 18, 19, 20, 35, 36, 37, 38, 39, 40] (by decide +kernel) (by decide +kernel)
set_option maxRecDepth 20000 in
theorem gX6_takeOver_X4_takeOver_n34 : GoodIn wsX6_takeOver (wsX4_takeOver) := ggX6_takeOver_X4_takeOver
set_option maxRecDepth 20000 in
theorem ggX6_takeOver_X7_takeOver : GoodIn wsX6_takeOver wsX7_takeOver := goodIn_r _ [24, 25, 26, 13, 14, 15, 27, 28, 41, 42, 43] (by decide +kernel) (by decide +kernel)
set_option maxRecDepth 20000 in
theorem gX6_takeOver_X7_takeOver_n38 : GoodIn wsX6_takeOver (wsX7_takeOver) := ggX6_takeOver_X7_takeOver
theorem dX6_takeOver_0 : decode cX6_takeOver 0 = .ok (.aload_n 0, 1) := by decide +kernel
theorem dX6_takeOver_1 : decode cX6_takeOver 1 = .ok (.getfield 12, 3) := by decide +kernel
theorem dX6_takeOver_4 : decode cX6_takeOver 4 = .ok (.aload_n 1, 1) := by decide +kernel
theorem dX6_takeOver_5 : decode cX6_takeOver 5 = .ok (.getfield 12, 3) := by decide +kernel
theorem dX6_takeOver_8 : decode cX6_takeOver 8 = .ok (.invokevirtual 34, 3) := by decide +kernel
theorem dX6_takeOver_11 : decode cX6_takeOver 11 = .ok (.aload_n 0, 1) := by decide +kernel
theorem dX6_takeOver_12 : decode cX6_takeOver 12 = .ok (.getfield 21, 3) := by decide +kernel
theorem dX6_takeOver_15 : decode cX6_takeOver 15 = .ok (.aload_n 1, 1) := by decide +kernel
theorem dX6_takeOver_16 : decode cX6_takeOver 16 = .ok (.getfield 21, 3) := by decide +kernel
theorem dX6_takeOver_19 : decode cX6_takeOver 19 = .ok (.invokevirtual 38, 3) := by decide +kernel
theorem dX6_takeOver_22 : decode cX6_takeOver 22 = .ok (.aload_n 0, 1) := by decide +kernel
theorem dX6_takeOver_23 : decode cX6_takeOver 23 = .ok (.aload_n 1, 1) := by decide +kernel
theorem dX6_takeOver_24 : decode cX6_takeOver 24 = .ok (.getfield 27, 3) := by decide +kernel
theorem dX6_takeOver_27 : decode cX6_takeOver 27 = .ok (.putfield 27, 3) := by decide +kernel
theorem dX6_takeOver_30 : decode cX6_takeOver 30 = .ok (.aload_n 0, 1) := by decide +kernel
theorem dX6_takeOver_31 : decode cX6_takeOver 31 = .ok (.aload_n 1, 1) := by decide +kernel
theorem dX6_takeOver_32 : decode cX6_takeOver 32 = .ok (.getfield 31, 3) := by decide +kernel
theorem dX6_takeOver_35 : decode cX6_takeOver 35 = .ok (.putfield 31, 3) := by decide +kernel
theorem dX6_takeOver_38 : decode cX6_takeOver 38 = .ok (.aload_n 0, 1) := by decide +kernel
theorem dX6_takeOver_39 : decode cX6_takeOver 39 = .ok (.aload_n 1, 1) := by decide +kernel
theorem dX6_takeOver_40 : decode cX6_takeOver 40 = .ok (.getfield 41, 3) := by decide +kernel
theorem dX6_takeOver_43 : decode cX6_takeOver 43 = .ok (.putfield 41, 3) := by decide +kernel
theorem dX6_takeOver_46 : decode cX6_takeOver 46 = .ok (.aload_n 0, 1) := by decide +kernel
theorem dX6_takeOver_47 : decode cX6_takeOver 47 = .ok (.aload_n 1, 1) := by decide +kernel
theorem dX6_takeOver_48 : decode cX6_takeOver 48 = .ok (.getfield 44, 3) := by decide +kernel
theorem dX6_takeOver_51 : decode cX6_takeOver 51 = .ok (.putfield 44, 3) := by decide +kernel
theorem dX6_takeOver_54 : decode cX6_takeOver 54 = .ok (.return_, 1) := by decide +kernel
set_option maxRecDepth 20000 in
theorem ggX6_addRule_X4_add : GoodIn wsX6_addRule wsX4_add := goodIn_r _ [6, 7, 8, 9, 10, 11, 12, 13, 14, 15, 4, 16, 17, 18, 19, 29, 30, 31, 32, 33, 34] (by decide +kernel) (by decide +kernel)
set_option maxRecDepth 20000 in
theorem gX6_addRule_X4_add_n47 : GoodIn wsX6_addRule (wsX4_add) := ggX6_addRule_X4_add
theorem dX6_addRule_0 : decode cX6_addRule 0 = .ok (.aload_n 0, 1) := by decide +kernel
theorem dX6_addRule_1 : decode cX6_addRule 1 = .ok (.getfield 12, 3) := by decide +kernel
theorem dX6_addRule_4 : decode cX6_addRule 4 = .ok (.iload_n 1, 1) := by decide +kernel
theorem dX6_addRule_5 : decode cX6_addRule 5 = .ok (.iload_n 2, 1) := by decide +kernel
theorem dX6_addRule_6 : decode cX6_addRule 6 = .ok (.invokevirtual 47, 3) := by decide +kernel
theorem dX6_addRule_9 : decode cX6_addRule 9 = .ok (.aload_n 0, 1) := by decide +kernel
theorem dX6_addRule_10 : decode cX6_addRule 10 = .ok (.getfield 21, 3) := by decide +kernel
theorem dX6_addRule_13 : decode cX6_addRule 13 = .ok (.iconst 0, 1) := by decide +kernel
theorem dX6_addRule_14 : decode cX6_addRule 14 = .ok (.putfield 51, 3) := by decide +kernel
theorem dX6_addRule_17 : decode cX6_addRule 17 = .ok (.return_, 1) := by decide +kernel
set_option maxRecDepth 20000 in
theorem ggX6_removeRule_X4_remove : GoodIn wsX6_removeRule wsX4_remove := goodIn_r _ [6, 7, 8, 9, 10, 11, 12, 13, 14, 15, 4, 16, 26, 27, 28, 29, 30, 31] (by decide +kernel) (by decide +kernel)
set_option maxRecDepth 20000 in
theorem gX6_removeRule_X4_remove_n54 : GoodIn wsX6_removeRule (wsX4_remove) := ggX6_removeRule_X4_remove
theorem dX6_removeRule_0 : decode cX6_removeRule 0 = .ok (.aload_n 0, 1) := by decide +kernel
theorem dX6_removeRule_1 : decode cX6_removeRule 1 = .ok (.getfield 12, 3) := by decide +kernel
theorem dX6_removeRule_4 : decode cX6_removeRule 4 = .ok (.iload_n 1, 1) := by decide +kernel
theorem dX6_removeRule_5 : decode cX6_removeRule 5 = .ok (.invokevirtual 54, 3) := by decide +kernel
theorem dX6_removeRule_8 : decode cX6_removeRule 8 = .ok (.aload_n 0, 1) := by decide +kernel
theorem dX6_removeRule_9 : decode cX6_removeRule 9 = .ok (.getfield 21, 3) := by decide +kernel
theorem dX6_removeRule_12 : decode cX6_removeRule 12 = .ok (.iconst 0, 1) := by decide +kernel
theorem dX6_removeRule_13 : decode cX6_removeRule 13 = .ok (.putfield 51, 3) := by decide +kernel
theorem dX6_removeRule_16 : decode cX6_removeRule 16 = .ok (.return_, 1) := by decide +kernel
theorem dX6_setChoosing_0 : decode cX6_setChoosing 0 = .ok (.aload_n 0, 1) := by decide +kernel
theorem dX6_setChoosing_1 : decode cX6_setChoosing 1 = .ok (.iload_n 1, 1) := by decide +kernel
theorem dX6_setChoosing_2 : decode cX6_setChoosing 2 = .ok (.putfield 31, 3) := by decide +kernel
theorem dX6_setChoosing_5 : decode cX6_setChoosing 5 = .ok (.aload_n 0, 1) := by decide +kernel
theorem dX6_setChoosing_6 : decode cX6_setChoosing 6 = .ok (.getfield 21, 3) := by decide +kernel
theorem dX6_setChoosing_9 : decode cX6_setChoosing 9 = .ok (.iconst 0, 1) := by decide +kernel
theorem dX6_setChoosing_10 : decode cX6_setChoosing 10 = .ok (.putfield 51, 3) := by decide +kernel
theorem dX6_setChoosing_13 : decode cX6_setChoosing 13 = .ok (.return_, 1) := by decide +kernel
set_option maxRecDepth 20000 in
theorem ggX6_takeStep_X4_choiceFor : GoodIn wsX6_takeStep wsX4_choiceFor := goodIn_r _ [9, 10, 11, 12, 13, 14, 15, 16, 7, 17, 18, 19, 37, 38, 39, 40, 41, 42] (by decide +kernel) (by decide +kernel)
set_option maxRecDepth 20000 in
theorem gX6_takeStep_X4_choiceFor_n58 : GoodIn wsX6_takeStep (wsX4_choiceFor) := ggX6_takeStep_X4_choiceFor
set_option maxRecDepth 20000 in
theorem ggX6_takeStep_X4_ruleIn : GoodIn wsX6_takeStep wsX4_ruleIn := goodIn_r _ [21] (by decide +kernel) (by decide +kernel)
set_option maxRecDepth 20000 in
theorem gX6_takeStep_X4_ruleIn_n63 : GoodIn wsX6_takeStep (wsX4_ruleIn) := ggX6_takeStep_X4_ruleIn
set_option maxRecDepth 20000 in
theorem ggX6_takeStep_X4_placeIn : GoodIn wsX6_takeStep wsX4_placeIn := goodIn_r _ [23] (by decide +kernel) (by decide +kernel)
set_option maxRecDepth 20000 in
theorem gX6_takeStep_X4_placeIn_n67 : GoodIn wsX6_takeStep (wsX4_placeIn) := ggX6_takeStep_X4_placeIn
set_option maxRecDepth 20000 in
theorem ggX6_takeStep_X4_applied : GoodIn wsX6_takeStep wsX4_applied := goodIn_r _ [26, 27, 28, 18, 11, 12, 13, 29, 30, 37, 38, 39, 40, 41, 42] (by decide +kernel) (by decide +kernel)
set_option maxRecDepth 20000 in
theorem gX6_takeStep_X4_applied_n70 : GoodIn wsX6_takeStep (wsX4_applied) := ggX6_takeStep_X4_applied
theorem dX6_takeStep_0 : decode cX6_takeStep 0 = .ok (.aload_n 0, 1) := by decide +kernel
theorem dX6_takeStep_1 : decode cX6_takeStep 1 = .ok (.getfield 12, 3) := by decide +kernel
theorem dX6_takeStep_4 : decode cX6_takeStep 4 = .ok (.aload_n 0, 1) := by decide +kernel
theorem dX6_takeStep_5 : decode cX6_takeStep 5 = .ok (.getfield 27, 3) := by decide +kernel
theorem dX6_takeStep_8 : decode cX6_takeStep 8 = .ok (.aload_n 0, 1) := by decide +kernel
theorem dX6_takeStep_9 : decode cX6_takeStep 9 = .ok (.getfield 31, 3) := by decide +kernel
theorem dX6_takeStep_12 : decode cX6_takeStep 12 = .ok (.invokevirtual 58, 3) := by decide +kernel
theorem dX6_takeStep_15 : decode cX6_takeStep 15 = .ok (.istore_n 1, 1) := by decide +kernel
theorem dX6_takeStep_16 : decode cX6_takeStep 16 = .ok (.iload_n 1, 1) := by decide +kernel
theorem dX6_takeStep_17 : decode cX6_takeStep 17 = .ok (.ifCond .ge 6, 3) := by decide +kernel
theorem dX6_takeStep_20 : decode cX6_takeStep 20 = .ok (.ldc 62, 2) := by decide +kernel
theorem dX6_takeStep_22 : decode cX6_takeStep 22 = .ok (.ireturn, 1) := by decide +kernel
theorem dX6_takeStep_23 : decode cX6_takeStep 23 = .ok (.iload_n 1, 1) := by decide +kernel
theorem dX6_takeStep_24 : decode cX6_takeStep 24 = .ok (.invokestatic 63, 3) := by decide +kernel
theorem dX6_takeStep_27 : decode cX6_takeStep 27 = .ok (.istore_n 2, 1) := by decide +kernel
theorem dX6_takeStep_28 : decode cX6_takeStep 28 = .ok (.aload_n 0, 1) := by decide +kernel
theorem dX6_takeStep_29 : decode cX6_takeStep 29 = .ok (.aload_n 0, 1) := by decide +kernel
theorem dX6_takeStep_30 : decode cX6_takeStep 30 = .ok (.getfield 12, 3) := by decide +kernel
theorem dX6_takeStep_33 : decode cX6_takeStep 33 = .ok (.aload_n 0, 1) := by decide +kernel
theorem dX6_takeStep_34 : decode cX6_takeStep 34 = .ok (.getfield 27, 3) := by decide +kernel
theorem dX6_takeStep_37 : decode cX6_takeStep 37 = .ok (.iload_n 2, 1) := by decide +kernel
theorem dX6_takeStep_38 : decode cX6_takeStep 38 = .ok (.iload_n 1, 1) := by decide +kernel
theorem dX6_takeStep_39 : decode cX6_takeStep 39 = .ok (.invokestatic 67, 3) := by decide +kernel
theorem dX6_takeStep_42 : decode cX6_takeStep 42 = .ok (.invokevirtual 70, 3) := by decide +kernel
theorem dX6_takeStep_45 : decode cX6_takeStep 45 = .ok (.putfield 27, 3) := by decide +kernel
theorem dX6_takeStep_48 : decode cX6_takeStep 48 = .ok (.aload_n 0, 1) := by decide +kernel
theorem dX6_takeStep_49 : decode cX6_takeStep 49 = .ok (.getfield 12, 3) := by decide +kernel
theorem dX6_takeStep_52 : decode cX6_takeStep 52 = .ok (.getfield 74, 3) := by decide +kernel
theorem dX6_takeStep_55 : decode cX6_takeStep 55 = .ok (.iload_n 2, 1) := by decide +kernel
theorem dX6_takeStep_56 : decode cX6_takeStep 56 = .ok (.dup2, 1) := by decide +kernel
theorem dX6_takeStep_57 : decode cX6_takeStep 57 = .ok (.iaload, 1) := by decide +kernel
theorem dX6_takeStep_58 : decode cX6_takeStep 58 = .ok (.iconst 1, 1) := by decide +kernel
theorem dX6_takeStep_59 : decode cX6_takeStep 59 = .ok (.iadd, 1) := by decide +kernel
theorem dX6_takeStep_60 : decode cX6_takeStep 60 = .ok (.iastore, 1) := by decide +kernel
theorem dX6_takeStep_61 : decode cX6_takeStep 61 = .ok (.aload_n 0, 1) := by decide +kernel
theorem dX6_takeStep_62 : decode cX6_takeStep 62 = .ok (.dup, 1) := by decide +kernel
theorem dX6_takeStep_63 : decode cX6_takeStep 63 = .ok (.getfield 44, 3) := by decide +kernel
theorem dX6_takeStep_66 : decode cX6_takeStep 66 = .ok (.iconst 1, 1) := by decide +kernel
theorem dX6_takeStep_67 : decode cX6_takeStep 67 = .ok (.iadd, 1) := by decide +kernel
theorem dX6_takeStep_68 : decode cX6_takeStep 68 = .ok (.putfield 44, 3) := by decide +kernel
theorem dX6_takeStep_71 : decode cX6_takeStep 71 = .ok (.iload_n 2, 1) := by decide +kernel
theorem dX6_takeStep_72 : decode cX6_takeStep 72 = .ok (.ireturn, 1) := by decide +kernel
set_option maxRecDepth 20000 in
theorem ggX6_reduce_X7_indexOf : GoodIn wsX6_reduce wsX7_indexOf := goodIn_r _ [12, 13, 14, 81, 82, 83] (by decide +kernel) (by decide +kernel)
set_option maxRecDepth 20000 in
theorem gX6_reduce_X7_indexOf_n78 : GoodIn wsX6_reduce (wsX7_indexOf) := ggX6_reduce_X7_indexOf
set_option maxRecDepth 20000 in
theorem ggX6_reduce_X7_use : GoodIn wsX6_reduce wsX7_use := goodIn_r _ [17, 18, 14, 19, 20, 21, 10, 22, 81, 82, 83] (by decide +kernel) (by decide +kernel)
set_option maxRecDepth 20000 in
theorem gX6_reduce_X7_use_n81 : GoodIn wsX6_reduce (wsX7_use) := ggX6_reduce_X7_use
set_option maxRecDepth 20000 in
theorem ggX6_reduce_X3_run : GoodIn wsX6_reduce wsX3_run := goodIn_r _ [26, 27, 28, 29, 30, 31, 32, 33, 34, 24, 35, 36, 37, 38, 39, 40, 41, 42, 43, 44, 45, 46, 47, 48, 49, 50, 51, 52, 53, 54, 55, 56, 57, 58, 59, 60, 76, 77, 78, 79, 80, 84, 85, 86, 87, 88, 89] (by decide +kernel) (by decide +kernel)
set_option maxRecDepth 20000 in
theorem gX6_reduce_X3_run_n84 : GoodIn wsX6_reduce (wsX3_run) := ggX6_reduce_X3_run
set_option maxRecDepth 20000 in
theorem ggX6_reduce_X3_countRules : GoodIn wsX6_reduce wsX3_countRules := goodIn_r _ [63, 28, 31, 76, 77, 78, 79, 80, 84, 85, 86, 87, 88, 89] (by decide +kernel) (by decide +kernel)
set_option maxRecDepth 20000 in
theorem gX6_reduce_X3_countRules_n94 : GoodIn wsX6_reduce (wsX3_countRules) := ggX6_reduce_X3_countRules
set_option maxRecDepth 20000 in
theorem ggX6_reduce_X3_last : GoodIn wsX6_reduce wsX3_last := goodIn_r _ [66, 27, 28, 76, 77, 78, 79, 80] (by decide +kernel) (by decide +kernel)
set_option maxRecDepth 20000 in
theorem gX6_reduce_X3_last_n98 : GoodIn wsX6_reduce (wsX3_last) := ggX6_reduce_X3_last
set_option maxRecDepth 20000 in
theorem ggX6_reduce_X7_put : GoodIn wsX6_reduce wsX7_put := goodIn_r _ [69, 13, 19, 20, 21, 10, 22, 14, 18, 81, 82, 83] (by decide +kernel) (by decide +kernel)
set_option maxRecDepth 20000 in
theorem gX6_reduce_X7_put_n102 : GoodIn wsX6_reduce (wsX7_put) := ggX6_reduce_X7_put
theorem dX6_reduce_0 : decode cX6_reduce 0 = .ok (.aload_n 0, 1) := by decide +kernel
theorem dX6_reduce_1 : decode cX6_reduce 1 = .ok (.getfield 21, 3) := by decide +kernel
theorem dX6_reduce_4 : decode cX6_reduce 4 = .ok (.aload_n 0, 1) := by decide +kernel
theorem dX6_reduce_5 : decode cX6_reduce 5 = .ok (.getfield 27, 3) := by decide +kernel
theorem dX6_reduce_8 : decode cX6_reduce 8 = .ok (.invokevirtual 78, 3) := by decide +kernel
theorem dX6_reduce_11 : decode cX6_reduce 11 = .ok (.istore_n 2, 1) := by decide +kernel
theorem dX6_reduce_12 : decode cX6_reduce 12 = .ok (.iload_n 2, 1) := by decide +kernel
theorem dX6_reduce_13 : decode cX6_reduce 13 = .ok (.ifCond .lt 27, 3) := by decide +kernel
theorem dX6_reduce_16 : decode cX6_reduce 16 = .ok (.aload_n 0, 1) := by decide +kernel
theorem dX6_reduce_17 : decode cX6_reduce 17 = .ok (.aload_n 0, 1) := by decide +kernel
theorem dX6_reduce_18 : decode cX6_reduce 18 = .ok (.getfield 21, 3) := by decide +kernel
theorem dX6_reduce_21 : decode cX6_reduce 21 = .ok (.iload_n 2, 1) := by decide +kernel
theorem dX6_reduce_22 : decode cX6_reduce 22 = .ok (.invokevirtual 81, 3) := by decide +kernel
theorem dX6_reduce_25 : decode cX6_reduce 25 = .ok (.putfield 27, 3) := by decide +kernel
theorem dX6_reduce_28 : decode cX6_reduce 28 = .ok (.aload_n 0, 1) := by decide +kernel
theorem dX6_reduce_29 : decode cX6_reduce 29 = .ok (.dup, 1) := by decide +kernel
theorem dX6_reduce_30 : decode cX6_reduce 30 = .ok (.getfield 41, 3) := by decide +kernel
theorem dX6_reduce_33 : decode cX6_reduce 33 = .ok (.iconst 1, 1) := by decide +kernel
theorem dX6_reduce_34 : decode cX6_reduce 34 = .ok (.iadd, 1) := by decide +kernel
theorem dX6_reduce_35 : decode cX6_reduce 35 = .ok (.putfield 41, 3) := by decide +kernel
theorem dX6_reduce_38 : decode cX6_reduce 38 = .ok (.iconst 0, 1) := by decide +kernel
theorem dX6_reduce_39 : decode cX6_reduce 39 = .ok (.ireturn, 1) := by decide +kernel
theorem dX6_reduce_40 : decode cX6_reduce 40 = .ok (.aload_n 1, 1) := by decide +kernel
theorem dX6_reduce_41 : decode cX6_reduce 41 = .ok (.aload_n 0, 1) := by decide +kernel
theorem dX6_reduce_42 : decode cX6_reduce 42 = .ok (.getfield 12, 3) := by decide +kernel
theorem dX6_reduce_45 : decode cX6_reduce 45 = .ok (.aload_n 0, 1) := by decide +kernel
theorem dX6_reduce_46 : decode cX6_reduce 46 = .ok (.getfield 31, 3) := by decide +kernel
theorem dX6_reduce_49 : decode cX6_reduce 49 = .ok (.aload_n 0, 1) := by decide +kernel
theorem dX6_reduce_50 : decode cX6_reduce 50 = .ok (.getfield 27, 3) := by decide +kernel
theorem dX6_reduce_53 : decode cX6_reduce 53 = .ok (.invokevirtual 84, 3) := by decide +kernel
theorem dX6_reduce_56 : decode cX6_reduce 56 = .ok (.aload_n 1, 1) := by decide +kernel
theorem dX6_reduce_57 : decode cX6_reduce 57 = .ok (.getfield 90, 3) := by decide +kernel
theorem dX6_reduce_60 : decode cX6_reduce 60 = .ok (.iconst 1, 1) := by decide +kernel
theorem dX6_reduce_61 : decode cX6_reduce 61 = .ok (.if_icmp .ne 6, 3) := by decide +kernel
theorem dX6_reduce_64 : decode cX6_reduce 64 = .ok (.ldc 62, 2) := by decide +kernel
theorem dX6_reduce_66 : decode cX6_reduce 66 = .ok (.ireturn, 1) := by decide +kernel
theorem dX6_reduce_67 : decode cX6_reduce 67 = .ok (.aload_n 1, 1) := by decide +kernel
theorem dX6_reduce_68 : decode cX6_reduce 68 = .ok (.getfield 90, 3) := by decide +kernel
theorem dX6_reduce_71 : decode cX6_reduce 71 = .ok (.iconst 2, 1) := by decide +kernel
theorem dX6_reduce_72 : decode cX6_reduce 72 = .ok (.if_icmp .ne 6, 3) := by decide +kernel
theorem dX6_reduce_75 : decode cX6_reduce 75 = .ok (.ldc 93, 2) := by decide +kernel
theorem dX6_reduce_77 : decode cX6_reduce 77 = .ok (.ireturn, 1) := by decide +kernel
theorem dX6_reduce_78 : decode cX6_reduce 78 = .ok (.aload_n 1, 1) := by decide +kernel
theorem dX6_reduce_79 : decode cX6_reduce 79 = .ok (.aload_n 0, 1) := by decide +kernel
theorem dX6_reduce_80 : decode cX6_reduce 80 = .ok (.getfield 12, 3) := by decide +kernel
theorem dX6_reduce_83 : decode cX6_reduce 83 = .ok (.invokevirtual 94, 3) := by decide +kernel
theorem dX6_reduce_86 : decode cX6_reduce 86 = .ok (.aload_n 0, 1) := by decide +kernel
theorem dX6_reduce_87 : decode cX6_reduce 87 = .ok (.dup, 1) := by decide +kernel
theorem dX6_reduce_88 : decode cX6_reduce 88 = .ok (.getfield 44, 3) := by decide +kernel
theorem dX6_reduce_91 : decode cX6_reduce 91 = .ok (.aload_n 1, 1) := by decide +kernel
theorem dX6_reduce_92 : decode cX6_reduce 92 = .ok (.getfield 97, 3) := by decide +kernel
theorem dX6_reduce_95 : decode cX6_reduce 95 = .ok (.iadd, 1) := by decide +kernel
theorem dX6_reduce_96 : decode cX6_reduce 96 = .ok (.putfield 44, 3) := by decide +kernel
theorem dX6_reduce_99 : decode cX6_reduce 99 = .ok (.aload_n 0, 1) := by decide +kernel
theorem dX6_reduce_100 : decode cX6_reduce 100 = .ok (.getfield 21, 3) := by decide +kernel
theorem dX6_reduce_103 : decode cX6_reduce 103 = .ok (.aload_n 0, 1) := by decide +kernel
theorem dX6_reduce_104 : decode cX6_reduce 104 = .ok (.getfield 27, 3) := by decide +kernel
theorem dX6_reduce_107 : decode cX6_reduce 107 = .ok (.aload_n 1, 1) := by decide +kernel
theorem dX6_reduce_108 : decode cX6_reduce 108 = .ok (.invokevirtual 98, 3) := by decide +kernel
theorem dX6_reduce_111 : decode cX6_reduce 111 = .ok (.invokevirtual 102, 3) := by decide +kernel
theorem dX6_reduce_114 : decode cX6_reduce 114 = .ok (.aload_n 0, 1) := by decide +kernel
theorem dX6_reduce_115 : decode cX6_reduce 115 = .ok (.aload_n 1, 1) := by decide +kernel
theorem dX6_reduce_116 : decode cX6_reduce 116 = .ok (.invokevirtual 98, 3) := by decide +kernel
theorem dX6_reduce_119 : decode cX6_reduce 119 = .ok (.putfield 27, 3) := by decide +kernel
theorem dX6_reduce_122 : decode cX6_reduce 122 = .ok (.aload_n 1, 1) := by decide +kernel
theorem dX6_reduce_123 : decode cX6_reduce 123 = .ok (.getfield 97, 3) := by decide +kernel
theorem dX6_reduce_126 : decode cX6_reduce 126 = .ok (.ireturn, 1) := by decide +kernel
theorem dX7_init_0 : decode cX7_init 0 = .ok (.aload_n 0, 1) := by decide +kernel
theorem dX7_init_1 : decode cX7_init 1 = .ok (.invokespecial 3, 3) := by decide +kernel
theorem dX7_init_4 : decode cX7_init 4 = .ok (.aload_n 0, 1) := by decide +kernel
theorem dX7_init_5 : decode cX7_init 5 = .ok (.bipush 8, 2) := by decide +kernel
theorem dX7_init_7 : decode cX7_init 7 = .ok (.newarray .int, 2) := by decide +kernel
theorem dX7_init_9 : decode cX7_init 9 = .ok (.putfield 9, 3) := by decide +kernel
theorem dX7_init_12 : decode cX7_init 12 = .ok (.aload_n 0, 1) := by decide +kernel
theorem dX7_init_13 : decode cX7_init 13 = .ok (.bipush 8, 2) := by decide +kernel
theorem dX7_init_15 : decode cX7_init 15 = .ok (.newarray .int, 2) := by decide +kernel
theorem dX7_init_17 : decode cX7_init 17 = .ok (.putfield 15, 3) := by decide +kernel
theorem dX7_init_20 : decode cX7_init 20 = .ok (.return_, 1) := by decide +kernel
theorem dX7_takeOver_0 : decode cX7_takeOver 0 = .ok (.aload_n 1, 1) := by decide +kernel
theorem dX7_takeOver_1 : decode cX7_takeOver 1 = .ok (.getfield 9, 3) := by decide +kernel
theorem dX7_takeOver_4 : decode cX7_takeOver 4 = .ok (.iconst 0, 1) := by decide +kernel
theorem dX7_takeOver_5 : decode cX7_takeOver 5 = .ok (.aload_n 0, 1) := by decide +kernel
theorem dX7_takeOver_6 : decode cX7_takeOver 6 = .ok (.getfield 9, 3) := by decide +kernel
theorem dX7_takeOver_9 : decode cX7_takeOver 9 = .ok (.iconst 0, 1) := by decide +kernel
theorem dX7_takeOver_10 : decode cX7_takeOver 10 = .ok (.bipush 8, 2) := by decide +kernel
theorem dX7_takeOver_12 : decode cX7_takeOver 12 = .ok (.invokestatic 18, 3) := by decide +kernel
theorem dX7_takeOver_15 : decode cX7_takeOver 15 = .ok (.aload_n 1, 1) := by decide +kernel
theorem dX7_takeOver_16 : decode cX7_takeOver 16 = .ok (.getfield 15, 3) := by decide +kernel
theorem dX7_takeOver_19 : decode cX7_takeOver 19 = .ok (.iconst 0, 1) := by decide +kernel
theorem dX7_takeOver_20 : decode cX7_takeOver 20 = .ok (.aload_n 0, 1) := by decide +kernel
theorem dX7_takeOver_21 : decode cX7_takeOver 21 = .ok (.getfield 15, 3) := by decide +kernel
theorem dX7_takeOver_24 : decode cX7_takeOver 24 = .ok (.iconst 0, 1) := by decide +kernel
theorem dX7_takeOver_25 : decode cX7_takeOver 25 = .ok (.bipush 8, 2) := by decide +kernel
theorem dX7_takeOver_27 : decode cX7_takeOver 27 = .ok (.invokestatic 18, 3) := by decide +kernel
theorem dX7_takeOver_30 : decode cX7_takeOver 30 = .ok (.aload_n 0, 1) := by decide +kernel
theorem dX7_takeOver_31 : decode cX7_takeOver 31 = .ok (.aload_n 1, 1) := by decide +kernel
theorem dX7_takeOver_32 : decode cX7_takeOver 32 = .ok (.getfield 24, 3) := by decide +kernel
theorem dX7_takeOver_35 : decode cX7_takeOver 35 = .ok (.putfield 24, 3) := by decide +kernel
theorem dX7_takeOver_38 : decode cX7_takeOver 38 = .ok (.return_, 1) := by decide +kernel
theorem dX7_indexOf_0 : decode cX7_indexOf 0 = .ok (.iconst 0, 1) := by decide +kernel
theorem dX7_indexOf_1 : decode cX7_indexOf 1 = .ok (.istore_n 2, 1) := by decide +kernel
theorem dX7_indexOf_2 : decode cX7_indexOf 2 = .ok (.iload_n 2, 1) := by decide +kernel
theorem dX7_indexOf_3 : decode cX7_indexOf 3 = .ok (.aload_n 0, 1) := by decide +kernel
theorem dX7_indexOf_4 : decode cX7_indexOf 4 = .ok (.getfield 24, 3) := by decide +kernel
theorem dX7_indexOf_7 : decode cX7_indexOf 7 = .ok (.if_icmp .ge 21, 3) := by decide +kernel
theorem dX7_indexOf_10 : decode cX7_indexOf 10 = .ok (.aload_n 0, 1) := by decide +kernel
theorem dX7_indexOf_11 : decode cX7_indexOf 11 = .ok (.getfield 9, 3) := by decide +kernel
theorem dX7_indexOf_14 : decode cX7_indexOf 14 = .ok (.iload_n 2, 1) := by decide +kernel
theorem dX7_indexOf_15 : decode cX7_indexOf 15 = .ok (.iaload, 1) := by decide +kernel
theorem dX7_indexOf_16 : decode cX7_indexOf 16 = .ok (.iload_n 1, 1) := by decide +kernel
theorem dX7_indexOf_17 : decode cX7_indexOf 17 = .ok (.if_icmp .ne 5, 3) := by decide +kernel
theorem dX7_indexOf_20 : decode cX7_indexOf 20 = .ok (.iload_n 2, 1) := by decide +kernel
theorem dX7_indexOf_21 : decode cX7_indexOf 21 = .ok (.ireturn, 1) := by decide +kernel
theorem dX7_indexOf_22 : decode cX7_indexOf 22 = .ok (.iinc 2 1, 3) := by decide +kernel
theorem dX7_indexOf_25 : decode cX7_indexOf 25 = .ok (.goto (-23), 3) := by decide +kernel
theorem dX7_indexOf_28 : decode cX7_indexOf 28 = .ok (.iconst (-1), 1) := by decide +kernel
theorem dX7_indexOf_29 : decode cX7_indexOf 29 = .ok (.ireturn, 1) := by decide +kernel
set_option maxRecDepth 20000 in
theorem ggX7_put_X7_setAhead : GoodIn wsX7_put wsX7_setAhead := goodIn_r _ [6, 7, 8, 9, 10, 11] (by decide +kernel) (by decide +kernel)
set_option maxRecDepth 20000 in
theorem gX7_put_X7_setAhead : GoodIn wsX7_put (wsV RX7 28 RX7 yX7_setAhead wsX7_setAhead) := goodIn_app (goodIn_of _ (by decide +kernel)) ggX7_put_X7_setAhead
theorem dX7_put_0 : decode cX7_put 0 = .ok (.aload_n 0, 1) := by decide +kernel
theorem dX7_put_1 : decode cX7_put 1 = .ok (.getfield 24, 3) := by decide +kernel
theorem dX7_put_4 : decode cX7_put 4 = .ok (.bipush 8, 2) := by decide +kernel
theorem dX7_put_6 : decode cX7_put 6 = .ok (.if_icmp .ge 13, 3) := by decide +kernel
theorem dX7_put_9 : decode cX7_put 9 = .ok (.aload_n 0, 1) := by decide +kernel
theorem dX7_put_10 : decode cX7_put 10 = .ok (.dup, 1) := by decide +kernel
theorem dX7_put_11 : decode cX7_put 11 = .ok (.getfield 24, 3) := by decide +kernel
theorem dX7_put_14 : decode cX7_put 14 = .ok (.iconst 1, 1) := by decide +kernel
theorem dX7_put_15 : decode cX7_put 15 = .ok (.iadd, 1) := by decide +kernel
theorem dX7_put_16 : decode cX7_put 16 = .ok (.putfield 24, 3) := by decide +kernel
theorem dX7_put_19 : decode cX7_put 19 = .ok (.aload_n 0, 1) := by decide +kernel
theorem dX7_put_20 : decode cX7_put 20 = .ok (.aload_n 0, 1) := by decide +kernel
theorem dX7_put_21 : decode cX7_put 21 = .ok (.getfield 24, 3) := by decide +kernel
theorem dX7_put_24 : decode cX7_put 24 = .ok (.iconst 1, 1) := by decide +kernel
theorem dX7_put_25 : decode cX7_put 25 = .ok (.isub, 1) := by decide +kernel
theorem dX7_put_26 : decode cX7_put 26 = .ok (.iload_n 1, 1) := by decide +kernel
theorem dX7_put_27 : decode cX7_put 27 = .ok (.iload_n 2, 1) := by decide +kernel
theorem dX7_put_28 : decode cX7_put 28 = .ok (.invokevirtual 28, 3) := by decide +kernel
theorem dX7_put_31 : decode cX7_put 31 = .ok (.return_, 1) := by decide +kernel
set_option maxRecDepth 20000 in
theorem ggX7_use_X7_setAhead : GoodIn wsX7_use wsX7_setAhead := goodIn_r _ [7, 2, 1, 8, 9, 10] (by decide +kernel) (by decide +kernel)
set_option maxRecDepth 20000 in
theorem gX7_use_X7_setAhead : GoodIn wsX7_use (wsV RX7 28 RX7 yX7_setAhead wsX7_setAhead) := goodIn_app (goodIn_of _ (by decide +kernel)) ggX7_use_X7_setAhead
theorem dX7_use_0 : decode cX7_use 0 = .ok (.aload_n 0, 1) := by decide +kernel
theorem dX7_use_1 : decode cX7_use 1 = .ok (.getfield 15, 3) := by decide +kernel
theorem dX7_use_4 : decode cX7_use 4 = .ok (.iload_n 1, 1) := by decide +kernel
theorem dX7_use_5 : decode cX7_use 5 = .ok (.iaload, 1) := by decide +kernel
theorem dX7_use_6 : decode cX7_use 6 = .ok (.istore_n 2, 1) := by decide +kernel
theorem dX7_use_7 : decode cX7_use 7 = .ok (.aload_n 0, 1) := by decide +kernel
theorem dX7_use_8 : decode cX7_use 8 = .ok (.iload_n 1, 1) := by decide +kernel
theorem dX7_use_9 : decode cX7_use 9 = .ok (.aload_n 0, 1) := by decide +kernel
theorem dX7_use_10 : decode cX7_use 10 = .ok (.getfield 9, 3) := by decide +kernel
theorem dX7_use_13 : decode cX7_use 13 = .ok (.iload_n 1, 1) := by decide +kernel
theorem dX7_use_14 : decode cX7_use 14 = .ok (.iaload, 1) := by decide +kernel
theorem dX7_use_15 : decode cX7_use 15 = .ok (.iload_n 2, 1) := by decide +kernel
theorem dX7_use_16 : decode cX7_use 16 = .ok (.invokevirtual 28, 3) := by decide +kernel
theorem dX7_use_19 : decode cX7_use 19 = .ok (.iload_n 2, 1) := by decide +kernel
theorem dX7_use_20 : decode cX7_use 20 = .ok (.ireturn, 1) := by decide +kernel
theorem dX7_setAhead_0 : decode cX7_setAhead 0 = .ok (.iload_n 1, 1) := by decide +kernel
theorem dX7_setAhead_1 : decode cX7_setAhead 1 = .ok (.istore 4, 2) := by decide +kernel
theorem dX7_setAhead_3 : decode cX7_setAhead 3 = .ok (.iload 4, 2) := by decide +kernel
theorem dX7_setAhead_5 : decode cX7_setAhead 5 = .ok (.ifCond .le 41, 3) := by decide +kernel
theorem dX7_setAhead_8 : decode cX7_setAhead 8 = .ok (.aload_n 0, 1) := by decide +kernel
theorem dX7_setAhead_9 : decode cX7_setAhead 9 = .ok (.getfield 9, 3) := by decide +kernel
theorem dX7_setAhead_12 : decode cX7_setAhead 12 = .ok (.iload 4, 2) := by decide +kernel
theorem dX7_setAhead_14 : decode cX7_setAhead 14 = .ok (.aload_n 0, 1) := by decide +kernel
theorem dX7_setAhead_15 : decode cX7_setAhead 15 = .ok (.getfield 9, 3) := by decide +kernel
theorem dX7_setAhead_18 : decode cX7_setAhead 18 = .ok (.iload 4, 2) := by decide +kernel
theorem dX7_setAhead_20 : decode cX7_setAhead 20 = .ok (.iconst 1, 1) := by decide +kernel
theorem dX7_setAhead_21 : decode cX7_setAhead 21 = .ok (.isub, 1) := by decide +kernel
theorem dX7_setAhead_22 : decode cX7_setAhead 22 = .ok (.iaload, 1) := by decide +kernel
theorem dX7_setAhead_23 : decode cX7_setAhead 23 = .ok (.iastore, 1) := by decide +kernel
theorem dX7_setAhead_24 : decode cX7_setAhead 24 = .ok (.aload_n 0, 1) := by decide +kernel
theorem dX7_setAhead_25 : decode cX7_setAhead 25 = .ok (.getfield 15, 3) := by decide +kernel
theorem dX7_setAhead_28 : decode cX7_setAhead 28 = .ok (.iload 4, 2) := by decide +kernel
theorem dX7_setAhead_30 : decode cX7_setAhead 30 = .ok (.aload_n 0, 1) := by decide +kernel
theorem dX7_setAhead_31 : decode cX7_setAhead 31 = .ok (.getfield 15, 3) := by decide +kernel
theorem dX7_setAhead_34 : decode cX7_setAhead 34 = .ok (.iload 4, 2) := by decide +kernel
theorem dX7_setAhead_36 : decode cX7_setAhead 36 = .ok (.iconst 1, 1) := by decide +kernel
theorem dX7_setAhead_37 : decode cX7_setAhead 37 = .ok (.isub, 1) := by decide +kernel
theorem dX7_setAhead_38 : decode cX7_setAhead 38 = .ok (.iaload, 1) := by decide +kernel
theorem dX7_setAhead_39 : decode cX7_setAhead 39 = .ok (.iastore, 1) := by decide +kernel
theorem dX7_setAhead_40 : decode cX7_setAhead 40 = .ok (.iinc 4 (-1), 3) := by decide +kernel
theorem dX7_setAhead_43 : decode cX7_setAhead 43 = .ok (.goto (-40), 3) := by decide +kernel
theorem dX7_setAhead_46 : decode cX7_setAhead 46 = .ok (.aload_n 0, 1) := by decide +kernel
theorem dX7_setAhead_47 : decode cX7_setAhead 47 = .ok (.getfield 9, 3) := by decide +kernel
theorem dX7_setAhead_50 : decode cX7_setAhead 50 = .ok (.iconst 0, 1) := by decide +kernel
theorem dX7_setAhead_51 : decode cX7_setAhead 51 = .ok (.iload_n 2, 1) := by decide +kernel
theorem dX7_setAhead_52 : decode cX7_setAhead 52 = .ok (.iastore, 1) := by decide +kernel
theorem dX7_setAhead_53 : decode cX7_setAhead 53 = .ok (.aload_n 0, 1) := by decide +kernel
theorem dX7_setAhead_54 : decode cX7_setAhead 54 = .ok (.getfield 15, 3) := by decide +kernel
theorem dX7_setAhead_57 : decode cX7_setAhead 57 = .ok (.iconst 0, 1) := by decide +kernel
theorem dX7_setAhead_58 : decode cX7_setAhead 58 = .ok (.iload_n 3, 1) := by decide +kernel
theorem dX7_setAhead_59 : decode cX7_setAhead 59 = .ok (.iastore, 1) := by decide +kernel
theorem dX7_setAhead_60 : decode cX7_setAhead 60 = .ok (.return_, 1) := by decide +kernel
theorem dX8_init_0 : decode cX8_init 0 = .ok (.aload_n 0, 1) := by decide +kernel
theorem dX8_init_1 : decode cX8_init 1 = .ok (.invokespecial 3, 3) := by decide +kernel
theorem dX8_init_4 : decode cX8_init 4 = .ok (.aload_n 0, 1) := by decide +kernel
theorem dX8_init_5 : decode cX8_init 5 = .ok (.bipush 80, 2) := by decide +kernel
theorem dX8_init_7 : decode cX8_init 7 = .ok (.newarray .char, 2) := by decide +kernel
theorem dX8_init_9 : decode cX8_init 9 = .ok (.putfield 9, 3) := by decide +kernel
theorem dX8_init_12 : decode cX8_init 12 = .ok (.return_, 1) := by decide +kernel
theorem dX8_isFull_0 : decode cX8_isFull 0 = .ok (.aload_n 0, 1) := by decide +kernel
theorem dX8_isFull_1 : decode cX8_isFull 1 = .ok (.getfield 15, 3) := by decide +kernel
theorem dX8_isFull_4 : decode cX8_isFull 4 = .ok (.bipush 80, 2) := by decide +kernel
theorem dX8_isFull_6 : decode cX8_isFull 6 = .ok (.if_icmp .lt 7, 3) := by decide +kernel
theorem dX8_isFull_9 : decode cX8_isFull 9 = .ok (.iconst 1, 1) := by decide +kernel
theorem dX8_isFull_10 : decode cX8_isFull 10 = .ok (.goto 4, 3) := by decide +kernel
theorem dX8_isFull_13 : decode cX8_isFull 13 = .ok (.iconst 0, 1) := by decide +kernel
theorem dX8_isFull_14 : decode cX8_isFull 14 = .ok (.ireturn, 1) := by decide +kernel
set_option maxRecDepth 20000 in
theorem ggX8_append_X8_isFull : GoodIn wsX8_append wsX8_isFull := goodIn_r _ [7, 2, 8, 9, 10, 11, 12, 13, 14] (by decide +kernel) (by decide +kernel)
set_option maxRecDepth 20000 in
theorem gX8_append_X8_isFull : GoodIn wsX8_append (wsV RX8 19 RX8 yX8_isFull wsX8_isFull) := goodIn_app (goodIn_of _ (by decide +kernel)) ggX8_append_X8_isFull
theorem dX8_append_0 : decode cX8_append 0 = .ok (.aload_n 0, 1) := by decide +kernel
theorem dX8_append_1 : decode cX8_append 1 = .ok (.invokevirtual 19, 3) := by decide +kernel
theorem dX8_append_4 : decode cX8_append 4 = .ok (.ifCond .ne 24, 3) := by decide +kernel
theorem dX8_append_7 : decode cX8_append 7 = .ok (.aload_n 0, 1) := by decide +kernel
theorem dX8_append_8 : decode cX8_append 8 = .ok (.getfield 9, 3) := by decide +kernel
theorem dX8_append_11 : decode cX8_append 11 = .ok (.aload_n 0, 1) := by decide +kernel
theorem dX8_append_12 : decode cX8_append 12 = .ok (.getfield 15, 3) := by decide +kernel
theorem dX8_append_15 : decode cX8_append 15 = .ok (.iload_n 1, 1) := by decide +kernel
theorem dX8_append_16 : decode cX8_append 16 = .ok (.i2c, 1) := by decide +kernel
theorem dX8_append_17 : decode cX8_append 17 = .ok (.castore, 1) := by decide +kernel
theorem dX8_append_18 : decode cX8_append 18 = .ok (.aload_n 0, 1) := by decide +kernel
theorem dX8_append_19 : decode cX8_append 19 = .ok (.dup, 1) := by decide +kernel
theorem dX8_append_20 : decode cX8_append 20 = .ok (.getfield 15, 3) := by decide +kernel
theorem dX8_append_23 : decode cX8_append 23 = .ok (.iconst 1, 1) := by decide +kernel
theorem dX8_append_24 : decode cX8_append 24 = .ok (.iadd, 1) := by decide +kernel
theorem dX8_append_25 : decode cX8_append 25 = .ok (.putfield 15, 3) := by decide +kernel
theorem dX8_append_28 : decode cX8_append 28 = .ok (.return_, 1) := by decide +kernel
set_option maxRecDepth 20000 in
theorem ggX8_readCommand_X8_here : GoodIn wsX8_readCommand wsX8_here := goodIn_r _ [9, 1, 10, 11, 28, 29, 30, 31, 32, 33, 34] (by decide +kernel) (by decide +kernel)
set_option maxRecDepth 20000 in
theorem gX8_readCommand_X8_here : GoodIn wsX8_readCommand (wsV RX8 26 RX8 yX8_here wsX8_here) := goodIn_app (goodIn_of _ (by decide +kernel)) ggX8_readCommand_X8_here
set_option maxRecDepth 20000 in
theorem ggX8_readCommand_X8_readWord : GoodIn wsX8_readCommand wsX8_readWord := goodIn_r _ [15, 1, 10, 5, 6, 7, 8, 9, 11, 16, 17, 18, 28, 29, 30, 31, 32, 33, 34] (by decide +kernel) (by decide +kernel)
set_option maxRecDepth 20000 in
theorem gX8_readCommand_X8_readWord : GoodIn wsX8_readCommand (wsV RX8 33 RX8 yX8_readWord wsX8_readWord) := goodIn_app (goodIn_of _ (by decide +kernel)) ggX8_readCommand_X8_readWord
set_option maxRecDepth 20000 in
theorem ggX8_readCommand_X8_passes : GoodIn wsX8_readCommand wsX8_passes := goodIn_r _ [22, 1, 5, 6, 7, 8, 9, 10, 11, 28, 29, 30, 31, 32, 33, 34] (by decide +kernel) (by decide +kernel)
set_option maxRecDepth 20000 in
theorem gX8_readCommand_X8_passes : GoodIn wsX8_readCommand (wsV RX8 39 RX8 yX8_passes wsX8_passes) := goodIn_app (goodIn_of _ (by decide +kernel)) ggX8_readCommand_X8_passes
set_option maxRecDepth 20000 in
theorem ggX8_readCommand_X8_readDigit : GoodIn wsX8_readCommand wsX8_readDigit := goodIn_r _ [26, 27, 1, 5, 6, 7, 8, 9, 10, 11, 28, 29, 30, 31, 32, 33, 34] (by decide +kernel) (by decide +kernel)
set_option maxRecDepth 20000 in
theorem gX8_readCommand_X8_readDigit : GoodIn wsX8_readCommand (wsV RX8 46 RX8 yX8_readDigit wsX8_readDigit) := goodIn_app (goodIn_of _ (by decide +kernel)) ggX8_readCommand_X8_readDigit
theorem dX8_readCommand_0 : decode cX8_readCommand 0 = .ok (.aload_n 0, 1) := by decide +kernel
theorem dX8_readCommand_1 : decode cX8_readCommand 1 = .ok (.iload_n 1, 1) := by decide +kernel
theorem dX8_readCommand_2 : decode cX8_readCommand 2 = .ok (.putfield 23, 3) := by decide +kernel
theorem dX8_readCommand_5 : decode cX8_readCommand 5 = .ok (.aload_n 0, 1) := by decide +kernel
theorem dX8_readCommand_6 : decode cX8_readCommand 6 = .ok (.aload_n 0, 1) := by decide +kernel
theorem dX8_readCommand_7 : decode cX8_readCommand 7 = .ok (.invokevirtual 26, 3) := by decide +kernel
theorem dX8_readCommand_10 : decode cX8_readCommand 10 = .ok (.putfield 30, 3) := by decide +kernel
theorem dX8_readCommand_13 : decode cX8_readCommand 13 = .ok (.aload_n 0, 1) := by decide +kernel
theorem dX8_readCommand_14 : decode cX8_readCommand 14 = .ok (.getfield 30, 3) := by decide +kernel
theorem dX8_readCommand_17 : decode cX8_readCommand 17 = .ok (.lookupswitch 177 #[(43, 59), (45, 128), (61, 103), (110, 160), (115, 160), (119, 128)], 59) := by decide +kernel
theorem dX8_readCommand_76 : decode cX8_readCommand 76 = .ok (.aload_n 0, 1) := by decide +kernel
theorem dX8_readCommand_77 : decode cX8_readCommand 77 = .ok (.dup, 1) := by decide +kernel
theorem dX8_readCommand_78 : decode cX8_readCommand 78 = .ok (.getfield 23, 3) := by decide +kernel
theorem dX8_readCommand_81 : decode cX8_readCommand 81 = .ok (.iconst 1, 1) := by decide +kernel
theorem dX8_readCommand_82 : decode cX8_readCommand 82 = .ok (.iadd, 1) := by decide +kernel
theorem dX8_readCommand_83 : decode cX8_readCommand 83 = .ok (.putfield 23, 3) := by decide +kernel
theorem dX8_readCommand_86 : decode cX8_readCommand 86 = .ok (.aload_n 0, 1) := by decide +kernel
theorem dX8_readCommand_87 : decode cX8_readCommand 87 = .ok (.aload_n 0, 1) := by decide +kernel
theorem dX8_readCommand_88 : decode cX8_readCommand 88 = .ok (.invokevirtual 33, 3) := by decide +kernel
theorem dX8_readCommand_91 : decode cX8_readCommand 91 = .ok (.putfield 36, 3) := by decide +kernel
theorem dX8_readCommand_94 : decode cX8_readCommand 94 = .ok (.aload_n 0, 1) := by decide +kernel
theorem dX8_readCommand_95 : decode cX8_readCommand 95 = .ok (.bipush 62, 2) := by decide +kernel
theorem dX8_readCommand_97 : decode cX8_readCommand 97 = .ok (.invokevirtual 39, 3) := by decide +kernel
theorem dX8_readCommand_100 : decode cX8_readCommand 100 = .ok (.ifCond .ne 5, 3) := by decide +kernel
theorem dX8_readCommand_103 : decode cX8_readCommand 103 = .ok (.iconst 0, 1) := by decide +kernel
theorem dX8_readCommand_104 : decode cX8_readCommand 104 = .ok (.ireturn, 1) := by decide +kernel
theorem dX8_readCommand_105 : decode cX8_readCommand 105 = .ok (.aload_n 0, 1) := by decide +kernel
theorem dX8_readCommand_106 : decode cX8_readCommand 106 = .ok (.aload_n 0, 1) := by decide +kernel
theorem dX8_readCommand_107 : decode cX8_readCommand 107 = .ok (.invokevirtual 33, 3) := by decide +kernel
theorem dX8_readCommand_110 : decode cX8_readCommand 110 = .ok (.putfield 43, 3) := by decide +kernel
theorem dX8_readCommand_113 : decode cX8_readCommand 113 = .ok (.aload_n 0, 1) := by decide +kernel
theorem dX8_readCommand_114 : decode cX8_readCommand 114 = .ok (.bipush 59, 2) := by decide +kernel
theorem dX8_readCommand_116 : decode cX8_readCommand 116 = .ok (.invokevirtual 39, 3) := by decide +kernel
theorem dX8_readCommand_119 : decode cX8_readCommand 119 = .ok (.ireturn, 1) := by decide +kernel
theorem dX8_readCommand_120 : decode cX8_readCommand 120 = .ok (.aload_n 0, 1) := by decide +kernel
theorem dX8_readCommand_121 : decode cX8_readCommand 121 = .ok (.dup, 1) := by decide +kernel
theorem dX8_readCommand_122 : decode cX8_readCommand 122 = .ok (.getfield 23, 3) := by decide +kernel
theorem dX8_readCommand_125 : decode cX8_readCommand 125 = .ok (.iconst 1, 1) := by decide +kernel
theorem dX8_readCommand_126 : decode cX8_readCommand 126 = .ok (.iadd, 1) := by decide +kernel
theorem dX8_readCommand_127 : decode cX8_readCommand 127 = .ok (.putfield 23, 3) := by decide +kernel
theorem dX8_readCommand_130 : decode cX8_readCommand 130 = .ok (.aload_n 0, 1) := by decide +kernel
theorem dX8_readCommand_131 : decode cX8_readCommand 131 = .ok (.aload_n 0, 1) := by decide +kernel
theorem dX8_readCommand_132 : decode cX8_readCommand 132 = .ok (.invokevirtual 33, 3) := by decide +kernel
theorem dX8_readCommand_135 : decode cX8_readCommand 135 = .ok (.putfield 36, 3) := by decide +kernel
theorem dX8_readCommand_138 : decode cX8_readCommand 138 = .ok (.aload_n 0, 1) := by decide +kernel
theorem dX8_readCommand_139 : decode cX8_readCommand 139 = .ok (.bipush 59, 2) := by decide +kernel
theorem dX8_readCommand_141 : decode cX8_readCommand 141 = .ok (.invokevirtual 39, 3) := by decide +kernel
theorem dX8_readCommand_144 : decode cX8_readCommand 144 = .ok (.ireturn, 1) := by decide +kernel
theorem dX8_readCommand_145 : decode cX8_readCommand 145 = .ok (.aload_n 0, 1) := by decide +kernel
theorem dX8_readCommand_146 : decode cX8_readCommand 146 = .ok (.dup, 1) := by decide +kernel
theorem dX8_readCommand_147 : decode cX8_readCommand 147 = .ok (.getfield 23, 3) := by decide +kernel
theorem dX8_readCommand_150 : decode cX8_readCommand 150 = .ok (.iconst 1, 1) := by decide +kernel
theorem dX8_readCommand_151 : decode cX8_readCommand 151 = .ok (.iadd, 1) := by decide +kernel
theorem dX8_readCommand_152 : decode cX8_readCommand 152 = .ok (.putfield 23, 3) := by decide +kernel
theorem dX8_readCommand_155 : decode cX8_readCommand 155 = .ok (.aload_n 0, 1) := by decide +kernel
theorem dX8_readCommand_156 : decode cX8_readCommand 156 = .ok (.invokevirtual 46, 3) := by decide +kernel
theorem dX8_readCommand_159 : decode cX8_readCommand 159 = .ok (.ifCond .eq 16, 3) := by decide +kernel
theorem dX8_readCommand_162 : decode cX8_readCommand 162 = .ok (.aload_n 0, 1) := by decide +kernel
theorem dX8_readCommand_163 : decode cX8_readCommand 163 = .ok (.bipush 59, 2) := by decide +kernel
theorem dX8_readCommand_165 : decode cX8_readCommand 165 = .ok (.invokevirtual 39, 3) := by decide +kernel
theorem dX8_readCommand_168 : decode cX8_readCommand 168 = .ok (.ifCond .eq 7, 3) := by decide +kernel
theorem dX8_readCommand_171 : decode cX8_readCommand 171 = .ok (.iconst 1, 1) := by decide +kernel
theorem dX8_readCommand_172 : decode cX8_readCommand 172 = .ok (.goto 4, 3) := by decide +kernel
theorem dX8_readCommand_175 : decode cX8_readCommand 175 = .ok (.iconst 0, 1) := by decide +kernel
theorem dX8_readCommand_176 : decode cX8_readCommand 176 = .ok (.ireturn, 1) := by decide +kernel
theorem dX8_readCommand_177 : decode cX8_readCommand 177 = .ok (.aload_n 0, 1) := by decide +kernel
theorem dX8_readCommand_178 : decode cX8_readCommand 178 = .ok (.dup, 1) := by decide +kernel
theorem dX8_readCommand_179 : decode cX8_readCommand 179 = .ok (.getfield 23, 3) := by decide +kernel
theorem dX8_readCommand_182 : decode cX8_readCommand 182 = .ok (.iconst 1, 1) := by decide +kernel
theorem dX8_readCommand_183 : decode cX8_readCommand 183 = .ok (.iadd, 1) := by decide +kernel
theorem dX8_readCommand_184 : decode cX8_readCommand 184 = .ok (.putfield 23, 3) := by decide +kernel
theorem dX8_readCommand_187 : decode cX8_readCommand 187 = .ok (.aload_n 0, 1) := by decide +kernel
theorem dX8_readCommand_188 : decode cX8_readCommand 188 = .ok (.bipush 59, 2) := by decide +kernel
theorem dX8_readCommand_190 : decode cX8_readCommand 190 = .ok (.invokevirtual 39, 3) := by decide +kernel
theorem dX8_readCommand_193 : decode cX8_readCommand 193 = .ok (.ireturn, 1) := by decide +kernel
theorem dX8_readCommand_194 : decode cX8_readCommand 194 = .ok (.iconst 0, 1) := by decide +kernel
theorem dX8_readCommand_195 : decode cX8_readCommand 195 = .ok (.ireturn, 1) := by decide +kernel
theorem dX8_here_0 : decode cX8_here 0 = .ok (.aload_n 0, 1) := by decide +kernel
theorem dX8_here_1 : decode cX8_here 1 = .ok (.getfield 23, 3) := by decide +kernel
theorem dX8_here_4 : decode cX8_here 4 = .ok (.ifCond .lt 26, 3) := by decide +kernel
theorem dX8_here_7 : decode cX8_here 7 = .ok (.aload_n 0, 1) := by decide +kernel
theorem dX8_here_8 : decode cX8_here 8 = .ok (.getfield 23, 3) := by decide +kernel
theorem dX8_here_11 : decode cX8_here 11 = .ok (.aload_n 0, 1) := by decide +kernel
theorem dX8_here_12 : decode cX8_here 12 = .ok (.getfield 15, 3) := by decide +kernel
theorem dX8_here_15 : decode cX8_here 15 = .ok (.if_icmp .ge 15, 3) := by decide +kernel
theorem dX8_here_18 : decode cX8_here 18 = .ok (.aload_n 0, 1) := by decide +kernel
theorem dX8_here_19 : decode cX8_here 19 = .ok (.getfield 9, 3) := by decide +kernel
theorem dX8_here_22 : decode cX8_here 22 = .ok (.aload_n 0, 1) := by decide +kernel
theorem dX8_here_23 : decode cX8_here 23 = .ok (.getfield 23, 3) := by decide +kernel
theorem dX8_here_26 : decode cX8_here 26 = .ok (.caload, 1) := by decide +kernel
theorem dX8_here_27 : decode cX8_here 27 = .ok (.goto 4, 3) := by decide +kernel
theorem dX8_here_30 : decode cX8_here 30 = .ok (.iconst (-1), 1) := by decide +kernel
theorem dX8_here_31 : decode cX8_here 31 = .ok (.ireturn, 1) := by decide +kernel
set_option maxRecDepth 20000 in
theorem ggX8_passes_X8_here : GoodIn wsX8_passes wsX8_here := goodIn_r _ [6, 1, 7, 8, 9, 10, 11, 12, 13, 14, 15] (by decide +kernel) (by decide +kernel)
set_option maxRecDepth 20000 in
theorem gX8_passes_X8_here : GoodIn wsX8_passes (wsV RX8 26 RX8 yX8_here wsX8_here) := goodIn_app (goodIn_of _ (by decide +kernel)) ggX8_passes_X8_here
theorem dX8_passes_0 : decode cX8_passes 0 = .ok (.aload_n 0, 1) := by decide +kernel
theorem dX8_passes_1 : decode cX8_passes 1 = .ok (.invokevirtual 26, 3) := by decide +kernel
theorem dX8_passes_4 : decode cX8_passes 4 = .ok (.iload_n 1, 1) := by decide +kernel
theorem dX8_passes_5 : decode cX8_passes 5 = .ok (.if_icmp .eq 5, 3) := by decide +kernel
theorem dX8_passes_8 : decode cX8_passes 8 = .ok (.iconst 0, 1) := by decide +kernel
theorem dX8_passes_9 : decode cX8_passes 9 = .ok (.ireturn, 1) := by decide +kernel
theorem dX8_passes_10 : decode cX8_passes 10 = .ok (.aload_n 0, 1) := by decide +kernel
theorem dX8_passes_11 : decode cX8_passes 11 = .ok (.dup, 1) := by decide +kernel
theorem dX8_passes_12 : decode cX8_passes 12 = .ok (.getfield 23, 3) := by decide +kernel
theorem dX8_passes_15 : decode cX8_passes 15 = .ok (.iconst 1, 1) := by decide +kernel
theorem dX8_passes_16 : decode cX8_passes 16 = .ok (.iadd, 1) := by decide +kernel
theorem dX8_passes_17 : decode cX8_passes 17 = .ok (.putfield 23, 3) := by decide +kernel
theorem dX8_passes_20 : decode cX8_passes 20 = .ok (.iconst 1, 1) := by decide +kernel
theorem dX8_passes_21 : decode cX8_passes 21 = .ok (.ireturn, 1) := by decide +kernel
set_option maxRecDepth 20000 in
theorem ggX8_readDigit_X8_here : GoodIn wsX8_readDigit wsX8_here := goodIn_r _ [7, 2, 8, 9, 10, 11, 12, 13, 14, 15, 16] (by decide +kernel) (by decide +kernel)
set_option maxRecDepth 20000 in
theorem gX8_readDigit_X8_here : GoodIn wsX8_readDigit (wsV RX8 26 RX8 yX8_here wsX8_here) := goodIn_app (goodIn_of _ (by decide +kernel)) ggX8_readDigit_X8_here
theorem dX8_readDigit_0 : decode cX8_readDigit 0 = .ok (.aload_n 0, 1) := by decide +kernel
theorem dX8_readDigit_1 : decode cX8_readDigit 1 = .ok (.invokevirtual 26, 3) := by decide +kernel
theorem dX8_readDigit_4 : decode cX8_readDigit 4 = .ok (.istore_n 1, 1) := by decide +kernel
theorem dX8_readDigit_5 : decode cX8_readDigit 5 = .ok (.iload_n 1, 1) := by decide +kernel
theorem dX8_readDigit_6 : decode cX8_readDigit 6 = .ok (.bipush 48, 2) := by decide +kernel
theorem dX8_readDigit_8 : decode cX8_readDigit 8 = .ok (.if_icmp .lt 9, 3) := by decide +kernel
theorem dX8_readDigit_11 : decode cX8_readDigit 11 = .ok (.iload_n 1, 1) := by decide +kernel
theorem dX8_readDigit_12 : decode cX8_readDigit 12 = .ok (.bipush 57, 2) := by decide +kernel
theorem dX8_readDigit_14 : decode cX8_readDigit 14 = .ok (.if_icmp .le 5, 3) := by decide +kernel
theorem dX8_readDigit_17 : decode cX8_readDigit 17 = .ok (.iconst 0, 1) := by decide +kernel
theorem dX8_readDigit_18 : decode cX8_readDigit 18 = .ok (.ireturn, 1) := by decide +kernel
theorem dX8_readDigit_19 : decode cX8_readDigit 19 = .ok (.aload_n 0, 1) := by decide +kernel
theorem dX8_readDigit_20 : decode cX8_readDigit 20 = .ok (.iload_n 1, 1) := by decide +kernel
theorem dX8_readDigit_21 : decode cX8_readDigit 21 = .ok (.bipush 48, 2) := by decide +kernel
theorem dX8_readDigit_23 : decode cX8_readDigit 23 = .ok (.isub, 1) := by decide +kernel
theorem dX8_readDigit_24 : decode cX8_readDigit 24 = .ok (.putfield 49, 3) := by decide +kernel
theorem dX8_readDigit_27 : decode cX8_readDigit 27 = .ok (.aload_n 0, 1) := by decide +kernel
theorem dX8_readDigit_28 : decode cX8_readDigit 28 = .ok (.dup, 1) := by decide +kernel
theorem dX8_readDigit_29 : decode cX8_readDigit 29 = .ok (.getfield 23, 3) := by decide +kernel
theorem dX8_readDigit_32 : decode cX8_readDigit 32 = .ok (.iconst 1, 1) := by decide +kernel
theorem dX8_readDigit_33 : decode cX8_readDigit 33 = .ok (.iadd, 1) := by decide +kernel
theorem dX8_readDigit_34 : decode cX8_readDigit 34 = .ok (.putfield 23, 3) := by decide +kernel
theorem dX8_readDigit_37 : decode cX8_readDigit 37 = .ok (.iconst 1, 1) := by decide +kernel
theorem dX8_readDigit_38 : decode cX8_readDigit 38 = .ok (.ireturn, 1) := by decide +kernel
set_option maxRecDepth 20000 in
theorem ggX8_readWord_X8_here : GoodIn wsX8_readWord wsX8_here := goodIn_r _ [7, 1, 2, 8, 12, 13, 14, 15, 16, 17, 18] (by decide +kernel) (by decide +kernel)
set_option maxRecDepth 20000 in
theorem gX8_readWord_X8_here : GoodIn wsX8_readWord (wsV RX8 26 RX8 yX8_here wsX8_here) := goodIn_app (goodIn_of _ (by decide +kernel)) ggX8_readWord_X8_here
set_option maxRecDepth 20000 in
theorem ggX8_readWord_X9_withLetter : GoodIn wsX8_readWord wsX9_withLetter := goodIn_r _ [11] (by decide +kernel) (by decide +kernel)
set_option maxRecDepth 20000 in
theorem gX8_readWord_X9_withLetter_n54 : GoodIn wsX8_readWord (wsX9_withLetter) := ggX8_readWord_X9_withLetter
theorem dX8_readWord_0 : decode cX8_readWord 0 = .ok (.iconst 1, 1) := by decide +kernel
theorem dX8_readWord_1 : decode cX8_readWord 1 = .ok (.istore_n 1, 1) := by decide +kernel
theorem dX8_readWord_2 : decode cX8_readWord 2 = .ok (.iconst 0, 1) := by decide +kernel
theorem dX8_readWord_3 : decode cX8_readWord 3 = .ok (.istore_n 2, 1) := by decide +kernel
theorem dX8_readWord_4 : decode cX8_readWord 4 = .ok (.aload_n 0, 1) := by decide +kernel
theorem dX8_readWord_5 : decode cX8_readWord 5 = .ok (.getfield 23, 3) := by decide +kernel
theorem dX8_readWord_8 : decode cX8_readWord 8 = .ok (.aload_n 0, 1) := by decide +kernel
theorem dX8_readWord_9 : decode cX8_readWord 9 = .ok (.getfield 15, 3) := by decide +kernel
theorem dX8_readWord_12 : decode cX8_readWord 12 = .ok (.if_icmp .ge 55, 3) := by decide +kernel
theorem dX8_readWord_15 : decode cX8_readWord 15 = .ok (.aload_n 0, 1) := by decide +kernel
theorem dX8_readWord_16 : decode cX8_readWord 16 = .ok (.invokevirtual 26, 3) := by decide +kernel
theorem dX8_readWord_19 : decode cX8_readWord 19 = .ok (.bipush 97, 2) := by decide +kernel
theorem dX8_readWord_21 : decode cX8_readWord 21 = .ok (.if_icmp .lt 46, 3) := by decide +kernel
theorem dX8_readWord_24 : decode cX8_readWord 24 = .ok (.aload_n 0, 1) := by decide +kernel
theorem dX8_readWord_25 : decode cX8_readWord 25 = .ok (.invokevirtual 26, 3) := by decide +kernel
theorem dX8_readWord_28 : decode cX8_readWord 28 = .ok (.bipush 100, 2) := by decide +kernel
theorem dX8_readWord_30 : decode cX8_readWord 30 = .ok (.if_icmp .gt 37, 3) := by decide +kernel
theorem dX8_readWord_33 : decode cX8_readWord 33 = .ok (.iload_n 2, 1) := by decide +kernel
theorem dX8_readWord_34 : decode cX8_readWord 34 = .ok (.bipush 12, 2) := by decide +kernel
theorem dX8_readWord_36 : decode cX8_readWord 36 = .ok (.if_icmp .gt 15, 3) := by decide +kernel
theorem dX8_readWord_39 : decode cX8_readWord 39 = .ok (.iload_n 1, 1) := by decide +kernel
theorem dX8_readWord_40 : decode cX8_readWord 40 = .ok (.aload_n 0, 1) := by decide +kernel
theorem dX8_readWord_41 : decode cX8_readWord 41 = .ok (.invokevirtual 26, 3) := by decide +kernel
theorem dX8_readWord_44 : decode cX8_readWord 44 = .ok (.bipush 97, 2) := by decide +kernel
theorem dX8_readWord_46 : decode cX8_readWord 46 = .ok (.isub, 1) := by decide +kernel
theorem dX8_readWord_47 : decode cX8_readWord 47 = .ok (.invokestatic 54, 3) := by decide +kernel
theorem dX8_readWord_50 : decode cX8_readWord 50 = .ok (.istore_n 1, 1) := by decide +kernel
theorem dX8_readWord_51 : decode cX8_readWord 51 = .ok (.aload_n 0, 1) := by decide +kernel
theorem dX8_readWord_52 : decode cX8_readWord 52 = .ok (.dup, 1) := by decide +kernel
theorem dX8_readWord_53 : decode cX8_readWord 53 = .ok (.getfield 23, 3) := by decide +kernel
theorem dX8_readWord_56 : decode cX8_readWord 56 = .ok (.iconst 1, 1) := by decide +kernel
theorem dX8_readWord_57 : decode cX8_readWord 57 = .ok (.iadd, 1) := by decide +kernel
theorem dX8_readWord_58 : decode cX8_readWord 58 = .ok (.putfield 23, 3) := by decide +kernel
theorem dX8_readWord_61 : decode cX8_readWord 61 = .ok (.iinc 2 1, 3) := by decide +kernel
theorem dX8_readWord_64 : decode cX8_readWord 64 = .ok (.goto (-60), 3) := by decide +kernel
theorem dX8_readWord_67 : decode cX8_readWord 67 = .ok (.iload_n 1, 1) := by decide +kernel
theorem dX8_readWord_68 : decode cX8_readWord 68 = .ok (.ireturn, 1) := by decide +kernel
theorem dX9_lengthOf_0 : decode cX9_lengthOf 0 = .ok (.iconst 0, 1) := by decide +kernel
theorem dX9_lengthOf_1 : decode cX9_lengthOf 1 = .ok (.istore_n 1, 1) := by decide +kernel
theorem dX9_lengthOf_2 : decode cX9_lengthOf 2 = .ok (.iload_n 0, 1) := by decide +kernel
theorem dX9_lengthOf_3 : decode cX9_lengthOf 3 = .ok (.istore_n 2, 1) := by decide +kernel
theorem dX9_lengthOf_4 : decode cX9_lengthOf 4 = .ok (.iload_n 2, 1) := by decide +kernel
theorem dX9_lengthOf_5 : decode cX9_lengthOf 5 = .ok (.iconst 1, 1) := by decide +kernel
theorem dX9_lengthOf_6 : decode cX9_lengthOf 6 = .ok (.if_icmp .le 13, 3) := by decide +kernel
theorem dX9_lengthOf_9 : decode cX9_lengthOf 9 = .ok (.iinc 1 1, 3) := by decide +kernel
theorem dX9_lengthOf_12 : decode cX9_lengthOf 12 = .ok (.iload_n 2, 1) := by decide +kernel
theorem dX9_lengthOf_13 : decode cX9_lengthOf 13 = .ok (.iconst 2, 1) := by decide +kernel
theorem dX9_lengthOf_14 : decode cX9_lengthOf 14 = .ok (.ishr, 1) := by decide +kernel
theorem dX9_lengthOf_15 : decode cX9_lengthOf 15 = .ok (.istore_n 2, 1) := by decide +kernel
theorem dX9_lengthOf_16 : decode cX9_lengthOf 16 = .ok (.goto (-12), 3) := by decide +kernel
theorem dX9_lengthOf_19 : decode cX9_lengthOf 19 = .ok (.iload_n 1, 1) := by decide +kernel
theorem dX9_lengthOf_20 : decode cX9_lengthOf 20 = .ok (.ireturn, 1) := by decide +kernel
set_option maxRecDepth 20000 in
theorem ggX9_letterOf_X9_lengthOf : GoodIn wsX9_letterOf wsX9_lengthOf := goodIn_r _ [5] (by decide +kernel) (by decide +kernel)
set_option maxRecDepth 20000 in
theorem gX9_letterOf_X9_lengthOf : GoodIn wsX9_letterOf (va_wsS RX9 9 yX9_lengthOf wsX9_lengthOf) := goodIn_app (goodIn_of _ (by decide +kernel)) ggX9_letterOf_X9_lengthOf
theorem dX9_letterOf_0 : decode cX9_letterOf 0 = .ok (.iload_n 0, 1) := by decide +kernel
theorem dX9_letterOf_1 : decode cX9_letterOf 1 = .ok (.invokestatic 9, 3) := by decide +kernel
theorem dX9_letterOf_4 : decode cX9_letterOf 4 = .ok (.istore_n 2, 1) := by decide +kernel
theorem dX9_letterOf_5 : decode cX9_letterOf 5 = .ok (.iload_n 1, 1) := by decide +kernel
theorem dX9_letterOf_6 : decode cX9_letterOf 6 = .ok (.ifCond .lt 8, 3) := by decide +kernel
theorem dX9_letterOf_9 : decode cX9_letterOf 9 = .ok (.iload_n 1, 1) := by decide +kernel
theorem dX9_letterOf_10 : decode cX9_letterOf 10 = .ok (.iload_n 2, 1) := by decide +kernel
theorem dX9_letterOf_11 : decode cX9_letterOf 11 = .ok (.if_icmp .lt 6, 3) := by decide +kernel
theorem dX9_letterOf_14 : decode cX9_letterOf 14 = .ok (.ldc 15, 2) := by decide +kernel
theorem dX9_letterOf_16 : decode cX9_letterOf 16 = .ok (.ireturn, 1) := by decide +kernel
theorem dX9_letterOf_17 : decode cX9_letterOf 17 = .ok (.iload_n 0, 1) := by decide +kernel
theorem dX9_letterOf_18 : decode cX9_letterOf 18 = .ok (.iconst 2, 1) := by decide +kernel
theorem dX9_letterOf_19 : decode cX9_letterOf 19 = .ok (.iload_n 2, 1) := by decide +kernel
theorem dX9_letterOf_20 : decode cX9_letterOf 20 = .ok (.iconst 1, 1) := by decide +kernel
theorem dX9_letterOf_21 : decode cX9_letterOf 21 = .ok (.isub, 1) := by decide +kernel
theorem dX9_letterOf_22 : decode cX9_letterOf 22 = .ok (.iload_n 1, 1) := by decide +kernel
theorem dX9_letterOf_23 : decode cX9_letterOf 23 = .ok (.isub, 1) := by decide +kernel
theorem dX9_letterOf_24 : decode cX9_letterOf 24 = .ok (.imul, 1) := by decide +kernel
theorem dX9_letterOf_25 : decode cX9_letterOf 25 = .ok (.ishr, 1) := by decide +kernel
theorem dX9_letterOf_26 : decode cX9_letterOf 26 = .ok (.iconst 3, 1) := by decide +kernel
theorem dX9_letterOf_27 : decode cX9_letterOf 27 = .ok (.iand, 1) := by decide +kernel
theorem dX9_letterOf_28 : decode cX9_letterOf 28 = .ok (.ireturn, 1) := by decide +kernel
theorem dX9_withLetter_0 : decode cX9_withLetter 0 = .ok (.iload_n 0, 1) := by decide +kernel
theorem dX9_withLetter_1 : decode cX9_withLetter 1 = .ok (.iconst 2, 1) := by decide +kernel
theorem dX9_withLetter_2 : decode cX9_withLetter 2 = .ok (.ishl, 1) := by decide +kernel
theorem dX9_withLetter_3 : decode cX9_withLetter 3 = .ok (.iload_n 1, 1) := by decide +kernel
theorem dX9_withLetter_4 : decode cX9_withLetter 4 = .ok (.ior, 1) := by decide +kernel
theorem dX9_withLetter_5 : decode cX9_withLetter 5 = .ok (.ireturn, 1) := by decide +kernel
theorem dX9_lastBits_0 : decode cX9_lastBits 0 = .ok (.iload_n 0, 1) := by decide +kernel
theorem dX9_lastBits_1 : decode cX9_lastBits 1 = .ok (.iconst 1, 1) := by decide +kernel
theorem dX9_lastBits_2 : decode cX9_lastBits 2 = .ok (.iconst 2, 1) := by decide +kernel
theorem dX9_lastBits_3 : decode cX9_lastBits 3 = .ok (.iload_n 1, 1) := by decide +kernel
theorem dX9_lastBits_4 : decode cX9_lastBits 4 = .ok (.imul, 1) := by decide +kernel
theorem dX9_lastBits_5 : decode cX9_lastBits 5 = .ok (.ishl, 1) := by decide +kernel
theorem dX9_lastBits_6 : decode cX9_lastBits 6 = .ok (.iconst 1, 1) := by decide +kernel
theorem dX9_lastBits_7 : decode cX9_lastBits 7 = .ok (.isub, 1) := by decide +kernel
theorem dX9_lastBits_8 : decode cX9_lastBits 8 = .ok (.iand, 1) := by decide +kernel
theorem dX9_lastBits_9 : decode cX9_lastBits 9 = .ok (.ireturn, 1) := by decide +kernel
