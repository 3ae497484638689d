theorem dX10_storeOf_77 : decode cX10_storeOf 77 = .ok (.iload_n 2, 1) := by decide +kernel
theorem dX10_storeOf_78 : decode cX10_storeOf 78 = .ok (.bipush 10, 2) := by decide +kernel
theorem dX10_storeOf_80 : decode cX10_storeOf 80 = .ok (.isub, 1) := by decide +kernel
theorem dX10_storeOf_81 : decode cX10_storeOf 81 = .ok (.invokestatic 100, 3) := by decide +kernel
theorem dX10_storeOf_84 : decode cX10_storeOf 84 = .ok (.ireturn, 1) := by decide +kernel
theorem dX10_storeOf_85 : decode cX10_storeOf 85 = .ok (.iload 4, 2) := by decide +kernel
theorem dX10_storeOf_87 : decode cX10_storeOf 87 = .ok (.ifCond .eq 23, 3) := by decide +kernel
theorem dX10_storeOf_90 : decode cX10_storeOf 90 = .ok (.aload_n 0, 1) := by decide +kernel
theorem dX10_storeOf_91 : decode cX10_storeOf 91 = .ok (.getfield 10, 3) := by decide +kernel
theorem dX10_storeOf_94 : decode cX10_storeOf 94 = .ok (.getfield 183, 3) := by decide +kernel
theorem dX10_storeOf_97 : decode cX10_storeOf 97 = .ok (.getfield 193, 3) := by decide +kernel
theorem dX10_storeOf_100 : decode cX10_storeOf 100 = .ok (.iload_n 1, 1) := by decide +kernel
theorem dX10_storeOf_101 : decode cX10_storeOf 101 = .ok (.iaload, 1) := by decide +kernel
theorem dX10_storeOf_102 : decode cX10_storeOf 102 = .ok (.iload_n 2, 1) := by decide +kernel
theorem dX10_storeOf_103 : decode cX10_storeOf 103 = .ok (.bipush 30, 2) := by decide +kernel
theorem dX10_storeOf_105 : decode cX10_storeOf 105 = .ok (.isub, 1) := by decide +kernel
theorem dX10_storeOf_106 : decode cX10_storeOf 106 = .ok (.invokestatic 100, 3) := by decide +kernel
theorem dX10_storeOf_109 : decode cX10_storeOf 109 = .ok (.ireturn, 1) := by decide +kernel
theorem dX10_storeOf_110 : decode cX10_storeOf 110 = .ok (.iload_n 2, 1) := by decide +kernel
theorem dX10_storeOf_111 : decode cX10_storeOf 111 = .ok (.ifCond .ne 18, 3) := by decide +kernel
theorem dX10_storeOf_114 : decode cX10_storeOf 114 = .ok (.aload_n 0, 1) := by decide +kernel
theorem dX10_storeOf_115 : decode cX10_storeOf 115 = .ok (.getfield 10, 3) := by decide +kernel
theorem dX10_storeOf_118 : decode cX10_storeOf 118 = .ok (.getfield 183, 3) := by decide +kernel
theorem dX10_storeOf_121 : decode cX10_storeOf 121 = .ok (.getfield 190, 3) := by decide +kernel
theorem dX10_storeOf_124 : decode cX10_storeOf 124 = .ok (.iload_n 1, 1) := by decide +kernel
theorem dX10_storeOf_125 : decode cX10_storeOf 125 = .ok (.iaload, 1) := by decide +kernel
theorem dX10_storeOf_126 : decode cX10_storeOf 126 = .ok (.goto 15, 3) := by decide +kernel
theorem dX10_storeOf_129 : decode cX10_storeOf 129 = .ok (.aload_n 0, 1) := by decide +kernel
theorem dX10_storeOf_130 : decode cX10_storeOf 130 = .ok (.getfield 10, 3) := by decide +kernel
theorem dX10_storeOf_133 : decode cX10_storeOf 133 = .ok (.getfield 183, 3) := by decide +kernel
theorem dX10_storeOf_136 : decode cX10_storeOf 136 = .ok (.getfield 193, 3) := by decide +kernel
theorem dX10_storeOf_139 : decode cX10_storeOf 139 = .ok (.iload_n 1, 1) := by decide +kernel
theorem dX10_storeOf_140 : decode cX10_storeOf 140 = .ok (.iaload, 1) := by decide +kernel
theorem dX10_storeOf_141 : decode cX10_storeOf 141 = .ok (.invokestatic 159, 3) := by decide +kernel
theorem dX10_storeOf_144 : decode cX10_storeOf 144 = .ok (.ireturn, 1) := by decide +kernel
set_option maxRecDepth 20000 in
theorem ggX10_overlapOf_X1_find : GoodIn wsX10_overlapOf wsX1_find := goodIn_r _ [8, 9, 10, 11, 6, 12, 13, 14, 15, 16, 17, 18, 19, 20, 21, 22, 23, 24, 25, 26, 27, 28, 29, 30, 31, 32, 33, 34, 35, 92, 93, 94, 95, 96, 97, 98, 99, 100, 101, 102, 103] (by decide +kernel) (by decide +kernel)
set_option maxRecDepth 20000 in
theorem gX10_overlapOf_X1_find_n196 : GoodIn wsX10_overlapOf (wsX1_find) := ggX10_overlapOf_X1_find
set_option maxRecDepth 20000 in
theorem ggX10_overlapOf_X9_lengthOf : GoodIn wsX10_overlapOf wsX9_lengthOf := goodIn_r _ [30] (by decide +kernel) (by decide +kernel)
set_option maxRecDepth 20000 in
theorem gX10_overlapOf_X9_lengthOf_n159 : GoodIn wsX10_overlapOf (wsX9_lengthOf) := ggX10_overlapOf_X9_lengthOf
set_option maxRecDepth 20000 in
theorem ggX10_overlapOf_X1_verdict : GoodIn wsX10_overlapOf wsX1_verdict := goodIn_r _ [38, 39, 40, 41, 42, 43, 6, 44, 16, 13, 45, 18, 46, 47, 48, 49, 34, 29, 27, 30, 26, 28, 50, 51, 52, 53, 54, 55, 56, 57, 58, 59, 60, 61, 62, 63, 64, 65, 21, 66, 31, 32, 33, 35, 67, 68, 69, 70, 71, 72, 73, 74, 75, 76, 77, 14, 15, 86, 87, 88, 89, 90, 91, 104, 105, 106, 107, 108, 92, 93, 94, 95, 96, 97, 98, 99, 100, 101, 102, 103] (by decide +kernel) (by decide +kernel)
set_option maxRecDepth 20000 in
theorem gX10_overlapOf_X1_verdict_n210 : GoodIn wsX10_overlapOf (wsX1_verdict) := ggX10_overlapOf_X1_verdict
set_option maxRecDepth 20000 in
theorem ggX10_overlapOf_X1_firstWord : GoodIn wsX10_overlapOf wsX1_firstWord := goodIn_r _ [44, 16, 13, 45, 18, 46, 47, 48, 49, 34, 29, 27, 30, 26, 28, 92, 93, 94, 95, 96, 97, 98, 99, 100, 101, 102, 103] (by decide +kernel) (by decide +kernel)
set_option maxRecDepth 20000 in
theorem gX10_overlapOf_X1_firstWord_n214 : GoodIn wsX10_overlapOf (wsX1_firstWord) := ggX10_overlapOf_X1_firstWord
set_option maxRecDepth 20000 in
theorem ggX10_overlapOf_X1_secondWord : GoodIn wsX10_overlapOf wsX1_secondWord := goodIn_r _ [77, 16, 14, 15, 45, 18, 46, 47, 48, 49, 34, 29, 27, 30, 26, 28, 92, 93, 94, 95, 96, 97, 98, 99, 100, 101, 102, 103] (by decide +kernel) (by decide +kernel)
set_option maxRecDepth 20000 in
theorem gX10_overlapOf_X1_secondWord_n218 : GoodIn wsX10_overlapOf (wsX1_secondWord) := ggX10_overlapOf_X1_secondWord
theorem dX10_overlapOf_0 : decode cX10_overlapOf 0 = .ok (.iload_n 2, 1) := by decide +kernel
theorem dX10_overlapOf_1 : decode cX10_overlapOf 1 = .ok (.ifCond .lt 27, 3) := by decide +kernel
theorem dX10_overlapOf_4 : decode cX10_overlapOf 4 = .ok (.iload_n 2, 1) := by decide +kernel
theorem dX10_overlapOf_5 : decode cX10_overlapOf 5 = .ok (.bipush 6, 2) := by decide +kernel
theorem dX10_overlapOf_7 : decode cX10_overlapOf 7 = .ok (.if_icmp .gt 21, 3) := by decide +kernel
theorem dX10_overlapOf_10 : decode cX10_overlapOf 10 = .ok (.aload_n 0, 1) := by decide +kernel
theorem dX10_overlapOf_11 : decode cX10_overlapOf 11 = .ok (.getfield 43, 3) := by decide +kernel
theorem dX10_overlapOf_14 : decode cX10_overlapOf 14 = .ok (.aload_n 0, 1) := by decide +kernel
theorem dX10_overlapOf_15 : decode cX10_overlapOf 15 = .ok (.getfield 10, 3) := by decide +kernel
theorem dX10_overlapOf_18 : decode cX10_overlapOf 18 = .ok (.getfield 61, 3) := by decide +kernel
theorem dX10_overlapOf_21 : decode cX10_overlapOf 21 = .ok (.iload_n 1, 1) := by decide +kernel
theorem dX10_overlapOf_22 : decode cX10_overlapOf 22 = .ok (.invokevirtual 196, 3) := by decide +kernel
theorem dX10_overlapOf_25 : decode cX10_overlapOf 25 = .ok (.ifCond .ne 6, 3) := by decide +kernel
theorem dX10_overlapOf_28 : decode cX10_overlapOf 28 = .ok (.ldc 71, 2) := by decide +kernel
theorem dX10_overlapOf_30 : decode cX10_overlapOf 30 = .ok (.ireturn, 1) := by decide +kernel
theorem dX10_overlapOf_31 : decode cX10_overlapOf 31 = .ok (.iload_n 2, 1) := by decide +kernel
theorem dX10_overlapOf_32 : decode cX10_overlapOf 32 = .ok (.tableswitch 109 0 5 #[40, 48, 56, 64, 75, 91], 40) := by decide +kernel
theorem dX10_overlapOf_72 : decode cX10_overlapOf 72 = .ok (.aload_n 0, 1) := by decide +kernel
theorem dX10_overlapOf_73 : decode cX10_overlapOf 73 = .ok (.getfield 43, 3) := by decide +kernel
theorem dX10_overlapOf_76 : decode cX10_overlapOf 76 = .ok (.getfield 200, 3) := by decide +kernel
theorem dX10_overlapOf_79 : decode cX10_overlapOf 79 = .ok (.ireturn, 1) := by decide +kernel
theorem dX10_overlapOf_80 : decode cX10_overlapOf 80 = .ok (.aload_n 0, 1) := by decide +kernel
theorem dX10_overlapOf_81 : decode cX10_overlapOf 81 = .ok (.getfield 43, 3) := by decide +kernel
theorem dX10_overlapOf_84 : decode cX10_overlapOf 84 = .ok (.getfield 203, 3) := by decide +kernel
theorem dX10_overlapOf_87 : decode cX10_overlapOf 87 = .ok (.ireturn, 1) := by decide +kernel
theorem dX10_overlapOf_88 : decode cX10_overlapOf 88 = .ok (.aload_n 0, 1) := by decide +kernel
theorem dX10_overlapOf_89 : decode cX10_overlapOf 89 = .ok (.getfield 43, 3) := by decide +kernel
theorem dX10_overlapOf_92 : decode cX10_overlapOf 92 = .ok (.getfield 206, 3) := by decide +kernel
theorem dX10_overlapOf_95 : decode cX10_overlapOf 95 = .ok (.ireturn, 1) := by decide +kernel
theorem dX10_overlapOf_96 : decode cX10_overlapOf 96 = .ok (.aload_n 0, 1) := by decide +kernel
theorem dX10_overlapOf_97 : decode cX10_overlapOf 97 = .ok (.getfield 43, 3) := by decide +kernel
theorem dX10_overlapOf_100 : decode cX10_overlapOf 100 = .ok (.getfield 209, 3) := by decide +kernel
theorem dX10_overlapOf_103 : decode cX10_overlapOf 103 = .ok (.invokestatic 159, 3) := by decide +kernel
theorem dX10_overlapOf_106 : decode cX10_overlapOf 106 = .ok (.ireturn, 1) := by decide +kernel
theorem dX10_overlapOf_107 : decode cX10_overlapOf 107 = .ok (.aload_n 0, 1) := by decide +kernel
theorem dX10_overlapOf_108 : decode cX10_overlapOf 108 = .ok (.getfield 43, 3) := by decide +kernel
theorem dX10_overlapOf_111 : decode cX10_overlapOf 111 = .ok (.aload_n 0, 1) := by decide +kernel
theorem dX10_overlapOf_112 : decode cX10_overlapOf 112 = .ok (.getfield 10, 3) := by decide +kernel
theorem dX10_overlapOf_115 : decode cX10_overlapOf 115 = .ok (.aload_n 0, 1) := by decide +kernel
theorem dX10_overlapOf_116 : decode cX10_overlapOf 116 = .ok (.getfield 29, 3) := by decide +kernel
theorem dX10_overlapOf_119 : decode cX10_overlapOf 119 = .ok (.invokevirtual 210, 3) := by decide +kernel
theorem dX10_overlapOf_122 : decode cX10_overlapOf 122 = .ok (.ireturn, 1) := by decide +kernel
theorem dX10_overlapOf_123 : decode cX10_overlapOf 123 = .ok (.aload_n 0, 1) := by decide +kernel
theorem dX10_overlapOf_124 : decode cX10_overlapOf 124 = .ok (.getfield 43, 3) := by decide +kernel
theorem dX10_overlapOf_127 : decode cX10_overlapOf 127 = .ok (.aload_n 0, 1) := by decide +kernel
theorem dX10_overlapOf_128 : decode cX10_overlapOf 128 = .ok (.getfield 10, 3) := by decide +kernel
theorem dX10_overlapOf_131 : decode cX10_overlapOf 131 = .ok (.getfield 61, 3) := by decide +kernel
theorem dX10_overlapOf_134 : decode cX10_overlapOf 134 = .ok (.invokevirtual 214, 3) := by decide +kernel
theorem dX10_overlapOf_137 : decode cX10_overlapOf 137 = .ok (.invokestatic 159, 3) := by decide +kernel
theorem dX10_overlapOf_140 : decode cX10_overlapOf 140 = .ok (.ireturn, 1) := by decide +kernel
theorem dX10_overlapOf_141 : decode cX10_overlapOf 141 = .ok (.aload_n 0, 1) := by decide +kernel
theorem dX10_overlapOf_142 : decode cX10_overlapOf 142 = .ok (.getfield 43, 3) := by decide +kernel
theorem dX10_overlapOf_145 : decode cX10_overlapOf 145 = .ok (.aload_n 0, 1) := by decide +kernel
theorem dX10_overlapOf_146 : decode cX10_overlapOf 146 = .ok (.getfield 10, 3) := by decide +kernel
theorem dX10_overlapOf_149 : decode cX10_overlapOf 149 = .ok (.getfield 61, 3) := by decide +kernel
theorem dX10_overlapOf_152 : decode cX10_overlapOf 152 = .ok (.invokevirtual 218, 3) := by decide +kernel
theorem dX10_overlapOf_155 : decode cX10_overlapOf 155 = .ok (.invokestatic 159, 3) := by decide +kernel
theorem dX10_overlapOf_158 : decode cX10_overlapOf 158 = .ok (.ireturn, 1) := by decide +kernel
set_option maxRecDepth 20000 in
theorem ggX10_complete_X10_startTrial : GoodIn wsX10_complete wsX10_startTrial := goodIn_r _ [17, 3, 18, 19, 20, 21, 22, 23, 24, 25, 26, 27, 28, 29, 30, 31, 32, 33, 34, 35, 36, 37, 38, 39, 40, 41, 42, 43, 44, 45, 46, 47, 48, 49, 50, 144, 145, 146, 147, 148, 149, 150, 151, 158, 159, 160, 161, 162, 163, 164, 165, 166, 167, 168, 169, 170, 171, 172] (by decide +kernel) (by decide +kernel)
set_option maxRecDepth 20000 in
theorem gX10_complete_X10_startTrial : GoodIn wsX10_complete (wsV RX10 72 RX10 yX10_startTrial wsX10_startTrial) := goodIn_app (goodIn_of _ (by decide +kernel)) ggX10_complete_X10_startTrial
set_option maxRecDepth 20000 in
theorem ggX10_complete_X1_findParting : GoodIn wsX10_complete wsX1_findParting := goodIn_r _ [54, 55, 56, 57, 52, 58, 59, 60, 61, 62, 63, 30, 64, 65, 42, 66, 67, 68, 69, 70, 71, 72, 73, 74, 75, 76, 77, 39, 33, 78, 79, 80, 81, 82, 83, 84, 85, 86, 87, 88, 89, 90, 38, 40, 91, 92, 93, 94, 95, 96, 97, 98, 99, 100, 101, 102, 103, 104, 105, 106, 107, 108, 109, 110, 111, 112, 113, 114, 115, 116, 117, 118, 158, 159, 160, 161, 162, 163, 152, 153, 154, 155, 156, 157, 164, 165, 166, 167, 168, 169, 173, 174, 175, 176, 177] (by decide +kernel) (by decide +kernel)
set_option maxRecDepth 20000 in
theorem gX10_complete_X1_findParting_n221 : GoodIn wsX10_complete (wsX1_findParting) := ggX10_complete_X1_findParting
set_option maxRecDepth 20000 in
theorem ggX10_complete_X4_isFull : GoodIn wsX10_complete wsX4_isFull := goodIn_r _ [121, 42, 164, 165, 166, 167, 168, 169] (by decide +kernel) (by decide +kernel)
set_option maxRecDepth 20000 in
theorem gX10_complete_X4_isFull_n239 : GoodIn wsX10_complete (wsX4_isFull) := ggX10_complete_X4_isFull
set_option maxRecDepth 20000 in
theorem ggX10_complete_X9_lengthOf : GoodIn wsX10_complete wsX9_lengthOf := goodIn_r _ [74] (by decide +kernel) (by decide +kernel)
set_option maxRecDepth 20000 in
theorem gX10_complete_X9_lengthOf_n159 : GoodIn wsX10_complete (wsX9_lengthOf) := ggX10_complete_X9_lengthOf
set_option maxRecDepth 20000 in
theorem ggX10_complete_X6_addRule : GoodIn wsX10_complete wsX6_addRule := goodIn_r _ [124, 23, 24, 125, 30, 126, 127, 33, 42, 38, 39, 40, 41, 128, 119, 120, 121, 73, 71, 74, 158, 159, 160, 161, 162, 163, 170, 171, 172, 164, 165, 166, 167, 168, 169] (by decide +kernel) (by decide +kernel)
set_option maxRecDepth 20000 in
theorem gX10_complete_X6_addRule_n243 : GoodIn wsX10_complete (wsX6_addRule) := ggX10_complete_X6_addRule
set_option maxRecDepth 20000 in
theorem ggX10_complete_X10_keepTrial : GoodIn wsX10_complete wsX10_keepTrial := goodIn_r _ [132, 133, 18, 3, 134, 135, 136, 137, 138, 139, 140, 141, 142, 143, 19, 20, 21, 22, 23, 24, 25, 26, 27, 28, 29, 30, 31, 32, 33, 34, 35, 36, 37, 38, 39, 40, 41, 42, 43, 44, 45, 46, 47, 48, 49, 50, 144, 145, 146, 147, 148, 149, 150, 151, 178, 179, 158, 159, 160, 161, 162, 163, 164, 165, 166, 167, 168, 169, 170, 171, 172] (by decide +kernel) (by decide +kernel)
set_option maxRecDepth 20000 in
theorem gX10_complete_X10_keepTrial : GoodIn wsX10_complete (wsV RX10 79 RX10 yX10_keepTrial wsX10_keepTrial) := goodIn_app (goodIn_of _ (by decide +kernel)) ggX10_complete_X10_keepTrial
theorem dX10_complete_0 : decode cX10_complete 0 = .ok (.iload_n 1, 1) := by decide +kernel
theorem dX10_complete_1 : decode cX10_complete 1 = .ok (.iconst 1, 1) := by decide +kernel
theorem dX10_complete_2 : decode cX10_complete 2 = .ok (.if_icmp .lt 9, 3) := by decide +kernel
theorem dX10_complete_5 : decode cX10_complete 5 = .ok (.iload_n 1, 1) := by decide +kernel
theorem dX10_complete_6 : decode cX10_complete 6 = .ok (.bipush 10, 2) := by decide +kernel
theorem dX10_complete_8 : decode cX10_complete 8 = .ok (.if_icmp .le 6, 3) := by decide +kernel
theorem dX10_complete_11 : decode cX10_complete 11 = .ok (.ldc 71, 2) := by decide +kernel
theorem dX10_complete_13 : decode cX10_complete 13 = .ok (.ireturn, 1) := by decide +kernel
theorem dX10_complete_14 : decode cX10_complete 14 = .ok (.aload_n 0, 1) := by decide +kernel
theorem dX10_complete_15 : decode cX10_complete 15 = .ok (.invokevirtual 72, 3) := by decide +kernel
theorem dX10_complete_18 : decode cX10_complete 18 = .ok (.iconst 0, 1) := by decide +kernel
theorem dX10_complete_19 : decode cX10_complete 19 = .ok (.istore_n 2, 1) := by decide +kernel
theorem dX10_complete_20 : decode cX10_complete 20 = .ok (.iload_n 2, 1) := by decide +kernel
theorem dX10_complete_21 : decode cX10_complete 21 = .ok (.iload_n 1, 1) := by decide +kernel
theorem dX10_complete_22 : decode cX10_complete 22 = .ok (.if_icmp .ge 98, 3) := by decide +kernel
theorem dX10_complete_25 : decode cX10_complete 25 = .ok (.aload_n 0, 1) := by decide +kernel
theorem dX10_complete_26 : decode cX10_complete 26 = .ok (.getfield 43, 3) := by decide +kernel
theorem dX10_complete_29 : decode cX10_complete 29 = .ok (.aload_n 0, 1) := by decide +kernel
theorem dX10_complete_30 : decode cX10_complete 30 = .ok (.getfield 16, 3) := by decide +kernel
theorem dX10_complete_33 : decode cX10_complete 33 = .ok (.aload_n 0, 1) := by decide +kernel
theorem dX10_complete_34 : decode cX10_complete 34 = .ok (.getfield 29, 3) := by decide +kernel
theorem dX10_complete_37 : decode cX10_complete 37 = .ok (.invokevirtual 221, 3) := by decide +kernel
theorem dX10_complete_40 : decode cX10_complete 40 = .ok (.ifCond .eq 80, 3) := by decide +kernel
theorem dX10_complete_43 : decode cX10_complete 43 = .ok (.aload_n 0, 1) := by decide +kernel
theorem dX10_complete_44 : decode cX10_complete 44 = .ok (.getfield 43, 3) := by decide +kernel
theorem dX10_complete_47 : decode cX10_complete 47 = .ok (.getfield 225, 3) := by decide +kernel
theorem dX10_complete_50 : decode cX10_complete 50 = .ok (.aload_n 0, 1) := by decide +kernel
theorem dX10_complete_51 : decode cX10_complete 51 = .ok (.getfield 43, 3) := by decide +kernel
theorem dX10_complete_54 : decode cX10_complete 54 = .ok (.getfield 228, 3) := by decide +kernel
theorem dX10_complete_57 : decode cX10_complete 57 = .ok (.invokestatic 231, 3) := by decide +kernel
theorem dX10_complete_60 : decode cX10_complete 60 = .ok (.istore_n 3, 1) := by decide +kernel
theorem dX10_complete_61 : decode cX10_complete 61 = .ok (.aload_n 0, 1) := by decide +kernel
theorem dX10_complete_62 : decode cX10_complete 62 = .ok (.getfield 43, 3) := by decide +kernel
theorem dX10_complete_65 : decode cX10_complete 65 = .ok (.getfield 225, 3) := by decide +kernel
theorem dX10_complete_68 : decode cX10_complete 68 = .ok (.aload_n 0, 1) := by decide +kernel
theorem dX10_complete_69 : decode cX10_complete 69 = .ok (.getfield 43, 3) := by decide +kernel
theorem dX10_complete_72 : decode cX10_complete 72 = .ok (.getfield 228, 3) := by decide +kernel
theorem dX10_complete_75 : decode cX10_complete 75 = .ok (.invokestatic 236, 3) := by decide +kernel
theorem dX10_complete_78 : decode cX10_complete 78 = .ok (.istore 4, 2) := by decide +kernel
theorem dX10_complete_80 : decode cX10_complete 80 = .ok (.aload_n 0, 1) := by decide +kernel
theorem dX10_complete_81 : decode cX10_complete 81 = .ok (.getfield 16, 3) := by decide +kernel
theorem dX10_complete_84 : decode cX10_complete 84 = .ok (.getfield 61, 3) := by decide +kernel
theorem dX10_complete_87 : decode cX10_complete 87 = .ok (.invokevirtual 239, 3) := by decide +kernel
theorem dX10_complete_90 : decode cX10_complete 90 = .ok (.ifCond .ne 11, 3) := by decide +kernel
theorem dX10_complete_93 : decode cX10_complete 93 = .ok (.iload_n 3, 1) := by decide +kernel
theorem dX10_complete_94 : decode cX10_complete 94 = .ok (.invokestatic 159, 3) := by decide +kernel
theorem dX10_complete_97 : decode cX10_complete 97 = .ok (.iconst 4, 1) := by decide +kernel
theorem dX10_complete_98 : decode cX10_complete 98 = .ok (.if_icmp .le 6, 3) := by decide +kernel
theorem dX10_complete_101 : decode cX10_complete 101 = .ok (.ldc 172, 2) := by decide +kernel
theorem dX10_complete_103 : decode cX10_complete 103 = .ok (.ireturn, 1) := by decide +kernel
theorem dX10_complete_104 : decode cX10_complete 104 = .ok (.aload_n 0, 1) := by decide +kernel
theorem dX10_complete_105 : decode cX10_complete 105 = .ok (.getfield 16, 3) := by decide +kernel
theorem dX10_complete_108 : decode cX10_complete 108 = .ok (.iload_n 3, 1) := by decide +kernel
theorem dX10_complete_109 : decode cX10_complete 109 = .ok (.iload 4, 2) := by decide +kernel
theorem dX10_complete_111 : decode cX10_complete 111 = .ok (.invokevirtual 243, 3) := by decide +kernel
theorem dX10_complete_114 : decode cX10_complete 114 = .ok (.iinc 2 1, 3) := by decide +kernel
theorem dX10_complete_117 : decode cX10_complete 117 = .ok (.goto (-97), 3) := by decide +kernel
theorem dX10_complete_120 : decode cX10_complete 120 = .ok (.aload_n 0, 1) := by decide +kernel
theorem dX10_complete_121 : decode cX10_complete 121 = .ok (.invokevirtual 79, 3) := by decide +kernel
theorem dX10_complete_124 : decode cX10_complete 124 = .ok (.iload_n 2, 1) := by decide +kernel
theorem dX10_complete_125 : decode cX10_complete 125 = .ok (.ireturn, 1) := by decide +kernel
set_option maxRecDepth 20000 in
theorem ggX10_count_X9_lengthOf : GoodIn wsX10_count wsX9_lengthOf := goodIn_r _ [9] (by decide +kernel) (by decide +kernel)
set_option maxRecDepth 20000 in
theorem gX10_count_X9_lengthOf_n159 : GoodIn wsX10_count (wsX9_lengthOf) := ggX10_count_X9_lengthOf
set_option maxRecDepth 20000 in
theorem ggX10_count_X1_howMany : GoodIn wsX10_count wsX1_howMany := goodIn_r _ [13, 14, 15, 16, 11, 17, 18, 19, 20, 21, 22, 23, 24, 25, 26, 27, 28, 29, 30, 31, 8, 32, 7, 9, 33, 34, 35, 36, 37, 116, 117, 118, 119, 120, 121, 98, 99, 100, 101, 102, 103] (by decide +kernel) (by decide +kernel)
set_option maxRecDepth 20000 in
theorem gX10_count_X1_howMany_n251 : GoodIn wsX10_count (wsX1_howMany) := ggX10_count_X1_howMany
set_option maxRecDepth 20000 in
theorem ggX10_count_X1_howManyAre : GoodIn wsX10_count wsX1_howManyAre := goodIn_r _ [40, 14, 15, 16, 11, 17, 18, 19, 20, 21, 22, 23, 24, 25, 26, 27, 28, 29, 30, 31, 8, 32, 7, 9, 33, 34, 35, 36, 37, 41, 42, 43, 44, 45, 46, 47, 48, 49, 50, 51, 52, 53, 54, 55, 56, 57, 58, 59, 60, 61, 62, 63, 64, 65, 66, 67, 68, 69, 70, 71, 72, 73, 74, 75, 76, 77, 78, 79, 80, 81, 82, 83, 92, 93, 94, 95, 96, 97, 116, 117, 118, 119, 120, 121, 98, 99, 100, 101, 102, 103, 122, 123, 124, 125, 126] (by decide +kernel) (by decide +kernel)
set_option maxRecDepth 20000 in
theorem gX10_count_X1_howManyAre_n254 : GoodIn wsX10_count (wsX1_howManyAre) := ggX10_count_X1_howManyAre
theorem dX10_count_0 : decode cX10_count 0 = .ok (.iload_n 1, 1) := by decide +kernel
theorem dX10_count_1 : decode cX10_count 1 = .ok (.tableswitch 181 0 10 #[59, 70, 81, 89, 100, 108, 116, 131, 148, 165, 173], 59) := by decide +kernel
theorem dX10_count_60 : decode cX10_count 60 = .ok (.aload_n 0, 1) := by decide +kernel
theorem dX10_count_61 : decode cX10_count 61 = .ok (.getfield 10, 3) := by decide +kernel
theorem dX10_count_64 : decode cX10_count 64 = .ok (.getfield 61, 3) := by decide +kernel
theorem dX10_count_67 : decode cX10_count 67 = .ok (.getfield 82, 3) := by decide +kernel
theorem dX10_count_70 : decode cX10_count 70 = .ok (.ireturn, 1) := by decide +kernel
theorem dX10_count_71 : decode cX10_count 71 = .ok (.aload_n 0, 1) := by decide +kernel
theorem dX10_count_72 : decode cX10_count 72 = .ok (.getfield 10, 3) := by decide +kernel
theorem dX10_count_75 : decode cX10_count 75 = .ok (.getfield 115, 3) := by decide +kernel
theorem dX10_count_78 : decode cX10_count 78 = .ok (.invokestatic 159, 3) := by decide +kernel
theorem dX10_count_81 : decode cX10_count 81 = .ok (.ireturn, 1) := by decide +kernel
theorem dX10_count_82 : decode cX10_count 82 = .ok (.aload_n 0, 1) := by decide +kernel
theorem dX10_count_83 : decode cX10_count 83 = .ok (.getfield 10, 3) := by decide +kernel
theorem dX10_count_86 : decode cX10_count 86 = .ok (.getfield 86, 3) := by decide +kernel
theorem dX10_count_89 : decode cX10_count 89 = .ok (.ireturn, 1) := by decide +kernel
theorem dX10_count_90 : decode cX10_count 90 = .ok (.aload_n 0, 1) := by decide +kernel
theorem dX10_count_91 : decode cX10_count 91 = .ok (.getfield 10, 3) := by decide +kernel
theorem dX10_count_94 : decode cX10_count 94 = .ok (.getfield 183, 3) := by decide +kernel
theorem dX10_count_97 : decode cX10_count 97 = .ok (.getfield 187, 3) := by decide +kernel
theorem dX10_count_100 : decode cX10_count 100 = .ok (.ireturn, 1) := by decide +kernel
theorem dX10_count_101 : decode cX10_count 101 = .ok (.aload_n 0, 1) := by decide +kernel
theorem dX10_count_102 : decode cX10_count 102 = .ok (.getfield 10, 3) := by decide +kernel
theorem dX10_count_105 : decode cX10_count 105 = .ok (.getfield 247, 3) := by decide +kernel
theorem dX10_count_108 : decode cX10_count 108 = .ok (.ireturn, 1) := by decide +kernel
theorem dX10_count_109 : decode cX10_count 109 = .ok (.aload_n 0, 1) := by decide +kernel
theorem dX10_count_110 : decode cX10_count 110 = .ok (.getfield 10, 3) := by decide +kernel
theorem dX10_count_113 : decode cX10_count 113 = .ok (.getfield 250, 3) := by decide +kernel
theorem dX10_count_116 : decode cX10_count 116 = .ok (.ireturn, 1) := by decide +kernel
theorem dX10_count_117 : decode cX10_count 117 = .ok (.aload_n 0, 1) := by decide +kernel
theorem dX10_count_118 : decode cX10_count 118 = .ok (.getfield 43, 3) := by decide +kernel
theorem dX10_count_121 : decode cX10_count 121 = .ok (.aload_n 0, 1) := by decide +kernel
theorem dX10_count_122 : decode cX10_count 122 = .ok (.getfield 10, 3) := by decide +kernel
theorem dX10_count_125 : decode cX10_count 125 = .ok (.getfield 61, 3) := by decide +kernel
theorem dX10_count_128 : decode cX10_count 128 = .ok (.invokevirtual 251, 3) := by decide +kernel
theorem dX10_count_131 : decode cX10_count 131 = .ok (.ireturn, 1) := by decide +kernel
theorem dX10_count_132 : decode cX10_count 132 = .ok (.aload_n 0, 1) := by decide +kernel
theorem dX10_count_133 : decode cX10_count 133 = .ok (.getfield 43, 3) := by decide +kernel
theorem dX10_count_136 : decode cX10_count 136 = .ok (.iconst 1, 1) := by decide +kernel
theorem dX10_count_137 : decode cX10_count 137 = .ok (.aload_n 0, 1) := by decide +kernel
theorem dX10_count_138 : decode cX10_count 138 = .ok (.getfield 10, 3) := by decide +kernel
theorem dX10_count_141 : decode cX10_count 141 = .ok (.aload_n 0, 1) := by decide +kernel
theorem dX10_count_142 : decode cX10_count 142 = .ok (.getfield 29, 3) := by decide +kernel
theorem dX10_count_145 : decode cX10_count 145 = .ok (.invokevirtual 254, 3) := by decide +kernel
theorem dX10_count_148 : decode cX10_count 148 = .ok (.ireturn, 1) := by decide +kernel
theorem dX10_count_149 : decode cX10_count 149 = .ok (.aload_n 0, 1) := by decide +kernel
theorem dX10_count_150 : decode cX10_count 150 = .ok (.getfield 43, 3) := by decide +kernel
theorem dX10_count_153 : decode cX10_count 153 = .ok (.iconst 2, 1) := by decide +kernel
theorem dX10_count_154 : decode cX10_count 154 = .ok (.aload_n 0, 1) := by decide +kernel
theorem dX10_count_155 : decode cX10_count 155 = .ok (.getfield 10, 3) := by decide +kernel
theorem dX10_count_158 : decode cX10_count 158 = .ok (.aload_n 0, 1) := by decide +kernel
theorem dX10_count_159 : decode cX10_count 159 = .ok (.getfield 29, 3) := by decide +kernel
theorem dX10_count_162 : decode cX10_count 162 = .ok (.invokevirtual 254, 3) := by decide +kernel
theorem dX10_count_165 : decode cX10_count 165 = .ok (.ireturn, 1) := by decide +kernel
theorem dX10_count_166 : decode cX10_count 166 = .ok (.aload_n 0, 1) := by decide +kernel
theorem dX10_count_167 : decode cX10_count 167 = .ok (.getfield 22, 3) := by decide +kernel
theorem dX10_count_170 : decode cX10_count 170 = .ok (.getfield 258, 3) := by decide +kernel
theorem dX10_count_173 : decode cX10_count 173 = .ok (.ireturn, 1) := by decide +kernel
theorem dX10_count_174 : decode cX10_count 174 = .ok (.aload_n 0, 1) := by decide +kernel
theorem dX10_count_175 : decode cX10_count 175 = .ok (.getfield 50, 3) := by decide +kernel
theorem dX10_count_178 : decode cX10_count 178 = .ok (.getfield 259, 3) := by decide +kernel
theorem dX10_count_181 : decode cX10_count 181 = .ok (.ireturn, 1) := by decide +kernel
theorem dX10_count_182 : decode cX10_count 182 = .ok (.ldc 71, 2) := by decide +kernel
theorem dX10_count_184 : decode cX10_count 184 = .ok (.ireturn, 1) := by decide +kernel
set_option maxRecDepth 20000 in
theorem ggX10_undo_X0_restoreTo : GoodIn wsX10_undo wsX0_restoreTo := goodIn_r _ [7, 8, 9, 10, 11, 12, 13, 14, 15, 16, 17, 18, 19, 20, 21, 22, 23, 24, 25, 26, 27, 28, 29, 30, 31, 32, 33, 34, 35, 36, 37, 38, 39, 40, 41, 50, 51, 52, 53, 54, 55, 56, 57, 58, 59, 60, 61, 62, 63, 64, 65, 66] (by decide +kernel) (by decide +kernel)
set_option maxRecDepth 20000 in
theorem gX10_undo_X0_restoreTo_n261 : GoodIn wsX10_undo (wsX0_restoreTo) := ggX10_undo_X0_restoreTo
theorem dX10_undo_0 : decode cX10_undo 0 = .ok (.aload_n 0, 1) := by decide +kernel
theorem dX10_undo_1 : decode cX10_undo 1 = .ok (.getfield 22, 3) := by decide +kernel
theorem dX10_undo_4 : decode cX10_undo 4 = .ok (.getfield 258, 3) := by decide +kernel
theorem dX10_undo_7 : decode cX10_undo 7 = .ok (.ifCond .ne 7, 3) := by decide +kernel
theorem dX10_undo_10 : decode cX10_undo 10 = .ok (.ldc_w 260, 3) := by decide +kernel
theorem dX10_undo_13 : decode cX10_undo 13 = .ok (.ireturn, 1) := by decide +kernel
theorem dX10_undo_14 : decode cX10_undo 14 = .ok (.aload_n 0, 1) := by decide +kernel
theorem dX10_undo_15 : decode cX10_undo 15 = .ok (.getfield 22, 3) := by decide +kernel
theorem dX10_undo_18 : decode cX10_undo 18 = .ok (.aload_n 0, 1) := by decide +kernel
theorem dX10_undo_19 : decode cX10_undo 19 = .ok (.getfield 10, 3) := by decide +kernel
theorem dX10_undo_22 : decode cX10_undo 22 = .ok (.invokevirtual 261, 3) := by decide +kernel
theorem dX10_undo_25 : decode cX10_undo 25 = .ok (.aload_n 0, 1) := by decide +kernel
theorem dX10_undo_26 : decode cX10_undo 26 = .ok (.getfield 22, 3) := by decide +kernel
theorem dX10_undo_29 : decode cX10_undo 29 = .ok (.getfield 258, 3) := by decide +kernel
theorem dX10_undo_32 : decode cX10_undo 32 = .ok (.ireturn, 1) := by decide +kernel
set_option maxRecDepth 20000 in
theorem ggX10_type_X8_isFull : GoodIn wsX10_type wsX8_isFull := goodIn_r _ [7, 8, 22, 23, 24, 25, 26, 27, 28] (by decide +kernel) (by decide +kernel)
set_option maxRecDepth 20000 in
theorem gX10_type_X8_isFull_n265 : GoodIn wsX10_type (wsX8_isFull) := ggX10_type_X8_isFull
set_option maxRecDepth 20000 in
theorem ggX10_type_X8_append : GoodIn wsX10_type wsX8_append := goodIn_r _ [11, 12, 8, 13, 4, 6, 5, 7, 22, 23, 24, 25, 26, 27, 28] (by decide +kernel) (by decide +kernel)
set_option maxRecDepth 20000 in
theorem gX10_type_X8_append_n266 : GoodIn wsX10_type (wsX8_append) := ggX10_type_X8_append
theorem dX10_type_0 : decode cX10_type 0 = .ok (.iload_n 1, 1) := by decide +kernel
theorem dX10_type_1 : decode cX10_type 1 = .ok (.bipush 32, 2) := by decide +kernel
theorem dX10_type_3 : decode cX10_type 3 = .ok (.if_icmp .lt 9, 3) := by decide +kernel
theorem dX10_type_6 : decode cX10_type 6 = .ok (.iload_n 1, 1) := by decide +kernel
theorem dX10_type_7 : decode cX10_type 7 = .ok (.bipush 126, 2) := by decide +kernel
theorem dX10_type_9 : decode cX10_type 9 = .ok (.if_icmp .le 6, 3) := by decide +kernel
theorem dX10_type_12 : decode cX10_type 12 = .ok (.ldc 71, 2) := by decide +kernel
theorem dX10_type_14 : decode cX10_type 14 = .ok (.ireturn, 1) := by decide +kernel
theorem dX10_type_15 : decode cX10_type 15 = .ok (.aload_n 0, 1) := by decide +kernel
theorem dX10_type_16 : decode cX10_type 16 = .ok (.getfield 50, 3) := by decide +kernel
theorem dX10_type_19 : decode cX10_type 19 = .ok (.invokevirtual 265, 3) := by decide +kernel
theorem dX10_type_22 : decode cX10_type 22 = .ok (.ifCond .eq 6, 3) := by decide +kernel
theorem dX10_type_25 : decode cX10_type 25 = .ok (.ldc 172, 2) := by decide +kernel
theorem dX10_type_27 : decode cX10_type 27 = .ok (.ireturn, 1) := by decide +kernel
theorem dX10_type_28 : decode cX10_type 28 = .ok (.aload_n 0, 1) := by decide +kernel
theorem dX10_type_29 : decode cX10_type 29 = .ok (.getfield 50, 3) := by decide +kernel
theorem dX10_type_32 : decode cX10_type 32 = .ok (.iload_n 1, 1) := by decide +kernel
theorem dX10_type_33 : decode cX10_type 33 = .ok (.invokevirtual 266, 3) := by decide +kernel
theorem dX10_type_36 : decode cX10_type 36 = .ok (.aload_n 0, 1) := by decide +kernel
theorem dX10_type_37 : decode cX10_type 37 = .ok (.getfield 50, 3) := by decide +kernel
theorem dX10_type_40 : decode cX10_type 40 = .ok (.getfield 259, 3) := by decide +kernel
theorem dX10_type_43 : decode cX10_type 43 = .ok (.ireturn, 1) := by decide +kernel
theorem dX10_clearText_0 : decode cX10_clearText 0 = .ok (.aload_n 0, 1) := by decide +kernel
theorem dX10_clearText_1 : decode cX10_clearText 1 = .ok (.getfield 50, 3) := by decide +kernel
theorem dX10_clearText_4 : decode cX10_clearText 4 = .ok (.getfield 259, 3) := by decide +kernel
theorem dX10_clearText_7 : decode cX10_clearText 7 = .ok (.istore_n 1, 1) := by decide +kernel
theorem dX10_clearText_8 : decode cX10_clearText 8 = .ok (.aload_n 0, 1) := by decide +kernel
theorem dX10_clearText_9 : decode cX10_clearText 9 = .ok (.getfield 50, 3) := by decide +kernel
theorem dX10_clearText_12 : decode cX10_clearText 12 = .ok (.iconst 0, 1) := by decide +kernel
theorem dX10_clearText_13 : decode cX10_clearText 13 = .ok (.putfield 259, 3) := by decide +kernel
theorem dX10_clearText_16 : decode cX10_clearText 16 = .ok (.iload_n 1, 1) := by decide +kernel
theorem dX10_clearText_17 : decode cX10_clearText 17 = .ok (.ireturn, 1) := by decide +kernel
set_option maxRecDepth 20000 in
theorem ggX10_fault_X10_startTrial : GoodIn wsX10_fault wsX10_startTrial := goodIn_r _ [11, 4, 12, 13, 14, 15, 16, 17, 18, 19, 20, 21, 22, 23, 24, 25, 26, 27, 28, 29, 30, 31, 32, 33, 34, 35, 36, 37, 38, 39, 40, 41, 42, 43, 44, 191, 192, 193, 194, 195, 196, 197, 198, 203, 204, 205, 206, 207, 208, 209, 210, 211, 212, 213, 214, 215, 216, 217] (by decide +kernel) (by decide +kernel)
set_option maxRecDepth 20000 in
theorem gX10_fault_X10_startTrial : GoodIn wsX10_fault (wsV RX10 72 RX10 yX10_startTrial wsX10_startTrial) := goodIn_app (goodIn_of _ (by decide +kernel)) ggX10_fault_X10_startTrial
set_option maxRecDepth 20000 in
theorem ggX10_fault_X5_run : GoodIn wsX10_fault wsX5_run := goodIn_r _ [48, 49, 50, 51, 52, 53, 54, 55, 56, 57, 58, 59, 60, 61, 62, 63, 64, 65, 66, 67, 68, 69, 70, 71, 72, 73, 74, 75, 76, 77, 78, 79, 80, 81, 82, 83, 84, 85, 46, 86, 87, 88, 89, 90, 91, 92, 93, 94, 95, 96, 97, 24, 98, 99, 36, 27, 32, 100, 101, 102, 103, 14, 104, 105, 17, 18, 106, 107, 108, 33, 34, 35, 109, 110, 111, 112, 113, 114, 115, 116, 117, 118, 119, 120, 121, 122, 123, 124, 125, 126, 127, 128, 129, 130, 19, 20, 131, 22, 132, 133, 134, 135, 136, 137, 138, 139, 140, 141, 142, 143, 144, 145, 146, 147, 148, 149, 150, 21, 151, 152, 38, 153, 154, 44, 41, 155, 156, 157, 43, 158, 159, 160, 161, 162, 163, 164, 165, 166, 167, 168, 169, 170, 171, 172, 173, 174, 175, 176, 177, 178, 179, 180, 181, 182, 183, 184, 185, 186, 187, 188, 189, 190, 199, 200, 201, 202, 218, 219, 220, 221, 222, 223, 224, 203, 204, 205, 206, 207, 208, 209, 210, 211, 212, 213, 214, 215, 216, 217, 225, 226, 227, 228, 229] (by decide +kernel) (by decide +kernel)
set_option maxRecDepth 20000 in
theorem gX10_fault_X5_run_n269 : GoodIn wsX10_fault (wsX5_run) := ggX10_fault_X5_run
theorem dX10_fault_0 : decode cX10_fault 0 = .ok (.iload_n 1, 1) := by decide +kernel
theorem dX10_fault_1 : decode cX10_fault 1 = .ok (.ifCond .lt 8, 3) := by decide +kernel
theorem dX10_fault_4 : decode cX10_fault 4 = .ok (.iload_n 1, 1) := by decide +kernel
theorem dX10_fault_5 : decode cX10_fault 5 = .ok (.iconst 2, 1) := by decide +kernel
theorem dX10_fault_6 : decode cX10_fault 6 = .ok (.if_icmp .le 6, 3) := by decide +kernel
theorem dX10_fault_9 : decode cX10_fault 9 = .ok (.ldc 71, 2) := by decide +kernel
theorem dX10_fault_11 : decode cX10_fault 11 = .ok (.ireturn, 1) := by decide +kernel
theorem dX10_fault_12 : decode cX10_fault 12 = .ok (.aload_n 0, 1) := by decide +kernel
theorem dX10_fault_13 : decode cX10_fault 13 = .ok (.invokevirtual 72, 3) := by decide +kernel
theorem dX10_fault_16 : decode cX10_fault 16 = .ok (.aload_n 0, 1) := by decide +kernel
theorem dX10_fault_17 : decode cX10_fault 17 = .ok (.getfield 57, 3) := by decide +kernel
theorem dX10_fault_20 : decode cX10_fault 20 = .ok (.aload_n 0, 1) := by decide +kernel
theorem dX10_fault_21 : decode cX10_fault 21 = .ok (.getfield 50, 3) := by decide +kernel
theorem dX10_fault_24 : decode cX10_fault 24 = .ok (.aload_n 0, 1) := by decide +kernel
theorem dX10_fault_25 : decode cX10_fault 25 = .ok (.getfield 16, 3) := by decide +kernel
theorem dX10_fault_28 : decode cX10_fault 28 = .ok (.aload_n 0, 1) := by decide +kernel
theorem dX10_fault_29 : decode cX10_fault 29 = .ok (.getfield 29, 3) := by decide +kernel
theorem dX10_fault_32 : decode cX10_fault 32 = .ok (.invokevirtual 269, 3) := by decide +kernel
theorem dX10_fault_35 : decode cX10_fault 35 = .ok (.aload_n 0, 1) := by decide +kernel
theorem dX10_fault_36 : decode cX10_fault 36 = .ok (.getfield 57, 3) := by decide +kernel
theorem dX10_fault_39 : decode cX10_fault 39 = .ok (.getfield 272, 3) := by decide +kernel
theorem dX10_fault_42 : decode cX10_fault 42 = .ok (.ifCond .ne 6, 3) := by decide +kernel
theorem dX10_fault_45 : decode cX10_fault 45 = .ok (.ldc 135, 2) := by decide +kernel
theorem dX10_fault_47 : decode cX10_fault 47 = .ok (.ireturn, 1) := by decide +kernel
theorem dX10_fault_48 : decode cX10_fault 48 = .ok (.iload_n 1, 1) := by decide +kernel
theorem dX10_fault_49 : decode cX10_fault 49 = .ok (.ifCond .ne 11, 3) := by decide +kernel
theorem dX10_fault_52 : decode cX10_fault 52 = .ok (.aload_n 0, 1) := by decide +kernel
theorem dX10_fault_53 : decode cX10_fault 53 = .ok (.getfield 57, 3) := by decide +kernel
theorem dX10_fault_56 : decode cX10_fault 56 = .ok (.getfield 275, 3) := by decide +kernel
theorem dX10_fault_59 : decode cX10_fault 59 = .ok (.ireturn, 1) := by decide +kernel
theorem dX10_fault_60 : decode cX10_fault 60 = .ok (.iload_n 1, 1) := by decide +kernel
theorem dX10_fault_61 : decode cX10_fault 61 = .ok (.iconst 1, 1) := by decide +kernel
theorem dX10_fault_62 : decode cX10_fault 62 = .ok (.if_icmp .ne 11, 3) := by decide +kernel
theorem dX10_fault_65 : decode cX10_fault 65 = .ok (.aload_n 0, 1) := by decide +kernel
theorem dX10_fault_66 : decode cX10_fault 66 = .ok (.getfield 57, 3) := by decide +kernel
theorem dX10_fault_69 : decode cX10_fault 69 = .ok (.getfield 272, 3) := by decide +kernel
theorem dX10_fault_72 : decode cX10_fault 72 = .ok (.ireturn, 1) := by decide +kernel
theorem dX10_fault_73 : decode cX10_fault 73 = .ok (.aload_n 0, 1) := by decide +kernel
theorem dX10_fault_74 : decode cX10_fault 74 = .ok (.getfield 57, 3) := by decide +kernel
theorem dX10_fault_77 : decode cX10_fault 77 = .ok (.getfield 272, 3) := by decide +kernel
theorem dX10_fault_80 : decode cX10_fault 80 = .ok (.iconst 2, 1) := by decide +kernel
theorem dX10_fault_81 : decode cX10_fault 81 = .ok (.if_icmp .ne 8, 3) := by decide +kernel
theorem dX10_fault_84 : decode cX10_fault 84 = .ok (.ldc 135, 2) := by decide +kernel
theorem dX10_fault_86 : decode cX10_fault 86 = .ok (.goto 10, 3) := by decide +kernel
theorem dX10_fault_89 : decode cX10_fault 89 = .ok (.aload_n 0, 1) := by decide +kernel
theorem dX10_fault_90 : decode cX10_fault 90 = .ok (.getfield 57, 3) := by decide +kernel
theorem dX10_fault_93 : decode cX10_fault 93 = .ok (.getfield 278, 3) := by decide +kernel
theorem dX10_fault_96 : decode cX10_fault 96 = .ok (.ireturn, 1) := by decide +kernel
set_option maxRecDepth 20000 in
theorem ggX10_play_X10_startTrial : GoodIn wsX10_play wsX10_startTrial := goodIn_r _ [10, 3, 11, 12, 13, 14, 15, 16, 17, 18, 19, 20, 21, 22, 23, 24, 25, 26, 27, 28, 29, 30, 31, 32, 33, 34, 35, 36, 37, 38, 39, 40, 41, 42, 43, 205, 206, 207, 208, 209, 210, 211, 212, 217, 218, 219, 220, 221, 222, 223, 224, 225, 226, 227, 228, 229, 230, 231] (by decide +kernel) (by decide +kernel)
set_option maxRecDepth 20000 in
theorem gX10_play_X10_startTrial : GoodIn wsX10_play (wsV RX10 72 RX10 yX10_startTrial wsX10_startTrial) := goodIn_app (goodIn_of _ (by decide +kernel)) ggX10_play_X10_startTrial
set_option maxRecDepth 20000 in
theorem ggX10_play_X5_run : GoodIn wsX10_play wsX5_run := goodIn_r _ [47, 48, 49, 50, 51, 52, 53, 54, 55, 56, 57, 58, 59, 60, 61, 62, 63, 64, 65, 66, 67, 68, 69, 70, 71, 72, 73, 74, 75, 76, 77, 78, 79, 80, 81, 82, 83, 84, 45, 85, 86, 87, 88, 89, 90, 91, 92, 93, 94, 95, 96, 23, 97, 98, 35, 26, 31, 99, 100, 101, 102, 13, 103, 104, 16, 17, 105, 106, 107, 32, 33, 34, 108, 109, 110, 111, 112, 113, 114, 115, 116, 117, 118, 119, 120, 121, 122, 123, 124, 125, 126, 127, 128, 129, 18, 19, 130, 21, 131, 132, 133, 134, 135, 136, 137, 138, 139, 140, 141, 142, 143, 144, 145, 146, 147, 148, 149, 20, 150, 151, 37, 152, 153, 43, 40, 154, 155, 156, 42, 157, 158, 159, 160, 161, 162, 163, 164, 165, 166, 167, 168, 169, 170, 171, 172, 173, 174, 175, 176, 177, 178, 179, 180, 181, 182, 183, 184, 185, 186, 187, 188, 189, 213, 214, 215, 216, 232, 233, 234, 235, 236, 237, 238, 217, 218, 219, 220, 221, 222, 223, 224, 225, 226, 227, 228, 229, 230, 231, 239, 240, 241, 242, 243] (by decide +kernel) (by decide +kernel)
set_option maxRecDepth 20000 in
theorem gX10_play_X5_run_n269 : GoodIn wsX10_play (wsX5_run) := ggX10_play_X5_run
set_option maxRecDepth 20000 in
theorem ggX10_play_X10_keepTrial : GoodIn wsX10_play wsX10_keepTrial := goodIn_r _ [193, 194, 11, 3, 195, 196, 197, 198, 199, 200, 201, 202, 203, 204, 12, 13, 14, 15, 16, 17, 18, 19, 20, 21, 22, 23, 24, 25, 26, 27, 28, 29, 30, 31, 32, 33, 34, 35, 36, 37, 38, 39, 40, 41, 42, 43, 205, 206, 207, 208, 209, 210, 211, 212, 244, 245, 217, 218, 219, 220, 221, 222, 223, 224, 225, 226, 227, 228, 229, 230, 231] (by decide +kernel) (by decide +kernel)
set_option maxRecDepth 20000 in
theorem gX10_play_X10_keepTrial : GoodIn wsX10_play (wsV RX10 79 RX10 yX10_keepTrial wsX10_keepTrial) := goodIn_app (goodIn_of _ (by decide +kernel)) ggX10_play_X10_keepTrial
theorem dX10_play_0 : decode cX10_play 0 = .ok (.aload_n 0, 1) := by decide +kernel
theorem dX10_play_1 : decode cX10_play 1 = .ok (.invokevirtual 72, 3) := by decide +kernel
theorem dX10_play_4 : decode cX10_play 4 = .ok (.aload_n 0, 1) := by decide +kernel
theorem dX10_play_5 : decode cX10_play 5 = .ok (.getfield 57, 3) := by decide +kernel
theorem dX10_play_8 : decode cX10_play 8 = .ok (.aload_n 0, 1) := by decide +kernel
theorem dX10_play_9 : decode cX10_play 9 = .ok (.getfield 50, 3) := by decide +kernel
theorem dX10_play_12 : decode cX10_play 12 = .ok (.aload_n 0, 1) := by decide +kernel
theorem dX10_play_13 : decode cX10_play 13 = .ok (.getfield 16, 3) := by decide +kernel
theorem dX10_play_16 : decode cX10_play 16 = .ok (.aload_n 0, 1) := by decide +kernel
theorem dX10_play_17 : decode cX10_play 17 = .ok (.getfield 29, 3) := by decide +kernel
theorem dX10_play_20 : decode cX10_play 20 = .ok (.invokevirtual 269, 3) := by decide +kernel
theorem dX10_play_23 : decode cX10_play 23 = .ok (.aload_n 0, 1) := by decide +kernel
theorem dX10_play_24 : decode cX10_play 24 = .ok (.getfield 57, 3) := by decide +kernel
theorem dX10_play_27 : decode cX10_play 27 = .ok (.getfield 272, 3) := by decide +kernel
theorem dX10_play_30 : decode cX10_play 30 = .ok (.ifCond .eq 7, 3) := by decide +kernel
theorem dX10_play_33 : decode cX10_play 33 = .ok (.ldc_w 260, 3) := by decide +kernel
theorem dX10_play_36 : decode cX10_play 36 = .ok (.ireturn, 1) := by decide +kernel
theorem dX10_play_37 : decode cX10_play 37 = .ok (.aload_n 0, 1) := by decide +kernel
theorem dX10_play_38 : decode cX10_play 38 = .ok (.invokevirtual 79, 3) := by decide +kernel
theorem dX10_play_41 : decode cX10_play 41 = .ok (.aload_n 0, 1) := by decide +kernel
theorem dX10_play_42 : decode cX10_play 42 = .ok (.getfield 57, 3) := by decide +kernel
theorem dX10_play_45 : decode cX10_play 45 = .ok (.getfield 281, 3) := by decide +kernel
theorem dX10_play_48 : decode cX10_play 48 = .ok (.ireturn, 1) := by decide +kernel
set_option maxRecDepth 20000 in
theorem ggX10_startTrial_X6_takeOver : GoodIn wsX10_startTrial wsX6_takeOver := goodIn_r _ [6, 7, 8, 9, 10, 11, 12, 13, 14, 15, 16, 17, 18, 19, 20, 21, 22, 23, 24, 25, 26, 27, 28, 29, 30, 31, 32, 33, 34, 43, 44, 45, 46, 47, 48, 49, 50, 51, 52, 53, 54, 55, 56, 57] (by decide +kernel) (by decide +kernel)
set_option maxRecDepth 20000 in
theorem gX10_startTrial_X6_takeOver_n284 : GoodIn wsX10_startTrial (wsX6_takeOver) := ggX10_startTrial_X6_takeOver
theorem dX10_startTrial_0 : decode cX10_startTrial 0 = .ok (.aload_n 0, 1) := by decide +kernel
theorem dX10_startTrial_1 : decode cX10_startTrial 1 = .ok (.getfield 16, 3) := by decide +kernel
theorem dX10_startTrial_4 : decode cX10_startTrial 4 = .ok (.aload_n 0, 1) := by decide +kernel
theorem dX10_startTrial_5 : decode cX10_startTrial 5 = .ok (.getfield 10, 3) := by decide +kernel
theorem dX10_startTrial_8 : decode cX10_startTrial 8 = .ok (.invokevirtual 284, 3) := by decide +kernel
theorem dX10_startTrial_11 : decode cX10_startTrial 11 = .ok (.return_, 1) := by decide +kernel
set_option maxRecDepth 20000 in
theorem ggX10_keepTrial_X0_keep : GoodIn wsX10_keepTrial wsX0_keep := goodIn_r _ [7, 8, 9, 10, 11, 12, 5, 13, 14, 15, 16, 17, 18, 19, 20, 21, 22, 23, 24, 25, 26, 27, 28, 29, 30, 31, 32, 33, 34, 35, 36, 37, 38, 39, 40, 41, 42, 43, 44, 45, 54, 55, 56, 57, 58, 59, 60, 61, 62, 63, 64, 65, 66, 67, 68, 69, 70] (by decide +kernel) (by decide +kernel)
set_option maxRecDepth 20000 in
theorem gX10_keepTrial_X0_keep_n287 : GoodIn wsX10_keepTrial (wsX0_keep) := ggX10_keepTrial_X0_keep
set_option maxRecDepth 20000 in
theorem ggX10_keepTrial_X6_takeOver : GoodIn wsX10_keepTrial wsX6_takeOver := goodIn_r _ [17, 18, 19, 20, 21, 22, 23, 24, 25, 26, 27, 28, 29, 30, 31, 32, 33, 34, 35, 36, 37, 38, 39, 40, 41, 42, 43, 44, 45, 56, 57, 58, 59, 60, 61, 62, 63, 64, 65, 66, 67, 68, 69, 70] (by decide +kernel) (by decide +kernel)
set_option maxRecDepth 20000 in
theorem gX10_keepTrial_X6_takeOver_n284 : GoodIn wsX10_keepTrial (wsX6_takeOver) := ggX10_keepTrial_X6_takeOver
theorem dX10_keepTrial_0 : decode cX10_keepTrial 0 = .ok (.aload_n 0, 1) := by decide +kernel
theorem dX10_keepTrial_1 : decode cX10_keepTrial 1 = .ok (.getfield 22, 3) := by decide +kernel
theorem dX10_keepTrial_4 : decode cX10_keepTrial 4 = .ok (.aload_n 0, 1) := by decide +kernel
theorem dX10_keepTrial_5 : decode cX10_keepTrial 5 = .ok (.getfield 10, 3) := by decide +kernel
theorem dX10_keepTrial_8 : decode cX10_keepTrial 8 = .ok (.invokevirtual 287, 3) := by decide +kernel
theorem dX10_keepTrial_11 : decode cX10_keepTrial 11 = .ok (.aload_n 0, 1) := by decide +kernel
theorem dX10_keepTrial_12 : decode cX10_keepTrial 12 = .ok (.getfield 10, 3) := by decide +kernel
theorem dX10_keepTrial_15 : decode cX10_keepTrial 15 = .ok (.aload_n 0, 1) := by decide +kernel
theorem dX10_keepTrial_16 : decode cX10_keepTrial 16 = .ok (.getfield 16, 3) := by decide +kernel
theorem dX10_keepTrial_19 : decode cX10_keepTrial 19 = .ok (.invokevirtual 284, 3) := by decide +kernel
theorem dX10_keepTrial_22 : decode cX10_keepTrial 22 = .ok (.return_, 1) := by decide +kernel
theorem dX10_isLetterOf_0 : decode cX10_isLetterOf 0 = .ok (.iload_n 0, 1) := by decide +kernel
theorem dX10_isLetterOf_1 : decode cX10_isLetterOf 1 = .ok (.iload_n 1, 1) := by decide +kernel
theorem dX10_isLetterOf_2 : decode cX10_isLetterOf 2 = .ok (.if_icmp .lt 14, 3) := by decide +kernel
theorem dX10_isLetterOf_5 : decode cX10_isLetterOf 5 = .ok (.iload_n 0, 1) := by decide +kernel
theorem dX10_isLetterOf_6 : decode cX10_isLetterOf 6 = .ok (.iload_n 1, 1) := by decide +kernel
theorem dX10_isLetterOf_7 : decode cX10_isLetterOf 7 = .ok (.iload_n 2, 1) := by decide +kernel
theorem dX10_isLetterOf_8 : decode cX10_isLetterOf 8 = .ok (.iadd, 1) := by decide +kernel
theorem dX10_isLetterOf_9 : decode cX10_isLetterOf 9 = .ok (.if_icmp .ge 7, 3) := by decide +kernel
theorem dX10_isLetterOf_12 : decode cX10_isLetterOf 12 = .ok (.iconst 1, 1) := by decide +kernel
theorem dX10_isLetterOf_13 : decode cX10_isLetterOf 13 = .ok (.goto 4, 3) := by decide +kernel
theorem dX10_isLetterOf_16 : decode cX10_isLetterOf 16 = .ok (.iconst 0, 1) := by decide +kernel
theorem dX10_isLetterOf_17 : decode cX10_isLetterOf 17 = .ok (.ireturn, 1) := by decide +kernel
