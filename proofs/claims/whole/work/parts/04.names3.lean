theorem dX10_complete_6 : decode cX10_complete 6 = .ok (.bipush 10, 2) := by decide +kernel
theorem dX10_complete_8 : decode cX10_complete 8 = .ok (.if_icmp .le 6, 3) := by decide +kernel
theorem dX10_complete_11 : decode cX10_complete 11 = .ok (.ldc 71, 2) := by decide +kernel
theorem dX10_complete_13 : decode cX10_complete 13 = .ok (.ireturn, 1) := by decide +kernel
theorem dX10_complete_14 : decode cX10_complete 14 = .ok (.aload_n 0, 1) := by decide +kernel
theorem dX10_complete_15 : decode cX10_complete 15 = .ok (.invokevirtual 72, 3) := by decide +kernel
theorem dX10_complete_18 : decode cX10_complete 18 = .ok (.iconst 0, 1) := by decide +kernel
theorem dX10_complete_19 : decode cX10_complete 19 = .ok (.istore_n 2, 1) := by decide +kernel
theorem dX10_complete_20 : decode cX10_complete 20 = .ok (.iload_n 2, 1) := by decide +kernel
theorem dX10_complete_21 : decode cX10_complete 21 = .ok (.iload_n 1, 1) := by decide +kernel
theorem dX10_complete_22 : decode cX10_complete 22 = .ok (.if_icmp .ge 98, 3) := by decide +kernel
theorem dX10_complete_25 : decode cX10_complete 25 = .ok (.aload_n 0, 1) := by decide +kernel
theorem dX10_complete_26 : decode cX10_complete 26 = .ok (.getfield 43, 3) := by decide +kernel
theorem dX10_complete_29 : decode cX10_complete 29 = .ok (.aload_n 0, 1) := by decide +kernel
theorem dX10_complete_30 : decode cX10_complete 30 = .ok (.getfield 16, 3) := by decide +kernel
theorem dX10_complete_33 : decode cX10_complete 33 = .ok (.aload_n 0, 1) := by decide +kernel
theorem dX10_complete_34 : decode cX10_complete 34 = .ok (.getfield 29, 3) := by decide +kernel
theorem dX10_complete_37 : decode cX10_complete 37 = .ok (.invokevirtual 221, 3) := by decide +kernel
theorem dX10_complete_40 : decode cX10_complete 40 = .ok (.ifCond .eq 80, 3) := by decide +kernel
theorem dX10_complete_43 : decode cX10_complete 43 = .ok (.aload_n 0, 1) := by decide +kernel
theorem dX10_complete_44 : decode cX10_complete 44 = .ok (.getfield 43, 3) := by decide +kernel
theorem dX10_complete_47 : decode cX10_complete 47 = .ok (.getfield 225, 3) := by decide +kernel
theorem dX10_complete_50 : decode cX10_complete 50 = .ok (.aload_n 0, 1) := by decide +kernel
theorem dX10_complete_51 : decode cX10_complete 51 = .ok (.getfield 43, 3) := by decide +kernel
theorem dX10_complete_54 : decode cX10_complete 54 = .ok (.getfield 228, 3) := by decide +kernel
theorem dX10_complete_57 : decode cX10_complete 57 = .ok (.invokestatic 231, 3) := by decide +kernel
theorem dX10_complete_60 : decode cX10_complete 60 = .ok (.istore_n 3, 1) := by decide +kernel
theorem dX10_complete_61 : decode cX10_complete 61 = .ok (.aload_n 0, 1) := by decide +kernel
theorem dX10_complete_62 : decode cX10_complete 62 = .ok (.getfield 43, 3) := by decide +kernel
theorem dX10_complete_65 : decode cX10_complete 65 = .ok (.getfield 225, 3) := by decide +kernel
theorem dX10_complete_68 : decode cX10_complete 68 = .ok (.aload_n 0, 1) := by decide +kernel
theorem dX10_complete_69 : decode cX10_complete 69 = .ok (.getfield 43, 3) := by decide +kernel
theorem dX10_complete_72 : decode cX10_complete 72 = .ok (.getfield 228, 3) := by decide +kernel
theorem dX10_complete_75 : decode cX10_complete 75 = .ok (.invokestatic 236, 3) := by decide +kernel
theorem dX10_complete_78 : decode cX10_complete 78 = .ok (.istore 4, 2) := by decide +kernel
theorem dX10_complete_80 : decode cX10_complete 80 = .ok (.aload_n 0, 1) := by decide +kernel
theorem dX10_complete_81 : decode cX10_complete 81 = .ok (.getfield 16, 3) := by decide +kernel
theorem dX10_complete_84 : decode cX10_complete 84 = .ok (.getfield 61, 3) := by decide +kernel
theorem dX10_complete_87 : decode cX10_complete 87 = .ok (.invokevirtual 239, 3) := by decide +kernel
theorem dX10_complete_90 : decode cX10_complete 90 = .ok (.ifCond .ne 11, 3) := by decide +kernel
theorem dX10_complete_93 : decode cX10_complete 93 = .ok (.iload_n 3, 1) := by decide +kernel
theorem dX10_complete_94 : decode cX10_complete 94 = .ok (.invokestatic 159, 3) := by decide +kernel
theorem dX10_complete_97 : decode cX10_complete 97 = .ok (.iconst 4, 1) := by decide +kernel
theorem dX10_complete_98 : decode cX10_complete 98 = .ok (.if_icmp .le 6, 3) := by decide +kernel
theorem dX10_complete_101 : decode cX10_complete 101 = .ok (.ldc 172, 2) := by decide +kernel
theorem dX10_complete_103 : decode cX10_complete 103 = .ok (.ireturn, 1) := by decide +kernel
theorem dX10_complete_104 : decode cX10_complete 104 = .ok (.aload_n 0, 1) := by decide +kernel
theorem dX10_complete_105 : decode cX10_complete 105 = .ok (.getfield 16, 3) := by decide +kernel
theorem dX10_complete_108 : decode cX10_complete 108 = .ok (.iload_n 3, 1) := by decide +kernel
theorem dX10_complete_109 : decode cX10_complete 109 = .ok (.iload 4, 2) := by decide +kernel
theorem dX10_complete_111 : decode cX10_complete 111 = .ok (.invokevirtual 243, 3) := by decide +kernel
theorem dX10_complete_114 : decode cX10_complete 114 = .ok (.iinc 2 1, 3) := by decide +kernel
theorem dX10_complete_117 : decode cX10_complete 117 = .ok (.goto (-97), 3) := by decide +kernel
theorem dX10_complete_120 : decode cX10_complete 120 = .ok (.aload_n 0, 1) := by decide +kernel
theorem dX10_complete_121 : decode cX10_complete 121 = .ok (.invokevirtual 79, 3) := by decide +kernel
theorem dX10_complete_124 : decode cX10_complete 124 = .ok (.iload_n 2, 1) := by decide +kernel
theorem dX10_complete_125 : decode cX10_complete 125 = .ok (.ireturn, 1) := by decide +kernel
set_option maxRecDepth 20000 in
theorem ggX10_count_X9_lengthOf : GoodIn wsX10_count wsX9_lengthOf := goodIn_r _ [9] (by decide +kernel) (by decide +kernel)
set_option maxRecDepth 20000 in
theorem gX10_count_X9_lengthOf_n159 : GoodIn wsX10_count (wsX9_lengthOf) := ggX10_count_X9_lengthOf
set_option maxRecDepth 20000 in
theorem ggX10_count_X1_howMany : GoodIn wsX10_count wsX1_howMany := goodIn_r _ [13, 14, 15, 16, 11, 17, 18, 19, 20, 21, 22, 23, 24, 25, 26, 27, 28, 29, 30, 31, 8, 32, 7, 9, 33, 34, 35, 36, 37, 116, 117, 118, 119, 120, 121, 98, 99, 100, 101, 102, 103] (by decide +kernel) (by decide +kernel)
set_option maxRecDepth 20000 in
theorem gX10_count_X1_howMany_n251 : GoodIn wsX10_count (wsX1_howMany) := ggX10_count_X1_howMany
set_option maxRecDepth 20000 in
theorem ggX10_count_X1_howManyAre : GoodIn wsX10_count wsX1_howManyAre := goodIn_r _ [40, 14, 15, 16, 11, 17, 18, 19, 20, 21, 22, 23, 24, 25, 26, 27, 28, 29, 30, 31, 8, 32, 7, 9, 33, 34, 35, 36, 37, 41, 42, 43, 44, 45, 46, 47, 48, 49, 50, 51, 52, 53, 54, 55, 56, 57, 58, 59, 60, 61, 62, 63, 64, 65, 66, 67, 68, 69, 70, 71, 72, 73, 74, 75, 76, 77, 78, 79, 80, 81, 82, 83, 92, 93, 94, 95, 96, 97, 116, 117, 118, 119, 120, 121, 98, 99, 100, 101, 102, 103, 122, 123, 124, 125, 126] (by decide +kernel) (by decide +kernel)
set_option maxRecDepth 20000 in
theorem gX10_count_X1_howManyAre_n254 : GoodIn wsX10_count (wsX1_howManyAre) := ggX10_count_X1_howManyAre
theorem dX10_count_0 : decode cX10_count 0 = .ok (.iload_n 1, 1) := by decide +kernel
theorem dX10_count_1 : decode cX10_count 1 = .ok (.tableswitch 181 0 10 #[59, 70, 81, 89, 100, 108, 116, 131, 148, 165, 173], 59) := by decide +kernel
theorem dX10_count_60 : decode cX10_count 60 = .ok (.aload_n 0, 1) := by decide +kernel
theorem dX10_count_61 : decode cX10_count 61 = .ok (.getfield 10, 3) := by decide +kernel
theorem dX10_count_64 : decode cX10_count 64 = .ok (.getfield 61, 3) := by decide +kernel
theorem dX10_count_67 : decode cX10_count 67 = .ok (.getfield 82, 3) := by decide +kernel
theorem dX10_count_70 : decode cX10_count 70 = .ok (.ireturn, 1) := by decide +kernel
theorem dX10_count_71 : decode cX10_count 71 = .ok (.aload_n 0, 1) := by decide +kernel
theorem dX10_count_72 : decode cX10_count 72 = .ok (.getfield 10, 3) := by decide +kernel
theorem dX10_count_75 : decode cX10_count 75 = .ok (.getfield 115, 3) := by decide +kernel
theorem dX10_count_78 : decode cX10_count 78 = .ok (.invokestatic 159, 3) := by decide +kernel
theorem dX10_count_81 : decode cX10_count 81 = .ok (.ireturn, 1) := by decide +kernel
theorem dX10_count_82 : decode cX10_count 82 = .ok (.aload_n 0, 1) := by decide +kernel
theorem dX10_count_83 : decode cX10_count 83 = .ok (.getfield 10, 3) := by decide +kernel
theorem dX10_count_86 : decode cX10_count 86 = .ok (.getfield 86, 3) := by decide +kernel
theorem dX10_count_89 : decode cX10_count 89 = .ok (.ireturn, 1) := by decide +kernel
theorem dX10_count_90 : decode cX10_count 90 = .ok (.aload_n 0, 1) := by decide +kernel
theorem dX10_count_91 : decode cX10_count 91 = .ok (.getfield 10, 3) := by decide +kernel
theorem dX10_count_94 : decode cX10_count 94 = .ok (.getfield 183, 3) := by decide +kernel
theorem dX10_count_97 : decode cX10_count 97 = .ok (.getfield 187, 3) := by decide +kernel
theorem dX10_count_100 : decode cX10_count 100 = .ok (.ireturn, 1) := by decide +kernel
theorem dX10_count_101 : decode cX10_count 101 = .ok (.aload_n 0, 1) := by decide +kernel
theorem dX10_count_102 : decode cX10_count 102 = .ok (.getfield 10, 3) := by decide +kernel
theorem dX10_count_105 : decode cX10_count 105 = .ok (.getfield 247, 3) := by decide +kernel
theorem dX10_count_108 : decode cX10_count 108 = .ok (.ireturn, 1) := by decide +kernel
theorem dX10_count_109 : decode cX10_count 109 = .ok (.aload_n 0, 1) := by decide +kernel
theorem dX10_count_110 : decode cX10_count 110 = .ok (.getfield 10, 3) := by decide +kernel
theorem dX10_count_113 : decode cX10_count 113 = .ok (.getfield 250, 3) := by decide +kernel
theorem dX10_count_116 : decode cX10_count 116 = .ok (.ireturn, 1) := by decide +kernel
theorem dX10_count_117 : decode cX10_count 117 = .ok (.aload_n 0, 1) := by decide +kernel
theorem dX10_count_118 : decode cX10_count 118 = .ok (.getfield 43, 3) := by decide +kernel
theorem dX10_count_121 : decode cX10_count 121 = .ok (.aload_n 0, 1) := by decide +kernel
theorem dX10_count_122 : decode cX10_count 122 = .ok (.getfield 10, 3) := by decide +kernel
theorem dX10_count_125 : decode cX10_count 125 = .ok (.getfield 61, 3) := by decide +kernel
theorem dX10_count_128 : decode cX10_count 128 = .ok (.invokevirtual 251, 3) := by decide +kernel
theorem dX10_count_131 : decode cX10_count 131 = .ok (.ireturn, 1) := by decide +kernel
theorem dX10_count_132 : decode cX10_count 132 = .ok (.aload_n 0, 1) := by decide +kernel
theorem dX10_count_133 : decode cX10_count 133 = .ok (.getfield 43, 3) := by decide +kernel
theorem dX10_count_136 : decode cX10_count 136 = .ok (.iconst 1, 1) := by decide +kernel
theorem dX10_count_137 : decode cX10_count 137 = .ok (.aload_n 0, 1) := by decide +kernel
theorem dX10_count_138 : decode cX10_count 138 = .ok (.getfield 10, 3) := by decide +kernel
theorem dX10_count_141 : decode cX10_count 141 = .ok (.aload_n 0, 1) := by decide +kernel
theorem dX10_count_142 : decode cX10_count 142 = .ok (.getfield 29, 3) := by decide +kernel
theorem dX10_count_145 : decode cX10_count 145 = .ok (.invokevirtual 254, 3) := by decide +kernel
theorem dX10_count_148 : decode cX10_count 148 = .ok (.ireturn, 1) := by decide +kernel
theorem dX10_count_149 : decode cX10_count 149 = .ok (.aload_n 0, 1) := by decide +kernel
theorem dX10_count_150 : decode cX10_count 150 = .ok (.getfield 43, 3) := by decide +kernel
theorem dX10_count_153 : decode cX10_count 153 = .ok (.iconst 2, 1) := by decide +kernel
theorem dX10_count_154 : decode cX10_count 154 = .ok (.aload_n 0, 1) := by decide +kernel
theorem dX10_count_155 : decode cX10_count 155 = .ok (.getfield 10, 3) := by decide +kernel
theorem dX10_count_158 : decode cX10_count 158 = .ok (.aload_n 0, 1) := by decide +kernel
theorem dX10_count_159 : decode cX10_count 159 = .ok (.getfield 29, 3) := by decide +kernel
theorem dX10_count_162 : decode cX10_count 162 = .ok (.invokevirtual 254, 3) := by decide +kernel
theorem dX10_count_165 : decode cX10_count 165 = .ok (.ireturn, 1) := by decide +kernel
theorem dX10_count_166 : decode cX10_count 166 = .ok (.aload_n 0, 1) := by decide +kernel
theorem dX10_count_167 : decode cX10_count 167 = .ok (.getfield 22, 3) := by decide +kernel
theorem dX10_count_170 : decode cX10_count 170 = .ok (.getfield 258, 3) := by decide +kernel
theorem dX10_count_173 : decode cX10_count 173 = .ok (.ireturn, 1) := by decide +kernel
theorem dX10_count_174 : decode cX10_count 174 = .ok (.aload_n 0, 1) := by decide +kernel
theorem dX10_count_175 : decode cX10_count 175 = .ok (.getfield 50, 3) := by decide +kernel
theorem dX10_count_178 : decode cX10_count 178 = .ok (.getfield 259, 3) := by decide +kernel
theorem dX10_count_181 : decode cX10_count 181 = .ok (.ireturn, 1) := by decide +kernel
theorem dX10_count_182 : decode cX10_count 182 = .ok (.ldc 71, 2) := by decide +kernel
theorem dX10_count_184 : decode cX10_count 184 = .ok (.ireturn, 1) := by decide +kernel
set_option maxRecDepth 20000 in
theorem ggX10_undo_X0_restoreTo : GoodIn wsX10_undo wsX0_restoreTo := goodIn_r _ [7, 8, 9, 10, 11, 12, 13, 14, 15, 16, 17, 18, 19, 20, 21, 22, 23, 24, 25, 26, 27, 28, 29, 30, 31, 32, 33, 34, 35, 36, 37, 38, 39, 40, 41, 50, 51, 52, 53, 54, 55, 56, 57, 58, 59, 60, 61, 62, 63, 64, 65, 66] (by decide +kernel) (by decide +kernel)
set_option maxRecDepth 20000 in
theorem gX10_undo_X0_restoreTo_n261 : GoodIn wsX10_undo (wsX0_restoreTo) := ggX10_undo_X0_restoreTo
theorem dX10_undo_0 : decode cX10_undo 0 = .ok (.aload_n 0, 1) := by decide +kernel
theorem dX10_undo_1 : decode cX10_undo 1 = .ok (.getfield 22, 3) := by decide +kernel
theorem dX10_undo_4 : decode cX10_undo 4 = .ok (.getfield 258, 3) := by decide +kernel
theorem dX10_undo_7 : decode cX10_undo 7 = .ok (.ifCond .ne 7, 3) := by decide +kernel
theorem dX10_undo_10 : decode cX10_undo 10 = .ok (.ldc_w 260, 3) := by decide +kernel
theorem dX10_undo_13 : decode cX10_undo 13 = .ok (.ireturn, 1) := by decide +kernel
theorem dX10_undo_14 : decode cX10_undo 14 = .ok (.aload_n 0, 1) := by decide +kernel
theorem dX10_undo_15 : decode cX10_undo 15 = .ok (.getfield 22, 3) := by decide +kernel
theorem dX10_undo_18 : decode cX10_undo 18 = .ok (.aload_n 0, 1) := by decide +kernel
theorem dX10_undo_19 : decode cX10_undo 19 = .ok (.getfield 10, 3) := by decide +kernel
theorem dX10_undo_22 : decode cX10_undo 22 = .ok (.invokevirtual 261, 3) := by decide +kernel
theorem dX10_undo_25 : decode cX10_undo 25 = .ok (.aload_n 0, 1) := by decide +kernel
theorem dX10_undo_26 : decode cX10_undo 26 = .ok (.getfield 22, 3) := by decide +kernel
theorem dX10_undo_29 : decode cX10_undo 29 = .ok (.getfield 258, 3) := by decide +kernel
theorem dX10_undo_32 : decode cX10_undo 32 = .ok (.ireturn, 1) := by decide +kernel
set_option maxRecDepth 20000 in
theorem ggX10_type_X8_isFull : GoodIn wsX10_type wsX8_isFull := goodIn_r _ [7, 8, 22, 23, 24, 25, 26, 27, 28] (by decide +kernel) (by decide +kernel)
set_option maxRecDepth 20000 in
theorem gX10_type_X8_isFull_n265 : GoodIn wsX10_type (wsX8_isFull) := ggX10_type_X8_isFull
set_option maxRecDepth 20000 in
theorem ggX10_type_X8_append : GoodIn wsX10_type wsX8_append := goodIn_r _ [11, 12, 8, 13, 4, 6, 5, 7, 22, 23, 24, 25, 26, 27, 28] (by decide +kernel) (by decide +kernel)
set_option maxRecDepth 20000 in
theorem gX10_type_X8_append_n266 : GoodIn wsX10_type (wsX8_append) := ggX10_type_X8_append
theorem dX10_type_0 : decode cX10_type 0 = .ok (.iload_n 1, 1) := by decide +kernel
theorem dX10_type_1 : decode cX10_type 1 = .ok (.bipush 32, 2) := by decide +kernel
theorem dX10_type_3 : decode cX10_type 3 = .ok (.if_icmp .lt 9, 3) := by decide +kernel
theorem dX10_type_6 : decode cX10_type 6 = .ok (.iload_n 1, 1) := by decide +kernel
theorem dX10_type_7 : decode cX10_type 7 = .ok (.bipush 126, 2) := by decide +kernel
theorem dX10_type_9 : decode cX10_type 9 = .ok (.if_icmp .le 6, 3) := by decide +kernel
theorem dX10_type_12 : decode cX10_type 12 = .ok (.ldc 71, 2) := by decide +kernel
theorem dX10_type_14 : decode cX10_type 14 = .ok (.ireturn, 1) := by decide +kernel
theorem dX10_type_15 : decode cX10_type 15 = .ok (.aload_n 0, 1) := by decide +kernel
theorem dX10_type_16 : decode cX10_type 16 = .ok (.getfield 50, 3) := by decide +kernel
theorem dX10_type_19 : decode cX10_type 19 = .ok (.invokevirtual 265, 3) := by decide +kernel
theorem dX10_type_22 : decode cX10_type 22 = .ok (.ifCond .eq 6, 3) := by decide +kernel
theorem dX10_type_25 : decode cX10_type 25 = .ok (.ldc 172, 2) := by decide +kernel
theorem dX10_type_27 : decode cX10_type 27 = .ok (.ireturn, 1) := by decide +kernel
theorem dX10_type_28 : decode cX10_type 28 = .ok (.aload_n 0, 1) := by decide +kernel
theorem dX10_type_29 : decode cX10_type 29 = .ok (.getfield 50, 3) := by decide +kernel
theorem dX10_type_32 : decode cX10_type 32 = .ok (.iload_n 1, 1) := by decide +kernel
theorem dX10_type_33 : decode cX10_type 33 = .ok (.invokevirtual 266, 3) := by decide +kernel
theorem dX10_type_36 : decode cX10_type 36 = .ok (.aload_n 0, 1) := by decide +kernel
theorem dX10_type_37 : decode cX10_type 37 = .ok (.getfield 50, 3) := by decide +kernel
theorem dX10_type_40 : decode cX10_type 40 = .ok (.getfield 259, 3) := by decide +kernel
theorem dX10_type_43 : decode cX10_type 43 = .ok (.ireturn, 1) := by decide +kernel
theorem dX10_clearText_0 : decode cX10_clearText 0 = .ok (.aload_n 0, 1) := by decide +kernel
theorem dX10_clearText_1 : decode cX10_clearText 1 = .ok (.getfield 50, 3) := by decide +kernel
theorem dX10_clearText_4 : decode cX10_clearText 4 = .ok (.getfield 259, 3) := by decide +kernel
theorem dX10_clearText_7 : decode cX10_clearText 7 = .ok (.istore_n 1, 1) := by decide +kernel
theorem dX10_clearText_8 : decode cX10_clearText 8 = .ok (.aload_n 0, 1) := by decide +kernel
theorem dX10_clearText_9 : decode cX10_clearText 9 = .ok (.getfield 50, 3) := by decide +kernel
theorem dX10_clearText_12 : decode cX10_clearText 12 = .ok (.iconst 0, 1) := by decide +kernel
theorem dX10_clearText_13 : decode cX10_clearText 13 = .ok (.putfield 259, 3) := by decide +kernel
theorem dX10_clearText_16 : decode cX10_clearText 16 = .ok (.iload_n 1, 1) := by decide +kernel
theorem dX10_clearText_17 : decode cX10_clearText 17 = .ok (.ireturn, 1) := by decide +kernel
set_option maxRecDepth 20000 in
theorem ggX10_fault_X10_startTrial : GoodIn wsX10_fault wsX10_startTrial := goodIn_r _ [11, 4, 12, 13, 14, 15, 16, 17, 18, 19, 20, 21, 22, 23, 24, 25, 26, 27, 28, 29, 30, 31, 32, 33, 34, 35, 36, 37, 38, 39, 40, 41, 42, 43, 44, 191, 192, 193, 194, 195, 196, 197, 198, 203, 204, 205, 206, 207, 208, 209, 210, 211, 212, 213, 214, 215, 216, 217] (by decide +kernel) (by decide +kernel)
set_option maxRecDepth 20000 in
theorem gX10_fault_X10_startTrial : GoodIn wsX10_fault (wsV RX10 72 RX10 yX10_startTrial wsX10_startTrial) := goodIn_app (goodIn_of _ (by decide +kernel)) ggX10_fault_X10_startTrial
set_option maxRecDepth 20000 in
theorem ggX10_fault_X5_run : GoodIn wsX10_fault wsX5_run := goodIn_r _ [48, 49, 50, 51, 52, 53, 54, 55, 56, 57, 58, 59, 60, 61, 62, 63, 64, 65, 66, 67, 68, 69, 70, 71, 72, 73, 74, 75, 76, 77, 78, 79, 80, 81, 82, 83, 84, 85, 46, 86, 87, 88, 89, 90, 91, 92, 93, 94, 95, 96, 97, 24, 98, 99, 36, 27, 32, 100, 101, 102, 103, 14, 104, 105, 17, 18, 106, 107, 108, 33, 34, 35, 109, 110, 111, 112, 113, 114, 115, 116, 117, 118, 119, 120, 121, 122, 123, 124, 125, 126, 127, 128, 129, 130, 19, 20, 131, 22, 132, 133, 134, 135, 136, 137, 138, 139, 140, 141, 142, 143, 144, 145, 146, 147, 148, 149, 150, 21, 151, 152, 38, 153, 154, 44, 41, 155, 156, 157, 43, 158, 159, 160, 161, 162, 163, 164, 165, 166, 167, 168, 169, 170, 171, 172, 173, 174, 175, 176, 177, 178, 179, 180, 181, 182, 183, 184, 185, 186, 187, 188, 189, 190, 199, 200, 201, 202, 218, 219, 220, 221, 222, 223, 224, 203, 204, 205, 206, 207, 208, 209, 210, 211, 212, 213, 214, 215, 216, 217, 225, 226, 227, 228, 229] (by decide +kernel) (by decide +kernel)
set_option maxRecDepth 20000 in
theorem gX10_fault_X5_run_n269 : GoodIn wsX10_fault (wsX5_run) := ggX10_fault_X5_run
theorem dX10_fault_0 : decode cX10_fault 0 = .ok (.iload_n 1, 1) := by decide +kernel
theorem dX10_fault_1 : decode cX10_fault 1 = .ok (.ifCond .lt 8, 3) := by decide +kernel
theorem dX10_fault_4 : decode cX10_fault 4 = .ok (.iload_n 1, 1) := by decide +kernel
theorem dX10_fault_5 : decode cX10_fault 5 = .ok (.iconst 2, 1) := by decide +kernel
theorem dX10_fault_6 : decode cX10_fault 6 = .ok (.if_icmp .le 6, 3) := by decide +kernel
theorem dX10_fault_9 : decode cX10_fault 9 = .ok (.ldc 71, 2) := by decide +kernel
theorem dX10_fault_11 : decode cX10_fault 11 = .ok (.ireturn, 1) := by decide +kernel
theorem dX10_fault_12 : decode cX10_fault 12 = .ok (.aload_n 0, 1) := by decide +kernel
theorem dX10_fault_13 : decode cX10_fault 13 = .ok (.invokevirtual 72, 3) := by decide +kernel
theorem dX10_fault_16 : decode cX10_fault 16 = .ok (.aload_n 0, 1) := by decide +kernel
theorem dX10_fault_17 : decode cX10_fault 17 = .ok (.getfield 57, 3) := by decide +kernel
theorem dX10_fault_20 : decode cX10_fault 20 = .ok (.aload_n 0, 1) := by decide +kernel
theorem dX10_fault_21 : decode cX10_fault 21 = .ok (.getfield 50, 3) := by decide +kernel
theorem dX10_fault_24 : decode cX10_fault 24 = .ok (.aload_n 0, 1) := by decide +kernel
theorem dX10_fault_25 : decode cX10_fault 25 = .ok (.getfield 16, 3) := by decide +kernel
theorem dX10_fault_28 : decode cX10_fault 28 = .ok (.aload_n 0, 1) := by decide +kernel
theorem dX10_fault_29 : decode cX10_fault 29 = .ok (.getfield 29, 3) := by decide +kernel
theorem dX10_fault_32 : decode cX10_fault 32 = .ok (.invokevirtual 269, 3) := by decide +kernel
theorem dX10_fault_35 : decode cX10_fault 35 = .ok (.aload_n 0, 1) := by decide +kernel
theorem dX10_fault_36 : decode cX10_fault 36 = .ok (.getfield 57, 3) := by decide +kernel
theorem dX10_fault_39 : decode cX10_fault 39 = .ok (.getfield 272, 3) := by decide +kernel
theorem dX10_fault_42 : decode cX10_fault 42 = .ok (.ifCond .ne 6, 3) := by decide +kernel
theorem dX10_fault_45 : decode cX10_fault 45 = .ok (.ldc 135, 2) := by decide +kernel
theorem dX10_fault_47 : decode cX10_fault 47 = .ok (.ireturn, 1) := by decide +kernel
theorem dX10_fault_48 : decode cX10_fault 48 = .ok (.iload_n 1, 1) := by decide +kernel
theorem dX10_fault_49 : decode cX10_fault 49 = .ok (.ifCond .ne 11, 3) := by decide +kernel
theorem dX10_fault_52 : decode cX10_fault 52 = .ok (.aload_n 0, 1) := by decide +kernel
theorem dX10_fault_53 : decode cX10_fault 53 = .ok (.getfield 57, 3) := by decide +kernel
theorem dX10_fault_56 : decode cX10_fault 56 = .ok (.getfield 275, 3) := by decide +kernel
theorem dX10_fault_59 : decode cX10_fault 59 = .ok (.ireturn, 1) := by decide +kernel
theorem dX10_fault_60 : decode cX10_fault 60 = .ok (.iload_n 1, 1) := by decide +kernel
theorem dX10_fault_61 : decode cX10_fault 61 = .ok (.iconst 1, 1) := by decide +kernel
theorem dX10_fault_62 : decode cX10_fault 62 = .ok (.if_icmp .ne 11, 3) := by decide +kernel
theorem dX10_fault_65 : decode cX10_fault 65 = .ok (.aload_n 0, 1) := by decide +kernel
theorem dX10_fault_66 : decode cX10_fault 66 = .ok (.getfield 57, 3) := by decide +kernel
theorem dX10_fault_69 : decode cX10_fault 69 = .ok (.getfield 272, 3) := by decide +kernel
theorem dX10_fault_72 : decode cX10_fault 72 = .ok (.ireturn, 1) := by decide +kernel
theorem dX10_fault_73 : decode cX10_fault 73 = .ok (.aload_n 0, 1) := by decide +kernel
theorem dX10_fault_74 : decode cX10_fault 74 = .ok (.getfield 57, 3) := by decide +kernel
theorem dX10_fault_77 : decode cX10_fault 77 = .ok (.getfield 272, 3) := by decide +kernel
theorem dX10_fault_80 : decode cX10_fault 80 = .ok (.iconst 2, 1) := by decide +kernel
theorem dX10_fault_81 : decode cX10_fault 81 = .ok (.if_icmp .ne 8, 3) := by decide +kernel
theorem dX10_fault_84 : decode cX10_fault 84 = .ok (.ldc 135, 2) := by decide +kernel
theorem dX10_fault_86 : decode cX10_fault 86 = .ok (.goto 10, 3) := by decide +kernel
theorem dX10_fault_89 : decode cX10_fault 89 = .ok (.aload_n 0, 1) := by decide +kernel
theorem dX10_fault_90 : decode cX10_fault 90 = .ok (.getfield 57, 3) := by decide +kernel
theorem dX10_fault_93 : decode cX10_fault 93 = .ok (.getfield 278, 3) := by decide +kernel
theorem dX10_fault_96 : decode cX10_fault 96 = .ok (.ireturn, 1) := by decide +kernel
set_option maxRecDepth 20000 in
theorem ggX10_play_X10_startTrial : GoodIn wsX10_play wsX10_startTrial := goodIn_r _ [10, 3, 11, 12, 13, 14, 15, 16, 17, 18, 19, 20, 21, 22, 23, 24, 25, 26, 27, 28, 29, 30, 31, 32, 33, 34, 35, 36, 37, 38, 39, 40, 41, 42, 43, 205, 206, 207, 208, 209, 210, 211, 212, 217, 218, 219, 220, 221, 222, 223, 224, 225, 226, 227, 228, 229, 230, 231] (by decide +kernel) (by decide +kernel)
set_option maxRecDepth 20000 in
theorem gX10_play_X10_startTrial : GoodIn wsX10_play (wsV RX10 72 RX10 yX10_startTrial wsX10_startTrial) := goodIn_app (goodIn_of _ (by decide +kernel)) ggX10_play_X10_startTrial
set_option maxRecDepth 20000 in
theorem ggX10_play_X5_run : GoodIn wsX10_play wsX5_run := goodIn_r _ [47, 48, 49, 50, 51, 52, 53, 54, 55, 56, 57, 58, 59, 60, 61, 62, 63, 64, 65, 66, 67, 68, 69, 70, 71, 72, 73, 74, 75, 76, 77, 78, 79, 80, 81, 82, 83, 84, 45, 85, 86, 87, 88, 89, 90, 91, 92, 93, 94, 95, 96, 23, 97, 98, 35, 26, 31, 99, 100, 101, 102, 13, 103, 104, 16, 17, 105, 106, 107, 32, 33, 34, 108, 109, 110, 111, 112, 113, 114, 115, 116, 117, 118, 119, 120, 121, 122, 123, 124, 125, 126, 127, 128, 129, 18, 19, 130, 21, 131, 132, 133, 134, 135, 136, 137, 138, 139, 140, 141, 142, 143, 144, 145, 146, 147, 148, 149, 20, 150, 151, 37, 152, 153, 43, 40, 154, 155, 156, 42, 157, 158, 159, 160, 161, 162, 163, 164, 165, 166, 167, 168, 169, 170, 171, 172, 173, 174, 175, 176, 177, 178, 179, 180, 181, 182, 183, 184, 185, 186, 187, 188, 189, 213, 214, 215, 216, 232, 233, 234, 235, 236, 237, 238, 217, 218, 219, 220, 221, 222, 223, 224, 225, 226, 227, 228, 229, 230, 231, 239, 240, 241, 242, 243] (by decide +kernel) (by decide +kernel)
set_option maxRecDepth 20000 in
theorem gX10_play_X5_run_n269 : GoodIn wsX10_play (wsX5_run) := ggX10_play_X5_run
set_option maxRecDepth 20000 in
theorem ggX10_play_X10_keepTrial : GoodIn wsX10_play wsX10_keepTrial := goodIn_r _ [193, 194, 11, 3, 195, 196, 197, 198, 199, 200, 201, 202, 203, 204, 12, 13, 14, 15, 16, 17, 18, 19, 20, 21, 22, 23, 24, 25, 26, 27, 28, 29, 30, 31, 32, 33, 34, 35, 36, 37, 38, 39, 40, 41, 42, 43, 205, 206, 207, 208, 209, 210, 211, 212, 244, 245, 217, 218, 219, 220, 221, 222, 223, 224, 225, 226, 227, 228, 229, 230, 231] (by decide +kernel) (by decide +kernel)
set_option maxRecDepth 20000 in
theorem gX10_play_X10_keepTrial : GoodIn wsX10_play (wsV RX10 79 RX10 yX10_keepTrial wsX10_keepTrial) := goodIn_app (goodIn_of _ (by decide +kernel)) ggX10_play_X10_keepTrial
theorem dX10_play_0 : decode cX10_play 0 = .ok (.aload_n 0, 1) := by decide +kernel
theorem dX10_play_1 : decode cX10_play 1 = .ok (.invokevirtual 72, 3) := by decide +kernel
theorem dX10_play_4 : decode cX10_play 4 = .ok (.aload_n 0, 1) := by decide +kernel
theorem dX10_play_5 : decode cX10_play 5 = .ok (.getfield 57, 3) := by decide +kernel
theorem dX10_play_8 : decode cX10_play 8 = .ok (.aload_n 0, 1) := by decide +kernel
theorem dX10_play_9 : decode cX10_play 9 = .ok (.getfield 50, 3) := by decide +kernel
theorem dX10_play_12 : decode cX10_play 12 = .ok (.aload_n 0, 1) := by decide +kernel
theorem dX10_play_13 : decode cX10_play 13 = .ok (.getfield 16, 3) := by decide +kernel
theorem dX10_play_16 : decode cX10_play 16 = .ok (.aload_n 0, 1) := by decide +kernel
theorem dX10_play_17 : decode cX10_play 17 = .ok (.getfield 29, 3) := by decide +kernel
theorem dX10_play_20 : decode cX10_play 20 = .ok (.invokevirtual 269, 3) := by decide +kernel
theorem dX10_play_23 : decode cX10_play 23 = .ok (.aload_n 0, 1) := by decide +kernel
theorem dX10_play_24 : decode cX10_play 24 = .ok (.getfield 57, 3) := by decide +kernel
theorem dX10_play_27 : decode cX10_play 27 = .ok (.getfield 272, 3) := by decide +kernel
theorem dX10_play_30 : decode cX10_play 30 = .ok (.ifCond .eq 7, 3) := by decide +kernel
theorem dX10_play_33 : decode cX10_play 33 = .ok (.ldc_w 260, 3) := by decide +kernel
theorem dX10_play_36 : decode cX10_play 36 = .ok (.ireturn, 1) := by decide +kernel
theorem dX10_play_37 : decode cX10_play 37 = .ok (.aload_n 0, 1) := by decide +kernel
theorem dX10_play_38 : decode cX10_play 38 = .ok (.invokevirtual 79, 3) := by decide +kernel
theorem dX10_play_41 : decode cX10_play 41 = .ok (.aload_n 0, 1) := by decide +kernel
theorem dX10_play_42 : decode cX10_play 42 = .ok (.getfield 57, 3) := by decide +kernel
theorem dX10_play_45 : decode cX10_play 45 = .ok (.getfield 281, 3) := by decide +kernel
theorem dX10_play_48 : decode cX10_play 48 = .ok (.ireturn, 1) := by decide +kernel
set_option maxRecDepth 20000 in
theorem ggX10_startTrial_X6_takeOver : GoodIn wsX10_startTrial wsX6_takeOver := goodIn_r _ [6, 7, 8, 9, 10, 11, 12, 13, 14, 15, 16, 17, 18, 19, 20, 21, 22, 23, 24, 25, 26, 27, 28, 29, 30, 31, 32, 33, 34, 43, 44, 45, 46, 47, 48, 49, 50, 51, 52, 53, 54, 55, 56, 57] (by decide +kernel) (by decide +kernel)
set_option maxRecDepth 20000 in
theorem gX10_startTrial_X6_takeOver_n284 : GoodIn wsX10_startTrial (wsX6_takeOver) := ggX10_startTrial_X6_takeOver
theorem dX10_startTrial_0 : decode cX10_startTrial 0 = .ok (.aload_n 0, 1) := by decide +kernel
theorem dX10_startTrial_1 : decode cX10_startTrial 1 = .ok (.getfield 16, 3) := by decide +kernel
theorem dX10_startTrial_4 : decode cX10_startTrial 4 = .ok (.aload_n 0, 1) := by decide +kernel
theorem dX10_startTrial_5 : decode cX10_startTrial 5 = .ok (.getfield 10, 3) := by decide +kernel
theorem dX10_startTrial_8 : decode cX10_startTrial 8 = .ok (.invokevirtual 284, 3) := by decide +kernel
theorem dX10_startTrial_11 : decode cX10_startTrial 11 = .ok (.return_, 1) := by decide +kernel
set_option maxRecDepth 20000 in
theorem ggX10_keepTrial_X0_keep : GoodIn wsX10_keepTrial wsX0_keep := goodIn_r _ [7, 8, 9, 10, 11, 12, 5, 13, 14, 15, 16, 17, 18, 19, 20, 21, 22, 23, 24, 25, 26, 27, 28, 29, 30, 31, 32, 33, 34, 35, 36, 37, 38, 39, 40, 41, 42, 43, 44, 45, 54, 55, 56, 57, 58, 59, 60, 61, 62, 63, 64, 65, 66, 67, 68, 69, 70] (by decide +kernel) (by decide +kernel)
set_option maxRecDepth 20000 in
theorem gX10_keepTrial_X0_keep_n287 : GoodIn wsX10_keepTrial (wsX0_keep) := ggX10_keepTrial_X0_keep
set_option maxRecDepth 20000 in
theorem ggX10_keepTrial_X6_takeOver : GoodIn wsX10_keepTrial wsX6_takeOver := goodIn_r _ [17, 18, 19, 20, 21, 22, 23, 24, 25, 26, 27, 28, 29, 30, 31, 32, 33, 34, 35, 36, 37, 38, 39, 40, 41, 42, 43, 44, 45, 56, 57, 58, 59, 60, 61, 62, 63, 64, 65, 66, 67, 68, 69, 70] (by decide +kernel) (by decide +kernel)
set_option maxRecDepth 20000 in
theorem gX10_keepTrial_X6_takeOver_n284 : GoodIn wsX10_keepTrial (wsX6_takeOver) := ggX10_keepTrial_X6_takeOver
theorem dX10_keepTrial_0 : decode cX10_keepTrial 0 = .ok (.aload_n 0, 1) := by decide +kernel
theorem dX10_keepTrial_1 : decode cX10_keepTrial 1 = .ok (.getfield 22, 3) := by decide +kernel
theorem dX10_keepTrial_4 : decode cX10_keepTrial 4 = .ok (.aload_n 0, 1) := by decide +kernel
theorem dX10_keepTrial_5 : decode cX10_keepTrial 5 = .ok (.getfield 10, 3) := by decide +kernel
theorem dX10_keepTrial_8 : decode cX10_keepTrial 8 = .ok (.invokevirtual 287, 3) := by decide +kernel
theorem dX10_keepTrial_11 : decode cX10_keepTrial 11 = .ok (.aload_n 0, 1) := by decide +kernel
theorem dX10_keepTrial_12 : decode cX10_keepTrial 12 = .ok (.getfield 10, 3) := by decide +kernel
theorem dX10_keepTrial_15 : decode cX10_keepTrial 15 = .ok (.aload_n 0, 1) := by decide +kernel
theorem dX10_keepTrial_16 : decode cX10_keepTrial 16 = .ok (.getfield 16, 3) := by decide +kernel
theorem dX10_keepTrial_19 : decode cX10_keepTrial 19 = .ok (.invokevirtual 284, 3) := by decide +kernel
theorem dX10_keepTrial_22 : decode cX10_keepTrial 22 = .ok (.return_, 1) := by decide +kernel
theorem dX10_isLetterOf_0 : decode cX10_isLetterOf 0 = .ok (.iload_n 0, 1) := by decide +kernel
theorem dX10_isLetterOf_1 : decode cX10_isLetterOf 1 = .ok (.iload_n 1, 1) := by decide +kernel
theorem dX10_isLetterOf_2 : decode cX10_isLetterOf 2 = .ok (.if_icmp .lt 14, 3) := by decide +kernel
theorem dX10_isLetterOf_5 : decode cX10_isLetterOf 5 = .ok (.iload_n 0, 1) := by decide +kernel
theorem dX10_isLetterOf_6 : decode cX10_isLetterOf 6 = .ok (.iload_n 1, 1) := by decide +kernel
theorem dX10_isLetterOf_7 : decode cX10_isLetterOf 7 = .ok (.iload_n 2, 1) := by decide +kernel
theorem dX10_isLetterOf_8 : decode cX10_isLetterOf 8 = .ok (.iadd, 1) := by decide +kernel
theorem dX10_isLetterOf_9 : decode cX10_isLetterOf 9 = .ok (.if_icmp .ge 7, 3) := by decide +kernel
theorem dX10_isLetterOf_12 : decode cX10_isLetterOf 12 = .ok (.iconst 1, 1) := by decide +kernel
theorem dX10_isLetterOf_13 : decode cX10_isLetterOf 13 = .ok (.goto 4, 3) := by decide +kernel
theorem dX10_isLetterOf_16 : decode cX10_isLetterOf 16 = .ok (.iconst 0, 1) := by decide +kernel
theorem dX10_isLetterOf_17 : decode cX10_isLetterOf 17 = .ok (.ireturn, 1) := by decide +kernel
theorem dX11_init_0 : decode cX11_init 0 = .ok (.aload_n 0, 1) := by decide +kernel
theorem dX11_init_1 : decode cX11_init 1 = .ok (.invokespecial 1, 3) := by decide +kernel
theorem dX11_init_4 : decode cX11_init 4 = .ok (.aload_n 0, 1) := by decide +kernel
theorem dX11_init_5 : decode cX11_init 5 = .ok (.bipush 52, 2) := by decide +kernel
theorem dX11_init_7 : decode cX11_init 7 = .ok (.newarray .int, 2) := by decide +kernel
theorem dX11_init_9 : decode cX11_init 9 = .ok (.putfield 7, 3) := by decide +kernel
theorem dX11_init_12 : decode cX11_init 12 = .ok (.aload_n 0, 1) := by decide +kernel
theorem dX11_init_13 : decode cX11_init 13 = .ok (.sipush 208, 3) := by decide +kernel
theorem dX11_init_16 : decode cX11_init 16 = .ok (.newarray .int, 2) := by decide +kernel
theorem dX11_init_18 : decode cX11_init 18 = .ok (.putfield 13, 3) := by decide +kernel
theorem dX11_init_21 : decode cX11_init 21 = .ok (.aload_n 0, 1) := by decide +kernel
theorem dX11_init_22 : decode cX11_init 22 = .ok (.bipush 52, 2) := by decide +kernel
theorem dX11_init_24 : decode cX11_init 24 = .ok (.newarray .int, 2) := by decide +kernel
theorem dX11_init_26 : decode cX11_init 26 = .ok (.putfield 16, 3) := by decide +kernel
theorem dX11_init_29 : decode cX11_init 29 = .ok (.aload_n 0, 1) := by decide +kernel
theorem dX11_init_30 : decode cX11_init 30 = .ok (.bipush 52, 2) := by decide +kernel
theorem dX11_init_32 : decode cX11_init 32 = .ok (.newarray .int, 2) := by decide +kernel
theorem dX11_init_34 : decode cX11_init 34 = .ok (.putfield 19, 3) := by decide +kernel
theorem dX11_init_37 : decode cX11_init 37 = .ok (.aload_n 0, 1) := by decide +kernel
theorem dX11_init_38 : decode cX11_init 38 = .ok (.bipush 80, 2) := by decide +kernel
theorem dX11_init_40 : decode cX11_init 40 = .ok (.newarray .char, 2) := by decide +kernel
theorem dX11_init_42 : decode cX11_init 42 = .ok (.putfield 22, 3) := by decide +kernel
theorem dX11_init_45 : decode cX11_init 45 = .ok (.aload_n 0, 1) := by decide +kernel
theorem dX11_init_46 : decode cX11_init 46 = .ok (.bipush 101, 2) := by decide +kernel
theorem dX11_init_48 : decode cX11_init 48 = .ok (.newarray .int, 2) := by decide +kernel
theorem dX11_init_50 : decode cX11_init 50 = .ok (.putfield 26, 3) := by decide +kernel
theorem dX11_init_53 : decode cX11_init 53 = .ok (.aload_n 0, 1) := by decide +kernel
theorem dX11_init_54 : decode cX11_init 54 = .ok (.bipush 101, 2) := by decide +kernel
theorem dX11_init_56 : decode cX11_init 56 = .ok (.newarray .int, 2) := by decide +kernel
theorem dX11_init_58 : decode cX11_init 58 = .ok (.putfield 29, 3) := by decide +kernel
theorem dX11_init_61 : decode cX11_init 61 = .ok (.aload_n 0, 1) := by decide +kernel
theorem dX11_init_62 : decode cX11_init 62 = .ok (.sipush 401, 3) := by decide +kernel
theorem dX11_init_65 : decode cX11_init 65 = .ok (.newarray .int, 2) := by decide +kernel
theorem dX11_init_67 : decode cX11_init 67 = .ok (.putfield 32, 3) := by decide +kernel
theorem dX11_init_70 : decode cX11_init 70 = .ok (.aload_n 0, 1) := by decide +kernel
theorem dX11_init_71 : decode cX11_init 71 = .ok (.getfield 7, 3) := by decide +kernel
theorem dX11_init_74 : decode cX11_init 74 = .ok (.iconst 0, 1) := by decide +kernel
theorem dX11_init_75 : decode cX11_init 75 = .ok (.iconst 1, 1) := by decide +kernel
theorem dX11_init_76 : decode cX11_init 76 = .ok (.iastore, 1) := by decide +kernel
theorem dX11_init_77 : decode cX11_init 77 = .ok (.return_, 1) := by decide +kernel
theorem dX11_in_0 : decode cX11_in 0 = .ok (.iload_n 0, 1) := by decide +kernel
theorem dX11_in_1 : decode cX11_in 1 = .ok (.iload_n 1, 1) := by decide +kernel
theorem dX11_in_2 : decode cX11_in 2 = .ok (.if_icmp .lt 12, 3) := by decide +kernel
theorem dX11_in_5 : decode cX11_in 5 = .ok (.iload_n 0, 1) := by decide +kernel
theorem dX11_in_6 : decode cX11_in 6 = .ok (.iload_n 2, 1) := by decide +kernel
theorem dX11_in_7 : decode cX11_in 7 = .ok (.if_icmp .gt 7, 3) := by decide +kernel
theorem dX11_in_10 : decode cX11_in 10 = .ok (.iconst 1, 1) := by decide +kernel
theorem dX11_in_11 : decode cX11_in 11 = .ok (.goto 4, 3) := by decide +kernel
theorem dX11_in_14 : decode cX11_in 14 = .ok (.iconst 0, 1) := by decide +kernel
theorem dX11_in_15 : decode cX11_in 15 = .ok (.ireturn, 1) := by decide +kernel
theorem dX11_length_0 : decode cX11_length 0 = .ok (.iconst 0, 1) := by decide +kernel
theorem dX11_length_1 : decode cX11_length 1 = .ok (.istore_n 1, 1) := by decide +kernel
theorem dX11_length_2 : decode cX11_length 2 = .ok (.iload_n 0, 1) := by decide +kernel
theorem dX11_length_3 : decode cX11_length 3 = .ok (.istore_n 2, 1) := by decide +kernel
theorem dX11_length_4 : decode cX11_length 4 = .ok (.iload_n 2, 1) := by decide +kernel
theorem dX11_length_5 : decode cX11_length 5 = .ok (.iconst 1, 1) := by decide +kernel
theorem dX11_length_6 : decode cX11_length 6 = .ok (.if_icmp .le 13, 3) := by decide +kernel
theorem dX11_length_9 : decode cX11_length 9 = .ok (.iinc 1 1, 3) := by decide +kernel
theorem dX11_length_12 : decode cX11_length 12 = .ok (.iload_n 2, 1) := by decide +kernel
theorem dX11_length_13 : decode cX11_length 13 = .ok (.iconst 4, 1) := by decide +kernel
theorem dX11_length_14 : decode cX11_length 14 = .ok (.idiv, 1) := by decide +kernel
theorem dX11_length_15 : decode cX11_length 15 = .ok (.istore_n 2, 1) := by decide +kernel
theorem dX11_length_16 : decode cX11_length 16 = .ok (.goto (-12), 3) := by decide +kernel
theorem dX11_length_19 : decode cX11_length 19 = .ok (.iload_n 1, 1) := by decide +kernel
theorem dX11_length_20 : decode cX11_length 20 = .ok (.ireturn, 1) := by decide +kernel
set_option maxRecDepth 20000 in
theorem ggX11_letter_X11_length : GoodIn wsX11_letter wsX11_length := goodIn_r _ [4] (by decide +kernel) (by decide +kernel)
set_option maxRecDepth 20000 in
theorem gX11_letter_X11_length : GoodIn wsX11_letter (va_wsS RX11 35 yX11_length wsX11_length) := goodIn_app (goodIn_of _ (by decide +kernel)) ggX11_letter_X11_length
theorem dX11_letter_0 : decode cX11_letter 0 = .ok (.iload_n 0, 1) := by decide +kernel
theorem dX11_letter_1 : decode cX11_letter 1 = .ok (.iconst 2, 1) := by decide +kernel
theorem dX11_letter_2 : decode cX11_letter 2 = .ok (.iload_n 0, 1) := by decide +kernel
theorem dX11_letter_3 : decode cX11_letter 3 = .ok (.invokestatic 35, 3) := by decide +kernel
theorem dX11_letter_6 : decode cX11_letter 6 = .ok (.iconst 1, 1) := by decide +kernel
theorem dX11_letter_7 : decode cX11_letter 7 = .ok (.isub, 1) := by decide +kernel
theorem dX11_letter_8 : decode cX11_letter 8 = .ok (.iload_n 1, 1) := by decide +kernel
theorem dX11_letter_9 : decode cX11_letter 9 = .ok (.isub, 1) := by decide +kernel
theorem dX11_letter_10 : decode cX11_letter 10 = .ok (.imul, 1) := by decide +kernel
theorem dX11_letter_11 : decode cX11_letter 11 = .ok (.ishr, 1) := by decide +kernel
theorem dX11_letter_12 : decode cX11_letter 12 = .ok (.iconst 3, 1) := by decide +kernel
theorem dX11_letter_13 : decode cX11_letter 13 = .ok (.iand, 1) := by decide +kernel
theorem dX11_letter_14 : decode cX11_letter 14 = .ok (.ireturn, 1) := by decide +kernel
set_option maxRecDepth 20000 in
theorem ggX11_letterOf_X11_length : GoodIn wsX11_letterOf wsX11_length := goodIn_r _ [5] (by decide +kernel) (by decide +kernel)
set_option maxRecDepth 20000 in
theorem gX11_letterOf_X11_length : GoodIn wsX11_letterOf (va_wsS RX11 35 yX11_length wsX11_length) := goodIn_app (goodIn_of _ (by decide +kernel)) ggX11_letterOf_X11_length
set_option maxRecDepth 20000 in
theorem ggX11_letterOf_X11_letter : GoodIn wsX11_letterOf wsX11_letter := goodIn_r _ [8, 2, 3, 4, 5] (by decide +kernel) (by decide +kernel)
set_option maxRecDepth 20000 in
theorem gX11_letterOf_X11_letter : GoodIn wsX11_letterOf (va_wsS RX11 39 yX11_letter wsX11_letter) := goodIn_app (goodIn_of _ (by decide +kernel)) ggX11_letterOf_X11_letter
theorem dX11_letterOf_0 : decode cX11_letterOf 0 = .ok (.iload_n 1, 1) := by decide +kernel
theorem dX11_letterOf_1 : decode cX11_letterOf 1 = .ok (.iload_n 0, 1) := by decide +kernel
theorem dX11_letterOf_2 : decode cX11_letterOf 2 = .ok (.invokestatic 35, 3) := by decide +kernel
theorem dX11_letterOf_5 : decode cX11_letterOf 5 = .ok (.if_icmp .ge 11, 3) := by decide +kernel
theorem dX11_letterOf_8 : decode cX11_letterOf 8 = .ok (.iload_n 0, 1) := by decide +kernel
theorem dX11_letterOf_9 : decode cX11_letterOf 9 = .ok (.iload_n 1, 1) := by decide +kernel
theorem dX11_letterOf_10 : decode cX11_letterOf 10 = .ok (.invokestatic 39, 3) := by decide +kernel
theorem dX11_letterOf_13 : decode cX11_letterOf 13 = .ok (.goto 5, 3) := by decide +kernel
theorem dX11_letterOf_16 : decode cX11_letterOf 16 = .ok (.ldc 43, 2) := by decide +kernel
theorem dX11_letterOf_18 : decode cX11_letterOf 18 = .ok (.ireturn, 1) := by decide +kernel
theorem dX11_left_0 : decode cX11_left 0 = .ok (.aload_n 0, 1) := by decide +kernel
theorem dX11_left_1 : decode cX11_left 1 = .ok (.getfield 7, 3) := by decide +kernel
theorem dX11_left_4 : decode cX11_left 4 = .ok (.bipush 6, 2) := by decide +kernel
theorem dX11_left_6 : decode cX11_left 6 = .ok (.iconst 3, 1) := by decide +kernel
theorem dX11_left_7 : decode cX11_left 7 = .ok (.iload_n 1, 1) := by decide +kernel
theorem dX11_left_8 : decode cX11_left 8 = .ok (.imul, 1) := by decide +kernel
theorem dX11_left_9 : decode cX11_left 9 = .ok (.iadd, 1) := by decide +kernel
theorem dX11_left_10 : decode cX11_left 10 = .ok (.iaload, 1) := by decide +kernel
theorem dX11_left_11 : decode cX11_left 11 = .ok (.ireturn, 1) := by decide +kernel
theorem dX11_right_0 : decode cX11_right 0 = .ok (.aload_n 0, 1) := by decide +kernel
theorem dX11_right_1 : decode cX11_right 1 = .ok (.getfield 7, 3) := by decide +kernel
theorem dX11_right_4 : decode cX11_right 4 = .ok (.bipush 6, 2) := by decide +kernel
theorem dX11_right_6 : decode cX11_right 6 = .ok (.iconst 3, 1) := by decide +kernel
theorem dX11_right_7 : decode cX11_right 7 = .ok (.iload_n 1, 1) := by decide +kernel
theorem dX11_right_8 : decode cX11_right 8 = .ok (.imul, 1) := by decide +kernel
theorem dX11_right_9 : decode cX11_right 9 = .ok (.iadd, 1) := by decide +kernel
theorem dX11_right_10 : decode cX11_right 10 = .ok (.iconst 1, 1) := by decide +kernel
theorem dX11_right_11 : decode cX11_right 11 = .ok (.iadd, 1) := by decide +kernel
theorem dX11_right_12 : decode cX11_right 12 = .ok (.iaload, 1) := by decide +kernel
theorem dX11_right_13 : decode cX11_right 13 = .ok (.ireturn, 1) := by decide +kernel
set_option maxRecDepth 20000 in
theorem ggX11_isRule_X11_in : GoodIn wsX11_isRule wsX11_in := goodIn_r _ [5] (by decide +kernel) (by decide +kernel)
set_option maxRecDepth 20000 in
theorem gX11_isRule_X11_in : GoodIn wsX11_isRule (va_wsS RX11 44 yX11_in wsX11_in) := goodIn_app (goodIn_of _ (by decide +kernel)) ggX11_isRule_X11_in
theorem dX11_isRule_0 : decode cX11_isRule 0 = .ok (.iload_n 1, 1) := by decide +kernel
theorem dX11_isRule_1 : decode cX11_isRule 1 = .ok (.iconst 0, 1) := by decide +kernel
theorem dX11_isRule_2 : decode cX11_isRule 2 = .ok (.aload_n 0, 1) := by decide +kernel
theorem dX11_isRule_3 : decode cX11_isRule 3 = .ok (.getfield 7, 3) := by decide +kernel
theorem dX11_isRule_6 : decode cX11_isRule 6 = .ok (.iconst 1, 1) := by decide +kernel
theorem dX11_isRule_7 : decode cX11_isRule 7 = .ok (.iaload, 1) := by decide +kernel
theorem dX11_isRule_8 : decode cX11_isRule 8 = .ok (.iconst 1, 1) := by decide +kernel
theorem dX11_isRule_9 : decode cX11_isRule 9 = .ok (.isub, 1) := by decide +kernel
theorem dX11_isRule_10 : decode cX11_isRule 10 = .ok (.invokestatic 44, 3) := by decide +kernel
theorem dX11_isRule_13 : decode cX11_isRule 13 = .ok (.ireturn, 1) := by decide +kernel
set_option maxRecDepth 20000 in
theorem ggX11_stands_X11_length : GoodIn wsX11_stands wsX11_length := goodIn_r _ [4] (by decide +kernel) (by decide +kernel)
set_option maxRecDepth 20000 in
theorem gX11_stands_X11_length : GoodIn wsX11_stands (va_wsS RX11 35 yX11_length wsX11_length) := goodIn_app (goodIn_of _ (by decide +kernel)) ggX11_stands_X11_length
theorem dX11_stands_0 : decode cX11_stands 0 = .ok (.iload_n 0, 1) := by decide +kernel
theorem dX11_stands_1 : decode cX11_stands 1 = .ok (.invokestatic 35, 3) := by decide +kernel
theorem dX11_stands_4 : decode cX11_stands 4 = .ok (.istore_n 3, 1) := by decide +kernel
theorem dX11_stands_5 : decode cX11_stands 5 = .ok (.iload_n 1, 1) := by decide +kernel
theorem dX11_stands_6 : decode cX11_stands 6 = .ok (.invokestatic 35, 3) := by decide +kernel
theorem dX11_stands_9 : decode cX11_stands 9 = .ok (.iload_n 2, 1) := by decide +kernel
theorem dX11_stands_10 : decode cX11_stands 10 = .ok (.isub, 1) := by decide +kernel
theorem dX11_stands_11 : decode cX11_stands 11 = .ok (.iload_n 3, 1) := by decide +kernel
theorem dX11_stands_12 : decode cX11_stands 12 = .ok (.isub, 1) := by decide +kernel
theorem dX11_stands_13 : decode cX11_stands 13 = .ok (.istore 4, 2) := by decide +kernel
theorem dX11_stands_15 : decode cX11_stands 15 = .ok (.iconst 1, 1) := by decide +kernel
theorem dX11_stands_16 : decode cX11_stands 16 = .ok (.iconst 2, 1) := by decide +kernel
theorem dX11_stands_17 : decode cX11_stands 17 = .ok (.iload_n 3, 1) := by decide +kernel
theorem dX11_stands_18 : decode cX11_stands 18 = .ok (.imul, 1) := by decide +kernel
theorem dX11_stands_19 : decode cX11_stands 19 = .ok (.ishl, 1) := by decide +kernel
theorem dX11_stands_20 : decode cX11_stands 20 = .ok (.iconst 1, 1) := by decide +kernel
theorem dX11_stands_21 : decode cX11_stands 21 = .ok (.isub, 1) := by decide +kernel
theorem dX11_stands_22 : decode cX11_stands 22 = .ok (.istore 5, 2) := by decide +kernel
theorem dX11_stands_24 : decode cX11_stands 24 = .ok (.iload 4, 2) := by decide +kernel
theorem dX11_stands_26 : decode cX11_stands 26 = .ok (.ifCond .lt 23, 3) := by decide +kernel
theorem dX11_stands_29 : decode cX11_stands 29 = .ok (.iload_n 1, 1) := by decide +kernel
theorem dX11_stands_30 : decode cX11_stands 30 = .ok (.iconst 2, 1) := by decide +kernel
theorem dX11_stands_31 : decode cX11_stands 31 = .ok (.iload 4, 2) := by decide +kernel
theorem dX11_stands_33 : decode cX11_stands 33 = .ok (.imul, 1) := by decide +kernel
theorem dX11_stands_34 : decode cX11_stands 34 = .ok (.ishr, 1) := by decide +kernel
theorem dX11_stands_35 : decode cX11_stands 35 = .ok (.iload 5, 2) := by decide +kernel
theorem dX11_stands_37 : decode cX11_stands 37 = .ok (.iand, 1) := by decide +kernel
theorem dX11_stands_38 : decode cX11_stands 38 = .ok (.iload_n 0, 1) := by decide +kernel
theorem dX11_stands_39 : decode cX11_stands 39 = .ok (.iload 5, 2) := by decide +kernel
theorem dX11_stands_41 : decode cX11_stands 41 = .ok (.iand, 1) := by decide +kernel
theorem dX11_stands_42 : decode cX11_stands 42 = .ok (.if_icmp .ne 7, 3) := by decide +kernel
theorem dX11_stands_45 : decode cX11_stands 45 = .ok (.iconst 1, 1) := by decide +kernel
theorem dX11_stands_46 : decode cX11_stands 46 = .ok (.goto 4, 3) := by decide +kernel
theorem dX11_stands_49 : decode cX11_stands 49 = .ok (.iconst 0, 1) := by decide +kernel
theorem dX11_stands_50 : decode cX11_stands 50 = .ok (.ireturn, 1) := by decide +kernel
set_option maxRecDepth 20000 in
theorem ggX11_applied_X11_length : GoodIn wsX11_applied wsX11_length := goodIn_r _ [4] (by decide +kernel) (by decide +kernel)
set_option maxRecDepth 20000 in
theorem gX11_applied_X11_length : GoodIn wsX11_applied (va_wsS RX11 35 yX11_length wsX11_length) := goodIn_app (goodIn_of _ (by decide +kernel)) ggX11_applied_X11_length
set_option maxRecDepth 20000 in
theorem ggX11_applied_X11_left : GoodIn wsX11_applied wsX11_left := goodIn_r _ [8, 9, 14, 15, 16, 17, 18, 19, 20, 21, 22, 23, 24, 25, 26, 27, 28, 29, 30, 31, 32, 33, 34, 35, 36, 37, 38, 39, 40] (by decide +kernel) (by decide +kernel)
set_option maxRecDepth 20000 in
theorem gX11_applied_X11_left : GoodIn wsX11_applied (wsV RX11 48 RX11 yX11_left wsX11_left) := goodIn_app (goodIn_of _ (by decide +kernel)) ggX11_applied_X11_left
set_option maxRecDepth 20000 in
theorem ggX11_applied_X11_right : GoodIn wsX11_applied wsX11_right := goodIn_r _ [13, 9, 14, 15, 16, 17, 18, 19, 20, 21, 22, 23, 24, 25, 26, 27, 28, 29, 30, 31, 32, 33, 34, 35, 36, 37, 38, 39, 40] (by decide +kernel) (by decide +kernel)
set_option maxRecDepth 20000 in
theorem gX11_applied_X11_right : GoodIn wsX11_applied (wsV RX11 51 RX11 yX11_right wsX11_right) := goodIn_app (goodIn_of _ (by decide +kernel)) ggX11_applied_X11_right
theorem dX11_applied_0 : decode cX11_applied 0 = .ok (.iload_n 1, 1) := by decide +kernel
theorem dX11_applied_1 : decode cX11_applied 1 = .ok (.invokestatic 35, 3) := by decide +kernel
theorem dX11_applied_4 : decode cX11_applied 4 = .ok (.iload_n 3, 1) := by decide +kernel
theorem dX11_applied_5 : decode cX11_applied 5 = .ok (.isub, 1) := by decide +kernel
theorem dX11_applied_6 : decode cX11_applied 6 = .ok (.aload_n 0, 1) := by decide +kernel
theorem dX11_applied_7 : decode cX11_applied 7 = .ok (.iload_n 2, 1) := by decide +kernel
theorem dX11_applied_8 : decode cX11_applied 8 = .ok (.invokevirtual 48, 3) := by decide +kernel
theorem dX11_applied_11 : decode cX11_applied 11 = .ok (.invokestatic 35, 3) := by decide +kernel
theorem dX11_applied_14 : decode cX11_applied 14 = .ok (.isub, 1) := by decide +kernel
theorem dX11_applied_15 : decode cX11_applied 15 = .ok (.istore 4, 2) := by decide +kernel
theorem dX11_applied_17 : decode cX11_applied 17 = .ok (.iload_n 1, 1) := by decide +kernel
theorem dX11_applied_18 : decode cX11_applied 18 = .ok (.iconst 2, 1) := by decide +kernel
theorem dX11_applied_19 : decode cX11_applied 19 = .ok (.iload_n 1, 1) := by decide +kernel
theorem dX11_applied_20 : decode cX11_applied 20 = .ok (.invokestatic 35, 3) := by decide +kernel
theorem dX11_applied_23 : decode cX11_applied 23 = .ok (.iload_n 3, 1) := by decide +kernel
theorem dX11_applied_24 : decode cX11_applied 24 = .ok (.isub, 1) := by decide +kernel
theorem dX11_applied_25 : decode cX11_applied 25 = .ok (.imul, 1) := by decide +kernel
theorem dX11_applied_26 : decode cX11_applied 26 = .ok (.ishr, 1) := by decide +kernel
theorem dX11_applied_27 : decode cX11_applied 27 = .ok (.istore 5, 2) := by decide +kernel
theorem dX11_applied_29 : decode cX11_applied 29 = .ok (.aload_n 0, 1) := by decide +kernel
theorem dX11_applied_30 : decode cX11_applied 30 = .ok (.iload_n 2, 1) := by decide +kernel
theorem dX11_applied_31 : decode cX11_applied 31 = .ok (.invokevirtual 51, 3) := by decide +kernel
theorem dX11_applied_34 : decode cX11_applied 34 = .ok (.invokestatic 35, 3) := by decide +kernel
theorem dX11_applied_37 : decode cX11_applied 37 = .ok (.istore 6, 2) := by decide +kernel
theorem dX11_applied_39 : decode cX11_applied 39 = .ok (.iload 5, 2) := by decide +kernel
theorem dX11_applied_41 : decode cX11_applied 41 = .ok (.iconst 2, 1) := by decide +kernel
theorem dX11_applied_42 : decode cX11_applied 42 = .ok (.iload 6, 2) := by decide +kernel
theorem dX11_applied_44 : decode cX11_applied 44 = .ok (.imul, 1) := by decide +kernel
theorem dX11_applied_45 : decode cX11_applied 45 = .ok (.ishl, 1) := by decide +kernel
theorem dX11_applied_46 : decode cX11_applied 46 = .ok (.aload_n 0, 1) := by decide +kernel
theorem dX11_applied_47 : decode cX11_applied 47 = .ok (.iload_n 2, 1) := by decide +kernel
theorem dX11_applied_48 : decode cX11_applied 48 = .ok (.invokevirtual 51, 3) := by decide +kernel
theorem dX11_applied_51 : decode cX11_applied 51 = .ok (.iconst 1, 1) := by decide +kernel
theorem dX11_applied_52 : decode cX11_applied 52 = .ok (.iconst 2, 1) := by decide +kernel
theorem dX11_applied_53 : decode cX11_applied 53 = .ok (.iload 6, 2) := by decide +kernel
theorem dX11_applied_55 : decode cX11_applied 55 = .ok (.imul, 1) := by decide +kernel
theorem dX11_applied_56 : decode cX11_applied 56 = .ok (.ishl, 1) := by decide +kernel
theorem dX11_applied_57 : decode cX11_applied 57 = .ok (.iconst 1, 1) := by decide +kernel
theorem dX11_applied_58 : decode cX11_applied 58 = .ok (.isub, 1) := by decide +kernel
theorem dX11_applied_59 : decode cX11_applied 59 = .ok (.iand, 1) := by decide +kernel
theorem dX11_applied_60 : decode cX11_applied 60 = .ok (.ior, 1) := by decide +kernel
theorem dX11_applied_61 : decode cX11_applied 61 = .ok (.istore 5, 2) := by decide +kernel
theorem dX11_applied_63 : decode cX11_applied 63 = .ok (.iload 5, 2) := by decide +kernel
theorem dX11_applied_65 : decode cX11_applied 65 = .ok (.iconst 2, 1) := by decide +kernel
theorem dX11_applied_66 : decode cX11_applied 66 = .ok (.iload 4, 2) := by decide +kernel
theorem dX11_applied_68 : decode cX11_applied 68 = .ok (.imul, 1) := by decide +kernel
theorem dX11_applied_69 : decode cX11_applied 69 = .ok (.ishl, 1) := by decide +kernel
theorem dX11_applied_70 : decode cX11_applied 70 = .ok (.iload_n 1, 1) := by decide +kernel
theorem dX11_applied_71 : decode cX11_applied 71 = .ok (.iconst 1, 1) := by decide +kernel
theorem dX11_applied_72 : decode cX11_applied 72 = .ok (.iconst 2, 1) := by decide +kernel
theorem dX11_applied_73 : decode cX11_applied 73 = .ok (.iload 4, 2) := by decide +kernel
theorem dX11_applied_75 : decode cX11_applied 75 = .ok (.imul, 1) := by decide +kernel
theorem dX11_applied_76 : decode cX11_applied 76 = .ok (.ishl, 1) := by decide +kernel
theorem dX11_applied_77 : decode cX11_applied 77 = .ok (.iconst 1, 1) := by decide +kernel
theorem dX11_applied_78 : decode cX11_applied 78 = .ok (.isub, 1) := by decide +kernel
theorem dX11_applied_79 : decode cX11_applied 79 = .ok (.iand, 1) := by decide +kernel
theorem dX11_applied_80 : decode cX11_applied 80 = .ok (.ior, 1) := by decide +kernel
theorem dX11_applied_81 : decode cX11_applied 81 = .ok (.ireturn, 1) := by decide +kernel
set_option maxRecDepth 20000 in
theorem ggX11_chooses_X11_length : GoodIn wsX11_chooses wsX11_length := goodIn_r _ [7] (by decide +kernel) (by decide +kernel)
set_option maxRecDepth 20000 in
theorem gX11_chooses_X11_length : GoodIn wsX11_chooses (va_wsS RX11 35 yX11_length wsX11_length) := goodIn_app (goodIn_of _ (by decide +kernel)) ggX11_chooses_X11_length
set_option maxRecDepth 20000 in
theorem ggX11_chooses_X11_left : GoodIn wsX11_chooses wsX11_left := goodIn_r _ [11, 2, 15, 16, 17, 18, 19, 20, 21, 22, 23, 24, 25, 26, 27, 28, 29, 30, 31, 32, 33, 34, 35, 36, 37, 38, 39, 40, 41] (by decide +kernel) (by decide +kernel)
set_option maxRecDepth 20000 in
theorem gX11_chooses_X11_left : GoodIn wsX11_chooses (wsV RX11 48 RX11 yX11_left wsX11_left) := goodIn_app (goodIn_of _ (by decide +kernel)) ggX11_chooses_X11_left
set_option maxRecDepth 20000 in
theorem ggX11_chooses_X11_stands : GoodIn wsX11_chooses wsX11_stands := goodIn_r _ [14, 4, 5, 6, 7] (by decide +kernel) (by decide +kernel)
set_option maxRecDepth 20000 in
theorem gX11_chooses_X11_stands : GoodIn wsX11_chooses (va_wsS RX11 61 yX11_stands wsX11_stands) := goodIn_app (goodIn_of _ (by decide +kernel)) ggX11_chooses_X11_stands
theorem dX11_chooses_0 : decode cX11_chooses 0 = .ok (.iload_n 1, 1) := by decide +kernel
theorem dX11_chooses_1 : decode cX11_chooses 1 = .ok (.invokestatic 35, 3) := by decide +kernel
theorem dX11_chooses_4 : decode cX11_chooses 4 = .ok (.istore_n 2, 1) := by decide +kernel
theorem dX11_chooses_5 : decode cX11_chooses 5 = .ok (.aload_n 0, 1) := by decide +kernel
theorem dX11_chooses_6 : decode cX11_chooses 6 = .ok (.iconst (-1), 1) := by decide +kernel
theorem dX11_chooses_7 : decode cX11_chooses 7 = .ok (.putfield 54, 3) := by decide +kernel
theorem dX11_chooses_10 : decode cX11_chooses 10 = .ok (.iconst 0, 1) := by decide +kernel
theorem dX11_chooses_11 : decode cX11_chooses 11 = .ok (.istore_n 3, 1) := by decide +kernel
theorem dX11_chooses_12 : decode cX11_chooses 12 = .ok (.iload_n 3, 1) := by decide +kernel
theorem dX11_chooses_13 : decode cX11_chooses 13 = .ok (.iload_n 2, 1) := by decide +kernel
theorem dX11_chooses_14 : decode cX11_chooses 14 = .ok (.if_icmp .ge 110, 3) := by decide +kernel
theorem dX11_chooses_17 : decode cX11_chooses 17 = .ok (.iconst 0, 1) := by decide +kernel
theorem dX11_chooses_18 : decode cX11_chooses 18 = .ok (.istore 4, 2) := by decide +kernel
theorem dX11_chooses_20 : decode cX11_chooses 20 = .ok (.iload 4, 2) := by decide +kernel
theorem dX11_chooses_22 : decode cX11_chooses 22 = .ok (.aload_n 0, 1) := by decide +kernel
theorem dX11_chooses_23 : decode cX11_chooses 23 = .ok (.getfield 7, 3) := by decide +kernel
theorem dX11_chooses_26 : decode cX11_chooses 26 = .ok (.iconst 1, 1) := by decide +kernel
theorem dX11_chooses_27 : decode cX11_chooses 27 = .ok (.iaload, 1) := by decide +kernel
theorem dX11_chooses_28 : decode cX11_chooses 28 = .ok (.if_icmp .ge 90, 3) := by decide +kernel
theorem dX11_chooses_31 : decode cX11_chooses 31 = .ok (.aload_n 0, 1) := by decide +kernel
theorem dX11_chooses_32 : decode cX11_chooses 32 = .ok (.getfield 54, 3) := by decide +kernel
theorem dX11_chooses_35 : decode cX11_chooses 35 = .ok (.ifCond .lt 40, 3) := by decide +kernel
theorem dX11_chooses_38 : decode cX11_chooses 38 = .ok (.aload_n 0, 1) := by decide +kernel
theorem dX11_chooses_39 : decode cX11_chooses 39 = .ok (.getfield 7, 3) := by decide +kernel
theorem dX11_chooses_42 : decode cX11_chooses 42 = .ok (.iconst 2, 1) := by decide +kernel
theorem dX11_chooses_43 : decode cX11_chooses 43 = .ok (.iaload, 1) := by decide +kernel
theorem dX11_chooses_44 : decode cX11_chooses 44 = .ok (.iconst 1, 1) := by decide +kernel
theorem dX11_chooses_45 : decode cX11_chooses 45 = .ok (.if_icmp .ne 11, 3) := by decide +kernel
theorem dX11_chooses_48 : decode cX11_chooses 48 = .ok (.iload_n 3, 1) := by decide +kernel
theorem dX11_chooses_49 : decode cX11_chooses 49 = .ok (.aload_n 0, 1) := by decide +kernel
theorem dX11_chooses_50 : decode cX11_chooses 50 = .ok (.getfield 58, 3) := by decide +kernel
theorem dX11_chooses_53 : decode cX11_chooses 53 = .ok (.if_icmp .gt 22, 3) := by decide +kernel
theorem dX11_chooses_56 : decode cX11_chooses 56 = .ok (.aload_n 0, 1) := by decide +kernel
theorem dX11_chooses_57 : decode cX11_chooses 57 = .ok (.getfield 7, 3) := by decide +kernel
theorem dX11_chooses_60 : decode cX11_chooses 60 = .ok (.iconst 2, 1) := by decide +kernel
theorem dX11_chooses_61 : decode cX11_chooses 61 = .ok (.iaload, 1) := by decide +kernel
theorem dX11_chooses_62 : decode cX11_chooses 62 = .ok (.iconst 2, 1) := by decide +kernel
theorem dX11_chooses_63 : decode cX11_chooses 63 = .ok (.if_icmp .ne 16, 3) := by decide +kernel
theorem dX11_chooses_66 : decode cX11_chooses 66 = .ok (.iload 4, 2) := by decide +kernel
theorem dX11_chooses_68 : decode cX11_chooses 68 = .ok (.aload_n 0, 1) := by decide +kernel
theorem dX11_chooses_69 : decode cX11_chooses 69 = .ok (.getfield 54, 3) := by decide +kernel
theorem dX11_chooses_72 : decode cX11_chooses 72 = .ok (.if_icmp .ge 7, 3) := by decide +kernel
theorem dX11_chooses_75 : decode cX11_chooses 75 = .ok (.iconst 1, 1) := by decide +kernel
theorem dX11_chooses_76 : decode cX11_chooses 76 = .ok (.goto 4, 3) := by decide +kernel
theorem dX11_chooses_79 : decode cX11_chooses 79 = .ok (.iconst 0, 1) := by decide +kernel
theorem dX11_chooses_80 : decode cX11_chooses 80 = .ok (.istore 5, 2) := by decide +kernel
theorem dX11_chooses_82 : decode cX11_chooses 82 = .ok (.iload 5, 2) := by decide +kernel
theorem dX11_chooses_84 : decode cX11_chooses 84 = .ok (.ifCond .eq 28, 3) := by decide +kernel
theorem dX11_chooses_87 : decode cX11_chooses 87 = .ok (.aload_n 0, 1) := by decide +kernel
theorem dX11_chooses_88 : decode cX11_chooses 88 = .ok (.iload 4, 2) := by decide +kernel
theorem dX11_chooses_90 : decode cX11_chooses 90 = .ok (.invokevirtual 48, 3) := by decide +kernel
theorem dX11_chooses_93 : decode cX11_chooses 93 = .ok (.iload_n 1, 1) := by decide +kernel
theorem dX11_chooses_94 : decode cX11_chooses 94 = .ok (.iload_n 3, 1) := by decide +kernel
theorem dX11_chooses_95 : decode cX11_chooses 95 = .ok (.invokestatic 61, 3) := by decide +kernel
theorem dX11_chooses_98 : decode cX11_chooses 98 = .ok (.ifCond .eq 14, 3) := by decide +kernel
theorem dX11_chooses_101 : decode cX11_chooses 101 = .ok (.aload_n 0, 1) := by decide +kernel
theorem dX11_chooses_102 : decode cX11_chooses 102 = .ok (.iload 4, 2) := by decide +kernel
theorem dX11_chooses_104 : decode cX11_chooses 104 = .ok (.putfield 54, 3) := by decide +kernel
theorem dX11_chooses_107 : decode cX11_chooses 107 = .ok (.aload_n 0, 1) := by decide +kernel
theorem dX11_chooses_108 : decode cX11_chooses 108 = .ok (.iload_n 3, 1) := by decide +kernel
theorem dX11_chooses_109 : decode cX11_chooses 109 = .ok (.putfield 58, 3) := by decide +kernel
theorem dX11_chooses_112 : decode cX11_chooses 112 = .ok (.iinc 4 1, 3) := by decide +kernel
theorem dX11_chooses_115 : decode cX11_chooses 115 = .ok (.goto (-95), 3) := by decide +kernel
theorem dX11_chooses_118 : decode cX11_chooses 118 = .ok (.iinc 3 1, 3) := by decide +kernel
theorem dX11_chooses_121 : decode cX11_chooses 121 = .ok (.goto (-109), 3) := by decide +kernel
theorem dX11_chooses_124 : decode cX11_chooses 124 = .ok (.aload_n 0, 1) := by decide +kernel
theorem dX11_chooses_125 : decode cX11_chooses 125 = .ok (.getfield 54, 3) := by decide +kernel
theorem dX11_chooses_128 : decode cX11_chooses 128 = .ok (.ifCond .lt 7, 3) := by decide +kernel
theorem dX11_chooses_131 : decode cX11_chooses 131 = .ok (.iconst 1, 1) := by decide +kernel
theorem dX11_chooses_132 : decode cX11_chooses 132 = .ok (.goto 4, 3) := by decide +kernel
theorem dX11_chooses_135 : decode cX11_chooses 135 = .ok (.iconst 0, 1) := by decide +kernel
theorem dX11_chooses_136 : decode cX11_chooses 136 = .ok (.ireturn, 1) := by decide +kernel
set_option maxRecDepth 20000 in
theorem ggX11_reduces_X11_chooses : GoodIn wsX11_reduces wsX11_chooses := goodIn_r _ [11, 3, 12, 4, 13, 14, 10, 15, 16, 17, 18, 19, 20, 21, 22, 31, 32, 33, 34, 35, 36, 37, 38, 39, 40, 41, 42, 43, 44, 45, 46, 47, 48, 49, 50, 51, 52, 53, 54, 55, 56, 57] (by decide +kernel) (by decide +kernel)
set_option maxRecDepth 20000 in
theorem gX11_reduces_X11_chooses : GoodIn wsX11_reduces (wsV RX11 67 RX11 yX11_chooses wsX11_chooses) := goodIn_app (goodIn_of _ (by decide +kernel)) ggX11_reduces_X11_chooses
set_option maxRecDepth 20000 in
theorem ggX11_reduces_X11_applied : GoodIn wsX11_reduces wsX11_applied := goodIn_r _ [26, 13, 14, 10, 15, 16, 17, 18, 19, 12, 27, 28, 29, 30, 31, 32, 33, 34, 35, 36, 37, 38, 39, 40, 41, 42, 43, 44, 45, 46, 47, 48, 49, 50, 51, 52, 53, 54, 55, 56, 57] (by decide +kernel) (by decide +kernel)
set_option maxRecDepth 20000 in
theorem gX11_reduces_X11_applied : GoodIn wsX11_reduces (wsV RX11 71 RX11 yX11_applied wsX11_applied) := goodIn_app (goodIn_of _ (by decide +kernel)) ggX11_reduces_X11_applied
theorem dX11_reduces_0 : decode cX11_reduces 0 = .ok (.aload_n 0, 1) := by decide +kernel
theorem dX11_reduces_1 : decode cX11_reduces 1 = .ok (.getfield 26, 3) := by decide +kernel
theorem dX11_reduces_4 : decode cX11_reduces 4 = .ok (.iconst 0, 1) := by decide +kernel
theorem dX11_reduces_5 : decode cX11_reduces 5 = .ok (.iload_n 1, 1) := by decide +kernel
theorem dX11_reduces_6 : decode cX11_reduces 6 = .ok (.iastore, 1) := by decide +kernel
theorem dX11_reduces_7 : decode cX11_reduces 7 = .ok (.aload_n 0, 1) := by decide +kernel
theorem dX11_reduces_8 : decode cX11_reduces 8 = .ok (.iconst 0, 1) := by decide +kernel
theorem dX11_reduces_9 : decode cX11_reduces 9 = .ok (.putfield 64, 3) := by decide +kernel
theorem dX11_reduces_12 : decode cX11_reduces 12 = .ok (.aload_n 0, 1) := by decide +kernel
theorem dX11_reduces_13 : decode cX11_reduces 13 = .ok (.getfield 64, 3) := by decide +kernel
theorem dX11_reduces_16 : decode cX11_reduces 16 = .ok (.bipush 100, 2) := by decide +kernel
theorem dX11_reduces_18 : decode cX11_reduces 18 = .ok (.if_icmp .ge 110, 3) := by decide +kernel
theorem dX11_reduces_21 : decode cX11_reduces 21 = .ok (.aload_n 0, 1) := by decide +kernel
theorem dX11_reduces_22 : decode cX11_reduces 22 = .ok (.aload_n 0, 1) := by decide +kernel
theorem dX11_reduces_23 : decode cX11_reduces 23 = .ok (.getfield 26, 3) := by decide +kernel
theorem dX11_reduces_26 : decode cX11_reduces 26 = .ok (.aload_n 0, 1) := by decide +kernel
theorem dX11_reduces_27 : decode cX11_reduces 27 = .ok (.getfield 64, 3) := by decide +kernel
theorem dX11_reduces_30 : decode cX11_reduces 30 = .ok (.iaload, 1) := by decide +kernel
theorem dX11_reduces_31 : decode cX11_reduces 31 = .ok (.invokevirtual 67, 3) := by decide +kernel
theorem dX11_reduces_34 : decode cX11_reduces 34 = .ok (.ifCond .eq 94, 3) := by decide +kernel
theorem dX11_reduces_37 : decode cX11_reduces 37 = .ok (.aload_n 0, 1) := by decide +kernel
theorem dX11_reduces_38 : decode cX11_reduces 38 = .ok (.aload_n 0, 1) := by decide +kernel
theorem dX11_reduces_39 : decode cX11_reduces 39 = .ok (.getfield 26, 3) := by decide +kernel
theorem dX11_reduces_42 : decode cX11_reduces 42 = .ok (.aload_n 0, 1) := by decide +kernel
theorem dX11_reduces_43 : decode cX11_reduces 43 = .ok (.getfield 64, 3) := by decide +kernel
theorem dX11_reduces_46 : decode cX11_reduces 46 = .ok (.iaload, 1) := by decide +kernel
theorem dX11_reduces_47 : decode cX11_reduces 47 = .ok (.aload_n 0, 1) := by decide +kernel
theorem dX11_reduces_48 : decode cX11_reduces 48 = .ok (.getfield 54, 3) := by decide +kernel
theorem dX11_reduces_51 : decode cX11_reduces 51 = .ok (.aload_n 0, 1) := by decide +kernel
theorem dX11_reduces_52 : decode cX11_reduces 52 = .ok (.getfield 58, 3) := by decide +kernel
theorem dX11_reduces_55 : decode cX11_reduces 55 = .ok (.invokevirtual 71, 3) := by decide +kernel
theorem dX11_reduces_58 : decode cX11_reduces 58 = .ok (.istore_n 2, 1) := by decide +kernel
theorem dX11_reduces_59 : decode cX11_reduces 59 = .ok (.aload_n 0, 1) := by decide +kernel
theorem dX11_reduces_60 : decode cX11_reduces 60 = .ok (.getfield 29, 3) := by decide +kernel
theorem dX11_reduces_63 : decode cX11_reduces 63 = .ok (.aload_n 0, 1) := by decide +kernel
theorem dX11_reduces_64 : decode cX11_reduces 64 = .ok (.getfield 64, 3) := by decide +kernel
theorem dX11_reduces_67 : decode cX11_reduces 67 = .ok (.aload_n 0, 1) := by decide +kernel
theorem dX11_reduces_68 : decode cX11_reduces 68 = .ok (.getfield 54, 3) := by decide +kernel
theorem dX11_reduces_71 : decode cX11_reduces 71 = .ok (.iastore, 1) := by decide +kernel
theorem dX11_reduces_72 : decode cX11_reduces 72 = .ok (.aload_n 0, 1) := by decide +kernel
theorem dX11_reduces_73 : decode cX11_reduces 73 = .ok (.dup, 1) := by decide +kernel
theorem dX11_reduces_74 : decode cX11_reduces 74 = .ok (.getfield 64, 3) := by decide +kernel
theorem dX11_reduces_77 : decode cX11_reduces 77 = .ok (.iconst 1, 1) := by decide +kernel
theorem dX11_reduces_78 : decode cX11_reduces 78 = .ok (.iadd, 1) := by decide +kernel
theorem dX11_reduces_79 : decode cX11_reduces 79 = .ok (.putfield 64, 3) := by decide +kernel
theorem dX11_reduces_82 : decode cX11_reduces 82 = .ok (.aload_n 0, 1) := by decide +kernel
theorem dX11_reduces_83 : decode cX11_reduces 83 = .ok (.getfield 26, 3) := by decide +kernel
theorem dX11_reduces_86 : decode cX11_reduces 86 = .ok (.aload_n 0, 1) := by decide +kernel
theorem dX11_reduces_87 : decode cX11_reduces 87 = .ok (.getfield 64, 3) := by decide +kernel
theorem dX11_reduces_90 : decode cX11_reduces 90 = .ok (.iload_n 2, 1) := by decide +kernel
theorem dX11_reduces_91 : decode cX11_reduces 91 = .ok (.iastore, 1) := by decide +kernel
theorem dX11_reduces_92 : decode cX11_reduces 92 = .ok (.iconst 0, 1) := by decide +kernel
theorem dX11_reduces_93 : decode cX11_reduces 93 = .ok (.istore_n 3, 1) := by decide +kernel
theorem dX11_reduces_94 : decode cX11_reduces 94 = .ok (.iload_n 3, 1) := by decide +kernel
theorem dX11_reduces_95 : decode cX11_reduces 95 = .ok (.aload_n 0, 1) := by decide +kernel
theorem dX11_reduces_96 : decode cX11_reduces 96 = .ok (.getfield 64, 3) := by decide +kernel
theorem dX11_reduces_99 : decode cX11_reduces 99 = .ok (.if_icmp .ge 26, 3) := by decide +kernel
theorem dX11_reduces_102 : decode cX11_reduces 102 = .ok (.aload_n 0, 1) := by decide +kernel
theorem dX11_reduces_103 : decode cX11_reduces 103 = .ok (.getfield 26, 3) := by decide +kernel
theorem dX11_reduces_106 : decode cX11_reduces 106 = .ok (.iload_n 3, 1) := by decide +kernel
theorem dX11_reduces_107 : decode cX11_reduces 107 = .ok (.iaload, 1) := by decide +kernel
theorem dX11_reduces_108 : decode cX11_reduces 108 = .ok (.iload_n 2, 1) := by decide +kernel
theorem dX11_reduces_109 : decode cX11_reduces 109 = .ok (.if_icmp .ne 10, 3) := by decide +kernel
theorem dX11_reduces_112 : decode cX11_reduces 112 = .ok (.aload_n 0, 1) := by decide +kernel
theorem dX11_reduces_113 : decode cX11_reduces 113 = .ok (.iload_n 3, 1) := by decide +kernel
theorem dX11_reduces_114 : decode cX11_reduces 114 = .ok (.putfield 75, 3) := by decide +kernel
theorem dX11_reduces_117 : decode cX11_reduces 117 = .ok (.iconst 1, 1) := by decide +kernel
theorem dX11_reduces_118 : decode cX11_reduces 118 = .ok (.ireturn, 1) := by decide +kernel
theorem dX11_reduces_119 : decode cX11_reduces 119 = .ok (.iinc 3 1, 3) := by decide +kernel
theorem dX11_reduces_122 : decode cX11_reduces 122 = .ok (.goto (-28), 3) := by decide +kernel
theorem dX11_reduces_125 : decode cX11_reduces 125 = .ok (.goto (-113), 3) := by decide +kernel
theorem dX11_reduces_128 : decode cX11_reduces 128 = .ok (.aload_n 0, 1) := by decide +kernel
theorem dX11_reduces_129 : decode cX11_reduces 129 = .ok (.aload_n 0, 1) := by decide +kernel
theorem dX11_reduces_130 : decode cX11_reduces 130 = .ok (.getfield 26, 3) := by decide +kernel
theorem dX11_reduces_133 : decode cX11_reduces 133 = .ok (.aload_n 0, 1) := by decide +kernel
theorem dX11_reduces_134 : decode cX11_reduces 134 = .ok (.getfield 64, 3) := by decide +kernel
theorem dX11_reduces_137 : decode cX11_reduces 137 = .ok (.iaload, 1) := by decide +kernel
theorem dX11_reduces_138 : decode cX11_reduces 138 = .ok (.invokevirtual 67, 3) := by decide +kernel
theorem dX11_reduces_141 : decode cX11_reduces 141 = .ok (.ifCond .eq 7, 3) := by decide +kernel
theorem dX11_reduces_144 : decode cX11_reduces 144 = .ok (.iconst 2, 1) := by decide +kernel
theorem dX11_reduces_145 : decode cX11_reduces 145 = .ok (.goto 4, 3) := by decide +kernel
theorem dX11_reduces_148 : decode cX11_reduces 148 = .ok (.iconst 0, 1) := by decide +kernel
theorem dX11_reduces_149 : decode cX11_reduces 149 = .ok (.ireturn, 1) := by decide +kernel
theorem dX11_keeps_0 : decode cX11_keeps 0 = .ok (.iconst 0, 1) := by decide +kernel
theorem dX11_keeps_1 : decode cX11_keeps 1 = .ok (.istore_n 1, 1) := by decide +kernel
theorem dX11_keeps_2 : decode cX11_keeps 2 = .ok (.iload_n 1, 1) := by decide +kernel
theorem dX11_keeps_3 : decode cX11_keeps 3 = .ok (.bipush 52, 2) := by decide +kernel
theorem dX11_keeps_5 : decode cX11_keeps 5 = .ok (.if_icmp .ge 21, 3) := by decide +kernel
theorem dX11_keeps_8 : decode cX11_keeps 8 = .ok (.aload_n 0, 1) := by decide +kernel
theorem dX11_keeps_9 : decode cX11_keeps 9 = .ok (.getfield 16, 3) := by decide +kernel
theorem dX11_keeps_12 : decode cX11_keeps 12 = .ok (.iload_n 1, 1) := by decide +kernel
theorem dX11_keeps_13 : decode cX11_keeps 13 = .ok (.aload_n 0, 1) := by decide +kernel
theorem dX11_keeps_14 : decode cX11_keeps 14 = .ok (.getfield 7, 3) := by decide +kernel
theorem dX11_keeps_17 : decode cX11_keeps 17 = .ok (.iload_n 1, 1) := by decide +kernel
theorem dX11_keeps_18 : decode cX11_keeps 18 = .ok (.iaload, 1) := by decide +kernel
theorem dX11_keeps_19 : decode cX11_keeps 19 = .ok (.iastore, 1) := by decide +kernel
theorem dX11_keeps_20 : decode cX11_keeps 20 = .ok (.iinc 1 1, 3) := by decide +kernel
theorem dX11_keeps_23 : decode cX11_keeps 23 = .ok (.goto (-21), 3) := by decide +kernel
theorem dX11_keeps_26 : decode cX11_keeps 26 = .ok (.return_, 1) := by decide +kernel
theorem dX11_acted_0 : decode cX11_acted 0 = .ok (.iload_n 1, 1) := by decide +kernel
theorem dX11_acted_1 : decode cX11_acted 1 = .ok (.ldc 78, 2) := by decide +kernel
theorem dX11_acted_3 : decode cX11_acted 3 = .ok (.if_icmp .le 95, 3) := by decide +kernel
theorem dX11_acted_6 : decode cX11_acted 6 = .ok (.aload_n 0, 1) := by decide +kernel
theorem dX11_acted_7 : decode cX11_acted 7 = .ok (.getfield 79, 3) := by decide +kernel
theorem dX11_acted_10 : decode cX11_acted 10 = .ok (.iconst 4, 1) := by decide +kernel
theorem dX11_acted_11 : decode cX11_acted 11 = .ok (.if_icmp .ne 43, 3) := by decide +kernel
theorem dX11_acted_14 : decode cX11_acted 14 = .ok (.iconst 0, 1) := by decide +kernel
theorem dX11_acted_15 : decode cX11_acted 15 = .ok (.istore_n 2, 1) := by decide +kernel
theorem dX11_acted_16 : decode cX11_acted 16 = .ok (.iload_n 2, 1) := by decide +kernel
theorem dX11_acted_17 : decode cX11_acted 17 = .ok (.sipush 156, 3) := by decide +kernel
theorem dX11_acted_20 : decode cX11_acted 20 = .ok (.if_icmp .ge 24, 3) := by decide +kernel
theorem dX11_acted_23 : decode cX11_acted 23 = .ok (.aload_n 0, 1) := by decide +kernel
theorem dX11_acted_24 : decode cX11_acted 24 = .ok (.getfield 13, 3) := by decide +kernel
theorem dX11_acted_27 : decode cX11_acted 27 = .ok (.iload_n 2, 1) := by decide +kernel
theorem dX11_acted_28 : decode cX11_acted 28 = .ok (.aload_n 0, 1) := by decide +kernel
theorem dX11_acted_29 : decode cX11_acted 29 = .ok (.getfield 13, 3) := by decide +kernel
theorem dX11_acted_32 : decode cX11_acted 32 = .ok (.iload_n 2, 1) := by decide +kernel
theorem dX11_acted_33 : decode cX11_acted 33 = .ok (.bipush 52, 2) := by decide +kernel
theorem dX11_acted_35 : decode cX11_acted 35 = .ok (.iadd, 1) := by decide +kernel
theorem dX11_acted_36 : decode cX11_acted 36 = .ok (.iaload, 1) := by decide +kernel
theorem dX11_acted_37 : decode cX11_acted 37 = .ok (.iastore, 1) := by decide +kernel
theorem dX11_acted_38 : decode cX11_acted 38 = .ok (.iinc 2 1, 3) := by decide +kernel
theorem dX11_acted_41 : decode cX11_acted 41 = .ok (.goto (-25), 3) := by decide +kernel
theorem dX11_acted_44 : decode cX11_acted 44 = .ok (.aload_n 0, 1) := by decide +kernel
theorem dX11_acted_45 : decode cX11_acted 45 = .ok (.dup, 1) := by decide +kernel
theorem dX11_acted_46 : decode cX11_acted 46 = .ok (.getfield 79, 3) := by decide +kernel
theorem dX11_acted_49 : decode cX11_acted 49 = .ok (.iconst 1, 1) := by decide +kernel
theorem dX11_acted_50 : decode cX11_acted 50 = .ok (.isub, 1) := by decide +kernel
theorem dX11_acted_51 : decode cX11_acted 51 = .ok (.putfield 79, 3) := by decide +kernel
theorem dX11_acted_54 : decode cX11_acted 54 = .ok (.iconst 0, 1) := by decide +kernel
theorem dX11_acted_55 : decode cX11_acted 55 = .ok (.istore_n 2, 1) := by decide +kernel
theorem dX11_acted_56 : decode cX11_acted 56 = .ok (.iload_n 2, 1) := by decide +kernel
theorem dX11_acted_57 : decode cX11_acted 57 = .ok (.bipush 52, 2) := by decide +kernel
theorem dX11_acted_59 : decode cX11_acted 59 = .ok (.if_icmp .ge 29, 3) := by decide +kernel
theorem dX11_acted_62 : decode cX11_acted 62 = .ok (.aload_n 0, 1) := by decide +kernel
theorem dX11_acted_63 : decode cX11_acted 63 = .ok (.getfield 13, 3) := by decide +kernel
theorem dX11_acted_66 : decode cX11_acted 66 = .ok (.bipush 52, 2) := by decide +kernel
theorem dX11_acted_68 : decode cX11_acted 68 = .ok (.aload_n 0, 1) := by decide +kernel
theorem dX11_acted_69 : decode cX11_acted 69 = .ok (.getfield 79, 3) := by decide +kernel
theorem dX11_acted_72 : decode cX11_acted 72 = .ok (.imul, 1) := by decide +kernel
theorem dX11_acted_73 : decode cX11_acted 73 = .ok (.iload_n 2, 1) := by decide +kernel
theorem dX11_acted_74 : decode cX11_acted 74 = .ok (.iadd, 1) := by decide +kernel
theorem dX11_acted_75 : decode cX11_acted 75 = .ok (.aload_n 0, 1) := by decide +kernel
theorem dX11_acted_76 : decode cX11_acted 76 = .ok (.getfield 16, 3) := by decide +kernel
theorem dX11_acted_79 : decode cX11_acted 79 = .ok (.iload_n 2, 1) := by decide +kernel
theorem dX11_acted_80 : decode cX11_acted 80 = .ok (.iaload, 1) := by decide +kernel
theorem dX11_acted_81 : decode cX11_acted 81 = .ok (.iastore, 1) := by decide +kernel
theorem dX11_acted_82 : decode cX11_acted 82 = .ok (.iinc 2 1, 3) := by decide +kernel
theorem dX11_acted_85 : decode cX11_acted 85 = .ok (.goto (-29), 3) := by decide +kernel
theorem dX11_acted_88 : decode cX11_acted 88 = .ok (.aload_n 0, 1) := by decide +kernel
theorem dX11_acted_89 : decode cX11_acted 89 = .ok (.dup, 1) := by decide +kernel
theorem dX11_acted_90 : decode cX11_acted 90 = .ok (.getfield 79, 3) := by decide +kernel
theorem dX11_acted_93 : decode cX11_acted 93 = .ok (.iconst 1, 1) := by decide +kernel
theorem dX11_acted_94 : decode cX11_acted 94 = .ok (.iadd, 1) := by decide +kernel
theorem dX11_acted_95 : decode cX11_acted 95 = .ok (.putfield 79, 3) := by decide +kernel
theorem dX11_acted_98 : decode cX11_acted 98 = .ok (.iload_n 1, 1) := by decide +kernel
theorem dX11_acted_99 : decode cX11_acted 99 = .ok (.ireturn, 1) := by decide +kernel
set_option maxRecDepth 20000 in
theorem ggX11_drops_X11_isRule : GoodIn wsX11_drops wsX11_isRule := goodIn_r _ [7, 2, 8, 9, 6, 10, 11, 12, 13, 14, 15, 16, 17, 18, 19, 20, 21, 22, 23, 24, 25, 26, 27, 28, 29, 30, 31, 32, 33, 34, 35, 36, 37] (by decide +kernel) (by decide +kernel)
set_option maxRecDepth 20000 in
theorem gX11_drops_X11_isRule : GoodIn wsX11_drops (wsV RX11 82 RX11 yX11_isRule wsX11_isRule) := goodIn_app (goodIn_of _ (by decide +kernel)) ggX11_drops_X11_isRule
theorem dX11_drops_0 : decode cX11_drops 0 = .ok (.aload_n 0, 1) := by decide +kernel
theorem dX11_drops_1 : decode cX11_drops 1 = .ok (.iload_n 1, 1) := by decide +kernel
theorem dX11_drops_2 : decode cX11_drops 2 = .ok (.invokevirtual 82, 3) := by decide +kernel
theorem dX11_drops_5 : decode cX11_drops 5 = .ok (.ifCond .ne 6, 3) := by decide +kernel
theorem dX11_drops_8 : decode cX11_drops 8 = .ok (.ldc 78, 2) := by decide +kernel
theorem dX11_drops_10 : decode cX11_drops 10 = .ok (.ireturn, 1) := by decide +kernel
theorem dX11_drops_11 : decode cX11_drops 11 = .ok (.aload_n 0, 1) := by decide +kernel
theorem dX11_drops_12 : decode cX11_drops 12 = .ok (.getfield 7, 3) := by decide +kernel
theorem dX11_drops_15 : decode cX11_drops 15 = .ok (.iconst 1, 1) := by decide +kernel
theorem dX11_drops_16 : decode cX11_drops 16 = .ok (.dup2, 1) := by decide +kernel
theorem dX11_drops_17 : decode cX11_drops 17 = .ok (.iaload, 1) := by decide +kernel
theorem dX11_drops_18 : decode cX11_drops 18 = .ok (.iconst 1, 1) := by decide +kernel
theorem dX11_drops_19 : decode cX11_drops 19 = .ok (.isub, 1) := by decide +kernel
theorem dX11_drops_20 : decode cX11_drops 20 = .ok (.iastore, 1) := by decide +kernel
theorem dX11_drops_21 : decode cX11_drops 21 = .ok (.iconst 3, 1) := by decide +kernel
theorem dX11_drops_22 : decode cX11_drops 22 = .ok (.iload_n 1, 1) := by decide +kernel
theorem dX11_drops_23 : decode cX11_drops 23 = .ok (.imul, 1) := by decide +kernel
theorem dX11_drops_24 : decode cX11_drops 24 = .ok (.istore_n 2, 1) := by decide +kernel
theorem dX11_drops_25 : decode cX11_drops 25 = .ok (.iload_n 2, 1) := by decide +kernel
theorem dX11_drops_26 : decode cX11_drops 26 = .ok (.iconst 3, 1) := by decide +kernel
theorem dX11_drops_27 : decode cX11_drops 27 = .ok (.aload_n 0, 1) := by decide +kernel
theorem dX11_drops_28 : decode cX11_drops 28 = .ok (.getfield 7, 3) := by decide +kernel
theorem dX11_drops_31 : decode cX11_drops 31 = .ok (.iconst 1, 1) := by decide +kernel
theorem dX11_drops_32 : decode cX11_drops 32 = .ok (.iaload, 1) := by decide +kernel
theorem dX11_drops_33 : decode cX11_drops 33 = .ok (.imul, 1) := by decide +kernel
theorem dX11_drops_34 : decode cX11_drops 34 = .ok (.if_icmp .ge 29, 3) := by decide +kernel
theorem dX11_drops_37 : decode cX11_drops 37 = .ok (.aload_n 0, 1) := by decide +kernel
theorem dX11_drops_38 : decode cX11_drops 38 = .ok (.getfield 7, 3) := by decide +kernel
theorem dX11_drops_41 : decode cX11_drops 41 = .ok (.bipush 6, 2) := by decide +kernel
theorem dX11_drops_43 : decode cX11_drops 43 = .ok (.iload_n 2, 1) := by decide +kernel
theorem dX11_drops_44 : decode cX11_drops 44 = .ok (.iadd, 1) := by decide +kernel
theorem dX11_drops_45 : decode cX11_drops 45 = .ok (.aload_n 0, 1) := by decide +kernel
theorem dX11_drops_46 : decode cX11_drops 46 = .ok (.getfield 7, 3) := by decide +kernel
theorem dX11_drops_49 : decode cX11_drops 49 = .ok (.bipush 6, 2) := by decide +kernel
theorem dX11_drops_51 : decode cX11_drops 51 = .ok (.iload_n 2, 1) := by decide +kernel
theorem dX11_drops_52 : decode cX11_drops 52 = .ok (.iadd, 1) := by decide +kernel
theorem dX11_drops_53 : decode cX11_drops 53 = .ok (.iconst 3, 1) := by decide +kernel
theorem dX11_drops_54 : decode cX11_drops 54 = .ok (.iadd, 1) := by decide +kernel
theorem dX11_drops_55 : decode cX11_drops 55 = .ok (.iaload, 1) := by decide +kernel
theorem dX11_drops_56 : decode cX11_drops 56 = .ok (.iastore, 1) := by decide +kernel
theorem dX11_drops_57 : decode cX11_drops 57 = .ok (.iinc 2 1, 3) := by decide +kernel
theorem dX11_drops_60 : decode cX11_drops 60 = .ok (.goto (-35), 3) := by decide +kernel
theorem dX11_drops_63 : decode cX11_drops 63 = .ok (.aload_n 0, 1) := by decide +kernel
theorem dX11_drops_64 : decode cX11_drops 64 = .ok (.getfield 7, 3) := by decide +kernel
theorem dX11_drops_67 : decode cX11_drops 67 = .ok (.iconst 3, 1) := by decide +kernel
theorem dX11_drops_68 : decode cX11_drops 68 = .ok (.iconst 0, 1) := by decide +kernel
theorem dX11_drops_69 : decode cX11_drops 69 = .ok (.iastore, 1) := by decide +kernel
theorem dX11_drops_70 : decode cX11_drops 70 = .ok (.aload_n 0, 1) := by decide +kernel
theorem dX11_drops_71 : decode cX11_drops 71 = .ok (.getfield 7, 3) := by decide +kernel
theorem dX11_drops_74 : decode cX11_drops 74 = .ok (.iconst 1, 1) := by decide +kernel
theorem dX11_drops_75 : decode cX11_drops 75 = .ok (.iaload, 1) := by decide +kernel
theorem dX11_drops_76 : decode cX11_drops 76 = .ok (.ireturn, 1) := by decide +kernel
set_option maxRecDepth 20000 in
theorem ggX11_drop_X11_keeps : GoodIn wsX11_drop wsX11_keeps := goodIn_r _ [5, 6, 7, 26, 27, 28, 29, 30, 31, 32, 33, 34, 35, 36, 37, 38, 39, 40, 41, 42, 43, 44, 45, 46, 47, 48, 49, 50, 51, 52] (by decide +kernel) (by decide +kernel)
set_option maxRecDepth 20000 in
theorem gX11_drop_X11_keeps : GoodIn wsX11_drop (wsV RX11 85 RX11 yX11_keeps wsX11_keeps) := goodIn_app (goodIn_of _ (by decide +kernel)) ggX11_drop_X11_keeps
set_option maxRecDepth 20000 in
theorem ggX11_drop_X11_drops : GoodIn wsX11_drop wsX11_drops := goodIn_r _ [11, 12, 7, 13, 14, 15, 4, 16, 17, 18, 19, 26, 27, 28, 29, 30, 31, 32, 33, 34, 35, 36, 37, 38, 39, 40, 41, 42, 43, 44, 45, 46, 47, 48, 49, 50, 51, 52] (by decide +kernel) (by decide +kernel)
set_option maxRecDepth 20000 in
theorem gX11_drop_X11_drops : GoodIn wsX11_drop (wsV RX11 88 RX11 yX11_drops wsX11_drops) := goodIn_app (goodIn_of _ (by decide +kernel)) ggX11_drop_X11_drops
set_option maxRecDepth 20000 in
theorem ggX11_drop_X11_acted : GoodIn wsX11_drop wsX11_acted := goodIn_r _ [23, 12, 24, 25, 6, 26, 27, 28, 29, 30, 31, 32, 33, 34, 35, 36, 37, 38, 39, 40, 41, 42, 43, 44, 45, 46, 47, 48, 49, 50, 51, 52] (by decide +kernel) (by decide +kernel)
set_option maxRecDepth 20000 in
theorem gX11_drop_X11_acted : GoodIn wsX11_drop (wsV RX11 91 RX11 yX11_acted wsX11_acted) := goodIn_app (goodIn_of _ (by decide +kernel)) ggX11_drop_X11_acted
theorem dX11_drop_0 : decode cX11_drop 0 = .ok (.aload_n 0, 1) := by decide +kernel
theorem dX11_drop_1 : decode cX11_drop 1 = .ok (.invokevirtual 85, 3) := by decide +kernel
theorem dX11_drop_4 : decode cX11_drop 4 = .ok (.aload_n 0, 1) := by decide +kernel
theorem dX11_drop_5 : decode cX11_drop 5 = .ok (.aload_n 0, 1) := by decide +kernel
theorem dX11_drop_6 : decode cX11_drop 6 = .ok (.iload_n 1, 1) := by decide +kernel
theorem dX11_drop_7 : decode cX11_drop 7 = .ok (.invokevirtual 88, 3) := by decide +kernel
theorem dX11_drop_10 : decode cX11_drop 10 = .ok (.invokevirtual 91, 3) := by decide +kernel
theorem dX11_drop_13 : decode cX11_drop 13 = .ok (.ireturn, 1) := by decide +kernel
set_option maxRecDepth 20000 in
theorem ggX11_goes_X11_in : GoodIn wsX11_goes wsX11_in := goodIn_r _ [6] (by decide +kernel) (by decide +kernel)
set_option maxRecDepth 20000 in
theorem gX11_goes_X11_in : GoodIn wsX11_goes (va_wsS RX11 44 yX11_in wsX11_in) := goodIn_app (goodIn_of _ (by decide +kernel)) ggX11_goes_X11_in
theorem dX11_goes_0 : decode cX11_goes 0 = .ok (.iload_n 1, 1) := by decide +kernel
theorem dX11_goes_1 : decode cX11_goes 1 = .ok (.iconst 0, 1) := by decide +kernel
theorem dX11_goes_2 : decode cX11_goes 2 = .ok (.iconst 2, 1) := by decide +kernel
theorem dX11_goes_3 : decode cX11_goes 3 = .ok (.invokestatic 44, 3) := by decide +kernel
theorem dX11_goes_6 : decode cX11_goes 6 = .ok (.ifCond .ne 6, 3) := by decide +kernel
theorem dX11_goes_9 : decode cX11_goes 9 = .ok (.ldc 78, 2) := by decide +kernel
theorem dX11_goes_11 : decode cX11_goes 11 = .ok (.ireturn, 1) := by decide +kernel
theorem dX11_goes_12 : decode cX11_goes 12 = .ok (.aload_n 0, 1) := by decide +kernel
theorem dX11_goes_13 : decode cX11_goes 13 = .ok (.getfield 7, 3) := by decide +kernel
theorem dX11_goes_16 : decode cX11_goes 16 = .ok (.iconst 2, 1) := by decide +kernel
theorem dX11_goes_17 : decode cX11_goes 17 = .ok (.iaload, 1) := by decide +kernel
theorem dX11_goes_18 : decode cX11_goes 18 = .ok (.istore_n 2, 1) := by decide +kernel
theorem dX11_goes_19 : decode cX11_goes 19 = .ok (.aload_n 0, 1) := by decide +kernel
theorem dX11_goes_20 : decode cX11_goes 20 = .ok (.getfield 7, 3) := by decide +kernel
theorem dX11_goes_23 : decode cX11_goes 23 = .ok (.iconst 2, 1) := by decide +kernel
theorem dX11_goes_24 : decode cX11_goes 24 = .ok (.iload_n 1, 1) := by decide +kernel
theorem dX11_goes_25 : decode cX11_goes 25 = .ok (.iastore, 1) := by decide +kernel
theorem dX11_goes_26 : decode cX11_goes 26 = .ok (.aload_n 0, 1) := by decide +kernel
theorem dX11_goes_27 : decode cX11_goes 27 = .ok (.getfield 7, 3) := by decide +kernel
theorem dX11_goes_30 : decode cX11_goes 30 = .ok (.iconst 3, 1) := by decide +kernel
theorem dX11_goes_31 : decode cX11_goes 31 = .ok (.iconst 0, 1) := by decide +kernel
theorem dX11_goes_32 : decode cX11_goes 32 = .ok (.iastore, 1) := by decide +kernel
theorem dX11_goes_33 : decode cX11_goes 33 = .ok (.iload_n 2, 1) := by decide +kernel
theorem dX11_goes_34 : decode cX11_goes 34 = .ok (.ireturn, 1) := by decide +kernel
set_option maxRecDepth 20000 in
theorem ggX11_way_X11_keeps : GoodIn wsX11_way wsX11_keeps := goodIn_r _ [5, 6, 7, 22, 23, 24, 25, 26, 27, 28, 29, 30, 31, 32, 33, 34, 35, 36, 37, 38, 39, 40, 41, 42, 43, 44, 45, 46, 47, 48] (by decide +kernel) (by decide +kernel)
set_option maxRecDepth 20000 in
theorem gX11_way_X11_keeps : GoodIn wsX11_way (wsV RX11 85 RX11 yX11_keeps wsX11_keeps) := goodIn_app (goodIn_of _ (by decide +kernel)) ggX11_way_X11_keeps
set_option maxRecDepth 20000 in
theorem ggX11_way_X11_goes : GoodIn wsX11_way wsX11_goes := goodIn_r _ [11, 12, 7, 13, 14, 4, 15, 22, 23, 24, 25, 26, 27, 28, 29, 30, 31, 32, 33, 34, 35, 36, 37, 38, 39, 40, 41, 42, 43, 44, 45, 46, 47, 48] (by decide +kernel) (by decide +kernel)
set_option maxRecDepth 20000 in
theorem gX11_way_X11_goes : GoodIn wsX11_way (wsV RX11 94 RX11 yX11_goes wsX11_goes) := goodIn_app (goodIn_of _ (by decide +kernel)) ggX11_way_X11_goes
set_option maxRecDepth 20000 in
theorem ggX11_way_X11_acted : GoodIn wsX11_way wsX11_acted := goodIn_r _ [19, 12, 20, 21, 6, 22, 23, 24, 25, 26, 27, 28, 29, 30, 31, 32, 33, 34, 35, 36, 37, 38, 39, 40, 41, 42, 43, 44, 45, 46, 47, 48] (by decide +kernel) (by decide +kernel)
set_option maxRecDepth 20000 in
theorem gX11_way_X11_acted : GoodIn wsX11_way (wsV RX11 91 RX11 yX11_acted wsX11_acted) := goodIn_app (goodIn_of _ (by decide +kernel)) ggX11_way_X11_acted
theorem dX11_way_0 : decode cX11_way 0 = .ok (.aload_n 0, 1) := by decide +kernel
theorem dX11_way_1 : decode cX11_way 1 = .ok (.invokevirtual 85, 3) := by decide +kernel
theorem dX11_way_4 : decode cX11_way 4 = .ok (.aload_n 0, 1) := by decide +kernel
theorem dX11_way_5 : decode cX11_way 5 = .ok (.aload_n 0, 1) := by decide +kernel
theorem dX11_way_6 : decode cX11_way 6 = .ok (.iload_n 1, 1) := by decide +kernel
theorem dX11_way_7 : decode cX11_way 7 = .ok (.invokevirtual 94, 3) := by decide +kernel
theorem dX11_way_10 : decode cX11_way 10 = .ok (.invokevirtual 91, 3) := by decide +kernel
theorem dX11_way_13 : decode cX11_way 13 = .ok (.ireturn, 1) := by decide +kernel
theorem dX11_adds_0 : decode cX11_adds 0 = .ok (.bipush 6, 2) := by decide +kernel
theorem dX11_adds_2 : decode cX11_adds 2 = .ok (.iconst 3, 1) := by decide +kernel
theorem dX11_adds_3 : decode cX11_adds 3 = .ok (.aload_n 0, 1) := by decide +kernel
theorem dX11_adds_4 : decode cX11_adds 4 = .ok (.getfield 7, 3) := by decide +kernel
theorem dX11_adds_7 : decode cX11_adds 7 = .ok (.iconst 1, 1) := by decide +kernel
theorem dX11_adds_8 : decode cX11_adds 8 = .ok (.iaload, 1) := by decide +kernel
theorem dX11_adds_9 : decode cX11_adds 9 = .ok (.imul, 1) := by decide +kernel
theorem dX11_adds_10 : decode cX11_adds 10 = .ok (.iadd, 1) := by decide +kernel
theorem dX11_adds_11 : decode cX11_adds 11 = .ok (.istore_n 3, 1) := by decide +kernel
theorem dX11_adds_12 : decode cX11_adds 12 = .ok (.aload_n 0, 1) := by decide +kernel
theorem dX11_adds_13 : decode cX11_adds 13 = .ok (.getfield 7, 3) := by decide +kernel
theorem dX11_adds_16 : decode cX11_adds 16 = .ok (.iload_n 3, 1) := by decide +kernel
theorem dX11_adds_17 : decode cX11_adds 17 = .ok (.iload_n 1, 1) := by decide +kernel
theorem dX11_adds_18 : decode cX11_adds 18 = .ok (.iastore, 1) := by decide +kernel
theorem dX11_adds_19 : decode cX11_adds 19 = .ok (.aload_n 0, 1) := by decide +kernel
theorem dX11_adds_20 : decode cX11_adds 20 = .ok (.getfield 7, 3) := by decide +kernel
theorem dX11_adds_23 : decode cX11_adds 23 = .ok (.iload_n 3, 1) := by decide +kernel
theorem dX11_adds_24 : decode cX11_adds 24 = .ok (.iconst 1, 1) := by decide +kernel
theorem dX11_adds_25 : decode cX11_adds 25 = .ok (.iadd, 1) := by decide +kernel
theorem dX11_adds_26 : decode cX11_adds 26 = .ok (.iload_n 2, 1) := by decide +kernel
theorem dX11_adds_27 : decode cX11_adds 27 = .ok (.iastore, 1) := by decide +kernel
theorem dX11_adds_28 : decode cX11_adds 28 = .ok (.aload_n 0, 1) := by decide +kernel
theorem dX11_adds_29 : decode cX11_adds 29 = .ok (.getfield 7, 3) := by decide +kernel
theorem dX11_adds_32 : decode cX11_adds 32 = .ok (.iload_n 3, 1) := by decide +kernel
theorem dX11_adds_33 : decode cX11_adds 33 = .ok (.iconst 2, 1) := by decide +kernel
theorem dX11_adds_34 : decode cX11_adds 34 = .ok (.iadd, 1) := by decide +kernel
theorem dX11_adds_35 : decode cX11_adds 35 = .ok (.iconst 0, 1) := by decide +kernel
theorem dX11_adds_36 : decode cX11_adds 36 = .ok (.iastore, 1) := by decide +kernel
theorem dX11_adds_37 : decode cX11_adds 37 = .ok (.aload_n 0, 1) := by decide +kernel
theorem dX11_adds_38 : decode cX11_adds 38 = .ok (.getfield 7, 3) := by decide +kernel
theorem dX11_adds_41 : decode cX11_adds 41 = .ok (.iconst 1, 1) := by decide +kernel
theorem dX11_adds_42 : decode cX11_adds 42 = .ok (.dup2, 1) := by decide +kernel
theorem dX11_adds_43 : decode cX11_adds 43 = .ok (.iaload, 1) := by decide +kernel
theorem dX11_adds_44 : decode cX11_adds 44 = .ok (.iconst 1, 1) := by decide +kernel
theorem dX11_adds_45 : decode cX11_adds 45 = .ok (.iadd, 1) := by decide +kernel
theorem dX11_adds_46 : decode cX11_adds 46 = .ok (.iastore, 1) := by decide +kernel
theorem dX11_adds_47 : decode cX11_adds 47 = .ok (.aload_n 0, 1) := by decide +kernel
theorem dX11_adds_48 : decode cX11_adds 48 = .ok (.getfield 7, 3) := by decide +kernel
theorem dX11_adds_51 : decode cX11_adds 51 = .ok (.iconst 3, 1) := by decide +kernel
theorem dX11_adds_52 : decode cX11_adds 52 = .ok (.iconst 0, 1) := by decide +kernel
theorem dX11_adds_53 : decode cX11_adds 53 = .ok (.iastore, 1) := by decide +kernel
theorem dX11_adds_54 : decode cX11_adds 54 = .ok (.return_, 1) := by decide +kernel
set_option maxRecDepth 20000 in
theorem ggX11_places_X11_length : GoodIn wsX11_places wsX11_length := goodIn_r _ [5] (by decide +kernel) (by decide +kernel)
set_option maxRecDepth 20000 in
theorem gX11_places_X11_length : GoodIn wsX11_places (va_wsS RX11 35 yX11_length wsX11_length) := goodIn_app (goodIn_of _ (by decide +kernel)) ggX11_places_X11_length
set_option maxRecDepth 20000 in
theorem ggX11_places_X11_left : GoodIn wsX11_places wsX11_left := goodIn_r _ [9, 1, 13, 14, 15, 16, 17, 18, 19, 20, 21, 22, 23, 24, 25, 26, 27, 28, 29, 30, 31, 32, 33, 34, 35, 36, 37, 38, 39] (by decide +kernel) (by decide +kernel)
set_option maxRecDepth 20000 in
theorem gX11_places_X11_left : GoodIn wsX11_places (wsV RX11 48 RX11 yX11_left wsX11_left) := goodIn_app (goodIn_of _ (by decide +kernel)) ggX11_places_X11_left
set_option maxRecDepth 20000 in
theorem ggX11_places_X11_stands : GoodIn wsX11_places wsX11_stands := goodIn_r _ [12, 2, 3, 4, 5] (by decide +kernel) (by decide +kernel)
set_option maxRecDepth 20000 in
theorem gX11_places_X11_stands : GoodIn wsX11_places (va_wsS RX11 61 yX11_stands wsX11_stands) := goodIn_app (goodIn_of _ (by decide +kernel)) ggX11_places_X11_stands
theorem dX11_places_0 : decode cX11_places 0 = .ok (.iconst 0, 1) := by decide +kernel
theorem dX11_places_1 : decode cX11_places 1 = .ok (.istore_n 2, 1) := by decide +kernel
theorem dX11_places_2 : decode cX11_places 2 = .ok (.iconst 0, 1) := by decide +kernel
theorem dX11_places_3 : decode cX11_places 3 = .ok (.istore_n 3, 1) := by decide +kernel
theorem dX11_places_4 : decode cX11_places 4 = .ok (.iload_n 3, 1) := by decide +kernel
theorem dX11_places_5 : decode cX11_places 5 = .ok (.aload_n 0, 1) := by decide +kernel
theorem dX11_places_6 : decode cX11_places 6 = .ok (.getfield 7, 3) := by decide +kernel
theorem dX11_places_9 : decode cX11_places 9 = .ok (.iconst 0, 1) := by decide +kernel
theorem dX11_places_10 : decode cX11_places 10 = .ok (.iaload, 1) := by decide +kernel
theorem dX11_places_11 : decode cX11_places 11 = .ok (.invokestatic 35, 3) := by decide +kernel
theorem dX11_places_14 : decode cX11_places 14 = .ok (.if_icmp .ge 35, 3) := by decide +kernel
theorem dX11_places_17 : decode cX11_places 17 = .ok (.iload_n 2, 1) := by decide +kernel
theorem dX11_places_18 : decode cX11_places 18 = .ok (.aload_n 0, 1) := by decide +kernel
theorem dX11_places_19 : decode cX11_places 19 = .ok (.iload_n 1, 1) := by decide +kernel
theorem dX11_places_20 : decode cX11_places 20 = .ok (.invokevirtual 48, 3) := by decide +kernel
theorem dX11_places_23 : decode cX11_places 23 = .ok (.aload_n 0, 1) := by decide +kernel
theorem dX11_places_24 : decode cX11_places 24 = .ok (.getfield 7, 3) := by decide +kernel
theorem dX11_places_27 : decode cX11_places 27 = .ok (.iconst 0, 1) := by decide +kernel
theorem dX11_places_28 : decode cX11_places 28 = .ok (.iaload, 1) := by decide +kernel
theorem dX11_places_29 : decode cX11_places 29 = .ok (.iload_n 3, 1) := by decide +kernel
theorem dX11_places_30 : decode cX11_places 30 = .ok (.invokestatic 61, 3) := by decide +kernel
theorem dX11_places_33 : decode cX11_places 33 = .ok (.ifCond .eq 7, 3) := by decide +kernel
theorem dX11_places_36 : decode cX11_places 36 = .ok (.iconst 1, 1) := by decide +kernel
theorem dX11_places_37 : decode cX11_places 37 = .ok (.goto 4, 3) := by decide +kernel
theorem dX11_places_40 : decode cX11_places 40 = .ok (.iconst 0, 1) := by decide +kernel
theorem dX11_places_41 : decode cX11_places 41 = .ok (.iadd, 1) := by decide +kernel
theorem dX11_places_42 : decode cX11_places 42 = .ok (.istore_n 2, 1) := by decide +kernel
theorem dX11_places_43 : decode cX11_places 43 = .ok (.iinc 3 1, 3) := by decide +kernel
theorem dX11_places_46 : decode cX11_places 46 = .ok (.goto (-42), 3) := by decide +kernel
theorem dX11_places_49 : decode cX11_places 49 = .ok (.iload_n 2, 1) := by decide +kernel
theorem dX11_places_50 : decode cX11_places 50 = .ok (.ireturn, 1) := by decide +kernel
set_option maxRecDepth 20000 in
theorem ggX11_ruleOf_X11_isRule : GoodIn wsX11_ruleOf wsX11_isRule := goodIn_r _ [7, 2, 8, 9, 6, 10, 36, 37, 38, 39, 40, 41, 42, 43, 44, 45, 46, 47, 48, 49, 50, 51, 52, 53, 54, 55, 56, 57, 58, 59, 60, 61, 62] (by decide +kernel) (by decide +kernel)
set_option maxRecDepth 20000 in
theorem gX11_ruleOf_X11_isRule : GoodIn wsX11_ruleOf (wsV RX11 82 RX11 yX11_isRule wsX11_isRule) := goodIn_app (goodIn_of _ (by decide +kernel)) ggX11_ruleOf_X11_isRule
set_option maxRecDepth 20000 in
theorem ggX11_ruleOf_X11_in : GoodIn wsX11_ruleOf wsX11_in := goodIn_r _ [10] (by decide +kernel) (by decide +kernel)
set_option maxRecDepth 20000 in
theorem gX11_ruleOf_X11_in : GoodIn wsX11_ruleOf (va_wsS RX11 44 yX11_in wsX11_in) := goodIn_app (goodIn_of _ (by decide +kernel)) ggX11_ruleOf_X11_in
set_option maxRecDepth 20000 in
theorem ggX11_ruleOf_X11_left : GoodIn wsX11_ruleOf wsX11_left := goodIn_r _ [14, 2, 36, 37, 38, 39, 40, 41, 42, 43, 44, 45, 46, 47, 48, 49, 50, 51, 52, 53, 54, 55, 56, 57, 58, 59, 60, 61, 62] (by decide +kernel) (by decide +kernel)
set_option maxRecDepth 20000 in
theorem gX11_ruleOf_X11_left : GoodIn wsX11_ruleOf (wsV RX11 48 RX11 yX11_left wsX11_left) := goodIn_app (goodIn_of _ (by decide +kernel)) ggX11_ruleOf_X11_left
set_option maxRecDepth 20000 in
theorem ggX11_ruleOf_X11_length : GoodIn wsX11_ruleOf wsX11_length := goodIn_r _ [17] (by decide +kernel) (by decide +kernel)
set_option maxRecDepth 20000 in
theorem gX11_ruleOf_X11_length : GoodIn wsX11_ruleOf (va_wsS RX11 35 yX11_length wsX11_length) := goodIn_app (goodIn_of _ (by decide +kernel)) ggX11_ruleOf_X11_length
set_option maxRecDepth 20000 in
theorem ggX11_ruleOf_X11_right : GoodIn wsX11_ruleOf wsX11_right := goodIn_r _ [21, 2, 36, 37, 38, 39, 40, 41, 42, 43, 44, 45, 46, 47, 48, 49, 50, 51, 52, 53, 54, 55, 56, 57, 58, 59, 60, 61, 62] (by decide +kernel) (by decide +kernel)
set_option maxRecDepth 20000 in
theorem gX11_ruleOf_X11_right : GoodIn wsX11_ruleOf (wsV RX11 51 RX11 yX11_right wsX11_right) := goodIn_app (goodIn_of _ (by decide +kernel)) ggX11_ruleOf_X11_right
set_option maxRecDepth 20000 in
theorem ggX11_ruleOf_X11_places : GoodIn wsX11_ruleOf wsX11_places := goodIn_r _ [25, 2, 15, 16, 6, 17, 11, 12, 13, 14, 26, 27, 28, 36, 37, 38, 39, 40, 41, 42, 43, 44, 45, 46, 47, 48, 49, 50, 51, 52, 53, 54, 55, 56, 57, 58, 59, 60, 61, 62] (by decide +kernel) (by decide +kernel)
set_option maxRecDepth 20000 in
theorem gX11_ruleOf_X11_places : GoodIn wsX11_ruleOf (wsV RX11 97 RX11 yX11_places wsX11_places) := goodIn_app (goodIn_of _ (by decide +kernel)) ggX11_ruleOf_X11_places
set_option maxRecDepth 20000 in
theorem ggX11_ruleOf_X11_letterOf : GoodIn wsX11_ruleOf wsX11_letterOf := goodIn_r _ [31, 32, 15, 16, 6, 17, 33, 34, 35] (by decide +kernel) (by decide +kernel)
set_option maxRecDepth 20000 in
theorem gX11_ruleOf_X11_letterOf : GoodIn wsX11_ruleOf (va_wsS RX11 100 yX11_letterOf wsX11_letterOf) := goodIn_app (goodIn_of _ (by decide +kernel)) ggX11_ruleOf_X11_letterOf
theorem dX11_ruleOf_0 : decode cX11_ruleOf 0 = .ok (.aload_n 0, 1) := by decide +kernel
theorem dX11_ruleOf_1 : decode cX11_ruleOf 1 = .ok (.iload_n 1, 1) := by decide +kernel
theorem dX11_ruleOf_2 : decode cX11_ruleOf 2 = .ok (.invokevirtual 82, 3) := by decide +kernel
theorem dX11_ruleOf_5 : decode cX11_ruleOf 5 = .ok (.ifCond .eq 34, 3) := by decide +kernel
theorem dX11_ruleOf_8 : decode cX11_ruleOf 8 = .ok (.iload_n 2, 1) := by decide +kernel
theorem dX11_ruleOf_9 : decode cX11_ruleOf 9 = .ok (.iconst 0, 1) := by decide +kernel
theorem dX11_ruleOf_10 : decode cX11_ruleOf 10 = .ok (.iconst 4, 1) := by decide +kernel
theorem dX11_ruleOf_11 : decode cX11_ruleOf 11 = .ok (.invokestatic 44, 3) := by decide +kernel
theorem dX11_ruleOf_14 : decode cX11_ruleOf 14 = .ok (.ifCond .ne 28, 3) := by decide +kernel
theorem dX11_ruleOf_17 : decode cX11_ruleOf 17 = .ok (.iload_n 2, 1) := by decide +kernel
theorem dX11_ruleOf_18 : decode cX11_ruleOf 18 = .ok (.bipush 10, 2) := by decide +kernel
theorem dX11_ruleOf_20 : decode cX11_ruleOf 20 = .ok (.bipush 13, 2) := by decide +kernel
theorem dX11_ruleOf_22 : decode cX11_ruleOf 22 = .ok (.invokestatic 44, 3) := by decide +kernel
theorem dX11_ruleOf_25 : decode cX11_ruleOf 25 = .ok (.ifCond .ne 17, 3) := by decide +kernel
theorem dX11_ruleOf_28 : decode cX11_ruleOf 28 = .ok (.iload_n 2, 1) := by decide +kernel
theorem dX11_ruleOf_29 : decode cX11_ruleOf 29 = .ok (.bipush 20, 2) := by decide +kernel
theorem dX11_ruleOf_31 : decode cX11_ruleOf 31 = .ok (.bipush 23, 2) := by decide +kernel
theorem dX11_ruleOf_33 : decode cX11_ruleOf 33 = .ok (.invokestatic 44, 3) := by decide +kernel
theorem dX11_ruleOf_36 : decode cX11_ruleOf 36 = .ok (.ifCond .ne 6, 3) := by decide +kernel
theorem dX11_ruleOf_39 : decode cX11_ruleOf 39 = .ok (.ldc 78, 2) := by decide +kernel
theorem dX11_ruleOf_41 : decode cX11_ruleOf 41 = .ok (.ireturn, 1) := by decide +kernel
theorem dX11_ruleOf_42 : decode cX11_ruleOf 42 = .ok (.iload_n 2, 1) := by decide +kernel
theorem dX11_ruleOf_43 : decode cX11_ruleOf 43 = .ok (.tableswitch 96 0 4 #[33, 42, 51, 76, 82], 33) := by decide +kernel
theorem dX11_ruleOf_76 : decode cX11_ruleOf 76 = .ok (.aload_n 0, 1) := by decide +kernel
theorem dX11_ruleOf_77 : decode cX11_ruleOf 77 = .ok (.iload_n 1, 1) := by decide +kernel
theorem dX11_ruleOf_78 : decode cX11_ruleOf 78 = .ok (.invokevirtual 48, 3) := by decide +kernel
theorem dX11_ruleOf_81 : decode cX11_ruleOf 81 = .ok (.invokestatic 35, 3) := by decide +kernel
theorem dX11_ruleOf_84 : decode cX11_ruleOf 84 = .ok (.ireturn, 1) := by decide +kernel
theorem dX11_ruleOf_85 : decode cX11_ruleOf 85 = .ok (.aload_n 0, 1) := by decide +kernel
theorem dX11_ruleOf_86 : decode cX11_ruleOf 86 = .ok (.iload_n 1, 1) := by decide +kernel
theorem dX11_ruleOf_87 : decode cX11_ruleOf 87 = .ok (.invokevirtual 51, 3) := by decide +kernel
theorem dX11_ruleOf_90 : decode cX11_ruleOf 90 = .ok (.invokestatic 35, 3) := by decide +kernel
theorem dX11_ruleOf_93 : decode cX11_ruleOf 93 = .ok (.ireturn, 1) := by decide +kernel
theorem dX11_ruleOf_94 : decode cX11_ruleOf 94 = .ok (.aload_n 0, 1) := by decide +kernel
theorem dX11_ruleOf_95 : decode cX11_ruleOf 95 = .ok (.iload_n 1, 1) := by decide +kernel
theorem dX11_ruleOf_96 : decode cX11_ruleOf 96 = .ok (.invokevirtual 51, 3) := by decide +kernel
theorem dX11_ruleOf_99 : decode cX11_ruleOf 99 = .ok (.invokestatic 35, 3) := by decide +kernel
theorem dX11_ruleOf_102 : decode cX11_ruleOf 102 = .ok (.aload_n 0, 1) := by decide +kernel
theorem dX11_ruleOf_103 : decode cX11_ruleOf 103 = .ok (.iload_n 1, 1) := by decide +kernel
theorem dX11_ruleOf_104 : decode cX11_ruleOf 104 = .ok (.invokevirtual 48, 3) := by decide +kernel
theorem dX11_ruleOf_107 : decode cX11_ruleOf 107 = .ok (.invokestatic 35, 3) := by decide +kernel
theorem dX11_ruleOf_110 : decode cX11_ruleOf 110 = .ok (.if_icmp .ge 7, 3) := by decide +kernel
theorem dX11_ruleOf_113 : decode cX11_ruleOf 113 = .ok (.iconst 1, 1) := by decide +kernel
theorem dX11_ruleOf_114 : decode cX11_ruleOf 114 = .ok (.goto 4, 3) := by decide +kernel
theorem dX11_ruleOf_117 : decode cX11_ruleOf 117 = .ok (.iconst 0, 1) := by decide +kernel
theorem dX11_ruleOf_118 : decode cX11_ruleOf 118 = .ok (.ireturn, 1) := by decide +kernel
theorem dX11_ruleOf_119 : decode cX11_ruleOf 119 = .ok (.aload_n 0, 1) := by decide +kernel
theorem dX11_ruleOf_120 : decode cX11_ruleOf 120 = .ok (.iload_n 1, 1) := by decide +kernel
theorem dX11_ruleOf_121 : decode cX11_ruleOf 121 = .ok (.invokevirtual 97, 3) := by decide +kernel
theorem dX11_ruleOf_124 : decode cX11_ruleOf 124 = .ok (.ireturn, 1) := by decide +kernel
theorem dX11_ruleOf_125 : decode cX11_ruleOf 125 = .ok (.aload_n 0, 1) := by decide +kernel
theorem dX11_ruleOf_126 : decode cX11_ruleOf 126 = .ok (.getfield 7, 3) := by decide +kernel
theorem dX11_ruleOf_129 : decode cX11_ruleOf 129 = .ok (.bipush 6, 2) := by decide +kernel
theorem dX11_ruleOf_131 : decode cX11_ruleOf 131 = .ok (.iconst 3, 1) := by decide +kernel
theorem dX11_ruleOf_132 : decode cX11_ruleOf 132 = .ok (.iload_n 1, 1) := by decide +kernel
theorem dX11_ruleOf_133 : decode cX11_ruleOf 133 = .ok (.imul, 1) := by decide +kernel
theorem dX11_ruleOf_134 : decode cX11_ruleOf 134 = .ok (.iadd, 1) := by decide +kernel
theorem dX11_ruleOf_135 : decode cX11_ruleOf 135 = .ok (.iconst 2, 1) := by decide +kernel
theorem dX11_ruleOf_136 : decode cX11_ruleOf 136 = .ok (.iadd, 1) := by decide +kernel
theorem dX11_ruleOf_137 : decode cX11_ruleOf 137 = .ok (.iaload, 1) := by decide +kernel
theorem dX11_ruleOf_138 : decode cX11_ruleOf 138 = .ok (.ireturn, 1) := by decide +kernel
theorem dX11_ruleOf_139 : decode cX11_ruleOf 139 = .ok (.iload_n 2, 1) := by decide +kernel
theorem dX11_ruleOf_140 : decode cX11_ruleOf 140 = .ok (.bipush 20, 2) := by decide +kernel
theorem dX11_ruleOf_142 : decode cX11_ruleOf 142 = .ok (.if_icmp .ge 18, 3) := by decide +kernel
theorem dX11_ruleOf_145 : decode cX11_ruleOf 145 = .ok (.aload_n 0, 1) := by decide +kernel
theorem dX11_ruleOf_146 : decode cX11_ruleOf 146 = .ok (.iload_n 1, 1) := by decide +kernel
theorem dX11_ruleOf_147 : decode cX11_ruleOf 147 = .ok (.invokevirtual 48, 3) := by decide +kernel
theorem dX11_ruleOf_150 : decode cX11_ruleOf 150 = .ok (.iload_n 2, 1) := by decide +kernel
theorem dX11_ruleOf_151 : decode cX11_ruleOf 151 = .ok (.bipush 10, 2) := by decide +kernel
theorem dX11_ruleOf_153 : decode cX11_ruleOf 153 = .ok (.isub, 1) := by decide +kernel
theorem dX11_ruleOf_154 : decode cX11_ruleOf 154 = .ok (.invokestatic 100, 3) := by decide +kernel
theorem dX11_ruleOf_157 : decode cX11_ruleOf 157 = .ok (.goto 15, 3) := by decide +kernel
theorem dX11_ruleOf_160 : decode cX11_ruleOf 160 = .ok (.aload_n 0, 1) := by decide +kernel
theorem dX11_ruleOf_161 : decode cX11_ruleOf 161 = .ok (.iload_n 1, 1) := by decide +kernel
theorem dX11_ruleOf_162 : decode cX11_ruleOf 162 = .ok (.invokevirtual 51, 3) := by decide +kernel
theorem dX11_ruleOf_165 : decode cX11_ruleOf 165 = .ok (.iload_n 2, 1) := by decide +kernel
theorem dX11_ruleOf_166 : decode cX11_ruleOf 166 = .ok (.bipush 20, 2) := by decide +kernel
theorem dX11_ruleOf_168 : decode cX11_ruleOf 168 = .ok (.isub, 1) := by decide +kernel
theorem dX11_ruleOf_169 : decode cX11_ruleOf 169 = .ok (.invokestatic 100, 3) := by decide +kernel
theorem dX11_ruleOf_172 : decode cX11_ruleOf 172 = .ok (.ireturn, 1) := by decide +kernel
set_option maxRecDepth 20000 in
theorem ggX11_steps_X11_chooses : GoodIn wsX11_steps wsX11_chooses := goodIn_r _ [9, 3, 1, 4, 10, 11, 8, 12, 13, 14, 15, 16, 17, 18, 19, 28, 29, 30, 31, 32, 33, 34, 35, 36, 37, 38, 39, 40, 41, 42, 43, 44, 45, 46, 47, 48, 49, 50, 51, 52, 53, 54] (by decide +kernel) (by decide +kernel)
set_option maxRecDepth 20000 in
theorem gX11_steps_X11_chooses : GoodIn wsX11_steps (wsV RX11 67 RX11 yX11_chooses wsX11_chooses) := goodIn_app (goodIn_of _ (by decide +kernel)) ggX11_steps_X11_chooses
set_option maxRecDepth 20000 in
theorem ggX11_steps_X11_applied : GoodIn wsX11_steps wsX11_applied := goodIn_r _ [23, 10, 11, 8, 12, 13, 14, 15, 16, 1, 24, 25, 26, 27, 28, 29, 30, 31, 32, 33, 34, 35, 36, 37, 38, 39, 40, 41, 42, 43, 44, 45, 46, 47, 48, 49, 50, 51, 52, 53, 54] (by decide +kernel) (by decide +kernel)
set_option maxRecDepth 20000 in
theorem gX11_steps_X11_applied : GoodIn wsX11_steps (wsV RX11 71 RX11 yX11_applied wsX11_applied) := goodIn_app (goodIn_of _ (by decide +kernel)) ggX11_steps_X11_applied
theorem dX11_steps_0 : decode cX11_steps 0 = .ok (.aload_n 0, 1) := by decide +kernel
theorem dX11_steps_1 : decode cX11_steps 1 = .ok (.aload_n 0, 1) := by decide +kernel
theorem dX11_steps_2 : decode cX11_steps 2 = .ok (.getfield 7, 3) := by decide +kernel
theorem dX11_steps_5 : decode cX11_steps 5 = .ok (.iconst 0, 1) := by decide +kernel
theorem dX11_steps_6 : decode cX11_steps 6 = .ok (.iaload, 1) := by decide +kernel
theorem dX11_steps_7 : decode cX11_steps 7 = .ok (.invokevirtual 67, 3) := by decide +kernel
theorem dX11_steps_10 : decode cX11_steps 10 = .ok (.ifCond .ne 6, 3) := by decide +kernel
theorem dX11_steps_13 : decode cX11_steps 13 = .ok (.ldc 103, 2) := by decide +kernel
theorem dX11_steps_15 : decode cX11_steps 15 = .ok (.ireturn, 1) := by decide +kernel
theorem dX11_steps_16 : decode cX11_steps 16 = .ok (.aload_n 0, 1) := by decide +kernel
theorem dX11_steps_17 : decode cX11_steps 17 = .ok (.getfield 7, 3) := by decide +kernel
theorem dX11_steps_20 : decode cX11_steps 20 = .ok (.iconst 0, 1) := by decide +kernel
theorem dX11_steps_21 : decode cX11_steps 21 = .ok (.aload_n 0, 1) := by decide +kernel
theorem dX11_steps_22 : decode cX11_steps 22 = .ok (.aload_n 0, 1) := by decide +kernel
theorem dX11_steps_23 : decode cX11_steps 23 = .ok (.getfield 7, 3) := by decide +kernel
theorem dX11_steps_26 : decode cX11_steps 26 = .ok (.iconst 0, 1) := by decide +kernel
theorem dX11_steps_27 : decode cX11_steps 27 = .ok (.iaload, 1) := by decide +kernel
theorem dX11_steps_28 : decode cX11_steps 28 = .ok (.aload_n 0, 1) := by decide +kernel
theorem dX11_steps_29 : decode cX11_steps 29 = .ok (.getfield 54, 3) := by decide +kernel
theorem dX11_steps_32 : decode cX11_steps 32 = .ok (.aload_n 0, 1) := by decide +kernel
theorem dX11_steps_33 : decode cX11_steps 33 = .ok (.getfield 58, 3) := by decide +kernel
theorem dX11_steps_36 : decode cX11_steps 36 = .ok (.invokevirtual 71, 3) := by decide +kernel
theorem dX11_steps_39 : decode cX11_steps 39 = .ok (.iastore, 1) := by decide +kernel
theorem dX11_steps_40 : decode cX11_steps 40 = .ok (.aload_n 0, 1) := by decide +kernel
theorem dX11_steps_41 : decode cX11_steps 41 = .ok (.getfield 7, 3) := by decide +kernel
theorem dX11_steps_44 : decode cX11_steps 44 = .ok (.bipush 6, 2) := by decide +kernel
theorem dX11_steps_46 : decode cX11_steps 46 = .ok (.iconst 3, 1) := by decide +kernel
theorem dX11_steps_47 : decode cX11_steps 47 = .ok (.aload_n 0, 1) := by decide +kernel
theorem dX11_steps_48 : decode cX11_steps 48 = .ok (.getfield 54, 3) := by decide +kernel
theorem dX11_steps_51 : decode cX11_steps 51 = .ok (.imul, 1) := by decide +kernel
theorem dX11_steps_52 : decode cX11_steps 52 = .ok (.iadd, 1) := by decide +kernel
theorem dX11_steps_53 : decode cX11_steps 53 = .ok (.iconst 2, 1) := by decide +kernel
theorem dX11_steps_54 : decode cX11_steps 54 = .ok (.iadd, 1) := by decide +kernel
theorem dX11_steps_55 : decode cX11_steps 55 = .ok (.dup2, 1) := by decide +kernel
theorem dX11_steps_56 : decode cX11_steps 56 = .ok (.iaload, 1) := by decide +kernel
theorem dX11_steps_57 : decode cX11_steps 57 = .ok (.iconst 1, 1) := by decide +kernel
theorem dX11_steps_58 : decode cX11_steps 58 = .ok (.iadd, 1) := by decide +kernel
theorem dX11_steps_59 : decode cX11_steps 59 = .ok (.iastore, 1) := by decide +kernel
theorem dX11_steps_60 : decode cX11_steps 60 = .ok (.aload_n 0, 1) := by decide +kernel
theorem dX11_steps_61 : decode cX11_steps 61 = .ok (.getfield 7, 3) := by decide +kernel
theorem dX11_steps_64 : decode cX11_steps 64 = .ok (.iconst 5, 1) := by decide +kernel
theorem dX11_steps_65 : decode cX11_steps 65 = .ok (.dup2, 1) := by decide +kernel
theorem dX11_steps_66 : decode cX11_steps 66 = .ok (.iaload, 1) := by decide +kernel
theorem dX11_steps_67 : decode cX11_steps 67 = .ok (.iconst 1, 1) := by decide +kernel
theorem dX11_steps_68 : decode cX11_steps 68 = .ok (.iadd, 1) := by decide +kernel
theorem dX11_steps_69 : decode cX11_steps 69 = .ok (.iastore, 1) := by decide +kernel
theorem dX11_steps_70 : decode cX11_steps 70 = .ok (.aload_n 0, 1) := by decide +kernel
theorem dX11_steps_71 : decode cX11_steps 71 = .ok (.getfield 54, 3) := by decide +kernel
theorem dX11_steps_74 : decode cX11_steps 74 = .ok (.ireturn, 1) := by decide +kernel
set_option maxRecDepth 20000 in
theorem ggX11_step_X11_keeps : GoodIn wsX11_step wsX11_keeps := goodIn_r _ [5, 6, 7, 44, 45, 46, 47, 48, 49, 50, 51, 52, 53, 54, 55, 56, 57, 58, 59, 60, 61, 62, 63, 64, 65, 66, 67, 68, 69, 70] (by decide +kernel) (by decide +kernel)
set_option maxRecDepth 20000 in
theorem gX11_step_X11_keeps : GoodIn wsX11_step (wsV RX11 85 RX11 yX11_keeps wsX11_keeps) := goodIn_app (goodIn_of _ (by decide +kernel)) ggX11_step_X11_keeps
set_option maxRecDepth 20000 in
theorem ggX11_step_X11_steps : GoodIn wsX11_step wsX11_steps := goodIn_r _ [11, 7, 12, 13, 14, 15, 16, 17, 4, 18, 19, 20, 21, 22, 23, 24, 25, 26, 27, 28, 29, 30, 31, 32, 33, 34, 35, 36, 44, 45, 46, 47, 48, 49, 50, 51, 52, 53, 54, 55, 56, 57, 58, 59, 60, 61, 62, 63, 64, 65, 66, 67, 68, 69, 70] (by decide +kernel) (by decide +kernel)
set_option maxRecDepth 20000 in
theorem gX11_step_X11_steps : GoodIn wsX11_step (wsV RX11 104 RX11 yX11_steps wsX11_steps) := goodIn_app (goodIn_of _ (by decide +kernel)) ggX11_step_X11_steps
set_option maxRecDepth 20000 in
theorem ggX11_step_X11_acted : GoodIn wsX11_step wsX11_acted := goodIn_r _ [40, 41, 42, 43, 6, 44, 45, 46, 47, 48, 49, 50, 51, 52, 53, 54, 55, 56, 57, 58, 59, 60, 61, 62, 63, 64, 65, 66, 67, 68, 69, 70] (by decide +kernel) (by decide +kernel)
set_option maxRecDepth 20000 in
theorem gX11_step_X11_acted : GoodIn wsX11_step (wsV RX11 91 RX11 yX11_acted wsX11_acted) := goodIn_app (goodIn_of _ (by decide +kernel)) ggX11_step_X11_acted
theorem dX11_step_0 : decode cX11_step 0 = .ok (.aload_n 0, 1) := by decide +kernel
theorem dX11_step_1 : decode cX11_step 1 = .ok (.invokevirtual 85, 3) := by decide +kernel
theorem dX11_step_4 : decode cX11_step 4 = .ok (.aload_n 0, 1) := by decide +kernel
theorem dX11_step_5 : decode cX11_step 5 = .ok (.aload_n 0, 1) := by decide +kernel
theorem dX11_step_6 : decode cX11_step 6 = .ok (.invokevirtual 104, 3) := by decide +kernel
theorem dX11_step_9 : decode cX11_step 9 = .ok (.invokevirtual 91, 3) := by decide +kernel
theorem dX11_step_12 : decode cX11_step 12 = .ok (.ireturn, 1) := by decide +kernel
theorem dX11_comesFirst_0 : decode cX11_comesFirst 0 = .ok (.iload_n 3, 1) := by decide +kernel
theorem dX11_comesFirst_1 : decode cX11_comesFirst 1 = .ok (.istore 4, 2) := by decide +kernel
theorem dX11_comesFirst_3 : decode cX11_comesFirst 3 = .ok (.iload 4, 2) := by decide +kernel
theorem dX11_comesFirst_5 : decode cX11_comesFirst 5 = .ok (.ifCond .le 63, 3) := by decide +kernel
theorem dX11_comesFirst_8 : decode cX11_comesFirst 8 = .ok (.aload_n 0, 1) := by decide +kernel
theorem dX11_comesFirst_9 : decode cX11_comesFirst 9 = .ok (.getfield 7, 3) := by decide +kernel
theorem dX11_comesFirst_12 : decode cX11_comesFirst 12 = .ok (.bipush 36, 2) := by decide +kernel
theorem dX11_comesFirst_14 : decode cX11_comesFirst 14 = .ok (.iconst 2, 1) := by decide +kernel
theorem dX11_comesFirst_15 : decode cX11_comesFirst 15 = .ok (.iload 4, 2) := by decide +kernel
theorem dX11_comesFirst_17 : decode cX11_comesFirst 17 = .ok (.imul, 1) := by decide +kernel
theorem dX11_comesFirst_18 : decode cX11_comesFirst 18 = .ok (.iadd, 1) := by decide +kernel
theorem dX11_comesFirst_19 : decode cX11_comesFirst 19 = .ok (.aload_n 0, 1) := by decide +kernel
theorem dX11_comesFirst_20 : decode cX11_comesFirst 20 = .ok (.getfield 7, 3) := by decide +kernel
theorem dX11_comesFirst_23 : decode cX11_comesFirst 23 = .ok (.bipush 36, 2) := by decide +kernel
theorem dX11_comesFirst_25 : decode cX11_comesFirst 25 = .ok (.iconst 2, 1) := by decide +kernel
theorem dX11_comesFirst_26 : decode cX11_comesFirst 26 = .ok (.iload 4, 2) := by decide +kernel
theorem dX11_comesFirst_28 : decode cX11_comesFirst 28 = .ok (.imul, 1) := by decide +kernel
theorem dX11_comesFirst_29 : decode cX11_comesFirst 29 = .ok (.iadd, 1) := by decide +kernel
theorem dX11_comesFirst_30 : decode cX11_comesFirst 30 = .ok (.iconst 2, 1) := by decide +kernel
theorem dX11_comesFirst_31 : decode cX11_comesFirst 31 = .ok (.isub, 1) := by decide +kernel
theorem dX11_comesFirst_32 : decode cX11_comesFirst 32 = .ok (.iaload, 1) := by decide +kernel
theorem dX11_comesFirst_33 : decode cX11_comesFirst 33 = .ok (.iastore, 1) := by decide +kernel
theorem dX11_comesFirst_34 : decode cX11_comesFirst 34 = .ok (.aload_n 0, 1) := by decide +kernel
theorem dX11_comesFirst_35 : decode cX11_comesFirst 35 = .ok (.getfield 7, 3) := by decide +kernel
theorem dX11_comesFirst_38 : decode cX11_comesFirst 38 = .ok (.bipush 36, 2) := by decide +kernel
theorem dX11_comesFirst_40 : decode cX11_comesFirst 40 = .ok (.iconst 2, 1) := by decide +kernel
theorem dX11_comesFirst_41 : decode cX11_comesFirst 41 = .ok (.iload 4, 2) := by decide +kernel
theorem dX11_comesFirst_43 : decode cX11_comesFirst 43 = .ok (.imul, 1) := by decide +kernel
theorem dX11_comesFirst_44 : decode cX11_comesFirst 44 = .ok (.iadd, 1) := by decide +kernel
theorem dX11_comesFirst_45 : decode cX11_comesFirst 45 = .ok (.iconst 1, 1) := by decide +kernel
theorem dX11_comesFirst_46 : decode cX11_comesFirst 46 = .ok (.iadd, 1) := by decide +kernel
theorem dX11_comesFirst_47 : decode cX11_comesFirst 47 = .ok (.aload_n 0, 1) := by decide +kernel
theorem dX11_comesFirst_48 : decode cX11_comesFirst 48 = .ok (.getfield 7, 3) := by decide +kernel
theorem dX11_comesFirst_51 : decode cX11_comesFirst 51 = .ok (.bipush 36, 2) := by decide +kernel
theorem dX11_comesFirst_53 : decode cX11_comesFirst 53 = .ok (.iconst 2, 1) := by decide +kernel
theorem dX11_comesFirst_54 : decode cX11_comesFirst 54 = .ok (.iload 4, 2) := by decide +kernel
theorem dX11_comesFirst_56 : decode cX11_comesFirst 56 = .ok (.imul, 1) := by decide +kernel
theorem dX11_comesFirst_57 : decode cX11_comesFirst 57 = .ok (.iadd, 1) := by decide +kernel
theorem dX11_comesFirst_58 : decode cX11_comesFirst 58 = .ok (.iconst 1, 1) := by decide +kernel
theorem dX11_comesFirst_59 : decode cX11_comesFirst 59 = .ok (.isub, 1) := by decide +kernel
theorem dX11_comesFirst_60 : decode cX11_comesFirst 60 = .ok (.iaload, 1) := by decide +kernel
theorem dX11_comesFirst_61 : decode cX11_comesFirst 61 = .ok (.iastore, 1) := by decide +kernel
theorem dX11_comesFirst_62 : decode cX11_comesFirst 62 = .ok (.iinc 4 (-1), 3) := by decide +kernel
theorem dX11_comesFirst_65 : decode cX11_comesFirst 65 = .ok (.goto (-62), 3) := by decide +kernel
theorem dX11_comesFirst_68 : decode cX11_comesFirst 68 = .ok (.aload_n 0, 1) := by decide +kernel
theorem dX11_comesFirst_69 : decode cX11_comesFirst 69 = .ok (.getfield 7, 3) := by decide +kernel
theorem dX11_comesFirst_72 : decode cX11_comesFirst 72 = .ok (.bipush 36, 2) := by decide +kernel
theorem dX11_comesFirst_74 : decode cX11_comesFirst 74 = .ok (.iload_n 1, 1) := by decide +kernel
theorem dX11_comesFirst_75 : decode cX11_comesFirst 75 = .ok (.iastore, 1) := by decide +kernel
theorem dX11_comesFirst_76 : decode cX11_comesFirst 76 = .ok (.aload_n 0, 1) := by decide +kernel
theorem dX11_comesFirst_77 : decode cX11_comesFirst 77 = .ok (.getfield 7, 3) := by decide +kernel
theorem dX11_comesFirst_80 : decode cX11_comesFirst 80 = .ok (.bipush 37, 2) := by decide +kernel
theorem dX11_comesFirst_82 : decode cX11_comesFirst 82 = .ok (.iload_n 2, 1) := by decide +kernel
theorem dX11_comesFirst_83 : decode cX11_comesFirst 83 = .ok (.iastore, 1) := by decide +kernel
theorem dX11_comesFirst_84 : decode cX11_comesFirst 84 = .ok (.return_, 1) := by decide +kernel
set_option maxRecDepth 20000 in
theorem ggX11_normals_X11_comesFirst : GoodIn wsX11_normals wsX11_comesFirst := goodIn_r _ [11, 1, 41, 42, 43, 44, 45, 46, 47, 48, 49, 50, 51, 52, 53, 54, 55, 56, 57, 58, 59, 60, 61, 62, 63, 64, 65, 66, 67] (by decide +kernel) (by decide +kernel)
set_option maxRecDepth 20000 in
theorem gX11_normals_X11_comesFirst : GoodIn wsX11_normals (wsV RX11 108 RX11 yX11_comesFirst wsX11_comesFirst) := goodIn_app (goodIn_of _ (by decide +kernel)) ggX11_normals_X11_comesFirst
set_option maxRecDepth 20000 in
theorem ggX11_normals_X11_reduces : GoodIn wsX11_normals wsX11_reduces := goodIn_r _ [15, 6, 4, 16, 17, 5, 18, 19, 20, 21, 10, 22, 1, 23, 24, 25, 26, 27, 28, 29, 30, 31, 32, 33, 34, 35, 36, 37, 38, 39, 40, 41, 42, 43, 44, 45, 46, 47, 48, 49, 50, 51, 52, 53, 54, 55, 56, 57, 58, 59, 60, 61, 62, 63, 64, 65, 66, 67] (by decide +kernel) (by decide +kernel)
set_option maxRecDepth 20000 in
theorem gX11_normals_X11_reduces : GoodIn wsX11_normals (wsV RX11 112 RX11 yX11_reduces wsX11_reduces) := goodIn_app (goodIn_of _ (by decide +kernel)) ggX11_normals_X11_reduces
theorem dX11_normals_0 : decode cX11_normals 0 = .ok (.aload_n 0, 1) := by decide +kernel
theorem dX11_normals_1 : decode cX11_normals 1 = .ok (.getfield 7, 3) := by decide +kernel
theorem dX11_normals_4 : decode cX11_normals 4 = .ok (.iconst 0, 1) := by decide +kernel
theorem dX11_normals_5 : decode cX11_normals 5 = .ok (.iaload, 1) := by decide +kernel
theorem dX11_normals_6 : decode cX11_normals 6 = .ok (.istore_n 1, 1) := by decide +kernel
theorem dX11_normals_7 : decode cX11_normals 7 = .ok (.iconst 0, 1) := by decide +kernel
theorem dX11_normals_8 : decode cX11_normals 8 = .ok (.istore_n 2, 1) := by decide +kernel
theorem dX11_normals_9 : decode cX11_normals 9 = .ok (.iload_n 2, 1) := by decide +kernel
theorem dX11_normals_10 : decode cX11_normals 10 = .ok (.aload_n 0, 1) := by decide +kernel
theorem dX11_normals_11 : decode cX11_normals 11 = .ok (.getfield 7, 3) := by decide +kernel
theorem dX11_normals_14 : decode cX11_normals 14 = .ok (.iconst 3, 1) := by decide +kernel
theorem dX11_normals_15 : decode cX11_normals 15 = .ok (.iaload, 1) := by decide +kernel
theorem dX11_normals_16 : decode cX11_normals 16 = .ok (.if_icmp .ge 68, 3) := by decide +kernel
theorem dX11_normals_19 : decode cX11_normals 19 = .ok (.aload_n 0, 1) := by decide +kernel
theorem dX11_normals_20 : decode cX11_normals 20 = .ok (.getfield 7, 3) := by decide +kernel
theorem dX11_normals_23 : decode cX11_normals 23 = .ok (.bipush 36, 2) := by decide +kernel
theorem dX11_normals_25 : decode cX11_normals 25 = .ok (.iconst 2, 1) := by decide +kernel
theorem dX11_normals_26 : decode cX11_normals 26 = .ok (.iload_n 2, 1) := by decide +kernel
theorem dX11_normals_27 : decode cX11_normals 27 = .ok (.imul, 1) := by decide +kernel
theorem dX11_normals_28 : decode cX11_normals 28 = .ok (.iadd, 1) := by decide +kernel
theorem dX11_normals_29 : decode cX11_normals 29 = .ok (.iaload, 1) := by decide +kernel
theorem dX11_normals_30 : decode cX11_normals 30 = .ok (.iload_n 1, 1) := by decide +kernel
theorem dX11_normals_31 : decode cX11_normals 31 = .ok (.if_icmp .ne 47, 3) := by decide +kernel
theorem dX11_normals_34 : decode cX11_normals 34 = .ok (.aload_n 0, 1) := by decide +kernel
theorem dX11_normals_35 : decode cX11_normals 35 = .ok (.iload_n 1, 1) := by decide +kernel
theorem dX11_normals_36 : decode cX11_normals 36 = .ok (.aload_n 0, 1) := by decide +kernel
theorem dX11_normals_37 : decode cX11_normals 37 = .ok (.getfield 7, 3) := by decide +kernel
theorem dX11_normals_40 : decode cX11_normals 40 = .ok (.bipush 36, 2) := by decide +kernel
theorem dX11_normals_42 : decode cX11_normals 42 = .ok (.iconst 2, 1) := by decide +kernel
theorem dX11_normals_43 : decode cX11_normals 43 = .ok (.iload_n 2, 1) := by decide +kernel
theorem dX11_normals_44 : decode cX11_normals 44 = .ok (.imul, 1) := by decide +kernel
theorem dX11_normals_45 : decode cX11_normals 45 = .ok (.iadd, 1) := by decide +kernel
theorem dX11_normals_46 : decode cX11_normals 46 = .ok (.iconst 1, 1) := by decide +kernel
theorem dX11_normals_47 : decode cX11_normals 47 = .ok (.iadd, 1) := by decide +kernel
theorem dX11_normals_48 : decode cX11_normals 48 = .ok (.iaload, 1) := by decide +kernel
theorem dX11_normals_49 : decode cX11_normals 49 = .ok (.iload_n 2, 1) := by decide +kernel
theorem dX11_normals_50 : decode cX11_normals 50 = .ok (.invokevirtual 108, 3) := by decide +kernel
theorem dX11_normals_53 : decode cX11_normals 53 = .ok (.aload_n 0, 1) := by decide +kernel
theorem dX11_normals_54 : decode cX11_normals 54 = .ok (.getfield 7, 3) := by decide +kernel
theorem dX11_normals_57 : decode cX11_normals 57 = .ok (.iconst 0, 1) := by decide +kernel
theorem dX11_normals_58 : decode cX11_normals 58 = .ok (.aload_n 0, 1) := by decide +kernel
theorem dX11_normals_59 : decode cX11_normals 59 = .ok (.getfield 7, 3) := by decide +kernel
theorem dX11_normals_62 : decode cX11_normals 62 = .ok (.bipush 37, 2) := by decide +kernel
theorem dX11_normals_64 : decode cX11_normals 64 = .ok (.iaload, 1) := by decide +kernel
theorem dX11_normals_65 : decode cX11_normals 65 = .ok (.iastore, 1) := by decide +kernel
theorem dX11_normals_66 : decode cX11_normals 66 = .ok (.aload_n 0, 1) := by decide +kernel
theorem dX11_normals_67 : decode cX11_normals 67 = .ok (.getfield 7, 3) := by decide +kernel
theorem dX11_normals_70 : decode cX11_normals 70 = .ok (.iconst 4, 1) := by decide +kernel
theorem dX11_normals_71 : decode cX11_normals 71 = .ok (.dup2, 1) := by decide +kernel
theorem dX11_normals_72 : decode cX11_normals 72 = .ok (.iaload, 1) := by decide +kernel
theorem dX11_normals_73 : decode cX11_normals 73 = .ok (.iconst 1, 1) := by decide +kernel
theorem dX11_normals_74 : decode cX11_normals 74 = .ok (.iadd, 1) := by decide +kernel
theorem dX11_normals_75 : decode cX11_normals 75 = .ok (.iastore, 1) := by decide +kernel
theorem dX11_normals_76 : decode cX11_normals 76 = .ok (.iconst 0, 1) := by decide +kernel
theorem dX11_normals_77 : decode cX11_normals 77 = .ok (.ireturn, 1) := by decide +kernel
theorem dX11_normals_78 : decode cX11_normals 78 = .ok (.iinc 2 1, 3) := by decide +kernel
theorem dX11_normals_81 : decode cX11_normals 81 = .ok (.goto (-72), 3) := by decide +kernel
theorem dX11_normals_84 : decode cX11_normals 84 = .ok (.aload_n 0, 1) := by decide +kernel
theorem dX11_normals_85 : decode cX11_normals 85 = .ok (.iload_n 1, 1) := by decide +kernel
theorem dX11_normals_86 : decode cX11_normals 86 = .ok (.invokevirtual 112, 3) := by decide +kernel
theorem dX11_normals_89 : decode cX11_normals 89 = .ok (.istore_n 2, 1) := by decide +kernel
theorem dX11_normals_90 : decode cX11_normals 90 = .ok (.iload_n 2, 1) := by decide +kernel
theorem dX11_normals_91 : decode cX11_normals 91 = .ok (.ifCond .eq 16, 3) := by decide +kernel
theorem dX11_normals_94 : decode cX11_normals 94 = .ok (.iload_n 2, 1) := by decide +kernel
theorem dX11_normals_95 : decode cX11_normals 95 = .ok (.iconst 1, 1) := by decide +kernel
theorem dX11_normals_96 : decode cX11_normals 96 = .ok (.if_icmp .ne 8, 3) := by decide +kernel
theorem dX11_normals_99 : decode cX11_normals 99 = .ok (.ldc 103, 2) := by decide +kernel
theorem dX11_normals_101 : decode cX11_normals 101 = .ok (.goto 5, 3) := by decide +kernel
theorem dX11_normals_104 : decode cX11_normals 104 = .ok (.ldc 115, 2) := by decide +kernel
theorem dX11_normals_106 : decode cX11_normals 106 = .ok (.ireturn, 1) := by decide +kernel
theorem dX11_normals_107 : decode cX11_normals 107 = .ok (.iconst 0, 1) := by decide +kernel
theorem dX11_normals_108 : decode cX11_normals 108 = .ok (.istore_n 3, 1) := by decide +kernel
theorem dX11_normals_109 : decode cX11_normals 109 = .ok (.iload_n 3, 1) := by decide +kernel
theorem dX11_normals_110 : decode cX11_normals 110 = .ok (.aload_n 0, 1) := by decide +kernel
theorem dX11_normals_111 : decode cX11_normals 111 = .ok (.getfield 64, 3) := by decide +kernel
theorem dX11_normals_114 : decode cX11_normals 114 = .ok (.if_icmp .ge 31, 3) := by decide +kernel
theorem dX11_normals_117 : decode cX11_normals 117 = .ok (.aload_n 0, 1) := by decide +kernel
theorem dX11_normals_118 : decode cX11_normals 118 = .ok (.getfield 7, 3) := by decide +kernel
theorem dX11_normals_121 : decode cX11_normals 121 = .ok (.bipush 6, 2) := by decide +kernel
theorem dX11_normals_123 : decode cX11_normals 123 = .ok (.iconst 3, 1) := by decide +kernel
theorem dX11_normals_124 : decode cX11_normals 124 = .ok (.aload_n 0, 1) := by decide +kernel
theorem dX11_normals_125 : decode cX11_normals 125 = .ok (.getfield 29, 3) := by decide +kernel
theorem dX11_normals_128 : decode cX11_normals 128 = .ok (.iload_n 3, 1) := by decide +kernel
theorem dX11_normals_129 : decode cX11_normals 129 = .ok (.iaload, 1) := by decide +kernel
theorem dX11_normals_130 : decode cX11_normals 130 = .ok (.imul, 1) := by decide +kernel
theorem dX11_normals_131 : decode cX11_normals 131 = .ok (.iadd, 1) := by decide +kernel
theorem dX11_normals_132 : decode cX11_normals 132 = .ok (.iconst 2, 1) := by decide +kernel
theorem dX11_normals_133 : decode cX11_normals 133 = .ok (.iadd, 1) := by decide +kernel
theorem dX11_normals_134 : decode cX11_normals 134 = .ok (.dup2, 1) := by decide +kernel
theorem dX11_normals_135 : decode cX11_normals 135 = .ok (.iaload, 1) := by decide +kernel
theorem dX11_normals_136 : decode cX11_normals 136 = .ok (.iconst 1, 1) := by decide +kernel
theorem dX11_normals_137 : decode cX11_normals 137 = .ok (.iadd, 1) := by decide +kernel
theorem dX11_normals_138 : decode cX11_normals 138 = .ok (.iastore, 1) := by decide +kernel
theorem dX11_normals_139 : decode cX11_normals 139 = .ok (.iinc 3 1, 3) := by decide +kernel
theorem dX11_normals_142 : decode cX11_normals 142 = .ok (.goto (-33), 3) := by decide +kernel
theorem dX11_normals_145 : decode cX11_normals 145 = .ok (.aload_n 0, 1) := by decide +kernel
theorem dX11_normals_146 : decode cX11_normals 146 = .ok (.getfield 7, 3) := by decide +kernel
theorem dX11_normals_149 : decode cX11_normals 149 = .ok (.iconst 5, 1) := by decide +kernel
theorem dX11_normals_150 : decode cX11_normals 150 = .ok (.dup2, 1) := by decide +kernel
theorem dX11_normals_151 : decode cX11_normals 151 = .ok (.iaload, 1) := by decide +kernel
theorem dX11_normals_152 : decode cX11_normals 152 = .ok (.aload_n 0, 1) := by decide +kernel
theorem dX11_normals_153 : decode cX11_normals 153 = .ok (.getfield 64, 3) := by decide +kernel
theorem dX11_normals_156 : decode cX11_normals 156 = .ok (.iadd, 1) := by decide +kernel
theorem dX11_normals_157 : decode cX11_normals 157 = .ok (.iastore, 1) := by decide +kernel
theorem dX11_normals_158 : decode cX11_normals 158 = .ok (.aload_n 0, 1) := by decide +kernel
theorem dX11_normals_159 : decode cX11_normals 159 = .ok (.getfield 7, 3) := by decide +kernel
theorem dX11_normals_162 : decode cX11_normals 162 = .ok (.iconst 0, 1) := by decide +kernel
theorem dX11_normals_163 : decode cX11_normals 163 = .ok (.aload_n 0, 1) := by decide +kernel
theorem dX11_normals_164 : decode cX11_normals 164 = .ok (.getfield 26, 3) := by decide +kernel
theorem dX11_normals_167 : decode cX11_normals 167 = .ok (.aload_n 0, 1) := by decide +kernel
theorem dX11_normals_168 : decode cX11_normals 168 = .ok (.getfield 64, 3) := by decide +kernel
theorem dX11_normals_171 : decode cX11_normals 171 = .ok (.iaload, 1) := by decide +kernel
theorem dX11_normals_172 : decode cX11_normals 172 = .ok (.iastore, 1) := by decide +kernel
theorem dX11_normals_173 : decode cX11_normals 173 = .ok (.aload_n 0, 1) := by decide +kernel
theorem dX11_normals_174 : decode cX11_normals 174 = .ok (.getfield 7, 3) := by decide +kernel
theorem dX11_normals_177 : decode cX11_normals 177 = .ok (.iconst 3, 1) := by decide +kernel
theorem dX11_normals_178 : decode cX11_normals 178 = .ok (.aload_n 0, 1) := by decide +kernel
theorem dX11_normals_179 : decode cX11_normals 179 = .ok (.getfield 7, 3) := by decide +kernel
theorem dX11_normals_182 : decode cX11_normals 182 = .ok (.iconst 3, 1) := by decide +kernel
theorem dX11_normals_183 : decode cX11_normals 183 = .ok (.iaload, 1) := by decide +kernel
theorem dX11_normals_184 : decode cX11_normals 184 = .ok (.bipush 8, 2) := by decide +kernel
theorem dX11_normals_186 : decode cX11_normals 186 = .ok (.if_icmp .ge 14, 3) := by decide +kernel
theorem dX11_normals_189 : decode cX11_normals 189 = .ok (.aload_n 0, 1) := by decide +kernel
theorem dX11_normals_190 : decode cX11_normals 190 = .ok (.getfield 7, 3) := by decide +kernel
theorem dX11_normals_193 : decode cX11_normals 193 = .ok (.iconst 3, 1) := by decide +kernel
theorem dX11_normals_194 : decode cX11_normals 194 = .ok (.iaload, 1) := by decide +kernel
theorem dX11_normals_195 : decode cX11_normals 195 = .ok (.iconst 1, 1) := by decide +kernel
theorem dX11_normals_196 : decode cX11_normals 196 = .ok (.iadd, 1) := by decide +kernel
theorem dX11_normals_197 : decode cX11_normals 197 = .ok (.goto 5, 3) := by decide +kernel
theorem dX11_normals_200 : decode cX11_normals 200 = .ok (.bipush 8, 2) := by decide +kernel
theorem dX11_normals_202 : decode cX11_normals 202 = .ok (.iastore, 1) := by decide +kernel
theorem dX11_normals_203 : decode cX11_normals 203 = .ok (.aload_n 0, 1) := by decide +kernel
theorem dX11_normals_204 : decode cX11_normals 204 = .ok (.iload_n 1, 1) := by decide +kernel
theorem dX11_normals_205 : decode cX11_normals 205 = .ok (.aload_n 0, 1) := by decide +kernel
theorem dX11_normals_206 : decode cX11_normals 206 = .ok (.getfield 7, 3) := by decide +kernel
theorem dX11_normals_209 : decode cX11_normals 209 = .ok (.iconst 0, 1) := by decide +kernel
theorem dX11_normals_210 : decode cX11_normals 210 = .ok (.iaload, 1) := by decide +kernel
theorem dX11_normals_211 : decode cX11_normals 211 = .ok (.aload_n 0, 1) := by decide +kernel
theorem dX11_normals_212 : decode cX11_normals 212 = .ok (.getfield 7, 3) := by decide +kernel
theorem dX11_normals_215 : decode cX11_normals 215 = .ok (.iconst 3, 1) := by decide +kernel
theorem dX11_normals_216 : decode cX11_normals 216 = .ok (.iaload, 1) := by decide +kernel
theorem dX11_normals_217 : decode cX11_normals 217 = .ok (.iconst 1, 1) := by decide +kernel
theorem dX11_normals_218 : decode cX11_normals 218 = .ok (.isub, 1) := by decide +kernel
theorem dX11_normals_219 : decode cX11_normals 219 = .ok (.invokevirtual 108, 3) := by decide +kernel
theorem dX11_normals_222 : decode cX11_normals 222 = .ok (.aload_n 0, 1) := by decide +kernel
theorem dX11_normals_223 : decode cX11_normals 223 = .ok (.getfield 64, 3) := by decide +kernel
theorem dX11_normals_226 : decode cX11_normals 226 = .ok (.ireturn, 1) := by decide +kernel
set_option maxRecDepth 20000 in
theorem ggX11_normal_X11_keeps : GoodIn wsX11_normal wsX11_keeps := goodIn_r _ [5, 6, 7, 57, 58, 59, 60, 61, 62, 63, 64, 65, 66, 67, 68, 69, 70, 71, 72, 73, 74, 75, 76, 77, 78, 79, 80, 81, 82, 83] (by decide +kernel) (by decide +kernel)
set_option maxRecDepth 20000 in
theorem gX11_normal_X11_keeps : GoodIn wsX11_normal (wsV RX11 85 RX11 yX11_keeps wsX11_keeps) := goodIn_app (goodIn_of _ (by decide +kernel)) ggX11_normal_X11_keeps
set_option maxRecDepth 20000 in
theorem ggX11_normal_X11_normals : GoodIn wsX11_normal wsX11_normals := goodIn_r _ [11, 7, 12, 13, 14, 15, 16, 17, 18, 19, 4, 20, 21, 22, 23, 24, 25, 26, 27, 28, 29, 30, 31, 32, 33, 34, 35, 36, 37, 38, 39, 40, 41, 42, 43, 44, 45, 46, 47, 48, 49, 57, 58, 59, 60, 61, 62, 63, 64, 65, 66, 67, 68, 69, 70, 71, 72, 73, 74, 75, 76, 77, 78, 79, 80, 81, 82, 83] (by decide +kernel) (by decide +kernel)
set_option maxRecDepth 20000 in
theorem gX11_normal_X11_normals : GoodIn wsX11_normal (wsV RX11 116 RX11 yX11_normals wsX11_normals) := goodIn_app (goodIn_of _ (by decide +kernel)) ggX11_normal_X11_normals
set_option maxRecDepth 20000 in
theorem ggX11_normal_X11_acted : GoodIn wsX11_normal wsX11_acted := goodIn_r _ [53, 54, 55, 56, 6, 57, 58, 59, 60, 61, 62, 63, 64, 65, 66, 67, 68, 69, 70, 71, 72, 73, 74, 75, 76, 77, 78, 79, 80, 81, 82, 83] (by decide +kernel) (by decide +kernel)
set_option maxRecDepth 20000 in
theorem gX11_normal_X11_acted : GoodIn wsX11_normal (wsV RX11 91 RX11 yX11_acted wsX11_acted) := goodIn_app (goodIn_of _ (by decide +kernel)) ggX11_normal_X11_acted
theorem dX11_normal_0 : decode cX11_normal 0 = .ok (.aload_n 0, 1) := by decide +kernel
theorem dX11_normal_1 : decode cX11_normal 1 = .ok (.invokevirtual 85, 3) := by decide +kernel
theorem dX11_normal_4 : decode cX11_normal 4 = .ok (.aload_n 0, 1) := by decide +kernel
theorem dX11_normal_5 : decode cX11_normal 5 = .ok (.aload_n 0, 1) := by decide +kernel
theorem dX11_normal_6 : decode cX11_normal 6 = .ok (.invokevirtual 116, 3) := by decide +kernel
theorem dX11_normal_9 : decode cX11_normal 9 = .ok (.invokevirtual 91, 3) := by decide +kernel
theorem dX11_normal_12 : decode cX11_normal 12 = .ok (.ireturn, 1) := by decide +kernel
set_option maxRecDepth 20000 in
theorem ggX11_letterAt_X11_letterOf : GoodIn wsX11_letterAt wsX11_letterOf := goodIn_r _ [6, 7, 8, 9, 5, 10, 11, 12, 13] (by decide +kernel) (by decide +kernel)
set_option maxRecDepth 20000 in
theorem gX11_letterAt_X11_letterOf : GoodIn wsX11_letterAt (va_wsS RX11 100 yX11_letterOf wsX11_letterOf) := goodIn_app (goodIn_of _ (by decide +kernel)) ggX11_letterAt_X11_letterOf
theorem dX11_letterAt_0 : decode cX11_letterAt 0 = .ok (.iload_n 1, 1) := by decide +kernel
theorem dX11_letterAt_1 : decode cX11_letterAt 1 = .ok (.ifCond .ge 8, 3) := by decide +kernel
theorem dX11_letterAt_4 : decode cX11_letterAt 4 = .ok (.ldc 78, 2) := by decide +kernel
theorem dX11_letterAt_6 : decode cX11_letterAt 6 = .ok (.goto 13, 3) := by decide +kernel
theorem dX11_letterAt_9 : decode cX11_letterAt 9 = .ok (.aload_n 0, 1) := by decide +kernel
theorem dX11_letterAt_10 : decode cX11_letterAt 10 = .ok (.getfield 7, 3) := by decide +kernel
theorem dX11_letterAt_13 : decode cX11_letterAt 13 = .ok (.iconst 0, 1) := by decide +kernel
theorem dX11_letterAt_14 : decode cX11_letterAt 14 = .ok (.iaload, 1) := by decide +kernel
theorem dX11_letterAt_15 : decode cX11_letterAt 15 = .ok (.iload_n 1, 1) := by decide +kernel
theorem dX11_letterAt_16 : decode cX11_letterAt 16 = .ok (.invokestatic 100, 3) := by decide +kernel
theorem dX11_letterAt_19 : decode cX11_letterAt 19 = .ok (.ireturn, 1) := by decide +kernel
set_option maxRecDepth 20000 in
theorem ggX11_next_X11_in : GoodIn wsX11_next wsX11_in := goodIn_r _ [9] (by decide +kernel) (by decide +kernel)
set_option maxRecDepth 20000 in
theorem gX11_next_X11_in : GoodIn wsX11_next (va_wsS RX11 44 yX11_in wsX11_in) := goodIn_app (goodIn_of _ (by decide +kernel)) ggX11_next_X11_in
set_option maxRecDepth 20000 in
theorem ggX11_next_X11_chooses : GoodIn wsX11_next wsX11_chooses := goodIn_r _ [13, 4, 2, 5, 14, 15, 8, 16, 17, 18, 19, 20, 21, 22, 23, 24, 25, 26, 27, 28, 29, 30, 31, 32, 33, 34, 35, 36, 37, 38, 39, 40, 41, 42, 43, 44, 45, 46, 47, 48, 49, 50] (by decide +kernel) (by decide +kernel)
set_option maxRecDepth 20000 in
theorem gX11_next_X11_chooses : GoodIn wsX11_next (wsV RX11 67 RX11 yX11_chooses wsX11_chooses) := goodIn_app (goodIn_of _ (by decide +kernel)) ggX11_next_X11_chooses
theorem dX11_next_0 : decode cX11_next 0 = .ok (.iload_n 1, 1) := by decide +kernel
theorem dX11_next_1 : decode cX11_next 1 = .ok (.iconst 0, 1) := by decide +kernel
theorem dX11_next_2 : decode cX11_next 2 = .ok (.iconst 1, 1) := by decide +kernel
theorem dX11_next_3 : decode cX11_next 3 = .ok (.invokestatic 44, 3) := by decide +kernel
theorem dX11_next_6 : decode cX11_next 6 = .ok (.ifCond .ne 6, 3) := by decide +kernel
theorem dX11_next_9 : decode cX11_next 9 = .ok (.ldc 78, 2) := by decide +kernel
theorem dX11_next_11 : decode cX11_next 11 = .ok (.ireturn, 1) := by decide +kernel
theorem dX11_next_12 : decode cX11_next 12 = .ok (.aload_n 0, 1) := by decide +kernel
theorem dX11_next_13 : decode cX11_next 13 = .ok (.aload_n 0, 1) := by decide +kernel
theorem dX11_next_14 : decode cX11_next 14 = .ok (.getfield 7, 3) := by decide +kernel
theorem dX11_next_17 : decode cX11_next 17 = .ok (.iconst 0, 1) := by decide +kernel
theorem dX11_next_18 : decode cX11_next 18 = .ok (.iaload, 1) := by decide +kernel
theorem dX11_next_19 : decode cX11_next 19 = .ok (.invokevirtual 67, 3) := by decide +kernel
theorem dX11_next_22 : decode cX11_next 22 = .ok (.ifCond .ne 6, 3) := by decide +kernel
theorem dX11_next_25 : decode cX11_next 25 = .ok (.ldc 43, 2) := by decide +kernel
theorem dX11_next_27 : decode cX11_next 27 = .ok (.ireturn, 1) := by decide +kernel
theorem dX11_next_28 : decode cX11_next 28 = .ok (.iload_n 1, 1) := by decide +kernel
theorem dX11_next_29 : decode cX11_next 29 = .ok (.ifCond .ne 10, 3) := by decide +kernel
theorem dX11_next_32 : decode cX11_next 32 = .ok (.aload_n 0, 1) := by decide +kernel
theorem dX11_next_33 : decode cX11_next 33 = .ok (.getfield 54, 3) := by decide +kernel
theorem dX11_next_36 : decode cX11_next 36 = .ok (.goto 7, 3) := by decide +kernel
theorem dX11_next_39 : decode cX11_next 39 = .ok (.aload_n 0, 1) := by decide +kernel
theorem dX11_next_40 : decode cX11_next 40 = .ok (.getfield 58, 3) := by decide +kernel
theorem dX11_next_43 : decode cX11_next 43 = .ok (.ireturn, 1) := by decide +kernel
set_option maxRecDepth 20000 in
theorem ggX11_reduced_X11_in : GoodIn wsX11_reduced wsX11_in := goodIn_r _ [10] (by decide +kernel) (by decide +kernel)
set_option maxRecDepth 20000 in
theorem gX11_reduced_X11_in : GoodIn wsX11_reduced (va_wsS RX11 44 yX11_in wsX11_in) := goodIn_app (goodIn_of _ (by decide +kernel)) ggX11_reduced_X11_in
set_option maxRecDepth 20000 in
theorem ggX11_reduced_X11_reduces : GoodIn wsX11_reduced wsX11_reduces := goodIn_r _ [14, 6, 3, 15, 16, 17, 4, 18, 19, 20, 9, 21, 2, 22, 23, 24, 25, 26, 27, 28, 29, 30, 31, 32, 33, 34, 35, 36, 37, 38, 39, 46, 47, 48, 49, 50, 51, 52, 53, 54, 55, 56, 57, 58, 59, 60, 61, 62, 63, 64, 65, 66, 67, 68, 69, 70, 71, 72] (by decide +kernel) (by decide +kernel)
set_option maxRecDepth 20000 in
theorem gX11_reduced_X11_reduces : GoodIn wsX11_reduced (wsV RX11 112 RX11 yX11_reduces wsX11_reduces) := goodIn_app (goodIn_of _ (by decide +kernel)) ggX11_reduced_X11_reduces
set_option maxRecDepth 20000 in
theorem ggX11_reduced_X11_length : GoodIn wsX11_reduced wsX11_length := goodIn_r _ [24] (by decide +kernel) (by decide +kernel)
set_option maxRecDepth 20000 in
theorem gX11_reduced_X11_length : GoodIn wsX11_reduced (va_wsS RX11 35 yX11_length wsX11_length) := goodIn_app (goodIn_of _ (by decide +kernel)) ggX11_reduced_X11_length
set_option maxRecDepth 20000 in
theorem ggX11_reduced_X11_letterOf : GoodIn wsX11_reduced wsX11_letterOf := goodIn_r _ [42, 5, 22, 23, 9, 24, 43, 44, 45] (by decide +kernel) (by decide +kernel)
set_option maxRecDepth 20000 in
theorem gX11_reduced_X11_letterOf : GoodIn wsX11_reduced (va_wsS RX11 100 yX11_letterOf wsX11_letterOf) := goodIn_app (goodIn_of _ (by decide +kernel)) ggX11_reduced_X11_letterOf
theorem dX11_reduced_0 : decode cX11_reduced 0 = .ok (.iload_n 1, 1) := by decide +kernel
theorem dX11_reduced_1 : decode cX11_reduced 1 = .ok (.iconst 0, 1) := by decide +kernel
theorem dX11_reduced_2 : decode cX11_reduced 2 = .ok (.iconst 4, 1) := by decide +kernel
theorem dX11_reduced_3 : decode cX11_reduced 3 = .ok (.invokestatic 44, 3) := by decide +kernel
theorem dX11_reduced_6 : decode cX11_reduced 6 = .ok (.ifCond .ne 17, 3) := by decide +kernel
theorem dX11_reduced_9 : decode cX11_reduced 9 = .ok (.iload_n 1, 1) := by decide +kernel
theorem dX11_reduced_10 : decode cX11_reduced 10 = .ok (.bipush 10, 2) := by decide +kernel
theorem dX11_reduced_12 : decode cX11_reduced 12 = .ok (.bipush 21, 2) := by decide +kernel
theorem dX11_reduced_14 : decode cX11_reduced 14 = .ok (.invokestatic 44, 3) := by decide +kernel
theorem dX11_reduced_17 : decode cX11_reduced 17 = .ok (.ifCond .ne 6, 3) := by decide +kernel
theorem dX11_reduced_20 : decode cX11_reduced 20 = .ok (.ldc 78, 2) := by decide +kernel
theorem dX11_reduced_22 : decode cX11_reduced 22 = .ok (.ireturn, 1) := by decide +kernel
theorem dX11_reduced_23 : decode cX11_reduced 23 = .ok (.aload_n 0, 1) := by decide +kernel
theorem dX11_reduced_24 : decode cX11_reduced 24 = .ok (.aload_n 0, 1) := by decide +kernel
theorem dX11_reduced_25 : decode cX11_reduced 25 = .ok (.getfield 7, 3) := by decide +kernel
theorem dX11_reduced_28 : decode cX11_reduced 28 = .ok (.iconst 0, 1) := by decide +kernel
theorem dX11_reduced_29 : decode cX11_reduced 29 = .ok (.iaload, 1) := by decide +kernel
theorem dX11_reduced_30 : decode cX11_reduced 30 = .ok (.invokevirtual 112, 3) := by decide +kernel
theorem dX11_reduced_33 : decode cX11_reduced 33 = .ok (.istore_n 2, 1) := by decide +kernel
theorem dX11_reduced_34 : decode cX11_reduced 34 = .ok (.iload_n 1, 1) := by decide +kernel
theorem dX11_reduced_35 : decode cX11_reduced 35 = .ok (.tableswitch 97 0 4 #[33, 35, 40, 60, 75], 33) := by decide +kernel
theorem dX11_reduced_68 : decode cX11_reduced 68 = .ok (.iload_n 2, 1) := by decide +kernel
theorem dX11_reduced_69 : decode cX11_reduced 69 = .ok (.ireturn, 1) := by decide +kernel
theorem dX11_reduced_70 : decode cX11_reduced 70 = .ok (.aload_n 0, 1) := by decide +kernel
theorem dX11_reduced_71 : decode cX11_reduced 71 = .ok (.getfield 64, 3) := by decide +kernel
theorem dX11_reduced_74 : decode cX11_reduced 74 = .ok (.ireturn, 1) := by decide +kernel
theorem dX11_reduced_75 : decode cX11_reduced 75 = .ok (.iload_n 2, 1) := by decide +kernel
theorem dX11_reduced_76 : decode cX11_reduced 76 = .ok (.iconst 1, 1) := by decide +kernel
theorem dX11_reduced_77 : decode cX11_reduced 77 = .ok (.if_icmp .ne 15, 3) := by decide +kernel
theorem dX11_reduced_80 : decode cX11_reduced 80 = .ok (.aload_n 0, 1) := by decide +kernel
theorem dX11_reduced_81 : decode cX11_reduced 81 = .ok (.getfield 64, 3) := by decide +kernel
theorem dX11_reduced_84 : decode cX11_reduced 84 = .ok (.aload_n 0, 1) := by decide +kernel
theorem dX11_reduced_85 : decode cX11_reduced 85 = .ok (.getfield 75, 3) := by decide +kernel
theorem dX11_reduced_88 : decode cX11_reduced 88 = .ok (.isub, 1) := by decide +kernel
theorem dX11_reduced_89 : decode cX11_reduced 89 = .ok (.goto 5, 3) := by decide +kernel
theorem dX11_reduced_92 : decode cX11_reduced 92 = .ok (.ldc 43, 2) := by decide +kernel
theorem dX11_reduced_94 : decode cX11_reduced 94 = .ok (.ireturn, 1) := by decide +kernel
theorem dX11_reduced_95 : decode cX11_reduced 95 = .ok (.iload_n 2, 1) := by decide +kernel
theorem dX11_reduced_96 : decode cX11_reduced 96 = .ok (.iconst 1, 1) := by decide +kernel
theorem dX11_reduced_97 : decode cX11_reduced 97 = .ok (.if_icmp .ne 10, 3) := by decide +kernel
theorem dX11_reduced_100 : decode cX11_reduced 100 = .ok (.aload_n 0, 1) := by decide +kernel
theorem dX11_reduced_101 : decode cX11_reduced 101 = .ok (.getfield 75, 3) := by decide +kernel
theorem dX11_reduced_104 : decode cX11_reduced 104 = .ok (.goto 5, 3) := by decide +kernel
theorem dX11_reduced_107 : decode cX11_reduced 107 = .ok (.ldc 43, 2) := by decide +kernel
theorem dX11_reduced_109 : decode cX11_reduced 109 = .ok (.ireturn, 1) := by decide +kernel
theorem dX11_reduced_110 : decode cX11_reduced 110 = .ok (.iload_n 2, 1) := by decide +kernel
theorem dX11_reduced_111 : decode cX11_reduced 111 = .ok (.ifCond .ne 18, 3) := by decide +kernel
theorem dX11_reduced_114 : decode cX11_reduced 114 = .ok (.aload_n 0, 1) := by decide +kernel
theorem dX11_reduced_115 : decode cX11_reduced 115 = .ok (.getfield 26, 3) := by decide +kernel
theorem dX11_reduced_118 : decode cX11_reduced 118 = .ok (.aload_n 0, 1) := by decide +kernel
theorem dX11_reduced_119 : decode cX11_reduced 119 = .ok (.getfield 64, 3) := by decide +kernel
theorem dX11_reduced_122 : decode cX11_reduced 122 = .ok (.iaload, 1) := by decide +kernel
theorem dX11_reduced_123 : decode cX11_reduced 123 = .ok (.invokestatic 35, 3) := by decide +kernel
theorem dX11_reduced_126 : decode cX11_reduced 126 = .ok (.goto 5, 3) := by decide +kernel
theorem dX11_reduced_129 : decode cX11_reduced 129 = .ok (.ldc 43, 2) := by decide +kernel
theorem dX11_reduced_131 : decode cX11_reduced 131 = .ok (.ireturn, 1) := by decide +kernel
theorem dX11_reduced_132 : decode cX11_reduced 132 = .ok (.iload_n 2, 1) := by decide +kernel
theorem dX11_reduced_133 : decode cX11_reduced 133 = .ok (.ifCond .ne 22, 3) := by decide +kernel
theorem dX11_reduced_136 : decode cX11_reduced 136 = .ok (.aload_n 0, 1) := by decide +kernel
theorem dX11_reduced_137 : decode cX11_reduced 137 = .ok (.getfield 26, 3) := by decide +kernel
theorem dX11_reduced_140 : decode cX11_reduced 140 = .ok (.aload_n 0, 1) := by decide +kernel
theorem dX11_reduced_141 : decode cX11_reduced 141 = .ok (.getfield 64, 3) := by decide +kernel
theorem dX11_reduced_144 : decode cX11_reduced 144 = .ok (.iaload, 1) := by decide +kernel
theorem dX11_reduced_145 : decode cX11_reduced 145 = .ok (.iload_n 1, 1) := by decide +kernel
theorem dX11_reduced_146 : decode cX11_reduced 146 = .ok (.bipush 10, 2) := by decide +kernel
theorem dX11_reduced_148 : decode cX11_reduced 148 = .ok (.isub, 1) := by decide +kernel
theorem dX11_reduced_149 : decode cX11_reduced 149 = .ok (.invokestatic 100, 3) := by decide +kernel
theorem dX11_reduced_152 : decode cX11_reduced 152 = .ok (.goto 5, 3) := by decide +kernel
theorem dX11_reduced_155 : decode cX11_reduced 155 = .ok (.ldc 43, 2) := by decide +kernel
theorem dX11_reduced_157 : decode cX11_reduced 157 = .ok (.ireturn, 1) := by decide +kernel
theorem dX11_reaches_0 : decode cX11_reaches 0 = .ok (.iconst 0, 1) := by decide +kernel
theorem dX11_reaches_1 : decode cX11_reaches 1 = .ok (.istore_n 2, 1) := by decide +kernel
theorem dX11_reaches_2 : decode cX11_reaches 2 = .ok (.iconst 0, 1) := by decide +kernel
theorem dX11_reaches_3 : decode cX11_reaches 3 = .ok (.istore_n 3, 1) := by decide +kernel
theorem dX11_reaches_4 : decode cX11_reaches 4 = .ok (.iload_n 3, 1) := by decide +kernel
theorem dX11_reaches_5 : decode cX11_reaches 5 = .ok (.aload_n 0, 1) := by decide +kernel
theorem dX11_reaches_6 : decode cX11_reaches 6 = .ok (.getfield 119, 3) := by decide +kernel
theorem dX11_reaches_9 : decode cX11_reaches 9 = .ok (.if_icmp .ge 29, 3) := by decide +kernel
theorem dX11_reaches_12 : decode cX11_reaches 12 = .ok (.iload_n 2, 1) := by decide +kernel
theorem dX11_reaches_13 : decode cX11_reaches 13 = .ok (.ifCond .ne 25, 3) := by decide +kernel
theorem dX11_reaches_16 : decode cX11_reaches 16 = .ok (.aload_n 0, 1) := by decide +kernel
theorem dX11_reaches_17 : decode cX11_reaches 17 = .ok (.getfield 32, 3) := by decide +kernel
theorem dX11_reaches_20 : decode cX11_reaches 20 = .ok (.iload_n 3, 1) := by decide +kernel
theorem dX11_reaches_21 : decode cX11_reaches 21 = .ok (.iaload, 1) := by decide +kernel
theorem dX11_reaches_22 : decode cX11_reaches 22 = .ok (.iload_n 1, 1) := by decide +kernel
theorem dX11_reaches_23 : decode cX11_reaches 23 = .ok (.if_icmp .ne 7, 3) := by decide +kernel
theorem dX11_reaches_26 : decode cX11_reaches 26 = .ok (.iconst 1, 1) := by decide +kernel
theorem dX11_reaches_27 : decode cX11_reaches 27 = .ok (.goto 4, 3) := by decide +kernel
theorem dX11_reaches_30 : decode cX11_reaches 30 = .ok (.iconst 0, 1) := by decide +kernel
theorem dX11_reaches_31 : decode cX11_reaches 31 = .ok (.istore_n 2, 1) := by decide +kernel
theorem dX11_reaches_32 : decode cX11_reaches 32 = .ok (.iinc 3 1, 3) := by decide +kernel
theorem dX11_reaches_35 : decode cX11_reaches 35 = .ok (.goto (-31), 3) := by decide +kernel
theorem dX11_reaches_38 : decode cX11_reaches 38 = .ok (.iload_n 2, 1) := by decide +kernel
theorem dX11_reaches_39 : decode cX11_reaches 39 = .ok (.ifCond .ne 23, 3) := by decide +kernel
theorem dX11_reaches_42 : decode cX11_reaches 42 = .ok (.aload_n 0, 1) := by decide +kernel
theorem dX11_reaches_43 : decode cX11_reaches 43 = .ok (.getfield 32, 3) := by decide +kernel
theorem dX11_reaches_46 : decode cX11_reaches 46 = .ok (.aload_n 0, 1) := by decide +kernel
theorem dX11_reaches_47 : decode cX11_reaches 47 = .ok (.getfield 119, 3) := by decide +kernel
theorem dX11_reaches_50 : decode cX11_reaches 50 = .ok (.iload_n 1, 1) := by decide +kernel
theorem dX11_reaches_51 : decode cX11_reaches 51 = .ok (.iastore, 1) := by decide +kernel
theorem dX11_reaches_52 : decode cX11_reaches 52 = .ok (.aload_n 0, 1) := by decide +kernel
theorem dX11_reaches_53 : decode cX11_reaches 53 = .ok (.dup, 1) := by decide +kernel
theorem dX11_reaches_54 : decode cX11_reaches 54 = .ok (.getfield 119, 3) := by decide +kernel
theorem dX11_reaches_57 : decode cX11_reaches 57 = .ok (.iconst 1, 1) := by decide +kernel
theorem dX11_reaches_58 : decode cX11_reaches 58 = .ok (.iadd, 1) := by decide +kernel
theorem dX11_reaches_59 : decode cX11_reaches 59 = .ok (.putfield 119, 3) := by decide +kernel
theorem dX11_reaches_62 : decode cX11_reaches 62 = .ok (.return_, 1) := by decide +kernel
set_option maxRecDepth 20000 in
theorem ggX11_reachesAll_X11_reaches : GoodIn wsX11_reachesAll wsX11_reaches := goodIn_r _ [8, 1, 3, 27, 28, 29, 30, 31, 32, 33, 34, 35, 36, 37, 38, 39, 40, 41, 42, 43, 44, 45, 46, 47, 48, 49, 50, 51, 52, 53] (by decide +kernel) (by decide +kernel)
set_option maxRecDepth 20000 in
theorem gX11_reachesAll_X11_reaches : GoodIn wsX11_reachesAll (wsV RX11 122 RX11 yX11_reaches wsX11_reaches) := goodIn_app (goodIn_of _ (by decide +kernel)) ggX11_reachesAll_X11_reaches
set_option maxRecDepth 20000 in
theorem ggX11_reachesAll_X11_length : GoodIn wsX11_reachesAll wsX11_length := goodIn_r _ [11] (by decide +kernel) (by decide +kernel)
set_option maxRecDepth 20000 in
theorem gX11_reachesAll_X11_length : GoodIn wsX11_reachesAll (va_wsS RX11 35 yX11_length wsX11_length) := goodIn_app (goodIn_of _ (by decide +kernel)) ggX11_reachesAll_X11_length
set_option maxRecDepth 20000 in
theorem ggX11_reachesAll_X11_left : GoodIn wsX11_reachesAll wsX11_left := goodIn_r _ [15, 2, 27, 28, 29, 30, 31, 32, 33, 34, 35, 36, 37, 38, 39, 40, 41, 42, 43, 44, 45, 46, 47, 48, 49, 50, 51, 52, 53] (by decide +kernel) (by decide +kernel)
set_option maxRecDepth 20000 in
theorem gX11_reachesAll_X11_left : GoodIn wsX11_reachesAll (wsV RX11 48 RX11 yX11_left wsX11_left) := goodIn_app (goodIn_of _ (by decide +kernel)) ggX11_reachesAll_X11_left
set_option maxRecDepth 20000 in
theorem ggX11_reachesAll_X11_stands : GoodIn wsX11_reachesAll wsX11_stands := goodIn_r _ [18, 9, 10, 7, 11] (by decide +kernel) (by decide +kernel)
set_option maxRecDepth 20000 in
theorem gX11_reachesAll_X11_stands : GoodIn wsX11_reachesAll (va_wsS RX11 61 yX11_stands wsX11_stands) := goodIn_app (goodIn_of _ (by decide +kernel)) ggX11_reachesAll_X11_stands
set_option maxRecDepth 20000 in
theorem ggX11_reachesAll_X11_applied : GoodIn wsX11_reachesAll wsX11_applied := goodIn_r _ [22, 9, 10, 7, 11, 12, 13, 14, 15, 2, 23, 24, 25, 26, 27, 28, 29, 30, 31, 32, 33, 34, 35, 36, 37, 38, 39, 40, 41, 42, 43, 44, 45, 46, 47, 48, 49, 50, 51, 52, 53] (by decide +kernel) (by decide +kernel)
set_option maxRecDepth 20000 in
theorem gX11_reachesAll_X11_applied : GoodIn wsX11_reachesAll (wsV RX11 71 RX11 yX11_applied wsX11_applied) := goodIn_app (goodIn_of _ (by decide +kernel)) ggX11_reachesAll_X11_applied
theorem dX11_reachesAll_0 : decode cX11_reachesAll 0 = .ok (.aload_n 0, 1) := by decide +kernel
theorem dX11_reachesAll_1 : decode cX11_reachesAll 1 = .ok (.iconst 0, 1) := by decide +kernel
theorem dX11_reachesAll_2 : decode cX11_reachesAll 2 = .ok (.putfield 119, 3) := by decide +kernel
theorem dX11_reachesAll_5 : decode cX11_reachesAll 5 = .ok (.aload_n 0, 1) := by decide +kernel
theorem dX11_reachesAll_6 : decode cX11_reachesAll 6 = .ok (.aload_n 0, 1) := by decide +kernel
theorem dX11_reachesAll_7 : decode cX11_reachesAll 7 = .ok (.getfield 7, 3) := by decide +kernel
theorem dX11_reachesAll_10 : decode cX11_reachesAll 10 = .ok (.iconst 0, 1) := by decide +kernel
theorem dX11_reachesAll_11 : decode cX11_reachesAll 11 = .ok (.iaload, 1) := by decide +kernel
theorem dX11_reachesAll_12 : decode cX11_reachesAll 12 = .ok (.invokevirtual 122, 3) := by decide +kernel
theorem dX11_reachesAll_15 : decode cX11_reachesAll 15 = .ok (.iconst 0, 1) := by decide +kernel
theorem dX11_reachesAll_16 : decode cX11_reachesAll 16 = .ok (.istore_n 1, 1) := by decide +kernel
theorem dX11_reachesAll_17 : decode cX11_reachesAll 17 = .ok (.iload_n 1, 1) := by decide +kernel
theorem dX11_reachesAll_18 : decode cX11_reachesAll 18 = .ok (.aload_n 0, 1) := by decide +kernel
theorem dX11_reachesAll_19 : decode cX11_reachesAll 19 = .ok (.getfield 119, 3) := by decide +kernel
theorem dX11_reachesAll_22 : decode cX11_reachesAll 22 = .ok (.if_icmp .ge 102, 3) := by decide +kernel
theorem dX11_reachesAll_25 : decode cX11_reachesAll 25 = .ok (.aload_n 0, 1) := by decide +kernel
theorem dX11_reachesAll_26 : decode cX11_reachesAll 26 = .ok (.getfield 119, 3) := by decide +kernel
theorem dX11_reachesAll_29 : decode cX11_reachesAll 29 = .ok (.sipush 401, 3) := by decide +kernel
theorem dX11_reachesAll_32 : decode cX11_reachesAll 32 = .ok (.if_icmp .ge 92, 3) := by decide +kernel
theorem dX11_reachesAll_35 : decode cX11_reachesAll 35 = .ok (.iconst 0, 1) := by decide +kernel
theorem dX11_reachesAll_36 : decode cX11_reachesAll 36 = .ok (.istore_n 2, 1) := by decide +kernel
theorem dX11_reachesAll_37 : decode cX11_reachesAll 37 = .ok (.iload_n 2, 1) := by decide +kernel
theorem dX11_reachesAll_38 : decode cX11_reachesAll 38 = .ok (.aload_n 0, 1) := by decide +kernel
theorem dX11_reachesAll_39 : decode cX11_reachesAll 39 = .ok (.getfield 32, 3) := by decide +kernel
theorem dX11_reachesAll_42 : decode cX11_reachesAll 42 = .ok (.iload_n 1, 1) := by decide +kernel
theorem dX11_reachesAll_43 : decode cX11_reachesAll 43 = .ok (.iaload, 1) := by decide +kernel
theorem dX11_reachesAll_44 : decode cX11_reachesAll 44 = .ok (.invokestatic 35, 3) := by decide +kernel
theorem dX11_reachesAll_47 : decode cX11_reachesAll 47 = .ok (.if_icmp .ge 71, 3) := by decide +kernel
theorem dX11_reachesAll_50 : decode cX11_reachesAll 50 = .ok (.iconst 0, 1) := by decide +kernel
theorem dX11_reachesAll_51 : decode cX11_reachesAll 51 = .ok (.istore_n 3, 1) := by decide +kernel
theorem dX11_reachesAll_52 : decode cX11_reachesAll 52 = .ok (.iload_n 3, 1) := by decide +kernel
theorem dX11_reachesAll_53 : decode cX11_reachesAll 53 = .ok (.aload_n 0, 1) := by decide +kernel
theorem dX11_reachesAll_54 : decode cX11_reachesAll 54 = .ok (.getfield 7, 3) := by decide +kernel
theorem dX11_reachesAll_57 : decode cX11_reachesAll 57 = .ok (.iconst 1, 1) := by decide +kernel
theorem dX11_reachesAll_58 : decode cX11_reachesAll 58 = .ok (.iaload, 1) := by decide +kernel
theorem dX11_reachesAll_59 : decode cX11_reachesAll 59 = .ok (.if_icmp .ge 53, 3) := by decide +kernel
theorem dX11_reachesAll_62 : decode cX11_reachesAll 62 = .ok (.aload_n 0, 1) := by decide +kernel
theorem dX11_reachesAll_63 : decode cX11_reachesAll 63 = .ok (.getfield 119, 3) := by decide +kernel
theorem dX11_reachesAll_66 : decode cX11_reachesAll 66 = .ok (.sipush 401, 3) := by decide +kernel
theorem dX11_reachesAll_69 : decode cX11_reachesAll 69 = .ok (.if_icmp .ge 43, 3) := by decide +kernel
theorem dX11_reachesAll_72 : decode cX11_reachesAll 72 = .ok (.aload_n 0, 1) := by decide +kernel
theorem dX11_reachesAll_73 : decode cX11_reachesAll 73 = .ok (.iload_n 3, 1) := by decide +kernel
theorem dX11_reachesAll_74 : decode cX11_reachesAll 74 = .ok (.invokevirtual 48, 3) := by decide +kernel
theorem dX11_reachesAll_77 : decode cX11_reachesAll 77 = .ok (.aload_n 0, 1) := by decide +kernel
theorem dX11_reachesAll_78 : decode cX11_reachesAll 78 = .ok (.getfield 32, 3) := by decide +kernel
theorem dX11_reachesAll_81 : decode cX11_reachesAll 81 = .ok (.iload_n 1, 1) := by decide +kernel
theorem dX11_reachesAll_82 : decode cX11_reachesAll 82 = .ok (.iaload, 1) := by decide +kernel
theorem dX11_reachesAll_83 : decode cX11_reachesAll 83 = .ok (.iload_n 2, 1) := by decide +kernel
theorem dX11_reachesAll_84 : decode cX11_reachesAll 84 = .ok (.invokestatic 61, 3) := by decide +kernel
theorem dX11_reachesAll_87 : decode cX11_reachesAll 87 = .ok (.ifCond .eq 19, 3) := by decide +kernel
theorem dX11_reachesAll_90 : decode cX11_reachesAll 90 = .ok (.aload_n 0, 1) := by decide +kernel
theorem dX11_reachesAll_91 : decode cX11_reachesAll 91 = .ok (.aload_n 0, 1) := by decide +kernel
theorem dX11_reachesAll_92 : decode cX11_reachesAll 92 = .ok (.aload_n 0, 1) := by decide +kernel
theorem dX11_reachesAll_93 : decode cX11_reachesAll 93 = .ok (.getfield 32, 3) := by decide +kernel
theorem dX11_reachesAll_96 : decode cX11_reachesAll 96 = .ok (.iload_n 1, 1) := by decide +kernel
theorem dX11_reachesAll_97 : decode cX11_reachesAll 97 = .ok (.iaload, 1) := by decide +kernel
theorem dX11_reachesAll_98 : decode cX11_reachesAll 98 = .ok (.iload_n 3, 1) := by decide +kernel
theorem dX11_reachesAll_99 : decode cX11_reachesAll 99 = .ok (.iload_n 2, 1) := by decide +kernel
theorem dX11_reachesAll_100 : decode cX11_reachesAll 100 = .ok (.invokevirtual 71, 3) := by decide +kernel
theorem dX11_reachesAll_103 : decode cX11_reachesAll 103 = .ok (.invokevirtual 122, 3) := by decide +kernel
theorem dX11_reachesAll_106 : decode cX11_reachesAll 106 = .ok (.iinc 3 1, 3) := by decide +kernel
theorem dX11_reachesAll_109 : decode cX11_reachesAll 109 = .ok (.goto (-57), 3) := by decide +kernel
theorem dX11_reachesAll_112 : decode cX11_reachesAll 112 = .ok (.iinc 2 1, 3) := by decide +kernel
theorem dX11_reachesAll_115 : decode cX11_reachesAll 115 = .ok (.goto (-78), 3) := by decide +kernel
theorem dX11_reachesAll_118 : decode cX11_reachesAll 118 = .ok (.iinc 1 1, 3) := by decide +kernel
theorem dX11_reachesAll_121 : decode cX11_reachesAll 121 = .ok (.goto (-104), 3) := by decide +kernel
theorem dX11_reachesAll_124 : decode cX11_reachesAll 124 = .ok (.return_, 1) := by decide +kernel
set_option maxRecDepth 20000 in
theorem ggX11_end_X11_chooses : GoodIn wsX11_end wsX11_chooses := goodIn_r _ [7, 8, 9, 10, 11, 12, 6, 13, 14, 15, 16, 17, 18, 19, 20, 21, 22, 23, 24, 25, 26, 27, 28, 29, 30, 31, 32, 33, 34, 35, 36, 37, 38, 39, 40, 41, 42, 43, 44, 45, 46, 47] (by decide +kernel) (by decide +kernel)
set_option maxRecDepth 20000 in
theorem gX11_end_X11_chooses : GoodIn wsX11_end (wsV RX11 67 RX11 yX11_chooses wsX11_chooses) := goodIn_app (goodIn_of _ (by decide +kernel)) ggX11_end_X11_chooses
theorem dX11_end_0 : decode cX11_end 0 = .ok (.iconst (-1), 1) := by decide +kernel
theorem dX11_end_1 : decode cX11_end 1 = .ok (.istore_n 2, 1) := by decide +kernel
theorem dX11_end_2 : decode cX11_end 2 = .ok (.iconst 0, 1) := by decide +kernel
theorem dX11_end_3 : decode cX11_end 3 = .ok (.istore_n 3, 1) := by decide +kernel
theorem dX11_end_4 : decode cX11_end 4 = .ok (.iload_n 3, 1) := by decide +kernel
theorem dX11_end_5 : decode cX11_end 5 = .ok (.aload_n 0, 1) := by decide +kernel
theorem dX11_end_6 : decode cX11_end 6 = .ok (.getfield 119, 3) := by decide +kernel
theorem dX11_end_9 : decode cX11_end 9 = .ok (.if_icmp .ge 76, 3) := by decide +kernel
theorem dX11_end_12 : decode cX11_end 12 = .ok (.iload_n 2, 1) := by decide +kernel
theorem dX11_end_13 : decode cX11_end 13 = .ok (.ifCond .lt 30, 3) := by decide +kernel
theorem dX11_end_16 : decode cX11_end 16 = .ok (.iload_n 1, 1) := by decide +kernel
theorem dX11_end_17 : decode cX11_end 17 = .ok (.ifCond .eq 16, 3) := by decide +kernel
theorem dX11_end_20 : decode cX11_end 20 = .ok (.aload_n 0, 1) := by decide +kernel
theorem dX11_end_21 : decode cX11_end 21 = .ok (.getfield 32, 3) := by decide +kernel
theorem dX11_end_24 : decode cX11_end 24 = .ok (.iload_n 3, 1) := by decide +kernel
theorem dX11_end_25 : decode cX11_end 25 = .ok (.iaload, 1) := by decide +kernel
theorem dX11_end_26 : decode cX11_end 26 = .ok (.iload_n 2, 1) := by decide +kernel
theorem dX11_end_27 : decode cX11_end 27 = .ok (.if_icmp .le 20, 3) := by decide +kernel
theorem dX11_end_30 : decode cX11_end 30 = .ok (.goto 13, 3) := by decide +kernel
theorem dX11_end_33 : decode cX11_end 33 = .ok (.aload_n 0, 1) := by decide +kernel
theorem dX11_end_34 : decode cX11_end 34 = .ok (.getfield 32, 3) := by decide +kernel
theorem dX11_end_37 : decode cX11_end 37 = .ok (.iload_n 3, 1) := by decide +kernel
theorem dX11_end_38 : decode cX11_end 38 = .ok (.iaload, 1) := by decide +kernel
theorem dX11_end_39 : decode cX11_end 39 = .ok (.iload_n 2, 1) := by decide +kernel
theorem dX11_end_40 : decode cX11_end 40 = .ok (.if_icmp .ge 7, 3) := by decide +kernel
theorem dX11_end_43 : decode cX11_end 43 = .ok (.iconst 1, 1) := by decide +kernel
theorem dX11_end_44 : decode cX11_end 44 = .ok (.goto 4, 3) := by decide +kernel
theorem dX11_end_47 : decode cX11_end 47 = .ok (.iconst 0, 1) := by decide +kernel
theorem dX11_end_48 : decode cX11_end 48 = .ok (.istore 4, 2) := by decide +kernel
theorem dX11_end_50 : decode cX11_end 50 = .ok (.iload 4, 2) := by decide +kernel
theorem dX11_end_52 : decode cX11_end 52 = .ok (.ifCond .eq 25, 3) := by decide +kernel
theorem dX11_end_55 : decode cX11_end 55 = .ok (.aload_n 0, 1) := by decide +kernel
theorem dX11_end_56 : decode cX11_end 56 = .ok (.aload_n 0, 1) := by decide +kernel
theorem dX11_end_57 : decode cX11_end 57 = .ok (.getfield 32, 3) := by decide +kernel
theorem dX11_end_60 : decode cX11_end 60 = .ok (.iload_n 3, 1) := by decide +kernel
theorem dX11_end_61 : decode cX11_end 61 = .ok (.iaload, 1) := by decide +kernel
theorem dX11_end_62 : decode cX11_end 62 = .ok (.invokevirtual 67, 3) := by decide +kernel
theorem dX11_end_65 : decode cX11_end 65 = .ok (.ifCond .ne 12, 3) := by decide +kernel
theorem dX11_end_68 : decode cX11_end 68 = .ok (.aload_n 0, 1) := by decide +kernel
theorem dX11_end_69 : decode cX11_end 69 = .ok (.getfield 32, 3) := by decide +kernel
theorem dX11_end_72 : decode cX11_end 72 = .ok (.iload_n 3, 1) := by decide +kernel
theorem dX11_end_73 : decode cX11_end 73 = .ok (.iaload, 1) := by decide +kernel
theorem dX11_end_74 : decode cX11_end 74 = .ok (.goto 4, 3) := by decide +kernel
theorem dX11_end_77 : decode cX11_end 77 = .ok (.iload_n 2, 1) := by decide +kernel
theorem dX11_end_78 : decode cX11_end 78 = .ok (.istore_n 2, 1) := by decide +kernel
theorem dX11_end_79 : decode cX11_end 79 = .ok (.iinc 3 1, 3) := by decide +kernel
theorem dX11_end_82 : decode cX11_end 82 = .ok (.goto (-78), 3) := by decide +kernel
theorem dX11_end_85 : decode cX11_end 85 = .ok (.iload_n 2, 1) := by decide +kernel
theorem dX11_end_86 : decode cX11_end 86 = .ok (.ireturn, 1) := by decide +kernel
set_option maxRecDepth 20000 in
theorem ggX11_ends_X11_chooses : GoodIn wsX11_ends wsX11_chooses := goodIn_r _ [7, 8, 9, 10, 11, 12, 6, 13, 14, 15, 16, 17, 18, 19, 20, 21, 22, 23, 24, 25, 26, 27, 28, 29, 30, 31, 32, 33, 34, 35, 36, 37, 38, 39, 40, 41, 42, 43, 44, 45, 46, 47] (by decide +kernel) (by decide +kernel)
set_option maxRecDepth 20000 in
theorem gX11_ends_X11_chooses : GoodIn wsX11_ends (wsV RX11 67 RX11 yX11_chooses wsX11_chooses) := goodIn_app (goodIn_of _ (by decide +kernel)) ggX11_ends_X11_chooses
theorem dX11_ends_0 : decode cX11_ends 0 = .ok (.iconst 0, 1) := by decide +kernel
theorem dX11_ends_1 : decode cX11_ends 1 = .ok (.istore_n 1, 1) := by decide +kernel
theorem dX11_ends_2 : decode cX11_ends 2 = .ok (.iconst 0, 1) := by decide +kernel
theorem dX11_ends_3 : decode cX11_ends 3 = .ok (.istore_n 2, 1) := by decide +kernel
theorem dX11_ends_4 : decode cX11_ends 4 = .ok (.iload_n 2, 1) := by decide +kernel
theorem dX11_ends_5 : decode cX11_ends 5 = .ok (.aload_n 0, 1) := by decide +kernel
theorem dX11_ends_6 : decode cX11_ends 6 = .ok (.getfield 119, 3) := by decide +kernel
theorem dX11_ends_9 : decode cX11_ends 9 = .ok (.if_icmp .ge 30, 3) := by decide +kernel
theorem dX11_ends_12 : decode cX11_ends 12 = .ok (.iload_n 1, 1) := by decide +kernel
theorem dX11_ends_13 : decode cX11_ends 13 = .ok (.aload_n 0, 1) := by decide +kernel
theorem dX11_ends_14 : decode cX11_ends 14 = .ok (.aload_n 0, 1) := by decide +kernel
theorem dX11_ends_15 : decode cX11_ends 15 = .ok (.getfield 32, 3) := by decide +kernel
theorem dX11_ends_18 : decode cX11_ends 18 = .ok (.iload_n 2, 1) := by decide +kernel
theorem dX11_ends_19 : decode cX11_ends 19 = .ok (.iaload, 1) := by decide +kernel
theorem dX11_ends_20 : decode cX11_ends 20 = .ok (.invokevirtual 67, 3) := by decide +kernel
theorem dX11_ends_23 : decode cX11_ends 23 = .ok (.ifCond .eq 7, 3) := by decide +kernel
theorem dX11_ends_26 : decode cX11_ends 26 = .ok (.iconst 0, 1) := by decide +kernel
theorem dX11_ends_27 : decode cX11_ends 27 = .ok (.goto 4, 3) := by decide +kernel
theorem dX11_ends_30 : decode cX11_ends 30 = .ok (.iconst 1, 1) := by decide +kernel
theorem dX11_ends_31 : decode cX11_ends 31 = .ok (.iadd, 1) := by decide +kernel
theorem dX11_ends_32 : decode cX11_ends 32 = .ok (.istore_n 1, 1) := by decide +kernel
theorem dX11_ends_33 : decode cX11_ends 33 = .ok (.iinc 2 1, 3) := by decide +kernel
theorem dX11_ends_36 : decode cX11_ends 36 = .ok (.goto (-32), 3) := by decide +kernel
theorem dX11_ends_39 : decode cX11_ends 39 = .ok (.iload_n 1, 1) := by decide +kernel
theorem dX11_ends_40 : decode cX11_ends 40 = .ok (.ireturn, 1) := by decide +kernel
set_option maxRecDepth 20000 in
theorem ggX11_reached_X11_in : GoodIn wsX11_reached wsX11_in := goodIn_r _ [8] (by decide +kernel) (by decide +kernel)
set_option maxRecDepth 20000 in
theorem gX11_reached_X11_in : GoodIn wsX11_reached (va_wsS RX11 44 yX11_in wsX11_in) := goodIn_app (goodIn_of _ (by decide +kernel)) ggX11_reached_X11_in
set_option maxRecDepth 20000 in
theorem ggX11_reached_X11_reachesAll : GoodIn wsX11_reached wsX11_reachesAll := goodIn_r _ [12, 2, 13, 14, 15, 16, 17, 7, 18, 19, 20, 21, 22, 23, 24, 25, 26, 27, 28, 29, 30, 31, 32, 33, 34, 35, 36, 57, 58, 59, 60, 61, 62, 63, 64, 65, 66, 67, 68, 69, 70, 71, 72, 73, 74, 75, 76, 77, 78, 79, 80, 81, 82, 83] (by decide +kernel) (by decide +kernel)
set_option maxRecDepth 20000 in
theorem gX11_reached_X11_reachesAll : GoodIn wsX11_reached (wsV RX11 126 RX11 yX11_reachesAll wsX11_reachesAll) := goodIn_app (goodIn_of _ (by decide +kernel)) ggX11_reached_X11_reachesAll
set_option maxRecDepth 20000 in
theorem ggX11_reached_X11_ends : GoodIn wsX11_reached wsX11_ends := goodIn_r _ [40, 2, 14, 41, 42, 43, 7, 44, 45, 13, 46, 19, 20, 21, 22, 23, 24, 25, 26, 27, 28, 57, 58, 59, 60, 61, 62, 63, 64, 65, 66, 67, 68, 69, 70, 71, 72, 73, 74, 75, 76, 77, 78, 79, 80, 81, 82, 83] (by decide +kernel) (by decide +kernel)
set_option maxRecDepth 20000 in
theorem gX11_reached_X11_ends : GoodIn wsX11_reached (wsV RX11 129 RX11 yX11_ends wsX11_ends) := goodIn_app (goodIn_of _ (by decide +kernel)) ggX11_reached_X11_ends
set_option maxRecDepth 20000 in
theorem ggX11_reached_X11_end : GoodIn wsX11_reached wsX11_end := goodIn_r _ [50, 2, 14, 41, 42, 43, 7, 44, 45, 13, 46, 19, 20, 21, 22, 23, 24, 25, 26, 27, 28, 57, 58, 59, 60, 61, 62, 63, 64, 65, 66, 67, 68, 69, 70, 71, 72, 73, 74, 75, 76, 77, 78, 79, 80, 81, 82, 83] (by decide +kernel) (by decide +kernel)
set_option maxRecDepth 20000 in
theorem gX11_reached_X11_end : GoodIn wsX11_reached (wsV RX11 132 RX11 yX11_end wsX11_end) := goodIn_app (goodIn_of _ (by decide +kernel)) ggX11_reached_X11_end
set_option maxRecDepth 20000 in
theorem ggX11_reached_X11_length : GoodIn wsX11_reached wsX11_length := goodIn_r _ [21] (by decide +kernel) (by decide +kernel)
set_option maxRecDepth 20000 in
theorem gX11_reached_X11_length : GoodIn wsX11_reached (va_wsS RX11 35 yX11_length wsX11_length) := goodIn_app (goodIn_of _ (by decide +kernel)) ggX11_reached_X11_length
set_option maxRecDepth 20000 in
theorem ggX11_reached_X11_letterOf : GoodIn wsX11_reached wsX11_letterOf := goodIn_r _ [53, 4, 19, 20, 7, 21, 54, 55, 56] (by decide +kernel) (by decide +kernel)
set_option maxRecDepth 20000 in
theorem gX11_reached_X11_letterOf : GoodIn wsX11_reached (va_wsS RX11 100 yX11_letterOf wsX11_letterOf) := goodIn_app (goodIn_of _ (by decide +kernel)) ggX11_reached_X11_letterOf
theorem dX11_reached_0 : decode cX11_reached 0 = .ok (.iload_n 1, 1) := by decide +kernel
theorem dX11_reached_1 : decode cX11_reached 1 = .ok (.iconst 0, 1) := by decide +kernel
theorem dX11_reached_2 : decode cX11_reached 2 = .ok (.iconst 3, 1) := by decide +kernel
theorem dX11_reached_3 : decode cX11_reached 3 = .ok (.invokestatic 44, 3) := by decide +kernel
theorem dX11_reached_6 : decode cX11_reached 6 = .ok (.ifCond .ne 28, 3) := by decide +kernel
theorem dX11_reached_9 : decode cX11_reached 9 = .ok (.iload_n 1, 1) := by decide +kernel
theorem dX11_reached_10 : decode cX11_reached 10 = .ok (.bipush 10, 2) := by decide +kernel
theorem dX11_reached_12 : decode cX11_reached 12 = .ok (.bipush 21, 2) := by decide +kernel
theorem dX11_reached_14 : decode cX11_reached 14 = .ok (.invokestatic 44, 3) := by decide +kernel
theorem dX11_reached_17 : decode cX11_reached 17 = .ok (.ifCond .ne 17, 3) := by decide +kernel
theorem dX11_reached_20 : decode cX11_reached 20 = .ok (.iload_n 1, 1) := by decide +kernel
theorem dX11_reached_21 : decode cX11_reached 21 = .ok (.bipush 30, 2) := by decide +kernel
theorem dX11_reached_23 : decode cX11_reached 23 = .ok (.bipush 41, 2) := by decide +kernel
theorem dX11_reached_25 : decode cX11_reached 25 = .ok (.invokestatic 44, 3) := by decide +kernel
theorem dX11_reached_28 : decode cX11_reached 28 = .ok (.ifCond .ne 6, 3) := by decide +kernel
theorem dX11_reached_31 : decode cX11_reached 31 = .ok (.ldc 78, 2) := by decide +kernel
theorem dX11_reached_33 : decode cX11_reached 33 = .ok (.ireturn, 1) := by decide +kernel
theorem dX11_reached_34 : decode cX11_reached 34 = .ok (.aload_n 0, 1) := by decide +kernel
theorem dX11_reached_35 : decode cX11_reached 35 = .ok (.invokevirtual 126, 3) := by decide +kernel
theorem dX11_reached_38 : decode cX11_reached 38 = .ok (.aload_n 0, 1) := by decide +kernel
theorem dX11_reached_39 : decode cX11_reached 39 = .ok (.getfield 119, 3) := by decide +kernel
theorem dX11_reached_42 : decode cX11_reached 42 = .ok (.sipush 400, 3) := by decide +kernel
theorem dX11_reached_45 : decode cX11_reached 45 = .ok (.if_icmp .le 6, 3) := by decide +kernel
theorem dX11_reached_48 : decode cX11_reached 48 = .ok (.ldc 115, 2) := by decide +kernel
theorem dX11_reached_50 : decode cX11_reached 50 = .ok (.ireturn, 1) := by decide +kernel
theorem dX11_reached_51 : decode cX11_reached 51 = .ok (.iload_n 1, 1) := by decide +kernel
theorem dX11_reached_52 : decode cX11_reached 52 = .ok (.iconst 2, 1) := by decide +kernel
theorem dX11_reached_53 : decode cX11_reached 53 = .ok (.if_icmp .ge 19, 3) := by decide +kernel
theorem dX11_reached_56 : decode cX11_reached 56 = .ok (.iload_n 1, 1) := by decide +kernel
theorem dX11_reached_57 : decode cX11_reached 57 = .ok (.ifCond .ne 10, 3) := by decide +kernel
theorem dX11_reached_60 : decode cX11_reached 60 = .ok (.aload_n 0, 1) := by decide +kernel
theorem dX11_reached_61 : decode cX11_reached 61 = .ok (.getfield 119, 3) := by decide +kernel
theorem dX11_reached_64 : decode cX11_reached 64 = .ok (.goto 7, 3) := by decide +kernel
theorem dX11_reached_67 : decode cX11_reached 67 = .ok (.aload_n 0, 1) := by decide +kernel
theorem dX11_reached_68 : decode cX11_reached 68 = .ok (.invokevirtual 129, 3) := by decide +kernel
theorem dX11_reached_71 : decode cX11_reached 71 = .ok (.ireturn, 1) := by decide +kernel
theorem dX11_reached_72 : decode cX11_reached 72 = .ok (.aload_n 0, 1) := by decide +kernel
theorem dX11_reached_73 : decode cX11_reached 73 = .ok (.iload_n 1, 1) := by decide +kernel
theorem dX11_reached_74 : decode cX11_reached 74 = .ok (.iconst 3, 1) := by decide +kernel
theorem dX11_reached_75 : decode cX11_reached 75 = .ok (.if_icmp .eq 9, 3) := by decide +kernel
theorem dX11_reached_78 : decode cX11_reached 78 = .ok (.iload_n 1, 1) := by decide +kernel
theorem dX11_reached_79 : decode cX11_reached 79 = .ok (.bipush 30, 2) := by decide +kernel
theorem dX11_reached_81 : decode cX11_reached 81 = .ok (.if_icmp .lt 7, 3) := by decide +kernel
theorem dX11_reached_84 : decode cX11_reached 84 = .ok (.iconst 1, 1) := by decide +kernel
theorem dX11_reached_85 : decode cX11_reached 85 = .ok (.goto 4, 3) := by decide +kernel
theorem dX11_reached_88 : decode cX11_reached 88 = .ok (.iconst 0, 1) := by decide +kernel
theorem dX11_reached_89 : decode cX11_reached 89 = .ok (.invokevirtual 132, 3) := by decide +kernel
theorem dX11_reached_92 : decode cX11_reached 92 = .ok (.istore_n 2, 1) := by decide +kernel
theorem dX11_reached_93 : decode cX11_reached 93 = .ok (.iload_n 2, 1) := by decide +kernel
theorem dX11_reached_94 : decode cX11_reached 94 = .ok (.ifCond .ge 6, 3) := by decide +kernel
theorem dX11_reached_97 : decode cX11_reached 97 = .ok (.ldc 43, 2) := by decide +kernel
theorem dX11_reached_99 : decode cX11_reached 99 = .ok (.ireturn, 1) := by decide +kernel
theorem dX11_reached_100 : decode cX11_reached 100 = .ok (.iload_n 1, 1) := by decide +kernel
theorem dX11_reached_101 : decode cX11_reached 101 = .ok (.bipush 10, 2) := by decide +kernel
theorem dX11_reached_103 : decode cX11_reached 103 = .ok (.if_icmp .ge 10, 3) := by decide +kernel
theorem dX11_reached_106 : decode cX11_reached 106 = .ok (.iload_n 2, 1) := by decide +kernel
theorem dX11_reached_107 : decode cX11_reached 107 = .ok (.invokestatic 35, 3) := by decide +kernel
theorem dX11_reached_110 : decode cX11_reached 110 = .ok (.goto 24, 3) := by decide +kernel
theorem dX11_reached_113 : decode cX11_reached 113 = .ok (.iload_n 2, 1) := by decide +kernel
theorem dX11_reached_114 : decode cX11_reached 114 = .ok (.iload_n 1, 1) := by decide +kernel
theorem dX11_reached_115 : decode cX11_reached 115 = .ok (.bipush 30, 2) := by decide +kernel
theorem dX11_reached_117 : decode cX11_reached 117 = .ok (.if_icmp .ge 10, 3) := by decide +kernel
theorem dX11_reached_120 : decode cX11_reached 120 = .ok (.iload_n 1, 1) := by decide +kernel
theorem dX11_reached_121 : decode cX11_reached 121 = .ok (.bipush 10, 2) := by decide +kernel
theorem dX11_reached_123 : decode cX11_reached 123 = .ok (.isub, 1) := by decide +kernel
theorem dX11_reached_124 : decode cX11_reached 124 = .ok (.goto 7, 3) := by decide +kernel
theorem dX11_reached_127 : decode cX11_reached 127 = .ok (.iload_n 1, 1) := by decide +kernel
theorem dX11_reached_128 : decode cX11_reached 128 = .ok (.bipush 30, 2) := by decide +kernel
theorem dX11_reached_130 : decode cX11_reached 130 = .ok (.isub, 1) := by decide +kernel
theorem dX11_reached_131 : decode cX11_reached 131 = .ok (.invokestatic 100, 3) := by decide +kernel
theorem dX11_reached_134 : decode cX11_reached 134 = .ok (.ireturn, 1) := by decide +kernel
set_option maxRecDepth 20000 in
theorem ggX11_storeOf_X11_in : GoodIn wsX11_storeOf wsX11_in := goodIn_r _ [7] (by decide +kernel) (by decide +kernel)
set_option maxRecDepth 20000 in
theorem gX11_storeOf_X11_in : GoodIn wsX11_storeOf (va_wsS RX11 44 yX11_in wsX11_in) := goodIn_app (goodIn_of _ (by decide +kernel)) ggX11_storeOf_X11_in
set_option maxRecDepth 20000 in
theorem ggX11_storeOf_X11_length : GoodIn wsX11_storeOf wsX11_length := goodIn_r _ [10] (by decide +kernel) (by decide +kernel)
set_option maxRecDepth 20000 in
theorem gX11_storeOf_X11_length : GoodIn wsX11_storeOf (va_wsS RX11 35 yX11_length wsX11_length) := goodIn_app (goodIn_of _ (by decide +kernel)) ggX11_storeOf_X11_length
set_option maxRecDepth 20000 in
theorem ggX11_storeOf_X11_letterOf : GoodIn wsX11_storeOf wsX11_letterOf := goodIn_r _ [13, 3, 8, 9, 6, 10, 14, 15, 16] (by decide +kernel) (by decide +kernel)
set_option maxRecDepth 20000 in
theorem gX11_storeOf_X11_letterOf : GoodIn wsX11_storeOf (va_wsS RX11 100 yX11_letterOf wsX11_letterOf) := goodIn_app (goodIn_of _ (by decide +kernel)) ggX11_storeOf_X11_letterOf
theorem dX11_storeOf_0 : decode cX11_storeOf 0 = .ok (.iload_n 1, 1) := by decide +kernel
theorem dX11_storeOf_1 : decode cX11_storeOf 1 = .ok (.ifCond .lt 34, 3) := by decide +kernel
theorem dX11_storeOf_4 : decode cX11_storeOf 4 = .ok (.iload_n 2, 1) := by decide +kernel
theorem dX11_storeOf_5 : decode cX11_storeOf 5 = .ok (.iconst 0, 1) := by decide +kernel
theorem dX11_storeOf_6 : decode cX11_storeOf 6 = .ok (.iconst 1, 1) := by decide +kernel
theorem dX11_storeOf_7 : decode cX11_storeOf 7 = .ok (.invokestatic 44, 3) := by decide +kernel
theorem dX11_storeOf_10 : decode cX11_storeOf 10 = .ok (.ifCond .ne 28, 3) := by decide +kernel
theorem dX11_storeOf_13 : decode cX11_storeOf 13 = .ok (.iload_n 2, 1) := by decide +kernel
theorem dX11_storeOf_14 : decode cX11_storeOf 14 = .ok (.bipush 10, 2) := by decide +kernel
theorem dX11_storeOf_16 : decode cX11_storeOf 16 = .ok (.bipush 21, 2) := by decide +kernel
theorem dX11_storeOf_18 : decode cX11_storeOf 18 = .ok (.invokestatic 44, 3) := by decide +kernel
theorem dX11_storeOf_21 : decode cX11_storeOf 21 = .ok (.ifCond .ne 17, 3) := by decide +kernel
theorem dX11_storeOf_24 : decode cX11_storeOf 24 = .ok (.iload_n 2, 1) := by decide +kernel
theorem dX11_storeOf_25 : decode cX11_storeOf 25 = .ok (.bipush 30, 2) := by decide +kernel
theorem dX11_storeOf_27 : decode cX11_storeOf 27 = .ok (.bipush 41, 2) := by decide +kernel
theorem dX11_storeOf_29 : decode cX11_storeOf 29 = .ok (.invokestatic 44, 3) := by decide +kernel
theorem dX11_storeOf_32 : decode cX11_storeOf 32 = .ok (.ifCond .ne 6, 3) := by decide +kernel
theorem dX11_storeOf_35 : decode cX11_storeOf 35 = .ok (.ldc 78, 2) := by decide +kernel
theorem dX11_storeOf_37 : decode cX11_storeOf 37 = .ok (.ireturn, 1) := by decide +kernel
theorem dX11_storeOf_38 : decode cX11_storeOf 38 = .ok (.iload_n 1, 1) := by decide +kernel
theorem dX11_storeOf_39 : decode cX11_storeOf 39 = .ok (.aload_n 0, 1) := by decide +kernel
theorem dX11_storeOf_40 : decode cX11_storeOf 40 = .ok (.getfield 7, 3) := by decide +kernel
theorem dX11_storeOf_43 : decode cX11_storeOf 43 = .ok (.iconst 3, 1) := by decide +kernel
theorem dX11_storeOf_44 : decode cX11_storeOf 44 = .ok (.iaload, 1) := by decide +kernel
theorem dX11_storeOf_45 : decode cX11_storeOf 45 = .ok (.if_icmp .lt 6, 3) := by decide +kernel
theorem dX11_storeOf_48 : decode cX11_storeOf 48 = .ok (.ldc 43, 2) := by decide +kernel
theorem dX11_storeOf_50 : decode cX11_storeOf 50 = .ok (.ireturn, 1) := by decide +kernel
theorem dX11_storeOf_51 : decode cX11_storeOf 51 = .ok (.aload_n 0, 1) := by decide +kernel
theorem dX11_storeOf_52 : decode cX11_storeOf 52 = .ok (.getfield 7, 3) := by decide +kernel
theorem dX11_storeOf_55 : decode cX11_storeOf 55 = .ok (.bipush 36, 2) := by decide +kernel
theorem dX11_storeOf_57 : decode cX11_storeOf 57 = .ok (.iconst 2, 1) := by decide +kernel
theorem dX11_storeOf_58 : decode cX11_storeOf 58 = .ok (.iload_n 1, 1) := by decide +kernel
theorem dX11_storeOf_59 : decode cX11_storeOf 59 = .ok (.imul, 1) := by decide +kernel
theorem dX11_storeOf_60 : decode cX11_storeOf 60 = .ok (.iadd, 1) := by decide +kernel
theorem dX11_storeOf_61 : decode cX11_storeOf 61 = .ok (.iload_n 2, 1) := by decide +kernel
theorem dX11_storeOf_62 : decode cX11_storeOf 62 = .ok (.ifCond .eq 14, 3) := by decide +kernel
theorem dX11_storeOf_65 : decode cX11_storeOf 65 = .ok (.iload_n 2, 1) := by decide +kernel
theorem dX11_storeOf_66 : decode cX11_storeOf 66 = .ok (.bipush 10, 2) := by decide +kernel
theorem dX11_storeOf_68 : decode cX11_storeOf 68 = .ok (.bipush 21, 2) := by decide +kernel
theorem dX11_storeOf_70 : decode cX11_storeOf 70 = .ok (.invokestatic 44, 3) := by decide +kernel
theorem dX11_storeOf_73 : decode cX11_storeOf 73 = .ok (.ifCond .eq 7, 3) := by decide +kernel
theorem dX11_storeOf_76 : decode cX11_storeOf 76 = .ok (.iconst 0, 1) := by decide +kernel
theorem dX11_storeOf_77 : decode cX11_storeOf 77 = .ok (.goto 4, 3) := by decide +kernel
theorem dX11_storeOf_80 : decode cX11_storeOf 80 = .ok (.iconst 1, 1) := by decide +kernel
theorem dX11_storeOf_81 : decode cX11_storeOf 81 = .ok (.iadd, 1) := by decide +kernel
theorem dX11_storeOf_82 : decode cX11_storeOf 82 = .ok (.iaload, 1) := by decide +kernel
theorem dX11_storeOf_83 : decode cX11_storeOf 83 = .ok (.istore_n 3, 1) := by decide +kernel
theorem dX11_storeOf_84 : decode cX11_storeOf 84 = .ok (.iload_n 2, 1) := by decide +kernel
theorem dX11_storeOf_85 : decode cX11_storeOf 85 = .ok (.bipush 10, 2) := by decide +kernel
theorem dX11_storeOf_87 : decode cX11_storeOf 87 = .ok (.if_icmp .ge 10, 3) := by decide +kernel
theorem dX11_storeOf_90 : decode cX11_storeOf 90 = .ok (.iload_n 3, 1) := by decide +kernel
theorem dX11_storeOf_91 : decode cX11_storeOf 91 = .ok (.invokestatic 35, 3) := by decide +kernel
theorem dX11_storeOf_94 : decode cX11_storeOf 94 = .ok (.goto 24, 3) := by decide +kernel
theorem dX11_storeOf_97 : decode cX11_storeOf 97 = .ok (.iload_n 3, 1) := by decide +kernel
theorem dX11_storeOf_98 : decode cX11_storeOf 98 = .ok (.iload_n 2, 1) := by decide +kernel
theorem dX11_storeOf_99 : decode cX11_storeOf 99 = .ok (.bipush 30, 2) := by decide +kernel
theorem dX11_storeOf_101 : decode cX11_storeOf 101 = .ok (.if_icmp .ge 10, 3) := by decide +kernel
theorem dX11_storeOf_104 : decode cX11_storeOf 104 = .ok (.iload_n 2, 1) := by decide +kernel
theorem dX11_storeOf_105 : decode cX11_storeOf 105 = .ok (.bipush 10, 2) := by decide +kernel
theorem dX11_storeOf_107 : decode cX11_storeOf 107 = .ok (.isub, 1) := by decide +kernel
theorem dX11_storeOf_108 : decode cX11_storeOf 108 = .ok (.goto 7, 3) := by decide +kernel
theorem dX11_storeOf_111 : decode cX11_storeOf 111 = .ok (.iload_n 2, 1) := by decide +kernel
theorem dX11_storeOf_112 : decode cX11_storeOf 112 = .ok (.bipush 30, 2) := by decide +kernel
theorem dX11_storeOf_114 : decode cX11_storeOf 114 = .ok (.isub, 1) := by decide +kernel
theorem dX11_storeOf_115 : decode cX11_storeOf 115 = .ok (.invokestatic 100, 3) := by decide +kernel
theorem dX11_storeOf_118 : decode cX11_storeOf 118 = .ok (.ireturn, 1) := by decide +kernel
set_option maxRecDepth 20000 in
theorem ggX11_isOverlap_X11_left : GoodIn wsX11_isOverlap wsX11_left := goodIn_r _ [5, 6, 13, 14, 15, 16, 17, 18, 19, 20, 21, 22, 23, 24, 25, 26, 27, 28, 29, 30, 31, 32, 33, 34, 35, 36, 37, 38, 39] (by decide +kernel) (by decide +kernel)
set_option maxRecDepth 20000 in
theorem gX11_isOverlap_X11_left : GoodIn wsX11_isOverlap (wsV RX11 48 RX11 yX11_left wsX11_left) := goodIn_app (goodIn_of _ (by decide +kernel)) ggX11_isOverlap_X11_left
set_option maxRecDepth 20000 in
theorem ggX11_isOverlap_X11_length : GoodIn wsX11_isOverlap wsX11_length := goodIn_r _ [9] (by decide +kernel) (by decide +kernel)
set_option maxRecDepth 20000 in
theorem gX11_isOverlap_X11_length : GoodIn wsX11_isOverlap (va_wsS RX11 35 yX11_length wsX11_length) := goodIn_app (goodIn_of _ (by decide +kernel)) ggX11_isOverlap_X11_length
set_option maxRecDepth 20000 in
theorem ggX11_isOverlap_X11_letter : GoodIn wsX11_isOverlap wsX11_letter := goodIn_r _ [12, 7, 8, 4, 9] (by decide +kernel) (by decide +kernel)
set_option maxRecDepth 20000 in
theorem gX11_isOverlap_X11_letter : GoodIn wsX11_isOverlap (va_wsS RX11 39 yX11_letter wsX11_letter) := goodIn_app (goodIn_of _ (by decide +kernel)) ggX11_isOverlap_X11_letter
theorem dX11_isOverlap_0 : decode cX11_isOverlap 0 = .ok (.aload_n 0, 1) := by decide +kernel
theorem dX11_isOverlap_1 : decode cX11_isOverlap 1 = .ok (.iload_n 1, 1) := by decide +kernel
theorem dX11_isOverlap_2 : decode cX11_isOverlap 2 = .ok (.invokevirtual 48, 3) := by decide +kernel
theorem dX11_isOverlap_5 : decode cX11_isOverlap 5 = .ok (.invokestatic 35, 3) := by decide +kernel
theorem dX11_isOverlap_8 : decode cX11_isOverlap 8 = .ok (.istore 4, 2) := by decide +kernel
theorem dX11_isOverlap_10 : decode cX11_isOverlap 10 = .ok (.aload_n 0, 1) := by decide +kernel
theorem dX11_isOverlap_11 : decode cX11_isOverlap 11 = .ok (.iload_n 2, 1) := by decide +kernel
theorem dX11_isOverlap_12 : decode cX11_isOverlap 12 = .ok (.invokevirtual 48, 3) := by decide +kernel
theorem dX11_isOverlap_15 : decode cX11_isOverlap 15 = .ok (.invokestatic 35, 3) := by decide +kernel
theorem dX11_isOverlap_18 : decode cX11_isOverlap 18 = .ok (.istore 5, 2) := by decide +kernel
theorem dX11_isOverlap_20 : decode cX11_isOverlap 20 = .ok (.iload_n 1, 1) := by decide +kernel
theorem dX11_isOverlap_21 : decode cX11_isOverlap 21 = .ok (.iload_n 2, 1) := by decide +kernel
theorem dX11_isOverlap_22 : decode cX11_isOverlap 22 = .ok (.if_icmp .eq 16, 3) := by decide +kernel
theorem dX11_isOverlap_25 : decode cX11_isOverlap 25 = .ok (.iload_n 3, 1) := by decide +kernel
theorem dX11_isOverlap_26 : decode cX11_isOverlap 26 = .ok (.iload 5, 2) := by decide +kernel
theorem dX11_isOverlap_28 : decode cX11_isOverlap 28 = .ok (.iadd, 1) := by decide +kernel
theorem dX11_isOverlap_29 : decode cX11_isOverlap 29 = .ok (.iload 4, 2) := by decide +kernel
theorem dX11_isOverlap_31 : decode cX11_isOverlap 31 = .ok (.if_icmp .gt 7, 3) := by decide +kernel
theorem dX11_isOverlap_34 : decode cX11_isOverlap 34 = .ok (.iconst 1, 1) := by decide +kernel
theorem dX11_isOverlap_35 : decode cX11_isOverlap 35 = .ok (.goto 4, 3) := by decide +kernel
theorem dX11_isOverlap_38 : decode cX11_isOverlap 38 = .ok (.iconst 0, 1) := by decide +kernel
theorem dX11_isOverlap_39 : decode cX11_isOverlap 39 = .ok (.istore 6, 2) := by decide +kernel
theorem dX11_isOverlap_41 : decode cX11_isOverlap 41 = .ok (.iload_n 3, 1) := by decide +kernel
theorem dX11_isOverlap_42 : decode cX11_isOverlap 42 = .ok (.ifCond .le 22, 3) := by decide +kernel
theorem dX11_isOverlap_45 : decode cX11_isOverlap 45 = .ok (.iload_n 3, 1) := by decide +kernel
theorem dX11_isOverlap_46 : decode cX11_isOverlap 46 = .ok (.iload 4, 2) := by decide +kernel
theorem dX11_isOverlap_48 : decode cX11_isOverlap 48 = .ok (.if_icmp .ge 16, 3) := by decide +kernel
theorem dX11_isOverlap_51 : decode cX11_isOverlap 51 = .ok (.iload_n 3, 1) := by decide +kernel
theorem dX11_isOverlap_52 : decode cX11_isOverlap 52 = .ok (.iload 5, 2) := by decide +kernel
theorem dX11_isOverlap_54 : decode cX11_isOverlap 54 = .ok (.iadd, 1) := by decide +kernel
theorem dX11_isOverlap_55 : decode cX11_isOverlap 55 = .ok (.iload 4, 2) := by decide +kernel
theorem dX11_isOverlap_57 : decode cX11_isOverlap 57 = .ok (.if_icmp .lt 7, 3) := by decide +kernel
theorem dX11_isOverlap_60 : decode cX11_isOverlap 60 = .ok (.iconst 1, 1) := by decide +kernel
theorem dX11_isOverlap_61 : decode cX11_isOverlap 61 = .ok (.goto 4, 3) := by decide +kernel
theorem dX11_isOverlap_64 : decode cX11_isOverlap 64 = .ok (.iconst 0, 1) := by decide +kernel
theorem dX11_isOverlap_65 : decode cX11_isOverlap 65 = .ok (.istore 7, 2) := by decide +kernel
theorem dX11_isOverlap_67 : decode cX11_isOverlap 67 = .ok (.iload 6, 2) := by decide +kernel
theorem dX11_isOverlap_69 : decode cX11_isOverlap 69 = .ok (.ifCond .ne 8, 3) := by decide +kernel
