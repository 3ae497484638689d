theorem dX11_overlapOf_16 : decode cX11_overlapOf 16 = .ok (.iconst (-1), 1) := by decide +kernel
theorem dX11_overlapOf_17 : decode cX11_overlapOf 17 = .ok (.invokevirtual 166, 3) := by decide +kernel
theorem dX11_overlapOf_20 : decode cX11_overlapOf 20 = .ok (.iload_n 1, 1) := by decide +kernel
theorem dX11_overlapOf_21 : decode cX11_overlapOf 21 = .ok (.if_icmp .gt 6, 3) := by decide +kernel
theorem dX11_overlapOf_24 : decode cX11_overlapOf 24 = .ok (.ldc 78, 2) := by decide +kernel
theorem dX11_overlapOf_26 : decode cX11_overlapOf 26 = .ok (.ireturn, 1) := by decide +kernel
theorem dX11_overlapOf_27 : decode cX11_overlapOf 27 = .ok (.aload_n 0, 1) := by decide +kernel
theorem dX11_overlapOf_28 : decode cX11_overlapOf 28 = .ok (.aload_n 0, 1) := by decide +kernel
theorem dX11_overlapOf_29 : decode cX11_overlapOf 29 = .ok (.getfield 136, 3) := by decide +kernel
theorem dX11_overlapOf_32 : decode cX11_overlapOf 32 = .ok (.invokevirtual 48, 3) := by decide +kernel
theorem dX11_overlapOf_35 : decode cX11_overlapOf 35 = .ok (.invokestatic 35, 3) := by decide +kernel
theorem dX11_overlapOf_38 : decode cX11_overlapOf 38 = .ok (.istore_n 3, 1) := by decide +kernel
theorem dX11_overlapOf_39 : decode cX11_overlapOf 39 = .ok (.aload_n 0, 1) := by decide +kernel
theorem dX11_overlapOf_40 : decode cX11_overlapOf 40 = .ok (.getfield 142, 3) := by decide +kernel
theorem dX11_overlapOf_43 : decode cX11_overlapOf 43 = .ok (.aload_n 0, 1) := by decide +kernel
theorem dX11_overlapOf_44 : decode cX11_overlapOf 44 = .ok (.aload_n 0, 1) := by decide +kernel
theorem dX11_overlapOf_45 : decode cX11_overlapOf 45 = .ok (.getfield 139, 3) := by decide +kernel
theorem dX11_overlapOf_48 : decode cX11_overlapOf 48 = .ok (.invokevirtual 48, 3) := by decide +kernel
theorem dX11_overlapOf_51 : decode cX11_overlapOf 51 = .ok (.invokestatic 35, 3) := by decide +kernel
theorem dX11_overlapOf_54 : decode cX11_overlapOf 54 = .ok (.iadd, 1) := by decide +kernel
theorem dX11_overlapOf_55 : decode cX11_overlapOf 55 = .ok (.istore 4, 2) := by decide +kernel
theorem dX11_overlapOf_57 : decode cX11_overlapOf 57 = .ok (.iload_n 2, 1) := by decide +kernel
theorem dX11_overlapOf_58 : decode cX11_overlapOf 58 = .ok (.tableswitch 79 0 5 #[38, 43, 48, 53, 66, 71], 38) := by decide +kernel
theorem dX11_overlapOf_96 : decode cX11_overlapOf 96 = .ok (.aload_n 0, 1) := by decide +kernel
theorem dX11_overlapOf_97 : decode cX11_overlapOf 97 = .ok (.getfield 136, 3) := by decide +kernel
theorem dX11_overlapOf_100 : decode cX11_overlapOf 100 = .ok (.ireturn, 1) := by decide +kernel
theorem dX11_overlapOf_101 : decode cX11_overlapOf 101 = .ok (.aload_n 0, 1) := by decide +kernel
theorem dX11_overlapOf_102 : decode cX11_overlapOf 102 = .ok (.getfield 139, 3) := by decide +kernel
theorem dX11_overlapOf_105 : decode cX11_overlapOf 105 = .ok (.ireturn, 1) := by decide +kernel
theorem dX11_overlapOf_106 : decode cX11_overlapOf 106 = .ok (.aload_n 0, 1) := by decide +kernel
theorem dX11_overlapOf_107 : decode cX11_overlapOf 107 = .ok (.getfield 142, 3) := by decide +kernel
theorem dX11_overlapOf_110 : decode cX11_overlapOf 110 = .ok (.ireturn, 1) := by decide +kernel
theorem dX11_overlapOf_111 : decode cX11_overlapOf 111 = .ok (.iload_n 3, 1) := by decide +kernel
theorem dX11_overlapOf_112 : decode cX11_overlapOf 112 = .ok (.iload 4, 2) := by decide +kernel
theorem dX11_overlapOf_114 : decode cX11_overlapOf 114 = .ok (.if_icmp .le 7, 3) := by decide +kernel
theorem dX11_overlapOf_117 : decode cX11_overlapOf 117 = .ok (.iload_n 3, 1) := by decide +kernel
theorem dX11_overlapOf_118 : decode cX11_overlapOf 118 = .ok (.goto 5, 3) := by decide +kernel
theorem dX11_overlapOf_121 : decode cX11_overlapOf 121 = .ok (.iload 4, 2) := by decide +kernel
theorem dX11_overlapOf_123 : decode cX11_overlapOf 123 = .ok (.ireturn, 1) := by decide +kernel
theorem dX11_overlapOf_124 : decode cX11_overlapOf 124 = .ok (.aload_n 0, 1) := by decide +kernel
theorem dX11_overlapOf_125 : decode cX11_overlapOf 125 = .ok (.invokevirtual 163, 3) := by decide +kernel
theorem dX11_overlapOf_128 : decode cX11_overlapOf 128 = .ok (.ireturn, 1) := by decide +kernel
theorem dX11_overlapOf_129 : decode cX11_overlapOf 129 = .ok (.aload_n 0, 1) := by decide +kernel
theorem dX11_overlapOf_130 : decode cX11_overlapOf 130 = .ok (.getfield 145, 3) := by decide +kernel
theorem dX11_overlapOf_133 : decode cX11_overlapOf 133 = .ok (.invokestatic 35, 3) := by decide +kernel
theorem dX11_overlapOf_136 : decode cX11_overlapOf 136 = .ok (.ireturn, 1) := by decide +kernel
theorem dX11_overlapOf_137 : decode cX11_overlapOf 137 = .ok (.aload_n 0, 1) := by decide +kernel
theorem dX11_overlapOf_138 : decode cX11_overlapOf 138 = .ok (.getfield 148, 3) := by decide +kernel
theorem dX11_overlapOf_141 : decode cX11_overlapOf 141 = .ok (.invokestatic 35, 3) := by decide +kernel
theorem dX11_overlapOf_144 : decode cX11_overlapOf 144 = .ok (.ireturn, 1) := by decide +kernel
set_option maxRecDepth 20000 in
theorem ggX11_completes_X11_in : GoodIn wsX11_completes wsX11_in := goodIn_r _ [9] (by decide +kernel) (by decide +kernel)
set_option maxRecDepth 20000 in
theorem gX11_completes_X11_in : GoodIn wsX11_completes (va_wsS RX11 44 yX11_in wsX11_in) := goodIn_app (goodIn_of _ (by decide +kernel)) ggX11_completes_X11_in
set_option maxRecDepth 20000 in
theorem ggX11_completes_X11_finds : GoodIn wsX11_completes wsX11_finds := goodIn_r _ [13, 4, 14, 15, 16, 8, 17, 18, 19, 20, 21, 22, 23, 24, 25, 26, 27, 28, 29, 30, 31, 32, 33, 34, 35, 36, 37, 38, 39, 40, 41, 42, 43, 44, 45, 46, 47, 48, 49, 50, 2, 3, 51, 52, 53, 54, 55, 56, 57, 58, 59, 60, 61, 62, 63, 64, 65, 70, 71, 72, 73, 74, 75, 76, 77, 78, 79, 80, 81, 82, 83, 84, 85, 86, 87, 88, 89, 90, 91, 92, 93, 94, 95, 96] (by decide +kernel) (by decide +kernel)
set_option maxRecDepth 20000 in
theorem gX11_completes_X11_finds : GoodIn wsX11_completes (wsV RX11 166 RX11 yX11_finds wsX11_finds) := goodIn_app (goodIn_of _ (by decide +kernel)) ggX11_completes_X11_finds
set_option maxRecDepth 20000 in
theorem ggX11_completes_X11_length : GoodIn wsX11_completes wsX11_length := goodIn_r _ [24] (by decide +kernel) (by decide +kernel)
set_option maxRecDepth 20000 in
theorem gX11_completes_X11_length : GoodIn wsX11_completes (va_wsS RX11 35 yX11_length wsX11_length) := goodIn_app (goodIn_of _ (by decide +kernel)) ggX11_completes_X11_length
set_option maxRecDepth 20000 in
theorem ggX11_completes_X11_adds : GoodIn wsX11_completes wsX11_adds := goodIn_r _ [69, 4, 70, 71, 72, 73, 74, 75, 76, 77, 78, 79, 80, 81, 82, 83, 84, 85, 86, 87, 88, 89, 90, 91, 92, 93, 94, 95, 96] (by decide +kernel) (by decide +kernel)
set_option maxRecDepth 20000 in
theorem gX11_completes_X11_adds : GoodIn wsX11_completes (wsV RX11 169 RX11 yX11_adds wsX11_adds) := goodIn_app (goodIn_of _ (by decide +kernel)) ggX11_completes_X11_adds
theorem dX11_completes_0 : decode cX11_completes 0 = .ok (.iload_n 1, 1) := by decide +kernel
theorem dX11_completes_1 : decode cX11_completes 1 = .ok (.iconst 1, 1) := by decide +kernel
theorem dX11_completes_2 : decode cX11_completes 2 = .ok (.bipush 10, 2) := by decide +kernel
theorem dX11_completes_4 : decode cX11_completes 4 = .ok (.invokestatic 44, 3) := by decide +kernel
theorem dX11_completes_7 : decode cX11_completes 7 = .ok (.ifCond .ne 6, 3) := by decide +kernel
theorem dX11_completes_10 : decode cX11_completes 10 = .ok (.ldc 78, 2) := by decide +kernel
theorem dX11_completes_12 : decode cX11_completes 12 = .ok (.ireturn, 1) := by decide +kernel
theorem dX11_completes_13 : decode cX11_completes 13 = .ok (.iconst 0, 1) := by decide +kernel
theorem dX11_completes_14 : decode cX11_completes 14 = .ok (.istore_n 2, 1) := by decide +kernel
theorem dX11_completes_15 : decode cX11_completes 15 = .ok (.iload_n 2, 1) := by decide +kernel
theorem dX11_completes_16 : decode cX11_completes 16 = .ok (.iload_n 1, 1) := by decide +kernel
theorem dX11_completes_17 : decode cX11_completes 17 = .ok (.if_icmp .ge 90, 3) := by decide +kernel
theorem dX11_completes_20 : decode cX11_completes 20 = .ok (.aload_n 0, 1) := by decide +kernel
theorem dX11_completes_21 : decode cX11_completes 21 = .ok (.iconst 0, 1) := by decide +kernel
theorem dX11_completes_22 : decode cX11_completes 22 = .ok (.iconst 1, 1) := by decide +kernel
theorem dX11_completes_23 : decode cX11_completes 23 = .ok (.invokevirtual 166, 3) := by decide +kernel
theorem dX11_completes_26 : decode cX11_completes 26 = .ok (.ifCond .le 81, 3) := by decide +kernel
theorem dX11_completes_29 : decode cX11_completes 29 = .ok (.aload_n 0, 1) := by decide +kernel
theorem dX11_completes_30 : decode cX11_completes 30 = .ok (.getfield 151, 3) := by decide +kernel
theorem dX11_completes_33 : decode cX11_completes 33 = .ok (.aload_n 0, 1) := by decide +kernel
theorem dX11_completes_34 : decode cX11_completes 34 = .ok (.getfield 154, 3) := by decide +kernel
theorem dX11_completes_37 : decode cX11_completes 37 = .ok (.if_icmp .le 10, 3) := by decide +kernel
theorem dX11_completes_40 : decode cX11_completes 40 = .ok (.aload_n 0, 1) := by decide +kernel
theorem dX11_completes_41 : decode cX11_completes 41 = .ok (.getfield 151, 3) := by decide +kernel
theorem dX11_completes_44 : decode cX11_completes 44 = .ok (.goto 7, 3) := by decide +kernel
theorem dX11_completes_47 : decode cX11_completes 47 = .ok (.aload_n 0, 1) := by decide +kernel
theorem dX11_completes_48 : decode cX11_completes 48 = .ok (.getfield 154, 3) := by decide +kernel
theorem dX11_completes_51 : decode cX11_completes 51 = .ok (.istore_n 3, 1) := by decide +kernel
theorem dX11_completes_52 : decode cX11_completes 52 = .ok (.aload_n 0, 1) := by decide +kernel
theorem dX11_completes_53 : decode cX11_completes 53 = .ok (.getfield 7, 3) := by decide +kernel
theorem dX11_completes_56 : decode cX11_completes 56 = .ok (.iconst 1, 1) := by decide +kernel
theorem dX11_completes_57 : decode cX11_completes 57 = .ok (.iaload, 1) := by decide +kernel
theorem dX11_completes_58 : decode cX11_completes 58 = .ok (.bipush 10, 2) := by decide +kernel
theorem dX11_completes_60 : decode cX11_completes 60 = .ok (.if_icmp .eq 11, 3) := by decide +kernel
theorem dX11_completes_63 : decode cX11_completes 63 = .ok (.iload_n 3, 1) := by decide +kernel
theorem dX11_completes_64 : decode cX11_completes 64 = .ok (.invokestatic 35, 3) := by decide +kernel
theorem dX11_completes_67 : decode cX11_completes 67 = .ok (.iconst 4, 1) := by decide +kernel
theorem dX11_completes_68 : decode cX11_completes 68 = .ok (.if_icmp .le 6, 3) := by decide +kernel
theorem dX11_completes_71 : decode cX11_completes 71 = .ok (.ldc 115, 2) := by decide +kernel
theorem dX11_completes_73 : decode cX11_completes 73 = .ok (.ireturn, 1) := by decide +kernel
theorem dX11_completes_74 : decode cX11_completes 74 = .ok (.aload_n 0, 1) := by decide +kernel
theorem dX11_completes_75 : decode cX11_completes 75 = .ok (.iload_n 3, 1) := by decide +kernel
theorem dX11_completes_76 : decode cX11_completes 76 = .ok (.aload_n 0, 1) := by decide +kernel
theorem dX11_completes_77 : decode cX11_completes 77 = .ok (.getfield 151, 3) := by decide +kernel
theorem dX11_completes_80 : decode cX11_completes 80 = .ok (.aload_n 0, 1) := by decide +kernel
theorem dX11_completes_81 : decode cX11_completes 81 = .ok (.getfield 154, 3) := by decide +kernel
theorem dX11_completes_84 : decode cX11_completes 84 = .ok (.if_icmp .le 10, 3) := by decide +kernel
theorem dX11_completes_87 : decode cX11_completes 87 = .ok (.aload_n 0, 1) := by decide +kernel
theorem dX11_completes_88 : decode cX11_completes 88 = .ok (.getfield 154, 3) := by decide +kernel
theorem dX11_completes_91 : decode cX11_completes 91 = .ok (.goto 7, 3) := by decide +kernel
theorem dX11_completes_94 : decode cX11_completes 94 = .ok (.aload_n 0, 1) := by decide +kernel
theorem dX11_completes_95 : decode cX11_completes 95 = .ok (.getfield 151, 3) := by decide +kernel
theorem dX11_completes_98 : decode cX11_completes 98 = .ok (.invokevirtual 169, 3) := by decide +kernel
theorem dX11_completes_101 : decode cX11_completes 101 = .ok (.iinc 2 1, 3) := by decide +kernel
theorem dX11_completes_104 : decode cX11_completes 104 = .ok (.goto (-89), 3) := by decide +kernel
theorem dX11_completes_107 : decode cX11_completes 107 = .ok (.iload_n 2, 1) := by decide +kernel
theorem dX11_completes_108 : decode cX11_completes 108 = .ok (.ireturn, 1) := by decide +kernel
set_option maxRecDepth 20000 in
theorem ggX11_complete_X11_keeps : GoodIn wsX11_complete wsX11_keeps := goodIn_r _ [7, 2, 1, 85, 86, 87, 88, 89, 90, 91, 92, 93, 94, 95, 96, 97, 98, 99, 100, 101, 102, 103, 104, 105, 106, 107, 108, 109, 110, 111] (by decide +kernel) (by decide +kernel)
set_option maxRecDepth 20000 in
theorem gX11_complete_X11_keeps : GoodIn wsX11_complete (wsV RX11 85 RX11 yX11_keeps wsX11_keeps) := goodIn_app (goodIn_of _ (by decide +kernel)) ggX11_complete_X11_keeps
set_option maxRecDepth 20000 in
theorem ggX11_complete_X11_completes : GoodIn wsX11_complete wsX11_completes := goodIn_r _ [11, 12, 13, 14, 1, 15, 16, 17, 6, 18, 19, 20, 21, 22, 23, 24, 25, 26, 27, 28, 29, 30, 31, 32, 33, 34, 35, 36, 37, 38, 39, 40, 41, 42, 43, 44, 45, 46, 47, 48, 49, 50, 51, 52, 53, 54, 55, 56, 57, 58, 59, 60, 61, 62, 63, 64, 65, 66, 67, 68, 69, 70, 71, 72, 73, 74, 75, 76, 77, 78, 85, 86, 87, 88, 89, 90, 91, 92, 93, 94, 95, 96, 97, 98, 99, 100, 101, 102, 103, 104, 105, 106, 107, 108, 109, 110, 111] (by decide +kernel) (by decide +kernel)
set_option maxRecDepth 20000 in
theorem gX11_complete_X11_completes : GoodIn wsX11_complete (wsV RX11 173 RX11 yX11_completes wsX11_completes) := goodIn_app (goodIn_of _ (by decide +kernel)) ggX11_complete_X11_completes
set_option maxRecDepth 20000 in
theorem ggX11_complete_X11_acted : GoodIn wsX11_complete wsX11_acted := goodIn_r _ [82, 12, 83, 84, 2, 85, 86, 87, 88, 89, 90, 91, 92, 93, 94, 95, 96, 97, 98, 99, 100, 101, 102, 103, 104, 105, 106, 107, 108, 109, 110, 111] (by decide +kernel) (by decide +kernel)
set_option maxRecDepth 20000 in
theorem gX11_complete_X11_acted : GoodIn wsX11_complete (wsV RX11 91 RX11 yX11_acted wsX11_acted) := goodIn_app (goodIn_of _ (by decide +kernel)) ggX11_complete_X11_acted
theorem dX11_complete_0 : decode cX11_complete 0 = .ok (.aload_n 0, 1) := by decide +kernel
theorem dX11_complete_1 : decode cX11_complete 1 = .ok (.invokevirtual 85, 3) := by decide +kernel
theorem dX11_complete_4 : decode cX11_complete 4 = .ok (.aload_n 0, 1) := by decide +kernel
theorem dX11_complete_5 : decode cX11_complete 5 = .ok (.iload_n 1, 1) := by decide +kernel
theorem dX11_complete_6 : decode cX11_complete 6 = .ok (.invokevirtual 173, 3) := by decide +kernel
theorem dX11_complete_9 : decode cX11_complete 9 = .ok (.istore_n 2, 1) := by decide +kernel
theorem dX11_complete_10 : decode cX11_complete 10 = .ok (.iconst 0, 1) := by decide +kernel
theorem dX11_complete_11 : decode cX11_complete 11 = .ok (.istore_n 3, 1) := by decide +kernel
theorem dX11_complete_12 : decode cX11_complete 12 = .ok (.iload_n 3, 1) := by decide +kernel
theorem dX11_complete_13 : decode cX11_complete 13 = .ok (.bipush 52, 2) := by decide +kernel
theorem dX11_complete_15 : decode cX11_complete 15 = .ok (.if_icmp .ge 25, 3) := by decide +kernel
theorem dX11_complete_18 : decode cX11_complete 18 = .ok (.iload_n 2, 1) := by decide +kernel
theorem dX11_complete_19 : decode cX11_complete 19 = .ok (.ifCond .ge 21, 3) := by decide +kernel
theorem dX11_complete_22 : decode cX11_complete 22 = .ok (.aload_n 0, 1) := by decide +kernel
theorem dX11_complete_23 : decode cX11_complete 23 = .ok (.getfield 7, 3) := by decide +kernel
theorem dX11_complete_26 : decode cX11_complete 26 = .ok (.iload_n 3, 1) := by decide +kernel
theorem dX11_complete_27 : decode cX11_complete 27 = .ok (.aload_n 0, 1) := by decide +kernel
theorem dX11_complete_28 : decode cX11_complete 28 = .ok (.getfield 16, 3) := by decide +kernel
theorem dX11_complete_31 : decode cX11_complete 31 = .ok (.iload_n 3, 1) := by decide +kernel
theorem dX11_complete_32 : decode cX11_complete 32 = .ok (.iaload, 1) := by decide +kernel
theorem dX11_complete_33 : decode cX11_complete 33 = .ok (.iastore, 1) := by decide +kernel
theorem dX11_complete_34 : decode cX11_complete 34 = .ok (.iinc 3 1, 3) := by decide +kernel
theorem dX11_complete_37 : decode cX11_complete 37 = .ok (.goto (-25), 3) := by decide +kernel
theorem dX11_complete_40 : decode cX11_complete 40 = .ok (.aload_n 0, 1) := by decide +kernel
theorem dX11_complete_41 : decode cX11_complete 41 = .ok (.iload_n 2, 1) := by decide +kernel
theorem dX11_complete_42 : decode cX11_complete 42 = .ok (.invokevirtual 91, 3) := by decide +kernel
theorem dX11_complete_45 : decode cX11_complete 45 = .ok (.ireturn, 1) := by decide +kernel
set_option maxRecDepth 20000 in
theorem ggX11_count_X11_length : GoodIn wsX11_count wsX11_length := goodIn_r _ [8] (by decide +kernel) (by decide +kernel)
set_option maxRecDepth 20000 in
theorem gX11_count_X11_length : GoodIn wsX11_count (va_wsS RX11 35 yX11_length wsX11_length) := goodIn_app (goodIn_of _ (by decide +kernel)) ggX11_count_X11_length
set_option maxRecDepth 20000 in
theorem ggX11_count_X11_finds : GoodIn wsX11_count wsX11_finds := goodIn_r _ [12, 1, 13, 14, 15, 7, 16, 17, 18, 19, 20, 5, 6, 8, 21, 22, 23, 24, 25, 26, 27, 28, 29, 30, 31, 32, 33, 34, 35, 36, 37, 38, 39, 40, 41, 42, 43, 44, 45, 46, 47, 48, 49, 50, 51, 52, 53, 54, 55, 56, 57, 58, 59, 60, 61, 62, 63, 64, 65, 66, 67, 68, 69, 70, 71, 72, 73, 74, 75, 76, 77, 78, 79, 80, 81, 82, 83, 84, 85, 86, 87, 88, 89, 90] (by decide +kernel) (by decide +kernel)
set_option maxRecDepth 20000 in
theorem gX11_count_X11_finds : GoodIn wsX11_count (wsV RX11 166 RX11 yX11_finds wsX11_finds) := goodIn_app (goodIn_of _ (by decide +kernel)) ggX11_count_X11_finds
theorem dX11_count_0 : decode cX11_count 0 = .ok (.iload_n 1, 1) := by decide +kernel
theorem dX11_count_1 : decode cX11_count 1 = .ok (.tableswitch 114 0 10 #[59, 66, 76, 76, 76, 76, 83, 92, 92, 104, 109], 59) := by decide +kernel
theorem dX11_count_60 : decode cX11_count 60 = .ok (.aload_n 0, 1) := by decide +kernel
theorem dX11_count_61 : decode cX11_count 61 = .ok (.getfield 7, 3) := by decide +kernel
theorem dX11_count_64 : decode cX11_count 64 = .ok (.iconst 1, 1) := by decide +kernel
theorem dX11_count_65 : decode cX11_count 65 = .ok (.iaload, 1) := by decide +kernel
theorem dX11_count_66 : decode cX11_count 66 = .ok (.ireturn, 1) := by decide +kernel
theorem dX11_count_67 : decode cX11_count 67 = .ok (.aload_n 0, 1) := by decide +kernel
theorem dX11_count_68 : decode cX11_count 68 = .ok (.getfield 7, 3) := by decide +kernel
theorem dX11_count_71 : decode cX11_count 71 = .ok (.iconst 0, 1) := by decide +kernel
theorem dX11_count_72 : decode cX11_count 72 = .ok (.iaload, 1) := by decide +kernel
theorem dX11_count_73 : decode cX11_count 73 = .ok (.invokestatic 35, 3) := by decide +kernel
theorem dX11_count_76 : decode cX11_count 76 = .ok (.ireturn, 1) := by decide +kernel
theorem dX11_count_77 : decode cX11_count 77 = .ok (.aload_n 0, 1) := by decide +kernel
theorem dX11_count_78 : decode cX11_count 78 = .ok (.getfield 7, 3) := by decide +kernel
theorem dX11_count_81 : decode cX11_count 81 = .ok (.iload_n 1, 1) := by decide +kernel
theorem dX11_count_82 : decode cX11_count 82 = .ok (.iaload, 1) := by decide +kernel
theorem dX11_count_83 : decode cX11_count 83 = .ok (.ireturn, 1) := by decide +kernel
theorem dX11_count_84 : decode cX11_count 84 = .ok (.aload_n 0, 1) := by decide +kernel
theorem dX11_count_85 : decode cX11_count 85 = .ok (.sipush 10000, 3) := by decide +kernel
theorem dX11_count_88 : decode cX11_count 88 = .ok (.iconst (-1), 1) := by decide +kernel
theorem dX11_count_89 : decode cX11_count 89 = .ok (.invokevirtual 166, 3) := by decide +kernel
theorem dX11_count_92 : decode cX11_count 92 = .ok (.ireturn, 1) := by decide +kernel
theorem dX11_count_93 : decode cX11_count 93 = .ok (.aload_n 0, 1) := by decide +kernel
theorem dX11_count_94 : decode cX11_count 94 = .ok (.sipush 10000, 3) := by decide +kernel
theorem dX11_count_97 : decode cX11_count 97 = .ok (.iload_n 1, 1) := by decide +kernel
theorem dX11_count_98 : decode cX11_count 98 = .ok (.bipush 6, 2) := by decide +kernel
theorem dX11_count_100 : decode cX11_count 100 = .ok (.isub, 1) := by decide +kernel
theorem dX11_count_101 : decode cX11_count 101 = .ok (.invokevirtual 166, 3) := by decide +kernel
theorem dX11_count_104 : decode cX11_count 104 = .ok (.ireturn, 1) := by decide +kernel
theorem dX11_count_105 : decode cX11_count 105 = .ok (.aload_n 0, 1) := by decide +kernel
theorem dX11_count_106 : decode cX11_count 106 = .ok (.getfield 79, 3) := by decide +kernel
theorem dX11_count_109 : decode cX11_count 109 = .ok (.ireturn, 1) := by decide +kernel
theorem dX11_count_110 : decode cX11_count 110 = .ok (.aload_n 0, 1) := by decide +kernel
theorem dX11_count_111 : decode cX11_count 111 = .ok (.getfield 176, 3) := by decide +kernel
theorem dX11_count_114 : decode cX11_count 114 = .ok (.ireturn, 1) := by decide +kernel
theorem dX11_count_115 : decode cX11_count 115 = .ok (.ldc 78, 2) := by decide +kernel
theorem dX11_count_117 : decode cX11_count 117 = .ok (.ireturn, 1) := by decide +kernel
theorem dX11_undo_0 : decode cX11_undo 0 = .ok (.aload_n 0, 1) := by decide +kernel
theorem dX11_undo_1 : decode cX11_undo 1 = .ok (.getfield 79, 3) := by decide +kernel
theorem dX11_undo_4 : decode cX11_undo 4 = .ok (.ifCond .ne 6, 3) := by decide +kernel
theorem dX11_undo_7 : decode cX11_undo 7 = .ok (.ldc 103, 2) := by decide +kernel
theorem dX11_undo_9 : decode cX11_undo 9 = .ok (.ireturn, 1) := by decide +kernel
theorem dX11_undo_10 : decode cX11_undo 10 = .ok (.aload_n 0, 1) := by decide +kernel
theorem dX11_undo_11 : decode cX11_undo 11 = .ok (.dup, 1) := by decide +kernel
theorem dX11_undo_12 : decode cX11_undo 12 = .ok (.getfield 79, 3) := by decide +kernel
theorem dX11_undo_15 : decode cX11_undo 15 = .ok (.iconst 1, 1) := by decide +kernel
theorem dX11_undo_16 : decode cX11_undo 16 = .ok (.isub, 1) := by decide +kernel
theorem dX11_undo_17 : decode cX11_undo 17 = .ok (.putfield 79, 3) := by decide +kernel
theorem dX11_undo_20 : decode cX11_undo 20 = .ok (.iconst 0, 1) := by decide +kernel
theorem dX11_undo_21 : decode cX11_undo 21 = .ok (.istore_n 1, 1) := by decide +kernel
theorem dX11_undo_22 : decode cX11_undo 22 = .ok (.iload_n 1, 1) := by decide +kernel
theorem dX11_undo_23 : decode cX11_undo 23 = .ok (.bipush 52, 2) := by decide +kernel
theorem dX11_undo_25 : decode cX11_undo 25 = .ok (.if_icmp .ge 29, 3) := by decide +kernel
theorem dX11_undo_28 : decode cX11_undo 28 = .ok (.aload_n 0, 1) := by decide +kernel
theorem dX11_undo_29 : decode cX11_undo 29 = .ok (.getfield 7, 3) := by decide +kernel
theorem dX11_undo_32 : decode cX11_undo 32 = .ok (.iload_n 1, 1) := by decide +kernel
theorem dX11_undo_33 : decode cX11_undo 33 = .ok (.aload_n 0, 1) := by decide +kernel
theorem dX11_undo_34 : decode cX11_undo 34 = .ok (.getfield 13, 3) := by decide +kernel
theorem dX11_undo_37 : decode cX11_undo 37 = .ok (.bipush 52, 2) := by decide +kernel
theorem dX11_undo_39 : decode cX11_undo 39 = .ok (.aload_n 0, 1) := by decide +kernel
theorem dX11_undo_40 : decode cX11_undo 40 = .ok (.getfield 79, 3) := by decide +kernel
theorem dX11_undo_43 : decode cX11_undo 43 = .ok (.imul, 1) := by decide +kernel
theorem dX11_undo_44 : decode cX11_undo 44 = .ok (.iload_n 1, 1) := by decide +kernel
theorem dX11_undo_45 : decode cX11_undo 45 = .ok (.iadd, 1) := by decide +kernel
theorem dX11_undo_46 : decode cX11_undo 46 = .ok (.iaload, 1) := by decide +kernel
theorem dX11_undo_47 : decode cX11_undo 47 = .ok (.iastore, 1) := by decide +kernel
theorem dX11_undo_48 : decode cX11_undo 48 = .ok (.iinc 1 1, 3) := by decide +kernel
theorem dX11_undo_51 : decode cX11_undo 51 = .ok (.goto (-29), 3) := by decide +kernel
theorem dX11_undo_54 : decode cX11_undo 54 = .ok (.aload_n 0, 1) := by decide +kernel
theorem dX11_undo_55 : decode cX11_undo 55 = .ok (.getfield 79, 3) := by decide +kernel
theorem dX11_undo_58 : decode cX11_undo 58 = .ok (.ireturn, 1) := by decide +kernel
set_option maxRecDepth 20000 in
theorem ggX11_type_X11_in : GoodIn wsX11_type wsX11_in := goodIn_r _ [8] (by decide +kernel) (by decide +kernel)
set_option maxRecDepth 20000 in
theorem gX11_type_X11_in : GoodIn wsX11_type (va_wsS RX11 44 yX11_in wsX11_in) := goodIn_app (goodIn_of _ (by decide +kernel)) ggX11_type_X11_in
theorem dX11_type_0 : decode cX11_type 0 = .ok (.iload_n 1, 1) := by decide +kernel
theorem dX11_type_1 : decode cX11_type 1 = .ok (.bipush 32, 2) := by decide +kernel
theorem dX11_type_3 : decode cX11_type 3 = .ok (.bipush 126, 2) := by decide +kernel
theorem dX11_type_5 : decode cX11_type 5 = .ok (.invokestatic 44, 3) := by decide +kernel
theorem dX11_type_8 : decode cX11_type 8 = .ok (.ifCond .ne 6, 3) := by decide +kernel
theorem dX11_type_11 : decode cX11_type 11 = .ok (.ldc 78, 2) := by decide +kernel
theorem dX11_type_13 : decode cX11_type 13 = .ok (.ireturn, 1) := by decide +kernel
theorem dX11_type_14 : decode cX11_type 14 = .ok (.aload_n 0, 1) := by decide +kernel
theorem dX11_type_15 : decode cX11_type 15 = .ok (.getfield 176, 3) := by decide +kernel
theorem dX11_type_18 : decode cX11_type 18 = .ok (.bipush 80, 2) := by decide +kernel
theorem dX11_type_20 : decode cX11_type 20 = .ok (.if_icmp .ne 6, 3) := by decide +kernel
theorem dX11_type_23 : decode cX11_type 23 = .ok (.ldc 115, 2) := by decide +kernel
theorem dX11_type_25 : decode cX11_type 25 = .ok (.ireturn, 1) := by decide +kernel
theorem dX11_type_26 : decode cX11_type 26 = .ok (.aload_n 0, 1) := by decide +kernel
theorem dX11_type_27 : decode cX11_type 27 = .ok (.getfield 22, 3) := by decide +kernel
theorem dX11_type_30 : decode cX11_type 30 = .ok (.aload_n 0, 1) := by decide +kernel
theorem dX11_type_31 : decode cX11_type 31 = .ok (.getfield 176, 3) := by decide +kernel
theorem dX11_type_34 : decode cX11_type 34 = .ok (.iload_n 1, 1) := by decide +kernel
theorem dX11_type_35 : decode cX11_type 35 = .ok (.i2c, 1) := by decide +kernel
theorem dX11_type_36 : decode cX11_type 36 = .ok (.castore, 1) := by decide +kernel
theorem dX11_type_37 : decode cX11_type 37 = .ok (.aload_n 0, 1) := by decide +kernel
theorem dX11_type_38 : decode cX11_type 38 = .ok (.dup, 1) := by decide +kernel
theorem dX11_type_39 : decode cX11_type 39 = .ok (.getfield 176, 3) := by decide +kernel
theorem dX11_type_42 : decode cX11_type 42 = .ok (.iconst 1, 1) := by decide +kernel
theorem dX11_type_43 : decode cX11_type 43 = .ok (.iadd, 1) := by decide +kernel
theorem dX11_type_44 : decode cX11_type 44 = .ok (.putfield 176, 3) := by decide +kernel
theorem dX11_type_47 : decode cX11_type 47 = .ok (.aload_n 0, 1) := by decide +kernel
theorem dX11_type_48 : decode cX11_type 48 = .ok (.getfield 176, 3) := by decide +kernel
theorem dX11_type_51 : decode cX11_type 51 = .ok (.ireturn, 1) := by decide +kernel
theorem dX11_clearText_0 : decode cX11_clearText 0 = .ok (.aload_n 0, 1) := by decide +kernel
theorem dX11_clearText_1 : decode cX11_clearText 1 = .ok (.getfield 176, 3) := by decide +kernel
theorem dX11_clearText_4 : decode cX11_clearText 4 = .ok (.istore_n 1, 1) := by decide +kernel
theorem dX11_clearText_5 : decode cX11_clearText 5 = .ok (.aload_n 0, 1) := by decide +kernel
theorem dX11_clearText_6 : decode cX11_clearText 6 = .ok (.iconst 0, 1) := by decide +kernel
theorem dX11_clearText_7 : decode cX11_clearText 7 = .ok (.putfield 176, 3) := by decide +kernel
theorem dX11_clearText_10 : decode cX11_clearText 10 = .ok (.iload_n 1, 1) := by decide +kernel
theorem dX11_clearText_11 : decode cX11_clearText 11 = .ok (.ireturn, 1) := by decide +kernel
theorem dX11_sign_0 : decode cX11_sign 0 = .ok (.aload_n 0, 1) := by decide +kernel
theorem dX11_sign_1 : decode cX11_sign 1 = .ok (.getfield 179, 3) := by decide +kernel
theorem dX11_sign_4 : decode cX11_sign 4 = .ok (.aload_n 0, 1) := by decide +kernel
theorem dX11_sign_5 : decode cX11_sign 5 = .ok (.getfield 176, 3) := by decide +kernel
theorem dX11_sign_8 : decode cX11_sign 8 = .ok (.if_icmp .ge 15, 3) := by decide +kernel
theorem dX11_sign_11 : decode cX11_sign 11 = .ok (.aload_n 0, 1) := by decide +kernel
theorem dX11_sign_12 : decode cX11_sign 12 = .ok (.getfield 22, 3) := by decide +kernel
theorem dX11_sign_15 : decode cX11_sign 15 = .ok (.aload_n 0, 1) := by decide +kernel
theorem dX11_sign_16 : decode cX11_sign 16 = .ok (.getfield 179, 3) := by decide +kernel
theorem dX11_sign_19 : decode cX11_sign 19 = .ok (.caload, 1) := by decide +kernel
theorem dX11_sign_20 : decode cX11_sign 20 = .ok (.goto 4, 3) := by decide +kernel
theorem dX11_sign_23 : decode cX11_sign 23 = .ok (.iconst (-1), 1) := by decide +kernel
theorem dX11_sign_24 : decode cX11_sign 24 = .ok (.ireturn, 1) := by decide +kernel
set_option maxRecDepth 20000 in
theorem ggX11_takes_X11_sign : GoodIn wsX11_takes wsX11_sign := goodIn_r _ [6, 1, 7, 8, 9, 10, 11, 12, 13, 14, 15, 16, 17, 18, 19, 20, 21, 22, 23, 24, 25, 26, 27, 28, 29, 30, 31, 32, 33, 34, 35] (by decide +kernel) (by decide +kernel)
set_option maxRecDepth 20000 in
theorem gX11_takes_X11_sign : GoodIn wsX11_takes (wsV RX11 182 RX11 yX11_sign wsX11_sign) := goodIn_app (goodIn_of _ (by decide +kernel)) ggX11_takes_X11_sign
theorem dX11_takes_0 : decode cX11_takes 0 = .ok (.aload_n 0, 1) := by decide +kernel
theorem dX11_takes_1 : decode cX11_takes 1 = .ok (.invokevirtual 182, 3) := by decide +kernel
theorem dX11_takes_4 : decode cX11_takes 4 = .ok (.iload_n 1, 1) := by decide +kernel
theorem dX11_takes_5 : decode cX11_takes 5 = .ok (.if_icmp .ne 7, 3) := by decide +kernel
theorem dX11_takes_8 : decode cX11_takes 8 = .ok (.iconst 1, 1) := by decide +kernel
theorem dX11_takes_9 : decode cX11_takes 9 = .ok (.goto 4, 3) := by decide +kernel
theorem dX11_takes_12 : decode cX11_takes 12 = .ok (.iconst 0, 1) := by decide +kernel
theorem dX11_takes_13 : decode cX11_takes 13 = .ok (.istore_n 2, 1) := by decide +kernel
theorem dX11_takes_14 : decode cX11_takes 14 = .ok (.aload_n 0, 1) := by decide +kernel
theorem dX11_takes_15 : decode cX11_takes 15 = .ok (.dup, 1) := by decide +kernel
theorem dX11_takes_16 : decode cX11_takes 16 = .ok (.getfield 179, 3) := by decide +kernel
theorem dX11_takes_19 : decode cX11_takes 19 = .ok (.iload_n 2, 1) := by decide +kernel
theorem dX11_takes_20 : decode cX11_takes 20 = .ok (.ifCond .eq 7, 3) := by decide +kernel
theorem dX11_takes_23 : decode cX11_takes 23 = .ok (.iconst 1, 1) := by decide +kernel
theorem dX11_takes_24 : decode cX11_takes 24 = .ok (.goto 4, 3) := by decide +kernel
theorem dX11_takes_27 : decode cX11_takes 27 = .ok (.iconst 0, 1) := by decide +kernel
theorem dX11_takes_28 : decode cX11_takes 28 = .ok (.iadd, 1) := by decide +kernel
theorem dX11_takes_29 : decode cX11_takes 29 = .ok (.putfield 179, 3) := by decide +kernel
theorem dX11_takes_32 : decode cX11_takes 32 = .ok (.iload_n 2, 1) := by decide +kernel
theorem dX11_takes_33 : decode cX11_takes 33 = .ok (.ireturn, 1) := by decide +kernel
set_option maxRecDepth 20000 in
theorem ggX11_readsWord_X11_sign : GoodIn wsX11_readsWord wsX11_sign := goodIn_r _ [8, 3, 9, 10, 14, 15, 16, 17, 18, 19, 20, 21, 22, 23, 24, 25, 26, 27, 28, 29, 30, 31, 32, 33, 34, 35, 36, 37, 38, 39, 40] (by decide +kernel) (by decide +kernel)
set_option maxRecDepth 20000 in
theorem gX11_readsWord_X11_sign : GoodIn wsX11_readsWord (wsV RX11 182 RX11 yX11_sign wsX11_sign) := goodIn_app (goodIn_of _ (by decide +kernel)) ggX11_readsWord_X11_sign
set_option maxRecDepth 20000 in
theorem ggX11_readsWord_X11_in : GoodIn wsX11_readsWord wsX11_in := goodIn_r _ [13] (by decide +kernel) (by decide +kernel)
set_option maxRecDepth 20000 in
theorem gX11_readsWord_X11_in : GoodIn wsX11_readsWord (va_wsS RX11 44 yX11_in wsX11_in) := goodIn_app (goodIn_of _ (by decide +kernel)) ggX11_readsWord_X11_in
theorem dX11_readsWord_0 : decode cX11_readsWord 0 = .ok (.aload_n 0, 1) := by decide +kernel
theorem dX11_readsWord_1 : decode cX11_readsWord 1 = .ok (.iconst 1, 1) := by decide +kernel
theorem dX11_readsWord_2 : decode cX11_readsWord 2 = .ok (.putfield 185, 3) := by decide +kernel
theorem dX11_readsWord_5 : decode cX11_readsWord 5 = .ok (.aload_n 0, 1) := by decide +kernel
theorem dX11_readsWord_6 : decode cX11_readsWord 6 = .ok (.iconst 0, 1) := by decide +kernel
theorem dX11_readsWord_7 : decode cX11_readsWord 7 = .ok (.putfield 188, 3) := by decide +kernel
theorem dX11_readsWord_10 : decode cX11_readsWord 10 = .ok (.aload_n 0, 1) := by decide +kernel
theorem dX11_readsWord_11 : decode cX11_readsWord 11 = .ok (.invokevirtual 182, 3) := by decide +kernel
theorem dX11_readsWord_14 : decode cX11_readsWord 14 = .ok (.bipush 97, 2) := by decide +kernel
theorem dX11_readsWord_16 : decode cX11_readsWord 16 = .ok (.bipush 100, 2) := by decide +kernel
theorem dX11_readsWord_18 : decode cX11_readsWord 18 = .ok (.invokestatic 44, 3) := by decide +kernel
theorem dX11_readsWord_21 : decode cX11_readsWord 21 = .ok (.ifCond .eq 60, 3) := by decide +kernel
theorem dX11_readsWord_24 : decode cX11_readsWord 24 = .ok (.aload_n 0, 1) := by decide +kernel
theorem dX11_readsWord_25 : decode cX11_readsWord 25 = .ok (.aload_n 0, 1) := by decide +kernel
theorem dX11_readsWord_26 : decode cX11_readsWord 26 = .ok (.getfield 188, 3) := by decide +kernel
theorem dX11_readsWord_29 : decode cX11_readsWord 29 = .ok (.bipush 12, 2) := by decide +kernel
theorem dX11_readsWord_31 : decode cX11_readsWord 31 = .ok (.if_icmp .ge 20, 3) := by decide +kernel
theorem dX11_readsWord_34 : decode cX11_readsWord 34 = .ok (.iconst 4, 1) := by decide +kernel
theorem dX11_readsWord_35 : decode cX11_readsWord 35 = .ok (.aload_n 0, 1) := by decide +kernel
theorem dX11_readsWord_36 : decode cX11_readsWord 36 = .ok (.getfield 185, 3) := by decide +kernel
theorem dX11_readsWord_39 : decode cX11_readsWord 39 = .ok (.imul, 1) := by decide +kernel
theorem dX11_readsWord_40 : decode cX11_readsWord 40 = .ok (.aload_n 0, 1) := by decide +kernel
theorem dX11_readsWord_41 : decode cX11_readsWord 41 = .ok (.invokevirtual 182, 3) := by decide +kernel
theorem dX11_readsWord_44 : decode cX11_readsWord 44 = .ok (.iadd, 1) := by decide +kernel
theorem dX11_readsWord_45 : decode cX11_readsWord 45 = .ok (.bipush 97, 2) := by decide +kernel
theorem dX11_readsWord_47 : decode cX11_readsWord 47 = .ok (.isub, 1) := by decide +kernel
theorem dX11_readsWord_48 : decode cX11_readsWord 48 = .ok (.goto 7, 3) := by decide +kernel
theorem dX11_readsWord_51 : decode cX11_readsWord 51 = .ok (.aload_n 0, 1) := by decide +kernel
theorem dX11_readsWord_52 : decode cX11_readsWord 52 = .ok (.getfield 185, 3) := by decide +kernel
theorem dX11_readsWord_55 : decode cX11_readsWord 55 = .ok (.putfield 185, 3) := by decide +kernel
theorem dX11_readsWord_58 : decode cX11_readsWord 58 = .ok (.aload_n 0, 1) := by decide +kernel
theorem dX11_readsWord_59 : decode cX11_readsWord 59 = .ok (.dup, 1) := by decide +kernel
theorem dX11_readsWord_60 : decode cX11_readsWord 60 = .ok (.getfield 188, 3) := by decide +kernel
theorem dX11_readsWord_63 : decode cX11_readsWord 63 = .ok (.iconst 1, 1) := by decide +kernel
theorem dX11_readsWord_64 : decode cX11_readsWord 64 = .ok (.iadd, 1) := by decide +kernel
theorem dX11_readsWord_65 : decode cX11_readsWord 65 = .ok (.putfield 188, 3) := by decide +kernel
theorem dX11_readsWord_68 : decode cX11_readsWord 68 = .ok (.aload_n 0, 1) := by decide +kernel
theorem dX11_readsWord_69 : decode cX11_readsWord 69 = .ok (.dup, 1) := by decide +kernel
theorem dX11_readsWord_70 : decode cX11_readsWord 70 = .ok (.getfield 179, 3) := by decide +kernel
theorem dX11_readsWord_73 : decode cX11_readsWord 73 = .ok (.iconst 1, 1) := by decide +kernel
theorem dX11_readsWord_74 : decode cX11_readsWord 74 = .ok (.iadd, 1) := by decide +kernel
theorem dX11_readsWord_75 : decode cX11_readsWord 75 = .ok (.putfield 179, 3) := by decide +kernel
theorem dX11_readsWord_78 : decode cX11_readsWord 78 = .ok (.goto (-68), 3) := by decide +kernel
theorem dX11_readsWord_81 : decode cX11_readsWord 81 = .ok (.return_, 1) := by decide +kernel
theorem dX11_says_0 : decode cX11_says 0 = .ok (.aload_n 0, 1) := by decide +kernel
theorem dX11_says_1 : decode cX11_says 1 = .ok (.iload_n 2, 1) := by decide +kernel
theorem dX11_says_2 : decode cX11_says 2 = .ok (.putfield 191, 3) := by decide +kernel
theorem dX11_says_5 : decode cX11_says 5 = .ok (.iload_n 1, 1) := by decide +kernel
theorem dX11_says_6 : decode cX11_says 6 = .ok (.ireturn, 1) := by decide +kernel
set_option maxRecDepth 20000 in
theorem ggX11_readsRule_X11_readsWord : GoodIn wsX11_readsRule wsX11_readsWord := goodIn_r _ [10, 1, 2, 3, 11, 12, 13, 9, 14, 15, 16, 17, 18, 19, 41, 42, 43, 44, 45, 46, 47, 48, 49, 50, 51, 52, 53, 54, 55, 56, 57, 58, 59, 60, 61, 62, 63, 64, 65, 66, 67] (by decide +kernel) (by decide +kernel)
set_option maxRecDepth 20000 in
theorem gX11_readsRule_X11_readsWord : GoodIn wsX11_readsRule (wsV RX11 194 RX11 yX11_readsWord wsX11_readsWord) := goodIn_app (goodIn_of _ (by decide +kernel)) ggX11_readsRule_X11_readsWord
set_option maxRecDepth 20000 in
theorem ggX11_readsRule_X11_takes : GoodIn wsX11_readsRule wsX11_takes := goodIn_r _ [23, 3, 11, 12, 13, 9, 14, 15, 16, 41, 42, 43, 44, 45, 46, 47, 48, 49, 50, 51, 52, 53, 54, 55, 56, 57, 58, 59, 60, 61, 62, 63, 64, 65, 66, 67] (by decide +kernel) (by decide +kernel)
set_option maxRecDepth 20000 in
theorem gX11_readsRule_X11_takes : GoodIn wsX11_readsRule (wsV RX11 197 RX11 yX11_takes wsX11_takes) := goodIn_app (goodIn_of _ (by decide +kernel)) ggX11_readsRule_X11_takes
set_option maxRecDepth 20000 in
theorem ggX11_readsRule_X11_says : GoodIn wsX11_readsRule wsX11_says := goodIn_r _ [27, 28, 41, 42, 43, 44, 45, 46, 47, 48, 49, 50, 51, 52, 53, 54, 55, 56, 57, 58, 59, 60, 61, 62, 63, 64, 65, 66, 67] (by decide +kernel) (by decide +kernel)
set_option maxRecDepth 20000 in
theorem gX11_readsRule_X11_says : GoodIn wsX11_readsRule (wsV RX11 201 RX11 yX11_says wsX11_says) := goodIn_app (goodIn_of _ (by decide +kernel)) ggX11_readsRule_X11_says
set_option maxRecDepth 20000 in
theorem ggX11_readsRule_X11_left : GoodIn wsX11_readsRule wsX11_left := goodIn_r _ [32, 5, 41, 42, 43, 44, 45, 46, 47, 48, 49, 50, 51, 52, 53, 54, 55, 56, 57, 58, 59, 60, 61, 62, 63, 64, 65, 66, 67] (by decide +kernel) (by decide +kernel)
set_option maxRecDepth 20000 in
theorem gX11_readsRule_X11_left : GoodIn wsX11_readsRule (wsV RX11 48 RX11 yX11_left wsX11_left) := goodIn_app (goodIn_of _ (by decide +kernel)) ggX11_readsRule_X11_left
set_option maxRecDepth 20000 in
theorem ggX11_readsRule_X11_right : GoodIn wsX11_readsRule wsX11_right := goodIn_r _ [36, 5, 41, 42, 43, 44, 45, 46, 47, 48, 49, 50, 51, 52, 53, 54, 55, 56, 57, 58, 59, 60, 61, 62, 63, 64, 65, 66, 67] (by decide +kernel) (by decide +kernel)
set_option maxRecDepth 20000 in
theorem gX11_readsRule_X11_right : GoodIn wsX11_readsRule (wsV RX11 51 RX11 yX11_right wsX11_right) := goodIn_app (goodIn_of _ (by decide +kernel)) ggX11_readsRule_X11_right
set_option maxRecDepth 20000 in
theorem ggX11_readsRule_X11_adds : GoodIn wsX11_readsRule wsX11_adds := goodIn_r _ [40, 5, 41, 42, 43, 44, 45, 46, 47, 48, 49, 50, 51, 52, 53, 54, 55, 56, 57, 58, 59, 60, 61, 62, 63, 64, 65, 66, 67] (by decide +kernel) (by decide +kernel)
set_option maxRecDepth 20000 in
theorem gX11_readsRule_X11_adds : GoodIn wsX11_readsRule (wsV RX11 169 RX11 yX11_adds wsX11_adds) := goodIn_app (goodIn_of _ (by decide +kernel)) ggX11_readsRule_X11_adds
theorem dX11_readsRule_0 : decode cX11_readsRule 0 = .ok (.aload_n 0, 1) := by decide +kernel
theorem dX11_readsRule_1 : decode cX11_readsRule 1 = .ok (.invokevirtual 194, 3) := by decide +kernel
theorem dX11_readsRule_4 : decode cX11_readsRule 4 = .ok (.aload_n 0, 1) := by decide +kernel
theorem dX11_readsRule_5 : decode cX11_readsRule 5 = .ok (.getfield 185, 3) := by decide +kernel
theorem dX11_readsRule_8 : decode cX11_readsRule 8 = .ok (.istore_n 2, 1) := by decide +kernel
theorem dX11_readsRule_9 : decode cX11_readsRule 9 = .ok (.aload_n 0, 1) := by decide +kernel
theorem dX11_readsRule_10 : decode cX11_readsRule 10 = .ok (.getfield 188, 3) := by decide +kernel
theorem dX11_readsRule_13 : decode cX11_readsRule 13 = .ok (.istore_n 3, 1) := by decide +kernel
theorem dX11_readsRule_14 : decode cX11_readsRule 14 = .ok (.aload_n 0, 1) := by decide +kernel
theorem dX11_readsRule_15 : decode cX11_readsRule 15 = .ok (.bipush 62, 2) := by decide +kernel
theorem dX11_readsRule_17 : decode cX11_readsRule 17 = .ok (.invokevirtual 197, 3) := by decide +kernel
theorem dX11_readsRule_20 : decode cX11_readsRule 20 = .ok (.ifCond .ne 15, 3) := by decide +kernel
theorem dX11_readsRule_23 : decode cX11_readsRule 23 = .ok (.aload_n 0, 1) := by decide +kernel
theorem dX11_readsRule_24 : decode cX11_readsRule 24 = .ok (.iconst 1, 1) := by decide +kernel
theorem dX11_readsRule_25 : decode cX11_readsRule 25 = .ok (.aload_n 0, 1) := by decide +kernel
theorem dX11_readsRule_26 : decode cX11_readsRule 26 = .ok (.getfield 179, 3) := by decide +kernel
theorem dX11_readsRule_29 : decode cX11_readsRule 29 = .ok (.iload_n 1, 1) := by decide +kernel
theorem dX11_readsRule_30 : decode cX11_readsRule 30 = .ok (.isub, 1) := by decide +kernel
theorem dX11_readsRule_31 : decode cX11_readsRule 31 = .ok (.invokevirtual 201, 3) := by decide +kernel
theorem dX11_readsRule_34 : decode cX11_readsRule 34 = .ok (.ireturn, 1) := by decide +kernel
theorem dX11_readsRule_35 : decode cX11_readsRule 35 = .ok (.aload_n 0, 1) := by decide +kernel
theorem dX11_readsRule_36 : decode cX11_readsRule 36 = .ok (.invokevirtual 194, 3) := by decide +kernel
theorem dX11_readsRule_39 : decode cX11_readsRule 39 = .ok (.aload_n 0, 1) := by decide +kernel
theorem dX11_readsRule_40 : decode cX11_readsRule 40 = .ok (.getfield 188, 3) := by decide +kernel
theorem dX11_readsRule_43 : decode cX11_readsRule 43 = .ok (.istore 4, 2) := by decide +kernel
theorem dX11_readsRule_45 : decode cX11_readsRule 45 = .ok (.aload_n 0, 1) := by decide +kernel
theorem dX11_readsRule_46 : decode cX11_readsRule 46 = .ok (.bipush 59, 2) := by decide +kernel
theorem dX11_readsRule_48 : decode cX11_readsRule 48 = .ok (.invokevirtual 197, 3) := by decide +kernel
theorem dX11_readsRule_51 : decode cX11_readsRule 51 = .ok (.ifCond .ne 15, 3) := by decide +kernel
theorem dX11_readsRule_54 : decode cX11_readsRule 54 = .ok (.aload_n 0, 1) := by decide +kernel
theorem dX11_readsRule_55 : decode cX11_readsRule 55 = .ok (.iconst 1, 1) := by decide +kernel
theorem dX11_readsRule_56 : decode cX11_readsRule 56 = .ok (.aload_n 0, 1) := by decide +kernel
theorem dX11_readsRule_57 : decode cX11_readsRule 57 = .ok (.getfield 179, 3) := by decide +kernel
theorem dX11_readsRule_60 : decode cX11_readsRule 60 = .ok (.iload_n 1, 1) := by decide +kernel
theorem dX11_readsRule_61 : decode cX11_readsRule 61 = .ok (.isub, 1) := by decide +kernel
theorem dX11_readsRule_62 : decode cX11_readsRule 62 = .ok (.invokevirtual 201, 3) := by decide +kernel
theorem dX11_readsRule_65 : decode cX11_readsRule 65 = .ok (.ireturn, 1) := by decide +kernel
theorem dX11_readsRule_66 : decode cX11_readsRule 66 = .ok (.iload_n 3, 1) := by decide +kernel
theorem dX11_readsRule_67 : decode cX11_readsRule 67 = .ok (.ifCond .eq 14, 3) := by decide +kernel
theorem dX11_readsRule_70 : decode cX11_readsRule 70 = .ok (.iload_n 3, 1) := by decide +kernel
theorem dX11_readsRule_71 : decode cX11_readsRule 71 = .ok (.iconst 4, 1) := by decide +kernel
theorem dX11_readsRule_72 : decode cX11_readsRule 72 = .ok (.if_icmp .gt 9, 3) := by decide +kernel
theorem dX11_readsRule_75 : decode cX11_readsRule 75 = .ok (.iload 4, 2) := by decide +kernel
theorem dX11_readsRule_77 : decode cX11_readsRule 77 = .ok (.iconst 4, 1) := by decide +kernel
theorem dX11_readsRule_78 : decode cX11_readsRule 78 = .ok (.if_icmp .le 11, 3) := by decide +kernel
theorem dX11_readsRule_81 : decode cX11_readsRule 81 = .ok (.aload_n 0, 1) := by decide +kernel
theorem dX11_readsRule_82 : decode cX11_readsRule 82 = .ok (.iconst 2, 1) := by decide +kernel
theorem dX11_readsRule_83 : decode cX11_readsRule 83 = .ok (.ldc 43, 2) := by decide +kernel
theorem dX11_readsRule_85 : decode cX11_readsRule 85 = .ok (.invokevirtual 201, 3) := by decide +kernel
theorem dX11_readsRule_88 : decode cX11_readsRule 88 = .ok (.ireturn, 1) := by decide +kernel
theorem dX11_readsRule_89 : decode cX11_readsRule 89 = .ok (.iload 4, 2) := by decide +kernel
theorem dX11_readsRule_91 : decode cX11_readsRule 91 = .ok (.iload_n 3, 1) := by decide +kernel
theorem dX11_readsRule_92 : decode cX11_readsRule 92 = .ok (.if_icmp .gt 11, 3) := by decide +kernel
theorem dX11_readsRule_95 : decode cX11_readsRule 95 = .ok (.aload_n 0, 1) := by decide +kernel
theorem dX11_readsRule_96 : decode cX11_readsRule 96 = .ok (.getfield 185, 3) := by decide +kernel
theorem dX11_readsRule_99 : decode cX11_readsRule 99 = .ok (.iload_n 2, 1) := by decide +kernel
theorem dX11_readsRule_100 : decode cX11_readsRule 100 = .ok (.if_icmp .ne 10, 3) := by decide +kernel
theorem dX11_readsRule_103 : decode cX11_readsRule 103 = .ok (.aload_n 0, 1) := by decide +kernel
theorem dX11_readsRule_104 : decode cX11_readsRule 104 = .ok (.iconst 3, 1) := by decide +kernel
theorem dX11_readsRule_105 : decode cX11_readsRule 105 = .ok (.iconst 1, 1) := by decide +kernel
theorem dX11_readsRule_106 : decode cX11_readsRule 106 = .ok (.invokevirtual 201, 3) := by decide +kernel
theorem dX11_readsRule_109 : decode cX11_readsRule 109 = .ok (.ireturn, 1) := by decide +kernel
theorem dX11_readsRule_110 : decode cX11_readsRule 110 = .ok (.iconst 0, 1) := by decide +kernel
theorem dX11_readsRule_111 : decode cX11_readsRule 111 = .ok (.istore 5, 2) := by decide +kernel
theorem dX11_readsRule_113 : decode cX11_readsRule 113 = .ok (.iload 5, 2) := by decide +kernel
theorem dX11_readsRule_115 : decode cX11_readsRule 115 = .ok (.aload_n 0, 1) := by decide +kernel
theorem dX11_readsRule_116 : decode cX11_readsRule 116 = .ok (.getfield 7, 3) := by decide +kernel
theorem dX11_readsRule_119 : decode cX11_readsRule 119 = .ok (.iconst 1, 1) := by decide +kernel
theorem dX11_readsRule_120 : decode cX11_readsRule 120 = .ok (.iaload, 1) := by decide +kernel
theorem dX11_readsRule_121 : decode cX11_readsRule 121 = .ok (.if_icmp .ge 39, 3) := by decide +kernel
theorem dX11_readsRule_124 : decode cX11_readsRule 124 = .ok (.aload_n 0, 1) := by decide +kernel
theorem dX11_readsRule_125 : decode cX11_readsRule 125 = .ok (.iload 5, 2) := by decide +kernel
theorem dX11_readsRule_127 : decode cX11_readsRule 127 = .ok (.invokevirtual 48, 3) := by decide +kernel
theorem dX11_readsRule_130 : decode cX11_readsRule 130 = .ok (.iload_n 2, 1) := by decide +kernel
theorem dX11_readsRule_131 : decode cX11_readsRule 131 = .ok (.if_icmp .ne 23, 3) := by decide +kernel
theorem dX11_readsRule_134 : decode cX11_readsRule 134 = .ok (.aload_n 0, 1) := by decide +kernel
theorem dX11_readsRule_135 : decode cX11_readsRule 135 = .ok (.iload 5, 2) := by decide +kernel
theorem dX11_readsRule_137 : decode cX11_readsRule 137 = .ok (.invokevirtual 51, 3) := by decide +kernel
theorem dX11_readsRule_140 : decode cX11_readsRule 140 = .ok (.aload_n 0, 1) := by decide +kernel
theorem dX11_readsRule_141 : decode cX11_readsRule 141 = .ok (.getfield 185, 3) := by decide +kernel
theorem dX11_readsRule_144 : decode cX11_readsRule 144 = .ok (.if_icmp .ne 10, 3) := by decide +kernel
theorem dX11_readsRule_147 : decode cX11_readsRule 147 = .ok (.aload_n 0, 1) := by decide +kernel
theorem dX11_readsRule_148 : decode cX11_readsRule 148 = .ok (.iconst 3, 1) := by decide +kernel
theorem dX11_readsRule_149 : decode cX11_readsRule 149 = .ok (.iconst 2, 1) := by decide +kernel
theorem dX11_readsRule_150 : decode cX11_readsRule 150 = .ok (.invokevirtual 201, 3) := by decide +kernel
theorem dX11_readsRule_153 : decode cX11_readsRule 153 = .ok (.ireturn, 1) := by decide +kernel
theorem dX11_readsRule_154 : decode cX11_readsRule 154 = .ok (.iinc 5 1, 3) := by decide +kernel
theorem dX11_readsRule_157 : decode cX11_readsRule 157 = .ok (.goto (-44), 3) := by decide +kernel
theorem dX11_readsRule_160 : decode cX11_readsRule 160 = .ok (.aload_n 0, 1) := by decide +kernel
theorem dX11_readsRule_161 : decode cX11_readsRule 161 = .ok (.getfield 7, 3) := by decide +kernel
theorem dX11_readsRule_164 : decode cX11_readsRule 164 = .ok (.iconst 1, 1) := by decide +kernel
theorem dX11_readsRule_165 : decode cX11_readsRule 165 = .ok (.iaload, 1) := by decide +kernel
theorem dX11_readsRule_166 : decode cX11_readsRule 166 = .ok (.bipush 10, 2) := by decide +kernel
theorem dX11_readsRule_168 : decode cX11_readsRule 168 = .ok (.if_icmp .ne 10, 3) := by decide +kernel
theorem dX11_readsRule_171 : decode cX11_readsRule 171 = .ok (.aload_n 0, 1) := by decide +kernel
theorem dX11_readsRule_172 : decode cX11_readsRule 172 = .ok (.iconst 3, 1) := by decide +kernel
theorem dX11_readsRule_173 : decode cX11_readsRule 173 = .ok (.iconst 3, 1) := by decide +kernel
theorem dX11_readsRule_174 : decode cX11_readsRule 174 = .ok (.invokevirtual 201, 3) := by decide +kernel
theorem dX11_readsRule_177 : decode cX11_readsRule 177 = .ok (.ireturn, 1) := by decide +kernel
theorem dX11_readsRule_178 : decode cX11_readsRule 178 = .ok (.aload_n 0, 1) := by decide +kernel
theorem dX11_readsRule_179 : decode cX11_readsRule 179 = .ok (.iload_n 2, 1) := by decide +kernel
theorem dX11_readsRule_180 : decode cX11_readsRule 180 = .ok (.aload_n 0, 1) := by decide +kernel
theorem dX11_readsRule_181 : decode cX11_readsRule 181 = .ok (.getfield 185, 3) := by decide +kernel
theorem dX11_readsRule_184 : decode cX11_readsRule 184 = .ok (.invokevirtual 169, 3) := by decide +kernel
theorem dX11_readsRule_187 : decode cX11_readsRule 187 = .ok (.iconst 0, 1) := by decide +kernel
theorem dX11_readsRule_188 : decode cX11_readsRule 188 = .ok (.ireturn, 1) := by decide +kernel
set_option maxRecDepth 20000 in
theorem ggX11_readsDigit_X11_sign : GoodIn wsX11_readsDigit wsX11_sign := goodIn_r _ [8, 1, 9, 10, 36, 37, 38, 39, 40, 41, 42, 43, 44, 45, 46, 47, 48, 49, 50, 51, 52, 53, 54, 55, 56, 57, 58, 59, 60, 61, 62] (by decide +kernel) (by decide +kernel)
set_option maxRecDepth 20000 in
theorem gX11_readsDigit_X11_sign : GoodIn wsX11_readsDigit (wsV RX11 182 RX11 yX11_sign wsX11_sign) := goodIn_app (goodIn_of _ (by decide +kernel)) ggX11_readsDigit_X11_sign
set_option maxRecDepth 20000 in
theorem ggX11_readsDigit_X11_in : GoodIn wsX11_readsDigit wsX11_in := goodIn_r _ [13] (by decide +kernel) (by decide +kernel)
set_option maxRecDepth 20000 in
theorem gX11_readsDigit_X11_in : GoodIn wsX11_readsDigit (va_wsS RX11 44 yX11_in wsX11_in) := goodIn_app (goodIn_of _ (by decide +kernel)) ggX11_readsDigit_X11_in
set_option maxRecDepth 20000 in
theorem ggX11_readsDigit_X11_says : GoodIn wsX11_readsDigit wsX11_says := goodIn_r _ [17, 18, 36, 37, 38, 39, 40, 41, 42, 43, 44, 45, 46, 47, 48, 49, 50, 51, 52, 53, 54, 55, 56, 57, 58, 59, 60, 61, 62] (by decide +kernel) (by decide +kernel)
set_option maxRecDepth 20000 in
theorem gX11_readsDigit_X11_says : GoodIn wsX11_readsDigit (wsV RX11 201 RX11 yX11_says wsX11_says) := goodIn_app (goodIn_of _ (by decide +kernel)) ggX11_readsDigit_X11_says
set_option maxRecDepth 20000 in
theorem ggX11_readsDigit_X11_takes : GoodIn wsX11_readsDigit wsX11_takes := goodIn_r _ [22, 1, 4, 5, 6, 7, 8, 9, 10, 36, 37, 38, 39, 40, 41, 42, 43, 44, 45, 46, 47, 48, 49, 50, 51, 52, 53, 54, 55, 56, 57, 58, 59, 60, 61, 62] (by decide +kernel) (by decide +kernel)
set_option maxRecDepth 20000 in
theorem gX11_readsDigit_X11_takes : GoodIn wsX11_readsDigit (wsV RX11 197 RX11 yX11_takes wsX11_takes) := goodIn_app (goodIn_of _ (by decide +kernel)) ggX11_readsDigit_X11_takes
set_option maxRecDepth 20000 in
theorem ggX11_readsDigit_X11_drops : GoodIn wsX11_readsDigit wsX11_drops := goodIn_r _ [26, 2, 27, 28, 29, 30, 7, 31, 11, 12, 13, 36, 37, 38, 39, 40, 41, 42, 43, 44, 45, 46, 47, 48, 49, 50, 51, 52, 53, 54, 55, 56, 57, 58, 59, 60, 61, 62] (by decide +kernel) (by decide +kernel)
set_option maxRecDepth 20000 in
theorem gX11_readsDigit_X11_drops : GoodIn wsX11_readsDigit (wsV RX11 88 RX11 yX11_drops wsX11_drops) := goodIn_app (goodIn_of _ (by decide +kernel)) ggX11_readsDigit_X11_drops
set_option maxRecDepth 20000 in
theorem ggX11_readsDigit_X11_goes : GoodIn wsX11_readsDigit wsX11_goes := goodIn_r _ [35, 2, 27, 11, 12, 7, 13, 36, 37, 38, 39, 40, 41, 42, 43, 44, 45, 46, 47, 48, 49, 50, 51, 52, 53, 54, 55, 56, 57, 58, 59, 60, 61, 62] (by decide +kernel) (by decide +kernel)
set_option maxRecDepth 20000 in
theorem gX11_readsDigit_X11_goes : GoodIn wsX11_readsDigit (wsV RX11 94 RX11 yX11_goes wsX11_goes) := goodIn_app (goodIn_of _ (by decide +kernel)) ggX11_readsDigit_X11_goes
theorem dX11_readsDigit_0 : decode cX11_readsDigit 0 = .ok (.aload_n 0, 1) := by decide +kernel
theorem dX11_readsDigit_1 : decode cX11_readsDigit 1 = .ok (.invokevirtual 182, 3) := by decide +kernel
theorem dX11_readsDigit_4 : decode cX11_readsDigit 4 = .ok (.bipush 48, 2) := by decide +kernel
theorem dX11_readsDigit_6 : decode cX11_readsDigit 6 = .ok (.isub, 1) := by decide +kernel
theorem dX11_readsDigit_7 : decode cX11_readsDigit 7 = .ok (.istore_n 3, 1) := by decide +kernel
theorem dX11_readsDigit_8 : decode cX11_readsDigit 8 = .ok (.iload_n 3, 1) := by decide +kernel
theorem dX11_readsDigit_9 : decode cX11_readsDigit 9 = .ok (.iconst 0, 1) := by decide +kernel
theorem dX11_readsDigit_10 : decode cX11_readsDigit 10 = .ok (.bipush 9, 2) := by decide +kernel
theorem dX11_readsDigit_12 : decode cX11_readsDigit 12 = .ok (.invokestatic 44, 3) := by decide +kernel
theorem dX11_readsDigit_15 : decode cX11_readsDigit 15 = .ok (.ifCond .ne 15, 3) := by decide +kernel
theorem dX11_readsDigit_18 : decode cX11_readsDigit 18 = .ok (.aload_n 0, 1) := by decide +kernel
theorem dX11_readsDigit_19 : decode cX11_readsDigit 19 = .ok (.iconst 1, 1) := by decide +kernel
theorem dX11_readsDigit_20 : decode cX11_readsDigit 20 = .ok (.aload_n 0, 1) := by decide +kernel
theorem dX11_readsDigit_21 : decode cX11_readsDigit 21 = .ok (.getfield 179, 3) := by decide +kernel
theorem dX11_readsDigit_24 : decode cX11_readsDigit 24 = .ok (.iload_n 1, 1) := by decide +kernel
theorem dX11_readsDigit_25 : decode cX11_readsDigit 25 = .ok (.isub, 1) := by decide +kernel
theorem dX11_readsDigit_26 : decode cX11_readsDigit 26 = .ok (.invokevirtual 201, 3) := by decide +kernel
theorem dX11_readsDigit_29 : decode cX11_readsDigit 29 = .ok (.ireturn, 1) := by decide +kernel
theorem dX11_readsDigit_30 : decode cX11_readsDigit 30 = .ok (.aload_n 0, 1) := by decide +kernel
theorem dX11_readsDigit_31 : decode cX11_readsDigit 31 = .ok (.dup, 1) := by decide +kernel
theorem dX11_readsDigit_32 : decode cX11_readsDigit 32 = .ok (.getfield 179, 3) := by decide +kernel
theorem dX11_readsDigit_35 : decode cX11_readsDigit 35 = .ok (.iconst 1, 1) := by decide +kernel
theorem dX11_readsDigit_36 : decode cX11_readsDigit 36 = .ok (.iadd, 1) := by decide +kernel
theorem dX11_readsDigit_37 : decode cX11_readsDigit 37 = .ok (.putfield 179, 3) := by decide +kernel
theorem dX11_readsDigit_40 : decode cX11_readsDigit 40 = .ok (.aload_n 0, 1) := by decide +kernel
theorem dX11_readsDigit_41 : decode cX11_readsDigit 41 = .ok (.bipush 59, 2) := by decide +kernel
theorem dX11_readsDigit_43 : decode cX11_readsDigit 43 = .ok (.invokevirtual 197, 3) := by decide +kernel
theorem dX11_readsDigit_46 : decode cX11_readsDigit 46 = .ok (.ifCond .ne 15, 3) := by decide +kernel
theorem dX11_readsDigit_49 : decode cX11_readsDigit 49 = .ok (.aload_n 0, 1) := by decide +kernel
theorem dX11_readsDigit_50 : decode cX11_readsDigit 50 = .ok (.iconst 1, 1) := by decide +kernel
theorem dX11_readsDigit_51 : decode cX11_readsDigit 51 = .ok (.aload_n 0, 1) := by decide +kernel
theorem dX11_readsDigit_52 : decode cX11_readsDigit 52 = .ok (.getfield 179, 3) := by decide +kernel
theorem dX11_readsDigit_55 : decode cX11_readsDigit 55 = .ok (.iload_n 1, 1) := by decide +kernel
theorem dX11_readsDigit_56 : decode cX11_readsDigit 56 = .ok (.isub, 1) := by decide +kernel
theorem dX11_readsDigit_57 : decode cX11_readsDigit 57 = .ok (.invokevirtual 201, 3) := by decide +kernel
theorem dX11_readsDigit_60 : decode cX11_readsDigit 60 = .ok (.ireturn, 1) := by decide +kernel
theorem dX11_readsDigit_61 : decode cX11_readsDigit 61 = .ok (.iload_n 2, 1) := by decide +kernel
theorem dX11_readsDigit_62 : decode cX11_readsDigit 62 = .ok (.ifCond .eq 11, 3) := by decide +kernel
theorem dX11_readsDigit_65 : decode cX11_readsDigit 65 = .ok (.aload_n 0, 1) := by decide +kernel
theorem dX11_readsDigit_66 : decode cX11_readsDigit 66 = .ok (.iload_n 3, 1) := by decide +kernel
theorem dX11_readsDigit_67 : decode cX11_readsDigit 67 = .ok (.invokevirtual 88, 3) := by decide +kernel
theorem dX11_readsDigit_70 : decode cX11_readsDigit 70 = .ok (.goto 8, 3) := by decide +kernel
theorem dX11_readsDigit_73 : decode cX11_readsDigit 73 = .ok (.aload_n 0, 1) := by decide +kernel
theorem dX11_readsDigit_74 : decode cX11_readsDigit 74 = .ok (.iload_n 3, 1) := by decide +kernel
theorem dX11_readsDigit_75 : decode cX11_readsDigit 75 = .ok (.invokevirtual 94, 3) := by decide +kernel
theorem dX11_readsDigit_78 : decode cX11_readsDigit 78 = .ok (.istore 4, 2) := by decide +kernel
theorem dX11_readsDigit_80 : decode cX11_readsDigit 80 = .ok (.iload 4, 2) := by decide +kernel
theorem dX11_readsDigit_82 : decode cX11_readsDigit 82 = .ok (.ldc 78, 2) := by decide +kernel
theorem dX11_readsDigit_84 : decode cX11_readsDigit 84 = .ok (.if_icmp .ne 13, 3) := by decide +kernel
theorem dX11_readsDigit_87 : decode cX11_readsDigit 87 = .ok (.aload_n 0, 1) := by decide +kernel
theorem dX11_readsDigit_88 : decode cX11_readsDigit 88 = .ok (.iconst 2, 1) := by decide +kernel
theorem dX11_readsDigit_89 : decode cX11_readsDigit 89 = .ok (.ldc 43, 2) := by decide +kernel
theorem dX11_readsDigit_91 : decode cX11_readsDigit 91 = .ok (.invokevirtual 201, 3) := by decide +kernel
theorem dX11_readsDigit_94 : decode cX11_readsDigit 94 = .ok (.goto 4, 3) := by decide +kernel
theorem dX11_readsDigit_97 : decode cX11_readsDigit 97 = .ok (.iconst 0, 1) := by decide +kernel
theorem dX11_readsDigit_98 : decode cX11_readsDigit 98 = .ok (.ireturn, 1) := by decide +kernel
set_option maxRecDepth 20000 in
theorem ggX11_readsSet_X11_readsWord : GoodIn wsX11_readsSet wsX11_readsWord := goodIn_r _ [10, 5, 2, 1, 11, 12, 13, 9, 14, 15, 16, 17, 18, 19, 29, 30, 31, 32, 33, 34, 35, 36, 37, 38, 39, 40, 41, 42, 43, 44, 45, 46, 47, 48, 49, 50, 51, 52, 53, 54, 55] (by decide +kernel) (by decide +kernel)
set_option maxRecDepth 20000 in
theorem gX11_readsSet_X11_readsWord : GoodIn wsX11_readsSet (wsV RX11 194 RX11 yX11_readsWord wsX11_readsWord) := goodIn_app (goodIn_of _ (by decide +kernel)) ggX11_readsSet_X11_readsWord
set_option maxRecDepth 20000 in
theorem ggX11_readsSet_X11_takes : GoodIn wsX11_readsSet wsX11_takes := goodIn_r _ [23, 1, 11, 12, 13, 9, 14, 15, 16, 29, 30, 31, 32, 33, 34, 35, 36, 37, 38, 39, 40, 41, 42, 43, 44, 45, 46, 47, 48, 49, 50, 51, 52, 53, 54, 55] (by decide +kernel) (by decide +kernel)
set_option maxRecDepth 20000 in
theorem gX11_readsSet_X11_takes : GoodIn wsX11_readsSet (wsV RX11 197 RX11 yX11_takes wsX11_takes) := goodIn_app (goodIn_of _ (by decide +kernel)) ggX11_readsSet_X11_takes
set_option maxRecDepth 20000 in
theorem ggX11_readsSet_X11_says : GoodIn wsX11_readsSet wsX11_says := goodIn_r _ [27, 28, 29, 30, 31, 32, 33, 34, 35, 36, 37, 38, 39, 40, 41, 42, 43, 44, 45, 46, 47, 48, 49, 50, 51, 52, 53, 54, 55] (by decide +kernel) (by decide +kernel)
set_option maxRecDepth 20000 in
theorem gX11_readsSet_X11_says : GoodIn wsX11_readsSet (wsV RX11 201 RX11 yX11_says wsX11_says) := goodIn_app (goodIn_of _ (by decide +kernel)) ggX11_readsSet_X11_says
theorem dX11_readsSet_0 : decode cX11_readsSet 0 = .ok (.aload_n 0, 1) := by decide +kernel
theorem dX11_readsSet_1 : decode cX11_readsSet 1 = .ok (.invokevirtual 194, 3) := by decide +kernel
theorem dX11_readsSet_4 : decode cX11_readsSet 4 = .ok (.aload_n 0, 1) := by decide +kernel
theorem dX11_readsSet_5 : decode cX11_readsSet 5 = .ok (.bipush 59, 2) := by decide +kernel
theorem dX11_readsSet_7 : decode cX11_readsSet 7 = .ok (.invokevirtual 197, 3) := by decide +kernel
theorem dX11_readsSet_10 : decode cX11_readsSet 10 = .ok (.ifCond .ne 15, 3) := by decide +kernel
theorem dX11_readsSet_13 : decode cX11_readsSet 13 = .ok (.aload_n 0, 1) := by decide +kernel
theorem dX11_readsSet_14 : decode cX11_readsSet 14 = .ok (.iconst 1, 1) := by decide +kernel
theorem dX11_readsSet_15 : decode cX11_readsSet 15 = .ok (.aload_n 0, 1) := by decide +kernel
theorem dX11_readsSet_16 : decode cX11_readsSet 16 = .ok (.getfield 179, 3) := by decide +kernel
theorem dX11_readsSet_19 : decode cX11_readsSet 19 = .ok (.iload_n 1, 1) := by decide +kernel
theorem dX11_readsSet_20 : decode cX11_readsSet 20 = .ok (.isub, 1) := by decide +kernel
theorem dX11_readsSet_21 : decode cX11_readsSet 21 = .ok (.invokevirtual 201, 3) := by decide +kernel
theorem dX11_readsSet_24 : decode cX11_readsSet 24 = .ok (.ireturn, 1) := by decide +kernel
theorem dX11_readsSet_25 : decode cX11_readsSet 25 = .ok (.aload_n 0, 1) := by decide +kernel
theorem dX11_readsSet_26 : decode cX11_readsSet 26 = .ok (.getfield 188, 3) := by decide +kernel
theorem dX11_readsSet_29 : decode cX11_readsSet 29 = .ok (.bipush 12, 2) := by decide +kernel
theorem dX11_readsSet_31 : decode cX11_readsSet 31 = .ok (.if_icmp .le 11, 3) := by decide +kernel
theorem dX11_readsSet_34 : decode cX11_readsSet 34 = .ok (.aload_n 0, 1) := by decide +kernel
theorem dX11_readsSet_35 : decode cX11_readsSet 35 = .ok (.iconst 2, 1) := by decide +kernel
theorem dX11_readsSet_36 : decode cX11_readsSet 36 = .ok (.ldc 43, 2) := by decide +kernel
theorem dX11_readsSet_38 : decode cX11_readsSet 38 = .ok (.invokevirtual 201, 3) := by decide +kernel
theorem dX11_readsSet_41 : decode cX11_readsSet 41 = .ok (.ireturn, 1) := by decide +kernel
theorem dX11_readsSet_42 : decode cX11_readsSet 42 = .ok (.aload_n 0, 1) := by decide +kernel
theorem dX11_readsSet_43 : decode cX11_readsSet 43 = .ok (.getfield 7, 3) := by decide +kernel
theorem dX11_readsSet_46 : decode cX11_readsSet 46 = .ok (.iconst 0, 1) := by decide +kernel
theorem dX11_readsSet_47 : decode cX11_readsSet 47 = .ok (.aload_n 0, 1) := by decide +kernel
theorem dX11_readsSet_48 : decode cX11_readsSet 48 = .ok (.getfield 185, 3) := by decide +kernel
theorem dX11_readsSet_51 : decode cX11_readsSet 51 = .ok (.iastore, 1) := by decide +kernel
theorem dX11_readsSet_52 : decode cX11_readsSet 52 = .ok (.iconst 0, 1) := by decide +kernel
theorem dX11_readsSet_53 : decode cX11_readsSet 53 = .ok (.ireturn, 1) := by decide +kernel
set_option maxRecDepth 20000 in
theorem ggX11_readsDeed_X11_takes : GoodIn wsX11_readsDeed wsX11_takes := goodIn_r _ [7, 1, 8, 9, 10, 6, 11, 12, 13, 66, 67, 68, 69, 70, 71, 72, 73, 74, 75, 76, 77, 78, 79, 80, 81, 82, 83, 84, 85, 86, 87, 88, 89, 90, 91, 92] (by decide +kernel) (by decide +kernel)
set_option maxRecDepth 20000 in
theorem gX11_readsDeed_X11_takes : GoodIn wsX11_readsDeed (wsV RX11 197 RX11 yX11_takes wsX11_takes) := goodIn_app (goodIn_of _ (by decide +kernel)) ggX11_readsDeed_X11_takes
set_option maxRecDepth 20000 in
theorem ggX11_readsDeed_X11_says : GoodIn wsX11_readsDeed wsX11_says := goodIn_r _ [17, 18, 66, 67, 68, 69, 70, 71, 72, 73, 74, 75, 76, 77, 78, 79, 80, 81, 82, 83, 84, 85, 86, 87, 88, 89, 90, 91, 92] (by decide +kernel) (by decide +kernel)
set_option maxRecDepth 20000 in
theorem gX11_readsDeed_X11_says : GoodIn wsX11_readsDeed (wsV RX11 201 RX11 yX11_says wsX11_says) := goodIn_app (goodIn_of _ (by decide +kernel)) ggX11_readsDeed_X11_says
set_option maxRecDepth 20000 in
theorem ggX11_readsDeed_X11_steps : GoodIn wsX11_readsDeed wsX11_steps := goodIn_r _ [22, 23, 24, 25, 26, 27, 28, 29, 6, 30, 31, 32, 33, 34, 35, 36, 37, 38, 39, 40, 41, 42, 43, 44, 45, 46, 47, 48, 66, 67, 68, 69, 70, 71, 72, 73, 74, 75, 76, 77, 78, 79, 80, 81, 82, 83, 84, 85, 86, 87, 88, 89, 90, 91, 92] (by decide +kernel) (by decide +kernel)
set_option maxRecDepth 20000 in
theorem gX11_readsDeed_X11_steps : GoodIn wsX11_readsDeed (wsV RX11 104 RX11 yX11_steps wsX11_steps) := goodIn_app (goodIn_of _ (by decide +kernel)) ggX11_readsDeed_X11_steps
set_option maxRecDepth 20000 in
theorem ggX11_readsDeed_X11_normals : GoodIn wsX11_readsDeed wsX11_normals := goodIn_r _ [52, 23, 24, 53, 54, 55, 56, 57, 58, 59, 6, 60, 61, 62, 63, 64, 25, 26, 65, 27, 28, 29, 30, 31, 32, 33, 34, 35, 36, 37, 38, 39, 40, 41, 42, 43, 44, 45, 46, 47, 48, 66, 67, 68, 69, 70, 71, 72, 73, 74, 75, 76, 77, 78, 79, 80, 81, 82, 83, 84, 85, 86, 87, 88, 89, 90, 91, 92] (by decide +kernel) (by decide +kernel)
set_option maxRecDepth 20000 in
theorem gX11_readsDeed_X11_normals : GoodIn wsX11_readsDeed (wsV RX11 116 RX11 yX11_normals wsX11_normals) := goodIn_app (goodIn_of _ (by decide +kernel)) ggX11_readsDeed_X11_normals
theorem dX11_readsDeed_0 : decode cX11_readsDeed 0 = .ok (.aload_n 0, 1) := by decide +kernel
theorem dX11_readsDeed_1 : decode cX11_readsDeed 1 = .ok (.bipush 59, 2) := by decide +kernel
theorem dX11_readsDeed_3 : decode cX11_readsDeed 3 = .ok (.invokevirtual 197, 3) := by decide +kernel
theorem dX11_readsDeed_6 : decode cX11_readsDeed 6 = .ok (.ifCond .ne 15, 3) := by decide +kernel
theorem dX11_readsDeed_9 : decode cX11_readsDeed 9 = .ok (.aload_n 0, 1) := by decide +kernel
theorem dX11_readsDeed_10 : decode cX11_readsDeed 10 = .ok (.iconst 1, 1) := by decide +kernel
theorem dX11_readsDeed_11 : decode cX11_readsDeed 11 = .ok (.aload_n 0, 1) := by decide +kernel
theorem dX11_readsDeed_12 : decode cX11_readsDeed 12 = .ok (.getfield 179, 3) := by decide +kernel
theorem dX11_readsDeed_15 : decode cX11_readsDeed 15 = .ok (.iload_n 1, 1) := by decide +kernel
theorem dX11_readsDeed_16 : decode cX11_readsDeed 16 = .ok (.isub, 1) := by decide +kernel
theorem dX11_readsDeed_17 : decode cX11_readsDeed 17 = .ok (.invokevirtual 201, 3) := by decide +kernel
theorem dX11_readsDeed_20 : decode cX11_readsDeed 20 = .ok (.ireturn, 1) := by decide +kernel
theorem dX11_readsDeed_21 : decode cX11_readsDeed 21 = .ok (.iload_n 2, 1) := by decide +kernel
theorem dX11_readsDeed_22 : decode cX11_readsDeed 22 = .ok (.ifCond .eq 10, 3) := by decide +kernel
theorem dX11_readsDeed_25 : decode cX11_readsDeed 25 = .ok (.aload_n 0, 1) := by decide +kernel
theorem dX11_readsDeed_26 : decode cX11_readsDeed 26 = .ok (.invokevirtual 104, 3) := by decide +kernel
theorem dX11_readsDeed_29 : decode cX11_readsDeed 29 = .ok (.goto 7, 3) := by decide +kernel
theorem dX11_readsDeed_32 : decode cX11_readsDeed 32 = .ok (.aload_n 0, 1) := by decide +kernel
theorem dX11_readsDeed_33 : decode cX11_readsDeed 33 = .ok (.invokevirtual 116, 3) := by decide +kernel
theorem dX11_readsDeed_36 : decode cX11_readsDeed 36 = .ok (.istore_n 3, 1) := by decide +kernel
theorem dX11_readsDeed_37 : decode cX11_readsDeed 37 = .ok (.iload_n 3, 1) := by decide +kernel
theorem dX11_readsDeed_38 : decode cX11_readsDeed 38 = .ok (.ldc 78, 2) := by decide +kernel
theorem dX11_readsDeed_40 : decode cX11_readsDeed 40 = .ok (.if_icmp .le 7, 3) := by decide +kernel
theorem dX11_readsDeed_43 : decode cX11_readsDeed 43 = .ok (.iconst 0, 1) := by decide +kernel
theorem dX11_readsDeed_44 : decode cX11_readsDeed 44 = .ok (.goto 17, 3) := by decide +kernel
theorem dX11_readsDeed_47 : decode cX11_readsDeed 47 = .ok (.aload_n 0, 1) := by decide +kernel
theorem dX11_readsDeed_48 : decode cX11_readsDeed 48 = .ok (.iconst 3, 1) := by decide +kernel
theorem dX11_readsDeed_49 : decode cX11_readsDeed 49 = .ok (.iload_n 2, 1) := by decide +kernel
theorem dX11_readsDeed_50 : decode cX11_readsDeed 50 = .ok (.ifCond .eq 7, 3) := by decide +kernel
theorem dX11_readsDeed_53 : decode cX11_readsDeed 53 = .ok (.iconst 4, 1) := by decide +kernel
theorem dX11_readsDeed_54 : decode cX11_readsDeed 54 = .ok (.goto 4, 3) := by decide +kernel
theorem dX11_readsDeed_57 : decode cX11_readsDeed 57 = .ok (.iconst 5, 1) := by decide +kernel
theorem dX11_readsDeed_58 : decode cX11_readsDeed 58 = .ok (.invokevirtual 201, 3) := by decide +kernel
theorem dX11_readsDeed_61 : decode cX11_readsDeed 61 = .ok (.ireturn, 1) := by decide +kernel
set_option maxRecDepth 20000 in
theorem ggX11_doesNext_X11_sign : GoodIn wsX11_doesNext wsX11_sign := goodIn_r _ [6, 1, 7, 8, 108, 109, 110, 111, 112, 113, 114, 115, 116, 117, 118, 119, 120, 121, 122, 123, 124, 125, 126, 127, 128, 129, 130, 131, 132, 133, 134] (by decide +kernel) (by decide +kernel)
set_option maxRecDepth 20000 in
theorem gX11_doesNext_X11_sign : GoodIn wsX11_doesNext (wsV RX11 182 RX11 yX11_sign wsX11_sign) := goodIn_app (goodIn_of _ (by decide +kernel)) ggX11_doesNext_X11_sign
set_option maxRecDepth 20000 in
theorem ggX11_doesNext_X11_readsRule : GoodIn wsX11_doesNext wsX11_readsRule := goodIn_r _ [12, 13, 14, 1, 15, 16, 17, 18, 19, 5, 20, 2, 3, 4, 6, 7, 8, 21, 22, 23, 24, 25, 26, 27, 28, 29, 30, 31, 32, 33, 34, 35, 36, 37, 38, 39, 40, 41, 42, 43, 44, 108, 109, 110, 111, 112, 113, 114, 115, 116, 117, 118, 119, 120, 121, 122, 123, 124, 125, 126, 127, 128, 129, 130, 131, 132, 133, 134] (by decide +kernel) (by decide +kernel)
set_option maxRecDepth 20000 in
theorem gX11_doesNext_X11_readsRule : GoodIn wsX11_doesNext (wsV RX11 204 RX11 yX11_readsRule wsX11_readsRule) := goodIn_app (goodIn_of _ (by decide +kernel)) ggX11_doesNext_X11_readsRule
set_option maxRecDepth 20000 in
theorem ggX11_doesNext_X11_readsDigit : GoodIn wsX11_doesNext wsX11_readsDigit := goodIn_r _ [48, 1, 49, 15, 2, 3, 4, 5, 6, 7, 8, 21, 22, 23, 28, 29, 30, 31, 32, 24, 25, 26, 27, 50, 51, 52, 53, 16, 54, 55, 56, 57, 58, 59, 60, 61, 108, 109, 110, 111, 112, 113, 114, 115, 116, 117, 118, 119, 120, 121, 122, 123, 124, 125, 126, 127, 128, 129, 130, 131, 132, 133, 134] (by decide +kernel) (by decide +kernel)
set_option maxRecDepth 20000 in
theorem gX11_doesNext_X11_readsDigit : GoodIn wsX11_doesNext (wsV RX11 207 RX11 yX11_readsDigit wsX11_readsDigit) := goodIn_app (goodIn_of _ (by decide +kernel)) ggX11_doesNext_X11_readsDigit
set_option maxRecDepth 20000 in
theorem ggX11_doesNext_X11_readsSet : GoodIn wsX11_doesNext wsX11_readsSet := goodIn_r _ [65, 1, 14, 15, 16, 13, 17, 18, 19, 5, 20, 2, 3, 4, 6, 7, 8, 21, 22, 23, 24, 25, 26, 27, 28, 29, 30, 31, 32, 108, 109, 110, 111, 112, 113, 114, 115, 116, 117, 118, 119, 120, 121, 122, 123, 124, 125, 126, 127, 128, 129, 130, 131, 132, 133, 134] (by decide +kernel) (by decide +kernel)
set_option maxRecDepth 20000 in
theorem gX11_doesNext_X11_readsSet : GoodIn wsX11_doesNext (wsV RX11 211 RX11 yX11_readsSet wsX11_readsSet) := goodIn_app (goodIn_of _ (by decide +kernel)) ggX11_doesNext_X11_readsSet
set_option maxRecDepth 20000 in
theorem ggX11_doesNext_X11_readsDeed : GoodIn wsX11_doesNext wsX11_readsDeed := goodIn_r _ [69, 1, 49, 24, 25, 26, 5, 27, 2, 3, 4, 6, 7, 8, 28, 29, 30, 31, 32, 70, 71, 72, 73, 16, 74, 75, 76, 77, 78, 79, 80, 81, 82, 83, 33, 34, 35, 36, 84, 85, 86, 87, 88, 89, 90, 37, 38, 39, 40, 91, 92, 93, 94, 95, 96, 97, 98, 99, 100, 101, 102, 103, 104, 105, 106, 107, 108, 109, 110, 111, 112, 113, 114, 115, 116, 117, 118, 119, 120, 121, 122, 123, 124, 125, 126, 127, 128, 129, 130, 131, 132, 133, 134] (by decide +kernel) (by decide +kernel)
set_option maxRecDepth 20000 in
theorem gX11_doesNext_X11_readsDeed : GoodIn wsX11_doesNext (wsV RX11 214 RX11 yX11_readsDeed wsX11_readsDeed) := goodIn_app (goodIn_of _ (by decide +kernel)) ggX11_doesNext_X11_readsDeed
set_option maxRecDepth 20000 in
theorem ggX11_doesNext_X11_says : GoodIn wsX11_doesNext wsX11_says := goodIn_r _ [31, 32, 108, 109, 110, 111, 112, 113, 114, 115, 116, 117, 118, 119, 120, 121, 122, 123, 124, 125, 126, 127, 128, 129, 130, 131, 132, 133, 134] (by decide +kernel) (by decide +kernel)
set_option maxRecDepth 20000 in
theorem gX11_doesNext_X11_says : GoodIn wsX11_doesNext (wsV RX11 201 RX11 yX11_says wsX11_says) := goodIn_app (goodIn_of _ (by decide +kernel)) ggX11_doesNext_X11_says
theorem dX11_doesNext_0 : decode cX11_doesNext 0 = .ok (.aload_n 0, 1) := by decide +kernel
theorem dX11_doesNext_1 : decode cX11_doesNext 1 = .ok (.getfield 179, 3) := by decide +kernel
theorem dX11_doesNext_4 : decode cX11_doesNext 4 = .ok (.istore_n 1, 1) := by decide +kernel
theorem dX11_doesNext_5 : decode cX11_doesNext 5 = .ok (.aload_n 0, 1) := by decide +kernel
theorem dX11_doesNext_6 : decode cX11_doesNext 6 = .ok (.invokevirtual 182, 3) := by decide +kernel
theorem dX11_doesNext_9 : decode cX11_doesNext 9 = .ok (.istore_n 2, 1) := by decide +kernel
theorem dX11_doesNext_10 : decode cX11_doesNext 10 = .ok (.aload_n 0, 1) := by decide +kernel
theorem dX11_doesNext_11 : decode cX11_doesNext 11 = .ok (.dup, 1) := by decide +kernel
theorem dX11_doesNext_12 : decode cX11_doesNext 12 = .ok (.getfield 179, 3) := by decide +kernel
theorem dX11_doesNext_15 : decode cX11_doesNext 15 = .ok (.iconst 1, 1) := by decide +kernel
theorem dX11_doesNext_16 : decode cX11_doesNext 16 = .ok (.iadd, 1) := by decide +kernel
theorem dX11_doesNext_17 : decode cX11_doesNext 17 = .ok (.putfield 179, 3) := by decide +kernel
theorem dX11_doesNext_20 : decode cX11_doesNext 20 = .ok (.iload_n 2, 1) := by decide +kernel
theorem dX11_doesNext_21 : decode cX11_doesNext 21 = .ok (.lookupswitch 99 #[(43, 59), (45, 65), (61, 79), (110, 92), (115, 85), (119, 72)], 59) := by decide +kernel
theorem dX11_doesNext_80 : decode cX11_doesNext 80 = .ok (.aload_n 0, 1) := by decide +kernel
theorem dX11_doesNext_81 : decode cX11_doesNext 81 = .ok (.iload_n 1, 1) := by decide +kernel
theorem dX11_doesNext_82 : decode cX11_doesNext 82 = .ok (.invokevirtual 204, 3) := by decide +kernel
theorem dX11_doesNext_85 : decode cX11_doesNext 85 = .ok (.ireturn, 1) := by decide +kernel
theorem dX11_doesNext_86 : decode cX11_doesNext 86 = .ok (.aload_n 0, 1) := by decide +kernel
theorem dX11_doesNext_87 : decode cX11_doesNext 87 = .ok (.iload_n 1, 1) := by decide +kernel
theorem dX11_doesNext_88 : decode cX11_doesNext 88 = .ok (.iconst 1, 1) := by decide +kernel
theorem dX11_doesNext_89 : decode cX11_doesNext 89 = .ok (.invokevirtual 207, 3) := by decide +kernel
theorem dX11_doesNext_92 : decode cX11_doesNext 92 = .ok (.ireturn, 1) := by decide +kernel
theorem dX11_doesNext_93 : decode cX11_doesNext 93 = .ok (.aload_n 0, 1) := by decide +kernel
theorem dX11_doesNext_94 : decode cX11_doesNext 94 = .ok (.iload_n 1, 1) := by decide +kernel
theorem dX11_doesNext_95 : decode cX11_doesNext 95 = .ok (.iconst 0, 1) := by decide +kernel
theorem dX11_doesNext_96 : decode cX11_doesNext 96 = .ok (.invokevirtual 207, 3) := by decide +kernel
theorem dX11_doesNext_99 : decode cX11_doesNext 99 = .ok (.ireturn, 1) := by decide +kernel
theorem dX11_doesNext_100 : decode cX11_doesNext 100 = .ok (.aload_n 0, 1) := by decide +kernel
theorem dX11_doesNext_101 : decode cX11_doesNext 101 = .ok (.iload_n 1, 1) := by decide +kernel
theorem dX11_doesNext_102 : decode cX11_doesNext 102 = .ok (.invokevirtual 211, 3) := by decide +kernel
theorem dX11_doesNext_105 : decode cX11_doesNext 105 = .ok (.ireturn, 1) := by decide +kernel
theorem dX11_doesNext_106 : decode cX11_doesNext 106 = .ok (.aload_n 0, 1) := by decide +kernel
theorem dX11_doesNext_107 : decode cX11_doesNext 107 = .ok (.iload_n 1, 1) := by decide +kernel
theorem dX11_doesNext_108 : decode cX11_doesNext 108 = .ok (.iconst 1, 1) := by decide +kernel
theorem dX11_doesNext_109 : decode cX11_doesNext 109 = .ok (.invokevirtual 214, 3) := by decide +kernel
theorem dX11_doesNext_112 : decode cX11_doesNext 112 = .ok (.ireturn, 1) := by decide +kernel
theorem dX11_doesNext_113 : decode cX11_doesNext 113 = .ok (.aload_n 0, 1) := by decide +kernel
theorem dX11_doesNext_114 : decode cX11_doesNext 114 = .ok (.iload_n 1, 1) := by decide +kernel
theorem dX11_doesNext_115 : decode cX11_doesNext 115 = .ok (.iconst 0, 1) := by decide +kernel
theorem dX11_doesNext_116 : decode cX11_doesNext 116 = .ok (.invokevirtual 214, 3) := by decide +kernel
theorem dX11_doesNext_119 : decode cX11_doesNext 119 = .ok (.ireturn, 1) := by decide +kernel
theorem dX11_doesNext_120 : decode cX11_doesNext 120 = .ok (.aload_n 0, 1) := by decide +kernel
theorem dX11_doesNext_121 : decode cX11_doesNext 121 = .ok (.iconst 1, 1) := by decide +kernel
theorem dX11_doesNext_122 : decode cX11_doesNext 122 = .ok (.iconst 0, 1) := by decide +kernel
theorem dX11_doesNext_123 : decode cX11_doesNext 123 = .ok (.invokevirtual 201, 3) := by decide +kernel
theorem dX11_doesNext_126 : decode cX11_doesNext 126 = .ok (.ireturn, 1) := by decide +kernel
set_option maxRecDepth 20000 in
theorem ggX11_faulty_X11_doesNext : GoodIn wsX11_faulty wsX11_doesNext := goodIn_r _ [11, 4, 12, 13, 14, 10, 15, 5, 16, 17, 18, 19, 20, 21, 22, 3, 2, 23, 24, 25, 26, 27, 28, 29, 30, 31, 32, 33, 34, 35, 36, 37, 38, 39, 40, 41, 42, 43, 44, 45, 46, 47, 48, 49, 50, 51, 52, 53, 54, 55, 56, 57, 58, 59, 60, 61, 62, 63, 64, 65, 66, 67, 68, 69, 70, 71, 72, 73, 74, 75, 76, 77, 78, 79, 80, 81, 82, 83, 84, 85, 86, 87, 88, 89, 90, 91, 92, 93, 94, 95, 96, 97, 98, 99, 100, 101, 102, 103, 104, 105, 106, 107, 108, 109, 110, 111, 112, 113, 114, 115, 116, 117, 118, 119, 120, 121, 122, 123, 124, 125, 126, 127, 128, 129, 130, 131, 132, 133, 134, 135, 136, 137, 138, 139, 140] (by decide +kernel) (by decide +kernel)
set_option maxRecDepth 20000 in
theorem gX11_faulty_X11_doesNext : GoodIn wsX11_faulty (wsV RX11 217 RX11 yX11_doesNext wsX11_doesNext) := goodIn_app (goodIn_of _ (by decide +kernel)) ggX11_faulty_X11_doesNext
theorem dX11_faulty_0 : decode cX11_faulty 0 = .ok (.iconst 0, 1) := by decide +kernel
theorem dX11_faulty_1 : decode cX11_faulty 1 = .ok (.istore_n 1, 1) := by decide +kernel
theorem dX11_faulty_2 : decode cX11_faulty 2 = .ok (.iload_n 1, 1) := by decide +kernel
theorem dX11_faulty_3 : decode cX11_faulty 3 = .ok (.bipush 52, 2) := by decide +kernel
theorem dX11_faulty_5 : decode cX11_faulty 5 = .ok (.if_icmp .ge 21, 3) := by decide +kernel
theorem dX11_faulty_8 : decode cX11_faulty 8 = .ok (.aload_n 0, 1) := by decide +kernel
theorem dX11_faulty_9 : decode cX11_faulty 9 = .ok (.getfield 19, 3) := by decide +kernel
theorem dX11_faulty_12 : decode cX11_faulty 12 = .ok (.iload_n 1, 1) := by decide +kernel
theorem dX11_faulty_13 : decode cX11_faulty 13 = .ok (.aload_n 0, 1) := by decide +kernel
theorem dX11_faulty_14 : decode cX11_faulty 14 = .ok (.getfield 7, 3) := by decide +kernel
theorem dX11_faulty_17 : decode cX11_faulty 17 = .ok (.iload_n 1, 1) := by decide +kernel
theorem dX11_faulty_18 : decode cX11_faulty 18 = .ok (.iaload, 1) := by decide +kernel
theorem dX11_faulty_19 : decode cX11_faulty 19 = .ok (.iastore, 1) := by decide +kernel
theorem dX11_faulty_20 : decode cX11_faulty 20 = .ok (.iinc 1 1, 3) := by decide +kernel
theorem dX11_faulty_23 : decode cX11_faulty 23 = .ok (.goto (-21), 3) := by decide +kernel
theorem dX11_faulty_26 : decode cX11_faulty 26 = .ok (.ldc 43, 2) := by decide +kernel
theorem dX11_faulty_28 : decode cX11_faulty 28 = .ok (.istore_n 1, 1) := by decide +kernel
theorem dX11_faulty_29 : decode cX11_faulty 29 = .ok (.aload_n 0, 1) := by decide +kernel
theorem dX11_faulty_30 : decode cX11_faulty 30 = .ok (.iconst 0, 1) := by decide +kernel
theorem dX11_faulty_31 : decode cX11_faulty 31 = .ok (.putfield 179, 3) := by decide +kernel
theorem dX11_faulty_34 : decode cX11_faulty 34 = .ok (.aload_n 0, 1) := by decide +kernel
theorem dX11_faulty_35 : decode cX11_faulty 35 = .ok (.getfield 179, 3) := by decide +kernel
theorem dX11_faulty_38 : decode cX11_faulty 38 = .ok (.aload_n 0, 1) := by decide +kernel
theorem dX11_faulty_39 : decode cX11_faulty 39 = .ok (.getfield 176, 3) := by decide +kernel
theorem dX11_faulty_42 : decode cX11_faulty 42 = .ok (.if_icmp .ge 38, 3) := by decide +kernel
theorem dX11_faulty_45 : decode cX11_faulty 45 = .ok (.iload_n 1, 1) := by decide +kernel
theorem dX11_faulty_46 : decode cX11_faulty 46 = .ok (.ldc 43, 2) := by decide +kernel
theorem dX11_faulty_48 : decode cX11_faulty 48 = .ok (.if_icmp .ne 32, 3) := by decide +kernel
theorem dX11_faulty_51 : decode cX11_faulty 51 = .ok (.aload_n 0, 1) := by decide +kernel
theorem dX11_faulty_52 : decode cX11_faulty 52 = .ok (.getfield 179, 3) := by decide +kernel
theorem dX11_faulty_55 : decode cX11_faulty 55 = .ok (.istore_n 2, 1) := by decide +kernel
theorem dX11_faulty_56 : decode cX11_faulty 56 = .ok (.aload_n 0, 1) := by decide +kernel
theorem dX11_faulty_57 : decode cX11_faulty 57 = .ok (.aload_n 0, 1) := by decide +kernel
theorem dX11_faulty_58 : decode cX11_faulty 58 = .ok (.invokevirtual 217, 3) := by decide +kernel
theorem dX11_faulty_61 : decode cX11_faulty 61 = .ok (.putfield 220, 3) := by decide +kernel
theorem dX11_faulty_64 : decode cX11_faulty 64 = .ok (.aload_n 0, 1) := by decide +kernel
theorem dX11_faulty_65 : decode cX11_faulty 65 = .ok (.getfield 220, 3) := by decide +kernel
theorem dX11_faulty_68 : decode cX11_faulty 68 = .ok (.ifCond .le 7, 3) := by decide +kernel
theorem dX11_faulty_71 : decode cX11_faulty 71 = .ok (.iload_n 2, 1) := by decide +kernel
theorem dX11_faulty_72 : decode cX11_faulty 72 = .ok (.goto 4, 3) := by decide +kernel
theorem dX11_faulty_75 : decode cX11_faulty 75 = .ok (.iload_n 1, 1) := by decide +kernel
theorem dX11_faulty_76 : decode cX11_faulty 76 = .ok (.istore_n 1, 1) := by decide +kernel
theorem dX11_faulty_77 : decode cX11_faulty 77 = .ok (.goto (-43), 3) := by decide +kernel
theorem dX11_faulty_80 : decode cX11_faulty 80 = .ok (.iconst 0, 1) := by decide +kernel
theorem dX11_faulty_81 : decode cX11_faulty 81 = .ok (.istore_n 2, 1) := by decide +kernel
theorem dX11_faulty_82 : decode cX11_faulty 82 = .ok (.iload_n 2, 1) := by decide +kernel
theorem dX11_faulty_83 : decode cX11_faulty 83 = .ok (.bipush 52, 2) := by decide +kernel
theorem dX11_faulty_85 : decode cX11_faulty 85 = .ok (.if_icmp .ge 21, 3) := by decide +kernel
theorem dX11_faulty_88 : decode cX11_faulty 88 = .ok (.aload_n 0, 1) := by decide +kernel
theorem dX11_faulty_89 : decode cX11_faulty 89 = .ok (.getfield 7, 3) := by decide +kernel
theorem dX11_faulty_92 : decode cX11_faulty 92 = .ok (.iload_n 2, 1) := by decide +kernel
theorem dX11_faulty_93 : decode cX11_faulty 93 = .ok (.aload_n 0, 1) := by decide +kernel
theorem dX11_faulty_94 : decode cX11_faulty 94 = .ok (.getfield 19, 3) := by decide +kernel
theorem dX11_faulty_97 : decode cX11_faulty 97 = .ok (.iload_n 2, 1) := by decide +kernel
theorem dX11_faulty_98 : decode cX11_faulty 98 = .ok (.iaload, 1) := by decide +kernel
theorem dX11_faulty_99 : decode cX11_faulty 99 = .ok (.iastore, 1) := by decide +kernel
theorem dX11_faulty_100 : decode cX11_faulty 100 = .ok (.iinc 2 1, 3) := by decide +kernel
theorem dX11_faulty_103 : decode cX11_faulty 103 = .ok (.goto (-21), 3) := by decide +kernel
theorem dX11_faulty_106 : decode cX11_faulty 106 = .ok (.iload_n 1, 1) := by decide +kernel
theorem dX11_faulty_107 : decode cX11_faulty 107 = .ok (.ireturn, 1) := by decide +kernel
set_option maxRecDepth 20000 in
theorem ggX11_fault_X11_in : GoodIn wsX11_fault wsX11_in := goodIn_r _ [8] (by decide +kernel) (by decide +kernel)
set_option maxRecDepth 20000 in
theorem gX11_fault_X11_in : GoodIn wsX11_fault (va_wsS RX11 44 yX11_in wsX11_in) := goodIn_app (goodIn_of _ (by decide +kernel)) ggX11_fault_X11_in
set_option maxRecDepth 20000 in
theorem ggX11_fault_X11_faulty : GoodIn wsX11_fault wsX11_faulty := goodIn_r _ [12, 13, 14, 2, 15, 16, 3, 17, 18, 19, 7, 20, 21, 22, 23, 24, 25, 26, 27, 28, 29, 30, 31, 32, 33, 34, 35, 5, 6, 8, 36, 37, 38, 39, 40, 41, 42, 43, 4, 44, 45, 46, 47, 48, 49, 50, 51, 52, 53, 54, 55, 56, 57, 58, 59, 1, 60, 61, 62, 63, 64, 65, 66, 67, 68, 69, 70, 71, 72, 73, 74, 75, 76, 77, 78, 79, 80, 81, 82, 83, 84, 85, 86, 87, 88, 89, 90, 91, 92, 93, 94, 95, 96, 97, 98, 99, 100, 101, 102, 103, 104, 105, 106, 107, 108, 109, 110, 111, 112, 113, 114, 115, 116, 117, 118, 119, 120, 121, 122, 123, 124, 125, 126, 127, 128, 129, 130, 131, 132, 133, 134, 135, 136, 137, 138, 139, 140, 141, 142, 143, 144] (by decide +kernel) (by decide +kernel)
set_option maxRecDepth 20000 in
theorem gX11_fault_X11_faulty : GoodIn wsX11_fault (wsV RX11 223 RX11 yX11_faulty wsX11_faulty) := goodIn_app (goodIn_of _ (by decide +kernel)) ggX11_fault_X11_faulty
theorem dX11_fault_0 : decode cX11_fault 0 = .ok (.iload_n 1, 1) := by decide +kernel
theorem dX11_fault_1 : decode cX11_fault 1 = .ok (.iconst 0, 1) := by decide +kernel
theorem dX11_fault_2 : decode cX11_fault 2 = .ok (.iconst 2, 1) := by decide +kernel
theorem dX11_fault_3 : decode cX11_fault 3 = .ok (.invokestatic 44, 3) := by decide +kernel
theorem dX11_fault_6 : decode cX11_fault 6 = .ok (.ifCond .ne 6, 3) := by decide +kernel
theorem dX11_fault_9 : decode cX11_fault 9 = .ok (.ldc 78, 2) := by decide +kernel
theorem dX11_fault_11 : decode cX11_fault 11 = .ok (.ireturn, 1) := by decide +kernel
theorem dX11_fault_12 : decode cX11_fault 12 = .ok (.aload_n 0, 1) := by decide +kernel
theorem dX11_fault_13 : decode cX11_fault 13 = .ok (.invokevirtual 223, 3) := by decide +kernel
theorem dX11_fault_16 : decode cX11_fault 16 = .ok (.istore_n 2, 1) := by decide +kernel
theorem dX11_fault_17 : decode cX11_fault 17 = .ok (.iload_n 2, 1) := by decide +kernel
theorem dX11_fault_18 : decode cX11_fault 18 = .ok (.ldc 43, 2) := by decide +kernel
theorem dX11_fault_20 : decode cX11_fault 20 = .ok (.if_icmp .eq 7, 3) := by decide +kernel
theorem dX11_fault_23 : decode cX11_fault 23 = .ok (.iload_n 1, 1) := by decide +kernel
theorem dX11_fault_24 : decode cX11_fault 24 = .ok (.ifCond .ne 7, 3) := by decide +kernel
theorem dX11_fault_27 : decode cX11_fault 27 = .ok (.iload_n 2, 1) := by decide +kernel
theorem dX11_fault_28 : decode cX11_fault 28 = .ok (.goto 19, 3) := by decide +kernel
theorem dX11_fault_31 : decode cX11_fault 31 = .ok (.iload_n 1, 1) := by decide +kernel
theorem dX11_fault_32 : decode cX11_fault 32 = .ok (.iconst 1, 1) := by decide +kernel
theorem dX11_fault_33 : decode cX11_fault 33 = .ok (.if_icmp .ne 10, 3) := by decide +kernel
theorem dX11_fault_36 : decode cX11_fault 36 = .ok (.aload_n 0, 1) := by decide +kernel
theorem dX11_fault_37 : decode cX11_fault 37 = .ok (.getfield 220, 3) := by decide +kernel
theorem dX11_fault_40 : decode cX11_fault 40 = .ok (.goto 7, 3) := by decide +kernel
theorem dX11_fault_43 : decode cX11_fault 43 = .ok (.aload_n 0, 1) := by decide +kernel
theorem dX11_fault_44 : decode cX11_fault 44 = .ok (.getfield 191, 3) := by decide +kernel
theorem dX11_fault_47 : decode cX11_fault 47 = .ok (.ireturn, 1) := by decide +kernel
set_option maxRecDepth 20000 in
theorem ggX11_play_X11_faulty : GoodIn wsX11_play wsX11_faulty := goodIn_r _ [9, 10, 11, 1, 3, 4, 12, 13, 14, 15, 8, 16, 17, 18, 19, 20, 21, 22, 23, 24, 25, 26, 27, 28, 29, 30, 31, 32, 33, 34, 35, 36, 37, 38, 39, 40, 41, 42, 43, 44, 45, 46, 47, 48, 49, 50, 51, 52, 53, 54, 55, 56, 57, 58, 59, 60, 61, 62, 63, 64, 65, 66, 67, 68, 69, 70, 71, 72, 73, 74, 75, 76, 77, 78, 79, 80, 81, 82, 83, 84, 2, 85, 86, 87, 88, 89, 90, 91, 92, 93, 94, 95, 96, 97, 98, 99, 100, 101, 102, 103, 104, 105, 106, 107, 108, 109, 110, 111, 112, 113, 114, 115, 116, 117, 129, 130, 131, 132, 133, 134, 135, 136, 137, 138, 139, 140, 141, 142, 143, 144, 145, 146, 147, 148, 149, 150, 151, 152, 153, 154, 155] (by decide +kernel) (by decide +kernel)
set_option maxRecDepth 20000 in
theorem gX11_play_X11_faulty : GoodIn wsX11_play (wsV RX11 223 RX11 yX11_faulty wsX11_faulty) := goodIn_app (goodIn_of _ (by decide +kernel)) ggX11_play_X11_faulty
set_option maxRecDepth 20000 in
theorem ggX11_play_X11_keeps : GoodIn wsX11_play wsX11_keeps := goodIn_r _ [121, 122, 11, 129, 130, 131, 132, 133, 134, 135, 136, 137, 138, 139, 140, 141, 142, 143, 144, 145, 146, 147, 148, 149, 150, 151, 152, 153, 154, 155] (by decide +kernel) (by decide +kernel)
set_option maxRecDepth 20000 in
theorem gX11_play_X11_keeps : GoodIn wsX11_play (wsV RX11 85 RX11 yX11_keeps wsX11_keeps) := goodIn_app (goodIn_of _ (by decide +kernel)) ggX11_play_X11_keeps
set_option maxRecDepth 20000 in
theorem ggX11_play_X11_doesNext : GoodIn wsX11_play wsX11_doesNext := goodIn_r _ [16, 3, 17, 18, 19, 8, 20, 4, 21, 22, 23, 24, 25, 26, 27, 1, 11, 28, 29, 30, 31, 32, 33, 34, 35, 36, 37, 38, 39, 40, 41, 42, 43, 44, 45, 46, 47, 48, 49, 50, 51, 52, 53, 54, 55, 56, 57, 58, 59, 60, 61, 62, 63, 64, 65, 66, 67, 68, 69, 70, 71, 72, 73, 74, 75, 76, 77, 78, 79, 80, 81, 82, 83, 84, 2, 85, 86, 87, 88, 89, 90, 91, 92, 93, 94, 95, 96, 97, 98, 99, 100, 101, 102, 103, 104, 105, 106, 107, 108, 109, 110, 111, 112, 113, 114, 115, 116, 117, 129, 130, 131, 132, 133, 134, 135, 136, 137, 138, 139, 140, 141, 142, 143, 144, 145, 146, 147, 148, 149, 150, 151, 152, 153, 154, 155] (by decide +kernel) (by decide +kernel)
set_option maxRecDepth 20000 in
theorem gX11_play_X11_doesNext : GoodIn wsX11_play (wsV RX11 217 RX11 yX11_doesNext wsX11_doesNext) := goodIn_app (goodIn_of _ (by decide +kernel)) ggX11_play_X11_doesNext
set_option maxRecDepth 20000 in
theorem ggX11_play_X11_acted : GoodIn wsX11_play wsX11_acted := goodIn_r _ [126, 60, 127, 128, 122, 129, 130, 131, 132, 133, 134, 135, 136, 137, 138, 139, 140, 141, 142, 143, 144, 145, 146, 147, 148, 149, 150, 151, 152, 153, 154, 155] (by decide +kernel) (by decide +kernel)
set_option maxRecDepth 20000 in
theorem gX11_play_X11_acted : GoodIn wsX11_play (wsV RX11 91 RX11 yX11_acted wsX11_acted) := goodIn_app (goodIn_of _ (by decide +kernel)) ggX11_play_X11_acted
theorem dX11_play_0 : decode cX11_play 0 = .ok (.aload_n 0, 1) := by decide +kernel
theorem dX11_play_1 : decode cX11_play 1 = .ok (.invokevirtual 223, 3) := by decide +kernel
theorem dX11_play_4 : decode cX11_play 4 = .ok (.ldc 43, 2) := by decide +kernel
theorem dX11_play_6 : decode cX11_play 6 = .ok (.if_icmp .eq 6, 3) := by decide +kernel
theorem dX11_play_9 : decode cX11_play 9 = .ok (.ldc 103, 2) := by decide +kernel
theorem dX11_play_11 : decode cX11_play 11 = .ok (.ireturn, 1) := by decide +kernel
theorem dX11_play_12 : decode cX11_play 12 = .ok (.aload_n 0, 1) := by decide +kernel
theorem dX11_play_13 : decode cX11_play 13 = .ok (.invokevirtual 85, 3) := by decide +kernel
theorem dX11_play_16 : decode cX11_play 16 = .ok (.iconst 0, 1) := by decide +kernel
theorem dX11_play_17 : decode cX11_play 17 = .ok (.istore_n 1, 1) := by decide +kernel
theorem dX11_play_18 : decode cX11_play 18 = .ok (.aload_n 0, 1) := by decide +kernel
theorem dX11_play_19 : decode cX11_play 19 = .ok (.iconst 0, 1) := by decide +kernel
theorem dX11_play_20 : decode cX11_play 20 = .ok (.putfield 179, 3) := by decide +kernel
theorem dX11_play_23 : decode cX11_play 23 = .ok (.aload_n 0, 1) := by decide +kernel
theorem dX11_play_24 : decode cX11_play 24 = .ok (.getfield 179, 3) := by decide +kernel
theorem dX11_play_27 : decode cX11_play 27 = .ok (.aload_n 0, 1) := by decide +kernel
theorem dX11_play_28 : decode cX11_play 28 = .ok (.getfield 176, 3) := by decide +kernel
theorem dX11_play_31 : decode cX11_play 31 = .ok (.if_icmp .ge 21, 3) := by decide +kernel
theorem dX11_play_34 : decode cX11_play 34 = .ok (.iload_n 1, 1) := by decide +kernel
theorem dX11_play_35 : decode cX11_play 35 = .ok (.aload_n 0, 1) := by decide +kernel
theorem dX11_play_36 : decode cX11_play 36 = .ok (.invokevirtual 217, 3) := by decide +kernel
theorem dX11_play_39 : decode cX11_play 39 = .ok (.ifCond .ne 7, 3) := by decide +kernel
theorem dX11_play_42 : decode cX11_play 42 = .ok (.iconst 1, 1) := by decide +kernel
theorem dX11_play_43 : decode cX11_play 43 = .ok (.goto 4, 3) := by decide +kernel
theorem dX11_play_46 : decode cX11_play 46 = .ok (.iconst 0, 1) := by decide +kernel
theorem dX11_play_47 : decode cX11_play 47 = .ok (.iadd, 1) := by decide +kernel
theorem dX11_play_48 : decode cX11_play 48 = .ok (.istore_n 1, 1) := by decide +kernel
theorem dX11_play_49 : decode cX11_play 49 = .ok (.goto (-26), 3) := by decide +kernel
theorem dX11_play_52 : decode cX11_play 52 = .ok (.aload_n 0, 1) := by decide +kernel
theorem dX11_play_53 : decode cX11_play 53 = .ok (.iload_n 1, 1) := by decide +kernel
theorem dX11_play_54 : decode cX11_play 54 = .ok (.invokevirtual 91, 3) := by decide +kernel
theorem dX11_play_57 : decode cX11_play 57 = .ok (.ireturn, 1) := by decide +kernel
