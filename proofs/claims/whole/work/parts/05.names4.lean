theorem dX11_isOverlap_72 : decode cX11_isOverlap 72 = .ok (.iload 7, 2) := by decide +kernel
theorem dX11_isOverlap_74 : decode cX11_isOverlap 74 = .ok (.ifCond .eq 7, 3) := by decide +kernel
theorem dX11_isOverlap_77 : decode cX11_isOverlap 77 = .ok (.iconst 1, 1) := by decide +kernel
theorem dX11_isOverlap_78 : decode cX11_isOverlap 78 = .ok (.goto 4, 3) := by decide +kernel
theorem dX11_isOverlap_81 : decode cX11_isOverlap 81 = .ok (.iconst 0, 1) := by decide +kernel
theorem dX11_isOverlap_82 : decode cX11_isOverlap 82 = .ok (.istore 8, 2) := by decide +kernel
theorem dX11_isOverlap_84 : decode cX11_isOverlap 84 = .ok (.iload_n 3, 1) := by decide +kernel
theorem dX11_isOverlap_85 : decode cX11_isOverlap 85 = .ok (.istore 9, 2) := by decide +kernel
theorem dX11_isOverlap_87 : decode cX11_isOverlap 87 = .ok (.iload 9, 2) := by decide +kernel
theorem dX11_isOverlap_89 : decode cX11_isOverlap 89 = .ok (.iload 4, 2) := by decide +kernel
theorem dX11_isOverlap_91 : decode cX11_isOverlap 91 = .ok (.if_icmp .ge 55, 3) := by decide +kernel
theorem dX11_isOverlap_94 : decode cX11_isOverlap 94 = .ok (.iload 9, 2) := by decide +kernel
theorem dX11_isOverlap_96 : decode cX11_isOverlap 96 = .ok (.iload_n 3, 1) := by decide +kernel
theorem dX11_isOverlap_97 : decode cX11_isOverlap 97 = .ok (.iload 5, 2) := by decide +kernel
theorem dX11_isOverlap_99 : decode cX11_isOverlap 99 = .ok (.iadd, 1) := by decide +kernel
theorem dX11_isOverlap_100 : decode cX11_isOverlap 100 = .ok (.if_icmp .ge 46, 3) := by decide +kernel
theorem dX11_isOverlap_103 : decode cX11_isOverlap 103 = .ok (.iload 8, 2) := by decide +kernel
theorem dX11_isOverlap_105 : decode cX11_isOverlap 105 = .ok (.ifCond .eq 41, 3) := by decide +kernel
theorem dX11_isOverlap_108 : decode cX11_isOverlap 108 = .ok (.aload_n 0, 1) := by decide +kernel
theorem dX11_isOverlap_109 : decode cX11_isOverlap 109 = .ok (.iload_n 1, 1) := by decide +kernel
theorem dX11_isOverlap_110 : decode cX11_isOverlap 110 = .ok (.invokevirtual 48, 3) := by decide +kernel
theorem dX11_isOverlap_113 : decode cX11_isOverlap 113 = .ok (.iload 9, 2) := by decide +kernel
theorem dX11_isOverlap_115 : decode cX11_isOverlap 115 = .ok (.invokestatic 39, 3) := by decide +kernel
theorem dX11_isOverlap_118 : decode cX11_isOverlap 118 = .ok (.aload_n 0, 1) := by decide +kernel
theorem dX11_isOverlap_119 : decode cX11_isOverlap 119 = .ok (.iload_n 2, 1) := by decide +kernel
theorem dX11_isOverlap_120 : decode cX11_isOverlap 120 = .ok (.invokevirtual 48, 3) := by decide +kernel
theorem dX11_isOverlap_123 : decode cX11_isOverlap 123 = .ok (.iload 9, 2) := by decide +kernel
theorem dX11_isOverlap_125 : decode cX11_isOverlap 125 = .ok (.iload_n 3, 1) := by decide +kernel
theorem dX11_isOverlap_126 : decode cX11_isOverlap 126 = .ok (.isub, 1) := by decide +kernel
theorem dX11_isOverlap_127 : decode cX11_isOverlap 127 = .ok (.invokestatic 39, 3) := by decide +kernel
theorem dX11_isOverlap_130 : decode cX11_isOverlap 130 = .ok (.if_icmp .ne 7, 3) := by decide +kernel
theorem dX11_isOverlap_133 : decode cX11_isOverlap 133 = .ok (.iconst 1, 1) := by decide +kernel
theorem dX11_isOverlap_134 : decode cX11_isOverlap 134 = .ok (.goto 4, 3) := by decide +kernel
theorem dX11_isOverlap_137 : decode cX11_isOverlap 137 = .ok (.iconst 0, 1) := by decide +kernel
theorem dX11_isOverlap_138 : decode cX11_isOverlap 138 = .ok (.istore 8, 2) := by decide +kernel
theorem dX11_isOverlap_140 : decode cX11_isOverlap 140 = .ok (.iinc 9 1, 3) := by decide +kernel
theorem dX11_isOverlap_143 : decode cX11_isOverlap 143 = .ok (.goto (-56), 3) := by decide +kernel
theorem dX11_isOverlap_146 : decode cX11_isOverlap 146 = .ok (.iload 8, 2) := by decide +kernel
theorem dX11_isOverlap_148 : decode cX11_isOverlap 148 = .ok (.ireturn, 1) := by decide +kernel
set_option maxRecDepth 20000 in
theorem ggX11_lays_X11_left : GoodIn wsX11_lays wsX11_left := goodIn_r _ [10, 11, 26, 27, 28, 29, 30, 31, 32, 33, 34, 35, 36, 37, 38, 39, 40, 41, 42, 43, 44, 45, 46, 47, 48, 49, 50, 51, 52] (by decide +kernel) (by decide +kernel)
set_option maxRecDepth 20000 in
theorem gX11_lays_X11_left : GoodIn wsX11_lays (wsV RX11 48 RX11 yX11_left wsX11_left) := goodIn_app (goodIn_of _ (by decide +kernel)) ggX11_lays_X11_left
set_option maxRecDepth 20000 in
theorem ggX11_lays_X11_length : GoodIn wsX11_lays wsX11_length := goodIn_r _ [14] (by decide +kernel) (by decide +kernel)
set_option maxRecDepth 20000 in
theorem gX11_lays_X11_length : GoodIn wsX11_lays (va_wsS RX11 35 yX11_length wsX11_length) := goodIn_app (goodIn_of _ (by decide +kernel)) ggX11_lays_X11_length
set_option maxRecDepth 20000 in
theorem ggX11_lays_X11_letter : GoodIn wsX11_lays wsX11_letter := goodIn_r _ [17, 12, 13, 9, 14] (by decide +kernel) (by decide +kernel)
set_option maxRecDepth 20000 in
theorem gX11_lays_X11_letter : GoodIn wsX11_lays (va_wsS RX11 39 yX11_letter wsX11_letter) := goodIn_app (goodIn_of _ (by decide +kernel)) ggX11_lays_X11_letter
set_option maxRecDepth 20000 in
theorem ggX11_lays_X11_applied : GoodIn wsX11_lays wsX11_applied := goodIn_r _ [21, 12, 13, 9, 14, 6, 7, 8, 10, 11, 22, 23, 24, 25, 26, 27, 28, 29, 30, 31, 32, 33, 34, 35, 36, 37, 38, 39, 40, 41, 42, 43, 44, 45, 46, 47, 48, 49, 50, 51, 52] (by decide +kernel) (by decide +kernel)
set_option maxRecDepth 20000 in
theorem gX11_lays_X11_applied : GoodIn wsX11_lays (wsV RX11 71 RX11 yX11_applied wsX11_applied) := goodIn_app (goodIn_of _ (by decide +kernel)) ggX11_lays_X11_applied
theorem dX11_lays_0 : decode cX11_lays 0 = .ok (.aload_n 0, 1) := by decide +kernel
theorem dX11_lays_1 : decode cX11_lays 1 = .ok (.iload_n 1, 1) := by decide +kernel
theorem dX11_lays_2 : decode cX11_lays 2 = .ok (.invokevirtual 48, 3) := by decide +kernel
theorem dX11_lays_5 : decode cX11_lays 5 = .ok (.istore 4, 2) := by decide +kernel
theorem dX11_lays_7 : decode cX11_lays 7 = .ok (.aload_n 0, 1) := by decide +kernel
theorem dX11_lays_8 : decode cX11_lays 8 = .ok (.iload_n 1, 1) := by decide +kernel
theorem dX11_lays_9 : decode cX11_lays 9 = .ok (.invokevirtual 48, 3) := by decide +kernel
theorem dX11_lays_12 : decode cX11_lays 12 = .ok (.invokestatic 35, 3) := by decide +kernel
theorem dX11_lays_15 : decode cX11_lays 15 = .ok (.iload_n 3, 1) := by decide +kernel
theorem dX11_lays_16 : decode cX11_lays 16 = .ok (.isub, 1) := by decide +kernel
theorem dX11_lays_17 : decode cX11_lays 17 = .ok (.istore 5, 2) := by decide +kernel
theorem dX11_lays_19 : decode cX11_lays 19 = .ok (.iload 5, 2) := by decide +kernel
theorem dX11_lays_21 : decode cX11_lays 21 = .ok (.aload_n 0, 1) := by decide +kernel
theorem dX11_lays_22 : decode cX11_lays 22 = .ok (.iload_n 2, 1) := by decide +kernel
theorem dX11_lays_23 : decode cX11_lays 23 = .ok (.invokevirtual 48, 3) := by decide +kernel
theorem dX11_lays_26 : decode cX11_lays 26 = .ok (.invokestatic 35, 3) := by decide +kernel
theorem dX11_lays_29 : decode cX11_lays 29 = .ok (.if_icmp .ge 26, 3) := by decide +kernel
theorem dX11_lays_32 : decode cX11_lays 32 = .ok (.iconst 4, 1) := by decide +kernel
theorem dX11_lays_33 : decode cX11_lays 33 = .ok (.iload 4, 2) := by decide +kernel
theorem dX11_lays_35 : decode cX11_lays 35 = .ok (.imul, 1) := by decide +kernel
theorem dX11_lays_36 : decode cX11_lays 36 = .ok (.aload_n 0, 1) := by decide +kernel
theorem dX11_lays_37 : decode cX11_lays 37 = .ok (.iload_n 2, 1) := by decide +kernel
theorem dX11_lays_38 : decode cX11_lays 38 = .ok (.invokevirtual 48, 3) := by decide +kernel
theorem dX11_lays_41 : decode cX11_lays 41 = .ok (.iload 5, 2) := by decide +kernel
theorem dX11_lays_43 : decode cX11_lays 43 = .ok (.invokestatic 39, 3) := by decide +kernel
theorem dX11_lays_46 : decode cX11_lays 46 = .ok (.iadd, 1) := by decide +kernel
theorem dX11_lays_47 : decode cX11_lays 47 = .ok (.istore 4, 2) := by decide +kernel
theorem dX11_lays_49 : decode cX11_lays 49 = .ok (.iinc 5 1, 3) := by decide +kernel
theorem dX11_lays_52 : decode cX11_lays 52 = .ok (.goto (-33), 3) := by decide +kernel
theorem dX11_lays_55 : decode cX11_lays 55 = .ok (.aload_n 0, 1) := by decide +kernel
theorem dX11_lays_56 : decode cX11_lays 56 = .ok (.iload_n 1, 1) := by decide +kernel
theorem dX11_lays_57 : decode cX11_lays 57 = .ok (.putfield 136, 3) := by decide +kernel
theorem dX11_lays_60 : decode cX11_lays 60 = .ok (.aload_n 0, 1) := by decide +kernel
theorem dX11_lays_61 : decode cX11_lays 61 = .ok (.iload_n 2, 1) := by decide +kernel
theorem dX11_lays_62 : decode cX11_lays 62 = .ok (.putfield 139, 3) := by decide +kernel
theorem dX11_lays_65 : decode cX11_lays 65 = .ok (.aload_n 0, 1) := by decide +kernel
theorem dX11_lays_66 : decode cX11_lays 66 = .ok (.iload_n 3, 1) := by decide +kernel
theorem dX11_lays_67 : decode cX11_lays 67 = .ok (.putfield 142, 3) := by decide +kernel
theorem dX11_lays_70 : decode cX11_lays 70 = .ok (.aload_n 0, 1) := by decide +kernel
theorem dX11_lays_71 : decode cX11_lays 71 = .ok (.aload_n 0, 1) := by decide +kernel
theorem dX11_lays_72 : decode cX11_lays 72 = .ok (.iload 4, 2) := by decide +kernel
theorem dX11_lays_74 : decode cX11_lays 74 = .ok (.iload_n 1, 1) := by decide +kernel
theorem dX11_lays_75 : decode cX11_lays 75 = .ok (.iconst 0, 1) := by decide +kernel
theorem dX11_lays_76 : decode cX11_lays 76 = .ok (.invokevirtual 71, 3) := by decide +kernel
theorem dX11_lays_79 : decode cX11_lays 79 = .ok (.putfield 145, 3) := by decide +kernel
theorem dX11_lays_82 : decode cX11_lays 82 = .ok (.aload_n 0, 1) := by decide +kernel
theorem dX11_lays_83 : decode cX11_lays 83 = .ok (.aload_n 0, 1) := by decide +kernel
theorem dX11_lays_84 : decode cX11_lays 84 = .ok (.iload 4, 2) := by decide +kernel
theorem dX11_lays_86 : decode cX11_lays 86 = .ok (.iload_n 2, 1) := by decide +kernel
theorem dX11_lays_87 : decode cX11_lays 87 = .ok (.iload_n 3, 1) := by decide +kernel
theorem dX11_lays_88 : decode cX11_lays 88 = .ok (.invokevirtual 71, 3) := by decide +kernel
theorem dX11_lays_91 : decode cX11_lays 91 = .ok (.putfield 148, 3) := by decide +kernel
theorem dX11_lays_94 : decode cX11_lays 94 = .ok (.return_, 1) := by decide +kernel
set_option maxRecDepth 20000 in
theorem ggX11_parts_X11_reduces : GoodIn wsX11_parts wsX11_reduces := goodIn_r _ [11, 2, 3, 12, 13, 14, 15, 16, 17, 18, 10, 19, 20, 21, 22, 23, 24, 25, 26, 27, 28, 29, 30, 31, 32, 33, 34, 35, 36, 37, 38, 39, 40, 41, 42, 43, 44, 45, 46, 47, 48, 49, 50, 51, 52, 53, 54, 55, 56, 57, 58, 59, 60, 61, 62, 63, 64, 65] (by decide +kernel) (by decide +kernel)
set_option maxRecDepth 20000 in
theorem gX11_parts_X11_reduces : GoodIn wsX11_parts (wsV RX11 112 RX11 yX11_reduces wsX11_reduces) := goodIn_app (goodIn_of _ (by decide +kernel)) ggX11_parts_X11_reduces
theorem dX11_parts_0 : decode cX11_parts 0 = .ok (.aload_n 0, 1) := by decide +kernel
theorem dX11_parts_1 : decode cX11_parts 1 = .ok (.aload_n 0, 1) := by decide +kernel
theorem dX11_parts_2 : decode cX11_parts 2 = .ok (.getfield 145, 3) := by decide +kernel
theorem dX11_parts_5 : decode cX11_parts 5 = .ok (.invokevirtual 112, 3) := by decide +kernel
theorem dX11_parts_8 : decode cX11_parts 8 = .ok (.ifCond .ne 7, 3) := by decide +kernel
theorem dX11_parts_11 : decode cX11_parts 11 = .ok (.iconst 1, 1) := by decide +kernel
theorem dX11_parts_12 : decode cX11_parts 12 = .ok (.goto 4, 3) := by decide +kernel
theorem dX11_parts_15 : decode cX11_parts 15 = .ok (.iconst 0, 1) := by decide +kernel
theorem dX11_parts_16 : decode cX11_parts 16 = .ok (.istore_n 1, 1) := by decide +kernel
theorem dX11_parts_17 : decode cX11_parts 17 = .ok (.aload_n 0, 1) := by decide +kernel
theorem dX11_parts_18 : decode cX11_parts 18 = .ok (.aload_n 0, 1) := by decide +kernel
theorem dX11_parts_19 : decode cX11_parts 19 = .ok (.getfield 26, 3) := by decide +kernel
theorem dX11_parts_22 : decode cX11_parts 22 = .ok (.aload_n 0, 1) := by decide +kernel
theorem dX11_parts_23 : decode cX11_parts 23 = .ok (.getfield 64, 3) := by decide +kernel
theorem dX11_parts_26 : decode cX11_parts 26 = .ok (.iaload, 1) := by decide +kernel
theorem dX11_parts_27 : decode cX11_parts 27 = .ok (.putfield 151, 3) := by decide +kernel
theorem dX11_parts_30 : decode cX11_parts 30 = .ok (.aload_n 0, 1) := by decide +kernel
theorem dX11_parts_31 : decode cX11_parts 31 = .ok (.aload_n 0, 1) := by decide +kernel
theorem dX11_parts_32 : decode cX11_parts 32 = .ok (.getfield 148, 3) := by decide +kernel
theorem dX11_parts_35 : decode cX11_parts 35 = .ok (.invokevirtual 112, 3) := by decide +kernel
theorem dX11_parts_38 : decode cX11_parts 38 = .ok (.ifCond .ne 7, 3) := by decide +kernel
theorem dX11_parts_41 : decode cX11_parts 41 = .ok (.iconst 1, 1) := by decide +kernel
theorem dX11_parts_42 : decode cX11_parts 42 = .ok (.goto 4, 3) := by decide +kernel
theorem dX11_parts_45 : decode cX11_parts 45 = .ok (.iconst 0, 1) := by decide +kernel
theorem dX11_parts_46 : decode cX11_parts 46 = .ok (.istore_n 2, 1) := by decide +kernel
theorem dX11_parts_47 : decode cX11_parts 47 = .ok (.aload_n 0, 1) := by decide +kernel
theorem dX11_parts_48 : decode cX11_parts 48 = .ok (.aload_n 0, 1) := by decide +kernel
theorem dX11_parts_49 : decode cX11_parts 49 = .ok (.getfield 26, 3) := by decide +kernel
theorem dX11_parts_52 : decode cX11_parts 52 = .ok (.aload_n 0, 1) := by decide +kernel
theorem dX11_parts_53 : decode cX11_parts 53 = .ok (.getfield 64, 3) := by decide +kernel
theorem dX11_parts_56 : decode cX11_parts 56 = .ok (.iaload, 1) := by decide +kernel
theorem dX11_parts_57 : decode cX11_parts 57 = .ok (.putfield 154, 3) := by decide +kernel
theorem dX11_parts_60 : decode cX11_parts 60 = .ok (.iload_n 1, 1) := by decide +kernel
theorem dX11_parts_61 : decode cX11_parts 61 = .ok (.ifCond .eq 7, 3) := by decide +kernel
theorem dX11_parts_64 : decode cX11_parts 64 = .ok (.iload_n 2, 1) := by decide +kernel
theorem dX11_parts_65 : decode cX11_parts 65 = .ok (.ifCond .ne 7, 3) := by decide +kernel
theorem dX11_parts_68 : decode cX11_parts 68 = .ok (.iconst 2, 1) := by decide +kernel
theorem dX11_parts_69 : decode cX11_parts 69 = .ok (.goto 19, 3) := by decide +kernel
theorem dX11_parts_72 : decode cX11_parts 72 = .ok (.aload_n 0, 1) := by decide +kernel
theorem dX11_parts_73 : decode cX11_parts 73 = .ok (.getfield 151, 3) := by decide +kernel
theorem dX11_parts_76 : decode cX11_parts 76 = .ok (.aload_n 0, 1) := by decide +kernel
theorem dX11_parts_77 : decode cX11_parts 77 = .ok (.getfield 154, 3) := by decide +kernel
theorem dX11_parts_80 : decode cX11_parts 80 = .ok (.if_icmp .ne 7, 3) := by decide +kernel
theorem dX11_parts_83 : decode cX11_parts 83 = .ok (.iconst 0, 1) := by decide +kernel
theorem dX11_parts_84 : decode cX11_parts 84 = .ok (.goto 4, 3) := by decide +kernel
theorem dX11_parts_87 : decode cX11_parts 87 = .ok (.iconst 1, 1) := by decide +kernel
theorem dX11_parts_88 : decode cX11_parts 88 = .ok (.ireturn, 1) := by decide +kernel
set_option maxRecDepth 20000 in
theorem ggX11_finds_X11_isOverlap : GoodIn wsX11_finds wsX11_isOverlap := goodIn_r _ [6, 7, 8, 9, 5, 10, 1, 11, 12, 13, 14, 15, 16, 57, 58, 59, 60, 61, 62, 63, 64, 65, 66, 67, 68, 69, 70, 71, 72, 73, 74, 75, 76, 77, 78, 79, 80, 81, 82, 83] (by decide +kernel) (by decide +kernel)
set_option maxRecDepth 20000 in
theorem gX11_finds_X11_isOverlap : GoodIn wsX11_finds (wsV RX11 157 RX11 yX11_isOverlap wsX11_isOverlap) := goodIn_app (goodIn_of _ (by decide +kernel)) ggX11_finds_X11_isOverlap
set_option maxRecDepth 20000 in
theorem ggX11_finds_X11_lays : GoodIn wsX11_finds wsX11_lays := goodIn_r _ [20, 21, 22, 23, 24, 25, 7, 8, 9, 5, 10, 1, 11, 12, 13, 14, 15, 16, 26, 27, 28, 29, 30, 31, 32, 33, 57, 58, 59, 60, 61, 62, 63, 64, 65, 66, 67, 68, 69, 70, 71, 72, 73, 74, 75, 76, 77, 78, 79, 80, 81, 82, 83] (by decide +kernel) (by decide +kernel)
set_option maxRecDepth 20000 in
theorem gX11_finds_X11_lays : GoodIn wsX11_finds (wsV RX11 160 RX11 yX11_lays wsX11_lays) := goodIn_app (goodIn_of _ (by decide +kernel)) ggX11_finds_X11_lays
set_option maxRecDepth 20000 in
theorem ggX11_finds_X11_parts : GoodIn wsX11_finds wsX11_parts := goodIn_r _ [37, 24, 38, 39, 40, 25, 41, 42, 43, 44, 5, 45, 46, 47, 48, 49, 50, 51, 52, 53, 1, 11, 12, 13, 7, 8, 9, 10, 54, 55, 56, 26, 27, 28, 29, 30, 31, 32, 33, 57, 58, 59, 60, 61, 62, 63, 64, 65, 66, 67, 68, 69, 70, 71, 72, 73, 74, 75, 76, 77, 78, 79, 80, 81, 82, 83] (by decide +kernel) (by decide +kernel)
set_option maxRecDepth 20000 in
theorem gX11_finds_X11_parts : GoodIn wsX11_finds (wsV RX11 163 RX11 yX11_parts wsX11_parts) := goodIn_app (goodIn_of _ (by decide +kernel)) ggX11_finds_X11_parts
theorem dX11_finds_0 : decode cX11_finds 0 = .ok (.iconst 0, 1) := by decide +kernel
theorem dX11_finds_1 : decode cX11_finds 1 = .ok (.istore_n 3, 1) := by decide +kernel
theorem dX11_finds_2 : decode cX11_finds 2 = .ok (.iconst 0, 1) := by decide +kernel
theorem dX11_finds_3 : decode cX11_finds 3 = .ok (.istore 4, 2) := by decide +kernel
theorem dX11_finds_5 : decode cX11_finds 5 = .ok (.iload 4, 2) := by decide +kernel
theorem dX11_finds_7 : decode cX11_finds 7 = .ok (.aload_n 0, 1) := by decide +kernel
theorem dX11_finds_8 : decode cX11_finds 8 = .ok (.getfield 7, 3) := by decide +kernel
theorem dX11_finds_11 : decode cX11_finds 11 = .ok (.iconst 1, 1) := by decide +kernel
theorem dX11_finds_12 : decode cX11_finds 12 = .ok (.iaload, 1) := by decide +kernel
theorem dX11_finds_13 : decode cX11_finds 13 = .ok (.if_icmp .ge 94, 3) := by decide +kernel
theorem dX11_finds_16 : decode cX11_finds 16 = .ok (.iconst 0, 1) := by decide +kernel
theorem dX11_finds_17 : decode cX11_finds 17 = .ok (.istore 5, 2) := by decide +kernel
theorem dX11_finds_19 : decode cX11_finds 19 = .ok (.iload 5, 2) := by decide +kernel
theorem dX11_finds_21 : decode cX11_finds 21 = .ok (.aload_n 0, 1) := by decide +kernel
theorem dX11_finds_22 : decode cX11_finds 22 = .ok (.getfield 7, 3) := by decide +kernel
theorem dX11_finds_25 : decode cX11_finds 25 = .ok (.iconst 1, 1) := by decide +kernel
theorem dX11_finds_26 : decode cX11_finds 26 = .ok (.iaload, 1) := by decide +kernel
theorem dX11_finds_27 : decode cX11_finds 27 = .ok (.if_icmp .ge 74, 3) := by decide +kernel
theorem dX11_finds_30 : decode cX11_finds 30 = .ok (.iconst 0, 1) := by decide +kernel
theorem dX11_finds_31 : decode cX11_finds 31 = .ok (.istore 6, 2) := by decide +kernel
theorem dX11_finds_33 : decode cX11_finds 33 = .ok (.iload 6, 2) := by decide +kernel
theorem dX11_finds_35 : decode cX11_finds 35 = .ok (.iconst 4, 1) := by decide +kernel
theorem dX11_finds_36 : decode cX11_finds 36 = .ok (.if_icmp .ge 59, 3) := by decide +kernel
theorem dX11_finds_39 : decode cX11_finds 39 = .ok (.aload_n 0, 1) := by decide +kernel
theorem dX11_finds_40 : decode cX11_finds 40 = .ok (.iload 4, 2) := by decide +kernel
theorem dX11_finds_42 : decode cX11_finds 42 = .ok (.iload 5, 2) := by decide +kernel
theorem dX11_finds_44 : decode cX11_finds 44 = .ok (.iload 6, 2) := by decide +kernel
theorem dX11_finds_46 : decode cX11_finds 46 = .ok (.invokevirtual 157, 3) := by decide +kernel
theorem dX11_finds_49 : decode cX11_finds 49 = .ok (.ifCond .eq 40, 3) := by decide +kernel
theorem dX11_finds_52 : decode cX11_finds 52 = .ok (.aload_n 0, 1) := by decide +kernel
theorem dX11_finds_53 : decode cX11_finds 53 = .ok (.iload 4, 2) := by decide +kernel
theorem dX11_finds_55 : decode cX11_finds 55 = .ok (.iload 5, 2) := by decide +kernel
theorem dX11_finds_57 : decode cX11_finds 57 = .ok (.iload 6, 2) := by decide +kernel
theorem dX11_finds_59 : decode cX11_finds 59 = .ok (.invokevirtual 160, 3) := by decide +kernel
theorem dX11_finds_62 : decode cX11_finds 62 = .ok (.iload_n 3, 1) := by decide +kernel
theorem dX11_finds_63 : decode cX11_finds 63 = .ok (.iload_n 2, 1) := by decide +kernel
theorem dX11_finds_64 : decode cX11_finds 64 = .ok (.ifCond .lt 11, 3) := by decide +kernel
theorem dX11_finds_67 : decode cX11_finds 67 = .ok (.aload_n 0, 1) := by decide +kernel
theorem dX11_finds_68 : decode cX11_finds 68 = .ok (.invokevirtual 163, 3) := by decide +kernel
theorem dX11_finds_71 : decode cX11_finds 71 = .ok (.iload_n 2, 1) := by decide +kernel
theorem dX11_finds_72 : decode cX11_finds 72 = .ok (.if_icmp .ne 7, 3) := by decide +kernel
theorem dX11_finds_75 : decode cX11_finds 75 = .ok (.iconst 1, 1) := by decide +kernel
theorem dX11_finds_76 : decode cX11_finds 76 = .ok (.goto 4, 3) := by decide +kernel
theorem dX11_finds_79 : decode cX11_finds 79 = .ok (.iconst 0, 1) := by decide +kernel
theorem dX11_finds_80 : decode cX11_finds 80 = .ok (.iadd, 1) := by decide +kernel
theorem dX11_finds_81 : decode cX11_finds 81 = .ok (.istore_n 3, 1) := by decide +kernel
theorem dX11_finds_82 : decode cX11_finds 82 = .ok (.iload_n 3, 1) := by decide +kernel
theorem dX11_finds_83 : decode cX11_finds 83 = .ok (.iload_n 1, 1) := by decide +kernel
theorem dX11_finds_84 : decode cX11_finds 84 = .ok (.if_icmp .le 5, 3) := by decide +kernel
theorem dX11_finds_87 : decode cX11_finds 87 = .ok (.iload_n 3, 1) := by decide +kernel
theorem dX11_finds_88 : decode cX11_finds 88 = .ok (.ireturn, 1) := by decide +kernel
theorem dX11_finds_89 : decode cX11_finds 89 = .ok (.iinc 6 1, 3) := by decide +kernel
theorem dX11_finds_92 : decode cX11_finds 92 = .ok (.goto (-59), 3) := by decide +kernel
theorem dX11_finds_95 : decode cX11_finds 95 = .ok (.iinc 5 1, 3) := by decide +kernel
theorem dX11_finds_98 : decode cX11_finds 98 = .ok (.goto (-79), 3) := by decide +kernel
theorem dX11_finds_101 : decode cX11_finds 101 = .ok (.iinc 4 1, 3) := by decide +kernel
theorem dX11_finds_104 : decode cX11_finds 104 = .ok (.goto (-99), 3) := by decide +kernel
theorem dX11_finds_107 : decode cX11_finds 107 = .ok (.iload_n 3, 1) := by decide +kernel
theorem dX11_finds_108 : decode cX11_finds 108 = .ok (.ireturn, 1) := by decide +kernel
set_option maxRecDepth 20000 in
theorem ggX11_overlapOf_X11_in : GoodIn wsX11_overlapOf wsX11_in := goodIn_r _ [10] (by decide +kernel) (by decide +kernel)
set_option maxRecDepth 20000 in
theorem gX11_overlapOf_X11_in : GoodIn wsX11_overlapOf (va_wsS RX11 44 yX11_in wsX11_in) := goodIn_app (goodIn_of _ (by decide +kernel)) ggX11_overlapOf_X11_in
set_option maxRecDepth 20000 in
theorem ggX11_overlapOf_X11_finds : GoodIn wsX11_overlapOf wsX11_finds := goodIn_r _ [14, 15, 16, 17, 18, 9, 19, 20, 21, 22, 23, 24, 25, 26, 27, 28, 29, 30, 31, 32, 33, 2, 4, 3, 5, 6, 34, 35, 36, 37, 38, 39, 40, 41, 42, 43, 44, 45, 46, 47, 48, 49, 50, 51, 52, 53, 54, 55, 56, 57, 58, 59, 60, 61, 62, 63, 64, 65, 66, 67, 68, 69, 70, 71, 72, 73, 74, 75, 76, 77, 78, 79, 80, 81, 82, 83, 84, 85, 86, 87, 88, 89, 90, 91] (by decide +kernel) (by decide +kernel)
set_option maxRecDepth 20000 in
theorem gX11_overlapOf_X11_finds : GoodIn wsX11_overlapOf (wsV RX11 166 RX11 yX11_finds wsX11_finds) := goodIn_app (goodIn_of _ (by decide +kernel)) ggX11_overlapOf_X11_finds
set_option maxRecDepth 20000 in
theorem ggX11_overlapOf_X11_left : GoodIn wsX11_overlapOf wsX11_left := goodIn_r _ [23, 15, 65, 66, 67, 68, 69, 70, 71, 72, 73, 74, 75, 76, 77, 78, 79, 80, 81, 82, 83, 84, 85, 86, 87, 88, 89, 90, 91] (by decide +kernel) (by decide +kernel)
set_option maxRecDepth 20000 in
theorem gX11_overlapOf_X11_left : GoodIn wsX11_overlapOf (wsV RX11 48 RX11 yX11_left wsX11_left) := goodIn_app (goodIn_of _ (by decide +kernel)) ggX11_overlapOf_X11_left
set_option maxRecDepth 20000 in
theorem ggX11_overlapOf_X11_length : GoodIn wsX11_overlapOf wsX11_length := goodIn_r _ [26] (by decide +kernel) (by decide +kernel)
set_option maxRecDepth 20000 in
theorem gX11_overlapOf_X11_length : GoodIn wsX11_overlapOf (va_wsS RX11 35 yX11_length wsX11_length) := goodIn_app (goodIn_of _ (by decide +kernel)) ggX11_overlapOf_X11_length
set_option maxRecDepth 20000 in
theorem ggX11_overlapOf_X11_parts : GoodIn wsX11_overlapOf wsX11_parts := goodIn_r _ [45, 5, 46, 47, 48, 6, 49, 50, 51, 52, 9, 53, 54, 55, 56, 57, 58, 59, 60, 61, 15, 24, 25, 26, 20, 21, 22, 23, 62, 63, 64, 34, 35, 36, 37, 38, 39, 40, 41, 65, 66, 67, 68, 69, 70, 71, 72, 73, 74, 75, 76, 77, 78, 79, 80, 81, 82, 83, 84, 85, 86, 87, 88, 89, 90, 91] (by decide +kernel) (by decide +kernel)
set_option maxRecDepth 20000 in
theorem gX11_overlapOf_X11_parts : GoodIn wsX11_overlapOf (wsV RX11 163 RX11 yX11_parts wsX11_parts) := goodIn_app (goodIn_of _ (by decide +kernel)) ggX11_overlapOf_X11_parts
theorem dX11_overlapOf_0 : decode cX11_overlapOf 0 = .ok (.iload_n 1, 1) := by decide +kernel
theorem dX11_overlapOf_1 : decode cX11_overlapOf 1 = .ok (.ifCond .lt 23, 3) := by decide +kernel
theorem dX11_overlapOf_4 : decode cX11_overlapOf 4 = .ok (.iload_n 2, 1) := by decide +kernel
theorem dX11_overlapOf_5 : decode cX11_overlapOf 5 = .ok (.iconst 0, 1) := by decide +kernel
theorem dX11_overlapOf_6 : decode cX11_overlapOf 6 = .ok (.bipush 6, 2) := by decide +kernel
theorem dX11_overlapOf_8 : decode cX11_overlapOf 8 = .ok (.invokestatic 44, 3) := by decide +kernel
theorem dX11_overlapOf_11 : decode cX11_overlapOf 11 = .ok (.ifCond .eq 13, 3) := by decide +kernel
theorem dX11_overlapOf_14 : decode cX11_overlapOf 14 = .ok (.aload_n 0, 1) := by decide +kernel
theorem dX11_overlapOf_15 : decode cX11_overlapOf 15 = .ok (.iload_n 1, 1) := by decide +kernel
theorem dX11_overlapOf_16 : decode cX11_overlapOf 16 = .ok (.iconst (-1), 1) := by decide +kernel
theorem dX11_overlapOf_17 : decode cX11_overlapOf 17 = .ok (.invokevirtual 166, 3) := by decide +kernel
theorem dX11_overlapOf_20 : decode cX11_overlapOf 20 = .ok (.iload_n 1, 1) := by decide +kernel
theorem dX11_overlapOf_21 : decode cX11_overlapOf 21 = .ok (.if_icmp .gt 6, 3) := by decide +kernel
theorem dX11_overlapOf_24 : decode cX11_overlapOf 24 = .ok (.ldc 78, 2) := by decide +kernel
theorem dX11_overlapOf_26 : decode cX11_overlapOf 26 = .ok (.ireturn, 1) := by decide +kernel
theorem dX11_overlapOf_27 : decode cX11_overlapOf 27 = .ok (.aload_n 0, 1) := by decide +kernel
theorem dX11_overlapOf_28 : decode cX11_overlapOf 28 = .ok (.aload_n 0, 1) := by decide +kernel
theorem dX11_overlapOf_29 : decode cX11_overlapOf 29 = .ok (.getfield 136, 3) := by decide +kernel
theorem dX11_overlapOf_32 : decode cX11_overlapOf 32 = .ok (.invokevirtual 48, 3) := by decide +kernel
theorem dX11_overlapOf_35 : decode cX11_overlapOf 35 = .ok (.invokestatic 35, 3) := by decide +kernel
theorem dX11_overlapOf_38 : decode cX11_overlapOf 38 = .ok (.istore_n 3, 1) := by decide +kernel
theorem dX11_overlapOf_39 : decode cX11_overlapOf 39 = .ok (.aload_n 0, 1) := by decide +kernel
theorem dX11_overlapOf_40 : decode cX11_overlapOf 40 = .ok (.getfield 142, 3) := by decide +kernel
theorem dX11_overlapOf_43 : decode cX11_overlapOf 43 = .ok (.aload_n 0, 1) := by decide +kernel
theorem dX11_overlapOf_44 : decode cX11_overlapOf 44 = .ok (.aload_n 0, 1) := by decide +kernel
theorem dX11_overlapOf_45 : decode cX11_overlapOf 45 = .ok (.getfield 139, 3) := by decide +kernel
theorem dX11_overlapOf_48 : decode cX11_overlapOf 48 = .ok (.invokevirtual 48, 3) := by decide +kernel
theorem dX11_overlapOf_51 : decode cX11_overlapOf 51 = .ok (.invokestatic 35, 3) := by decide +kernel
theorem dX11_overlapOf_54 : decode cX11_overlapOf 54 = .ok (.iadd, 1) := by decide +kernel
theorem dX11_overlapOf_55 : decode cX11_overlapOf 55 = .ok (.istore 4, 2) := by decide +kernel
theorem dX11_overlapOf_57 : decode cX11_overlapOf 57 = .ok (.iload_n 2, 1) := by decide +kernel
theorem dX11_overlapOf_58 : decode cX11_overlapOf 58 = .ok (.tableswitch 79 0 5 #[38, 43, 48, 53, 66, 71], 38) := by decide +kernel
theorem dX11_overlapOf_96 : decode cX11_overlapOf 96 = .ok (.aload_n 0, 1) := by decide +kernel
theorem dX11_overlapOf_97 : decode cX11_overlapOf 97 = .ok (.getfield 136, 3) := by decide +kernel
theorem dX11_overlapOf_100 : decode cX11_overlapOf 100 = .ok (.ireturn, 1) := by decide +kernel
theorem dX11_overlapOf_101 : decode cX11_overlapOf 101 = .ok (.aload_n 0, 1) := by decide +kernel
theorem dX11_overlapOf_102 : decode cX11_overlapOf 102 = .ok (.getfield 139, 3) := by decide +kernel
theorem dX11_overlapOf_105 : decode cX11_overlapOf 105 = .ok (.ireturn, 1) := by decide +kernel
theorem dX11_overlapOf_106 : decode cX11_overlapOf 106 = .ok (.aload_n 0, 1) := by decide +kernel
theorem dX11_overlapOf_107 : decode cX11_overlapOf 107 = .ok (.getfield 142, 3) := by decide +kernel
theorem dX11_overlapOf_110 : decode cX11_overlapOf 110 = .ok (.ireturn, 1) := by decide +kernel
theorem dX11_overlapOf_111 : decode cX11_overlapOf 111 = .ok (.iload_n 3, 1) := by decide +kernel
theorem dX11_overlapOf_112 : decode cX11_overlapOf 112 = .ok (.iload 4, 2) := by decide +kernel
theorem dX11_overlapOf_114 : decode cX11_overlapOf 114 = .ok (.if_icmp .le 7, 3) := by decide +kernel
theorem dX11_overlapOf_117 : decode cX11_overlapOf 117 = .ok (.iload_n 3, 1) := by decide +kernel
theorem dX11_overlapOf_118 : decode cX11_overlapOf 118 = .ok (.goto 5, 3) := by decide +kernel
theorem dX11_overlapOf_121 : decode cX11_overlapOf 121 = .ok (.iload 4, 2) := by decide +kernel
theorem dX11_overlapOf_123 : decode cX11_overlapOf 123 = .ok (.ireturn, 1) := by decide +kernel
theorem dX11_overlapOf_124 : decode cX11_overlapOf 124 = .ok (.aload_n 0, 1) := by decide +kernel
theorem dX11_overlapOf_125 : decode cX11_overlapOf 125 = .ok (.invokevirtual 163, 3) := by decide +kernel
theorem dX11_overlapOf_128 : decode cX11_overlapOf 128 = .ok (.ireturn, 1) := by decide +kernel
theorem dX11_overlapOf_129 : decode cX11_overlapOf 129 = .ok (.aload_n 0, 1) := by decide +kernel
theorem dX11_overlapOf_130 : decode cX11_overlapOf 130 = .ok (.getfield 145, 3) := by decide +kernel
theorem dX11_overlapOf_133 : decode cX11_overlapOf 133 = .ok (.invokestatic 35, 3) := by decide +kernel
theorem dX11_overlapOf_136 : decode cX11_overlapOf 136 = .ok (.ireturn, 1) := by decide +kernel
theorem dX11_overlapOf_137 : decode cX11_overlapOf 137 = .ok (.aload_n 0, 1) := by decide +kernel
theorem dX11_overlapOf_138 : decode cX11_overlapOf 138 = .ok (.getfield 148, 3) := by decide +kernel
theorem dX11_overlapOf_141 : decode cX11_overlapOf 141 = .ok (.invokestatic 35, 3) := by decide +kernel
theorem dX11_overlapOf_144 : decode cX11_overlapOf 144 = .ok (.ireturn, 1) := by decide +kernel
set_option maxRecDepth 20000 in
theorem ggX11_completes_X11_in : GoodIn wsX11_completes wsX11_in := goodIn_r _ [9] (by decide +kernel) (by decide +kernel)
set_option maxRecDepth 20000 in
theorem gX11_completes_X11_in : GoodIn wsX11_completes (va_wsS RX11 44 yX11_in wsX11_in) := goodIn_app (goodIn_of _ (by decide +kernel)) ggX11_completes_X11_in
set_option maxRecDepth 20000 in
theorem ggX11_completes_X11_finds : GoodIn wsX11_completes wsX11_finds := goodIn_r _ [13, 4, 14, 15, 16, 8, 17, 18, 19, 20, 21, 22, 23, 24, 25, 26, 27, 28, 29, 30, 31, 32, 33, 34, 35, 36, 37, 38, 39, 40, 41, 42, 43, 44, 45, 46, 47, 48, 49, 50, 2, 3, 51, 52, 53, 54, 55, 56, 57, 58, 59, 60, 61, 62, 63, 64, 65, 70, 71, 72, 73, 74, 75, 76, 77, 78, 79, 80, 81, 82, 83, 84, 85, 86, 87, 88, 89, 90, 91, 92, 93, 94, 95, 96] (by decide +kernel) (by decide +kernel)
set_option maxRecDepth 20000 in
theorem gX11_completes_X11_finds : GoodIn wsX11_completes (wsV RX11 166 RX11 yX11_finds wsX11_finds) := goodIn_app (goodIn_of _ (by decide +kernel)) ggX11_completes_X11_finds
set_option maxRecDepth 20000 in
theorem ggX11_completes_X11_length : GoodIn wsX11_completes wsX11_length := goodIn_r _ [24] (by decide +kernel) (by decide +kernel)
set_option maxRecDepth 20000 in
theorem gX11_completes_X11_length : GoodIn wsX11_completes (va_wsS RX11 35 yX11_length wsX11_length) := goodIn_app (goodIn_of _ (by decide +kernel)) ggX11_completes_X11_length
set_option maxRecDepth 20000 in
theorem ggX11_completes_X11_adds : GoodIn wsX11_completes wsX11_adds := goodIn_r _ [69, 4, 70, 71, 72, 73, 74, 75, 76, 77, 78, 79, 80, 81, 82, 83, 84, 85, 86, 87, 88, 89, 90, 91, 92, 93, 94, 95, 96] (by decide +kernel) (by decide +kernel)
set_option maxRecDepth 20000 in
theorem gX11_completes_X11_adds : GoodIn wsX11_completes (wsV RX11 169 RX11 yX11_adds wsX11_adds) := goodIn_app (goodIn_of _ (by decide +kernel)) ggX11_completes_X11_adds
theorem dX11_completes_0 : decode cX11_completes 0 = .ok (.iload_n 1, 1) := by decide +kernel
theorem dX11_completes_1 : decode cX11_completes 1 = .ok (.iconst 1, 1) := by decide +kernel
theorem dX11_completes_2 : decode cX11_completes 2 = .ok (.bipush 10, 2) := by decide +kernel
theorem dX11_completes_4 : decode cX11_completes 4 = .ok (.invokestatic 44, 3) := by decide +kernel
theorem dX11_completes_7 : decode cX11_completes 7 = .ok (.ifCond .ne 6, 3) := by decide +kernel
theorem dX11_completes_10 : decode cX11_completes 10 = .ok (.ldc 78, 2) := by decide +kernel
theorem dX11_completes_12 : decode cX11_completes 12 = .ok (.ireturn, 1) := by decide +kernel
theorem dX11_completes_13 : decode cX11_completes 13 = .ok (.iconst 0, 1) := by decide +kernel
theorem dX11_completes_14 : decode cX11_completes 14 = .ok (.istore_n 2, 1) := by decide +kernel
theorem dX11_completes_15 : decode cX11_completes 15 = .ok (.iload_n 2, 1) := by decide +kernel
theorem dX11_completes_16 : decode cX11_completes 16 = .ok (.iload_n 1, 1) := by decide +kernel
theorem dX11_completes_17 : decode cX11_completes 17 = .ok (.if_icmp .ge 90, 3) := by decide +kernel
theorem dX11_completes_20 : decode cX11_completes 20 = .ok (.aload_n 0, 1) := by decide +kernel
theorem dX11_completes_21 : decode cX11_completes 21 = .ok (.iconst 0, 1) := by decide +kernel
theorem dX11_completes_22 : decode cX11_completes 22 = .ok (.iconst 1, 1) := by decide +kernel
theorem dX11_completes_23 : decode cX11_completes 23 = .ok (.invokevirtual 166, 3) := by decide +kernel
theorem dX11_completes_26 : decode cX11_completes 26 = .ok (.ifCond .le 81, 3) := by decide +kernel
theorem dX11_completes_29 : decode cX11_completes 29 = .ok (.aload_n 0, 1) := by decide +kernel
theorem dX11_completes_30 : decode cX11_completes 30 = .ok (.getfield 151, 3) := by decide +kernel
theorem dX11_completes_33 : decode cX11_completes 33 = .ok (.aload_n 0, 1) := by decide +kernel
theorem dX11_completes_34 : decode cX11_completes 34 = .ok (.getfield 154, 3) := by decide +kernel
theorem dX11_completes_37 : decode cX11_completes 37 = .ok (.if_icmp .le 10, 3) := by decide +kernel
theorem dX11_completes_40 : decode cX11_completes 40 = .ok (.aload_n 0, 1) := by decide +kernel
theorem dX11_completes_41 : decode cX11_completes 41 = .ok (.getfield 151, 3) := by decide +kernel
theorem dX11_completes_44 : decode cX11_completes 44 = .ok (.goto 7, 3) := by decide +kernel
theorem dX11_completes_47 : decode cX11_completes 47 = .ok (.aload_n 0, 1) := by decide +kernel
theorem dX11_completes_48 : decode cX11_completes 48 = .ok (.getfield 154, 3) := by decide +kernel
theorem dX11_completes_51 : decode cX11_completes 51 = .ok (.istore_n 3, 1) := by decide +kernel
theorem dX11_completes_52 : decode cX11_completes 52 = .ok (.aload_n 0, 1) := by decide +kernel
theorem dX11_completes_53 : decode cX11_completes 53 = .ok (.getfield 7, 3) := by decide +kernel
theorem dX11_completes_56 : decode cX11_completes 56 = .ok (.iconst 1, 1) := by decide +kernel
theorem dX11_completes_57 : decode cX11_completes 57 = .ok (.iaload, 1) := by decide +kernel
theorem dX11_completes_58 : decode cX11_completes 58 = .ok (.bipush 10, 2) := by decide +kernel
theorem dX11_completes_60 : decode cX11_completes 60 = .ok (.if_icmp .eq 11, 3) := by decide +kernel
theorem dX11_completes_63 : decode cX11_completes 63 = .ok (.iload_n 3, 1) := by decide +kernel
theorem dX11_completes_64 : decode cX11_completes 64 = .ok (.invokestatic 35, 3) := by decide +kernel
theorem dX11_completes_67 : decode cX11_completes 67 = .ok (.iconst 4, 1) := by decide +kernel
theorem dX11_completes_68 : decode cX11_completes 68 = .ok (.if_icmp .le 6, 3) := by decide +kernel
theorem dX11_completes_71 : decode cX11_completes 71 = .ok (.ldc 115, 2) := by decide +kernel
theorem dX11_completes_73 : decode cX11_completes 73 = .ok (.ireturn, 1) := by decide +kernel
theorem dX11_completes_74 : decode cX11_completes 74 = .ok (.aload_n 0, 1) := by decide +kernel
theorem dX11_completes_75 : decode cX11_completes 75 = .ok (.iload_n 3, 1) := by decide +kernel
theorem dX11_completes_76 : decode cX11_completes 76 = .ok (.aload_n 0, 1) := by decide +kernel
theorem dX11_completes_77 : decode cX11_completes 77 = .ok (.getfield 151, 3) := by decide +kernel
theorem dX11_completes_80 : decode cX11_completes 80 = .ok (.aload_n 0, 1) := by decide +kernel
theorem dX11_completes_81 : decode cX11_completes 81 = .ok (.getfield 154, 3) := by decide +kernel
theorem dX11_completes_84 : decode cX11_completes 84 = .ok (.if_icmp .le 10, 3) := by decide +kernel
theorem dX11_completes_87 : decode cX11_completes 87 = .ok (.aload_n 0, 1) := by decide +kernel
theorem dX11_completes_88 : decode cX11_completes 88 = .ok (.getfield 154, 3) := by decide +kernel
theorem dX11_completes_91 : decode cX11_completes 91 = .ok (.goto 7, 3) := by decide +kernel
theorem dX11_completes_94 : decode cX11_completes 94 = .ok (.aload_n 0, 1) := by decide +kernel
theorem dX11_completes_95 : decode cX11_completes 95 = .ok (.getfield 151, 3) := by decide +kernel
theorem dX11_completes_98 : decode cX11_completes 98 = .ok (.invokevirtual 169, 3) := by decide +kernel
theorem dX11_completes_101 : decode cX11_completes 101 = .ok (.iinc 2 1, 3) := by decide +kernel
theorem dX11_completes_104 : decode cX11_completes 104 = .ok (.goto (-89), 3) := by decide +kernel
theorem dX11_completes_107 : decode cX11_completes 107 = .ok (.iload_n 2, 1) := by decide +kernel
theorem dX11_completes_108 : decode cX11_completes 108 = .ok (.ireturn, 1) := by decide +kernel
set_option maxRecDepth 20000 in
theorem ggX11_complete_X11_keeps : GoodIn wsX11_complete wsX11_keeps := goodIn_r _ [7, 2, 1, 85, 86, 87, 88, 89, 90, 91, 92, 93, 94, 95, 96, 97, 98, 99, 100, 101, 102, 103, 104, 105, 106, 107, 108, 109, 110, 111] (by decide +kernel) (by decide +kernel)
set_option maxRecDepth 20000 in
theorem gX11_complete_X11_keeps : GoodIn wsX11_complete (wsV RX11 85 RX11 yX11_keeps wsX11_keeps) := goodIn_app (goodIn_of _ (by decide +kernel)) ggX11_complete_X11_keeps
set_option maxRecDepth 20000 in
theorem ggX11_complete_X11_completes : GoodIn wsX11_complete wsX11_completes := goodIn_r _ [11, 12, 13, 14, 1, 15, 16, 17, 6, 18, 19, 20, 21, 22, 23, 24, 25, 26, 27, 28, 29, 30, 31, 32, 33, 34, 35, 36, 37, 38, 39, 40, 41, 42, 43, 44, 45, 46, 47, 48, 49, 50, 51, 52, 53, 54, 55, 56, 57, 58, 59, 60, 61, 62, 63, 64, 65, 66, 67, 68, 69, 70, 71, 72, 73, 74, 75, 76, 77, 78, 85, 86, 87, 88, 89, 90, 91, 92, 93, 94, 95, 96, 97, 98, 99, 100, 101, 102, 103, 104, 105, 106, 107, 108, 109, 110, 111] (by decide +kernel) (by decide +kernel)
set_option maxRecDepth 20000 in
theorem gX11_complete_X11_completes : GoodIn wsX11_complete (wsV RX11 173 RX11 yX11_completes wsX11_completes) := goodIn_app (goodIn_of _ (by decide +kernel)) ggX11_complete_X11_completes
set_option maxRecDepth 20000 in
theorem ggX11_complete_X11_acted : GoodIn wsX11_complete wsX11_acted := goodIn_r _ [82, 12, 83, 84, 2, 85, 86, 87, 88, 89, 90, 91, 92, 93, 94, 95, 96, 97, 98, 99, 100, 101, 102, 103, 104, 105, 106, 107, 108, 109, 110, 111] (by decide +kernel) (by decide +kernel)
set_option maxRecDepth 20000 in
theorem gX11_complete_X11_acted : GoodIn wsX11_complete (wsV RX11 91 RX11 yX11_acted wsX11_acted) := goodIn_app (goodIn_of _ (by decide +kernel)) ggX11_complete_X11_acted
theorem dX11_complete_0 : decode cX11_complete 0 = .ok (.aload_n 0, 1) := by decide +kernel
theorem dX11_complete_1 : decode cX11_complete 1 = .ok (.invokevirtual 85, 3) := by decide +kernel
theorem dX11_complete_4 : decode cX11_complete 4 = .ok (.aload_n 0, 1) := by decide +kernel
theorem dX11_complete_5 : decode cX11_complete 5 = .ok (.iload_n 1, 1) := by decide +kernel
theorem dX11_complete_6 : decode cX11_complete 6 = .ok (.invokevirtual 173, 3) := by decide +kernel
theorem dX11_complete_9 : decode cX11_complete 9 = .ok (.istore_n 2, 1) := by decide +kernel
theorem dX11_complete_10 : decode cX11_complete 10 = .ok (.iconst 0, 1) := by decide +kernel
theorem dX11_complete_11 : decode cX11_complete 11 = .ok (.istore_n 3, 1) := by decide +kernel
theorem dX11_complete_12 : decode cX11_complete 12 = .ok (.iload_n 3, 1) := by decide +kernel
theorem dX11_complete_13 : decode cX11_complete 13 = .ok (.bipush 52, 2) := by decide +kernel
theorem dX11_complete_15 : decode cX11_complete 15 = .ok (.if_icmp .ge 25, 3) := by decide +kernel
theorem dX11_complete_18 : decode cX11_complete 18 = .ok (.iload_n 2, 1) := by decide +kernel
theorem dX11_complete_19 : decode cX11_complete 19 = .ok (.ifCond .ge 21, 3) := by decide +kernel
theorem dX11_complete_22 : decode cX11_complete 22 = .ok (.aload_n 0, 1) := by decide +kernel
theorem dX11_complete_23 : decode cX11_complete 23 = .ok (.getfield 7, 3) := by decide +kernel
theorem dX11_complete_26 : decode cX11_complete 26 = .ok (.iload_n 3, 1) := by decide +kernel
theorem dX11_complete_27 : decode cX11_complete 27 = .ok (.aload_n 0, 1) := by decide +kernel
theorem dX11_complete_28 : decode cX11_complete 28 = .ok (.getfield 16, 3) := by decide +kernel
theorem dX11_complete_31 : decode cX11_complete 31 = .ok (.iload_n 3, 1) := by decide +kernel
theorem dX11_complete_32 : decode cX11_complete 32 = .ok (.iaload, 1) := by decide +kernel
theorem dX11_complete_33 : decode cX11_complete 33 = .ok (.iastore, 1) := by decide +kernel
theorem dX11_complete_34 : decode cX11_complete 34 = .ok (.iinc 3 1, 3) := by decide +kernel
theorem dX11_complete_37 : decode cX11_complete 37 = .ok (.goto (-25), 3) := by decide +kernel
theorem dX11_complete_40 : decode cX11_complete 40 = .ok (.aload_n 0, 1) := by decide +kernel
theorem dX11_complete_41 : decode cX11_complete 41 = .ok (.iload_n 2, 1) := by decide +kernel
theorem dX11_complete_42 : decode cX11_complete 42 = .ok (.invokevirtual 91, 3) := by decide +kernel
theorem dX11_complete_45 : decode cX11_complete 45 = .ok (.ireturn, 1) := by decide +kernel
set_option maxRecDepth 20000 in
theorem ggX11_count_X11_length : GoodIn wsX11_count wsX11_length := goodIn_r _ [8] (by decide +kernel) (by decide +kernel)
set_option maxRecDepth 20000 in
theorem gX11_count_X11_length : GoodIn wsX11_count (va_wsS RX11 35 yX11_length wsX11_length) := goodIn_app (goodIn_of _ (by decide +kernel)) ggX11_count_X11_length
set_option maxRecDepth 20000 in
theorem ggX11_count_X11_finds : GoodIn wsX11_count wsX11_finds := goodIn_r _ [12, 1, 13, 14, 15, 7, 16, 17, 18, 19, 20, 5, 6, 8, 21, 22, 23, 24, 25, 26, 27, 28, 29, 30, 31, 32, 33, 34, 35, 36, 37, 38, 39, 40, 41, 42, 43, 44, 45, 46, 47, 48, 49, 50, 51, 52, 53, 54, 55, 56, 57, 58, 59, 60, 61, 62, 63, 64, 65, 66, 67, 68, 69, 70, 71, 72, 73, 74, 75, 76, 77, 78, 79, 80, 81, 82, 83, 84, 85, 86, 87, 88, 89, 90] (by decide +kernel) (by decide +kernel)
set_option maxRecDepth 20000 in
theorem gX11_count_X11_finds : GoodIn wsX11_count (wsV RX11 166 RX11 yX11_finds wsX11_finds) := goodIn_app (goodIn_of _ (by decide +kernel)) ggX11_count_X11_finds
theorem dX11_count_0 : decode cX11_count 0 = .ok (.iload_n 1, 1) := by decide +kernel
theorem dX11_count_1 : decode cX11_count 1 = .ok (.tableswitch 114 0 10 #[59, 66, 76, 76, 76, 76, 83, 92, 92, 104, 109], 59) := by decide +kernel
theorem dX11_count_60 : decode cX11_count 60 = .ok (.aload_n 0, 1) := by decide +kernel
theorem dX11_count_61 : decode cX11_count 61 = .ok (.getfield 7, 3) := by decide +kernel
theorem dX11_count_64 : decode cX11_count 64 = .ok (.iconst 1, 1) := by decide +kernel
theorem dX11_count_65 : decode cX11_count 65 = .ok (.iaload, 1) := by decide +kernel
theorem dX11_count_66 : decode cX11_count 66 = .ok (.ireturn, 1) := by decide +kernel
theorem dX11_count_67 : decode cX11_count 67 = .ok (.aload_n 0, 1) := by decide +kernel
theorem dX11_count_68 : decode cX11_count 68 = .ok (.getfield 7, 3) := by decide +kernel
theorem dX11_count_71 : decode cX11_count 71 = .ok (.iconst 0, 1) := by decide +kernel
theorem dX11_count_72 : decode cX11_count 72 = .ok (.iaload, 1) := by decide +kernel
theorem dX11_count_73 : decode cX11_count 73 = .ok (.invokestatic 35, 3) := by decide +kernel
theorem dX11_count_76 : decode cX11_count 76 = .ok (.ireturn, 1) := by decide +kernel
theorem dX11_count_77 : decode cX11_count 77 = .ok (.aload_n 0, 1) := by decide +kernel
theorem dX11_count_78 : decode cX11_count 78 = .ok (.getfield 7, 3) := by decide +kernel
theorem dX11_count_81 : decode cX11_count 81 = .ok (.iload_n 1, 1) := by decide +kernel
theorem dX11_count_82 : decode cX11_count 82 = .ok (.iaload, 1) := by decide +kernel
theorem dX11_count_83 : decode cX11_count 83 = .ok (.ireturn, 1) := by decide +kernel
theorem dX11_count_84 : decode cX11_count 84 = .ok (.aload_n 0, 1) := by decide +kernel
theorem dX11_count_85 : decode cX11_count 85 = .ok (.sipush 10000, 3) := by decide +kernel
theorem dX11_count_88 : decode cX11_count 88 = .ok (.iconst (-1), 1) := by decide +kernel
theorem dX11_count_89 : decode cX11_count 89 = .ok (.invokevirtual 166, 3) := by decide +kernel
theorem dX11_count_92 : decode cX11_count 92 = .ok (.ireturn, 1) := by decide +kernel
theorem dX11_count_93 : decode cX11_count 93 = .ok (.aload_n 0, 1) := by decide +kernel
theorem dX11_count_94 : decode cX11_count 94 = .ok (.sipush 10000, 3) := by decide +kernel
theorem dX11_count_97 : decode cX11_count 97 = .ok (.iload_n 1, 1) := by decide +kernel
theorem dX11_count_98 : decode cX11_count 98 = .ok (.bipush 6, 2) := by decide +kernel
theorem dX11_count_100 : decode cX11_count 100 = .ok (.isub, 1) := by decide +kernel
theorem dX11_count_101 : decode cX11_count 101 = .ok (.invokevirtual 166, 3) := by decide +kernel
theorem dX11_count_104 : decode cX11_count 104 = .ok (.ireturn, 1) := by decide +kernel
theorem dX11_count_105 : decode cX11_count 105 = .ok (.aload_n 0, 1) := by decide +kernel
theorem dX11_count_106 : decode cX11_count 106 = .ok (.getfield 79, 3) := by decide +kernel
theorem dX11_count_109 : decode cX11_count 109 = .ok (.ireturn, 1) := by decide +kernel
theorem dX11_count_110 : decode cX11_count 110 = .ok (.aload_n 0, 1) := by decide +kernel
theorem dX11_count_111 : decode cX11_count 111 = .ok (.getfield 176, 3) := by decide +kernel
theorem dX11_count_114 : decode cX11_count 114 = .ok (.ireturn, 1) := by decide +kernel
theorem dX11_count_115 : decode cX11_count 115 = .ok (.ldc 78, 2) := by decide +kernel
theorem dX11_count_117 : decode cX11_count 117 = .ok (.ireturn, 1) := by decide +kernel
theorem dX11_undo_0 : decode cX11_undo 0 = .ok (.aload_n 0, 1) := by decide +kernel
theorem dX11_undo_1 : decode cX11_undo 1 = .ok (.getfield 79, 3) := by decide +kernel
theorem dX11_undo_4 : decode cX11_undo 4 = .ok (.ifCond .ne 6, 3) := by decide +kernel
theorem dX11_undo_7 : decode cX11_undo 7 = .ok (.ldc 103, 2) := by decide +kernel
theorem dX11_undo_9 : decode cX11_undo 9 = .ok (.ireturn, 1) := by decide +kernel
theorem dX11_undo_10 : decode cX11_undo 10 = .ok (.aload_n 0, 1) := by decide +kernel
theorem dX11_undo_11 : decode cX11_undo 11 = .ok (.dup, 1) := by decide +kernel
theorem dX11_undo_12 : decode cX11_undo 12 = .ok (.getfield 79, 3) := by decide +kernel
theorem dX11_undo_15 : decode cX11_undo 15 = .ok (.iconst 1, 1) := by decide +kernel
theorem dX11_undo_16 : decode cX11_undo 16 = .ok (.isub, 1) := by decide +kernel
theorem dX11_undo_17 : decode cX11_undo 17 = .ok (.putfield 79, 3) := by decide +kernel
theorem dX11_undo_20 : decode cX11_undo 20 = .ok (.iconst 0, 1) := by decide +kernel
theorem dX11_undo_21 : decode cX11_undo 21 = .ok (.istore_n 1, 1) := by decide +kernel
theorem dX11_undo_22 : decode cX11_undo 22 = .ok (.iload_n 1, 1) := by decide +kernel
theorem dX11_undo_23 : decode cX11_undo 23 = .ok (.bipush 52, 2) := by decide +kernel
theorem dX11_undo_25 : decode cX11_undo 25 = .ok (.if_icmp .ge 29, 3) := by decide +kernel
theorem dX11_undo_28 : decode cX11_undo 28 = .ok (.aload_n 0, 1) := by decide +kernel
theorem dX11_undo_29 : decode cX11_undo 29 = .ok (.getfield 7, 3) := by decide +kernel
theorem dX11_undo_32 : decode cX11_undo 32 = .ok (.iload_n 1, 1) := by decide +kernel
theorem dX11_undo_33 : decode cX11_undo 33 = .ok (.aload_n 0, 1) := by decide +kernel
theorem dX11_undo_34 : decode cX11_undo 34 = .ok (.getfield 13, 3) := by decide +kernel
theorem dX11_undo_37 : decode cX11_undo 37 = .ok (.bipush 52, 2) := by decide +kernel
theorem dX11_undo_39 : decode cX11_undo 39 = .ok (.aload_n 0, 1) := by decide +kernel
theorem dX11_undo_40 : decode cX11_undo 40 = .ok (.getfield 79, 3) := by decide +kernel
theorem dX11_undo_43 : decode cX11_undo 43 = .ok (.imul, 1) := by decide +kernel
theorem dX11_undo_44 : decode cX11_undo 44 = .ok (.iload_n 1, 1) := by decide +kernel
theorem dX11_undo_45 : decode cX11_undo 45 = .ok (.iadd, 1) := by decide +kernel
theorem dX11_undo_46 : decode cX11_undo 46 = .ok (.iaload, 1) := by decide +kernel
theorem dX11_undo_47 : decode cX11_undo 47 = .ok (.iastore, 1) := by decide +kernel
theorem dX11_undo_48 : decode cX11_undo 48 = .ok (.iinc 1 1, 3) := by decide +kernel
theorem dX11_undo_51 : decode cX11_undo 51 = .ok (.goto (-29), 3) := by decide +kernel
theorem dX11_undo_54 : decode cX11_undo 54 = .ok (.aload_n 0, 1) := by decide +kernel
theorem dX11_undo_55 : decode cX11_undo 55 = .ok (.getfield 79, 3) := by decide +kernel
theorem dX11_undo_58 : decode cX11_undo 58 = .ok (.ireturn, 1) := by decide +kernel
set_option maxRecDepth 20000 in
theorem ggX11_type_X11_in : GoodIn wsX11_type wsX11_in := goodIn_r _ [8] (by decide +kernel) (by decide +kernel)
set_option maxRecDepth 20000 in
theorem gX11_type_X11_in : GoodIn wsX11_type (va_wsS RX11 44 yX11_in wsX11_in) := goodIn_app (goodIn_of _ (by decide +kernel)) ggX11_type_X11_in
theorem dX11_type_0 : decode cX11_type 0 = .ok (.iload_n 1, 1) := by decide +kernel
theorem dX11_type_1 : decode cX11_type 1 = .ok (.bipush 32, 2) := by decide +kernel
theorem dX11_type_3 : decode cX11_type 3 = .ok (.bipush 126, 2) := by decide +kernel
theorem dX11_type_5 : decode cX11_type 5 = .ok (.invokestatic 44, 3) := by decide +kernel
theorem dX11_type_8 : decode cX11_type 8 = .ok (.ifCond .ne 6, 3) := by decide +kernel
theorem dX11_type_11 : decode cX11_type 11 = .ok (.ldc 78, 2) := by decide +kernel
theorem dX11_type_13 : decode cX11_type 13 = .ok (.ireturn, 1) := by decide +kernel
theorem dX11_type_14 : decode cX11_type 14 = .ok (.aload_n 0, 1) := by decide +kernel
theorem dX11_type_15 : decode cX11_type 15 = .ok (.getfield 176, 3) := by decide +kernel
theorem dX11_type_18 : decode cX11_type 18 = .ok (.bipush 80, 2) := by decide +kernel
theorem dX11_type_20 : decode cX11_type 20 = .ok (.if_icmp .ne 6, 3) := by decide +kernel
theorem dX11_type_23 : decode cX11_type 23 = .ok (.ldc 115, 2) := by decide +kernel
theorem dX11_type_25 : decode cX11_type 25 = .ok (.ireturn, 1) := by decide +kernel
theorem dX11_type_26 : decode cX11_type 26 = .ok (.aload_n 0, 1) := by decide +kernel
theorem dX11_type_27 : decode cX11_type 27 = .ok (.getfield 22, 3) := by decide +kernel
theorem dX11_type_30 : decode cX11_type 30 = .ok (.aload_n 0, 1) := by decide +kernel
theorem dX11_type_31 : decode cX11_type 31 = .ok (.getfield 176, 3) := by decide +kernel
theorem dX11_type_34 : decode cX11_type 34 = .ok (.iload_n 1, 1) := by decide +kernel
theorem dX11_type_35 : decode cX11_type 35 = .ok (.i2c, 1) := by decide +kernel
theorem dX11_type_36 : decode cX11_type 36 = .ok (.castore, 1) := by decide +kernel
theorem dX11_type_37 : decode cX11_type 37 = .ok (.aload_n 0, 1) := by decide +kernel
theorem dX11_type_38 : decode cX11_type 38 = .ok (.dup, 1) := by decide +kernel
theorem dX11_type_39 : decode cX11_type 39 = .ok (.getfield 176, 3) := by decide +kernel
theorem dX11_type_42 : decode cX11_type 42 = .ok (.iconst 1, 1) := by decide +kernel
theorem dX11_type_43 : decode cX11_type 43 = .ok (.iadd, 1) := by decide +kernel
theorem dX11_type_44 : decode cX11_type 44 = .ok (.putfield 176, 3) := by decide +kernel
theorem dX11_type_47 : decode cX11_type 47 = .ok (.aload_n 0, 1) := by decide +kernel
theorem dX11_type_48 : decode cX11_type 48 = .ok (.getfield 176, 3) := by decide +kernel
theorem dX11_type_51 : decode cX11_type 51 = .ok (.ireturn, 1) := by decide +kernel
theorem dX11_clearText_0 : decode cX11_clearText 0 = .ok (.aload_n 0, 1) := by decide +kernel
theorem dX11_clearText_1 : decode cX11_clearText 1 = .ok (.getfield 176, 3) := by decide +kernel
theorem dX11_clearText_4 : decode cX11_clearText 4 = .ok (.istore_n 1, 1) := by decide +kernel
theorem dX11_clearText_5 : decode cX11_clearText 5 = .ok (.aload_n 0, 1) := by decide +kernel
theorem dX11_clearText_6 : decode cX11_clearText 6 = .ok (.iconst 0, 1) := by decide +kernel
theorem dX11_clearText_7 : decode cX11_clearText 7 = .ok (.putfield 176, 3) := by decide +kernel
theorem dX11_clearText_10 : decode cX11_clearText 10 = .ok (.iload_n 1, 1) := by decide +kernel
theorem dX11_clearText_11 : decode cX11_clearText 11 = .ok (.ireturn, 1) := by decide +kernel
theorem dX11_sign_0 : decode cX11_sign 0 = .ok (.aload_n 0, 1) := by decide +kernel
theorem dX11_sign_1 : decode cX11_sign 1 = .ok (.getfield 179, 3) := by decide +kernel
theorem dX11_sign_4 : decode cX11_sign 4 = .ok (.aload_n 0, 1) := by decide +kernel
theorem dX11_sign_5 : decode cX11_sign 5 = .ok (.getfield 176, 3) := by decide +kernel
theorem dX11_sign_8 : decode cX11_sign 8 = .ok (.if_icmp .ge 15, 3) := by decide +kernel
theorem dX11_sign_11 : decode cX11_sign 11 = .ok (.aload_n 0, 1) := by decide +kernel
theorem dX11_sign_12 : decode cX11_sign 12 = .ok (.getfield 22, 3) := by decide +kernel
theorem dX11_sign_15 : decode cX11_sign 15 = .ok (.aload_n 0, 1) := by decide +kernel
theorem dX11_sign_16 : decode cX11_sign 16 = .ok (.getfield 179, 3) := by decide +kernel
theorem dX11_sign_19 : decode cX11_sign 19 = .ok (.caload, 1) := by decide +kernel
theorem dX11_sign_20 : decode cX11_sign 20 = .ok (.goto 4, 3) := by decide +kernel
theorem dX11_sign_23 : decode cX11_sign 23 = .ok (.iconst (-1), 1) := by decide +kernel
theorem dX11_sign_24 : decode cX11_sign 24 = .ok (.ireturn, 1) := by decide +kernel
set_option maxRecDepth 20000 in
theorem ggX11_takes_X11_sign : GoodIn wsX11_takes wsX11_sign := goodIn_r _ [6, 1, 7, 8, 9, 10, 11, 12, 13, 14, 15, 16, 17, 18, 19, 20, 21, 22, 23, 24, 25, 26, 27, 28, 29, 30, 31, 32, 33, 34, 35] (by decide +kernel) (by decide +kernel)
set_option maxRecDepth 20000 in
theorem gX11_takes_X11_sign : GoodIn wsX11_takes (wsV RX11 182 RX11 yX11_sign wsX11_sign) := goodIn_app (goodIn_of _ (by decide +kernel)) ggX11_takes_X11_sign
theorem dX11_takes_0 : decode cX11_takes 0 = .ok (.aload_n 0, 1) := by decide +kernel
theorem dX11_takes_1 : decode cX11_takes 1 = .ok (.invokevirtual 182, 3) := by decide +kernel
theorem dX11_takes_4 : decode cX11_takes 4 = .ok (.iload_n 1, 1) := by decide +kernel
theorem dX11_takes_5 : decode cX11_takes 5 = .ok (.if_icmp .ne 7, 3) := by decide +kernel
theorem dX11_takes_8 : decode cX11_takes 8 = .ok (.iconst 1, 1) := by decide +kernel
theorem dX11_takes_9 : decode cX11_takes 9 = .ok (.goto 4, 3) := by decide +kernel
theorem dX11_takes_12 : decode cX11_takes 12 = .ok (.iconst 0, 1) := by decide +kernel
theorem dX11_takes_13 : decode cX11_takes 13 = .ok (.istore_n 2, 1) := by decide +kernel
theorem dX11_takes_14 : decode cX11_takes 14 = .ok (.aload_n 0, 1) := by decide +kernel
theorem dX11_takes_15 : decode cX11_takes 15 = .ok (.dup, 1) := by decide +kernel
theorem dX11_takes_16 : decode cX11_takes 16 = .ok (.getfield 179, 3) := by decide +kernel
theorem dX11_takes_19 : decode cX11_takes 19 = .ok (.iload_n 2, 1) := by decide +kernel
theorem dX11_takes_20 : decode cX11_takes 20 = .ok (.ifCond .eq 7, 3) := by decide +kernel
theorem dX11_takes_23 : decode cX11_takes 23 = .ok (.iconst 1, 1) := by decide +kernel
theorem dX11_takes_24 : decode cX11_takes 24 = .ok (.goto 4, 3) := by decide +kernel
theorem dX11_takes_27 : decode cX11_takes 27 = .ok (.iconst 0, 1) := by decide +kernel
theorem dX11_takes_28 : decode cX11_takes 28 = .ok (.iadd, 1) := by decide +kernel
theorem dX11_takes_29 : decode cX11_takes 29 = .ok (.putfield 179, 3) := by decide +kernel
theorem dX11_takes_32 : decode cX11_takes 32 = .ok (.iload_n 2, 1) := by decide +kernel
theorem dX11_takes_33 : decode cX11_takes 33 = .ok (.ireturn, 1) := by decide +kernel
set_option maxRecDepth 20000 in
theorem ggX11_readsWord_X11_sign : GoodIn wsX11_readsWord wsX11_sign := goodIn_r _ [8, 3, 9, 10, 14, 15, 16, 17, 18, 19, 20, 21, 22, 23, 24, 25, 26, 27, 28, 29, 30, 31, 32, 33, 34, 35, 36, 37, 38, 39, 40] (by decide +kernel) (by decide +kernel)
set_option maxRecDepth 20000 in
theorem gX11_readsWord_X11_sign : GoodIn wsX11_readsWord (wsV RX11 182 RX11 yX11_sign wsX11_sign) := goodIn_app (goodIn_of _ (by decide +kernel)) ggX11_readsWord_X11_sign
set_option maxRecDepth 20000 in
theorem ggX11_readsWord_X11_in : GoodIn wsX11_readsWord wsX11_in := goodIn_r _ [13] (by decide +kernel) (by decide +kernel)
set_option maxRecDepth 20000 in
theorem gX11_readsWord_X11_in : GoodIn wsX11_readsWord (va_wsS RX11 44 yX11_in wsX11_in) := goodIn_app (goodIn_of _ (by decide +kernel)) ggX11_readsWord_X11_in
theorem dX11_readsWord_0 : decode cX11_readsWord 0 = .ok (.aload_n 0, 1) := by decide +kernel
theorem dX11_readsWord_1 : decode cX11_readsWord 1 = .ok (.iconst 1, 1) := by decide +kernel
theorem dX11_readsWord_2 : decode cX11_readsWord 2 = .ok (.putfield 185, 3) := by decide +kernel
theorem dX11_readsWord_5 : decode cX11_readsWord 5 = .ok (.aload_n 0, 1) := by decide +kernel
theorem dX11_readsWord_6 : decode cX11_readsWord 6 = .ok (.iconst 0, 1) := by decide +kernel
theorem dX11_readsWord_7 : decode cX11_readsWord 7 = .ok (.putfield 188, 3) := by decide +kernel
theorem dX11_readsWord_10 : decode cX11_readsWord 10 = .ok (.aload_n 0, 1) := by decide +kernel
theorem dX11_readsWord_11 : decode cX11_readsWord 11 = .ok (.invokevirtual 182, 3) := by decide +kernel
theorem dX11_readsWord_14 : decode cX11_readsWord 14 = .ok (.bipush 97, 2) := by decide +kernel
theorem dX11_readsWord_16 : decode cX11_readsWord 16 = .ok (.bipush 100, 2) := by decide +kernel
theorem dX11_readsWord_18 : decode cX11_readsWord 18 = .ok (.invokestatic 44, 3) := by decide +kernel
theorem dX11_readsWord_21 : decode cX11_readsWord 21 = .ok (.ifCond .eq 60, 3) := by decide +kernel
theorem dX11_readsWord_24 : decode cX11_readsWord 24 = .ok (.aload_n 0, 1) := by decide +kernel
theorem dX11_readsWord_25 : decode cX11_readsWord 25 = .ok (.aload_n 0, 1) := by decide +kernel
theorem dX11_readsWord_26 : decode cX11_readsWord 26 = .ok (.getfield 188, 3) := by decide +kernel
theorem dX11_readsWord_29 : decode cX11_readsWord 29 = .ok (.bipush 12, 2) := by decide +kernel
theorem dX11_readsWord_31 : decode cX11_readsWord 31 = .ok (.if_icmp .ge 20, 3) := by decide +kernel
theorem dX11_readsWord_34 : decode cX11_readsWord 34 = .ok (.iconst 4, 1) := by decide +kernel
theorem dX11_readsWord_35 : decode cX11_readsWord 35 = .ok (.aload_n 0, 1) := by decide +kernel
theorem dX11_readsWord_36 : decode cX11_readsWord 36 = .ok (.getfield 185, 3) := by decide +kernel
theorem dX11_readsWord_39 : decode cX11_readsWord 39 = .ok (.imul, 1) := by decide +kernel
theorem dX11_readsWord_40 : decode cX11_readsWord 40 = .ok (.aload_n 0, 1) := by decide +kernel
theorem dX11_readsWord_41 : decode cX11_readsWord 41 = .ok (.invokevirtual 182, 3) := by decide +kernel
theorem dX11_readsWord_44 : decode cX11_readsWord 44 = .ok (.iadd, 1) := by decide +kernel
theorem dX11_readsWord_45 : decode cX11_readsWord 45 = .ok (.bipush 97, 2) := by decide +kernel
theorem dX11_readsWord_47 : decode cX11_readsWord 47 = .ok (.isub, 1) := by decide +kernel
theorem dX11_readsWord_48 : decode cX11_readsWord 48 = .ok (.goto 7, 3) := by decide +kernel
theorem dX11_readsWord_51 : decode cX11_readsWord 51 = .ok (.aload_n 0, 1) := by decide +kernel
theorem dX11_readsWord_52 : decode cX11_readsWord 52 = .ok (.getfield 185, 3) := by decide +kernel
theorem dX11_readsWord_55 : decode cX11_readsWord 55 = .ok (.putfield 185, 3) := by decide +kernel
theorem dX11_readsWord_58 : decode cX11_readsWord 58 = .ok (.aload_n 0, 1) := by decide +kernel
theorem dX11_readsWord_59 : decode cX11_readsWord 59 = .ok (.dup, 1) := by decide +kernel
theorem dX11_readsWord_60 : decode cX11_readsWord 60 = .ok (.getfield 188, 3) := by decide +kernel
theorem dX11_readsWord_63 : decode cX11_readsWord 63 = .ok (.iconst 1, 1) := by decide +kernel
theorem dX11_readsWord_64 : decode cX11_readsWord 64 = .ok (.iadd, 1) := by decide +kernel
theorem dX11_readsWord_65 : decode cX11_readsWord 65 = .ok (.putfield 188, 3) := by decide +kernel
theorem dX11_readsWord_68 : decode cX11_readsWord 68 = .ok (.aload_n 0, 1) := by decide +kernel
theorem dX11_readsWord_69 : decode cX11_readsWord 69 = .ok (.dup, 1) := by decide +kernel
theorem dX11_readsWord_70 : decode cX11_readsWord 70 = .ok (.getfield 179, 3) := by decide +kernel
theorem dX11_readsWord_73 : decode cX11_readsWord 73 = .ok (.iconst 1, 1) := by decide +kernel
theorem dX11_readsWord_74 : decode cX11_readsWord 74 = .ok (.iadd, 1) := by decide +kernel
theorem dX11_readsWord_75 : decode cX11_readsWord 75 = .ok (.putfield 179, 3) := by decide +kernel
theorem dX11_readsWord_78 : decode cX11_readsWord 78 = .ok (.goto (-68), 3) := by decide +kernel
theorem dX11_readsWord_81 : decode cX11_readsWord 81 = .ok (.return_, 1) := by decide +kernel
theorem dX11_says_0 : decode cX11_says 0 = .ok (.aload_n 0, 1) := by decide +kernel
theorem dX11_says_1 : decode cX11_says 1 = .ok (.iload_n 2, 1) := by decide +kernel
theorem dX11_says_2 : decode cX11_says 2 = .ok (.putfield 191, 3) := by decide +kernel
theorem dX11_says_5 : decode cX11_says 5 = .ok (.iload_n 1, 1) := by decide +kernel
theorem dX11_says_6 : decode cX11_says 6 = .ok (.ireturn, 1) := by decide +kernel
set_option maxRecDepth 20000 in
theorem ggX11_readsRule_X11_readsWord : GoodIn wsX11_readsRule wsX11_readsWord := goodIn_r _ [10, 1, 2, 3, 11, 12, 13, 9, 14, 15, 16, 17, 18, 19, 41, 42, 43, 44, 45, 46, 47, 48, 49, 50, 51, 52, 53, 54, 55, 56, 57, 58, 59, 60, 61, 62, 63, 64, 65, 66, 67] (by decide +kernel) (by decide +kernel)
set_option maxRecDepth 20000 in
theorem gX11_readsRule_X11_readsWord : GoodIn wsX11_readsRule (wsV RX11 194 RX11 yX11_readsWord wsX11_readsWord) := goodIn_app (goodIn_of _ (by decide +kernel)) ggX11_readsRule_X11_readsWord
set_option maxRecDepth 20000 in
theorem ggX11_readsRule_X11_takes : GoodIn wsX11_readsRule wsX11_takes := goodIn_r _ [23, 3, 11, 12, 13, 9, 14, 15, 16, 41, 42, 43, 44, 45, 46, 47, 48, 49, 50, 51, 52, 53, 54, 55, 56, 57, 58, 59, 60, 61, 62, 63, 64, 65, 66, 67] (by decide +kernel) (by decide +kernel)
set_option maxRecDepth 20000 in
theorem gX11_readsRule_X11_takes : GoodIn wsX11_readsRule (wsV RX11 197 RX11 yX11_takes wsX11_takes) := goodIn_app (goodIn_of _ (by decide +kernel)) ggX11_readsRule_X11_takes
set_option maxRecDepth 20000 in
theorem ggX11_readsRule_X11_says : GoodIn wsX11_readsRule wsX11_says := goodIn_r _ [27, 28, 41, 42, 43, 44, 45, 46, 47, 48, 49, 50, 51, 52, 53, 54, 55, 56, 57, 58, 59, 60, 61, 62, 63, 64, 65, 66, 67] (by decide +kernel) (by decide +kernel)
set_option maxRecDepth 20000 in
theorem gX11_readsRule_X11_says : GoodIn wsX11_readsRule (wsV RX11 201 RX11 yX11_says wsX11_says) := goodIn_app (goodIn_of _ (by decide +kernel)) ggX11_readsRule_X11_says
set_option maxRecDepth 20000 in
theorem ggX11_readsRule_X11_left : GoodIn wsX11_readsRule wsX11_left := goodIn_r _ [32, 5, 41, 42, 43, 44, 45, 46, 47, 48, 49, 50, 51, 52, 53, 54, 55, 56, 57, 58, 59, 60, 61, 62, 63, 64, 65, 66, 67] (by decide +kernel) (by decide +kernel)
set_option maxRecDepth 20000 in
theorem gX11_readsRule_X11_left : GoodIn wsX11_readsRule (wsV RX11 48 RX11 yX11_left wsX11_left) := goodIn_app (goodIn_of _ (by decide +kernel)) ggX11_readsRule_X11_left
set_option maxRecDepth 20000 in
theorem ggX11_readsRule_X11_right : GoodIn wsX11_readsRule wsX11_right := goodIn_r _ [36, 5, 41, 42, 43, 44, 45, 46, 47, 48, 49, 50, 51, 52, 53, 54, 55, 56, 57, 58, 59, 60, 61, 62, 63, 64, 65, 66, 67] (by decide +kernel) (by decide +kernel)
set_option maxRecDepth 20000 in
theorem gX11_readsRule_X11_right : GoodIn wsX11_readsRule (wsV RX11 51 RX11 yX11_right wsX11_right) := goodIn_app (goodIn_of _ (by decide +kernel)) ggX11_readsRule_X11_right
set_option maxRecDepth 20000 in
theorem ggX11_readsRule_X11_adds : GoodIn wsX11_readsRule wsX11_adds := goodIn_r _ [40, 5, 41, 42, 43, 44, 45, 46, 47, 48, 49, 50, 51, 52, 53, 54, 55, 56, 57, 58, 59, 60, 61, 62, 63, 64, 65, 66, 67] (by decide +kernel) (by decide +kernel)
set_option maxRecDepth 20000 in
theorem gX11_readsRule_X11_adds : GoodIn wsX11_readsRule (wsV RX11 169 RX11 yX11_adds wsX11_adds) := goodIn_app (goodIn_of _ (by decide +kernel)) ggX11_readsRule_X11_adds
theorem dX11_readsRule_0 : decode cX11_readsRule 0 = .ok (.aload_n 0, 1) := by decide +kernel
theorem dX11_readsRule_1 : decode cX11_readsRule 1 = .ok (.invokevirtual 194, 3) := by decide +kernel
theorem dX11_readsRule_4 : decode cX11_readsRule 4 = .ok (.aload_n 0, 1) := by decide +kernel
theorem dX11_readsRule_5 : decode cX11_readsRule 5 = .ok (.getfield 185, 3) := by decide +kernel
theorem dX11_readsRule_8 : decode cX11_readsRule 8 = .ok (.istore_n 2, 1) := by decide +kernel
theorem dX11_readsRule_9 : decode cX11_readsRule 9 = .ok (.aload_n 0, 1) := by decide +kernel
theorem dX11_readsRule_10 : decode cX11_readsRule 10 = .ok (.getfield 188, 3) := by decide +kernel
theorem dX11_readsRule_13 : decode cX11_readsRule 13 = .ok (.istore_n 3, 1) := by decide +kernel
theorem dX11_readsRule_14 : decode cX11_readsRule 14 = .ok (.aload_n 0, 1) := by decide +kernel
theorem dX11_readsRule_15 : decode cX11_readsRule 15 = .ok (.bipush 62, 2) := by decide +kernel
theorem dX11_readsRule_17 : decode cX11_readsRule 17 = .ok (.invokevirtual 197, 3) := by decide +kernel
theorem dX11_readsRule_20 : decode cX11_readsRule 20 = .ok (.ifCond .ne 15, 3) := by decide +kernel
theorem dX11_readsRule_23 : decode cX11_readsRule 23 = .ok (.aload_n 0, 1) := by decide +kernel
theorem dX11_readsRule_24 : decode cX11_readsRule 24 = .ok (.iconst 1, 1) := by decide +kernel
theorem dX11_readsRule_25 : decode cX11_readsRule 25 = .ok (.aload_n 0, 1) := by decide +kernel
theorem dX11_readsRule_26 : decode cX11_readsRule 26 = .ok (.getfield 179, 3) := by decide +kernel
theorem dX11_readsRule_29 : decode cX11_readsRule 29 = .ok (.iload_n 1, 1) := by decide +kernel
theorem dX11_readsRule_30 : decode cX11_readsRule 30 = .ok (.isub, 1) := by decide +kernel
theorem dX11_readsRule_31 : decode cX11_readsRule 31 = .ok (.invokevirtual 201, 3) := by decide +kernel
theorem dX11_readsRule_34 : decode cX11_readsRule 34 = .ok (.ireturn, 1) := by decide +kernel
theorem dX11_readsRule_35 : decode cX11_readsRule 35 = .ok (.aload_n 0, 1) := by decide +kernel
theorem dX11_readsRule_36 : decode cX11_readsRule 36 = .ok (.invokevirtual 194, 3) := by decide +kernel
theorem dX11_readsRule_39 : decode cX11_readsRule 39 = .ok (.aload_n 0, 1) := by decide +kernel
theorem dX11_readsRule_40 : decode cX11_readsRule 40 = .ok (.getfield 188, 3) := by decide +kernel
theorem dX11_readsRule_43 : decode cX11_readsRule 43 = .ok (.istore 4, 2) := by decide +kernel
theorem dX11_readsRule_45 : decode cX11_readsRule 45 = .ok (.aload_n 0, 1) := by decide +kernel
theorem dX11_readsRule_46 : decode cX11_readsRule 46 = .ok (.bipush 59, 2) := by decide +kernel
theorem dX11_readsRule_48 : decode cX11_readsRule 48 = .ok (.invokevirtual 197, 3) := by decide +kernel
theorem dX11_readsRule_51 : decode cX11_readsRule 51 = .ok (.ifCond .ne 15, 3) := by decide +kernel
theorem dX11_readsRule_54 : decode cX11_readsRule 54 = .ok (.aload_n 0, 1) := by decide +kernel
theorem dX11_readsRule_55 : decode cX11_readsRule 55 = .ok (.iconst 1, 1) := by decide +kernel
theorem dX11_readsRule_56 : decode cX11_readsRule 56 = .ok (.aload_n 0, 1) := by decide +kernel
theorem dX11_readsRule_57 : decode cX11_readsRule 57 = .ok (.getfield 179, 3) := by decide +kernel
theorem dX11_readsRule_60 : decode cX11_readsRule 60 = .ok (.iload_n 1, 1) := by decide +kernel
theorem dX11_readsRule_61 : decode cX11_readsRule 61 = .ok (.isub, 1) := by decide +kernel
theorem dX11_readsRule_62 : decode cX11_readsRule 62 = .ok (.invokevirtual 201, 3) := by decide +kernel
theorem dX11_readsRule_65 : decode cX11_readsRule 65 = .ok (.ireturn, 1) := by decide +kernel
theorem dX11_readsRule_66 : decode cX11_readsRule 66 = .ok (.iload_n 3, 1) := by decide +kernel
theorem dX11_readsRule_67 : decode cX11_readsRule 67 = .ok (.ifCond .eq 14, 3) := by decide +kernel
theorem dX11_readsRule_70 : decode cX11_readsRule 70 = .ok (.iload_n 3, 1) := by decide +kernel
theorem dX11_readsRule_71 : decode cX11_readsRule 71 = .ok (.iconst 4, 1) := by decide +kernel
theorem dX11_readsRule_72 : decode cX11_readsRule 72 = .ok (.if_icmp .gt 9, 3) := by decide +kernel
theorem dX11_readsRule_75 : decode cX11_readsRule 75 = .ok (.iload 4, 2) := by decide +kernel
theorem dX11_readsRule_77 : decode cX11_readsRule 77 = .ok (.iconst 4, 1) := by decide +kernel
theorem dX11_readsRule_78 : decode cX11_readsRule 78 = .ok (.if_icmp .le 11, 3) := by decide +kernel
theorem dX11_readsRule_81 : decode cX11_readsRule 81 = .ok (.aload_n 0, 1) := by decide +kernel
theorem dX11_readsRule_82 : decode cX11_readsRule 82 = .ok (.iconst 2, 1) := by decide +kernel
theorem dX11_readsRule_83 : decode cX11_readsRule 83 = .ok (.ldc 43, 2) := by decide +kernel
theorem dX11_readsRule_85 : decode cX11_readsRule 85 = .ok (.invokevirtual 201, 3) := by decide +kernel
theorem dX11_readsRule_88 : decode cX11_readsRule 88 = .ok (.ireturn, 1) := by decide +kernel
theorem dX11_readsRule_89 : decode cX11_readsRule 89 = .ok (.iload 4, 2) := by decide +kernel
theorem dX11_readsRule_91 : decode cX11_readsRule 91 = .ok (.iload_n 3, 1) := by decide +kernel
theorem dX11_readsRule_92 : decode cX11_readsRule 92 = .ok (.if_icmp .gt 11, 3) := by decide +kernel
theorem dX11_readsRule_95 : decode cX11_readsRule 95 = .ok (.aload_n 0, 1) := by decide +kernel
theorem dX11_readsRule_96 : decode cX11_readsRule 96 = .ok (.getfield 185, 3) := by decide +kernel
theorem dX11_readsRule_99 : decode cX11_readsRule 99 = .ok (.iload_n 2, 1) := by decide +kernel
theorem dX11_readsRule_100 : decode cX11_readsRule 100 = .ok (.if_icmp .ne 10, 3) := by decide +kernel
theorem dX11_readsRule_103 : decode cX11_readsRule 103 = .ok (.aload_n 0, 1) := by decide +kernel
theorem dX11_readsRule_104 : decode cX11_readsRule 104 = .ok (.iconst 3, 1) := by decide +kernel
theorem dX11_readsRule_105 : decode cX11_readsRule 105 = .ok (.iconst 1, 1) := by decide +kernel
theorem dX11_readsRule_106 : decode cX11_readsRule 106 = .ok (.invokevirtual 201, 3) := by decide +kernel
theorem dX11_readsRule_109 : decode cX11_readsRule 109 = .ok (.ireturn, 1) := by decide +kernel
theorem dX11_readsRule_110 : decode cX11_readsRule 110 = .ok (.iconst 0, 1) := by decide +kernel
theorem dX11_readsRule_111 : decode cX11_readsRule 111 = .ok (.istore 5, 2) := by decide +kernel
theorem dX11_readsRule_113 : decode cX11_readsRule 113 = .ok (.iload 5, 2) := by decide +kernel
theorem dX11_readsRule_115 : decode cX11_readsRule 115 = .ok (.aload_n 0, 1) := by decide +kernel
theorem dX11_readsRule_116 : decode cX11_readsRule 116 = .ok (.getfield 7, 3) := by decide +kernel
theorem dX11_readsRule_119 : decode cX11_readsRule 119 = .ok (.iconst 1, 1) := by decide +kernel
theorem dX11_readsRule_120 : decode cX11_readsRule 120 = .ok (.iaload, 1) := by decide +kernel
theorem dX11_readsRule_121 : decode cX11_readsRule 121 = .ok (.if_icmp .ge 39, 3) := by decide +kernel
theorem dX11_readsRule_124 : decode cX11_readsRule 124 = .ok (.aload_n 0, 1) := by decide +kernel
theorem dX11_readsRule_125 : decode cX11_readsRule 125 = .ok (.iload 5, 2) := by decide +kernel
theorem dX11_readsRule_127 : decode cX11_readsRule 127 = .ok (.invokevirtual 48, 3) := by decide +kernel
theorem dX11_readsRule_130 : decode cX11_readsRule 130 = .ok (.iload_n 2, 1) := by decide +kernel
theorem dX11_readsRule_131 : decode cX11_readsRule 131 = .ok (.if_icmp .ne 23, 3) := by decide +kernel
theorem dX11_readsRule_134 : decode cX11_readsRule 134 = .ok (.aload_n 0, 1) := by decide +kernel
theorem dX11_readsRule_135 : decode cX11_readsRule 135 = .ok (.iload 5, 2) := by decide +kernel
theorem dX11_readsRule_137 : decode cX11_readsRule 137 = .ok (.invokevirtual 51, 3) := by decide +kernel
theorem dX11_readsRule_140 : decode cX11_readsRule 140 = .ok (.aload_n 0, 1) := by decide +kernel
theorem dX11_readsRule_141 : decode cX11_readsRule 141 = .ok (.getfield 185, 3) := by decide +kernel
theorem dX11_readsRule_144 : decode cX11_readsRule 144 = .ok (.if_icmp .ne 10, 3) := by decide +kernel
theorem dX11_readsRule_147 : decode cX11_readsRule 147 = .ok (.aload_n 0, 1) := by decide +kernel
theorem dX11_readsRule_148 : decode cX11_readsRule 148 = .ok (.iconst 3, 1) := by decide +kernel
theorem dX11_readsRule_149 : decode cX11_readsRule 149 = .ok (.iconst 2, 1) := by decide +kernel
theorem dX11_readsRule_150 : decode cX11_readsRule 150 = .ok (.invokevirtual 201, 3) := by decide +kernel
theorem dX11_readsRule_153 : decode cX11_readsRule 153 = .ok (.ireturn, 1) := by decide +kernel
theorem dX11_readsRule_154 : decode cX11_readsRule 154 = .ok (.iinc 5 1, 3) := by decide +kernel
theorem dX11_readsRule_157 : decode cX11_readsRule 157 = .ok (.goto (-44), 3) := by decide +kernel
theorem dX11_readsRule_160 : decode cX11_readsRule 160 = .ok (.aload_n 0, 1) := by decide +kernel
theorem dX11_readsRule_161 : decode cX11_readsRule 161 = .ok (.getfield 7, 3) := by decide +kernel
theorem dX11_readsRule_164 : decode cX11_readsRule 164 = .ok (.iconst 1, 1) := by decide +kernel
theorem dX11_readsRule_165 : decode cX11_readsRule 165 = .ok (.iaload, 1) := by decide +kernel
theorem dX11_readsRule_166 : decode cX11_readsRule 166 = .ok (.bipush 10, 2) := by decide +kernel
theorem dX11_readsRule_168 : decode cX11_readsRule 168 = .ok (.if_icmp .ne 10, 3) := by decide +kernel
theorem dX11_readsRule_171 : decode cX11_readsRule 171 = .ok (.aload_n 0, 1) := by decide +kernel
theorem dX11_readsRule_172 : decode cX11_readsRule 172 = .ok (.iconst 3, 1) := by decide +kernel
theorem dX11_readsRule_173 : decode cX11_readsRule 173 = .ok (.iconst 3, 1) := by decide +kernel
theorem dX11_readsRule_174 : decode cX11_readsRule 174 = .ok (.invokevirtual 201, 3) := by decide +kernel
theorem dX11_readsRule_177 : decode cX11_readsRule 177 = .ok (.ireturn, 1) := by decide +kernel
theorem dX11_readsRule_178 : decode cX11_readsRule 178 = .ok (.aload_n 0, 1) := by decide +kernel
theorem dX11_readsRule_179 : decode cX11_readsRule 179 = .ok (.iload_n 2, 1) := by decide +kernel
theorem dX11_readsRule_180 : decode cX11_readsRule 180 = .ok (.aload_n 0, 1) := by decide +kernel
theorem dX11_readsRule_181 : decode cX11_readsRule 181 = .ok (.getfield 185, 3) := by decide +kernel
theorem dX11_readsRule_184 : decode cX11_readsRule 184 = .ok (.invokevirtual 169, 3) := by decide +kernel
theorem dX11_readsRule_187 : decode cX11_readsRule 187 = .ok (.iconst 0, 1) := by decide +kernel
theorem dX11_readsRule_188 : decode cX11_readsRule 188 = .ok (.ireturn, 1) := by decide +kernel
set_option maxRecDepth 20000 in
theorem ggX11_readsDigit_X11_sign : GoodIn wsX11_readsDigit wsX11_sign := goodIn_r _ [8, 1, 9, 10, 36, 37, 38, 39, 40, 41, 42, 43, 44, 45, 46, 47, 48, 49, 50, 51, 52, 53, 54, 55, 56, 57, 58, 59, 60, 61, 62] (by decide +kernel) (by decide +kernel)
set_option maxRecDepth 20000 in
theorem gX11_readsDigit_X11_sign : GoodIn wsX11_readsDigit (wsV RX11 182 RX11 yX11_sign wsX11_sign) := goodIn_app (goodIn_of _ (by decide +kernel)) ggX11_readsDigit_X11_sign
set_option maxRecDepth 20000 in
theorem ggX11_readsDigit_X11_in : GoodIn wsX11_readsDigit wsX11_in := goodIn_r _ [13] (by decide +kernel) (by decide +kernel)
set_option maxRecDepth 20000 in
theorem gX11_readsDigit_X11_in : GoodIn wsX11_readsDigit (va_wsS RX11 44 yX11_in wsX11_in) := goodIn_app (goodIn_of _ (by decide +kernel)) ggX11_readsDigit_X11_in
set_option maxRecDepth 20000 in
theorem ggX11_readsDigit_X11_says : GoodIn wsX11_readsDigit wsX11_says := goodIn_r _ [17, 18, 36, 37, 38, 39, 40, 41, 42, 43, 44, 45, 46, 47, 48, 49, 50, 51, 52, 53, 54, 55, 56, 57, 58, 59, 60, 61, 62] (by decide +kernel) (by decide +kernel)
set_option maxRecDepth 20000 in
theorem gX11_readsDigit_X11_says : GoodIn wsX11_readsDigit (wsV RX11 201 RX11 yX11_says wsX11_says) := goodIn_app (goodIn_of _ (by decide +kernel)) ggX11_readsDigit_X11_says
set_option maxRecDepth 20000 in
theorem ggX11_readsDigit_X11_takes : GoodIn wsX11_readsDigit wsX11_takes := goodIn_r _ [22, 1, 4, 5, 6, 7, 8, 9, 10, 36, 37, 38, 39, 40, 41, 42, 43, 44, 45, 46, 47, 48, 49, 50, 51, 52, 53, 54, 55, 56, 57, 58, 59, 60, 61, 62] (by decide +kernel) (by decide +kernel)
set_option maxRecDepth 20000 in
theorem gX11_readsDigit_X11_takes : GoodIn wsX11_readsDigit (wsV RX11 197 RX11 yX11_takes wsX11_takes) := goodIn_app (goodIn_of _ (by decide +kernel)) ggX11_readsDigit_X11_takes
set_option maxRecDepth 20000 in
theorem ggX11_readsDigit_X11_drops : GoodIn wsX11_readsDigit wsX11_drops := goodIn_r _ [26, 2, 27, 28, 29, 30, 7, 31, 11, 12, 13, 36, 37, 38, 39, 40, 41, 42, 43, 44, 45, 46, 47, 48, 49, 50, 51, 52, 53, 54, 55, 56, 57, 58, 59, 60, 61, 62] (by decide +kernel) (by decide +kernel)
set_option maxRecDepth 20000 in
theorem gX11_readsDigit_X11_drops : GoodIn wsX11_readsDigit (wsV RX11 88 RX11 yX11_drops wsX11_drops) := goodIn_app (goodIn_of _ (by decide +kernel)) ggX11_readsDigit_X11_drops
set_option maxRecDepth 20000 in
theorem ggX11_readsDigit_X11_goes : GoodIn wsX11_readsDigit wsX11_goes := goodIn_r _ [35, 2, 27, 11, 12, 7, 13, 36, 37, 38, 39, 40, 41, 42, 43, 44, 45, 46, 47, 48, 49, 50, 51, 52, 53, 54, 55, 56, 57, 58, 59, 60, 61, 62] (by decide +kernel) (by decide +kernel)
set_option maxRecDepth 20000 in
theorem gX11_readsDigit_X11_goes : GoodIn wsX11_readsDigit (wsV RX11 94 RX11 yX11_goes wsX11_goes) := goodIn_app (goodIn_of _ (by decide +kernel)) ggX11_readsDigit_X11_goes
theorem dX11_readsDigit_0 : decode cX11_readsDigit 0 = .ok (.aload_n 0, 1) := by decide +kernel
theorem dX11_readsDigit_1 : decode cX11_readsDigit 1 = .ok (.invokevirtual 182, 3) := by decide +kernel
theorem dX11_readsDigit_4 : decode cX11_readsDigit 4 = .ok (.bipush 48, 2) := by decide +kernel
theorem dX11_readsDigit_6 : decode cX11_readsDigit 6 = .ok (.isub, 1) := by decide +kernel
theorem dX11_readsDigit_7 : decode cX11_readsDigit 7 = .ok (.istore_n 3, 1) := by decide +kernel
theorem dX11_readsDigit_8 : decode cX11_readsDigit 8 = .ok (.iload_n 3, 1) := by decide +kernel
theorem dX11_readsDigit_9 : decode cX11_readsDigit 9 = .ok (.iconst 0, 1) := by decide +kernel
theorem dX11_readsDigit_10 : decode cX11_readsDigit 10 = .ok (.bipush 9, 2) := by decide +kernel
theorem dX11_readsDigit_12 : decode cX11_readsDigit 12 = .ok (.invokestatic 44, 3) := by decide +kernel
theorem dX11_readsDigit_15 : decode cX11_readsDigit 15 = .ok (.ifCond .ne 15, 3) := by decide +kernel
theorem dX11_readsDigit_18 : decode cX11_readsDigit 18 = .ok (.aload_n 0, 1) := by decide +kernel
theorem dX11_readsDigit_19 : decode cX11_readsDigit 19 = .ok (.iconst 1, 1) := by decide +kernel
theorem dX11_readsDigit_20 : decode cX11_readsDigit 20 = .ok (.aload_n 0, 1) := by decide +kernel
theorem dX11_readsDigit_21 : decode cX11_readsDigit 21 = .ok (.getfield 179, 3) := by decide +kernel
theorem dX11_readsDigit_24 : decode cX11_readsDigit 24 = .ok (.iload_n 1, 1) := by decide +kernel
theorem dX11_readsDigit_25 : decode cX11_readsDigit 25 = .ok (.isub, 1) := by decide +kernel
theorem dX11_readsDigit_26 : decode cX11_readsDigit 26 = .ok (.invokevirtual 201, 3) := by decide +kernel
theorem dX11_readsDigit_29 : decode cX11_readsDigit 29 = .ok (.ireturn, 1) := by decide +kernel
theorem dX11_readsDigit_30 : decode cX11_readsDigit 30 = .ok (.aload_n 0, 1) := by decide +kernel
theorem dX11_readsDigit_31 : decode cX11_readsDigit 31 = .ok (.dup, 1) := by decide +kernel
theorem dX11_readsDigit_32 : decode cX11_readsDigit 32 = .ok (.getfield 179, 3) := by decide +kernel
theorem dX11_readsDigit_35 : decode cX11_readsDigit 35 = .ok (.iconst 1, 1) := by decide +kernel
theorem dX11_readsDigit_36 : decode cX11_readsDigit 36 = .ok (.iadd, 1) := by decide +kernel
theorem dX11_readsDigit_37 : decode cX11_readsDigit 37 = .ok (.putfield 179, 3) := by decide +kernel
theorem dX11_readsDigit_40 : decode cX11_readsDigit 40 = .ok (.aload_n 0, 1) := by decide +kernel
theorem dX11_readsDigit_41 : decode cX11_readsDigit 41 = .ok (.bipush 59, 2) := by decide +kernel
theorem dX11_readsDigit_43 : decode cX11_readsDigit 43 = .ok (.invokevirtual 197, 3) := by decide +kernel
theorem dX11_readsDigit_46 : decode cX11_readsDigit 46 = .ok (.ifCond .ne 15, 3) := by decide +kernel
theorem dX11_readsDigit_49 : decode cX11_readsDigit 49 = .ok (.aload_n 0, 1) := by decide +kernel
theorem dX11_readsDigit_50 : decode cX11_readsDigit 50 = .ok (.iconst 1, 1) := by decide +kernel
theorem dX11_readsDigit_51 : decode cX11_readsDigit 51 = .ok (.aload_n 0, 1) := by decide +kernel
theorem dX11_readsDigit_52 : decode cX11_readsDigit 52 = .ok (.getfield 179, 3) := by decide +kernel
theorem dX11_readsDigit_55 : decode cX11_readsDigit 55 = .ok (.iload_n 1, 1) := by decide +kernel
theorem dX11_readsDigit_56 : decode cX11_readsDigit 56 = .ok (.isub, 1) := by decide +kernel
theorem dX11_readsDigit_57 : decode cX11_readsDigit 57 = .ok (.invokevirtual 201, 3) := by decide +kernel
theorem dX11_readsDigit_60 : decode cX11_readsDigit 60 = .ok (.ireturn, 1) := by decide +kernel
theorem dX11_readsDigit_61 : decode cX11_readsDigit 61 = .ok (.iload_n 2, 1) := by decide +kernel
theorem dX11_readsDigit_62 : decode cX11_readsDigit 62 = .ok (.ifCond .eq 11, 3) := by decide +kernel
theorem dX11_readsDigit_65 : decode cX11_readsDigit 65 = .ok (.aload_n 0, 1) := by decide +kernel
theorem dX11_readsDigit_66 : decode cX11_readsDigit 66 = .ok (.iload_n 3, 1) := by decide +kernel
theorem dX11_readsDigit_67 : decode cX11_readsDigit 67 = .ok (.invokevirtual 88, 3) := by decide +kernel
theorem dX11_readsDigit_70 : decode cX11_readsDigit 70 = .ok (.goto 8, 3) := by decide +kernel
theorem dX11_readsDigit_73 : decode cX11_readsDigit 73 = .ok (.aload_n 0, 1) := by decide +kernel
theorem dX11_readsDigit_74 : decode cX11_readsDigit 74 = .ok (.iload_n 3, 1) := by decide +kernel
theorem dX11_readsDigit_75 : decode cX11_readsDigit 75 = .ok (.invokevirtual 94, 3) := by decide +kernel
theorem dX11_readsDigit_78 : decode cX11_readsDigit 78 = .ok (.istore 4, 2) := by decide +kernel
theorem dX11_readsDigit_80 : decode cX11_readsDigit 80 = .ok (.iload 4, 2) := by decide +kernel
theorem dX11_readsDigit_82 : decode cX11_readsDigit 82 = .ok (.ldc 78, 2) := by decide +kernel
theorem dX11_readsDigit_84 : decode cX11_readsDigit 84 = .ok (.if_icmp .ne 13, 3) := by decide +kernel
theorem dX11_readsDigit_87 : decode cX11_readsDigit 87 = .ok (.aload_n 0, 1) := by decide +kernel
theorem dX11_readsDigit_88 : decode cX11_readsDigit 88 = .ok (.iconst 2, 1) := by decide +kernel
theorem dX11_readsDigit_89 : decode cX11_readsDigit 89 = .ok (.ldc 43, 2) := by decide +kernel
theorem dX11_readsDigit_91 : decode cX11_readsDigit 91 = .ok (.invokevirtual 201, 3) := by decide +kernel
theorem dX11_readsDigit_94 : decode cX11_readsDigit 94 = .ok (.goto 4, 3) := by decide +kernel
theorem dX11_readsDigit_97 : decode cX11_readsDigit 97 = .ok (.iconst 0, 1) := by decide +kernel
theorem dX11_readsDigit_98 : decode cX11_readsDigit 98 = .ok (.ireturn, 1) := by decide +kernel
set_option maxRecDepth 20000 in
theorem ggX11_readsSet_X11_readsWord : GoodIn wsX11_readsSet wsX11_readsWord := goodIn_r _ [10, 5, 2, 1, 11, 12, 13, 9, 14, 15, 16, 17, 18, 19, 29, 30, 31, 32, 33, 34, 35, 36, 37, 38, 39, 40, 41, 42, 43, 44, 45, 46, 47, 48, 49, 50, 51, 52, 53, 54, 55] (by decide +kernel) (by decide +kernel)
set_option maxRecDepth 20000 in
theorem gX11_readsSet_X11_readsWord : GoodIn wsX11_readsSet (wsV RX11 194 RX11 yX11_readsWord wsX11_readsWord) := goodIn_app (goodIn_of _ (by decide +kernel)) ggX11_readsSet_X11_readsWord
set_option maxRecDepth 20000 in
theorem ggX11_readsSet_X11_takes : GoodIn wsX11_readsSet wsX11_takes := goodIn_r _ [23, 1, 11, 12, 13, 9, 14, 15, 16, 29, 30, 31, 32, 33, 34, 35, 36, 37, 38, 39, 40, 41, 42, 43, 44, 45, 46, 47, 48, 49, 50, 51, 52, 53, 54, 55] (by decide +kernel) (by decide +kernel)
set_option maxRecDepth 20000 in
theorem gX11_readsSet_X11_takes : GoodIn wsX11_readsSet (wsV RX11 197 RX11 yX11_takes wsX11_takes) := goodIn_app (goodIn_of _ (by decide +kernel)) ggX11_readsSet_X11_takes
set_option maxRecDepth 20000 in
theorem ggX11_readsSet_X11_says : GoodIn wsX11_readsSet wsX11_says := goodIn_r _ [27, 28, 29, 30, 31, 32, 33, 34, 35, 36, 37, 38, 39, 40, 41, 42, 43, 44, 45, 46, 47, 48, 49, 50, 51, 52, 53, 54, 55] (by decide +kernel) (by decide +kernel)
set_option maxRecDepth 20000 in
theorem gX11_readsSet_X11_says : GoodIn wsX11_readsSet (wsV RX11 201 RX11 yX11_says wsX11_says) := goodIn_app (goodIn_of _ (by decide +kernel)) ggX11_readsSet_X11_says
theorem dX11_readsSet_0 : decode cX11_readsSet 0 = .ok (.aload_n 0, 1) := by decide +kernel
theorem dX11_readsSet_1 : decode cX11_readsSet 1 = .ok (.invokevirtual 194, 3) := by decide +kernel
theorem dX11_readsSet_4 : decode cX11_readsSet 4 = .ok (.aload_n 0, 1) := by decide +kernel
theorem dX11_readsSet_5 : decode cX11_readsSet 5 = .ok (.bipush 59, 2) := by decide +kernel
theorem dX11_readsSet_7 : decode cX11_readsSet 7 = .ok (.invokevirtual 197, 3) := by decide +kernel
theorem dX11_readsSet_10 : decode cX11_readsSet 10 = .ok (.ifCond .ne 15, 3) := by decide +kernel
theorem dX11_readsSet_13 : decode cX11_readsSet 13 = .ok (.aload_n 0, 1) := by decide +kernel
theorem dX11_readsSet_14 : decode cX11_readsSet 14 = .ok (.iconst 1, 1) := by decide +kernel
theorem dX11_readsSet_15 : decode cX11_readsSet 15 = .ok (.aload_n 0, 1) := by decide +kernel
theorem dX11_readsSet_16 : decode cX11_readsSet 16 = .ok (.getfield 179, 3) := by decide +kernel
theorem dX11_readsSet_19 : decode cX11_readsSet 19 = .ok (.iload_n 1, 1) := by decide +kernel
theorem dX11_readsSet_20 : decode cX11_readsSet 20 = .ok (.isub, 1) := by decide +kernel
theorem dX11_readsSet_21 : decode cX11_readsSet 21 = .ok (.invokevirtual 201, 3) := by decide +kernel
theorem dX11_readsSet_24 : decode cX11_readsSet 24 = .ok (.ireturn, 1) := by decide +kernel
theorem dX11_readsSet_25 : decode cX11_readsSet 25 = .ok (.aload_n 0, 1) := by decide +kernel
theorem dX11_readsSet_26 : decode cX11_readsSet 26 = .ok (.getfield 188, 3) := by decide +kernel
theorem dX11_readsSet_29 : decode cX11_readsSet 29 = .ok (.bipush 12, 2) := by decide +kernel
theorem dX11_readsSet_31 : decode cX11_readsSet 31 = .ok (.if_icmp .le 11, 3) := by decide +kernel
theorem dX11_readsSet_34 : decode cX11_readsSet 34 = .ok (.aload_n 0, 1) := by decide +kernel
theorem dX11_readsSet_35 : decode cX11_readsSet 35 = .ok (.iconst 2, 1) := by decide +kernel
theorem dX11_readsSet_36 : decode cX11_readsSet 36 = .ok (.ldc 43, 2) := by decide +kernel
theorem dX11_readsSet_38 : decode cX11_readsSet 38 = .ok (.invokevirtual 201, 3) := by decide +kernel
theorem dX11_readsSet_41 : decode cX11_readsSet 41 = .ok (.ireturn, 1) := by decide +kernel
theorem dX11_readsSet_42 : decode cX11_readsSet 42 = .ok (.aload_n 0, 1) := by decide +kernel
theorem dX11_readsSet_43 : decode cX11_readsSet 43 = .ok (.getfield 7, 3) := by decide +kernel
theorem dX11_readsSet_46 : decode cX11_readsSet 46 = .ok (.iconst 0, 1) := by decide +kernel
theorem dX11_readsSet_47 : decode cX11_readsSet 47 = .ok (.aload_n 0, 1) := by decide +kernel
theorem dX11_readsSet_48 : decode cX11_readsSet 48 = .ok (.getfield 185, 3) := by decide +kernel
theorem dX11_readsSet_51 : decode cX11_readsSet 51 = .ok (.iastore, 1) := by decide +kernel
theorem dX11_readsSet_52 : decode cX11_readsSet 52 = .ok (.iconst 0, 1) := by decide +kernel
theorem dX11_readsSet_53 : decode cX11_readsSet 53 = .ok (.ireturn, 1) := by decide +kernel
set_option maxRecDepth 20000 in
theorem ggX11_readsDeed_X11_takes : GoodIn wsX11_readsDeed wsX11_takes := goodIn_r _ [7, 1, 8, 9, 10, 6, 11, 12, 13, 66, 67, 68, 69, 70, 71, 72, 73, 74, 75, 76, 77, 78, 79, 80, 81, 82, 83, 84, 85, 86, 87, 88, 89, 90, 91, 92] (by decide +kernel) (by decide +kernel)
set_option maxRecDepth 20000 in
theorem gX11_readsDeed_X11_takes : GoodIn wsX11_readsDeed (wsV RX11 197 RX11 yX11_takes wsX11_takes) := goodIn_app (goodIn_of _ (by decide +kernel)) ggX11_readsDeed_X11_takes
set_option maxRecDepth 20000 in
theorem ggX11_readsDeed_X11_says : GoodIn wsX11_readsDeed wsX11_says := goodIn_r _ [17, 18, 66, 67, 68, 69, 70, 71, 72, 73, 74, 75, 76, 77, 78, 79, 80, 81, 82, 83, 84, 85, 86, 87, 88, 89, 90, 91, 92] (by decide +kernel) (by decide +kernel)
set_option maxRecDepth 20000 in
theorem gX11_readsDeed_X11_says : GoodIn wsX11_readsDeed (wsV RX11 201 RX11 yX11_says wsX11_says) := goodIn_app (goodIn_of _ (by decide +kernel)) ggX11_readsDeed_X11_says
set_option maxRecDepth 20000 in
theorem ggX11_readsDeed_X11_steps : GoodIn wsX11_readsDeed wsX11_steps := goodIn_r _ [22, 23, 24, 25, 26, 27, 28, 29, 6, 30, 31, 32, 33, 34, 35, 36, 37, 38, 39, 40, 41, 42, 43, 44, 45, 46, 47, 48, 66, 67, 68, 69, 70, 71, 72, 73, 74, 75, 76, 77, 78, 79, 80, 81, 82, 83, 84, 85, 86, 87, 88, 89, 90, 91, 92] (by decide +kernel) (by decide +kernel)
set_option maxRecDepth 20000 in
theorem gX11_readsDeed_X11_steps : GoodIn wsX11_readsDeed (wsV RX11 104 RX11 yX11_steps wsX11_steps) := goodIn_app (goodIn_of _ (by decide +kernel)) ggX11_readsDeed_X11_steps
set_option maxRecDepth 20000 in
theorem ggX11_readsDeed_X11_normals : GoodIn wsX11_readsDeed wsX11_normals := goodIn_r _ [52, 23, 24, 53, 54, 55, 56, 57, 58, 59, 6, 60, 61, 62, 63, 64, 25, 26, 65, 27, 28, 29, 30, 31, 32, 33, 34, 35, 36, 37, 38, 39, 40, 41, 42, 43, 44, 45, 46, 47, 48, 66, 67, 68, 69, 70, 71, 72, 73, 74, 75, 76, 77, 78, 79, 80, 81, 82, 83, 84, 85, 86, 87, 88, 89, 90, 91, 92] (by decide +kernel) (by decide +kernel)
set_option maxRecDepth 20000 in
theorem gX11_readsDeed_X11_normals : GoodIn wsX11_readsDeed (wsV RX11 116 RX11 yX11_normals wsX11_normals) := goodIn_app (goodIn_of _ (by decide +kernel)) ggX11_readsDeed_X11_normals
theorem dX11_readsDeed_0 : decode cX11_readsDeed 0 = .ok (.aload_n 0, 1) := by decide +kernel
theorem dX11_readsDeed_1 : decode cX11_readsDeed 1 = .ok (.bipush 59, 2) := by decide +kernel
theorem dX11_readsDeed_3 : decode cX11_readsDeed 3 = .ok (.invokevirtual 197, 3) := by decide +kernel
theorem dX11_readsDeed_6 : decode cX11_readsDeed 6 = .ok (.ifCond .ne 15, 3) := by decide +kernel
theorem dX11_readsDeed_9 : decode cX11_readsDeed 9 = .ok (.aload_n 0, 1) := by decide +kernel
theorem dX11_readsDeed_10 : decode cX11_readsDeed 10 = .ok (.iconst 1, 1) := by decide +kernel
theorem dX11_readsDeed_11 : decode cX11_readsDeed 11 = .ok (.aload_n 0, 1) := by decide +kernel
theorem dX11_readsDeed_12 : decode cX11_readsDeed 12 = .ok (.getfield 179, 3) := by decide +kernel
theorem dX11_readsDeed_15 : decode cX11_readsDeed 15 = .ok (.iload_n 1, 1) := by decide +kernel
theorem dX11_readsDeed_16 : decode cX11_readsDeed 16 = .ok (.isub, 1) := by decide +kernel
theorem dX11_readsDeed_17 : decode cX11_readsDeed 17 = .ok (.invokevirtual 201, 3) := by decide +kernel
theorem dX11_readsDeed_20 : decode cX11_readsDeed 20 = .ok (.ireturn, 1) := by decide +kernel
theorem dX11_readsDeed_21 : decode cX11_readsDeed 21 = .ok (.iload_n 2, 1) := by decide +kernel
theorem dX11_readsDeed_22 : decode cX11_readsDeed 22 = .ok (.ifCond .eq 10, 3) := by decide +kernel
theorem dX11_readsDeed_25 : decode cX11_readsDeed 25 = .ok (.aload_n 0, 1) := by decide +kernel
theorem dX11_readsDeed_26 : decode cX11_readsDeed 26 = .ok (.invokevirtual 104, 3) := by decide +kernel
theorem dX11_readsDeed_29 : decode cX11_readsDeed 29 = .ok (.goto 7, 3) := by decide +kernel
theorem dX11_readsDeed_32 : decode cX11_readsDeed 32 = .ok (.aload_n 0, 1) := by decide +kernel
theorem dX11_readsDeed_33 : decode cX11_readsDeed 33 = .ok (.invokevirtual 116, 3) := by decide +kernel
theorem dX11_readsDeed_36 : decode cX11_readsDeed 36 = .ok (.istore_n 3, 1) := by decide +kernel
theorem dX11_readsDeed_37 : decode cX11_readsDeed 37 = .ok (.iload_n 3, 1) := by decide +kernel
theorem dX11_readsDeed_38 : decode cX11_readsDeed 38 = .ok (.ldc 78, 2) := by decide +kernel
theorem dX11_readsDeed_40 : decode cX11_readsDeed 40 = .ok (.if_icmp .le 7, 3) := by decide +kernel
theorem dX11_readsDeed_43 : decode cX11_readsDeed 43 = .ok (.iconst 0, 1) := by decide +kernel
theorem dX11_readsDeed_44 : decode cX11_readsDeed 44 = .ok (.goto 17, 3) := by decide +kernel
theorem dX11_readsDeed_47 : decode cX11_readsDeed 47 = .ok (.aload_n 0, 1) := by decide +kernel
theorem dX11_readsDeed_48 : decode cX11_readsDeed 48 = .ok (.iconst 3, 1) := by decide +kernel
theorem dX11_readsDeed_49 : decode cX11_readsDeed 49 = .ok (.iload_n 2, 1) := by decide +kernel
theorem dX11_readsDeed_50 : decode cX11_readsDeed 50 = .ok (.ifCond .eq 7, 3) := by decide +kernel
theorem dX11_readsDeed_53 : decode cX11_readsDeed 53 = .ok (.iconst 4, 1) := by decide +kernel
theorem dX11_readsDeed_54 : decode cX11_readsDeed 54 = .ok (.goto 4, 3) := by decide +kernel
theorem dX11_readsDeed_57 : decode cX11_readsDeed 57 = .ok (.iconst 5, 1) := by decide +kernel
theorem dX11_readsDeed_58 : decode cX11_readsDeed 58 = .ok (.invokevirtual 201, 3) := by decide +kernel
theorem dX11_readsDeed_61 : decode cX11_readsDeed 61 = .ok (.ireturn, 1) := by decide +kernel
set_option maxRecDepth 20000 in
theorem ggX11_doesNext_X11_sign : GoodIn wsX11_doesNext wsX11_sign := goodIn_r _ [6, 1, 7, 8, 108, 109, 110, 111, 112, 113, 114, 115, 116, 117, 118, 119, 120, 121, 122, 123, 124, 125, 126, 127, 128, 129, 130, 131, 132, 133, 134] (by decide +kernel) (by decide +kernel)
set_option maxRecDepth 20000 in
theorem gX11_doesNext_X11_sign : GoodIn wsX11_doesNext (wsV RX11 182 RX11 yX11_sign wsX11_sign) := goodIn_app (goodIn_of _ (by decide +kernel)) ggX11_doesNext_X11_sign
set_option maxRecDepth 20000 in
theorem ggX11_doesNext_X11_readsRule : GoodIn wsX11_doesNext wsX11_readsRule := goodIn_r _ [12, 13, 14, 1, 15, 16, 17, 18, 19, 5, 20, 2, 3, 4, 6, 7, 8, 21, 22, 23, 24, 25, 26, 27, 28, 29, 30, 31, 32, 33, 34, 35, 36, 37, 38, 39, 40, 41, 42, 43, 44, 108, 109, 110, 111, 112, 113, 114, 115, 116, 117, 118, 119, 120, 121, 122, 123, 124, 125, 126, 127, 128, 129, 130, 131, 132, 133, 134] (by decide +kernel) (by decide +kernel)
set_option maxRecDepth 20000 in
theorem gX11_doesNext_X11_readsRule : GoodIn wsX11_doesNext (wsV RX11 204 RX11 yX11_readsRule wsX11_readsRule) := goodIn_app (goodIn_of _ (by decide +kernel)) ggX11_doesNext_X11_readsRule
set_option maxRecDepth 20000 in
theorem ggX11_doesNext_X11_readsDigit : GoodIn wsX11_doesNext wsX11_readsDigit := goodIn_r _ [48, 1, 49, 15, 2, 3, 4, 5, 6, 7, 8, 21, 22, 23, 28, 29, 30, 31, 32, 24, 25, 26, 27, 50, 51, 52, 53, 16, 54, 55, 56, 57, 58, 59, 60, 61, 108, 109, 110, 111, 112, 113, 114, 115, 116, 117, 118, 119, 120, 121, 122, 123, 124, 125, 126, 127, 128, 129, 130, 131, 132, 133, 134] (by decide +kernel) (by decide +kernel)
set_option maxRecDepth 20000 in
theorem gX11_doesNext_X11_readsDigit : GoodIn wsX11_doesNext (wsV RX11 207 RX11 yX11_readsDigit wsX11_readsDigit) := goodIn_app (goodIn_of _ (by decide +kernel)) ggX11_doesNext_X11_readsDigit
set_option maxRecDepth 20000 in
theorem ggX11_doesNext_X11_readsSet : GoodIn wsX11_doesNext wsX11_readsSet := goodIn_r _ [65, 1, 14, 15, 16, 13, 17, 18, 19, 5, 20, 2, 3, 4, 6, 7, 8, 21, 22, 23, 24, 25, 26, 27, 28, 29, 30, 31, 32, 108, 109, 110, 111, 112, 113, 114, 115, 116, 117, 118, 119, 120, 121, 122, 123, 124, 125, 126, 127, 128, 129, 130, 131, 132, 133, 134] (by decide +kernel) (by decide +kernel)
set_option maxRecDepth 20000 in
theorem gX11_doesNext_X11_readsSet : GoodIn wsX11_doesNext (wsV RX11 211 RX11 yX11_readsSet wsX11_readsSet) := goodIn_app (goodIn_of _ (by decide +kernel)) ggX11_doesNext_X11_readsSet
set_option maxRecDepth 20000 in
theorem ggX11_doesNext_X11_readsDeed : GoodIn wsX11_doesNext wsX11_readsDeed := goodIn_r _ [69, 1, 49, 24, 25, 26, 5, 27, 2, 3, 4, 6, 7, 8, 28, 29, 30, 31, 32, 70, 71, 72, 73, 16, 74, 75, 76, 77, 78, 79, 80, 81, 82, 83, 33, 34, 35, 36, 84, 85, 86, 87, 88, 89, 90, 37, 38, 39, 40, 91, 92, 93, 94, 95, 96, 97, 98, 99, 100, 101, 102, 103, 104, 105, 106, 107, 108, 109, 110, 111, 112, 113, 114, 115, 116, 117, 118, 119, 120, 121, 122, 123, 124, 125, 126, 127, 128, 129, 130, 131, 132, 133, 134] (by decide +kernel) (by decide +kernel)
set_option maxRecDepth 20000 in
theorem gX11_doesNext_X11_readsDeed : GoodIn wsX11_doesNext (wsV RX11 214 RX11 yX11_readsDeed wsX11_readsDeed) := goodIn_app (goodIn_of _ (by decide +kernel)) ggX11_doesNext_X11_readsDeed
set_option maxRecDepth 20000 in
theorem ggX11_doesNext_X11_says : GoodIn wsX11_doesNext wsX11_says := goodIn_r _ [31, 32, 108, 109, 110, 111, 112, 113, 114, 115, 116, 117, 118, 119, 120, 121, 122, 123, 124, 125, 126, 127, 128, 129, 130, 131, 132, 133, 134] (by decide +kernel) (by decide +kernel)
set_option maxRecDepth 20000 in
theorem gX11_doesNext_X11_says : GoodIn wsX11_doesNext (wsV RX11 201 RX11 yX11_says wsX11_says) := goodIn_app (goodIn_of _ (by decide +kernel)) ggX11_doesNext_X11_says
theorem dX11_doesNext_0 : decode cX11_doesNext 0 = .ok (.aload_n 0, 1) := by decide +kernel
theorem dX11_doesNext_1 : decode cX11_doesNext 1 = .ok (.getfield 179, 3) := by decide +kernel
theorem dX11_doesNext_4 : decode cX11_doesNext 4 = .ok (.istore_n 1, 1) := by decide +kernel
theorem dX11_doesNext_5 : decode cX11_doesNext 5 = .ok (.aload_n 0, 1) := by decide +kernel
theorem dX11_doesNext_6 : decode cX11_doesNext 6 = .ok (.invokevirtual 182, 3) := by decide +kernel
theorem dX11_doesNext_9 : decode cX11_doesNext 9 = .ok (.istore_n 2, 1) := by decide +kernel
theorem dX11_doesNext_10 : decode cX11_doesNext 10 = .ok (.aload_n 0, 1) := by decide +kernel
theorem dX11_doesNext_11 : decode cX11_doesNext 11 = .ok (.dup, 1) := by decide +kernel
theorem dX11_doesNext_12 : decode cX11_doesNext 12 = .ok (.getfield 179, 3) := by decide +kernel
theorem dX11_doesNext_15 : decode cX11_doesNext 15 = .ok (.iconst 1, 1) := by decide +kernel
theorem dX11_doesNext_16 : decode cX11_doesNext 16 = .ok (.iadd, 1) := by decide +kernel
theorem dX11_doesNext_17 : decode cX11_doesNext 17 = .ok (.putfield 179, 3) := by decide +kernel
theorem dX11_doesNext_20 : decode cX11_doesNext 20 = .ok (.iload_n 2, 1) := by decide +kernel
theorem dX11_doesNext_21 : decode cX11_doesNext 21 = .ok (.lookupswitch 99 #[(43, 59), (45, 65), (61, 79), (110, 92), (115, 85), (119, 72)], 59) := by decide +kernel
theorem dX11_doesNext_80 : decode cX11_doesNext 80 = .ok (.aload_n 0, 1) := by decide +kernel
theorem dX11_doesNext_81 : decode cX11_doesNext 81 = .ok (.iload_n 1, 1) := by decide +kernel
theorem dX11_doesNext_82 : decode cX11_doesNext 82 = .ok (.invokevirtual 204, 3) := by decide +kernel
theorem dX11_doesNext_85 : decode cX11_doesNext 85 = .ok (.ireturn, 1) := by decide +kernel
theorem dX11_doesNext_86 : decode cX11_doesNext 86 = .ok (.aload_n 0, 1) := by decide +kernel
theorem dX11_doesNext_87 : decode cX11_doesNext 87 = .ok (.iload_n 1, 1) := by decide +kernel
theorem dX11_doesNext_88 : decode cX11_doesNext 88 = .ok (.iconst 1, 1) := by decide +kernel
theorem dX11_doesNext_89 : decode cX11_doesNext 89 = .ok (.invokevirtual 207, 3) := by decide +kernel
theorem dX11_doesNext_92 : decode cX11_doesNext 92 = .ok (.ireturn, 1) := by decide +kernel
theorem dX11_doesNext_93 : decode cX11_doesNext 93 = .ok (.aload_n 0, 1) := by decide +kernel
theorem dX11_doesNext_94 : decode cX11_doesNext 94 = .ok (.iload_n 1, 1) := by decide +kernel
theorem dX11_doesNext_95 : decode cX11_doesNext 95 = .ok (.iconst 0, 1) := by decide +kernel
theorem dX11_doesNext_96 : decode cX11_doesNext 96 = .ok (.invokevirtual 207, 3) := by decide +kernel
theorem dX11_doesNext_99 : decode cX11_doesNext 99 = .ok (.ireturn, 1) := by decide +kernel
theorem dX11_doesNext_100 : decode cX11_doesNext 100 = .ok (.aload_n 0, 1) := by decide +kernel
theorem dX11_doesNext_101 : decode cX11_doesNext 101 = .ok (.iload_n 1, 1) := by decide +kernel
theorem dX11_doesNext_102 : decode cX11_doesNext 102 = .ok (.invokevirtual 211, 3) := by decide +kernel
theorem dX11_doesNext_105 : decode cX11_doesNext 105 = .ok (.ireturn, 1) := by decide +kernel
theorem dX11_doesNext_106 : decode cX11_doesNext 106 = .ok (.aload_n 0, 1) := by decide +kernel
theorem dX11_doesNext_107 : decode cX11_doesNext 107 = .ok (.iload_n 1, 1) := by decide +kernel
theorem dX11_doesNext_108 : decode cX11_doesNext 108 = .ok (.iconst 1, 1) := by decide +kernel
theorem dX11_doesNext_109 : decode cX11_doesNext 109 = .ok (.invokevirtual 214, 3) := by decide +kernel
theorem dX11_doesNext_112 : decode cX11_doesNext 112 = .ok (.ireturn, 1) := by decide +kernel
theorem dX11_doesNext_113 : decode cX11_doesNext 113 = .ok (.aload_n 0, 1) := by decide +kernel
theorem dX11_doesNext_114 : decode cX11_doesNext 114 = .ok (.iload_n 1, 1) := by decide +kernel
theorem dX11_doesNext_115 : decode cX11_doesNext 115 = .ok (.iconst 0, 1) := by decide +kernel
theorem dX11_doesNext_116 : decode cX11_doesNext 116 = .ok (.invokevirtual 214, 3) := by decide +kernel
theorem dX11_doesNext_119 : decode cX11_doesNext 119 = .ok (.ireturn, 1) := by decide +kernel
theorem dX11_doesNext_120 : decode cX11_doesNext 120 = .ok (.aload_n 0, 1) := by decide +kernel
theorem dX11_doesNext_121 : decode cX11_doesNext 121 = .ok (.iconst 1, 1) := by decide +kernel
theorem dX11_doesNext_122 : decode cX11_doesNext 122 = .ok (.iconst 0, 1) := by decide +kernel
theorem dX11_doesNext_123 : decode cX11_doesNext 123 = .ok (.invokevirtual 201, 3) := by decide +kernel
theorem dX11_doesNext_126 : decode cX11_doesNext 126 = .ok (.ireturn, 1) := by decide +kernel
set_option maxRecDepth 20000 in
theorem ggX11_faulty_X11_doesNext : GoodIn wsX11_faulty wsX11_doesNext := goodIn_r _ [11, 4, 12, 13, 14, 10, 15, 5, 16, 17, 18, 19, 20, 21, 22, 3, 2, 23, 24, 25, 26, 27, 28, 29, 30, 31, 32, 33, 34, 35, 36, 37, 38, 39, 40, 41, 42, 43, 44, 45, 46, 47, 48, 49, 50, 51, 52, 53, 54, 55, 56, 57, 58, 59, 60, 61, 62, 63, 64, 65, 66, 67, 68, 69, 70, 71, 72, 73, 74, 75, 76, 77, 78, 79, 80, 81, 82, 83, 84, 85, 86, 87, 88, 89, 90, 91, 92, 93, 94, 95, 96, 97, 98, 99, 100, 101, 102, 103, 104, 105, 106, 107, 108, 109, 110, 111, 112, 113, 114, 115, 116, 117, 118, 119, 120, 121, 122, 123, 124, 125, 126, 127, 128, 129, 130, 131, 132, 133, 134, 135, 136, 137, 138, 139, 140] (by decide +kernel) (by decide +kernel)
set_option maxRecDepth 20000 in
theorem gX11_faulty_X11_doesNext : GoodIn wsX11_faulty (wsV RX11 217 RX11 yX11_doesNext wsX11_doesNext) := goodIn_app (goodIn_of _ (by decide +kernel)) ggX11_faulty_X11_doesNext
theorem dX11_faulty_0 : decode cX11_faulty 0 = .ok (.iconst 0, 1) := by decide +kernel
theorem dX11_faulty_1 : decode cX11_faulty 1 = .ok (.istore_n 1, 1) := by decide +kernel
theorem dX11_faulty_2 : decode cX11_faulty 2 = .ok (.iload_n 1, 1) := by decide +kernel
theorem dX11_faulty_3 : decode cX11_faulty 3 = .ok (.bipush 52, 2) := by decide +kernel
theorem dX11_faulty_5 : decode cX11_faulty 5 = .ok (.if_icmp .ge 21, 3) := by decide +kernel
theorem dX11_faulty_8 : decode cX11_faulty 8 = .ok (.aload_n 0, 1) := by decide +kernel
theorem dX11_faulty_9 : decode cX11_faulty 9 = .ok (.getfield 19, 3) := by decide +kernel
theorem dX11_faulty_12 : decode cX11_faulty 12 = .ok (.iload_n 1, 1) := by decide +kernel
theorem dX11_faulty_13 : decode cX11_faulty 13 = .ok (.aload_n 0, 1) := by decide +kernel
theorem dX11_faulty_14 : decode cX11_faulty 14 = .ok (.getfield 7, 3) := by decide +kernel
theorem dX11_faulty_17 : decode cX11_faulty 17 = .ok (.iload_n 1, 1) := by decide +kernel
theorem dX11_faulty_18 : decode cX11_faulty 18 = .ok (.iaload, 1) := by decide +kernel
theorem dX11_faulty_19 : decode cX11_faulty 19 = .ok (.iastore, 1) := by decide +kernel
theorem dX11_faulty_20 : decode cX11_faulty 20 = .ok (.iinc 1 1, 3) := by decide +kernel
theorem dX11_faulty_23 : decode cX11_faulty 23 = .ok (.goto (-21), 3) := by decide +kernel
theorem dX11_faulty_26 : decode cX11_faulty 26 = .ok (.ldc 43, 2) := by decide +kernel
theorem dX11_faulty_28 : decode cX11_faulty 28 = .ok (.istore_n 1, 1) := by decide +kernel
theorem dX11_faulty_29 : decode cX11_faulty 29 = .ok (.aload_n 0, 1) := by decide +kernel
theorem dX11_faulty_30 : decode cX11_faulty 30 = .ok (.iconst 0, 1) := by decide +kernel
theorem dX11_faulty_31 : decode cX11_faulty 31 = .ok (.putfield 179, 3) := by decide +kernel
theorem dX11_faulty_34 : decode cX11_faulty 34 = .ok (.aload_n 0, 1) := by decide +kernel
theorem dX11_faulty_35 : decode cX11_faulty 35 = .ok (.getfield 179, 3) := by decide +kernel
theorem dX11_faulty_38 : decode cX11_faulty 38 = .ok (.aload_n 0, 1) := by decide +kernel
theorem dX11_faulty_39 : decode cX11_faulty 39 = .ok (.getfield 176, 3) := by decide +kernel
theorem dX11_faulty_42 : decode cX11_faulty 42 = .ok (.if_icmp .ge 38, 3) := by decide +kernel
theorem dX11_faulty_45 : decode cX11_faulty 45 = .ok (.iload_n 1, 1) := by decide +kernel
theorem dX11_faulty_46 : decode cX11_faulty 46 = .ok (.ldc 43, 2) := by decide +kernel
theorem dX11_faulty_48 : decode cX11_faulty 48 = .ok (.if_icmp .ne 32, 3) := by decide +kernel
theorem dX11_faulty_51 : decode cX11_faulty 51 = .ok (.aload_n 0, 1) := by decide +kernel
theorem dX11_faulty_52 : decode cX11_faulty 52 = .ok (.getfield 179, 3) := by decide +kernel
theorem dX11_faulty_55 : decode cX11_faulty 55 = .ok (.istore_n 2, 1) := by decide +kernel
theorem dX11_faulty_56 : decode cX11_faulty 56 = .ok (.aload_n 0, 1) := by decide +kernel
theorem dX11_faulty_57 : decode cX11_faulty 57 = .ok (.aload_n 0, 1) := by decide +kernel
theorem dX11_faulty_58 : decode cX11_faulty 58 = .ok (.invokevirtual 217, 3) := by decide +kernel
theorem dX11_faulty_61 : decode cX11_faulty 61 = .ok (.putfield 220, 3) := by decide +kernel
theorem dX11_faulty_64 : decode cX11_faulty 64 = .ok (.aload_n 0, 1) := by decide +kernel
theorem dX11_faulty_65 : decode cX11_faulty 65 = .ok (.getfield 220, 3) := by decide +kernel
theorem dX11_faulty_68 : decode cX11_faulty 68 = .ok (.ifCond .le 7, 3) := by decide +kernel
theorem dX11_faulty_71 : decode cX11_faulty 71 = .ok (.iload_n 2, 1) := by decide +kernel
theorem dX11_faulty_72 : decode cX11_faulty 72 = .ok (.goto 4, 3) := by decide +kernel
theorem dX11_faulty_75 : decode cX11_faulty 75 = .ok (.iload_n 1, 1) := by decide +kernel
theorem dX11_faulty_76 : decode cX11_faulty 76 = .ok (.istore_n 1, 1) := by decide +kernel
theorem dX11_faulty_77 : decode cX11_faulty 77 = .ok (.goto (-43), 3) := by decide +kernel
theorem dX11_faulty_80 : decode cX11_faulty 80 = .ok (.iconst 0, 1) := by decide +kernel
theorem dX11_faulty_81 : decode cX11_faulty 81 = .ok (.istore_n 2, 1) := by decide +kernel
theorem dX11_faulty_82 : decode cX11_faulty 82 = .ok (.iload_n 2, 1) := by decide +kernel
theorem dX11_faulty_83 : decode cX11_faulty 83 = .ok (.bipush 52, 2) := by decide +kernel
theorem dX11_faulty_85 : decode cX11_faulty 85 = .ok (.if_icmp .ge 21, 3) := by decide +kernel
theorem dX11_faulty_88 : decode cX11_faulty 88 = .ok (.aload_n 0, 1) := by decide +kernel
theorem dX11_faulty_89 : decode cX11_faulty 89 = .ok (.getfield 7, 3) := by decide +kernel
theorem dX11_faulty_92 : decode cX11_faulty 92 = .ok (.iload_n 2, 1) := by decide +kernel
theorem dX11_faulty_93 : decode cX11_faulty 93 = .ok (.aload_n 0, 1) := by decide +kernel
theorem dX11_faulty_94 : decode cX11_faulty 94 = .ok (.getfield 19, 3) := by decide +kernel
theorem dX11_faulty_97 : decode cX11_faulty 97 = .ok (.iload_n 2, 1) := by decide +kernel
theorem dX11_faulty_98 : decode cX11_faulty 98 = .ok (.iaload, 1) := by decide +kernel
theorem dX11_faulty_99 : decode cX11_faulty 99 = .ok (.iastore, 1) := by decide +kernel
theorem dX11_faulty_100 : decode cX11_faulty 100 = .ok (.iinc 2 1, 3) := by decide +kernel
theorem dX11_faulty_103 : decode cX11_faulty 103 = .ok (.goto (-21), 3) := by decide +kernel
theorem dX11_faulty_106 : decode cX11_faulty 106 = .ok (.iload_n 1, 1) := by decide +kernel
theorem dX11_faulty_107 : decode cX11_faulty 107 = .ok (.ireturn, 1) := by decide +kernel
set_option maxRecDepth 20000 in
theorem ggX11_fault_X11_in : GoodIn wsX11_fault wsX11_in := goodIn_r _ [8] (by decide +kernel) (by decide +kernel)
set_option maxRecDepth 20000 in
theorem gX11_fault_X11_in : GoodIn wsX11_fault (va_wsS RX11 44 yX11_in wsX11_in) := goodIn_app (goodIn_of _ (by decide +kernel)) ggX11_fault_X11_in
set_option maxRecDepth 20000 in
theorem ggX11_fault_X11_faulty : GoodIn wsX11_fault wsX11_faulty := goodIn_r _ [12, 13, 14, 2, 15, 16, 3, 17, 18, 19, 7, 20, 21, 22, 23, 24, 25, 26, 27, 28, 29, 30, 31, 32, 33, 34, 35, 5, 6, 8, 36, 37, 38, 39, 40, 41, 42, 43, 4, 44, 45, 46, 47, 48, 49, 50, 51, 52, 53, 54, 55, 56, 57, 58, 59, 1, 60, 61, 62, 63, 64, 65, 66, 67, 68, 69, 70, 71, 72, 73, 74, 75, 76, 77, 78, 79, 80, 81, 82, 83, 84, 85, 86, 87, 88, 89, 90, 91, 92, 93, 94, 95, 96, 97, 98, 99, 100, 101, 102, 103, 104, 105, 106, 107, 108, 109, 110, 111, 112, 113, 114, 115, 116, 117, 118, 119, 120, 121, 122, 123, 124, 125, 126, 127, 128, 129, 130, 131, 132, 133, 134, 135, 136, 137, 138, 139, 140, 141, 142, 143, 144] (by decide +kernel) (by decide +kernel)
set_option maxRecDepth 20000 in
theorem gX11_fault_X11_faulty : GoodIn wsX11_fault (wsV RX11 223 RX11 yX11_faulty wsX11_faulty) := goodIn_app (goodIn_of _ (by decide +kernel)) ggX11_fault_X11_faulty
theorem dX11_fault_0 : decode cX11_fault 0 = .ok (.iload_n 1, 1) := by decide +kernel
theorem dX11_fault_1 : decode cX11_fault 1 = .ok (.iconst 0, 1) := by decide +kernel
theorem dX11_fault_2 : decode cX11_fault 2 = .ok (.iconst 2, 1) := by decide +kernel
theorem dX11_fault_3 : decode cX11_fault 3 = .ok (.invokestatic 44, 3) := by decide +kernel
theorem dX11_fault_6 : decode cX11_fault 6 = .ok (.ifCond .ne 6, 3) := by decide +kernel
theorem dX11_fault_9 : decode cX11_fault 9 = .ok (.ldc 78, 2) := by decide +kernel
theorem dX11_fault_11 : decode cX11_fault 11 = .ok (.ireturn, 1) := by decide +kernel
theorem dX11_fault_12 : decode cX11_fault 12 = .ok (.aload_n 0, 1) := by decide +kernel
theorem dX11_fault_13 : decode cX11_fault 13 = .ok (.invokevirtual 223, 3) := by decide +kernel
theorem dX11_fault_16 : decode cX11_fault 16 = .ok (.istore_n 2, 1) := by decide +kernel
theorem dX11_fault_17 : decode cX11_fault 17 = .ok (.iload_n 2, 1) := by decide +kernel
theorem dX11_fault_18 : decode cX11_fault 18 = .ok (.ldc 43, 2) := by decide +kernel
theorem dX11_fault_20 : decode cX11_fault 20 = .ok (.if_icmp .eq 7, 3) := by decide +kernel
theorem dX11_fault_23 : decode cX11_fault 23 = .ok (.iload_n 1, 1) := by decide +kernel
theorem dX11_fault_24 : decode cX11_fault 24 = .ok (.ifCond .ne 7, 3) := by decide +kernel
theorem dX11_fault_27 : decode cX11_fault 27 = .ok (.iload_n 2, 1) := by decide +kernel
theorem dX11_fault_28 : decode cX11_fault 28 = .ok (.goto 19, 3) := by decide +kernel
theorem dX11_fault_31 : decode cX11_fault 31 = .ok (.iload_n 1, 1) := by decide +kernel
theorem dX11_fault_32 : decode cX11_fault 32 = .ok (.iconst 1, 1) := by decide +kernel
theorem dX11_fault_33 : decode cX11_fault 33 = .ok (.if_icmp .ne 10, 3) := by decide +kernel
theorem dX11_fault_36 : decode cX11_fault 36 = .ok (.aload_n 0, 1) := by decide +kernel
theorem dX11_fault_37 : decode cX11_fault 37 = .ok (.getfield 220, 3) := by decide +kernel
theorem dX11_fault_40 : decode cX11_fault 40 = .ok (.goto 7, 3) := by decide +kernel
theorem dX11_fault_43 : decode cX11_fault 43 = .ok (.aload_n 0, 1) := by decide +kernel
theorem dX11_fault_44 : decode cX11_fault 44 = .ok (.getfield 191, 3) := by decide +kernel
theorem dX11_fault_47 : decode cX11_fault 47 = .ok (.ireturn, 1) := by decide +kernel
set_option maxRecDepth 20000 in
theorem ggX11_play_X11_faulty : GoodIn wsX11_play wsX11_faulty := goodIn_r _ [9, 10, 11, 1, 3, 4, 12, 13, 14, 15, 8, 16, 17, 18, 19, 20, 21, 22, 23, 24, 25, 26, 27, 28, 29, 30, 31, 32, 33, 34, 35, 36, 37, 38, 39, 40, 41, 42, 43, 44, 45, 46, 47, 48, 49, 50, 51, 52, 53, 54, 55, 56, 57, 58, 59, 60, 61, 62, 63, 64, 65, 66, 67, 68, 69, 70, 71, 72, 73, 74, 75, 76, 77, 78, 79, 80, 81, 82, 83, 84, 2, 85, 86, 87, 88, 89, 90, 91, 92, 93, 94, 95, 96, 97, 98, 99, 100, 101, 102, 103, 104, 105, 106, 107, 108, 109, 110, 111, 112, 113, 114, 115, 116, 117, 129, 130, 131, 132, 133, 134, 135, 136, 137, 138, 139, 140, 141, 142, 143, 144, 145, 146, 147, 148, 149, 150, 151, 152, 153, 154, 155] (by decide +kernel) (by decide +kernel)
set_option maxRecDepth 20000 in
theorem gX11_play_X11_faulty : GoodIn wsX11_play (wsV RX11 223 RX11 yX11_faulty wsX11_faulty) := goodIn_app (goodIn_of _ (by decide +kernel)) ggX11_play_X11_faulty
set_option maxRecDepth 20000 in
theorem ggX11_play_X11_keeps : GoodIn wsX11_play wsX11_keeps := goodIn_r _ [121, 122, 11, 129, 130, 131, 132, 133, 134, 135, 136, 137, 138, 139, 140, 141, 142, 143, 144, 145, 146, 147, 148, 149, 150, 151, 152, 153, 154, 155] (by decide +kernel) (by decide +kernel)
set_option maxRecDepth 20000 in
theorem gX11_play_X11_keeps : GoodIn wsX11_play (wsV RX11 85 RX11 yX11_keeps wsX11_keeps) := goodIn_app (goodIn_of _ (by decide +kernel)) ggX11_play_X11_keeps
set_option maxRecDepth 20000 in
theorem ggX11_play_X11_doesNext : GoodIn wsX11_play wsX11_doesNext := goodIn_r _ [16, 3, 17, 18, 19, 8, 20, 4, 21, 22, 23, 24, 25, 26, 27, 1, 11, 28, 29, 30, 31, 32, 33, 34, 35, 36, 37, 38, 39, 40, 41, 42, 43, 44, 45, 46, 47, 48, 49, 50, 51, 52, 53, 54, 55, 56, 57, 58, 59, 60, 61, 62, 63, 64, 65, 66, 67, 68, 69, 70, 71, 72, 73, 74, 75, 76, 77, 78, 79, 80, 81, 82, 83, 84, 2, 85, 86, 87, 88, 89, 90, 91, 92, 93, 94, 95, 96, 97, 98, 99, 100, 101, 102, 103, 104, 105, 106, 107, 108, 109, 110, 111, 112, 113, 114, 115, 116, 117, 129, 130, 131, 132, 133, 134, 135, 136, 137, 138, 139, 140, 141, 142, 143, 144, 145, 146, 147, 148, 149, 150, 151, 152, 153, 154, 155] (by decide +kernel) (by decide +kernel)
set_option maxRecDepth 20000 in
theorem gX11_play_X11_doesNext : GoodIn wsX11_play (wsV RX11 217 RX11 yX11_doesNext wsX11_doesNext) := goodIn_app (goodIn_of _ (by decide +kernel)) ggX11_play_X11_doesNext
set_option maxRecDepth 20000 in
theorem ggX11_play_X11_acted : GoodIn wsX11_play wsX11_acted := goodIn_r _ [126, 60, 127, 128, 122, 129, 130, 131, 132, 133, 134, 135, 136, 137, 138, 139, 140, 141, 142, 143, 144, 145, 146, 147, 148, 149, 150, 151, 152, 153, 154, 155] (by decide +kernel) (by decide +kernel)
set_option maxRecDepth 20000 in
theorem gX11_play_X11_acted : GoodIn wsX11_play (wsV RX11 91 RX11 yX11_acted wsX11_acted) := goodIn_app (goodIn_of _ (by decide +kernel)) ggX11_play_X11_acted
theorem dX11_play_0 : decode cX11_play 0 = .ok (.aload_n 0, 1) := by decide +kernel
theorem dX11_play_1 : decode cX11_play 1 = .ok (.invokevirtual 223, 3) := by decide +kernel
theorem dX11_play_4 : decode cX11_play 4 = .ok (.ldc 43, 2) := by decide +kernel
theorem dX11_play_6 : decode cX11_play 6 = .ok (.if_icmp .eq 6, 3) := by decide +kernel
theorem dX11_play_9 : decode cX11_play 9 = .ok (.ldc 103, 2) := by decide +kernel
theorem dX11_play_11 : decode cX11_play 11 = .ok (.ireturn, 1) := by decide +kernel
theorem dX11_play_12 : decode cX11_play 12 = .ok (.aload_n 0, 1) := by decide +kernel
theorem dX11_play_13 : decode cX11_play 13 = .ok (.invokevirtual 85, 3) := by decide +kernel
theorem dX11_play_16 : decode cX11_play 16 = .ok (.iconst 0, 1) := by decide +kernel
theorem dX11_play_17 : decode cX11_play 17 = .ok (.istore_n 1, 1) := by decide +kernel
theorem dX11_play_18 : decode cX11_play 18 = .ok (.aload_n 0, 1) := by decide +kernel
theorem dX11_play_19 : decode cX11_play 19 = .ok (.iconst 0, 1) := by decide +kernel
theorem dX11_play_20 : decode cX11_play 20 = .ok (.putfield 179, 3) := by decide +kernel
theorem dX11_play_23 : decode cX11_play 23 = .ok (.aload_n 0, 1) := by decide +kernel
theorem dX11_play_24 : decode cX11_play 24 = .ok (.getfield 179, 3) := by decide +kernel
theorem dX11_play_27 : decode cX11_play 27 = .ok (.aload_n 0, 1) := by decide +kernel
theorem dX11_play_28 : decode cX11_play 28 = .ok (.getfield 176, 3) := by decide +kernel
theorem dX11_play_31 : decode cX11_play 31 = .ok (.if_icmp .ge 21, 3) := by decide +kernel
theorem dX11_play_34 : decode cX11_play 34 = .ok (.iload_n 1, 1) := by decide +kernel
theorem dX11_play_35 : decode cX11_play 35 = .ok (.aload_n 0, 1) := by decide +kernel
theorem dX11_play_36 : decode cX11_play 36 = .ok (.invokevirtual 217, 3) := by decide +kernel
theorem dX11_play_39 : decode cX11_play 39 = .ok (.ifCond .ne 7, 3) := by decide +kernel
theorem dX11_play_42 : decode cX11_play 42 = .ok (.iconst 1, 1) := by decide +kernel
theorem dX11_play_43 : decode cX11_play 43 = .ok (.goto 4, 3) := by decide +kernel
theorem dX11_play_46 : decode cX11_play 46 = .ok (.iconst 0, 1) := by decide +kernel
theorem dX11_play_47 : decode cX11_play 47 = .ok (.iadd, 1) := by decide +kernel
theorem dX11_play_48 : decode cX11_play 48 = .ok (.istore_n 1, 1) := by decide +kernel
theorem dX11_play_49 : decode cX11_play 49 = .ok (.goto (-26), 3) := by decide +kernel
theorem dX11_play_52 : decode cX11_play 52 = .ok (.aload_n 0, 1) := by decide +kernel
theorem dX11_play_53 : decode cX11_play 53 = .ok (.iload_n 1, 1) := by decide +kernel
theorem dX11_play_54 : decode cX11_play 54 = .ok (.invokevirtual 91, 3) := by decide +kernel
theorem dX11_play_57 : decode cX11_play 57 = .ok (.ireturn, 1) := by decide +kernel
theorem dJ9_max_7cf53_0 : decode cJ9_max_7cf53 0 = .ok (.iload_n 0, 1) := by decide +kernel
theorem dJ9_max_7cf53_1 : decode cJ9_max_7cf53 1 = .ok (.iload_n 1, 1) := by decide +kernel
theorem dJ9_max_7cf53_2 : decode cJ9_max_7cf53 2 = .ok (.if_icmp .lt 7, 3) := by decide +kernel
theorem dJ9_max_7cf53_5 : decode cJ9_max_7cf53 5 = .ok (.iload_n 0, 1) := by decide +kernel
theorem dJ9_max_7cf53_6 : decode cJ9_max_7cf53 6 = .ok (.goto 4, 3) := by decide +kernel
theorem dJ9_max_7cf53_9 : decode cJ9_max_7cf53 9 = .ok (.iload_n 1, 1) := by decide +kernel
theorem dJ9_max_7cf53_10 : decode cJ9_max_7cf53 10 = .ok (.ireturn, 1) := by decide +kernel
theorem dJ9_min_7cf53_0 : decode cJ9_min_7cf53 0 = .ok (.iload_n 0, 1) := by decide +kernel
theorem dJ9_min_7cf53_1 : decode cJ9_min_7cf53 1 = .ok (.iload_n 1, 1) := by decide +kernel
theorem dJ9_min_7cf53_2 : decode cJ9_min_7cf53 2 = .ok (.if_icmp .gt 7, 3) := by decide +kernel
theorem dJ9_min_7cf53_5 : decode cJ9_min_7cf53 5 = .ok (.iload_n 0, 1) := by decide +kernel
theorem dJ9_min_7cf53_6 : decode cJ9_min_7cf53 6 = .ok (.goto 4, 3) := by decide +kernel
theorem dJ9_min_7cf53_9 : decode cJ9_min_7cf53 9 = .ok (.iload_n 1, 1) := by decide +kernel
theorem dJ9_min_7cf53_10 : decode cJ9_min_7cf53 10 = .ok (.ireturn, 1) := by decide +kernel
theorem dJ7_fill_53178_0 : decode cJ7_fill_53178 0 = .ok (.iconst 0, 1) := by decide +kernel
theorem dJ7_fill_53178_1 : decode cJ7_fill_53178 1 = .ok (.istore_n 2, 1) := by decide +kernel
theorem dJ7_fill_53178_2 : decode cJ7_fill_53178 2 = .ok (.aload_n 0, 1) := by decide +kernel
theorem dJ7_fill_53178_3 : decode cJ7_fill_53178 3 = .ok (.arraylength, 1) := by decide +kernel
theorem dJ7_fill_53178_4 : decode cJ7_fill_53178 4 = .ok (.istore_n 3, 1) := by decide +kernel
theorem dJ7_fill_53178_5 : decode cJ7_fill_53178 5 = .ok (.iload_n 2, 1) := by decide +kernel
theorem dJ7_fill_53178_6 : decode cJ7_fill_53178 6 = .ok (.iload_n 3, 1) := by decide +kernel
theorem dJ7_fill_53178_7 : decode cJ7_fill_53178 7 = .ok (.if_icmp .ge 13, 3) := by decide +kernel
theorem dJ7_fill_53178_10 : decode cJ7_fill_53178 10 = .ok (.aload_n 0, 1) := by decide +kernel
theorem dJ7_fill_53178_11 : decode cJ7_fill_53178 11 = .ok (.iload_n 2, 1) := by decide +kernel
theorem dJ7_fill_53178_12 : decode cJ7_fill_53178 12 = .ok (.iload_n 1, 1) := by decide +kernel
theorem dJ7_fill_53178_13 : decode cJ7_fill_53178 13 = .ok (.iastore, 1) := by decide +kernel
theorem dJ7_fill_53178_14 : decode cJ7_fill_53178 14 = .ok (.iinc 2 1, 3) := by decide +kernel
theorem dJ7_fill_53178_17 : decode cJ7_fill_53178 17 = .ok (.goto (-12), 3) := by decide +kernel
theorem dJ7_fill_53178_20 : decode cJ7_fill_53178 20 = .ok (.return_, 1) := by decide +kernel
set_option maxRecDepth 20000 in
theorem ggL_law_X10_init : GoodIn wsL_law wsX10_init := goodIn_r _ [8, 9, 10, 11, 12, 13, 14, 15, 16, 17, 18, 19, 20, 21, 22, 23, 24, 25, 26, 27, 28, 29, 30, 31, 32, 33, 34, 35, 36, 37, 38, 39, 40, 41, 42, 43, 44, 45, 46, 47, 48, 49, 50, 51, 52, 53, 54, 55, 56, 57, 58, 59, 60, 61, 62, 63, 64, 65, 66, 67, 68, 69, 70, 71, 72, 73, 74, 75, 76, 77, 78, 79, 80, 81, 82, 83, 84, 85, 86, 87, 88, 89, 90, 91, 92, 93, 733, 734, 735, 736, 737, 738, 698, 699, 700, 701, 702, 703, 704, 705, 739, 740, 741, 742, 743, 744, 745, 746, 747, 748, 749, 750, 751, 752, 753, 754, 755, 756, 757, 758, 759, 760, 761, 762, 763, 764, 765, 766, 767, 768, 769, 770, 771, 772, 773, 774, 775, 776, 777, 778] (by decide +kernel) (by decide +kernel)
set_option maxRecDepth 20000 in
theorem gL_law_X10_init : GoodIn wsL_law (wsX10_init) := ggL_law_X10_init
set_option maxRecDepth 20000 in
theorem ggL_law_X11_init : GoodIn wsL_law wsX11_init := goodIn_r _ [96, 97, 10, 11, 57, 98, 99, 100, 101, 89, 102, 103, 104, 105, 706, 707, 708, 709, 710, 711, 712, 713, 714, 715, 716, 717, 718, 719, 720, 721, 722, 723, 724, 725, 726, 727, 728, 729, 730, 731, 732] (by decide +kernel) (by decide +kernel)
set_option maxRecDepth 20000 in
theorem gL_law_X11_init : GoodIn wsL_law (wsX11_init) := ggL_law_X11_init
set_option maxRecDepth 20000 in
theorem ggL_law_X10_drop : GoodIn wsL_law wsX10_drop := goodIn_r _ [109, 15, 110, 16, 111, 46, 112, 113, 114, 115, 116, 117, 2, 118, 119, 14, 120, 121, 47, 51, 52, 53, 122, 123, 124, 125, 126, 58, 127, 128, 129, 130, 59, 60, 61, 62, 131, 50, 132, 133, 66, 134, 67, 135, 136, 137, 138, 139, 140, 141, 142, 143, 144, 145, 146, 20, 147, 19, 148, 149, 150, 72, 151, 152, 153, 154, 698, 699, 700, 701, 702, 703, 704, 705, 733, 734, 735, 736, 737, 738, 770, 771, 772, 773, 774, 775, 776, 777, 778, 739, 740] (by decide +kernel) (by decide +kernel)
set_option maxRecDepth 20000 in
theorem gL_law_X10_drop : GoodIn wsL_law (wsV RL 13 RX10 yX10_drop wsX10_drop) := goodIn_app (goodIn_of _ (by decide +kernel)) ggL_law_X10_drop
set_option maxRecDepth 20000 in
theorem ggL_law_X11_drop : GoodIn wsL_law wsX11_drop := goodIn_r _ [158, 159, 160, 161, 5, 162, 100, 98, 163, 164, 165, 166, 167, 168, 169, 170, 171, 172, 173, 174, 175, 176, 177, 178, 179, 99, 706, 707, 708, 709, 710, 711, 712, 713, 714, 715, 716, 717, 718, 719, 720, 721, 722, 723, 724, 725, 726, 727, 728, 729, 730, 731, 732] (by decide +kernel) (by decide +kernel)
set_option maxRecDepth 20000 in
theorem gL_law_X11_drop : GoodIn wsL_law (wsV RL 17 RX11 yX11_drop wsX11_drop) := goodIn_app (goodIn_of _ (by decide +kernel)) ggL_law_X11_drop
set_option maxRecDepth 20000 in
theorem ggL_law_X10_way : GoodIn wsL_law wsX10_way := goodIn_r _ [183, 110, 15, 16, 115, 116, 117, 2, 118, 119, 14, 120, 121, 47, 51, 52, 53, 122, 123, 124, 46, 125, 126, 58, 127, 128, 129, 130, 59, 60, 61, 62, 114, 131, 50, 132, 133, 66, 134, 67, 135, 184, 185, 186, 143, 144, 145, 146, 20, 147, 19, 148, 149, 150, 72, 151, 152, 153, 154, 698, 699, 700, 701, 702, 703, 704, 705, 733, 734, 735, 736, 737, 738, 770, 771, 772, 773, 774, 775, 776, 777, 778, 739, 740] (by decide +kernel) (by decide +kernel)
set_option maxRecDepth 20000 in
theorem gL_law_X10_way : GoodIn wsL_law (wsV RL 18 RX10 yX10_way wsX10_way) := goodIn_app (goodIn_of _ (by decide +kernel)) ggL_law_X10_way
set_option maxRecDepth 20000 in
theorem ggL_law_X11_way : GoodIn wsL_law wsX11_way := goodIn_r _ [190, 159, 160, 161, 5, 162, 100, 98, 191, 192, 193, 194, 167, 172, 173, 174, 175, 176, 177, 178, 179, 99, 706, 707, 708, 709, 710, 711, 712, 713, 714, 715, 716, 717, 718, 719, 720, 721, 722, 723, 724, 725, 726, 727, 728, 729, 730, 731, 732] (by decide +kernel) (by decide +kernel)
set_option maxRecDepth 20000 in
theorem gL_law_X11_way : GoodIn wsL_law (wsV RL 21 RX11 yX11_way wsX11_way) := goodIn_app (goodIn_of _ (by decide +kernel)) ggL_law_X11_way
set_option maxRecDepth 20000 in
theorem ggL_law_X10_ruleOf : GoodIn wsL_law wsX10_ruleOf := goodIn_r _ [198, 15, 110, 111, 46, 112, 113, 114, 199, 200, 2, 201, 202, 203, 204, 205, 206, 207, 208, 209, 210, 211, 212, 213, 214, 215, 60, 58, 698, 699, 700, 701, 702, 703, 704, 705, 733, 734, 735, 736, 737, 738, 770, 771, 772, 773, 774, 775] (by decide +kernel) (by decide +kernel)
set_option maxRecDepth 20000 in
theorem gL_law_X10_ruleOf : GoodIn wsL_law (wsV RL 22 RX10 yX10_ruleOf wsX10_ruleOf) := goodIn_app (goodIn_of _ (by decide +kernel)) ggL_law_X10_ruleOf
set_option maxRecDepth 20000 in
theorem ggL_law_X11_ruleOf : GoodIn wsL_law wsX11_ruleOf := goodIn_r _ [219, 167, 98, 168, 169, 170, 5, 171, 172, 173, 174, 220, 221, 222, 223, 224, 225, 226, 227, 228, 229, 230, 231, 232, 233, 234, 235, 236, 237, 238, 239, 240, 241, 242, 243, 244, 706, 707, 708, 709, 710, 711, 712, 713, 714, 715, 716, 717, 718, 719, 720, 721, 722, 723, 724, 725, 726, 727, 728, 729, 730, 731, 732] (by decide +kernel) (by decide +kernel)
set_option maxRecDepth 20000 in
theorem gL_law_X11_ruleOf : GoodIn wsL_law (wsV RL 26 RX11 yX11_ruleOf wsX11_ruleOf) := goodIn_app (goodIn_of _ (by decide +kernel)) ggL_law_X11_ruleOf
set_option maxRecDepth 20000 in
theorem ggL_law_X10_step : GoodIn wsL_law wsX10_step := goodIn_r _ [248, 16, 115, 116, 117, 2, 118, 15, 119, 14, 120, 121, 47, 51, 52, 53, 122, 123, 124, 46, 125, 126, 58, 127, 128, 129, 130, 59, 60, 61, 62, 114, 131, 50, 132, 133, 66, 134, 67, 135, 249, 250, 251, 252, 253, 254, 255, 207, 203, 208, 212, 213, 214, 215, 256, 257, 258, 259, 260, 261, 262, 263, 264, 143, 144, 145, 146, 20, 147, 19, 148, 149, 150, 72, 151, 152, 153, 154, 698, 699, 700, 701, 702, 703, 704, 705, 733, 734, 735, 736, 737, 738, 770, 771, 772, 773, 774, 775, 776, 777, 778, 739, 740] (by decide +kernel) (by decide +kernel)
set_option maxRecDepth 20000 in
theorem gL_law_X10_step : GoodIn wsL_law (wsV RL 27 RX10 yX10_step wsX10_step) := goodIn_app (goodIn_of _ (by decide +kernel)) ggL_law_X10_step
set_option maxRecDepth 20000 in
theorem ggL_law_X11_step : GoodIn wsL_law wsX11_step := goodIn_r _ [268, 159, 160, 161, 5, 162, 100, 98, 269, 270, 271, 272, 273, 274, 275, 276, 277, 278, 279, 224, 225, 226, 220, 221, 222, 223, 235, 236, 237, 280, 281, 282, 283, 227, 228, 229, 230, 175, 176, 177, 178, 167, 179, 99, 706, 707, 708, 709, 710, 711, 712, 713, 714, 715, 716, 717, 718, 719, 720, 721, 722, 723, 724, 725, 726, 727, 728, 729, 730, 731, 732] (by decide +kernel) (by decide +kernel)
set_option maxRecDepth 20000 in
theorem gL_law_X11_step : GoodIn wsL_law (wsV RL 31 RX11 yX11_step wsX11_step) := goodIn_app (goodIn_of _ (by decide +kernel)) ggL_law_X11_step
set_option maxRecDepth 20000 in
theorem ggL_law_X10_normal : GoodIn wsL_law wsX10_normal := goodIn_r _ [287, 16, 24, 115, 116, 117, 2, 118, 15, 119, 14, 120, 121, 47, 51, 52, 53, 122, 123, 124, 46, 125, 126, 58, 127, 128, 129, 130, 59, 60, 61, 62, 114, 131, 50, 132, 133, 66, 134, 67, 135, 288, 289, 290, 252, 291, 292, 293, 294, 295, 296, 297, 298, 299, 300, 301, 302, 23, 303, 304, 76, 305, 306, 307, 77, 308, 309, 310, 311, 253, 254, 255, 207, 203, 208, 212, 213, 214, 215, 256, 257, 258, 259, 260, 261, 262, 263, 264, 312, 313, 314, 315, 316, 317, 318, 319, 320, 143, 144, 145, 146, 20, 147, 19, 148, 149, 150, 72, 151, 152, 153, 154, 698, 699, 700, 701, 702, 703, 704, 705, 733, 734, 735, 736, 737, 738, 770, 771, 772, 773, 774, 775, 776, 777, 778, 741, 742, 743, 744, 745, 739, 740] (by decide +kernel) (by decide +kernel)
set_option maxRecDepth 20000 in
theorem gL_law_X10_normal : GoodIn wsL_law (wsV RL 32 RX10 yX10_normal wsX10_normal) := goodIn_app (goodIn_of _ (by decide +kernel)) ggL_law_X10_normal
set_option maxRecDepth 20000 in
theorem ggL_law_X11_normal : GoodIn wsL_law wsX11_normal := goodIn_r _ [324, 159, 160, 161, 5, 162, 100, 98, 325, 326, 327, 328, 273, 329, 330, 104, 103, 331, 332, 333, 334, 335, 336, 337, 338, 274, 275, 339, 276, 277, 278, 279, 224, 225, 226, 220, 221, 222, 223, 235, 236, 237, 280, 281, 282, 283, 227, 228, 229, 230, 175, 176, 177, 178, 167, 179, 99, 706, 707, 708, 709, 710, 711, 712, 713, 714, 715, 716, 717, 718, 719, 720, 721, 722, 723, 724, 725, 726, 727, 728, 729, 730, 731, 732] (by decide +kernel) (by decide +kernel)
set_option maxRecDepth 20000 in
theorem gL_law_X11_normal : GoodIn wsL_law (wsV RL 35 RX11 yX11_normal wsX11_normal) := goodIn_app (goodIn_of _ (by decide +kernel)) ggL_law_X11_normal
set_option maxRecDepth 20000 in
theorem ggL_law_X10_letterAt : GoodIn wsL_law wsX10_letterAt := goodIn_r _ [343, 110, 15, 202, 203, 204, 205, 206, 207, 208, 698, 699, 700, 701, 702, 703, 704, 705, 733, 734, 735, 736, 737, 738] (by decide +kernel) (by decide +kernel)
set_option maxRecDepth 20000 in
theorem gL_law_X10_letterAt : GoodIn wsL_law (wsV RL 36 RX10 yX10_letterAt wsX10_letterAt) := goodIn_app (goodIn_of _ (by decide +kernel)) ggL_law_X10_letterAt
set_option maxRecDepth 20000 in
theorem ggL_law_X11_letterAt : GoodIn wsL_law wsX11_letterAt := goodIn_r _ [347, 167, 98, 238, 239, 5, 240, 241, 224, 225, 226, 242, 243, 244, 706, 707, 708, 709, 710, 711, 712, 713, 714, 715, 716, 717, 718, 719, 720, 721, 722, 723, 724, 725, 726, 727, 728, 729, 730, 731, 732] (by decide +kernel) (by decide +kernel)
set_option maxRecDepth 20000 in
theorem gL_law_X11_letterAt : GoodIn wsL_law (wsV RL 39 RX11 yX11_letterAt wsX11_letterAt) := goodIn_app (goodIn_of _ (by decide +kernel)) ggL_law_X11_letterAt
set_option maxRecDepth 20000 in
theorem ggL_law_X10_next : GoodIn wsL_law wsX10_next := goodIn_r _ [351, 110, 15, 352, 253, 46, 254, 255, 114, 207, 203, 208, 212, 213, 214, 215, 60, 58, 256, 257, 258, 259, 698, 699, 700, 701, 702, 703, 704, 705, 733, 734, 735, 736, 737, 738, 770, 771, 772, 773, 774, 775] (by decide +kernel) (by decide +kernel)
set_option maxRecDepth 20000 in
theorem gL_law_X10_next : GoodIn wsL_law (wsV RL 40 RX10 yX10_next wsX10_next) := goodIn_app (goodIn_of _ (by decide +kernel)) ggL_law_X10_next
set_option maxRecDepth 20000 in
theorem ggL_law_X11_next : GoodIn wsL_law wsX11_next := goodIn_r _ [356, 167, 98, 241, 274, 275, 172, 173, 5, 174, 276, 277, 278, 279, 224, 225, 226, 220, 221, 222, 223, 235, 236, 237, 706, 707, 708, 709, 710, 711, 712, 713, 714, 715, 716, 717, 718, 719, 720, 721, 722, 723, 724, 725, 726, 727, 728, 729, 730, 731, 732] (by decide +kernel) (by decide +kernel)
set_option maxRecDepth 20000 in
theorem gL_law_X11_next : GoodIn wsL_law (wsV RL 43 RX11 yX11_next wsX11_next) := goodIn_app (goodIn_of _ (by decide +kernel)) ggL_law_X11_next
set_option maxRecDepth 20000 in
theorem ggL_law_X10_reduced : GoodIn wsL_law wsX10_reduced := goodIn_r _ [360, 110, 24, 15, 352, 199, 200, 2, 201, 302, 23, 303, 304, 76, 305, 306, 307, 77, 308, 309, 310, 311, 253, 46, 254, 255, 114, 207, 203, 208, 212, 213, 214, 215, 60, 58, 256, 257, 258, 259, 260, 261, 262, 59, 61, 263, 264, 361, 362, 363, 364, 315, 316, 317, 202, 204, 205, 206, 698, 699, 700, 701, 702, 703, 704, 705, 733, 734, 735, 736, 737, 738, 741, 742, 743, 744, 745, 770, 771, 772, 773, 774, 775] (by decide +kernel) (by decide +kernel)
set_option maxRecDepth 20000 in
theorem gL_law_X10_reduced : GoodIn wsL_law (wsV RL 44 RX10 yX10_reduced wsX10_reduced) := goodIn_app (goodIn_of _ (by decide +kernel)) ggL_law_X10_reduced
set_option maxRecDepth 20000 in
theorem ggL_law_X11_reduced : GoodIn wsL_law wsX11_reduced := goodIn_r _ [368, 167, 98, 330, 339, 241, 103, 172, 173, 5, 174, 335, 336, 337, 338, 274, 275, 104, 276, 277, 278, 279, 224, 225, 226, 220, 221, 222, 223, 235, 236, 237, 280, 281, 282, 283, 227, 228, 229, 230, 238, 239, 240, 242, 243, 244, 706, 707, 708, 709, 710, 711, 712, 713, 714, 715, 716, 717, 718, 719, 720, 721, 722, 723, 724, 725, 726, 727, 728, 729, 730, 731, 732] (by decide +kernel) (by decide +kernel)
set_option maxRecDepth 20000 in
theorem gL_law_X11_reduced : GoodIn wsL_law (wsV RL 47 RX11 yX11_reduced wsX11_reduced) := goodIn_app (goodIn_of _ (by decide +kernel)) ggL_law_X11_reduced
set_option maxRecDepth 20000 in
theorem ggL_law_X10_reached : GoodIn wsL_law wsX10_reached := goodIn_r _ [372, 110, 28, 15, 373, 352, 199, 200, 2, 201, 374, 27, 375, 376, 82, 377, 378, 379, 81, 380, 381, 382, 383, 384, 385, 386, 387, 388, 389, 390, 391, 392, 207, 203, 208, 213, 46, 214, 215, 60, 58, 260, 261, 262, 59, 61, 263, 264, 393, 394, 395, 396, 397, 398, 399, 400, 401, 402, 403, 404, 405, 202, 204, 205, 206, 698, 699, 700, 701, 702, 703, 704, 705, 733, 734, 735, 736, 737, 738, 746, 747, 748, 749, 750, 751, 752, 770, 771, 772, 773, 774, 775] (by decide +kernel) (by decide +kernel)
set_option maxRecDepth 20000 in
theorem gL_law_X10_reached : GoodIn wsL_law (wsV RL 48 RX10 yX10_reached wsX10_reached) := goodIn_app (goodIn_of _ (by decide +kernel)) ggL_law_X10_reached
set_option maxRecDepth 20000 in
theorem ggL_law_X11_reached : GoodIn wsL_law wsX11_reached := goodIn_r _ [409, 167, 410, 329, 241, 172, 173, 5, 174, 411, 412, 413, 414, 98, 105, 415, 416, 417, 418, 224, 225, 226, 220, 221, 222, 223, 235, 236, 237, 280, 281, 282, 283, 227, 228, 229, 230, 419, 420, 421, 422, 276, 277, 278, 279, 274, 275, 423, 424, 425, 426, 238, 239, 240, 242, 243, 244, 706, 707, 708, 709, 710, 711, 712, 713, 714, 715, 716, 717, 718, 719, 720, 721, 722, 723, 724, 725, 726, 727, 728, 729, 730, 731, 732] (by decide +kernel) (by decide +kernel)
set_option maxRecDepth 20000 in
theorem gL_law_X11_reached : GoodIn wsL_law (wsV RL 51 RX11 yX11_reached wsX11_reached) := goodIn_app (goodIn_of _ (by decide +kernel)) ggL_law_X11_reached
set_option maxRecDepth 20000 in
theorem ggL_law_X10_storeOf : GoodIn wsL_law wsX10_storeOf := goodIn_r _ [430, 110, 15, 352, 199, 200, 2, 201, 202, 203, 204, 205, 206, 207, 208, 698, 699, 700, 701, 702, 703, 704, 705, 733, 734, 735, 736, 737, 738, 776, 777, 778] (by decide +kernel) (by decide +kernel)
set_option maxRecDepth 20000 in
theorem gL_law_X10_storeOf : GoodIn wsL_law (wsV RL 52 RX10 yX10_storeOf wsX10_storeOf) := goodIn_app (goodIn_of _ (by decide +kernel)) ggL_law_X10_storeOf
set_option maxRecDepth 20000 in
theorem ggL_law_X11_storeOf : GoodIn wsL_law wsX11_storeOf := goodIn_r _ [434, 167, 98, 241, 172, 173, 5, 174, 224, 225, 226, 238, 239, 240, 242, 243, 244, 706, 707, 708, 709, 710, 711, 712, 713, 714, 715, 716, 717, 718, 719, 720, 721, 722, 723, 724, 725, 726, 727, 728, 729, 730, 731, 732] (by decide +kernel) (by decide +kernel)
set_option maxRecDepth 20000 in
theorem gL_law_X11_storeOf : GoodIn wsL_law (wsV RL 55 RX11 yX11_storeOf wsX11_storeOf) := goodIn_app (goodIn_of _ (by decide +kernel)) ggL_law_X11_storeOf
set_option maxRecDepth 20000 in
theorem ggL_law_X10_overlapOf : GoodIn wsL_law wsX10_overlapOf := goodIn_r _ [438, 32, 15, 110, 24, 439, 31, 440, 441, 442, 443, 444, 445, 446, 447, 448, 449, 111, 46, 112, 113, 114, 450, 451, 452, 453, 263, 203, 264, 207, 208, 213, 214, 215, 60, 58, 454, 455, 456, 457, 458, 459, 460, 461, 462, 260, 261, 262, 59, 61, 302, 23, 303, 304, 76, 305, 306, 307, 77, 308, 309, 310, 311, 253, 254, 255, 212, 256, 257, 258, 259, 315, 316, 317, 463, 464, 465, 466, 698, 699, 700, 701, 702, 703, 704, 705, 733, 734, 735, 736, 737, 738, 753, 754, 755, 756, 757, 758, 770, 771, 772, 773, 774, 775, 741, 742, 743, 744, 745] (by decide +kernel) (by decide +kernel)
set_option maxRecDepth 20000 in
theorem gL_law_X10_overlapOf : GoodIn wsL_law (wsV RL 56 RX10 yX10_overlapOf wsX10_overlapOf) := goodIn_app (goodIn_of _ (by decide +kernel)) ggL_law_X10_overlapOf
set_option maxRecDepth 20000 in
theorem ggL_law_X11_overlapOf : GoodIn wsL_law wsX11_overlapOf := goodIn_r _ [470, 167, 471, 472, 473, 474, 475, 172, 173, 5, 174, 476, 477, 478, 479, 98, 480, 481, 482, 483, 220, 221, 222, 223, 224, 225, 226, 242, 243, 244, 484, 485, 486, 487, 280, 281, 282, 283, 227, 228, 229, 230, 488, 489, 490, 491, 103, 330, 492, 493, 335, 336, 337, 338, 274, 275, 104, 339, 276, 277, 278, 279, 235, 236, 237, 706, 707, 708, 709, 710, 711, 712, 713, 714, 715, 716, 717, 718, 719, 720, 721, 722, 723, 724, 725, 726, 727, 728, 729, 730, 731, 732] (by decide +kernel) (by decide +kernel)
set_option maxRecDepth 20000 in
theorem gL_law_X11_overlapOf : GoodIn wsL_law (wsV RL 59 RX11 yX11_overlapOf wsX11_overlapOf) := goodIn_app (goodIn_of _ (by decide +kernel)) ggL_law_X11_overlapOf
set_option maxRecDepth 20000 in
theorem ggL_law_X10_complete : GoodIn wsL_law wsX10_complete := goodIn_r _ [497, 110, 32, 16, 24, 498, 404, 400, 405, 499, 399, 401, 373, 115, 116, 117, 2, 118, 15, 119, 14, 120, 121, 47, 51, 52, 53, 122, 123, 124, 46, 125, 126, 58, 127, 128, 129, 130, 59, 60, 61, 62, 114, 131, 50, 132, 133, 66, 134, 67, 135, 500, 31, 501, 502, 442, 443, 444, 445, 446, 447, 448, 449, 111, 112, 113, 450, 451, 452, 453, 263, 203, 264, 207, 208, 213, 214, 215, 503, 454, 455, 456, 457, 458, 459, 460, 461, 462, 260, 261, 262, 302, 23, 303, 304, 76, 305, 306, 307, 77, 308, 309, 310, 311, 253, 254, 255, 212, 256, 257, 258, 259, 315, 316, 317, 463, 464, 465, 466, 504, 505, 506, 507, 508, 509, 510, 511, 512, 513, 143, 144, 145, 146, 20, 147, 19, 148, 149, 150, 72, 151, 152, 153, 154, 698, 699, 700, 701, 702, 703, 704, 705, 753, 754, 755, 756, 757, 758, 733, 734, 735, 736, 737, 738, 770, 771, 772, 773, 774, 775, 776, 777, 778, 741, 742, 743, 744, 745, 739, 740] (by decide +kernel) (by decide +kernel)
set_option maxRecDepth 20000 in
theorem gL_law_X10_complete : GoodIn wsL_law (wsV RL 60 RX10 yX10_complete wsX10_complete) := goodIn_app (goodIn_of _ (by decide +kernel)) ggL_law_X10_complete
set_option maxRecDepth 20000 in
theorem ggL_law_X11_complete : GoodIn wsL_law wsX11_complete := goodIn_r _ [517, 98, 100, 159, 160, 161, 5, 162, 518, 519, 520, 521, 167, 492, 493, 329, 172, 173, 174, 476, 477, 478, 479, 480, 481, 482, 483, 220, 221, 222, 223, 224, 225, 226, 242, 243, 244, 484, 485, 486, 487, 471, 473, 472, 474, 475, 280, 281, 282, 283, 227, 228, 229, 230, 488, 489, 490, 491, 103, 330, 335, 336, 337, 338, 274, 275, 104, 339, 276, 277, 278, 279, 235, 236, 237, 522, 523, 524, 525, 175, 176, 177, 178, 179, 99, 706, 707, 708, 709, 710, 711, 712, 713, 714, 715, 716, 717, 718, 719, 720, 721, 722, 723, 724, 725, 726, 727, 728, 729, 730, 731, 732] (by decide +kernel) (by decide +kernel)
set_option maxRecDepth 20000 in
theorem gL_law_X11_complete : GoodIn wsL_law (wsV RL 63 RX11 yX11_complete wsX11_complete) := goodIn_app (goodIn_of _ (by decide +kernel)) ggL_law_X11_complete
set_option maxRecDepth 20000 in
theorem ggL_law_X10_count : GoodIn wsL_law wsX10_count := goodIn_r _ [529, 15, 32, 24, 20, 36, 110, 207, 203, 208, 530, 31, 531, 532, 442, 443, 444, 445, 446, 447, 448, 449, 111, 46, 112, 113, 114, 450, 451, 452, 453, 263, 264, 213, 214, 215, 60, 58, 533, 534, 535, 503, 454, 455, 456, 457, 458, 459, 460, 461, 462, 260, 261, 262, 59, 61, 302, 23, 303, 304, 76, 305, 306, 307, 77, 308, 309, 310, 311, 253, 254, 255, 212, 256, 257, 258, 259, 315, 316, 317, 463, 464, 465, 466, 698, 699, 700, 701, 702, 703, 704, 705, 733, 734, 735, 736, 737, 738, 770, 771, 772, 773, 774, 775, 776, 777, 778, 739, 740, 759, 760, 761, 762, 763, 764, 765, 753, 754, 755, 756, 757, 758, 741, 742, 743, 744, 745] (by decide +kernel) (by decide +kernel)
set_option maxRecDepth 20000 in
theorem gL_law_X10_count : GoodIn wsL_law (wsV RL 64 RX10 yX10_count wsX10_count) := goodIn_app (goodIn_of _ (by decide +kernel)) ggL_law_X10_count
set_option maxRecDepth 20000 in
theorem ggL_law_X11_count : GoodIn wsL_law wsX11_count := goodIn_r _ [539, 98, 179, 540, 167, 224, 225, 5, 226, 476, 477, 478, 479, 480, 481, 482, 483, 220, 221, 222, 223, 242, 243, 244, 484, 485, 486, 487, 471, 473, 472, 474, 475, 280, 281, 282, 283, 227, 228, 229, 230, 488, 489, 490, 491, 103, 330, 492, 493, 335, 336, 337, 338, 274, 275, 104, 339, 276, 277, 278, 279, 235, 236, 237, 706, 707, 708, 709, 710, 711, 712, 713, 714, 715, 716, 717, 718, 719, 720, 721, 722, 723, 724, 725, 726, 727, 728, 729, 730, 731, 732] (by decide +kernel) (by decide +kernel)
set_option maxRecDepth 20000 in
theorem gL_law_X11_count : GoodIn wsL_law (wsV RL 67 RX11 yX11_count wsX11_count) := goodIn_app (goodIn_of _ (by decide +kernel)) ggL_law_X11_count
set_option maxRecDepth 20000 in
theorem ggL_law_X10_undo : GoodIn wsL_law wsX10_undo := goodIn_r _ [544, 20, 545, 15, 546, 19, 547, 548, 150, 72, 119, 14, 120, 121, 47, 51, 52, 53, 122, 123, 124, 46, 125, 126, 58, 127, 128, 129, 130, 59, 60, 61, 62, 114, 131, 50, 132, 133, 66, 134, 67, 135, 698, 699, 700, 701, 702, 703, 704, 705, 739, 740, 733, 734, 735, 736, 737, 738, 770, 771, 772, 773, 774, 775, 776, 777, 778] (by decide +kernel) (by decide +kernel)
set_option maxRecDepth 20000 in
theorem gL_law_X10_undo : GoodIn wsL_law (wsV RL 68 RX10 yX10_undo wsX10_undo) := goodIn_app (goodIn_of _ (by decide +kernel)) ggL_law_X10_undo
set_option maxRecDepth 20000 in
theorem ggL_law_X11_undo : GoodIn wsL_law wsX11_undo := goodIn_r _ [552, 179, 273, 98, 99, 706, 707, 708, 709, 710, 711, 712, 713, 714, 715, 716, 717, 718, 719, 720, 721, 722, 723, 724, 725, 726, 727, 728, 729, 730, 731, 732] (by decide +kernel) (by decide +kernel)
set_option maxRecDepth 20000 in
theorem gL_law_X11_undo : GoodIn wsL_law (wsV RL 71 RX11 yX11_undo wsX11_undo) := goodIn_app (goodIn_of _ (by decide +kernel)) ggL_law_X11_undo
set_option maxRecDepth 20000 in
theorem ggL_law_X10_type : GoodIn wsL_law wsX10_type := goodIn_r _ [556, 110, 36, 373, 557, 35, 558, 559, 560, 561, 562, 563, 90, 564, 698, 699, 700, 701, 702, 703, 704, 705, 759, 760, 761, 762, 763, 764, 765] (by decide +kernel) (by decide +kernel)
set_option maxRecDepth 20000 in
theorem gL_law_X10_type : GoodIn wsL_law (wsV RL 72 RX10 yX10_type wsX10_type) := goodIn_app (goodIn_of _ (by decide +kernel)) ggL_law_X10_type
set_option maxRecDepth 20000 in
theorem ggL_law_X11_type : GoodIn wsL_law wsX11_type := goodIn_r _ [568, 167, 540, 329, 102, 172, 173, 5, 174, 706, 707, 708, 709, 710, 711, 712, 713, 714, 715, 716, 717, 718, 719, 720, 721, 722, 723, 724, 725, 726, 727, 728, 729, 730, 731, 732] (by decide +kernel) (by decide +kernel)
set_option maxRecDepth 20000 in
theorem gL_law_X11_type : GoodIn wsL_law (wsV RL 75 RX11 yX11_type wsX11_type) := goodIn_app (goodIn_of _ (by decide +kernel)) ggL_law_X11_type
set_option maxRecDepth 20000 in
theorem ggL_law_X10_clearText : GoodIn wsL_law wsX10_clearText := goodIn_r _ [572, 36, 698, 699, 700, 701, 702, 703, 704, 705, 759, 760, 761, 762, 763, 764, 765] (by decide +kernel) (by decide +kernel)
set_option maxRecDepth 20000 in
theorem gL_law_X10_clearText : GoodIn wsL_law (wsV RL 76 RX10 yX10_clearText wsX10_clearText) := goodIn_app (goodIn_of _ (by decide +kernel)) ggL_law_X10_clearText
set_option maxRecDepth 20000 in
theorem ggL_law_X11_clearText : GoodIn wsL_law wsX11_clearText := goodIn_r _ [576, 540, 706, 707, 708, 709, 710, 711, 712, 713, 714, 715, 716, 717, 718, 719, 720, 721, 722, 723, 724, 725, 726, 727, 728, 729, 730, 731, 732] (by decide +kernel) (by decide +kernel)
set_option maxRecDepth 20000 in
theorem gL_law_X11_clearText : GoodIn wsL_law (wsV RL 79 RX11 yX11_clearText wsX11_clearText) := goodIn_app (goodIn_of _ (by decide +kernel)) ggL_law_X11_clearText
set_option maxRecDepth 20000 in
theorem ggL_law_X10_fault : GoodIn wsL_law wsX10_fault := goodIn_r _ [580, 110, 40, 36, 16, 24, 352, 115, 116, 117, 2, 118, 15, 119, 14, 120, 121, 47, 51, 52, 53, 122, 123, 124, 46, 125, 126, 58, 127, 128, 129, 130, 59, 60, 61, 62, 114, 131, 50, 132, 133, 66, 134, 67, 135, 581, 39, 582, 583, 584, 585, 586, 587, 588, 35, 589, 590, 591, 592, 593, 594, 595, 596, 597, 598, 560, 90, 599, 600, 601, 602, 603, 203, 604, 605, 606, 607, 608, 609, 610, 611, 612, 613, 614, 615, 616, 617, 618, 619, 620, 621, 207, 208, 622, 623, 624, 625, 626, 627, 628, 504, 505, 506, 507, 508, 509, 510, 511, 512, 513, 629, 630, 631, 632, 111, 112, 113, 136, 137, 138, 139, 140, 141, 142, 633, 634, 635, 636, 249, 250, 251, 252, 253, 254, 255, 212, 213, 214, 215, 256, 257, 258, 259, 260, 261, 262, 263, 264, 288, 289, 290, 291, 292, 293, 294, 295, 296, 297, 298, 299, 300, 301, 302, 23, 303, 304, 76, 305, 306, 307, 77, 308, 309, 310, 311, 312, 313, 314, 315, 316, 317, 318, 319, 320, 637, 638, 639, 640, 184, 185, 186, 698, 699, 700, 701, 702, 703, 704, 705, 766, 767, 768, 769, 733, 734, 735, 736, 737, 738, 770, 771, 772, 773, 774, 775, 776, 777, 778, 759, 760, 761, 762, 763, 764, 765, 741, 742, 743, 744, 745] (by decide +kernel) (by decide +kernel)
set_option maxRecDepth 20000 in
theorem gL_law_X10_fault : GoodIn wsL_law (wsV RL 80 RX10 yX10_fault wsX10_fault) := goodIn_app (goodIn_of _ (by decide +kernel)) ggL_law_X10_fault
set_option maxRecDepth 20000 in
theorem ggL_law_X11_fault : GoodIn wsL_law wsX11_fault := goodIn_r _ [644, 167, 241, 645, 646, 172, 173, 5, 174, 647, 648, 649, 650, 101, 98, 651, 540, 652, 653, 654, 655, 656, 657, 658, 659, 102, 660, 661, 662, 663, 664, 665, 666, 667, 668, 669, 670, 671, 672, 673, 674, 675, 676, 677, 220, 221, 222, 223, 227, 228, 229, 230, 522, 523, 524, 525, 678, 679, 680, 681, 163, 164, 165, 166, 168, 169, 170, 171, 191, 192, 193, 194, 682, 683, 684, 685, 686, 687, 688, 689, 269, 270, 271, 272, 273, 274, 275, 276, 277, 278, 279, 224, 225, 226, 235, 236, 237, 280, 281, 282, 283, 325, 326, 327, 328, 329, 330, 104, 103, 331, 332, 333, 334, 335, 336, 337, 338, 339, 706, 707, 708, 709, 710, 711, 712, 713, 714, 715, 716, 717, 718, 719, 720, 721, 722, 723, 724, 725, 726, 727, 728, 729, 730, 731, 732] (by decide +kernel) (by decide +kernel)
set_option maxRecDepth 20000 in
theorem gL_law_X11_fault : GoodIn wsL_law (wsV RL 83 RX11 yX11_fault wsX11_fault) := goodIn_app (goodIn_of _ (by decide +kernel)) ggL_law_X11_fault
set_option maxRecDepth 20000 in
theorem ggL_law_X10_play : GoodIn wsL_law wsX10_play := goodIn_r _ [693, 40, 36, 16, 24, 545, 115, 116, 117, 2, 118, 15, 119, 14, 120, 121, 47, 51, 52, 53, 122, 123, 124, 46, 125, 126, 58, 127, 128, 129, 130, 59, 60, 61, 62, 114, 131, 50, 132, 133, 66, 134, 67, 135, 581, 39, 582, 583, 584, 585, 586, 587, 588, 35, 589, 590, 591, 592, 593, 594, 595, 596, 597, 598, 560, 90, 599, 600, 601, 602, 603, 203, 604, 605, 606, 607, 608, 609, 610, 611, 612, 613, 614, 615, 616, 617, 618, 619, 620, 621, 207, 208, 622, 623, 624, 625, 626, 627, 628, 504, 505, 506, 507, 508, 509, 510, 511, 512, 513, 629, 630, 631, 632, 111, 112, 113, 136, 137, 138, 139, 140, 141, 142, 633, 634, 635, 636, 249, 250, 251, 252, 253, 254, 255, 212, 213, 214, 215, 256, 257, 258, 259, 260, 261, 262, 263, 264, 288, 289, 290, 291, 292, 293, 294, 295, 296, 297, 298, 299, 300, 301, 302, 23, 303, 304, 76, 305, 306, 307, 77, 308, 309, 310, 311, 312, 313, 314, 315, 316, 317, 318, 319, 320, 637, 638, 639, 640, 184, 185, 186, 143, 144, 145, 146, 20, 147, 19, 148, 149, 150, 72, 151, 152, 153, 154, 698, 699, 700, 701, 702, 703, 704, 705, 766, 767, 768, 769, 733, 734, 735, 736, 737, 738, 770, 771, 772, 773, 774, 775, 776, 777, 778, 759, 760, 761, 762, 763, 764, 765, 741, 742, 743, 744, 745, 739, 740] (by decide +kernel) (by decide +kernel)
set_option maxRecDepth 20000 in
theorem gL_law_X10_play : GoodIn wsL_law (wsV RL 84 RX10 yX10_play wsX10_play) := goodIn_app (goodIn_of _ (by decide +kernel)) ggL_law_X10_play
set_option maxRecDepth 20000 in
theorem ggL_law_X11_play : GoodIn wsL_law wsX11_play := goodIn_r _ [697, 241, 273, 651, 540, 647, 648, 649, 5, 650, 101, 98, 645, 652, 653, 654, 655, 656, 657, 658, 659, 102, 660, 661, 662, 663, 664, 665, 666, 667, 668, 669, 172, 173, 174, 670, 671, 672, 673, 674, 675, 676, 677, 646, 220, 221, 222, 223, 227, 228, 229, 230, 522, 523, 524, 525, 678, 679, 680, 681, 167, 163, 164, 165, 166, 168, 169, 170, 171, 191, 192, 193, 194, 682, 683, 684, 685, 686, 687, 688, 689, 269, 270, 271, 272, 274, 275, 276, 277, 278, 279, 224, 225, 226, 235, 236, 237, 280, 281, 282, 283, 325, 326, 327, 328, 329, 330, 104, 103, 331, 332, 333, 334, 335, 336, 337, 338, 339, 159, 160, 161, 162, 100, 175, 176, 177, 178, 179, 99, 706, 707, 708, 709, 710, 711, 712, 713, 714, 715, 716, 717, 718, 719, 720, 721, 722, 723, 724, 725, 726, 727, 728, 729, 730, 731, 732] (by decide +kernel) (by decide +kernel)
set_option maxRecDepth 20000 in
theorem gL_law_X11_play : GoodIn wsL_law (wsV RL 87 RX11 yX11_play wsX11_play) := goodIn_app (goodIn_of _ (by decide +kernel)) ggL_law_X11_play
theorem dL_law_0 : decode cL_law 0 = .ok (.new 7, 3) := by decide +kernel
theorem dL_law_3 : decode cL_law 3 = .ok (.dup, 1) := by decide +kernel
theorem dL_law_4 : decode cL_law 4 = .ok (.invokespecial 9, 3) := by decide +kernel
theorem dL_law_7 : decode cL_law 7 = .ok (.astore_n 1, 1) := by decide +kernel
theorem dL_law_8 : decode cL_law 8 = .ok (.new 10, 3) := by decide +kernel
theorem dL_law_11 : decode cL_law 11 = .ok (.dup, 1) := by decide +kernel
theorem dL_law_12 : decode cL_law 12 = .ok (.invokespecial 12, 3) := by decide +kernel
theorem dL_law_15 : decode cL_law 15 = .ok (.astore_n 2, 1) := by decide +kernel
theorem dL_law_16 : decode cL_law 16 = .ok (.iconst 0, 1) := by decide +kernel
theorem dL_law_17 : decode cL_law 17 = .ok (.istore_n 3, 1) := by decide +kernel
theorem dL_law_18 : decode cL_law 18 = .ok (.iload_n 3, 1) := by decide +kernel
theorem dL_law_19 : decode cL_law 19 = .ok (.aload_n 0, 1) := by decide +kernel
theorem dL_law_20 : decode cL_law 20 = .ok (.arraylength, 1) := by decide +kernel
theorem dL_law_21 : decode cL_law 21 = .ok (.iconst 3, 1) := by decide +kernel
theorem dL_law_22 : decode cL_law 22 = .ok (.isub, 1) := by decide +kernel
theorem dL_law_23 : decode cL_law 23 = .ok (.if_icmp .gt 497, 3) := by decide +kernel
theorem dL_law_26 : decode cL_law 26 = .ok (.aload_n 0, 1) := by decide +kernel
theorem dL_law_27 : decode cL_law 27 = .ok (.iload_n 3, 1) := by decide +kernel
theorem dL_law_28 : decode cL_law 28 = .ok (.iaload, 1) := by decide +kernel
theorem dL_law_29 : decode cL_law 29 = .ok (.bipush 31, 2) := by decide +kernel
theorem dL_law_31 : decode cL_law 31 = .ok (.iand, 1) := by decide +kernel
theorem dL_law_32 : decode cL_law 32 = .ok (.tableswitch 482 0 17 #[88, 111, 134, 167, 180, 193, 216, 239, 262, 285, 318, 351, 374, 397, 410, 433, 446, 469], 88) := by decide +kernel
theorem dL_law_120 : decode cL_law 120 = .ok (.aload_n 1, 1) := by decide +kernel
theorem dL_law_121 : decode cL_law 121 = .ok (.aload_n 0, 1) := by decide +kernel
theorem dL_law_122 : decode cL_law 122 = .ok (.iload_n 3, 1) := by decide +kernel
theorem dL_law_123 : decode cL_law 123 = .ok (.iconst 1, 1) := by decide +kernel
theorem dL_law_124 : decode cL_law 124 = .ok (.iadd, 1) := by decide +kernel
theorem dL_law_125 : decode cL_law 125 = .ok (.iaload, 1) := by decide +kernel
theorem dL_law_126 : decode cL_law 126 = .ok (.invokevirtual 13, 3) := by decide +kernel
theorem dL_law_129 : decode cL_law 129 = .ok (.aload_n 2, 1) := by decide +kernel
theorem dL_law_130 : decode cL_law 130 = .ok (.aload_n 0, 1) := by decide +kernel
theorem dL_law_131 : decode cL_law 131 = .ok (.iload_n 3, 1) := by decide +kernel
theorem dL_law_132 : decode cL_law 132 = .ok (.iconst 1, 1) := by decide +kernel
theorem dL_law_133 : decode cL_law 133 = .ok (.iadd, 1) := by decide +kernel
theorem dL_law_134 : decode cL_law 134 = .ok (.iaload, 1) := by decide +kernel
theorem dL_law_135 : decode cL_law 135 = .ok (.invokevirtual 17, 3) := by decide +kernel
theorem dL_law_138 : decode cL_law 138 = .ok (.if_icmp .eq 376, 3) := by decide +kernel
theorem dL_law_141 : decode cL_law 141 = .ok (.iconst 0, 1) := by decide +kernel
theorem dL_law_142 : decode cL_law 142 = .ok (.ireturn, 1) := by decide +kernel
theorem dL_law_143 : decode cL_law 143 = .ok (.aload_n 1, 1) := by decide +kernel
theorem dL_law_144 : decode cL_law 144 = .ok (.aload_n 0, 1) := by decide +kernel
theorem dL_law_145 : decode cL_law 145 = .ok (.iload_n 3, 1) := by decide +kernel
theorem dL_law_146 : decode cL_law 146 = .ok (.iconst 1, 1) := by decide +kernel
theorem dL_law_147 : decode cL_law 147 = .ok (.iadd, 1) := by decide +kernel
theorem dL_law_148 : decode cL_law 148 = .ok (.iaload, 1) := by decide +kernel
theorem dL_law_149 : decode cL_law 149 = .ok (.invokevirtual 18, 3) := by decide +kernel
theorem dL_law_152 : decode cL_law 152 = .ok (.aload_n 2, 1) := by decide +kernel
theorem dL_law_153 : decode cL_law 153 = .ok (.aload_n 0, 1) := by decide +kernel
theorem dL_law_154 : decode cL_law 154 = .ok (.iload_n 3, 1) := by decide +kernel
theorem dL_law_155 : decode cL_law 155 = .ok (.iconst 1, 1) := by decide +kernel
theorem dL_law_156 : decode cL_law 156 = .ok (.iadd, 1) := by decide +kernel
theorem dL_law_157 : decode cL_law 157 = .ok (.iaload, 1) := by decide +kernel
theorem dL_law_158 : decode cL_law 158 = .ok (.invokevirtual 21, 3) := by decide +kernel
theorem dL_law_161 : decode cL_law 161 = .ok (.if_icmp .eq 353, 3) := by decide +kernel
theorem dL_law_164 : decode cL_law 164 = .ok (.iconst 0, 1) := by decide +kernel
theorem dL_law_165 : decode cL_law 165 = .ok (.ireturn, 1) := by decide +kernel
theorem dL_law_166 : decode cL_law 166 = .ok (.aload_n 1, 1) := by decide +kernel
theorem dL_law_167 : decode cL_law 167 = .ok (.aload_n 0, 1) := by decide +kernel
theorem dL_law_168 : decode cL_law 168 = .ok (.iload_n 3, 1) := by decide +kernel
theorem dL_law_169 : decode cL_law 169 = .ok (.iconst 1, 1) := by decide +kernel
theorem dL_law_170 : decode cL_law 170 = .ok (.iadd, 1) := by decide +kernel
theorem dL_law_171 : decode cL_law 171 = .ok (.iaload, 1) := by decide +kernel
theorem dL_law_172 : decode cL_law 172 = .ok (.aload_n 0, 1) := by decide +kernel
theorem dL_law_173 : decode cL_law 173 = .ok (.iload_n 3, 1) := by decide +kernel
theorem dL_law_174 : decode cL_law 174 = .ok (.iconst 2, 1) := by decide +kernel
theorem dL_law_175 : decode cL_law 175 = .ok (.iadd, 1) := by decide +kernel
theorem dL_law_176 : decode cL_law 176 = .ok (.iaload, 1) := by decide +kernel
theorem dL_law_177 : decode cL_law 177 = .ok (.invokevirtual 22, 3) := by decide +kernel
theorem dL_law_180 : decode cL_law 180 = .ok (.aload_n 2, 1) := by decide +kernel
theorem dL_law_181 : decode cL_law 181 = .ok (.aload_n 0, 1) := by decide +kernel
theorem dL_law_182 : decode cL_law 182 = .ok (.iload_n 3, 1) := by decide +kernel
theorem dL_law_183 : decode cL_law 183 = .ok (.iconst 1, 1) := by decide +kernel
theorem dL_law_184 : decode cL_law 184 = .ok (.iadd, 1) := by decide +kernel
theorem dL_law_185 : decode cL_law 185 = .ok (.iaload, 1) := by decide +kernel
theorem dL_law_186 : decode cL_law 186 = .ok (.aload_n 0, 1) := by decide +kernel
theorem dL_law_187 : decode cL_law 187 = .ok (.iload_n 3, 1) := by decide +kernel
theorem dL_law_188 : decode cL_law 188 = .ok (.iconst 2, 1) := by decide +kernel
theorem dL_law_189 : decode cL_law 189 = .ok (.iadd, 1) := by decide +kernel
theorem dL_law_190 : decode cL_law 190 = .ok (.iaload, 1) := by decide +kernel
theorem dL_law_191 : decode cL_law 191 = .ok (.invokevirtual 26, 3) := by decide +kernel
theorem dL_law_194 : decode cL_law 194 = .ok (.if_icmp .eq 320, 3) := by decide +kernel
theorem dL_law_197 : decode cL_law 197 = .ok (.iconst 0, 1) := by decide +kernel
theorem dL_law_198 : decode cL_law 198 = .ok (.ireturn, 1) := by decide +kernel
theorem dL_law_199 : decode cL_law 199 = .ok (.aload_n 1, 1) := by decide +kernel
theorem dL_law_200 : decode cL_law 200 = .ok (.invokevirtual 27, 3) := by decide +kernel
theorem dL_law_203 : decode cL_law 203 = .ok (.aload_n 2, 1) := by decide +kernel
theorem dL_law_204 : decode cL_law 204 = .ok (.invokevirtual 31, 3) := by decide +kernel
theorem dL_law_207 : decode cL_law 207 = .ok (.if_icmp .eq 307, 3) := by decide +kernel
theorem dL_law_210 : decode cL_law 210 = .ok (.iconst 0, 1) := by decide +kernel
theorem dL_law_211 : decode cL_law 211 = .ok (.ireturn, 1) := by decide +kernel
theorem dL_law_212 : decode cL_law 212 = .ok (.aload_n 1, 1) := by decide +kernel
theorem dL_law_213 : decode cL_law 213 = .ok (.invokevirtual 32, 3) := by decide +kernel
theorem dL_law_216 : decode cL_law 216 = .ok (.aload_n 2, 1) := by decide +kernel
theorem dL_law_217 : decode cL_law 217 = .ok (.invokevirtual 35, 3) := by decide +kernel
theorem dL_law_220 : decode cL_law 220 = .ok (.if_icmp .eq 294, 3) := by decide +kernel
theorem dL_law_223 : decode cL_law 223 = .ok (.iconst 0, 1) := by decide +kernel
theorem dL_law_224 : decode cL_law 224 = .ok (.ireturn, 1) := by decide +kernel
theorem dL_law_225 : decode cL_law 225 = .ok (.aload_n 1, 1) := by decide +kernel
theorem dL_law_226 : decode cL_law 226 = .ok (.aload_n 0, 1) := by decide +kernel
theorem dL_law_227 : decode cL_law 227 = .ok (.iload_n 3, 1) := by decide +kernel
theorem dL_law_228 : decode cL_law 228 = .ok (.iconst 1, 1) := by decide +kernel
theorem dL_law_229 : decode cL_law 229 = .ok (.iadd, 1) := by decide +kernel
theorem dL_law_230 : decode cL_law 230 = .ok (.iaload, 1) := by decide +kernel
theorem dL_law_231 : decode cL_law 231 = .ok (.invokevirtual 36, 3) := by decide +kernel
theorem dL_law_234 : decode cL_law 234 = .ok (.aload_n 2, 1) := by decide +kernel
theorem dL_law_235 : decode cL_law 235 = .ok (.aload_n 0, 1) := by decide +kernel
theorem dL_law_236 : decode cL_law 236 = .ok (.iload_n 3, 1) := by decide +kernel
theorem dL_law_237 : decode cL_law 237 = .ok (.iconst 1, 1) := by decide +kernel
theorem dL_law_238 : decode cL_law 238 = .ok (.iadd, 1) := by decide +kernel
theorem dL_law_239 : decode cL_law 239 = .ok (.iaload, 1) := by decide +kernel
theorem dL_law_240 : decode cL_law 240 = .ok (.invokevirtual 39, 3) := by decide +kernel
theorem dL_law_243 : decode cL_law 243 = .ok (.if_icmp .eq 271, 3) := by decide +kernel
theorem dL_law_246 : decode cL_law 246 = .ok (.iconst 0, 1) := by decide +kernel
theorem dL_law_247 : decode cL_law 247 = .ok (.ireturn, 1) := by decide +kernel
theorem dL_law_248 : decode cL_law 248 = .ok (.aload_n 1, 1) := by decide +kernel
theorem dL_law_249 : decode cL_law 249 = .ok (.aload_n 0, 1) := by decide +kernel
theorem dL_law_250 : decode cL_law 250 = .ok (.iload_n 3, 1) := by decide +kernel
theorem dL_law_251 : decode cL_law 251 = .ok (.iconst 1, 1) := by decide +kernel
theorem dL_law_252 : decode cL_law 252 = .ok (.iadd, 1) := by decide +kernel
theorem dL_law_253 : decode cL_law 253 = .ok (.iaload, 1) := by decide +kernel
theorem dL_law_254 : decode cL_law 254 = .ok (.invokevirtual 40, 3) := by decide +kernel
theorem dL_law_257 : decode cL_law 257 = .ok (.aload_n 2, 1) := by decide +kernel
theorem dL_law_258 : decode cL_law 258 = .ok (.aload_n 0, 1) := by decide +kernel
theorem dL_law_259 : decode cL_law 259 = .ok (.iload_n 3, 1) := by decide +kernel
theorem dL_law_260 : decode cL_law 260 = .ok (.iconst 1, 1) := by decide +kernel
theorem dL_law_261 : decode cL_law 261 = .ok (.iadd, 1) := by decide +kernel
theorem dL_law_262 : decode cL_law 262 = .ok (.iaload, 1) := by decide +kernel
theorem dL_law_263 : decode cL_law 263 = .ok (.invokevirtual 43, 3) := by decide +kernel
theorem dL_law_266 : decode cL_law 266 = .ok (.if_icmp .eq 248, 3) := by decide +kernel
theorem dL_law_269 : decode cL_law 269 = .ok (.iconst 0, 1) := by decide +kernel
theorem dL_law_270 : decode cL_law 270 = .ok (.ireturn, 1) := by decide +kernel
theorem dL_law_271 : decode cL_law 271 = .ok (.aload_n 1, 1) := by decide +kernel
theorem dL_law_272 : decode cL_law 272 = .ok (.aload_n 0, 1) := by decide +kernel
theorem dL_law_273 : decode cL_law 273 = .ok (.iload_n 3, 1) := by decide +kernel
theorem dL_law_274 : decode cL_law 274 = .ok (.iconst 1, 1) := by decide +kernel
theorem dL_law_275 : decode cL_law 275 = .ok (.iadd, 1) := by decide +kernel
theorem dL_law_276 : decode cL_law 276 = .ok (.iaload, 1) := by decide +kernel
theorem dL_law_277 : decode cL_law 277 = .ok (.invokevirtual 44, 3) := by decide +kernel
theorem dL_law_280 : decode cL_law 280 = .ok (.aload_n 2, 1) := by decide +kernel
theorem dL_law_281 : decode cL_law 281 = .ok (.aload_n 0, 1) := by decide +kernel
theorem dL_law_282 : decode cL_law 282 = .ok (.iload_n 3, 1) := by decide +kernel
theorem dL_law_283 : decode cL_law 283 = .ok (.iconst 1, 1) := by decide +kernel
theorem dL_law_284 : decode cL_law 284 = .ok (.iadd, 1) := by decide +kernel
theorem dL_law_285 : decode cL_law 285 = .ok (.iaload, 1) := by decide +kernel
theorem dL_law_286 : decode cL_law 286 = .ok (.invokevirtual 47, 3) := by decide +kernel
theorem dL_law_289 : decode cL_law 289 = .ok (.if_icmp .eq 225, 3) := by decide +kernel
theorem dL_law_292 : decode cL_law 292 = .ok (.iconst 0, 1) := by decide +kernel
theorem dL_law_293 : decode cL_law 293 = .ok (.ireturn, 1) := by decide +kernel
theorem dL_law_294 : decode cL_law 294 = .ok (.aload_n 1, 1) := by decide +kernel
theorem dL_law_295 : decode cL_law 295 = .ok (.aload_n 0, 1) := by decide +kernel
theorem dL_law_296 : decode cL_law 296 = .ok (.iload_n 3, 1) := by decide +kernel
theorem dL_law_297 : decode cL_law 297 = .ok (.iconst 1, 1) := by decide +kernel
theorem dL_law_298 : decode cL_law 298 = .ok (.iadd, 1) := by decide +kernel
theorem dL_law_299 : decode cL_law 299 = .ok (.iaload, 1) := by decide +kernel
theorem dL_law_300 : decode cL_law 300 = .ok (.invokevirtual 48, 3) := by decide +kernel
theorem dL_law_303 : decode cL_law 303 = .ok (.aload_n 2, 1) := by decide +kernel
theorem dL_law_304 : decode cL_law 304 = .ok (.aload_n 0, 1) := by decide +kernel
theorem dL_law_305 : decode cL_law 305 = .ok (.iload_n 3, 1) := by decide +kernel
theorem dL_law_306 : decode cL_law 306 = .ok (.iconst 1, 1) := by decide +kernel
theorem dL_law_307 : decode cL_law 307 = .ok (.iadd, 1) := by decide +kernel
theorem dL_law_308 : decode cL_law 308 = .ok (.iaload, 1) := by decide +kernel
theorem dL_law_309 : decode cL_law 309 = .ok (.invokevirtual 51, 3) := by decide +kernel
theorem dL_law_312 : decode cL_law 312 = .ok (.if_icmp .eq 202, 3) := by decide +kernel
theorem dL_law_315 : decode cL_law 315 = .ok (.iconst 0, 1) := by decide +kernel
theorem dL_law_316 : decode cL_law 316 = .ok (.ireturn, 1) := by decide +kernel
theorem dL_law_317 : decode cL_law 317 = .ok (.aload_n 1, 1) := by decide +kernel
theorem dL_law_318 : decode cL_law 318 = .ok (.aload_n 0, 1) := by decide +kernel
theorem dL_law_319 : decode cL_law 319 = .ok (.iload_n 3, 1) := by decide +kernel
theorem dL_law_320 : decode cL_law 320 = .ok (.iconst 1, 1) := by decide +kernel
theorem dL_law_321 : decode cL_law 321 = .ok (.iadd, 1) := by decide +kernel
theorem dL_law_322 : decode cL_law 322 = .ok (.iaload, 1) := by decide +kernel
theorem dL_law_323 : decode cL_law 323 = .ok (.aload_n 0, 1) := by decide +kernel
theorem dL_law_324 : decode cL_law 324 = .ok (.iload_n 3, 1) := by decide +kernel
theorem dL_law_325 : decode cL_law 325 = .ok (.iconst 2, 1) := by decide +kernel
theorem dL_law_326 : decode cL_law 326 = .ok (.iadd, 1) := by decide +kernel
theorem dL_law_327 : decode cL_law 327 = .ok (.iaload, 1) := by decide +kernel
theorem dL_law_328 : decode cL_law 328 = .ok (.invokevirtual 52, 3) := by decide +kernel
theorem dL_law_331 : decode cL_law 331 = .ok (.aload_n 2, 1) := by decide +kernel
theorem dL_law_332 : decode cL_law 332 = .ok (.aload_n 0, 1) := by decide +kernel
theorem dL_law_333 : decode cL_law 333 = .ok (.iload_n 3, 1) := by decide +kernel
theorem dL_law_334 : decode cL_law 334 = .ok (.iconst 1, 1) := by decide +kernel
theorem dL_law_335 : decode cL_law 335 = .ok (.iadd, 1) := by decide +kernel
theorem dL_law_336 : decode cL_law 336 = .ok (.iaload, 1) := by decide +kernel
theorem dL_law_337 : decode cL_law 337 = .ok (.aload_n 0, 1) := by decide +kernel
theorem dL_law_338 : decode cL_law 338 = .ok (.iload_n 3, 1) := by decide +kernel
theorem dL_law_339 : decode cL_law 339 = .ok (.iconst 2, 1) := by decide +kernel
theorem dL_law_340 : decode cL_law 340 = .ok (.iadd, 1) := by decide +kernel
theorem dL_law_341 : decode cL_law 341 = .ok (.iaload, 1) := by decide +kernel
theorem dL_law_342 : decode cL_law 342 = .ok (.invokevirtual 55, 3) := by decide +kernel
theorem dL_law_345 : decode cL_law 345 = .ok (.if_icmp .eq 169, 3) := by decide +kernel
theorem dL_law_348 : decode cL_law 348 = .ok (.iconst 0, 1) := by decide +kernel
theorem dL_law_349 : decode cL_law 349 = .ok (.ireturn, 1) := by decide +kernel
theorem dL_law_350 : decode cL_law 350 = .ok (.aload_n 1, 1) := by decide +kernel
theorem dL_law_351 : decode cL_law 351 = .ok (.aload_n 0, 1) := by decide +kernel
theorem dL_law_352 : decode cL_law 352 = .ok (.iload_n 3, 1) := by decide +kernel
theorem dL_law_353 : decode cL_law 353 = .ok (.iconst 1, 1) := by decide +kernel
theorem dL_law_354 : decode cL_law 354 = .ok (.iadd, 1) := by decide +kernel
theorem dL_law_355 : decode cL_law 355 = .ok (.iaload, 1) := by decide +kernel
theorem dL_law_356 : decode cL_law 356 = .ok (.aload_n 0, 1) := by decide +kernel
theorem dL_law_357 : decode cL_law 357 = .ok (.iload_n 3, 1) := by decide +kernel
theorem dL_law_358 : decode cL_law 358 = .ok (.iconst 2, 1) := by decide +kernel
theorem dL_law_359 : decode cL_law 359 = .ok (.iadd, 1) := by decide +kernel
theorem dL_law_360 : decode cL_law 360 = .ok (.iaload, 1) := by decide +kernel
theorem dL_law_361 : decode cL_law 361 = .ok (.invokevirtual 56, 3) := by decide +kernel
theorem dL_law_364 : decode cL_law 364 = .ok (.aload_n 2, 1) := by decide +kernel
theorem dL_law_365 : decode cL_law 365 = .ok (.aload_n 0, 1) := by decide +kernel
theorem dL_law_366 : decode cL_law 366 = .ok (.iload_n 3, 1) := by decide +kernel
theorem dL_law_367 : decode cL_law 367 = .ok (.iconst 1, 1) := by decide +kernel
theorem dL_law_368 : decode cL_law 368 = .ok (.iadd, 1) := by decide +kernel
theorem dL_law_369 : decode cL_law 369 = .ok (.iaload, 1) := by decide +kernel
theorem dL_law_370 : decode cL_law 370 = .ok (.aload_n 0, 1) := by decide +kernel
theorem dL_law_371 : decode cL_law 371 = .ok (.iload_n 3, 1) := by decide +kernel
theorem dL_law_372 : decode cL_law 372 = .ok (.iconst 2, 1) := by decide +kernel
theorem dL_law_373 : decode cL_law 373 = .ok (.iadd, 1) := by decide +kernel
theorem dL_law_374 : decode cL_law 374 = .ok (.iaload, 1) := by decide +kernel
theorem dL_law_375 : decode cL_law 375 = .ok (.invokevirtual 59, 3) := by decide +kernel
theorem dL_law_378 : decode cL_law 378 = .ok (.if_icmp .eq 136, 3) := by decide +kernel
theorem dL_law_381 : decode cL_law 381 = .ok (.iconst 0, 1) := by decide +kernel
theorem dL_law_382 : decode cL_law 382 = .ok (.ireturn, 1) := by decide +kernel
theorem dL_law_383 : decode cL_law 383 = .ok (.aload_n 1, 1) := by decide +kernel
theorem dL_law_384 : decode cL_law 384 = .ok (.aload_n 0, 1) := by decide +kernel
theorem dL_law_385 : decode cL_law 385 = .ok (.iload_n 3, 1) := by decide +kernel
theorem dL_law_386 : decode cL_law 386 = .ok (.iconst 1, 1) := by decide +kernel
theorem dL_law_387 : decode cL_law 387 = .ok (.iadd, 1) := by decide +kernel
theorem dL_law_388 : decode cL_law 388 = .ok (.iaload, 1) := by decide +kernel
theorem dL_law_389 : decode cL_law 389 = .ok (.invokevirtual 60, 3) := by decide +kernel
theorem dL_law_392 : decode cL_law 392 = .ok (.aload_n 2, 1) := by decide +kernel
theorem dL_law_393 : decode cL_law 393 = .ok (.aload_n 0, 1) := by decide +kernel
theorem dL_law_394 : decode cL_law 394 = .ok (.iload_n 3, 1) := by decide +kernel
theorem dL_law_395 : decode cL_law 395 = .ok (.iconst 1, 1) := by decide +kernel
theorem dL_law_396 : decode cL_law 396 = .ok (.iadd, 1) := by decide +kernel
theorem dL_law_397 : decode cL_law 397 = .ok (.iaload, 1) := by decide +kernel
theorem dL_law_398 : decode cL_law 398 = .ok (.invokevirtual 63, 3) := by decide +kernel
theorem dL_law_401 : decode cL_law 401 = .ok (.if_icmp .eq 113, 3) := by decide +kernel
theorem dL_law_404 : decode cL_law 404 = .ok (.iconst 0, 1) := by decide +kernel
theorem dL_law_405 : decode cL_law 405 = .ok (.ireturn, 1) := by decide +kernel
theorem dL_law_406 : decode cL_law 406 = .ok (.aload_n 1, 1) := by decide +kernel
theorem dL_law_407 : decode cL_law 407 = .ok (.aload_n 0, 1) := by decide +kernel
theorem dL_law_408 : decode cL_law 408 = .ok (.iload_n 3, 1) := by decide +kernel
theorem dL_law_409 : decode cL_law 409 = .ok (.iconst 1, 1) := by decide +kernel
theorem dL_law_410 : decode cL_law 410 = .ok (.iadd, 1) := by decide +kernel
theorem dL_law_411 : decode cL_law 411 = .ok (.iaload, 1) := by decide +kernel
theorem dL_law_412 : decode cL_law 412 = .ok (.invokevirtual 64, 3) := by decide +kernel
theorem dL_law_415 : decode cL_law 415 = .ok (.aload_n 2, 1) := by decide +kernel
theorem dL_law_416 : decode cL_law 416 = .ok (.aload_n 0, 1) := by decide +kernel
theorem dL_law_417 : decode cL_law 417 = .ok (.iload_n 3, 1) := by decide +kernel
theorem dL_law_418 : decode cL_law 418 = .ok (.iconst 1, 1) := by decide +kernel
theorem dL_law_419 : decode cL_law 419 = .ok (.iadd, 1) := by decide +kernel
theorem dL_law_420 : decode cL_law 420 = .ok (.iaload, 1) := by decide +kernel
theorem dL_law_421 : decode cL_law 421 = .ok (.invokevirtual 67, 3) := by decide +kernel
theorem dL_law_424 : decode cL_law 424 = .ok (.if_icmp .eq 90, 3) := by decide +kernel
theorem dL_law_427 : decode cL_law 427 = .ok (.iconst 0, 1) := by decide +kernel
theorem dL_law_428 : decode cL_law 428 = .ok (.ireturn, 1) := by decide +kernel
theorem dL_law_429 : decode cL_law 429 = .ok (.aload_n 1, 1) := by decide +kernel
theorem dL_law_430 : decode cL_law 430 = .ok (.invokevirtual 68, 3) := by decide +kernel
theorem dL_law_433 : decode cL_law 433 = .ok (.aload_n 2, 1) := by decide +kernel
theorem dL_law_434 : decode cL_law 434 = .ok (.invokevirtual 71, 3) := by decide +kernel
theorem dL_law_437 : decode cL_law 437 = .ok (.if_icmp .eq 77, 3) := by decide +kernel
theorem dL_law_440 : decode cL_law 440 = .ok (.iconst 0, 1) := by decide +kernel
theorem dL_law_441 : decode cL_law 441 = .ok (.ireturn, 1) := by decide +kernel
theorem dL_law_442 : decode cL_law 442 = .ok (.aload_n 1, 1) := by decide +kernel
theorem dL_law_443 : decode cL_law 443 = .ok (.aload_n 0, 1) := by decide +kernel
theorem dL_law_444 : decode cL_law 444 = .ok (.iload_n 3, 1) := by decide +kernel
theorem dL_law_445 : decode cL_law 445 = .ok (.iconst 1, 1) := by decide +kernel
theorem dL_law_446 : decode cL_law 446 = .ok (.iadd, 1) := by decide +kernel
theorem dL_law_447 : decode cL_law 447 = .ok (.iaload, 1) := by decide +kernel
theorem dL_law_448 : decode cL_law 448 = .ok (.invokevirtual 72, 3) := by decide +kernel
theorem dL_law_451 : decode cL_law 451 = .ok (.aload_n 2, 1) := by decide +kernel
theorem dL_law_452 : decode cL_law 452 = .ok (.aload_n 0, 1) := by decide +kernel
theorem dL_law_453 : decode cL_law 453 = .ok (.iload_n 3, 1) := by decide +kernel
theorem dL_law_454 : decode cL_law 454 = .ok (.iconst 1, 1) := by decide +kernel
theorem dL_law_455 : decode cL_law 455 = .ok (.iadd, 1) := by decide +kernel
theorem dL_law_456 : decode cL_law 456 = .ok (.iaload, 1) := by decide +kernel
theorem dL_law_457 : decode cL_law 457 = .ok (.invokevirtual 75, 3) := by decide +kernel
theorem dL_law_460 : decode cL_law 460 = .ok (.if_icmp .eq 54, 3) := by decide +kernel
theorem dL_law_463 : decode cL_law 463 = .ok (.iconst 0, 1) := by decide +kernel
theorem dL_law_464 : decode cL_law 464 = .ok (.ireturn, 1) := by decide +kernel
theorem dL_law_465 : decode cL_law 465 = .ok (.aload_n 1, 1) := by decide +kernel
theorem dL_law_466 : decode cL_law 466 = .ok (.invokevirtual 76, 3) := by decide +kernel
theorem dL_law_469 : decode cL_law 469 = .ok (.aload_n 2, 1) := by decide +kernel
theorem dL_law_470 : decode cL_law 470 = .ok (.invokevirtual 79, 3) := by decide +kernel
theorem dL_law_473 : decode cL_law 473 = .ok (.if_icmp .eq 41, 3) := by decide +kernel
theorem dL_law_476 : decode cL_law 476 = .ok (.iconst 0, 1) := by decide +kernel
theorem dL_law_477 : decode cL_law 477 = .ok (.ireturn, 1) := by decide +kernel
theorem dL_law_478 : decode cL_law 478 = .ok (.aload_n 1, 1) := by decide +kernel
theorem dL_law_479 : decode cL_law 479 = .ok (.aload_n 0, 1) := by decide +kernel
theorem dL_law_480 : decode cL_law 480 = .ok (.iload_n 3, 1) := by decide +kernel
theorem dL_law_481 : decode cL_law 481 = .ok (.iconst 1, 1) := by decide +kernel
theorem dL_law_482 : decode cL_law 482 = .ok (.iadd, 1) := by decide +kernel
theorem dL_law_483 : decode cL_law 483 = .ok (.iaload, 1) := by decide +kernel
theorem dL_law_484 : decode cL_law 484 = .ok (.invokevirtual 80, 3) := by decide +kernel
theorem dL_law_487 : decode cL_law 487 = .ok (.aload_n 2, 1) := by decide +kernel
theorem dL_law_488 : decode cL_law 488 = .ok (.aload_n 0, 1) := by decide +kernel
theorem dL_law_489 : decode cL_law 489 = .ok (.iload_n 3, 1) := by decide +kernel
theorem dL_law_490 : decode cL_law 490 = .ok (.iconst 1, 1) := by decide +kernel
theorem dL_law_491 : decode cL_law 491 = .ok (.iadd, 1) := by decide +kernel
theorem dL_law_492 : decode cL_law 492 = .ok (.iaload, 1) := by decide +kernel
theorem dL_law_493 : decode cL_law 493 = .ok (.invokevirtual 83, 3) := by decide +kernel
theorem dL_law_496 : decode cL_law 496 = .ok (.if_icmp .eq 18, 3) := by decide +kernel
theorem dL_law_499 : decode cL_law 499 = .ok (.iconst 0, 1) := by decide +kernel
theorem dL_law_500 : decode cL_law 500 = .ok (.ireturn, 1) := by decide +kernel
theorem dL_law_501 : decode cL_law 501 = .ok (.aload_n 1, 1) := by decide +kernel
theorem dL_law_502 : decode cL_law 502 = .ok (.invokevirtual 84, 3) := by decide +kernel
theorem dL_law_505 : decode cL_law 505 = .ok (.aload_n 2, 1) := by decide +kernel
theorem dL_law_506 : decode cL_law 506 = .ok (.invokevirtual 87, 3) := by decide +kernel
theorem dL_law_509 : decode cL_law 509 = .ok (.if_icmp .eq 5, 3) := by decide +kernel
theorem dL_law_512 : decode cL_law 512 = .ok (.iconst 0, 1) := by decide +kernel
theorem dL_law_513 : decode cL_law 513 = .ok (.ireturn, 1) := by decide +kernel
theorem dL_law_514 : decode cL_law 514 = .ok (.iinc 3 3, 3) := by decide +kernel
theorem dL_law_517 : decode cL_law 517 = .ok (.goto (-499), 3) := by decide +kernel
theorem dL_law_520 : decode cL_law 520 = .ok (.iconst 1, 1) := by decide +kernel
theorem dL_law_521 : decode cL_law 521 = .ok (.ireturn, 1) := by decide +kernel
abbrev vwCl : List vw_C := [(RX0, TX0, 2), (RX1, TX1, 6), (RX2, TX2, 7), (RX3, TX3, 5), (RX4, TX4, 6), (RX5, TX5, 4), (RX6, TX6, 6), (RX7, TX7, 3), (RX8, TX8, 7), (RX10, TX10, 8), (RX11, TX11, 27)]
/-- the objects of FallingWords$History, kind 0: what each holds, by its address -/
structure wK_O_History where
  f_states : Nat → Option Nat
  f_size : Nat → Int32
/-- the objects of FallingWords$Overlaps, kind 1: what each holds, by its address -/
structure wK_O_Overlaps where
  f_first : Nat → Int32
  f_second : Nat → Int32
  f_place : Nat → Int32
  f_word : Nat → Int32
  f_firstNormal : Nat → Int32
  f_secondNormal : Nat → Int32
/-- the objects of FallingWords$Reach, kind 2: what each holds, by its address -/
structure wK_O_Reach where
  f_words : Nat → Option Nat
  f_seats : Nat → Option Nat
  f_size : Nat → Int32
  f_tooMany : Nat → Int32
  f_ends : Nat → Int32
  f_firstEnd : Nat → Int32
  f_lastEnd : Nat → Int32
/-- the objects of FallingWords$Reduction, kind 3: what each holds, by its address -/
structure wK_O_Reduction where
  f_words : Nat → Option Nat
  f_rulesUsed : Nat → Option Nat
  f_outcome : Nat → Int32
  f_steps : Nat → Int32
  f_ringStart : Nat → Int32
/-- the objects of FallingWords$Rules, kind 4: what each holds, by its address -/
structure wK_O_Rules where
  f_left : Nat → Option Nat
  f_right : Nat → Option Nat
  f_leftLength : Nat → Option Nat
  f_rightLength : Nat → Option Nat
  f_times : Nat → Option Nat
  f_size : Nat → Int32
/-- the objects of FallingWords$Script, kind 5: what each holds, by its address -/
structure wK_O_Script where
  f_done : Nat → Int32
  f_position : Nat → Int32
  f_reason : Nat → Int32
  f_cause : Nat → Int32
/-- the objects of FallingWords$State, kind 6: what each holds, by its address -/
structure wK_O_State where
  f_rules : Nat → Option Nat
  f_store : Nat → Option Nat
  f_word : Nat → Int32
  f_choosing : Nat → Int32
  f_taken : Nat → Int32
  f_steps : Nat → Int32
/-- the objects of FallingWords$Store, kind 7: what each holds, by its address -/
structure wK_O_Store where
  f_words : Nat → Option Nat
  f_normals : Nat → Option Nat
  f_size : Nat → Int32
/-- the objects of FallingWords$Text, kind 8: what each holds, by its address -/
structure wK_O_Text where
  f_characters : Nat → Option Nat
  f_size : Nat → Int32
  f_at : Nat → Int32
  f_kind : Nat → Int32
  f_firstWord : Nat → Int32
  f_secondWord : Nat → Int32
  f_digit : Nat → Int32
/-- the objects of FallingWords, kind 9: what each holds, by its address -/
structure wK_O_FallingWords where
  f_now : Nat → Option Nat
  f_trial : Nat → Option Nat
  f_history : Nat → Option Nat
  f_reduction : Nat → Option Nat
  f_reach : Nat → Option Nat
  f_overlaps : Nat → Option Nat
  f_text : Nat → Option Nat
  f_script : Nat → Option Nat
/-- the objects of FallingWordsModel, kind 10: what each holds, by its address -/
structure wK_O_FallingWordsModel where
  f_s : Nat → Option Nat
  f_was : Nat → Option Nat
  f_begun : Nat → Option Nat
  f_aside : Nat → Option Nat
  f_states : Nat → Int32
  f_text : Nat → Option Nat
  f_typed : Nat → Int32
  f_at : Nat → Int32
  f_reason : Nat → Int32
  f_cause : Nat → Int32
  f_read : Nat → Int32
  f_readLength : Nat → Int32
  f_chosenRule : Nat → Int32
  f_chosenPlace : Nat → Int32
  f_row : Nat → Option Nat
  f_rowRule : Nat → Option Nat
  f_rowSteps : Nat → Int32
  f_ringFrom : Nat → Int32
  f_found : Nat → Option Nat
  f_many : Nat → Int32
  f_oneRule : Nat → Int32
  f_otherRule : Nat → Int32
  f_overlapPlace : Nat → Int32
  f_oneWord : Nat → Int32
  f_otherWord : Nat → Int32
  f_oneNormal : Nat → Int32
  f_otherNormal : Nat → Int32
/-- the arrays of kind 11: what each holds, by its address -/
structure wK_R_C where
  len : Nat → Nat
  row : Nat → Nat → Int32
/-- the arrays of kind 12: what each holds, by its address -/
structure wK_R_I where
  len : Nat → Nat
  row : Nat → Nat → Int32
/-- the arrays of kind 13: what each holds, by its address -/
structure wK_R_State where
  len : Nat → Nat
  row : Nat → Nat → Option Nat
/-- the pool: the addresses, the kind of each, and the kinds -/
structure wPS where
  L : List Nat
  K : Nat → Nat
  O_History : wK_O_History
  O_Overlaps : wK_O_Overlaps
  O_Reach : wK_O_Reach
  O_Reduction : wK_O_Reduction
  O_Rules : wK_O_Rules
  O_Script : wK_O_Script
  O_State : wK_O_State
  O_Store : wK_O_Store
  O_Text : wK_O_Text
  O_FallingWords : wK_O_FallingWords
  O_FallingWordsModel : wK_O_FallingWordsModel
  R_C : wK_R_C
  R_I : wK_R_I
  R_State : wK_R_State
/-- the empty pool -/
abbrev wP0 : wPS := { L := [], K := (fun _ => 0), O_History := { f_states := (fun _ => none), f_size := (fun _ => 0) }, O_Overlaps := { f_first := (fun _ => 0), f_second := (fun _ => 0), f_place := (fun _ => 0), f_word := (fun _ => 0), f_firstNormal := (fun _ => 0), f_secondNormal := (fun _ => 0) }, O_Reach := { f_words := (fun _ => none), f_seats := (fun _ => none), f_size := (fun _ => 0), f_tooMany := (fun _ => 0), f_ends := (fun _ => 0), f_firstEnd := (fun _ => 0), f_lastEnd := (fun _ => 0) }, O_Reduction := { f_words := (fun _ => none), f_rulesUsed := (fun _ => none), f_outcome := (fun _ => 0), f_steps := (fun _ => 0), f_ringStart := (fun _ => 0) }, O_Rules := { f_left := (fun _ => none), f_right := (fun _ => none), f_leftLength := (fun _ => none), f_rightLength := (fun _ => none), f_times := (fun _ => none), f_size := (fun _ => 0) }, O_Script := { f_done := (fun _ => 0), f_position := (fun _ => 0), f_reason := (fun _ => 0), f_cause := (fun _ => 0) }, O_State := { f_rules := (fun _ => none), f_store := (fun _ => none), f_word := (fun _ => 0), f_choosing := (fun _ => 0), f_taken := (fun _ => 0), f_steps := (fun _ => 0) }, O_Store := { f_words := (fun _ => none), f_normals := (fun _ => none), f_size := (fun _ => 0) }, O_Text := { f_characters := (fun _ => none), f_size := (fun _ => 0), f_at := (fun _ => 0), f_kind := (fun _ => 0), f_firstWord := (fun _ => 0), f_secondWord := (fun _ => 0), f_digit := (fun _ => 0) }, O_FallingWords := { f_now := (fun _ => none), f_trial := (fun _ => none), f_history := (fun _ => none), f_reduction := (fun _ => none), f_reach := (fun _ => none), f_overlaps := (fun _ => none), f_text := (fun _ => none), f_script := (fun _ => none) }, O_FallingWordsModel := { f_s := (fun _ => none), f_was := (fun _ => none), f_begun := (fun _ => none), f_aside := (fun _ => none), f_states := (fun _ => 0), f_text := (fun _ => none), f_typed := (fun _ => 0), f_at := (fun _ => 0), f_reason := (fun _ => 0), f_cause := (fun _ => 0), f_read := (fun _ => 0), f_readLength := (fun _ => 0), f_chosenRule := (fun _ => 0), f_chosenPlace := (fun _ => 0), f_row := (fun _ => none), f_rowRule := (fun _ => none), f_rowSteps := (fun _ => 0), f_ringFrom := (fun _ => 0), f_found := (fun _ => none), f_many := (fun _ => 0), f_oneRule := (fun _ => 0), f_otherRule := (fun _ => 0), f_overlapPlace := (fun _ => 0), f_oneWord := (fun _ => 0), f_otherWord := (fun _ => 0), f_oneNormal := (fun _ => 0), f_otherNormal := (fun _ => 0) }, R_C := { len := (fun _ => 0), row := (fun _ _ => 0) }, R_I := { len := (fun _ => 0), row := (fun _ _ => 0) }, R_State := { len := (fun _ => 0), row := (fun _ _ => none) } }
/-- the pool's rows by their kinds -/
abbrev wPF (cyC : ClassId) (cyI : ClassId) (cyO4fe54 : ClassId) (S : wPS) : Nat → va_E := fun a => if S.K a = 0 then .inr (0, [va_rf (S.O_History.f_states a), .int (S.O_History.f_size a)]) else if S.K a = 1 then .inr (1, [.int (S.O_Overlaps.f_first a), .int (S.O_Overlaps.f_second a), .int (S.O_Overlaps.f_place a), .int (S.O_Overlaps.f_word a), .int (S.O_Overlaps.f_firstNormal a), .int (S.O_Overlaps.f_secondNormal a)]) else if S.K a = 2 then .inr (2, [va_rf (S.O_Reach.f_words a), va_rf (S.O_Reach.f_seats a), .int (S.O_Reach.f_size a), .int (S.O_Reach.f_tooMany a), .int (S.O_Reach.f_ends a), .int (S.O_Reach.f_firstEnd a), .int (S.O_Reach.f_lastEnd a)]) else if S.K a = 3 then .inr (3, [va_rf (S.O_Reduction.f_words a), va_rf (S.O_Reduction.f_rulesUsed a), .int (S.O_Reduction.f_outcome a), .int (S.O_Reduction.f_steps a), .int (S.O_Reduction.f_ringStart a)]) else if S.K a = 4 then .inr (4, [va_rf (S.O_Rules.f_left a), va_rf (S.O_Rules.f_right a), va_rf (S.O_Rules.f_leftLength a), va_rf (S.O_Rules.f_rightLength a), va_rf (S.O_Rules.f_times a), .int (S.O_Rules.f_size a)]) else if S.K a = 5 then .inr (5, [.int (S.O_Script.f_done a), .int (S.O_Script.f_position a), .int (S.O_Script.f_reason a), .int (S.O_Script.f_cause a)]) else if S.K a = 6 then .inr (6, [va_rf (S.O_State.f_rules a), va_rf (S.O_State.f_store a), .int (S.O_State.f_word a), .int (S.O_State.f_choosing a), .int (S.O_State.f_taken a), .int (S.O_State.f_steps a)]) else if S.K a = 7 then .inr (7, [va_rf (S.O_Store.f_words a), va_rf (S.O_Store.f_normals a), .int (S.O_Store.f_size a)]) else if S.K a = 8 then .inr (8, [va_rf (S.O_Text.f_characters a), .int (S.O_Text.f_size a), .int (S.O_Text.f_at a), .int (S.O_Text.f_kind a), .int (S.O_Text.f_firstWord a), .int (S.O_Text.f_secondWord a), .int (S.O_Text.f_digit a)]) else if S.K a = 9 then .inr (9, [va_rf (S.O_FallingWords.f_now a), va_rf (S.O_FallingWords.f_trial a), va_rf (S.O_FallingWords.f_history a), va_rf (S.O_FallingWords.f_reduction a), va_rf (S.O_FallingWords.f_reach a), va_rf (S.O_FallingWords.f_overlaps a), va_rf (S.O_FallingWords.f_text a), va_rf (S.O_FallingWords.f_script a)]) else if S.K a = 10 then .inr (10, [va_rf (S.O_FallingWordsModel.f_s a), va_rf (S.O_FallingWordsModel.f_was a), va_rf (S.O_FallingWordsModel.f_begun a), va_rf (S.O_FallingWordsModel.f_aside a), .int (S.O_FallingWordsModel.f_states a), va_rf (S.O_FallingWordsModel.f_text a), .int (S.O_FallingWordsModel.f_typed a), .int (S.O_FallingWordsModel.f_at a), .int (S.O_FallingWordsModel.f_reason a), .int (S.O_FallingWordsModel.f_cause a), .int (S.O_FallingWordsModel.f_read a), .int (S.O_FallingWordsModel.f_readLength a), .int (S.O_FallingWordsModel.f_chosenRule a), .int (S.O_FallingWordsModel.f_chosenPlace a), va_rf (S.O_FallingWordsModel.f_row a), va_rf (S.O_FallingWordsModel.f_rowRule a), .int (S.O_FallingWordsModel.f_rowSteps a), .int (S.O_FallingWordsModel.f_ringFrom a), va_rf (S.O_FallingWordsModel.f_found a), .int (S.O_FallingWordsModel.f_many a), .int (S.O_FallingWordsModel.f_oneRule a), .int (S.O_FallingWordsModel.f_otherRule a), .int (S.O_FallingWordsModel.f_overlapPlace a), .int (S.O_FallingWordsModel.f_oneWord a), .int (S.O_FallingWordsModel.f_otherWord a), .int (S.O_FallingWordsModel.f_oneNormal a), .int (S.O_FallingWordsModel.f_otherNormal a)]) else if S.K a = 11 then .inl (cyC, S.R_C.len a, .inl (S.R_C.row a)) else if S.K a = 12 then .inl (cyI, S.R_I.len a, .inl (S.R_I.row a)) else .inl (cyO4fe54, S.R_State.len a, .inr (.inr (.inr (.inr (S.R_State.row a)))))
theorem wAt_O_History (cyC : ClassId) (cyI : ClassId) (cyO4fe54 : ClassId) (S : wPS) {a : Nat} (h : S.K a = 0) : wPF cyC cyI cyO4fe54 S a = .inr (0, [va_rf (S.O_History.f_states a), .int (S.O_History.f_size a)]) := by simp [wPF, h]
theorem wGt_O_History (cyC : ClassId) (cyI : ClassId) (cyO4fe54 : ClassId) (X : va_W) (S : wPS) {a : Nat} (hL : a ∈ S.L) (h : S.K a = 0) : ∃ k : Nat, (X ++ va_pl S.L (wPF cyC cyI cyO4fe54 S))[k]? = some (a, wPF cyC cyI cyO4fe54 S a) ∧ (X ++ va_pl S.L (wPF cyC cyI cyO4fe54 S))[k]? = some (a, .inr (0, [va_rf (S.O_History.f_states a), .int (S.O_History.f_size a)])) := by
  obtain ⟨k, hk⟩ := va_pl_get (X := X) (f := wPF cyC cyI cyO4fe54 S) hL
  exact ⟨k, hk, hk.trans (congrArg (fun e => some (a, e)) (wAt_O_History cyC cyI cyO4fe54 S h))⟩
theorem wSt_O_History_f_states (cyC : ClassId) (cyI : ClassId) (cyO4fe54 : ClassId) (S : wPS) {a : Nat} (h : S.K a = 0) (v : Option Nat) (b : Nat) : va_up (wPF cyC cyI cyO4fe54 S) a (.inr (0, [va_rf v, .int (S.O_History.f_size a)])) b = wPF cyC cyI cyO4fe54 { S with O_History := { S.O_History with f_states := va_up S.O_History.f_states a v } } b := by by_cases hb : b = a <;> first | (simp only [wPF, va_up_ne _ _ hb]; done) | (simp only [wPF, va_up, if_neg hb]; done) | simp [wPF, va_re, va_up, va_rf, hb, h]
theorem wPu_O_History_f_states (cyC : ClassId) (cyI : ClassId) (cyO4fe54 : ClassId) (X : va_W) (S : wPS) {A : Nat → Prop} {a k : Nat} (hD : va_D A (X ++ va_pl S.L (wPF cyC cyI cyO4fe54 S))) (hL : a ∈ S.L) (h : S.K a = 0) (hk : (X ++ va_pl S.L (wPF cyC cyI cyO4fe54 S))[k]? = some (a, wPF cyC cyI cyO4fe54 S a)) (v : Option Nat) : (X ++ va_pl S.L (wPF cyC cyI cyO4fe54 S)).set k (a, .inr (0, [va_rf v, .int (S.O_History.f_size a)])) = X ++ va_pl S.L (wPF cyC cyI cyO4fe54 { S with O_History := { S.O_History with f_states := va_up S.O_History.f_states a v } }) := by
  rw [va_pl_set hD hL hk]
  exact congrArg (fun l => X ++ l) (va_pl_congr (wSt_O_History_f_states cyC cyI cyO4fe54 S h v))
theorem wSt_O_History_f_size (cyC : ClassId) (cyI : ClassId) (cyO4fe54 : ClassId) (S : wPS) {a : Nat} (h : S.K a = 0) (v : Int32) (b : Nat) : va_up (wPF cyC cyI cyO4fe54 S) a (.inr (0, [va_rf (S.O_History.f_states a), .int v])) b = wPF cyC cyI cyO4fe54 { S with O_History := { S.O_History with f_size := va_up S.O_History.f_size a v } } b := by by_cases hb : b = a <;> first | (simp only [wPF, va_up_ne _ _ hb]; done) | (simp only [wPF, va_up, if_neg hb]; done) | simp [wPF, va_re, va_up, va_rf, hb, h]
theorem wPu_O_History_f_size (cyC : ClassId) (cyI : ClassId) (cyO4fe54 : ClassId) (X : va_W) (S : wPS) {A : Nat → Prop} {a k : Nat} (hD : va_D A (X ++ va_pl S.L (wPF cyC cyI cyO4fe54 S))) (hL : a ∈ S.L) (h : S.K a = 0) (hk : (X ++ va_pl S.L (wPF cyC cyI cyO4fe54 S))[k]? = some (a, wPF cyC cyI cyO4fe54 S a)) (v : Int32) : (X ++ va_pl S.L (wPF cyC cyI cyO4fe54 S)).set k (a, .inr (0, [va_rf (S.O_History.f_states a), .int v])) = X ++ va_pl S.L (wPF cyC cyI cyO4fe54 { S with O_History := { S.O_History with f_size := va_up S.O_History.f_size a v } }) := by
  rw [va_pl_set hD hL hk]
  exact congrArg (fun l => X ++ l) (va_pl_congr (wSt_O_History_f_size cyC cyI cyO4fe54 S h v))
theorem wNw_O_History (cyC : ClassId) (cyI : ClassId) (cyO4fe54 : ClassId) (S : wPS) (a b : Nat) : va_up (wPF cyC cyI cyO4fe54 S) a (.inr (0, [.null, .int 0])) b = wPF cyC cyI cyO4fe54 { S with L := S.L ++ [a], K := va_up S.K a 0, O_History := { f_states := va_up S.O_History.f_states a none, f_size := va_up S.O_History.f_size a 0 } } b := by by_cases hb : b = a <;> first | (simp only [wPF, va_up_ne _ _ hb]; done) | (simp only [wPF, va_up, if_neg hb]; done) | simp [wPF, va_re, va_up, va_rf, hb]
theorem wPn_O_History (cyC : ClassId) (cyI : ClassId) (cyO4fe54 : ClassId) (X : va_W) (S : wPS) {a : Nat} (ha : a ∉ S.L) : (X ++ va_pl S.L (wPF cyC cyI cyO4fe54 S)) ++ [(a, .inr (0, [.null, .int 0]))] = X ++ va_pl (S.L ++ [a]) (wPF cyC cyI cyO4fe54 { S with L := S.L ++ [a], K := va_up S.K a 0, O_History := { f_states := va_up S.O_History.f_states a none, f_size := va_up S.O_History.f_size a 0 } }) := by
  rw [List.append_assoc, va_pl_push ha]
  exact congrArg (fun l => X ++ l) (va_pl_congr (wNw_O_History cyC cyI cyO4fe54 S a))
theorem wAt_O_Overlaps (cyC : ClassId) (cyI : ClassId) (cyO4fe54 : ClassId) (S : wPS) {a : Nat} (h : S.K a = 1) : wPF cyC cyI cyO4fe54 S a = .inr (1, [.int (S.O_Overlaps.f_first a), .int (S.O_Overlaps.f_second a), .int (S.O_Overlaps.f_place a), .int (S.O_Overlaps.f_word a), .int (S.O_Overlaps.f_firstNormal a), .int (S.O_Overlaps.f_secondNormal a)]) := by simp [wPF, h]
theorem wGt_O_Overlaps (cyC : ClassId) (cyI : ClassId) (cyO4fe54 : ClassId) (X : va_W) (S : wPS) {a : Nat} (hL : a ∈ S.L) (h : S.K a = 1) : ∃ k : Nat, (X ++ va_pl S.L (wPF cyC cyI cyO4fe54 S))[k]? = some (a, wPF cyC cyI cyO4fe54 S a) ∧ (X ++ va_pl S.L (wPF cyC cyI cyO4fe54 S))[k]? = some (a, .inr (1, [.int (S.O_Overlaps.f_first a), .int (S.O_Overlaps.f_second a), .int (S.O_Overlaps.f_place a), .int (S.O_Overlaps.f_word a), .int (S.O_Overlaps.f_firstNormal a), .int (S.O_Overlaps.f_secondNormal a)])) := by
  obtain ⟨k, hk⟩ := va_pl_get (X := X) (f := wPF cyC cyI cyO4fe54 S) hL
  exact ⟨k, hk, hk.trans (congrArg (fun e => some (a, e)) (wAt_O_Overlaps cyC cyI cyO4fe54 S h))⟩
theorem wSt_O_Overlaps_f_first (cyC : ClassId) (cyI : ClassId) (cyO4fe54 : ClassId) (S : wPS) {a : Nat} (h : S.K a = 1) (v : Int32) (b : Nat) : va_up (wPF cyC cyI cyO4fe54 S) a (.inr (1, [.int v, .int (S.O_Overlaps.f_second a), .int (S.O_Overlaps.f_place a), .int (S.O_Overlaps.f_word a), .int (S.O_Overlaps.f_firstNormal a), .int (S.O_Overlaps.f_secondNormal a)])) b = wPF cyC cyI cyO4fe54 { S with O_Overlaps := { S.O_Overlaps with f_first := va_up S.O_Overlaps.f_first a v } } b := by by_cases hb : b = a <;> first | (simp only [wPF, va_up_ne _ _ hb]; done) | (simp only [wPF, va_up, if_neg hb]; done) | simp [wPF, va_re, va_up, va_rf, hb, h]
theorem wPu_O_Overlaps_f_first (cyC : ClassId) (cyI : ClassId) (cyO4fe54 : ClassId) (X : va_W) (S : wPS) {A : Nat → Prop} {a k : Nat} (hD : va_D A (X ++ va_pl S.L (wPF cyC cyI cyO4fe54 S))) (hL : a ∈ S.L) (h : S.K a = 1) (hk : (X ++ va_pl S.L (wPF cyC cyI cyO4fe54 S))[k]? = some (a, wPF cyC cyI cyO4fe54 S a)) (v : Int32) : (X ++ va_pl S.L (wPF cyC cyI cyO4fe54 S)).set k (a, .inr (1, [.int v, .int (S.O_Overlaps.f_second a), .int (S.O_Overlaps.f_place a), .int (S.O_Overlaps.f_word a), .int (S.O_Overlaps.f_firstNormal a), .int (S.O_Overlaps.f_secondNormal a)])) = X ++ va_pl S.L (wPF cyC cyI cyO4fe54 { S with O_Overlaps := { S.O_Overlaps with f_first := va_up S.O_Overlaps.f_first a v } }) := by
  rw [va_pl_set hD hL hk]
  exact congrArg (fun l => X ++ l) (va_pl_congr (wSt_O_Overlaps_f_first cyC cyI cyO4fe54 S h v))
theorem wSt_O_Overlaps_f_second (cyC : ClassId) (cyI : ClassId) (cyO4fe54 : ClassId) (S : wPS) {a : Nat} (h : S.K a = 1) (v : Int32) (b : Nat) : va_up (wPF cyC cyI cyO4fe54 S) a (.inr (1, [.int (S.O_Overlaps.f_first a), .int v, .int (S.O_Overlaps.f_place a), .int (S.O_Overlaps.f_word a), .int (S.O_Overlaps.f_firstNormal a), .int (S.O_Overlaps.f_secondNormal a)])) b = wPF cyC cyI cyO4fe54 { S with O_Overlaps := { S.O_Overlaps with f_second := va_up S.O_Overlaps.f_second a v } } b := by by_cases hb : b = a <;> first | (simp only [wPF, va_up_ne _ _ hb]; done) | (simp only [wPF, va_up, if_neg hb]; done) | simp [wPF, va_re, va_up, va_rf, hb, h]
theorem wPu_O_Overlaps_f_second (cyC : ClassId) (cyI : ClassId) (cyO4fe54 : ClassId) (X : va_W) (S : wPS) {A : Nat → Prop} {a k : Nat} (hD : va_D A (X ++ va_pl S.L (wPF cyC cyI cyO4fe54 S))) (hL : a ∈ S.L) (h : S.K a = 1) (hk : (X ++ va_pl S.L (wPF cyC cyI cyO4fe54 S))[k]? = some (a, wPF cyC cyI cyO4fe54 S a)) (v : Int32) : (X ++ va_pl S.L (wPF cyC cyI cyO4fe54 S)).set k (a, .inr (1, [.int (S.O_Overlaps.f_first a), .int v, .int (S.O_Overlaps.f_place a), .int (S.O_Overlaps.f_word a), .int (S.O_Overlaps.f_firstNormal a), .int (S.O_Overlaps.f_secondNormal a)])) = X ++ va_pl S.L (wPF cyC cyI cyO4fe54 { S with O_Overlaps := { S.O_Overlaps with f_second := va_up S.O_Overlaps.f_second a v } }) := by
  rw [va_pl_set hD hL hk]
  exact congrArg (fun l => X ++ l) (va_pl_congr (wSt_O_Overlaps_f_second cyC cyI cyO4fe54 S h v))
theorem wSt_O_Overlaps_f_place (cyC : ClassId) (cyI : ClassId) (cyO4fe54 : ClassId) (S : wPS) {a : Nat} (h : S.K a = 1) (v : Int32) (b : Nat) : va_up (wPF cyC cyI cyO4fe54 S) a (.inr (1, [.int (S.O_Overlaps.f_first a), .int (S.O_Overlaps.f_second a), .int v, .int (S.O_Overlaps.f_word a), .int (S.O_Overlaps.f_firstNormal a), .int (S.O_Overlaps.f_secondNormal a)])) b = wPF cyC cyI cyO4fe54 { S with O_Overlaps := { S.O_Overlaps with f_place := va_up S.O_Overlaps.f_place a v } } b := by by_cases hb : b = a <;> first | (simp only [wPF, va_up_ne _ _ hb]; done) | (simp only [wPF, va_up, if_neg hb]; done) | simp [wPF, va_re, va_up, va_rf, hb, h]
theorem wPu_O_Overlaps_f_place (cyC : ClassId) (cyI : ClassId) (cyO4fe54 : ClassId) (X : va_W) (S : wPS) {A : Nat → Prop} {a k : Nat} (hD : va_D A (X ++ va_pl S.L (wPF cyC cyI cyO4fe54 S))) (hL : a ∈ S.L) (h : S.K a = 1) (hk : (X ++ va_pl S.L (wPF cyC cyI cyO4fe54 S))[k]? = some (a, wPF cyC cyI cyO4fe54 S a)) (v : Int32) : (X ++ va_pl S.L (wPF cyC cyI cyO4fe54 S)).set k (a, .inr (1, [.int (S.O_Overlaps.f_first a), .int (S.O_Overlaps.f_second a), .int v, .int (S.O_Overlaps.f_word a), .int (S.O_Overlaps.f_firstNormal a), .int (S.O_Overlaps.f_secondNormal a)])) = X ++ va_pl S.L (wPF cyC cyI cyO4fe54 { S with O_Overlaps := { S.O_Overlaps with f_place := va_up S.O_Overlaps.f_place a v } }) := by
  rw [va_pl_set hD hL hk]
  exact congrArg (fun l => X ++ l) (va_pl_congr (wSt_O_Overlaps_f_place cyC cyI cyO4fe54 S h v))
theorem wSt_O_Overlaps_f_word (cyC : ClassId) (cyI : ClassId) (cyO4fe54 : ClassId) (S : wPS) {a : Nat} (h : S.K a = 1) (v : Int32) (b : Nat) : va_up (wPF cyC cyI cyO4fe54 S) a (.inr (1, [.int (S.O_Overlaps.f_first a), .int (S.O_Overlaps.f_second a), .int (S.O_Overlaps.f_place a), .int v, .int (S.O_Overlaps.f_firstNormal a), .int (S.O_Overlaps.f_secondNormal a)])) b = wPF cyC cyI cyO4fe54 { S with O_Overlaps := { S.O_Overlaps with f_word := va_up S.O_Overlaps.f_word a v } } b := by by_cases hb : b = a <;> first | (simp only [wPF, va_up_ne _ _ hb]; done) | (simp only [wPF, va_up, if_neg hb]; done) | simp [wPF, va_re, va_up, va_rf, hb, h]
theorem wPu_O_Overlaps_f_word (cyC : ClassId) (cyI : ClassId) (cyO4fe54 : ClassId) (X : va_W) (S : wPS) {A : Nat → Prop} {a k : Nat} (hD : va_D A (X ++ va_pl S.L (wPF cyC cyI cyO4fe54 S))) (hL : a ∈ S.L) (h : S.K a = 1) (hk : (X ++ va_pl S.L (wPF cyC cyI cyO4fe54 S))[k]? = some (a, wPF cyC cyI cyO4fe54 S a)) (v : Int32) : (X ++ va_pl S.L (wPF cyC cyI cyO4fe54 S)).set k (a, .inr (1, [.int (S.O_Overlaps.f_first a), .int (S.O_Overlaps.f_second a), .int (S.O_Overlaps.f_place a), .int v, .int (S.O_Overlaps.f_firstNormal a), .int (S.O_Overlaps.f_secondNormal a)])) = X ++ va_pl S.L (wPF cyC cyI cyO4fe54 { S with O_Overlaps := { S.O_Overlaps with f_word := va_up S.O_Overlaps.f_word a v } }) := by
  rw [va_pl_set hD hL hk]
  exact congrArg (fun l => X ++ l) (va_pl_congr (wSt_O_Overlaps_f_word cyC cyI cyO4fe54 S h v))
theorem wSt_O_Overlaps_f_firstNormal (cyC : ClassId) (cyI : ClassId) (cyO4fe54 : ClassId) (S : wPS) {a : Nat} (h : S.K a = 1) (v : Int32) (b : Nat) : va_up (wPF cyC cyI cyO4fe54 S) a (.inr (1, [.int (S.O_Overlaps.f_first a), .int (S.O_Overlaps.f_second a), .int (S.O_Overlaps.f_place a), .int (S.O_Overlaps.f_word a), .int v, .int (S.O_Overlaps.f_secondNormal a)])) b = wPF cyC cyI cyO4fe54 { S with O_Overlaps := { S.O_Overlaps with f_firstNormal := va_up S.O_Overlaps.f_firstNormal a v } } b := by by_cases hb : b = a <;> first | (simp only [wPF, va_up_ne _ _ hb]; done) | (simp only [wPF, va_up, if_neg hb]; done) | simp [wPF, va_re, va_up, va_rf, hb, h]
theorem wPu_O_Overlaps_f_firstNormal (cyC : ClassId) (cyI : ClassId) (cyO4fe54 : ClassId) (X : va_W) (S : wPS) {A : Nat → Prop} {a k : Nat} (hD : va_D A (X ++ va_pl S.L (wPF cyC cyI cyO4fe54 S))) (hL : a ∈ S.L) (h : S.K a = 1) (hk : (X ++ va_pl S.L (wPF cyC cyI cyO4fe54 S))[k]? = some (a, wPF cyC cyI cyO4fe54 S a)) (v : Int32) : (X ++ va_pl S.L (wPF cyC cyI cyO4fe54 S)).set k (a, .inr (1, [.int (S.O_Overlaps.f_first a), .int (S.O_Overlaps.f_second a), .int (S.O_Overlaps.f_place a), .int (S.O_Overlaps.f_word a), .int v, .int (S.O_Overlaps.f_secondNormal a)])) = X ++ va_pl S.L (wPF cyC cyI cyO4fe54 { S with O_Overlaps := { S.O_Overlaps with f_firstNormal := va_up S.O_Overlaps.f_firstNormal a v } }) := by
  rw [va_pl_set hD hL hk]
  exact congrArg (fun l => X ++ l) (va_pl_congr (wSt_O_Overlaps_f_firstNormal cyC cyI cyO4fe54 S h v))
theorem wSt_O_Overlaps_f_secondNormal (cyC : ClassId) (cyI : ClassId) (cyO4fe54 : ClassId) (S : wPS) {a : Nat} (h : S.K a = 1) (v : Int32) (b : Nat) : va_up (wPF cyC cyI cyO4fe54 S) a (.inr (1, [.int (S.O_Overlaps.f_first a), .int (S.O_Overlaps.f_second a), .int (S.O_Overlaps.f_place a), .int (S.O_Overlaps.f_word a), .int (S.O_Overlaps.f_firstNormal a), .int v])) b = wPF cyC cyI cyO4fe54 { S with O_Overlaps := { S.O_Overlaps with f_secondNormal := va_up S.O_Overlaps.f_secondNormal a v } } b := by by_cases hb : b = a <;> first | (simp only [wPF, va_up_ne _ _ hb]; done) | (simp only [wPF, va_up, if_neg hb]; done) | simp [wPF, va_re, va_up, va_rf, hb, h]
theorem wPu_O_Overlaps_f_secondNormal (cyC : ClassId) (cyI : ClassId) (cyO4fe54 : ClassId) (X : va_W) (S : wPS) {A : Nat → Prop} {a k : Nat} (hD : va_D A (X ++ va_pl S.L (wPF cyC cyI cyO4fe54 S))) (hL : a ∈ S.L) (h : S.K a = 1) (hk : (X ++ va_pl S.L (wPF cyC cyI cyO4fe54 S))[k]? = some (a, wPF cyC cyI cyO4fe54 S a)) (v : Int32) : (X ++ va_pl S.L (wPF cyC cyI cyO4fe54 S)).set k (a, .inr (1, [.int (S.O_Overlaps.f_first a), .int (S.O_Overlaps.f_second a), .int (S.O_Overlaps.f_place a), .int (S.O_Overlaps.f_word a), .int (S.O_Overlaps.f_firstNormal a), .int v])) = X ++ va_pl S.L (wPF cyC cyI cyO4fe54 { S with O_Overlaps := { S.O_Overlaps with f_secondNormal := va_up S.O_Overlaps.f_secondNormal a v } }) := by
  rw [va_pl_set hD hL hk]
  exact congrArg (fun l => X ++ l) (va_pl_congr (wSt_O_Overlaps_f_secondNormal cyC cyI cyO4fe54 S h v))
theorem wNw_O_Overlaps (cyC : ClassId) (cyI : ClassId) (cyO4fe54 : ClassId) (S : wPS) (a b : Nat) : va_up (wPF cyC cyI cyO4fe54 S) a (.inr (1, [.int 0, .int 0, .int 0, .int 0, .int 0, .int 0])) b = wPF cyC cyI cyO4fe54 { S with L := S.L ++ [a], K := va_up S.K a 1, O_Overlaps := { f_first := va_up S.O_Overlaps.f_first a 0, f_second := va_up S.O_Overlaps.f_second a 0, f_place := va_up S.O_Overlaps.f_place a 0, f_word := va_up S.O_Overlaps.f_word a 0, f_firstNormal := va_up S.O_Overlaps.f_firstNormal a 0, f_secondNormal := va_up S.O_Overlaps.f_secondNormal a 0 } } b := by by_cases hb : b = a <;> first | (simp only [wPF, va_up_ne _ _ hb]; done) | (simp only [wPF, va_up, if_neg hb]; done) | simp [wPF, va_re, va_up, va_rf, hb]
theorem wPn_O_Overlaps (cyC : ClassId) (cyI : ClassId) (cyO4fe54 : ClassId) (X : va_W) (S : wPS) {a : Nat} (ha : a ∉ S.L) : (X ++ va_pl S.L (wPF cyC cyI cyO4fe54 S)) ++ [(a, .inr (1, [.int 0, .int 0, .int 0, .int 0, .int 0, .int 0]))] = X ++ va_pl (S.L ++ [a]) (wPF cyC cyI cyO4fe54 { S with L := S.L ++ [a], K := va_up S.K a 1, O_Overlaps := { f_first := va_up S.O_Overlaps.f_first a 0, f_second := va_up S.O_Overlaps.f_second a 0, f_place := va_up S.O_Overlaps.f_place a 0, f_word := va_up S.O_Overlaps.f_word a 0, f_firstNormal := va_up S.O_Overlaps.f_firstNormal a 0, f_secondNormal := va_up S.O_Overlaps.f_secondNormal a 0 } }) := by
  rw [List.append_assoc, va_pl_push ha]
  exact congrArg (fun l => X ++ l) (va_pl_congr (wNw_O_Overlaps cyC cyI cyO4fe54 S a))
theorem wAt_O_Reach (cyC : ClassId) (cyI : ClassId) (cyO4fe54 : ClassId) (S : wPS) {a : Nat} (h : S.K a = 2) : wPF cyC cyI cyO4fe54 S a = .inr (2, [va_rf (S.O_Reach.f_words a), va_rf (S.O_Reach.f_seats a), .int (S.O_Reach.f_size a), .int (S.O_Reach.f_tooMany a), .int (S.O_Reach.f_ends a), .int (S.O_Reach.f_firstEnd a), .int (S.O_Reach.f_lastEnd a)]) := by simp [wPF, h]
theorem wGt_O_Reach (cyC : ClassId) (cyI : ClassId) (cyO4fe54 : ClassId) (X : va_W) (S : wPS) {a : Nat} (hL : a ∈ S.L) (h : S.K a = 2) : ∃ k : Nat, (X ++ va_pl S.L (wPF cyC cyI cyO4fe54 S))[k]? = some (a, wPF cyC cyI cyO4fe54 S a) ∧ (X ++ va_pl S.L (wPF cyC cyI cyO4fe54 S))[k]? = some (a, .inr (2, [va_rf (S.O_Reach.f_words a), va_rf (S.O_Reach.f_seats a), .int (S.O_Reach.f_size a), .int (S.O_Reach.f_tooMany a), .int (S.O_Reach.f_ends a), .int (S.O_Reach.f_firstEnd a), .int (S.O_Reach.f_lastEnd a)])) := by
  obtain ⟨k, hk⟩ := va_pl_get (X := X) (f := wPF cyC cyI cyO4fe54 S) hL
  exact ⟨k, hk, hk.trans (congrArg (fun e => some (a, e)) (wAt_O_Reach cyC cyI cyO4fe54 S h))⟩
theorem wSt_O_Reach_f_words (cyC : ClassId) (cyI : ClassId) (cyO4fe54 : ClassId) (S : wPS) {a : Nat} (h : S.K a = 2) (v : Option Nat) (b : Nat) : va_up (wPF cyC cyI cyO4fe54 S) a (.inr (2, [va_rf v, va_rf (S.O_Reach.f_seats a), .int (S.O_Reach.f_size a), .int (S.O_Reach.f_tooMany a), .int (S.O_Reach.f_ends a), .int (S.O_Reach.f_firstEnd a), .int (S.O_Reach.f_lastEnd a)])) b = wPF cyC cyI cyO4fe54 { S with O_Reach := { S.O_Reach with f_words := va_up S.O_Reach.f_words a v } } b := by by_cases hb : b = a <;> first | (simp only [wPF, va_up_ne _ _ hb]; done) | (simp only [wPF, va_up, if_neg hb]; done) | simp [wPF, va_re, va_up, va_rf, hb, h]
theorem wPu_O_Reach_f_words (cyC : ClassId) (cyI : ClassId) (cyO4fe54 : ClassId) (X : va_W) (S : wPS) {A : Nat → Prop} {a k : Nat} (hD : va_D A (X ++ va_pl S.L (wPF cyC cyI cyO4fe54 S))) (hL : a ∈ S.L) (h : S.K a = 2) (hk : (X ++ va_pl S.L (wPF cyC cyI cyO4fe54 S))[k]? = some (a, wPF cyC cyI cyO4fe54 S a)) (v : Option Nat) : (X ++ va_pl S.L (wPF cyC cyI cyO4fe54 S)).set k (a, .inr (2, [va_rf v, va_rf (S.O_Reach.f_seats a), .int (S.O_Reach.f_size a), .int (S.O_Reach.f_tooMany a), .int (S.O_Reach.f_ends a), .int (S.O_Reach.f_firstEnd a), .int (S.O_Reach.f_lastEnd a)])) = X ++ va_pl S.L (wPF cyC cyI cyO4fe54 { S with O_Reach := { S.O_Reach with f_words := va_up S.O_Reach.f_words a v } }) := by
  rw [va_pl_set hD hL hk]
  exact congrArg (fun l => X ++ l) (va_pl_congr (wSt_O_Reach_f_words cyC cyI cyO4fe54 S h v))
theorem wSt_O_Reach_f_seats (cyC : ClassId) (cyI : ClassId) (cyO4fe54 : ClassId) (S : wPS) {a : Nat} (h : S.K a = 2) (v : Option Nat) (b : Nat) : va_up (wPF cyC cyI cyO4fe54 S) a (.inr (2, [va_rf (S.O_Reach.f_words a), va_rf v, .int (S.O_Reach.f_size a), .int (S.O_Reach.f_tooMany a), .int (S.O_Reach.f_ends a), .int (S.O_Reach.f_firstEnd a), .int (S.O_Reach.f_lastEnd a)])) b = wPF cyC cyI cyO4fe54 { S with O_Reach := { S.O_Reach with f_seats := va_up S.O_Reach.f_seats a v } } b := by by_cases hb : b = a <;> first | (simp only [wPF, va_up_ne _ _ hb]; done) | (simp only [wPF, va_up, if_neg hb]; done) | simp [wPF, va_re, va_up, va_rf, hb, h]
theorem wPu_O_Reach_f_seats (cyC : ClassId) (cyI : ClassId) (cyO4fe54 : ClassId) (X : va_W) (S : wPS) {A : Nat → Prop} {a k : Nat} (hD : va_D A (X ++ va_pl S.L (wPF cyC cyI cyO4fe54 S))) (hL : a ∈ S.L) (h : S.K a = 2) (hk : (X ++ va_pl S.L (wPF cyC cyI cyO4fe54 S))[k]? = some (a, wPF cyC cyI cyO4fe54 S a)) (v : Option Nat) : (X ++ va_pl S.L (wPF cyC cyI cyO4fe54 S)).set k (a, .inr (2, [va_rf (S.O_Reach.f_words a), va_rf v, .int (S.O_Reach.f_size a), .int (S.O_Reach.f_tooMany a), .int (S.O_Reach.f_ends a), .int (S.O_Reach.f_firstEnd a), .int (S.O_Reach.f_lastEnd a)])) = X ++ va_pl S.L (wPF cyC cyI cyO4fe54 { S with O_Reach := { S.O_Reach with f_seats := va_up S.O_Reach.f_seats a v } }) := by
  rw [va_pl_set hD hL hk]
  exact congrArg (fun l => X ++ l) (va_pl_congr (wSt_O_Reach_f_seats cyC cyI cyO4fe54 S h v))
theorem wSt_O_Reach_f_size (cyC : ClassId) (cyI : ClassId) (cyO4fe54 : ClassId) (S : wPS) {a : Nat} (h : S.K a = 2) (v : Int32) (b : Nat) : va_up (wPF cyC cyI cyO4fe54 S) a (.inr (2, [va_rf (S.O_Reach.f_words a), va_rf (S.O_Reach.f_seats a), .int v, .int (S.O_Reach.f_tooMany a), .int (S.O_Reach.f_ends a), .int (S.O_Reach.f_firstEnd a), .int (S.O_Reach.f_lastEnd a)])) b = wPF cyC cyI cyO4fe54 { S with O_Reach := { S.O_Reach with f_size := va_up S.O_Reach.f_size a v } } b := by by_cases hb : b = a <;> first | (simp only [wPF, va_up_ne _ _ hb]; done) | (simp only [wPF, va_up, if_neg hb]; done) | simp [wPF, va_re, va_up, va_rf, hb, h]
theorem wPu_O_Reach_f_size (cyC : ClassId) (cyI : ClassId) (cyO4fe54 : ClassId) (X : va_W) (S : wPS) {A : Nat → Prop} {a k : Nat} (hD : va_D A (X ++ va_pl S.L (wPF cyC cyI cyO4fe54 S))) (hL : a ∈ S.L) (h : S.K a = 2) (hk : (X ++ va_pl S.L (wPF cyC cyI cyO4fe54 S))[k]? = some (a, wPF cyC cyI cyO4fe54 S a)) (v : Int32) : (X ++ va_pl S.L (wPF cyC cyI cyO4fe54 S)).set k (a, .inr (2, [va_rf (S.O_Reach.f_words a), va_rf (S.O_Reach.f_seats a), .int v, .int (S.O_Reach.f_tooMany a), .int (S.O_Reach.f_ends a), .int (S.O_Reach.f_firstEnd a), .int (S.O_Reach.f_lastEnd a)])) = X ++ va_pl S.L (wPF cyC cyI cyO4fe54 { S with O_Reach := { S.O_Reach with f_size := va_up S.O_Reach.f_size a v } }) := by
  rw [va_pl_set hD hL hk]
  exact congrArg (fun l => X ++ l) (va_pl_congr (wSt_O_Reach_f_size cyC cyI cyO4fe54 S h v))
theorem wSt_O_Reach_f_tooMany (cyC : ClassId) (cyI : ClassId) (cyO4fe54 : ClassId) (S : wPS) {a : Nat} (h : S.K a = 2) (v : Int32) (b : Nat) : va_up (wPF cyC cyI cyO4fe54 S) a (.inr (2, [va_rf (S.O_Reach.f_words a), va_rf (S.O_Reach.f_seats a), .int (S.O_Reach.f_size a), .int v, .int (S.O_Reach.f_ends a), .int (S.O_Reach.f_firstEnd a), .int (S.O_Reach.f_lastEnd a)])) b = wPF cyC cyI cyO4fe54 { S with O_Reach := { S.O_Reach with f_tooMany := va_up S.O_Reach.f_tooMany a v } } b := by by_cases hb : b = a <;> first | (simp only [wPF, va_up_ne _ _ hb]; done) | (simp only [wPF, va_up, if_neg hb]; done) | simp [wPF, va_re, va_up, va_rf, hb, h]
theorem wPu_O_Reach_f_tooMany (cyC : ClassId) (cyI : ClassId) (cyO4fe54 : ClassId) (X : va_W) (S : wPS) {A : Nat → Prop} {a k : Nat} (hD : va_D A (X ++ va_pl S.L (wPF cyC cyI cyO4fe54 S))) (hL : a ∈ S.L) (h : S.K a = 2) (hk : (X ++ va_pl S.L (wPF cyC cyI cyO4fe54 S))[k]? = some (a, wPF cyC cyI cyO4fe54 S a)) (v : Int32) : (X ++ va_pl S.L (wPF cyC cyI cyO4fe54 S)).set k (a, .inr (2, [va_rf (S.O_Reach.f_words a), va_rf (S.O_Reach.f_seats a), .int (S.O_Reach.f_size a), .int v, .int (S.O_Reach.f_ends a), .int (S.O_Reach.f_firstEnd a), .int (S.O_Reach.f_lastEnd a)])) = X ++ va_pl S.L (wPF cyC cyI cyO4fe54 { S with O_Reach := { S.O_Reach with f_tooMany := va_up S.O_Reach.f_tooMany a v } }) := by
  rw [va_pl_set hD hL hk]
  exact congrArg (fun l => X ++ l) (va_pl_congr (wSt_O_Reach_f_tooMany cyC cyI cyO4fe54 S h v))
theorem wSt_O_Reach_f_ends (cyC : ClassId) (cyI : ClassId) (cyO4fe54 : ClassId) (S : wPS) {a : Nat} (h : S.K a = 2) (v : Int32) (b : Nat) : va_up (wPF cyC cyI cyO4fe54 S) a (.inr (2, [va_rf (S.O_Reach.f_words a), va_rf (S.O_Reach.f_seats a), .int (S.O_Reach.f_size a), .int (S.O_Reach.f_tooMany a), .int v, .int (S.O_Reach.f_firstEnd a), .int (S.O_Reach.f_lastEnd a)])) b = wPF cyC cyI cyO4fe54 { S with O_Reach := { S.O_Reach with f_ends := va_up S.O_Reach.f_ends a v } } b := by by_cases hb : b = a <;> first | (simp only [wPF, va_up_ne _ _ hb]; done) | (simp only [wPF, va_up, if_neg hb]; done) | simp [wPF, va_re, va_up, va_rf, hb, h]
theorem wPu_O_Reach_f_ends (cyC : ClassId) (cyI : ClassId) (cyO4fe54 : ClassId) (X : va_W) (S : wPS) {A : Nat → Prop} {a k : Nat} (hD : va_D A (X ++ va_pl S.L (wPF cyC cyI cyO4fe54 S))) (hL : a ∈ S.L) (h : S.K a = 2) (hk : (X ++ va_pl S.L (wPF cyC cyI cyO4fe54 S))[k]? = some (a, wPF cyC cyI cyO4fe54 S a)) (v : Int32) : (X ++ va_pl S.L (wPF cyC cyI cyO4fe54 S)).set k (a, .inr (2, [va_rf (S.O_Reach.f_words a), va_rf (S.O_Reach.f_seats a), .int (S.O_Reach.f_size a), .int (S.O_Reach.f_tooMany a), .int v, .int (S.O_Reach.f_firstEnd a), .int (S.O_Reach.f_lastEnd a)])) = X ++ va_pl S.L (wPF cyC cyI cyO4fe54 { S with O_Reach := { S.O_Reach with f_ends := va_up S.O_Reach.f_ends a v } }) := by
  rw [va_pl_set hD hL hk]
  exact congrArg (fun l => X ++ l) (va_pl_congr (wSt_O_Reach_f_ends cyC cyI cyO4fe54 S h v))
theorem wSt_O_Reach_f_firstEnd (cyC : ClassId) (cyI : ClassId) (cyO4fe54 : ClassId) (S : wPS) {a : Nat} (h : S.K a = 2) (v : Int32) (b : Nat) : va_up (wPF cyC cyI cyO4fe54 S) a (.inr (2, [va_rf (S.O_Reach.f_words a), va_rf (S.O_Reach.f_seats a), .int (S.O_Reach.f_size a), .int (S.O_Reach.f_tooMany a), .int (S.O_Reach.f_ends a), .int v, .int (S.O_Reach.f_lastEnd a)])) b = wPF cyC cyI cyO4fe54 { S with O_Reach := { S.O_Reach with f_firstEnd := va_up S.O_Reach.f_firstEnd a v } } b := by by_cases hb : b = a <;> first | (simp only [wPF, va_up_ne _ _ hb]; done) | (simp only [wPF, va_up, if_neg hb]; done) | simp [wPF, va_re, va_up, va_rf, hb, h]
theorem wPu_O_Reach_f_firstEnd (cyC : ClassId) (cyI : ClassId) (cyO4fe54 : ClassId) (X : va_W) (S : wPS) {A : Nat → Prop} {a k : Nat} (hD : va_D A (X ++ va_pl S.L (wPF cyC cyI cyO4fe54 S))) (hL : a ∈ S.L) (h : S.K a = 2) (hk : (X ++ va_pl S.L (wPF cyC cyI cyO4fe54 S))[k]? = some (a, wPF cyC cyI cyO4fe54 S a)) (v : Int32) : (X ++ va_pl S.L (wPF cyC cyI cyO4fe54 S)).set k (a, .inr (2, [va_rf (S.O_Reach.f_words a), va_rf (S.O_Reach.f_seats a), .int (S.O_Reach.f_size a), .int (S.O_Reach.f_tooMany a), .int (S.O_Reach.f_ends a), .int v, .int (S.O_Reach.f_lastEnd a)])) = X ++ va_pl S.L (wPF cyC cyI cyO4fe54 { S with O_Reach := { S.O_Reach with f_firstEnd := va_up S.O_Reach.f_firstEnd a v } }) := by
  rw [va_pl_set hD hL hk]
  exact congrArg (fun l => X ++ l) (va_pl_congr (wSt_O_Reach_f_firstEnd cyC cyI cyO4fe54 S h v))
theorem wSt_O_Reach_f_lastEnd (cyC : ClassId) (cyI : ClassId) (cyO4fe54 : ClassId) (S : wPS) {a : Nat} (h : S.K a = 2) (v : Int32) (b : Nat) : va_up (wPF cyC cyI cyO4fe54 S) a (.inr (2, [va_rf (S.O_Reach.f_words a), va_rf (S.O_Reach.f_seats a), .int (S.O_Reach.f_size a), .int (S.O_Reach.f_tooMany a), .int (S.O_Reach.f_ends a), .int (S.O_Reach.f_firstEnd a), .int v])) b = wPF cyC cyI cyO4fe54 { S with O_Reach := { S.O_Reach with f_lastEnd := va_up S.O_Reach.f_lastEnd a v } } b := by by_cases hb : b = a <;> first | (simp only [wPF, va_up_ne _ _ hb]; done) | (simp only [wPF, va_up, if_neg hb]; done) | simp [wPF, va_re, va_up, va_rf, hb, h]
theorem wPu_O_Reach_f_lastEnd (cyC : ClassId) (cyI : ClassId) (cyO4fe54 : ClassId) (X : va_W) (S : wPS) {A : Nat → Prop} {a k : Nat} (hD : va_D A (X ++ va_pl S.L (wPF cyC cyI cyO4fe54 S))) (hL : a ∈ S.L) (h : S.K a = 2) (hk : (X ++ va_pl S.L (wPF cyC cyI cyO4fe54 S))[k]? = some (a, wPF cyC cyI cyO4fe54 S a)) (v : Int32) : (X ++ va_pl S.L (wPF cyC cyI cyO4fe54 S)).set k (a, .inr (2, [va_rf (S.O_Reach.f_words a), va_rf (S.O_Reach.f_seats a), .int (S.O_Reach.f_size a), .int (S.O_Reach.f_tooMany a), .int (S.O_Reach.f_ends a), .int (S.O_Reach.f_firstEnd a), .int v])) = X ++ va_pl S.L (wPF cyC cyI cyO4fe54 { S with O_Reach := { S.O_Reach with f_lastEnd := va_up S.O_Reach.f_lastEnd a v } }) := by
  rw [va_pl_set hD hL hk]
  exact congrArg (fun l => X ++ l) (va_pl_congr (wSt_O_Reach_f_lastEnd cyC cyI cyO4fe54 S h v))
theorem wNw_O_Reach (cyC : ClassId) (cyI : ClassId) (cyO4fe54 : ClassId) (S : wPS) (a b : Nat) : va_up (wPF cyC cyI cyO4fe54 S) a (.inr (2, [.null, .null, .int 0, .int 0, .int 0, .int 0, .int 0])) b = wPF cyC cyI cyO4fe54 { S with L := S.L ++ [a], K := va_up S.K a 2, O_Reach := { f_words := va_up S.O_Reach.f_words a none, f_seats := va_up S.O_Reach.f_seats a none, f_size := va_up S.O_Reach.f_size a 0, f_tooMany := va_up S.O_Reach.f_tooMany a 0, f_ends := va_up S.O_Reach.f_ends a 0, f_firstEnd := va_up S.O_Reach.f_firstEnd a 0, f_lastEnd := va_up S.O_Reach.f_lastEnd a 0 } } b := by by_cases hb : b = a <;> first | (simp only [wPF, va_up_ne _ _ hb]; done) | (simp only [wPF, va_up, if_neg hb]; done) | simp [wPF, va_re, va_up, va_rf, hb]
theorem wPn_O_Reach (cyC : ClassId) (cyI : ClassId) (cyO4fe54 : ClassId) (X : va_W) (S : wPS) {a : Nat} (ha : a ∉ S.L) : (X ++ va_pl S.L (wPF cyC cyI cyO4fe54 S)) ++ [(a, .inr (2, [.null, .null, .int 0, .int 0, .int 0, .int 0, .int 0]))] = X ++ va_pl (S.L ++ [a]) (wPF cyC cyI cyO4fe54 { S with L := S.L ++ [a], K := va_up S.K a 2, O_Reach := { f_words := va_up S.O_Reach.f_words a none, f_seats := va_up S.O_Reach.f_seats a none, f_size := va_up S.O_Reach.f_size a 0, f_tooMany := va_up S.O_Reach.f_tooMany a 0, f_ends := va_up S.O_Reach.f_ends a 0, f_firstEnd := va_up S.O_Reach.f_firstEnd a 0, f_lastEnd := va_up S.O_Reach.f_lastEnd a 0 } }) := by
  rw [List.append_assoc, va_pl_push ha]
  exact congrArg (fun l => X ++ l) (va_pl_congr (wNw_O_Reach cyC cyI cyO4fe54 S a))
theorem wAt_O_Reduction (cyC : ClassId) (cyI : ClassId) (cyO4fe54 : ClassId) (S : wPS) {a : Nat} (h : S.K a = 3) : wPF cyC cyI cyO4fe54 S a = .inr (3, [va_rf (S.O_Reduction.f_words a), va_rf (S.O_Reduction.f_rulesUsed a), .int (S.O_Reduction.f_outcome a), .int (S.O_Reduction.f_steps a), .int (S.O_Reduction.f_ringStart a)]) := by simp [wPF, h]
theorem wGt_O_Reduction (cyC : ClassId) (cyI : ClassId) (cyO4fe54 : ClassId) (X : va_W) (S : wPS) {a : Nat} (hL : a ∈ S.L) (h : S.K a = 3) : ∃ k : Nat, (X ++ va_pl S.L (wPF cyC cyI cyO4fe54 S))[k]? = some (a, wPF cyC cyI cyO4fe54 S a) ∧ (X ++ va_pl S.L (wPF cyC cyI cyO4fe54 S))[k]? = some (a, .inr (3, [va_rf (S.O_Reduction.f_words a), va_rf (S.O_Reduction.f_rulesUsed a), .int (S.O_Reduction.f_outcome a), .int (S.O_Reduction.f_steps a), .int (S.O_Reduction.f_ringStart a)])) := by
  obtain ⟨k, hk⟩ := va_pl_get (X := X) (f := wPF cyC cyI cyO4fe54 S) hL
  exact ⟨k, hk, hk.trans (congrArg (fun e => some (a, e)) (wAt_O_Reduction cyC cyI cyO4fe54 S h))⟩
theorem wSt_O_Reduction_f_words (cyC : ClassId) (cyI : ClassId) (cyO4fe54 : ClassId) (S : wPS) {a : Nat} (h : S.K a = 3) (v : Option Nat) (b : Nat) : va_up (wPF cyC cyI cyO4fe54 S) a (.inr (3, [va_rf v, va_rf (S.O_Reduction.f_rulesUsed a), .int (S.O_Reduction.f_outcome a), .int (S.O_Reduction.f_steps a), .int (S.O_Reduction.f_ringStart a)])) b = wPF cyC cyI cyO4fe54 { S with O_Reduction := { S.O_Reduction with f_words := va_up S.O_Reduction.f_words a v } } b := by by_cases hb : b = a <;> first | (simp only [wPF, va_up_ne _ _ hb]; done) | (simp only [wPF, va_up, if_neg hb]; done) | simp [wPF, va_re, va_up, va_rf, hb, h]
theorem wPu_O_Reduction_f_words (cyC : ClassId) (cyI : ClassId) (cyO4fe54 : ClassId) (X : va_W) (S : wPS) {A : Nat → Prop} {a k : Nat} (hD : va_D A (X ++ va_pl S.L (wPF cyC cyI cyO4fe54 S))) (hL : a ∈ S.L) (h : S.K a = 3) (hk : (X ++ va_pl S.L (wPF cyC cyI cyO4fe54 S))[k]? = some (a, wPF cyC cyI cyO4fe54 S a)) (v : Option Nat) : (X ++ va_pl S.L (wPF cyC cyI cyO4fe54 S)).set k (a, .inr (3, [va_rf v, va_rf (S.O_Reduction.f_rulesUsed a), .int (S.O_Reduction.f_outcome a), .int (S.O_Reduction.f_steps a), .int (S.O_Reduction.f_ringStart a)])) = X ++ va_pl S.L (wPF cyC cyI cyO4fe54 { S with O_Reduction := { S.O_Reduction with f_words := va_up S.O_Reduction.f_words a v } }) := by
  rw [va_pl_set hD hL hk]
  exact congrArg (fun l => X ++ l) (va_pl_congr (wSt_O_Reduction_f_words cyC cyI cyO4fe54 S h v))
theorem wSt_O_Reduction_f_rulesUsed (cyC : ClassId) (cyI : ClassId) (cyO4fe54 : ClassId) (S : wPS) {a : Nat} (h : S.K a = 3) (v : Option Nat) (b : Nat) : va_up (wPF cyC cyI cyO4fe54 S) a (.inr (3, [va_rf (S.O_Reduction.f_words a), va_rf v, .int (S.O_Reduction.f_outcome a), .int (S.O_Reduction.f_steps a), .int (S.O_Reduction.f_ringStart a)])) b = wPF cyC cyI cyO4fe54 { S with O_Reduction := { S.O_Reduction with f_rulesUsed := va_up S.O_Reduction.f_rulesUsed a v } } b := by by_cases hb : b = a <;> first | (simp only [wPF, va_up_ne _ _ hb]; done) | (simp only [wPF, va_up, if_neg hb]; done) | simp [wPF, va_re, va_up, va_rf, hb, h]
theorem wPu_O_Reduction_f_rulesUsed (cyC : ClassId) (cyI : ClassId) (cyO4fe54 : ClassId) (X : va_W) (S : wPS) {A : Nat → Prop} {a k : Nat} (hD : va_D A (X ++ va_pl S.L (wPF cyC cyI cyO4fe54 S))) (hL : a ∈ S.L) (h : S.K a = 3) (hk : (X ++ va_pl S.L (wPF cyC cyI cyO4fe54 S))[k]? = some (a, wPF cyC cyI cyO4fe54 S a)) (v : Option Nat) : (X ++ va_pl S.L (wPF cyC cyI cyO4fe54 S)).set k (a, .inr (3, [va_rf (S.O_Reduction.f_words a), va_rf v, .int (S.O_Reduction.f_outcome a), .int (S.O_Reduction.f_steps a), .int (S.O_Reduction.f_ringStart a)])) = X ++ va_pl S.L (wPF cyC cyI cyO4fe54 { S with O_Reduction := { S.O_Reduction with f_rulesUsed := va_up S.O_Reduction.f_rulesUsed a v } }) := by
  rw [va_pl_set hD hL hk]
  exact congrArg (fun l => X ++ l) (va_pl_congr (wSt_O_Reduction_f_rulesUsed cyC cyI cyO4fe54 S h v))
theorem wSt_O_Reduction_f_outcome (cyC : ClassId) (cyI : ClassId) (cyO4fe54 : ClassId) (S : wPS) {a : Nat} (h : S.K a = 3) (v : Int32) (b : Nat) : va_up (wPF cyC cyI cyO4fe54 S) a (.inr (3, [va_rf (S.O_Reduction.f_words a), va_rf (S.O_Reduction.f_rulesUsed a), .int v, .int (S.O_Reduction.f_steps a), .int (S.O_Reduction.f_ringStart a)])) b = wPF cyC cyI cyO4fe54 { S with O_Reduction := { S.O_Reduction with f_outcome := va_up S.O_Reduction.f_outcome a v } } b := by by_cases hb : b = a <;> first | (simp only [wPF, va_up_ne _ _ hb]; done) | (simp only [wPF, va_up, if_neg hb]; done) | simp [wPF, va_re, va_up, va_rf, hb, h]
theorem wPu_O_Reduction_f_outcome (cyC : ClassId) (cyI : ClassId) (cyO4fe54 : ClassId) (X : va_W) (S : wPS) {A : Nat → Prop} {a k : Nat} (hD : va_D A (X ++ va_pl S.L (wPF cyC cyI cyO4fe54 S))) (hL : a ∈ S.L) (h : S.K a = 3) (hk : (X ++ va_pl S.L (wPF cyC cyI cyO4fe54 S))[k]? = some (a, wPF cyC cyI cyO4fe54 S a)) (v : Int32) : (X ++ va_pl S.L (wPF cyC cyI cyO4fe54 S)).set k (a, .inr (3, [va_rf (S.O_Reduction.f_words a), va_rf (S.O_Reduction.f_rulesUsed a), .int v, .int (S.O_Reduction.f_steps a), .int (S.O_Reduction.f_ringStart a)])) = X ++ va_pl S.L (wPF cyC cyI cyO4fe54 { S with O_Reduction := { S.O_Reduction with f_outcome := va_up S.O_Reduction.f_outcome a v } }) := by
  rw [va_pl_set hD hL hk]
  exact congrArg (fun l => X ++ l) (va_pl_congr (wSt_O_Reduction_f_outcome cyC cyI cyO4fe54 S h v))
theorem wSt_O_Reduction_f_steps (cyC : ClassId) (cyI : ClassId) (cyO4fe54 : ClassId) (S : wPS) {a : Nat} (h : S.K a = 3) (v : Int32) (b : Nat) : va_up (wPF cyC cyI cyO4fe54 S) a (.inr (3, [va_rf (S.O_Reduction.f_words a), va_rf (S.O_Reduction.f_rulesUsed a), .int (S.O_Reduction.f_outcome a), .int v, .int (S.O_Reduction.f_ringStart a)])) b = wPF cyC cyI cyO4fe54 { S with O_Reduction := { S.O_Reduction with f_steps := va_up S.O_Reduction.f_steps a v } } b := by by_cases hb : b = a <;> first | (simp only [wPF, va_up_ne _ _ hb]; done) | (simp only [wPF, va_up, if_neg hb]; done) | simp [wPF, va_re, va_up, va_rf, hb, h]
theorem wPu_O_Reduction_f_steps (cyC : ClassId) (cyI : ClassId) (cyO4fe54 : ClassId) (X : va_W) (S : wPS) {A : Nat → Prop} {a k : Nat} (hD : va_D A (X ++ va_pl S.L (wPF cyC cyI cyO4fe54 S))) (hL : a ∈ S.L) (h : S.K a = 3) (hk : (X ++ va_pl S.L (wPF cyC cyI cyO4fe54 S))[k]? = some (a, wPF cyC cyI cyO4fe54 S a)) (v : Int32) : (X ++ va_pl S.L (wPF cyC cyI cyO4fe54 S)).set k (a, .inr (3, [va_rf (S.O_Reduction.f_words a), va_rf (S.O_Reduction.f_rulesUsed a), .int (S.O_Reduction.f_outcome a), .int v, .int (S.O_Reduction.f_ringStart a)])) = X ++ va_pl S.L (wPF cyC cyI cyO4fe54 { S with O_Reduction := { S.O_Reduction with f_steps := va_up S.O_Reduction.f_steps a v } }) := by
  rw [va_pl_set hD hL hk]
  exact congrArg (fun l => X ++ l) (va_pl_congr (wSt_O_Reduction_f_steps cyC cyI cyO4fe54 S h v))
theorem wSt_O_Reduction_f_ringStart (cyC : ClassId) (cyI : ClassId) (cyO4fe54 : ClassId) (S : wPS) {a : Nat} (h : S.K a = 3) (v : Int32) (b : Nat) : va_up (wPF cyC cyI cyO4fe54 S) a (.inr (3, [va_rf (S.O_Reduction.f_words a), va_rf (S.O_Reduction.f_rulesUsed a), .int (S.O_Reduction.f_outcome a), .int (S.O_Reduction.f_steps a), .int v])) b = wPF cyC cyI cyO4fe54 { S with O_Reduction := { S.O_Reduction with f_ringStart := va_up S.O_Reduction.f_ringStart a v } } b := by by_cases hb : b = a <;> first | (simp only [wPF, va_up_ne _ _ hb]; done) | (simp only [wPF, va_up, if_neg hb]; done) | simp [wPF, va_re, va_up, va_rf, hb, h]
theorem wPu_O_Reduction_f_ringStart (cyC : ClassId) (cyI : ClassId) (cyO4fe54 : ClassId) (X : va_W) (S : wPS) {A : Nat → Prop} {a k : Nat} (hD : va_D A (X ++ va_pl S.L (wPF cyC cyI cyO4fe54 S))) (hL : a ∈ S.L) (h : S.K a = 3) (hk : (X ++ va_pl S.L (wPF cyC cyI cyO4fe54 S))[k]? = some (a, wPF cyC cyI cyO4fe54 S a)) (v : Int32) : (X ++ va_pl S.L (wPF cyC cyI cyO4fe54 S)).set k (a, .inr (3, [va_rf (S.O_Reduction.f_words a), va_rf (S.O_Reduction.f_rulesUsed a), .int (S.O_Reduction.f_outcome a), .int (S.O_Reduction.f_steps a), .int v])) = X ++ va_pl S.L (wPF cyC cyI cyO4fe54 { S with O_Reduction := { S.O_Reduction with f_ringStart := va_up S.O_Reduction.f_ringStart a v } }) := by
  rw [va_pl_set hD hL hk]
  exact congrArg (fun l => X ++ l) (va_pl_congr (wSt_O_Reduction_f_ringStart cyC cyI cyO4fe54 S h v))
theorem wNw_O_Reduction (cyC : ClassId) (cyI : ClassId) (cyO4fe54 : ClassId) (S : wPS) (a b : Nat) : va_up (wPF cyC cyI cyO4fe54 S) a (.inr (3, [.null, .null, .int 0, .int 0, .int 0])) b = wPF cyC cyI cyO4fe54 { S with L := S.L ++ [a], K := va_up S.K a 3, O_Reduction := { f_words := va_up S.O_Reduction.f_words a none, f_rulesUsed := va_up S.O_Reduction.f_rulesUsed a none, f_outcome := va_up S.O_Reduction.f_outcome a 0, f_steps := va_up S.O_Reduction.f_steps a 0, f_ringStart := va_up S.O_Reduction.f_ringStart a 0 } } b := by by_cases hb : b = a <;> first | (simp only [wPF, va_up_ne _ _ hb]; done) | (simp only [wPF, va_up, if_neg hb]; done) | simp [wPF, va_re, va_up, va_rf, hb]
theorem wPn_O_Reduction (cyC : ClassId) (cyI : ClassId) (cyO4fe54 : ClassId) (X : va_W) (S : wPS) {a : Nat} (ha : a ∉ S.L) : (X ++ va_pl S.L (wPF cyC cyI cyO4fe54 S)) ++ [(a, .inr (3, [.null, .null, .int 0, .int 0, .int 0]))] = X ++ va_pl (S.L ++ [a]) (wPF cyC cyI cyO4fe54 { S with L := S.L ++ [a], K := va_up S.K a 3, O_Reduction := { f_words := va_up S.O_Reduction.f_words a none, f_rulesUsed := va_up S.O_Reduction.f_rulesUsed a none, f_outcome := va_up S.O_Reduction.f_outcome a 0, f_steps := va_up S.O_Reduction.f_steps a 0, f_ringStart := va_up S.O_Reduction.f_ringStart a 0 } }) := by
  rw [List.append_assoc, va_pl_push ha]
  exact congrArg (fun l => X ++ l) (va_pl_congr (wNw_O_Reduction cyC cyI cyO4fe54 S a))
theorem wAt_O_Rules (cyC : ClassId) (cyI : ClassId) (cyO4fe54 : ClassId) (S : wPS) {a : Nat} (h : S.K a = 4) : wPF cyC cyI cyO4fe54 S a = .inr (4, [va_rf (S.O_Rules.f_left a), va_rf (S.O_Rules.f_right a), va_rf (S.O_Rules.f_leftLength a), va_rf (S.O_Rules.f_rightLength a), va_rf (S.O_Rules.f_times a), .int (S.O_Rules.f_size a)]) := by simp [wPF, h]
theorem wGt_O_Rules (cyC : ClassId) (cyI : ClassId) (cyO4fe54 : ClassId) (X : va_W) (S : wPS) {a : Nat} (hL : a ∈ S.L) (h : S.K a = 4) : ∃ k : Nat, (X ++ va_pl S.L (wPF cyC cyI cyO4fe54 S))[k]? = some (a, wPF cyC cyI cyO4fe54 S a) ∧ (X ++ va_pl S.L (wPF cyC cyI cyO4fe54 S))[k]? = some (a, .inr (4, [va_rf (S.O_Rules.f_left a), va_rf (S.O_Rules.f_right a), va_rf (S.O_Rules.f_leftLength a), va_rf (S.O_Rules.f_rightLength a), va_rf (S.O_Rules.f_times a), .int (S.O_Rules.f_size a)])) := by
  obtain ⟨k, hk⟩ := va_pl_get (X := X) (f := wPF cyC cyI cyO4fe54 S) hL
  exact ⟨k, hk, hk.trans (congrArg (fun e => some (a, e)) (wAt_O_Rules cyC cyI cyO4fe54 S h))⟩
theorem wSt_O_Rules_f_left (cyC : ClassId) (cyI : ClassId) (cyO4fe54 : ClassId) (S : wPS) {a : Nat} (h : S.K a = 4) (v : Option Nat) (b : Nat) : va_up (wPF cyC cyI cyO4fe54 S) a (.inr (4, [va_rf v, va_rf (S.O_Rules.f_right a), va_rf (S.O_Rules.f_leftLength a), va_rf (S.O_Rules.f_rightLength a), va_rf (S.O_Rules.f_times a), .int (S.O_Rules.f_size a)])) b = wPF cyC cyI cyO4fe54 { S with O_Rules := { S.O_Rules with f_left := va_up S.O_Rules.f_left a v } } b := by by_cases hb : b = a <;> first | (simp only [wPF, va_up_ne _ _ hb]; done) | (simp only [wPF, va_up, if_neg hb]; done) | simp [wPF, va_re, va_up, va_rf, hb, h]
theorem wPu_O_Rules_f_left (cyC : ClassId) (cyI : ClassId) (cyO4fe54 : ClassId) (X : va_W) (S : wPS) {A : Nat → Prop} {a k : Nat} (hD : va_D A (X ++ va_pl S.L (wPF cyC cyI cyO4fe54 S))) (hL : a ∈ S.L) (h : S.K a = 4) (hk : (X ++ va_pl S.L (wPF cyC cyI cyO4fe54 S))[k]? = some (a, wPF cyC cyI cyO4fe54 S a)) (v : Option Nat) : (X ++ va_pl S.L (wPF cyC cyI cyO4fe54 S)).set k (a, .inr (4, [va_rf v, va_rf (S.O_Rules.f_right a), va_rf (S.O_Rules.f_leftLength a), va_rf (S.O_Rules.f_rightLength a), va_rf (S.O_Rules.f_times a), .int (S.O_Rules.f_size a)])) = X ++ va_pl S.L (wPF cyC cyI cyO4fe54 { S with O_Rules := { S.O_Rules with f_left := va_up S.O_Rules.f_left a v } }) := by
  rw [va_pl_set hD hL hk]
  exact congrArg (fun l => X ++ l) (va_pl_congr (wSt_O_Rules_f_left cyC cyI cyO4fe54 S h v))
theorem wSt_O_Rules_f_right (cyC : ClassId) (cyI : ClassId) (cyO4fe54 : ClassId) (S : wPS) {a : Nat} (h : S.K a = 4) (v : Option Nat) (b : Nat) : va_up (wPF cyC cyI cyO4fe54 S) a (.inr (4, [va_rf (S.O_Rules.f_left a), va_rf v, va_rf (S.O_Rules.f_leftLength a), va_rf (S.O_Rules.f_rightLength a), va_rf (S.O_Rules.f_times a), .int (S.O_Rules.f_size a)])) b = wPF cyC cyI cyO4fe54 { S with O_Rules := { S.O_Rules with f_right := va_up S.O_Rules.f_right a v } } b := by by_cases hb : b = a <;> first | (simp only [wPF, va_up_ne _ _ hb]; done) | (simp only [wPF, va_up, if_neg hb]; done) | simp [wPF, va_re, va_up, va_rf, hb, h]
theorem wPu_O_Rules_f_right (cyC : ClassId) (cyI : ClassId) (cyO4fe54 : ClassId) (X : va_W) (S : wPS) {A : Nat → Prop} {a k : Nat} (hD : va_D A (X ++ va_pl S.L (wPF cyC cyI cyO4fe54 S))) (hL : a ∈ S.L) (h : S.K a = 4) (hk : (X ++ va_pl S.L (wPF cyC cyI cyO4fe54 S))[k]? = some (a, wPF cyC cyI cyO4fe54 S a)) (v : Option Nat) : (X ++ va_pl S.L (wPF cyC cyI cyO4fe54 S)).set k (a, .inr (4, [va_rf (S.O_Rules.f_left a), va_rf v, va_rf (S.O_Rules.f_leftLength a), va_rf (S.O_Rules.f_rightLength a), va_rf (S.O_Rules.f_times a), .int (S.O_Rules.f_size a)])) = X ++ va_pl S.L (wPF cyC cyI cyO4fe54 { S with O_Rules := { S.O_Rules with f_right := va_up S.O_Rules.f_right a v } }) := by
  rw [va_pl_set hD hL hk]
  exact congrArg (fun l => X ++ l) (va_pl_congr (wSt_O_Rules_f_right cyC cyI cyO4fe54 S h v))
theorem wSt_O_Rules_f_leftLength (cyC : ClassId) (cyI : ClassId) (cyO4fe54 : ClassId) (S : wPS) {a : Nat} (h : S.K a = 4) (v : Option Nat) (b : Nat) : va_up (wPF cyC cyI cyO4fe54 S) a (.inr (4, [va_rf (S.O_Rules.f_left a), va_rf (S.O_Rules.f_right a), va_rf v, va_rf (S.O_Rules.f_rightLength a), va_rf (S.O_Rules.f_times a), .int (S.O_Rules.f_size a)])) b = wPF cyC cyI cyO4fe54 { S with O_Rules := { S.O_Rules with f_leftLength := va_up S.O_Rules.f_leftLength a v } } b := by by_cases hb : b = a <;> first | (simp only [wPF, va_up_ne _ _ hb]; done) | (simp only [wPF, va_up, if_neg hb]; done) | simp [wPF, va_re, va_up, va_rf, hb, h]
theorem wPu_O_Rules_f_leftLength (cyC : ClassId) (cyI : ClassId) (cyO4fe54 : ClassId) (X : va_W) (S : wPS) {A : Nat → Prop} {a k : Nat} (hD : va_D A (X ++ va_pl S.L (wPF cyC cyI cyO4fe54 S))) (hL : a ∈ S.L) (h : S.K a = 4) (hk : (X ++ va_pl S.L (wPF cyC cyI cyO4fe54 S))[k]? = some (a, wPF cyC cyI cyO4fe54 S a)) (v : Option Nat) : (X ++ va_pl S.L (wPF cyC cyI cyO4fe54 S)).set k (a, .inr (4, [va_rf (S.O_Rules.f_left a), va_rf (S.O_Rules.f_right a), va_rf v, va_rf (S.O_Rules.f_rightLength a), va_rf (S.O_Rules.f_times a), .int (S.O_Rules.f_size a)])) = X ++ va_pl S.L (wPF cyC cyI cyO4fe54 { S with O_Rules := { S.O_Rules with f_leftLength := va_up S.O_Rules.f_leftLength a v } }) := by
  rw [va_pl_set hD hL hk]
  exact congrArg (fun l => X ++ l) (va_pl_congr (wSt_O_Rules_f_leftLength cyC cyI cyO4fe54 S h v))
theorem wSt_O_Rules_f_rightLength (cyC : ClassId) (cyI : ClassId) (cyO4fe54 : ClassId) (S : wPS) {a : Nat} (h : S.K a = 4) (v : Option Nat) (b : Nat) : va_up (wPF cyC cyI cyO4fe54 S) a (.inr (4, [va_rf (S.O_Rules.f_left a), va_rf (S.O_Rules.f_right a), va_rf (S.O_Rules.f_leftLength a), va_rf v, va_rf (S.O_Rules.f_times a), .int (S.O_Rules.f_size a)])) b = wPF cyC cyI cyO4fe54 { S with O_Rules := { S.O_Rules with f_rightLength := va_up S.O_Rules.f_rightLength a v } } b := by by_cases hb : b = a <;> first | (simp only [wPF, va_up_ne _ _ hb]; done) | (simp only [wPF, va_up, if_neg hb]; done) | simp [wPF, va_re, va_up, va_rf, hb, h]
theorem wPu_O_Rules_f_rightLength (cyC : ClassId) (cyI : ClassId) (cyO4fe54 : ClassId) (X : va_W) (S : wPS) {A : Nat → Prop} {a k : Nat} (hD : va_D A (X ++ va_pl S.L (wPF cyC cyI cyO4fe54 S))) (hL : a ∈ S.L) (h : S.K a = 4) (hk : (X ++ va_pl S.L (wPF cyC cyI cyO4fe54 S))[k]? = some (a, wPF cyC cyI cyO4fe54 S a)) (v : Option Nat) : (X ++ va_pl S.L (wPF cyC cyI cyO4fe54 S)).set k (a, .inr (4, [va_rf (S.O_Rules.f_left a), va_rf (S.O_Rules.f_right a), va_rf (S.O_Rules.f_leftLength a), va_rf v, va_rf (S.O_Rules.f_times a), .int (S.O_Rules.f_size a)])) = X ++ va_pl S.L (wPF cyC cyI cyO4fe54 { S with O_Rules := { S.O_Rules with f_rightLength := va_up S.O_Rules.f_rightLength a v } }) := by
  rw [va_pl_set hD hL hk]
  exact congrArg (fun l => X ++ l) (va_pl_congr (wSt_O_Rules_f_rightLength cyC cyI cyO4fe54 S h v))
theorem wSt_O_Rules_f_times (cyC : ClassId) (cyI : ClassId) (cyO4fe54 : ClassId) (S : wPS) {a : Nat} (h : S.K a = 4) (v : Option Nat) (b : Nat) : va_up (wPF cyC cyI cyO4fe54 S) a (.inr (4, [va_rf (S.O_Rules.f_left a), va_rf (S.O_Rules.f_right a), va_rf (S.O_Rules.f_leftLength a), va_rf (S.O_Rules.f_rightLength a), va_rf v, .int (S.O_Rules.f_size a)])) b = wPF cyC cyI cyO4fe54 { S with O_Rules := { S.O_Rules with f_times := va_up S.O_Rules.f_times a v } } b := by by_cases hb : b = a <;> first | (simp only [wPF, va_up_ne _ _ hb]; done) | (simp only [wPF, va_up, if_neg hb]; done) | simp [wPF, va_re, va_up, va_rf, hb, h]
theorem wPu_O_Rules_f_times (cyC : ClassId) (cyI : ClassId) (cyO4fe54 : ClassId) (X : va_W) (S : wPS) {A : Nat → Prop} {a k : Nat} (hD : va_D A (X ++ va_pl S.L (wPF cyC cyI cyO4fe54 S))) (hL : a ∈ S.L) (h : S.K a = 4) (hk : (X ++ va_pl S.L (wPF cyC cyI cyO4fe54 S))[k]? = some (a, wPF cyC cyI cyO4fe54 S a)) (v : Option Nat) : (X ++ va_pl S.L (wPF cyC cyI cyO4fe54 S)).set k (a, .inr (4, [va_rf (S.O_Rules.f_left a), va_rf (S.O_Rules.f_right a), va_rf (S.O_Rules.f_leftLength a), va_rf (S.O_Rules.f_rightLength a), va_rf v, .int (S.O_Rules.f_size a)])) = X ++ va_pl S.L (wPF cyC cyI cyO4fe54 { S with O_Rules := { S.O_Rules with f_times := va_up S.O_Rules.f_times a v } }) := by
  rw [va_pl_set hD hL hk]
  exact congrArg (fun l => X ++ l) (va_pl_congr (wSt_O_Rules_f_times cyC cyI cyO4fe54 S h v))
theorem wSt_O_Rules_f_size (cyC : ClassId) (cyI : ClassId) (cyO4fe54 : ClassId) (S : wPS) {a : Nat} (h : S.K a = 4) (v : Int32) (b : Nat) : va_up (wPF cyC cyI cyO4fe54 S) a (.inr (4, [va_rf (S.O_Rules.f_left a), va_rf (S.O_Rules.f_right a), va_rf (S.O_Rules.f_leftLength a), va_rf (S.O_Rules.f_rightLength a), va_rf (S.O_Rules.f_times a), .int v])) b = wPF cyC cyI cyO4fe54 { S with O_Rules := { S.O_Rules with f_size := va_up S.O_Rules.f_size a v } } b := by by_cases hb : b = a <;> first | (simp only [wPF, va_up_ne _ _ hb]; done) | (simp only [wPF, va_up, if_neg hb]; done) | simp [wPF, va_re, va_up, va_rf, hb, h]
theorem wPu_O_Rules_f_size (cyC : ClassId) (cyI : ClassId) (cyO4fe54 : ClassId) (X : va_W) (S : wPS) {A : Nat → Prop} {a k : Nat} (hD : va_D A (X ++ va_pl S.L (wPF cyC cyI cyO4fe54 S))) (hL : a ∈ S.L) (h : S.K a = 4) (hk : (X ++ va_pl S.L (wPF cyC cyI cyO4fe54 S))[k]? = some (a, wPF cyC cyI cyO4fe54 S a)) (v : Int32) : (X ++ va_pl S.L (wPF cyC cyI cyO4fe54 S)).set k (a, .inr (4, [va_rf (S.O_Rules.f_left a), va_rf (S.O_Rules.f_right a), va_rf (S.O_Rules.f_leftLength a), va_rf (S.O_Rules.f_rightLength a), va_rf (S.O_Rules.f_times a), .int v])) = X ++ va_pl S.L (wPF cyC cyI cyO4fe54 { S with O_Rules := { S.O_Rules with f_size := va_up S.O_Rules.f_size a v } }) := by
  rw [va_pl_set hD hL hk]
  exact congrArg (fun l => X ++ l) (va_pl_congr (wSt_O_Rules_f_size cyC cyI cyO4fe54 S h v))
theorem wNw_O_Rules (cyC : ClassId) (cyI : ClassId) (cyO4fe54 : ClassId) (S : wPS) (a b : Nat) : va_up (wPF cyC cyI cyO4fe54 S) a (.inr (4, [.null, .null, .null, .null, .null, .int 0])) b = wPF cyC cyI cyO4fe54 { S with L := S.L ++ [a], K := va_up S.K a 4, O_Rules := { f_left := va_up S.O_Rules.f_left a none, f_right := va_up S.O_Rules.f_right a none, f_leftLength := va_up S.O_Rules.f_leftLength a none, f_rightLength := va_up S.O_Rules.f_rightLength a none, f_times := va_up S.O_Rules.f_times a none, f_size := va_up S.O_Rules.f_size a 0 } } b := by by_cases hb : b = a <;> first | (simp only [wPF, va_up_ne _ _ hb]; done) | (simp only [wPF, va_up, if_neg hb]; done) | simp [wPF, va_re, va_up, va_rf, hb]
theorem wPn_O_Rules (cyC : ClassId) (cyI : ClassId) (cyO4fe54 : ClassId) (X : va_W) (S : wPS) {a : Nat} (ha : a ∉ S.L) : (X ++ va_pl S.L (wPF cyC cyI cyO4fe54 S)) ++ [(a, .inr (4, [.null, .null, .null, .null, .null, .int 0]))] = X ++ va_pl (S.L ++ [a]) (wPF cyC cyI cyO4fe54 { S with L := S.L ++ [a], K := va_up S.K a 4, O_Rules := { f_left := va_up S.O_Rules.f_left a none, f_right := va_up S.O_Rules.f_right a none, f_leftLength := va_up S.O_Rules.f_leftLength a none, f_rightLength := va_up S.O_Rules.f_rightLength a none, f_times := va_up S.O_Rules.f_times a none, f_size := va_up S.O_Rules.f_size a 0 } }) := by
  rw [List.append_assoc, va_pl_push ha]
  exact congrArg (fun l => X ++ l) (va_pl_congr (wNw_O_Rules cyC cyI cyO4fe54 S a))
theorem wAt_O_Script (cyC : ClassId) (cyI : ClassId) (cyO4fe54 : ClassId) (S : wPS) {a : Nat} (h : S.K a = 5) : wPF cyC cyI cyO4fe54 S a = .inr (5, [.int (S.O_Script.f_done a), .int (S.O_Script.f_position a), .int (S.O_Script.f_reason a), .int (S.O_Script.f_cause a)]) := by simp [wPF, h]
theorem wGt_O_Script (cyC : ClassId) (cyI : ClassId) (cyO4fe54 : ClassId) (X : va_W) (S : wPS) {a : Nat} (hL : a ∈ S.L) (h : S.K a = 5) : ∃ k : Nat, (X ++ va_pl S.L (wPF cyC cyI cyO4fe54 S))[k]? = some (a, wPF cyC cyI cyO4fe54 S a) ∧ (X ++ va_pl S.L (wPF cyC cyI cyO4fe54 S))[k]? = some (a, .inr (5, [.int (S.O_Script.f_done a), .int (S.O_Script.f_position a), .int (S.O_Script.f_reason a), .int (S.O_Script.f_cause a)])) := by
  obtain ⟨k, hk⟩ := va_pl_get (X := X) (f := wPF cyC cyI cyO4fe54 S) hL
  exact ⟨k, hk, hk.trans (congrArg (fun e => some (a, e)) (wAt_O_Script cyC cyI cyO4fe54 S h))⟩
theorem wSt_O_Script_f_done (cyC : ClassId) (cyI : ClassId) (cyO4fe54 : ClassId) (S : wPS) {a : Nat} (h : S.K a = 5) (v : Int32) (b : Nat) : va_up (wPF cyC cyI cyO4fe54 S) a (.inr (5, [.int v, .int (S.O_Script.f_position a), .int (S.O_Script.f_reason a), .int (S.O_Script.f_cause a)])) b = wPF cyC cyI cyO4fe54 { S with O_Script := { S.O_Script with f_done := va_up S.O_Script.f_done a v } } b := by by_cases hb : b = a <;> first | (simp only [wPF, va_up_ne _ _ hb]; done) | (simp only [wPF, va_up, if_neg hb]; done) | simp [wPF, va_re, va_up, va_rf, hb, h]
theorem wPu_O_Script_f_done (cyC : ClassId) (cyI : ClassId) (cyO4fe54 : ClassId) (X : va_W) (S : wPS) {A : Nat → Prop} {a k : Nat} (hD : va_D A (X ++ va_pl S.L (wPF cyC cyI cyO4fe54 S))) (hL : a ∈ S.L) (h : S.K a = 5) (hk : (X ++ va_pl S.L (wPF cyC cyI cyO4fe54 S))[k]? = some (a, wPF cyC cyI cyO4fe54 S a)) (v : Int32) : (X ++ va_pl S.L (wPF cyC cyI cyO4fe54 S)).set k (a, .inr (5, [.int v, .int (S.O_Script.f_position a), .int (S.O_Script.f_reason a), .int (S.O_Script.f_cause a)])) = X ++ va_pl S.L (wPF cyC cyI cyO4fe54 { S with O_Script := { S.O_Script with f_done := va_up S.O_Script.f_done a v } }) := by
  rw [va_pl_set hD hL hk]
  exact congrArg (fun l => X ++ l) (va_pl_congr (wSt_O_Script_f_done cyC cyI cyO4fe54 S h v))
theorem wSt_O_Script_f_position (cyC : ClassId) (cyI : ClassId) (cyO4fe54 : ClassId) (S : wPS) {a : Nat} (h : S.K a = 5) (v : Int32) (b : Nat) : va_up (wPF cyC cyI cyO4fe54 S) a (.inr (5, [.int (S.O_Script.f_done a), .int v, .int (S.O_Script.f_reason a), .int (S.O_Script.f_cause a)])) b = wPF cyC cyI cyO4fe54 { S with O_Script := { S.O_Script with f_position := va_up S.O_Script.f_position a v } } b := by by_cases hb : b = a <;> first | (simp only [wPF, va_up_ne _ _ hb]; done) | (simp only [wPF, va_up, if_neg hb]; done) | simp [wPF, va_re, va_up, va_rf, hb, h]
theorem wPu_O_Script_f_position (cyC : ClassId) (cyI : ClassId) (cyO4fe54 : ClassId) (X : va_W) (S : wPS) {A : Nat → Prop} {a k : Nat} (hD : va_D A (X ++ va_pl S.L (wPF cyC cyI cyO4fe54 S))) (hL : a ∈ S.L) (h : S.K a = 5) (hk : (X ++ va_pl S.L (wPF cyC cyI cyO4fe54 S))[k]? = some (a, wPF cyC cyI cyO4fe54 S a)) (v : Int32) : (X ++ va_pl S.L (wPF cyC cyI cyO4fe54 S)).set k (a, .inr (5, [.int (S.O_Script.f_done a), .int v, .int (S.O_Script.f_reason a), .int (S.O_Script.f_cause a)])) = X ++ va_pl S.L (wPF cyC cyI cyO4fe54 { S with O_Script := { S.O_Script with f_position := va_up S.O_Script.f_position a v } }) := by
  rw [va_pl_set hD hL hk]
  exact congrArg (fun l => X ++ l) (va_pl_congr (wSt_O_Script_f_position cyC cyI cyO4fe54 S h v))
theorem wSt_O_Script_f_reason (cyC : ClassId) (cyI : ClassId) (cyO4fe54 : ClassId) (S : wPS) {a : Nat} (h : S.K a = 5) (v : Int32) (b : Nat) : va_up (wPF cyC cyI cyO4fe54 S) a (.inr (5, [.int (S.O_Script.f_done a), .int (S.O_Script.f_position a), .int v, .int (S.O_Script.f_cause a)])) b = wPF cyC cyI cyO4fe54 { S with O_Script := { S.O_Script with f_reason := va_up S.O_Script.f_reason a v } } b := by by_cases hb : b = a <;> first | (simp only [wPF, va_up_ne _ _ hb]; done) | (simp only [wPF, va_up, if_neg hb]; done) | simp [wPF, va_re, va_up, va_rf, hb, h]
theorem wPu_O_Script_f_reason (cyC : ClassId) (cyI : ClassId) (cyO4fe54 : ClassId) (X : va_W) (S : wPS) {A : Nat → Prop} {a k : Nat} (hD : va_D A (X ++ va_pl S.L (wPF cyC cyI cyO4fe54 S))) (hL : a ∈ S.L) (h : S.K a = 5) (hk : (X ++ va_pl S.L (wPF cyC cyI cyO4fe54 S))[k]? = some (a, wPF cyC cyI cyO4fe54 S a)) (v : Int32) : (X ++ va_pl S.L (wPF cyC cyI cyO4fe54 S)).set k (a, .inr (5, [.int (S.O_Script.f_done a), .int (S.O_Script.f_position a), .int v, .int (S.O_Script.f_cause a)])) = X ++ va_pl S.L (wPF cyC cyI cyO4fe54 { S with O_Script := { S.O_Script with f_reason := va_up S.O_Script.f_reason a v } }) := by
  rw [va_pl_set hD hL hk]
  exact congrArg (fun l => X ++ l) (va_pl_congr (wSt_O_Script_f_reason cyC cyI cyO4fe54 S h v))
theorem wSt_O_Script_f_cause (cyC : ClassId) (cyI : ClassId) (cyO4fe54 : ClassId) (S : wPS) {a : Nat} (h : S.K a = 5) (v : Int32) (b : Nat) : va_up (wPF cyC cyI cyO4fe54 S) a (.inr (5, [.int (S.O_Script.f_done a), .int (S.O_Script.f_position a), .int (S.O_Script.f_reason a), .int v])) b = wPF cyC cyI cyO4fe54 { S with O_Script := { S.O_Script with f_cause := va_up S.O_Script.f_cause a v } } b := by by_cases hb : b = a <;> first | (simp only [wPF, va_up_ne _ _ hb]; done) | (simp only [wPF, va_up, if_neg hb]; done) | simp [wPF, va_re, va_up, va_rf, hb, h]
theorem wPu_O_Script_f_cause (cyC : ClassId) (cyI : ClassId) (cyO4fe54 : ClassId) (X : va_W) (S : wPS) {A : Nat → Prop} {a k : Nat} (hD : va_D A (X ++ va_pl S.L (wPF cyC cyI cyO4fe54 S))) (hL : a ∈ S.L) (h : S.K a = 5) (hk : (X ++ va_pl S.L (wPF cyC cyI cyO4fe54 S))[k]? = some (a, wPF cyC cyI cyO4fe54 S a)) (v : Int32) : (X ++ va_pl S.L (wPF cyC cyI cyO4fe54 S)).set k (a, .inr (5, [.int (S.O_Script.f_done a), .int (S.O_Script.f_position a), .int (S.O_Script.f_reason a), .int v])) = X ++ va_pl S.L (wPF cyC cyI cyO4fe54 { S with O_Script := { S.O_Script with f_cause := va_up S.O_Script.f_cause a v } }) := by
  rw [va_pl_set hD hL hk]
  exact congrArg (fun l => X ++ l) (va_pl_congr (wSt_O_Script_f_cause cyC cyI cyO4fe54 S h v))
theorem wNw_O_Script (cyC : ClassId) (cyI : ClassId) (cyO4fe54 : ClassId) (S : wPS) (a b : Nat) : va_up (wPF cyC cyI cyO4fe54 S) a (.inr (5, [.int 0, .int 0, .int 0, .int 0])) b = wPF cyC cyI cyO4fe54 { S with L := S.L ++ [a], K := va_up S.K a 5, O_Script := { f_done := va_up S.O_Script.f_done a 0, f_position := va_up S.O_Script.f_position a 0, f_reason := va_up S.O_Script.f_reason a 0, f_cause := va_up S.O_Script.f_cause a 0 } } b := by by_cases hb : b = a <;> first | (simp only [wPF, va_up_ne _ _ hb]; done) | (simp only [wPF, va_up, if_neg hb]; done) | simp [wPF, va_re, va_up, va_rf, hb]
theorem wPn_O_Script (cyC : ClassId) (cyI : ClassId) (cyO4fe54 : ClassId) (X : va_W) (S : wPS) {a : Nat} (ha : a ∉ S.L) : (X ++ va_pl S.L (wPF cyC cyI cyO4fe54 S)) ++ [(a, .inr (5, [.int 0, .int 0, .int 0, .int 0]))] = X ++ va_pl (S.L ++ [a]) (wPF cyC cyI cyO4fe54 { S with L := S.L ++ [a], K := va_up S.K a 5, O_Script := { f_done := va_up S.O_Script.f_done a 0, f_position := va_up S.O_Script.f_position a 0, f_reason := va_up S.O_Script.f_reason a 0, f_cause := va_up S.O_Script.f_cause a 0 } }) := by
  rw [List.append_assoc, va_pl_push ha]
  exact congrArg (fun l => X ++ l) (va_pl_congr (wNw_O_Script cyC cyI cyO4fe54 S a))
theorem wAt_O_State (cyC : ClassId) (cyI : ClassId) (cyO4fe54 : ClassId) (S : wPS) {a : Nat} (h : S.K a = 6) : wPF cyC cyI cyO4fe54 S a = .inr (6, [va_rf (S.O_State.f_rules a), va_rf (S.O_State.f_store a), .int (S.O_State.f_word a), .int (S.O_State.f_choosing a), .int (S.O_State.f_taken a), .int (S.O_State.f_steps a)]) := by simp [wPF, h]
theorem wGt_O_State (cyC : ClassId) (cyI : ClassId) (cyO4fe54 : ClassId) (X : va_W) (S : wPS) {a : Nat} (hL : a ∈ S.L) (h : S.K a = 6) : ∃ k : Nat, (X ++ va_pl S.L (wPF cyC cyI cyO4fe54 S))[k]? = some (a, wPF cyC cyI cyO4fe54 S a) ∧ (X ++ va_pl S.L (wPF cyC cyI cyO4fe54 S))[k]? = some (a, .inr (6, [va_rf (S.O_State.f_rules a), va_rf (S.O_State.f_store a), .int (S.O_State.f_word a), .int (S.O_State.f_choosing a), .int (S.O_State.f_taken a), .int (S.O_State.f_steps a)])) := by
  obtain ⟨k, hk⟩ := va_pl_get (X := X) (f := wPF cyC cyI cyO4fe54 S) hL
  exact ⟨k, hk, hk.trans (congrArg (fun e => some (a, e)) (wAt_O_State cyC cyI cyO4fe54 S h))⟩
theorem wSt_O_State_f_rules (cyC : ClassId) (cyI : ClassId) (cyO4fe54 : ClassId) (S : wPS) {a : Nat} (h : S.K a = 6) (v : Option Nat) (b : Nat) : va_up (wPF cyC cyI cyO4fe54 S) a (.inr (6, [va_rf v, va_rf (S.O_State.f_store a), .int (S.O_State.f_word a), .int (S.O_State.f_choosing a), .int (S.O_State.f_taken a), .int (S.O_State.f_steps a)])) b = wPF cyC cyI cyO4fe54 { S with O_State := { S.O_State with f_rules := va_up S.O_State.f_rules a v } } b := by by_cases hb : b = a <;> first | (simp only [wPF, va_up_ne _ _ hb]; done) | (simp only [wPF, va_up, if_neg hb]; done) | simp [wPF, va_re, va_up, va_rf, hb, h]
theorem wPu_O_State_f_rules (cyC : ClassId) (cyI : ClassId) (cyO4fe54 : ClassId) (X : va_W) (S : wPS) {A : Nat → Prop} {a k : Nat} (hD : va_D A (X ++ va_pl S.L (wPF cyC cyI cyO4fe54 S))) (hL : a ∈ S.L) (h : S.K a = 6) (hk : (X ++ va_pl S.L (wPF cyC cyI cyO4fe54 S))[k]? = some (a, wPF cyC cyI cyO4fe54 S a)) (v : Option Nat) : (X ++ va_pl S.L (wPF cyC cyI cyO4fe54 S)).set k (a, .inr (6, [va_rf v, va_rf (S.O_State.f_store a), .int (S.O_State.f_word a), .int (S.O_State.f_choosing a), .int (S.O_State.f_taken a), .int (S.O_State.f_steps a)])) = X ++ va_pl S.L (wPF cyC cyI cyO4fe54 { S with O_State := { S.O_State with f_rules := va_up S.O_State.f_rules a v } }) := by
  rw [va_pl_set hD hL hk]
  exact congrArg (fun l => X ++ l) (va_pl_congr (wSt_O_State_f_rules cyC cyI cyO4fe54 S h v))
theorem wSt_O_State_f_store (cyC : ClassId) (cyI : ClassId) (cyO4fe54 : ClassId) (S : wPS) {a : Nat} (h : S.K a = 6) (v : Option Nat) (b : Nat) : va_up (wPF cyC cyI cyO4fe54 S) a (.inr (6, [va_rf (S.O_State.f_rules a), va_rf v, .int (S.O_State.f_word a), .int (S.O_State.f_choosing a), .int (S.O_State.f_taken a), .int (S.O_State.f_steps a)])) b = wPF cyC cyI cyO4fe54 { S with O_State := { S.O_State with f_store := va_up S.O_State.f_store a v } } b := by by_cases hb : b = a <;> first | (simp only [wPF, va_up_ne _ _ hb]; done) | (simp only [wPF, va_up, if_neg hb]; done) | simp [wPF, va_re, va_up, va_rf, hb, h]
theorem wPu_O_State_f_store (cyC : ClassId) (cyI : ClassId) (cyO4fe54 : ClassId) (X : va_W) (S : wPS) {A : Nat → Prop} {a k : Nat} (hD : va_D A (X ++ va_pl S.L (wPF cyC cyI cyO4fe54 S))) (hL : a ∈ S.L) (h : S.K a = 6) (hk : (X ++ va_pl S.L (wPF cyC cyI cyO4fe54 S))[k]? = some (a, wPF cyC cyI cyO4fe54 S a)) (v : Option Nat) : (X ++ va_pl S.L (wPF cyC cyI cyO4fe54 S)).set k (a, .inr (6, [va_rf (S.O_State.f_rules a), va_rf v, .int (S.O_State.f_word a), .int (S.O_State.f_choosing a), .int (S.O_State.f_taken a), .int (S.O_State.f_steps a)])) = X ++ va_pl S.L (wPF cyC cyI cyO4fe54 { S with O_State := { S.O_State with f_store := va_up S.O_State.f_store a v } }) := by
  rw [va_pl_set hD hL hk]
  exact congrArg (fun l => X ++ l) (va_pl_congr (wSt_O_State_f_store cyC cyI cyO4fe54 S h v))
theorem wSt_O_State_f_word (cyC : ClassId) (cyI : ClassId) (cyO4fe54 : ClassId) (S : wPS) {a : Nat} (h : S.K a = 6) (v : Int32) (b : Nat) : va_up (wPF cyC cyI cyO4fe54 S) a (.inr (6, [va_rf (S.O_State.f_rules a), va_rf (S.O_State.f_store a), .int v, .int (S.O_State.f_choosing a), .int (S.O_State.f_taken a), .int (S.O_State.f_steps a)])) b = wPF cyC cyI cyO4fe54 { S with O_State := { S.O_State with f_word := va_up S.O_State.f_word a v } } b := by by_cases hb : b = a <;> first | (simp only [wPF, va_up_ne _ _ hb]; done) | (simp only [wPF, va_up, if_neg hb]; done) | simp [wPF, va_re, va_up, va_rf, hb, h]
theorem wPu_O_State_f_word (cyC : ClassId) (cyI : ClassId) (cyO4fe54 : ClassId) (X : va_W) (S : wPS) {A : Nat → Prop} {a k : Nat} (hD : va_D A (X ++ va_pl S.L (wPF cyC cyI cyO4fe54 S))) (hL : a ∈ S.L) (h : S.K a = 6) (hk : (X ++ va_pl S.L (wPF cyC cyI cyO4fe54 S))[k]? = some (a, wPF cyC cyI cyO4fe54 S a)) (v : Int32) : (X ++ va_pl S.L (wPF cyC cyI cyO4fe54 S)).set k (a, .inr (6, [va_rf (S.O_State.f_rules a), va_rf (S.O_State.f_store a), .int v, .int (S.O_State.f_choosing a), .int (S.O_State.f_taken a), .int (S.O_State.f_steps a)])) = X ++ va_pl S.L (wPF cyC cyI cyO4fe54 { S with O_State := { S.O_State with f_word := va_up S.O_State.f_word a v } }) := by
  rw [va_pl_set hD hL hk]
  exact congrArg (fun l => X ++ l) (va_pl_congr (wSt_O_State_f_word cyC cyI cyO4fe54 S h v))
theorem wSt_O_State_f_choosing (cyC : ClassId) (cyI : ClassId) (cyO4fe54 : ClassId) (S : wPS) {a : Nat} (h : S.K a = 6) (v : Int32) (b : Nat) : va_up (wPF cyC cyI cyO4fe54 S) a (.inr (6, [va_rf (S.O_State.f_rules a), va_rf (S.O_State.f_store a), .int (S.O_State.f_word a), .int v, .int (S.O_State.f_taken a), .int (S.O_State.f_steps a)])) b = wPF cyC cyI cyO4fe54 { S with O_State := { S.O_State with f_choosing := va_up S.O_State.f_choosing a v } } b := by by_cases hb : b = a <;> first | (simp only [wPF, va_up_ne _ _ hb]; done) | (simp only [wPF, va_up, if_neg hb]; done) | simp [wPF, va_re, va_up, va_rf, hb, h]
theorem wPu_O_State_f_choosing (cyC : ClassId) (cyI : ClassId) (cyO4fe54 : ClassId) (X : va_W) (S : wPS) {A : Nat → Prop} {a k : Nat} (hD : va_D A (X ++ va_pl S.L (wPF cyC cyI cyO4fe54 S))) (hL : a ∈ S.L) (h : S.K a = 6) (hk : (X ++ va_pl S.L (wPF cyC cyI cyO4fe54 S))[k]? = some (a, wPF cyC cyI cyO4fe54 S a)) (v : Int32) : (X ++ va_pl S.L (wPF cyC cyI cyO4fe54 S)).set k (a, .inr (6, [va_rf (S.O_State.f_rules a), va_rf (S.O_State.f_store a), .int (S.O_State.f_word a), .int v, .int (S.O_State.f_taken a), .int (S.O_State.f_steps a)])) = X ++ va_pl S.L (wPF cyC cyI cyO4fe54 { S with O_State := { S.O_State with f_choosing := va_up S.O_State.f_choosing a v } }) := by
  rw [va_pl_set hD hL hk]
  exact congrArg (fun l => X ++ l) (va_pl_congr (wSt_O_State_f_choosing cyC cyI cyO4fe54 S h v))
theorem wSt_O_State_f_taken (cyC : ClassId) (cyI : ClassId) (cyO4fe54 : ClassId) (S : wPS) {a : Nat} (h : S.K a = 6) (v : Int32) (b : Nat) : va_up (wPF cyC cyI cyO4fe54 S) a (.inr (6, [va_rf (S.O_State.f_rules a), va_rf (S.O_State.f_store a), .int (S.O_State.f_word a), .int (S.O_State.f_choosing a), .int v, .int (S.O_State.f_steps a)])) b = wPF cyC cyI cyO4fe54 { S with O_State := { S.O_State with f_taken := va_up S.O_State.f_taken a v } } b := by by_cases hb : b = a <;> first | (simp only [wPF, va_up_ne _ _ hb]; done) | (simp only [wPF, va_up, if_neg hb]; done) | simp [wPF, va_re, va_up, va_rf, hb, h]
theorem wPu_O_State_f_taken (cyC : ClassId) (cyI : ClassId) (cyO4fe54 : ClassId) (X : va_W) (S : wPS) {A : Nat → Prop} {a k : Nat} (hD : va_D A (X ++ va_pl S.L (wPF cyC cyI cyO4fe54 S))) (hL : a ∈ S.L) (h : S.K a = 6) (hk : (X ++ va_pl S.L (wPF cyC cyI cyO4fe54 S))[k]? = some (a, wPF cyC cyI cyO4fe54 S a)) (v : Int32) : (X ++ va_pl S.L (wPF cyC cyI cyO4fe54 S)).set k (a, .inr (6, [va_rf (S.O_State.f_rules a), va_rf (S.O_State.f_store a), .int (S.O_State.f_word a), .int (S.O_State.f_choosing a), .int v, .int (S.O_State.f_steps a)])) = X ++ va_pl S.L (wPF cyC cyI cyO4fe54 { S with O_State := { S.O_State with f_taken := va_up S.O_State.f_taken a v } }) := by
  rw [va_pl_set hD hL hk]
  exact congrArg (fun l => X ++ l) (va_pl_congr (wSt_O_State_f_taken cyC cyI cyO4fe54 S h v))
theorem wSt_O_State_f_steps (cyC : ClassId) (cyI : ClassId) (cyO4fe54 : ClassId) (S : wPS) {a : Nat} (h : S.K a = 6) (v : Int32) (b : Nat) : va_up (wPF cyC cyI cyO4fe54 S) a (.inr (6, [va_rf (S.O_State.f_rules a), va_rf (S.O_State.f_store a), .int (S.O_State.f_word a), .int (S.O_State.f_choosing a), .int (S.O_State.f_taken a), .int v])) b = wPF cyC cyI cyO4fe54 { S with O_State := { S.O_State with f_steps := va_up S.O_State.f_steps a v } } b := by by_cases hb : b = a <;> first | (simp only [wPF, va_up_ne _ _ hb]; done) | (simp only [wPF, va_up, if_neg hb]; done) | simp [wPF, va_re, va_up, va_rf, hb, h]
theorem wPu_O_State_f_steps (cyC : ClassId) (cyI : ClassId) (cyO4fe54 : ClassId) (X : va_W) (S : wPS) {A : Nat → Prop} {a k : Nat} (hD : va_D A (X ++ va_pl S.L (wPF cyC cyI cyO4fe54 S))) (hL : a ∈ S.L) (h : S.K a = 6) (hk : (X ++ va_pl S.L (wPF cyC cyI cyO4fe54 S))[k]? = some (a, wPF cyC cyI cyO4fe54 S a)) (v : Int32) : (X ++ va_pl S.L (wPF cyC cyI cyO4fe54 S)).set k (a, .inr (6, [va_rf (S.O_State.f_rules a), va_rf (S.O_State.f_store a), .int (S.O_State.f_word a), .int (S.O_State.f_choosing a), .int (S.O_State.f_taken a), .int v])) = X ++ va_pl S.L (wPF cyC cyI cyO4fe54 { S with O_State := { S.O_State with f_steps := va_up S.O_State.f_steps a v } }) := by
  rw [va_pl_set hD hL hk]
  exact congrArg (fun l => X ++ l) (va_pl_congr (wSt_O_State_f_steps cyC cyI cyO4fe54 S h v))
theorem wNw_O_State (cyC : ClassId) (cyI : ClassId) (cyO4fe54 : ClassId) (S : wPS) (a b : Nat) : va_up (wPF cyC cyI cyO4fe54 S) a (.inr (6, [.null, .null, .int 0, .int 0, .int 0, .int 0])) b = wPF cyC cyI cyO4fe54 { S with L := S.L ++ [a], K := va_up S.K a 6, O_State := { f_rules := va_up S.O_State.f_rules a none, f_store := va_up S.O_State.f_store a none, f_word := va_up S.O_State.f_word a 0, f_choosing := va_up S.O_State.f_choosing a 0, f_taken := va_up S.O_State.f_taken a 0, f_steps := va_up S.O_State.f_steps a 0 } } b := by by_cases hb : b = a <;> first | (simp only [wPF, va_up_ne _ _ hb]; done) | (simp only [wPF, va_up, if_neg hb]; done) | simp [wPF, va_re, va_up, va_rf, hb]
theorem wPn_O_State (cyC : ClassId) (cyI : ClassId) (cyO4fe54 : ClassId) (X : va_W) (S : wPS) {a : Nat} (ha : a ∉ S.L) : (X ++ va_pl S.L (wPF cyC cyI cyO4fe54 S)) ++ [(a, .inr (6, [.null, .null, .int 0, .int 0, .int 0, .int 0]))] = X ++ va_pl (S.L ++ [a]) (wPF cyC cyI cyO4fe54 { S with L := S.L ++ [a], K := va_up S.K a 6, O_State := { f_rules := va_up S.O_State.f_rules a none, f_store := va_up S.O_State.f_store a none, f_word := va_up S.O_State.f_word a 0, f_choosing := va_up S.O_State.f_choosing a 0, f_taken := va_up S.O_State.f_taken a 0, f_steps := va_up S.O_State.f_steps a 0 } }) := by
  rw [List.append_assoc, va_pl_push ha]
  exact congrArg (fun l => X ++ l) (va_pl_congr (wNw_O_State cyC cyI cyO4fe54 S a))
theorem wAt_O_Store (cyC : ClassId) (cyI : ClassId) (cyO4fe54 : ClassId) (S : wPS) {a : Nat} (h : S.K a = 7) : wPF cyC cyI cyO4fe54 S a = .inr (7, [va_rf (S.O_Store.f_words a), va_rf (S.O_Store.f_normals a), .int (S.O_Store.f_size a)]) := by simp [wPF, h]
theorem wGt_O_Store (cyC : ClassId) (cyI : ClassId) (cyO4fe54 : ClassId) (X : va_W) (S : wPS) {a : Nat} (hL : a ∈ S.L) (h : S.K a = 7) : ∃ k : Nat, (X ++ va_pl S.L (wPF cyC cyI cyO4fe54 S))[k]? = some (a, wPF cyC cyI cyO4fe54 S a) ∧ (X ++ va_pl S.L (wPF cyC cyI cyO4fe54 S))[k]? = some (a, .inr (7, [va_rf (S.O_Store.f_words a), va_rf (S.O_Store.f_normals a), .int (S.O_Store.f_size a)])) := by
  obtain ⟨k, hk⟩ := va_pl_get (X := X) (f := wPF cyC cyI cyO4fe54 S) hL
  exact ⟨k, hk, hk.trans (congrArg (fun e => some (a, e)) (wAt_O_Store cyC cyI cyO4fe54 S h))⟩
theorem wSt_O_Store_f_words (cyC : ClassId) (cyI : ClassId) (cyO4fe54 : ClassId) (S : wPS) {a : Nat} (h : S.K a = 7) (v : Option Nat) (b : Nat) : va_up (wPF cyC cyI cyO4fe54 S) a (.inr (7, [va_rf v, va_rf (S.O_Store.f_normals a), .int (S.O_Store.f_size a)])) b = wPF cyC cyI cyO4fe54 { S with O_Store := { S.O_Store with f_words := va_up S.O_Store.f_words a v } } b := by by_cases hb : b = a <;> first | (simp only [wPF, va_up_ne _ _ hb]; done) | (simp only [wPF, va_up, if_neg hb]; done) | simp [wPF, va_re, va_up, va_rf, hb, h]
theorem wPu_O_Store_f_words (cyC : ClassId) (cyI : ClassId) (cyO4fe54 : ClassId) (X : va_W) (S : wPS) {A : Nat → Prop} {a k : Nat} (hD : va_D A (X ++ va_pl S.L (wPF cyC cyI cyO4fe54 S))) (hL : a ∈ S.L) (h : S.K a = 7) (hk : (X ++ va_pl S.L (wPF cyC cyI cyO4fe54 S))[k]? = some (a, wPF cyC cyI cyO4fe54 S a)) (v : Option Nat) : (X ++ va_pl S.L (wPF cyC cyI cyO4fe54 S)).set k (a, .inr (7, [va_rf v, va_rf (S.O_Store.f_normals a), .int (S.O_Store.f_size a)])) = X ++ va_pl S.L (wPF cyC cyI cyO4fe54 { S with O_Store := { S.O_Store with f_words := va_up S.O_Store.f_words a v } }) := by
  rw [va_pl_set hD hL hk]
  exact congrArg (fun l => X ++ l) (va_pl_congr (wSt_O_Store_f_words cyC cyI cyO4fe54 S h v))
theorem wSt_O_Store_f_normals (cyC : ClassId) (cyI : ClassId) (cyO4fe54 : ClassId) (S : wPS) {a : Nat} (h : S.K a = 7) (v : Option Nat) (b : Nat) : va_up (wPF cyC cyI cyO4fe54 S) a (.inr (7, [va_rf (S.O_Store.f_words a), va_rf v, .int (S.O_Store.f_size a)])) b = wPF cyC cyI cyO4fe54 { S with O_Store := { S.O_Store with f_normals := va_up S.O_Store.f_normals a v } } b := by by_cases hb : b = a <;> first | (simp only [wPF, va_up_ne _ _ hb]; done) | (simp only [wPF, va_up, if_neg hb]; done) | simp [wPF, va_re, va_up, va_rf, hb, h]
theorem wPu_O_Store_f_normals (cyC : ClassId) (cyI : ClassId) (cyO4fe54 : ClassId) (X : va_W) (S : wPS) {A : Nat → Prop} {a k : Nat} (hD : va_D A (X ++ va_pl S.L (wPF cyC cyI cyO4fe54 S))) (hL : a ∈ S.L) (h : S.K a = 7) (hk : (X ++ va_pl S.L (wPF cyC cyI cyO4fe54 S))[k]? = some (a, wPF cyC cyI cyO4fe54 S a)) (v : Option Nat) : (X ++ va_pl S.L (wPF cyC cyI cyO4fe54 S)).set k (a, .inr (7, [va_rf (S.O_Store.f_words a), va_rf v, .int (S.O_Store.f_size a)])) = X ++ va_pl S.L (wPF cyC cyI cyO4fe54 { S with O_Store := { S.O_Store with f_normals := va_up S.O_Store.f_normals a v } }) := by
  rw [va_pl_set hD hL hk]
  exact congrArg (fun l => X ++ l) (va_pl_congr (wSt_O_Store_f_normals cyC cyI cyO4fe54 S h v))
theorem wSt_O_Store_f_size (cyC : ClassId) (cyI : ClassId) (cyO4fe54 : ClassId) (S : wPS) {a : Nat} (h : S.K a = 7) (v : Int32) (b : Nat) : va_up (wPF cyC cyI cyO4fe54 S) a (.inr (7, [va_rf (S.O_Store.f_words a), va_rf (S.O_Store.f_normals a), .int v])) b = wPF cyC cyI cyO4fe54 { S with O_Store := { S.O_Store with f_size := va_up S.O_Store.f_size a v } } b := by by_cases hb : b = a <;> first | (simp only [wPF, va_up_ne _ _ hb]; done) | (simp only [wPF, va_up, if_neg hb]; done) | simp [wPF, va_re, va_up, va_rf, hb, h]
theorem wPu_O_Store_f_size (cyC : ClassId) (cyI : ClassId) (cyO4fe54 : ClassId) (X : va_W) (S : wPS) {A : Nat → Prop} {a k : Nat} (hD : va_D A (X ++ va_pl S.L (wPF cyC cyI cyO4fe54 S))) (hL : a ∈ S.L) (h : S.K a = 7) (hk : (X ++ va_pl S.L (wPF cyC cyI cyO4fe54 S))[k]? = some (a, wPF cyC cyI cyO4fe54 S a)) (v : Int32) : (X ++ va_pl S.L (wPF cyC cyI cyO4fe54 S)).set k (a, .inr (7, [va_rf (S.O_Store.f_words a), va_rf (S.O_Store.f_normals a), .int v])) = X ++ va_pl S.L (wPF cyC cyI cyO4fe54 { S with O_Store := { S.O_Store with f_size := va_up S.O_Store.f_size a v } }) := by
  rw [va_pl_set hD hL hk]
  exact congrArg (fun l => X ++ l) (va_pl_congr (wSt_O_Store_f_size cyC cyI cyO4fe54 S h v))
theorem wNw_O_Store (cyC : ClassId) (cyI : ClassId) (cyO4fe54 : ClassId) (S : wPS) (a b : Nat) : va_up (wPF cyC cyI cyO4fe54 S) a (.inr (7, [.null, .null, .int 0])) b = wPF cyC cyI cyO4fe54 { S with L := S.L ++ [a], K := va_up S.K a 7, O_Store := { f_words := va_up S.O_Store.f_words a none, f_normals := va_up S.O_Store.f_normals a none, f_size := va_up S.O_Store.f_size a 0 } } b := by by_cases hb : b = a <;> first | (simp only [wPF, va_up_ne _ _ hb]; done) | (simp only [wPF, va_up, if_neg hb]; done) | simp [wPF, va_re, va_up, va_rf, hb]
theorem wPn_O_Store (cyC : ClassId) (cyI : ClassId) (cyO4fe54 : ClassId) (X : va_W) (S : wPS) {a : Nat} (ha : a ∉ S.L) : (X ++ va_pl S.L (wPF cyC cyI cyO4fe54 S)) ++ [(a, .inr (7, [.null, .null, .int 0]))] = X ++ va_pl (S.L ++ [a]) (wPF cyC cyI cyO4fe54 { S with L := S.L ++ [a], K := va_up S.K a 7, O_Store := { f_words := va_up S.O_Store.f_words a none, f_normals := va_up S.O_Store.f_normals a none, f_size := va_up S.O_Store.f_size a 0 } }) := by
  rw [List.append_assoc, va_pl_push ha]
  exact congrArg (fun l => X ++ l) (va_pl_congr (wNw_O_Store cyC cyI cyO4fe54 S a))
theorem wAt_O_Text (cyC : ClassId) (cyI : ClassId) (cyO4fe54 : ClassId) (S : wPS) {a : Nat} (h : S.K a = 8) : wPF cyC cyI cyO4fe54 S a = .inr (8, [va_rf (S.O_Text.f_characters a), .int (S.O_Text.f_size a), .int (S.O_Text.f_at a), .int (S.O_Text.f_kind a), .int (S.O_Text.f_firstWord a), .int (S.O_Text.f_secondWord a), .int (S.O_Text.f_digit a)]) := by simp [wPF, h]
theorem wGt_O_Text (cyC : ClassId) (cyI : ClassId) (cyO4fe54 : ClassId) (X : va_W) (S : wPS) {a : Nat} (hL : a ∈ S.L) (h : S.K a = 8) : ∃ k : Nat, (X ++ va_pl S.L (wPF cyC cyI cyO4fe54 S))[k]? = some (a, wPF cyC cyI cyO4fe54 S a) ∧ (X ++ va_pl S.L (wPF cyC cyI cyO4fe54 S))[k]? = some (a, .inr (8, [va_rf (S.O_Text.f_characters a), .int (S.O_Text.f_size a), .int (S.O_Text.f_at a), .int (S.O_Text.f_kind a), .int (S.O_Text.f_firstWord a), .int (S.O_Text.f_secondWord a), .int (S.O_Text.f_digit a)])) := by
  obtain ⟨k, hk⟩ := va_pl_get (X := X) (f := wPF cyC cyI cyO4fe54 S) hL
  exact ⟨k, hk, hk.trans (congrArg (fun e => some (a, e)) (wAt_O_Text cyC cyI cyO4fe54 S h))⟩
theorem wSt_O_Text_f_characters (cyC : ClassId) (cyI : ClassId) (cyO4fe54 : ClassId) (S : wPS) {a : Nat} (h : S.K a = 8) (v : Option Nat) (b : Nat) : va_up (wPF cyC cyI cyO4fe54 S) a (.inr (8, [va_rf v, .int (S.O_Text.f_size a), .int (S.O_Text.f_at a), .int (S.O_Text.f_kind a), .int (S.O_Text.f_firstWord a), .int (S.O_Text.f_secondWord a), .int (S.O_Text.f_digit a)])) b = wPF cyC cyI cyO4fe54 { S with O_Text := { S.O_Text with f_characters := va_up S.O_Text.f_characters a v } } b := by by_cases hb : b = a <;> first | (simp only [wPF, va_up_ne _ _ hb]; done) | (simp only [wPF, va_up, if_neg hb]; done) | simp [wPF, va_re, va_up, va_rf, hb, h]
theorem wPu_O_Text_f_characters (cyC : ClassId) (cyI : ClassId) (cyO4fe54 : ClassId) (X : va_W) (S : wPS) {A : Nat → Prop} {a k : Nat} (hD : va_D A (X ++ va_pl S.L (wPF cyC cyI cyO4fe54 S))) (hL : a ∈ S.L) (h : S.K a = 8) (hk : (X ++ va_pl S.L (wPF cyC cyI cyO4fe54 S))[k]? = some (a, wPF cyC cyI cyO4fe54 S a)) (v : Option Nat) : (X ++ va_pl S.L (wPF cyC cyI cyO4fe54 S)).set k (a, .inr (8, [va_rf v, .int (S.O_Text.f_size a), .int (S.O_Text.f_at a), .int (S.O_Text.f_kind a), .int (S.O_Text.f_firstWord a), .int (S.O_Text.f_secondWord a), .int (S.O_Text.f_digit a)])) = X ++ va_pl S.L (wPF cyC cyI cyO4fe54 { S with O_Text := { S.O_Text with f_characters := va_up S.O_Text.f_characters a v } }) := by
  rw [va_pl_set hD hL hk]
  exact congrArg (fun l => X ++ l) (va_pl_congr (wSt_O_Text_f_characters cyC cyI cyO4fe54 S h v))
theorem wSt_O_Text_f_size (cyC : ClassId) (cyI : ClassId) (cyO4fe54 : ClassId) (S : wPS) {a : Nat} (h : S.K a = 8) (v : Int32) (b : Nat) : va_up (wPF cyC cyI cyO4fe54 S) a (.inr (8, [va_rf (S.O_Text.f_characters a), .int v, .int (S.O_Text.f_at a), .int (S.O_Text.f_kind a), .int (S.O_Text.f_firstWord a), .int (S.O_Text.f_secondWord a), .int (S.O_Text.f_digit a)])) b = wPF cyC cyI cyO4fe54 { S with O_Text := { S.O_Text with f_size := va_up S.O_Text.f_size a v } } b := by by_cases hb : b = a <;> first | (simp only [wPF, va_up_ne _ _ hb]; done) | (simp only [wPF, va_up, if_neg hb]; done) | simp [wPF, va_re, va_up, va_rf, hb, h]
theorem wPu_O_Text_f_size (cyC : ClassId) (cyI : ClassId) (cyO4fe54 : ClassId) (X : va_W) (S : wPS) {A : Nat → Prop} {a k : Nat} (hD : va_D A (X ++ va_pl S.L (wPF cyC cyI cyO4fe54 S))) (hL : a ∈ S.L) (h : S.K a = 8) (hk : (X ++ va_pl S.L (wPF cyC cyI cyO4fe54 S))[k]? = some (a, wPF cyC cyI cyO4fe54 S a)) (v : Int32) : (X ++ va_pl S.L (wPF cyC cyI cyO4fe54 S)).set k (a, .inr (8, [va_rf (S.O_Text.f_characters a), .int v, .int (S.O_Text.f_at a), .int (S.O_Text.f_kind a), .int (S.O_Text.f_firstWord a), .int (S.O_Text.f_secondWord a), .int (S.O_Text.f_digit a)])) = X ++ va_pl S.L (wPF cyC cyI cyO4fe54 { S with O_Text := { S.O_Text with f_size := va_up S.O_Text.f_size a v } }) := by
  rw [va_pl_set hD hL hk]
  exact congrArg (fun l => X ++ l) (va_pl_congr (wSt_O_Text_f_size cyC cyI cyO4fe54 S h v))
theorem wSt_O_Text_f_at (cyC : ClassId) (cyI : ClassId) (cyO4fe54 : ClassId) (S : wPS) {a : Nat} (h : S.K a = 8) (v : Int32) (b : Nat) : va_up (wPF cyC cyI cyO4fe54 S) a (.inr (8, [va_rf (S.O_Text.f_characters a), .int (S.O_Text.f_size a), .int v, .int (S.O_Text.f_kind a), .int (S.O_Text.f_firstWord a), .int (S.O_Text.f_secondWord a), .int (S.O_Text.f_digit a)])) b = wPF cyC cyI cyO4fe54 { S with O_Text := { S.O_Text with f_at := va_up S.O_Text.f_at a v } } b := by by_cases hb : b = a <;> first | (simp only [wPF, va_up_ne _ _ hb]; done) | (simp only [wPF, va_up, if_neg hb]; done) | simp [wPF, va_re, va_up, va_rf, hb, h]
theorem wPu_O_Text_f_at (cyC : ClassId) (cyI : ClassId) (cyO4fe54 : ClassId) (X : va_W) (S : wPS) {A : Nat → Prop} {a k : Nat} (hD : va_D A (X ++ va_pl S.L (wPF cyC cyI cyO4fe54 S))) (hL : a ∈ S.L) (h : S.K a = 8) (hk : (X ++ va_pl S.L (wPF cyC cyI cyO4fe54 S))[k]? = some (a, wPF cyC cyI cyO4fe54 S a)) (v : Int32) : (X ++ va_pl S.L (wPF cyC cyI cyO4fe54 S)).set k (a, .inr (8, [va_rf (S.O_Text.f_characters a), .int (S.O_Text.f_size a), .int v, .int (S.O_Text.f_kind a), .int (S.O_Text.f_firstWord a), .int (S.O_Text.f_secondWord a), .int (S.O_Text.f_digit a)])) = X ++ va_pl S.L (wPF cyC cyI cyO4fe54 { S with O_Text := { S.O_Text with f_at := va_up S.O_Text.f_at a v } }) := by
  rw [va_pl_set hD hL hk]
  exact congrArg (fun l => X ++ l) (va_pl_congr (wSt_O_Text_f_at cyC cyI cyO4fe54 S h v))
theorem wSt_O_Text_f_kind (cyC : ClassId) (cyI : ClassId) (cyO4fe54 : ClassId) (S : wPS) {a : Nat} (h : S.K a = 8) (v : Int32) (b : Nat) : va_up (wPF cyC cyI cyO4fe54 S) a (.inr (8, [va_rf (S.O_Text.f_characters a), .int (S.O_Text.f_size a), .int (S.O_Text.f_at a), .int v, .int (S.O_Text.f_firstWord a), .int (S.O_Text.f_secondWord a), .int (S.O_Text.f_digit a)])) b = wPF cyC cyI cyO4fe54 { S with O_Text := { S.O_Text with f_kind := va_up S.O_Text.f_kind a v } } b := by by_cases hb : b = a <;> first | (simp only [wPF, va_up_ne _ _ hb]; done) | (simp only [wPF, va_up, if_neg hb]; done) | simp [wPF, va_re, va_up, va_rf, hb, h]
theorem wPu_O_Text_f_kind (cyC : ClassId) (cyI : ClassId) (cyO4fe54 : ClassId) (X : va_W) (S : wPS) {A : Nat → Prop} {a k : Nat} (hD : va_D A (X ++ va_pl S.L (wPF cyC cyI cyO4fe54 S))) (hL : a ∈ S.L) (h : S.K a = 8) (hk : (X ++ va_pl S.L (wPF cyC cyI cyO4fe54 S))[k]? = some (a, wPF cyC cyI cyO4fe54 S a)) (v : Int32) : (X ++ va_pl S.L (wPF cyC cyI cyO4fe54 S)).set k (a, .inr (8, [va_rf (S.O_Text.f_characters a), .int (S.O_Text.f_size a), .int (S.O_Text.f_at a), .int v, .int (S.O_Text.f_firstWord a), .int (S.O_Text.f_secondWord a), .int (S.O_Text.f_digit a)])) = X ++ va_pl S.L (wPF cyC cyI cyO4fe54 { S with O_Text := { S.O_Text with f_kind := va_up S.O_Text.f_kind a v } }) := by
  rw [va_pl_set hD hL hk]
  exact congrArg (fun l => X ++ l) (va_pl_congr (wSt_O_Text_f_kind cyC cyI cyO4fe54 S h v))
theorem wSt_O_Text_f_firstWord (cyC : ClassId) (cyI : ClassId) (cyO4fe54 : ClassId) (S : wPS) {a : Nat} (h : S.K a = 8) (v : Int32) (b : Nat) : va_up (wPF cyC cyI cyO4fe54 S) a (.inr (8, [va_rf (S.O_Text.f_characters a), .int (S.O_Text.f_size a), .int (S.O_Text.f_at a), .int (S.O_Text.f_kind a), .int v, .int (S.O_Text.f_secondWord a), .int (S.O_Text.f_digit a)])) b = wPF cyC cyI cyO4fe54 { S with O_Text := { S.O_Text with f_firstWord := va_up S.O_Text.f_firstWord a v } } b := by by_cases hb : b = a <;> first | (simp only [wPF, va_up_ne _ _ hb]; done) | (simp only [wPF, va_up, if_neg hb]; done) | simp [wPF, va_re, va_up, va_rf, hb, h]
theorem wPu_O_Text_f_firstWord (cyC : ClassId) (cyI : ClassId) (cyO4fe54 : ClassId) (X : va_W) (S : wPS) {A : Nat → Prop} {a k : Nat} (hD : va_D A (X ++ va_pl S.L (wPF cyC cyI cyO4fe54 S))) (hL : a ∈ S.L) (h : S.K a = 8) (hk : (X ++ va_pl S.L (wPF cyC cyI cyO4fe54 S))[k]? = some (a, wPF cyC cyI cyO4fe54 S a)) (v : Int32) : (X ++ va_pl S.L (wPF cyC cyI cyO4fe54 S)).set k (a, .inr (8, [va_rf (S.O_Text.f_characters a), .int (S.O_Text.f_size a), .int (S.O_Text.f_at a), .int (S.O_Text.f_kind a), .int v, .int (S.O_Text.f_secondWord a), .int (S.O_Text.f_digit a)])) = X ++ va_pl S.L (wPF cyC cyI cyO4fe54 { S with O_Text := { S.O_Text with f_firstWord := va_up S.O_Text.f_firstWord a v } }) := by
  rw [va_pl_set hD hL hk]
  exact congrArg (fun l => X ++ l) (va_pl_congr (wSt_O_Text_f_firstWord cyC cyI cyO4fe54 S h v))
theorem wSt_O_Text_f_secondWord (cyC : ClassId) (cyI : ClassId) (cyO4fe54 : ClassId) (S : wPS) {a : Nat} (h : S.K a = 8) (v : Int32) (b : Nat) : va_up (wPF cyC cyI cyO4fe54 S) a (.inr (8, [va_rf (S.O_Text.f_characters a), .int (S.O_Text.f_size a), .int (S.O_Text.f_at a), .int (S.O_Text.f_kind a), .int (S.O_Text.f_firstWord a), .int v, .int (S.O_Text.f_digit a)])) b = wPF cyC cyI cyO4fe54 { S with O_Text := { S.O_Text with f_secondWord := va_up S.O_Text.f_secondWord a v } } b := by by_cases hb : b = a <;> first | (simp only [wPF, va_up_ne _ _ hb]; done) | (simp only [wPF, va_up, if_neg hb]; done) | simp [wPF, va_re, va_up, va_rf, hb, h]
theorem wPu_O_Text_f_secondWord (cyC : ClassId) (cyI : ClassId) (cyO4fe54 : ClassId) (X : va_W) (S : wPS) {A : Nat → Prop} {a k : Nat} (hD : va_D A (X ++ va_pl S.L (wPF cyC cyI cyO4fe54 S))) (hL : a ∈ S.L) (h : S.K a = 8) (hk : (X ++ va_pl S.L (wPF cyC cyI cyO4fe54 S))[k]? = some (a, wPF cyC cyI cyO4fe54 S a)) (v : Int32) : (X ++ va_pl S.L (wPF cyC cyI cyO4fe54 S)).set k (a, .inr (8, [va_rf (S.O_Text.f_characters a), .int (S.O_Text.f_size a), .int (S.O_Text.f_at a), .int (S.O_Text.f_kind a), .int (S.O_Text.f_firstWord a), .int v, .int (S.O_Text.f_digit a)])) = X ++ va_pl S.L (wPF cyC cyI cyO4fe54 { S with O_Text := { S.O_Text with f_secondWord := va_up S.O_Text.f_secondWord a v } }) := by
  rw [va_pl_set hD hL hk]
  exact congrArg (fun l => X ++ l) (va_pl_congr (wSt_O_Text_f_secondWord cyC cyI cyO4fe54 S h v))
theorem wSt_O_Text_f_digit (cyC : ClassId) (cyI : ClassId) (cyO4fe54 : ClassId) (S : wPS) {a : Nat} (h : S.K a = 8) (v : Int32) (b : Nat) : va_up (wPF cyC cyI cyO4fe54 S) a (.inr (8, [va_rf (S.O_Text.f_characters a), .int (S.O_Text.f_size a), .int (S.O_Text.f_at a), .int (S.O_Text.f_kind a), .int (S.O_Text.f_firstWord a), .int (S.O_Text.f_secondWord a), .int v])) b = wPF cyC cyI cyO4fe54 { S with O_Text := { S.O_Text with f_digit := va_up S.O_Text.f_digit a v } } b := by by_cases hb : b = a <;> first | (simp only [wPF, va_up_ne _ _ hb]; done) | (simp only [wPF, va_up, if_neg hb]; done) | simp [wPF, va_re, va_up, va_rf, hb, h]
theorem wPu_O_Text_f_digit (cyC : ClassId) (cyI : ClassId) (cyO4fe54 : ClassId) (X : va_W) (S : wPS) {A : Nat → Prop} {a k : Nat} (hD : va_D A (X ++ va_pl S.L (wPF cyC cyI cyO4fe54 S))) (hL : a ∈ S.L) (h : S.K a = 8) (hk : (X ++ va_pl S.L (wPF cyC cyI cyO4fe54 S))[k]? = some (a, wPF cyC cyI cyO4fe54 S a)) (v : Int32) : (X ++ va_pl S.L (wPF cyC cyI cyO4fe54 S)).set k (a, .inr (8, [va_rf (S.O_Text.f_characters a), .int (S.O_Text.f_size a), .int (S.O_Text.f_at a), .int (S.O_Text.f_kind a), .int (S.O_Text.f_firstWord a), .int (S.O_Text.f_secondWord a), .int v])) = X ++ va_pl S.L (wPF cyC cyI cyO4fe54 { S with O_Text := { S.O_Text with f_digit := va_up S.O_Text.f_digit a v } }) := by
  rw [va_pl_set hD hL hk]
  exact congrArg (fun l => X ++ l) (va_pl_congr (wSt_O_Text_f_digit cyC cyI cyO4fe54 S h v))
theorem wNw_O_Text (cyC : ClassId) (cyI : ClassId) (cyO4fe54 : ClassId) (S : wPS) (a b : Nat) : va_up (wPF cyC cyI cyO4fe54 S) a (.inr (8, [.null, .int 0, .int 0, .int 0, .int 0, .int 0, .int 0])) b = wPF cyC cyI cyO4fe54 { S with L := S.L ++ [a], K := va_up S.K a 8, O_Text := { f_characters := va_up S.O_Text.f_characters a none, f_size := va_up S.O_Text.f_size a 0, f_at := va_up S.O_Text.f_at a 0, f_kind := va_up S.O_Text.f_kind a 0, f_firstWord := va_up S.O_Text.f_firstWord a 0, f_secondWord := va_up S.O_Text.f_secondWord a 0, f_digit := va_up S.O_Text.f_digit a 0 } } b := by by_cases hb : b = a <;> first | (simp only [wPF, va_up_ne _ _ hb]; done) | (simp only [wPF, va_up, if_neg hb]; done) | simp [wPF, va_re, va_up, va_rf, hb]
theorem wPn_O_Text (cyC : ClassId) (cyI : ClassId) (cyO4fe54 : ClassId) (X : va_W) (S : wPS) {a : Nat} (ha : a ∉ S.L) : (X ++ va_pl S.L (wPF cyC cyI cyO4fe54 S)) ++ [(a, .inr (8, [.null, .int 0, .int 0, .int 0, .int 0, .int 0, .int 0]))] = X ++ va_pl (S.L ++ [a]) (wPF cyC cyI cyO4fe54 { S with L := S.L ++ [a], K := va_up S.K a 8, O_Text := { f_characters := va_up S.O_Text.f_characters a none, f_size := va_up S.O_Text.f_size a 0, f_at := va_up S.O_Text.f_at a 0, f_kind := va_up S.O_Text.f_kind a 0, f_firstWord := va_up S.O_Text.f_firstWord a 0, f_secondWord := va_up S.O_Text.f_secondWord a 0, f_digit := va_up S.O_Text.f_digit a 0 } }) := by
  rw [List.append_assoc, va_pl_push ha]
  exact congrArg (fun l => X ++ l) (va_pl_congr (wNw_O_Text cyC cyI cyO4fe54 S a))
theorem wAt_O_FallingWords (cyC : ClassId) (cyI : ClassId) (cyO4fe54 : ClassId) (S : wPS) {a : Nat} (h : S.K a = 9) : wPF cyC cyI cyO4fe54 S a = .inr (9, [va_rf (S.O_FallingWords.f_now a), va_rf (S.O_FallingWords.f_trial a), va_rf (S.O_FallingWords.f_history a), va_rf (S.O_FallingWords.f_reduction a), va_rf (S.O_FallingWords.f_reach a), va_rf (S.O_FallingWords.f_overlaps a), va_rf (S.O_FallingWords.f_text a), va_rf (S.O_FallingWords.f_script a)]) := by simp [wPF, h]
theorem wGt_O_FallingWords (cyC : ClassId) (cyI : ClassId) (cyO4fe54 : ClassId) (X : va_W) (S : wPS) {a : Nat} (hL : a ∈ S.L) (h : S.K a = 9) : ∃ k : Nat, (X ++ va_pl S.L (wPF cyC cyI cyO4fe54 S))[k]? = some (a, wPF cyC cyI cyO4fe54 S a) ∧ (X ++ va_pl S.L (wPF cyC cyI cyO4fe54 S))[k]? = some (a, .inr (9, [va_rf (S.O_FallingWords.f_now a), va_rf (S.O_FallingWords.f_trial a), va_rf (S.O_FallingWords.f_history a), va_rf (S.O_FallingWords.f_reduction a), va_rf (S.O_FallingWords.f_reach a), va_rf (S.O_FallingWords.f_overlaps a), va_rf (S.O_FallingWords.f_text a), va_rf (S.O_FallingWords.f_script a)])) := by
  obtain ⟨k, hk⟩ := va_pl_get (X := X) (f := wPF cyC cyI cyO4fe54 S) hL
  exact ⟨k, hk, hk.trans (congrArg (fun e => some (a, e)) (wAt_O_FallingWords cyC cyI cyO4fe54 S h))⟩
theorem wSt_O_FallingWords_f_now (cyC : ClassId) (cyI : ClassId) (cyO4fe54 : ClassId) (S : wPS) {a : Nat} (h : S.K a = 9) (v : Option Nat) (b : Nat) : va_up (wPF cyC cyI cyO4fe54 S) a (.inr (9, [va_rf v, va_rf (S.O_FallingWords.f_trial a), va_rf (S.O_FallingWords.f_history a), va_rf (S.O_FallingWords.f_reduction a), va_rf (S.O_FallingWords.f_reach a), va_rf (S.O_FallingWords.f_overlaps a), va_rf (S.O_FallingWords.f_text a), va_rf (S.O_FallingWords.f_script a)])) b = wPF cyC cyI cyO4fe54 { S with O_FallingWords := { S.O_FallingWords with f_now := va_up S.O_FallingWords.f_now a v } } b := by by_cases hb : b = a <;> first | (simp only [wPF, va_up_ne _ _ hb]; done) | (simp only [wPF, va_up, if_neg hb]; done) | simp [wPF, va_re, va_up, va_rf, hb, h]
theorem wPu_O_FallingWords_f_now (cyC : ClassId) (cyI : ClassId) (cyO4fe54 : ClassId) (X : va_W) (S : wPS) {A : Nat → Prop} {a k : Nat} (hD : va_D A (X ++ va_pl S.L (wPF cyC cyI cyO4fe54 S))) (hL : a ∈ S.L) (h : S.K a = 9) (hk : (X ++ va_pl S.L (wPF cyC cyI cyO4fe54 S))[k]? = some (a, wPF cyC cyI cyO4fe54 S a)) (v : Option Nat) : (X ++ va_pl S.L (wPF cyC cyI cyO4fe54 S)).set k (a, .inr (9, [va_rf v, va_rf (S.O_FallingWords.f_trial a), va_rf (S.O_FallingWords.f_history a), va_rf (S.O_FallingWords.f_reduction a), va_rf (S.O_FallingWords.f_reach a), va_rf (S.O_FallingWords.f_overlaps a), va_rf (S.O_FallingWords.f_text a), va_rf (S.O_FallingWords.f_script a)])) = X ++ va_pl S.L (wPF cyC cyI cyO4fe54 { S with O_FallingWords := { S.O_FallingWords with f_now := va_up S.O_FallingWords.f_now a v } }) := by
  rw [va_pl_set hD hL hk]
  exact congrArg (fun l => X ++ l) (va_pl_congr (wSt_O_FallingWords_f_now cyC cyI cyO4fe54 S h v))
theorem wSt_O_FallingWords_f_trial (cyC : ClassId) (cyI : ClassId) (cyO4fe54 : ClassId) (S : wPS) {a : Nat} (h : S.K a = 9) (v : Option Nat) (b : Nat) : va_up (wPF cyC cyI cyO4fe54 S) a (.inr (9, [va_rf (S.O_FallingWords.f_now a), va_rf v, va_rf (S.O_FallingWords.f_history a), va_rf (S.O_FallingWords.f_reduction a), va_rf (S.O_FallingWords.f_reach a), va_rf (S.O_FallingWords.f_overlaps a), va_rf (S.O_FallingWords.f_text a), va_rf (S.O_FallingWords.f_script a)])) b = wPF cyC cyI cyO4fe54 { S with O_FallingWords := { S.O_FallingWords with f_trial := va_up S.O_FallingWords.f_trial a v } } b := by by_cases hb : b = a <;> first | (simp only [wPF, va_up_ne _ _ hb]; done) | (simp only [wPF, va_up, if_neg hb]; done) | simp [wPF, va_re, va_up, va_rf, hb, h]
theorem wPu_O_FallingWords_f_trial (cyC : ClassId) (cyI : ClassId) (cyO4fe54 : ClassId) (X : va_W) (S : wPS) {A : Nat → Prop} {a k : Nat} (hD : va_D A (X ++ va_pl S.L (wPF cyC cyI cyO4fe54 S))) (hL : a ∈ S.L) (h : S.K a = 9) (hk : (X ++ va_pl S.L (wPF cyC cyI cyO4fe54 S))[k]? = some (a, wPF cyC cyI cyO4fe54 S a)) (v : Option Nat) : (X ++ va_pl S.L (wPF cyC cyI cyO4fe54 S)).set k (a, .inr (9, [va_rf (S.O_FallingWords.f_now a), va_rf v, va_rf (S.O_FallingWords.f_history a), va_rf (S.O_FallingWords.f_reduction a), va_rf (S.O_FallingWords.f_reach a), va_rf (S.O_FallingWords.f_overlaps a), va_rf (S.O_FallingWords.f_text a), va_rf (S.O_FallingWords.f_script a)])) = X ++ va_pl S.L (wPF cyC cyI cyO4fe54 { S with O_FallingWords := { S.O_FallingWords with f_trial := va_up S.O_FallingWords.f_trial a v } }) := by
  rw [va_pl_set hD hL hk]
  exact congrArg (fun l => X ++ l) (va_pl_congr (wSt_O_FallingWords_f_trial cyC cyI cyO4fe54 S h v))
theorem wSt_O_FallingWords_f_history (cyC : ClassId) (cyI : ClassId) (cyO4fe54 : ClassId) (S : wPS) {a : Nat} (h : S.K a = 9) (v : Option Nat) (b : Nat) : va_up (wPF cyC cyI cyO4fe54 S) a (.inr (9, [va_rf (S.O_FallingWords.f_now a), va_rf (S.O_FallingWords.f_trial a), va_rf v, va_rf (S.O_FallingWords.f_reduction a), va_rf (S.O_FallingWords.f_reach a), va_rf (S.O_FallingWords.f_overlaps a), va_rf (S.O_FallingWords.f_text a), va_rf (S.O_FallingWords.f_script a)])) b = wPF cyC cyI cyO4fe54 { S with O_FallingWords := { S.O_FallingWords with f_history := va_up S.O_FallingWords.f_history a v } } b := by by_cases hb : b = a <;> first | (simp only [wPF, va_up_ne _ _ hb]; done) | (simp only [wPF, va_up, if_neg hb]; done) | simp [wPF, va_re, va_up, va_rf, hb, h]
theorem wPu_O_FallingWords_f_history (cyC : ClassId) (cyI : ClassId) (cyO4fe54 : ClassId) (X : va_W) (S : wPS) {A : Nat → Prop} {a k : Nat} (hD : va_D A (X ++ va_pl S.L (wPF cyC cyI cyO4fe54 S))) (hL : a ∈ S.L) (h : S.K a = 9) (hk : (X ++ va_pl S.L (wPF cyC cyI cyO4fe54 S))[k]? = some (a, wPF cyC cyI cyO4fe54 S a)) (v : Option Nat) : (X ++ va_pl S.L (wPF cyC cyI cyO4fe54 S)).set k (a, .inr (9, [va_rf (S.O_FallingWords.f_now a), va_rf (S.O_FallingWords.f_trial a), va_rf v, va_rf (S.O_FallingWords.f_reduction a), va_rf (S.O_FallingWords.f_reach a), va_rf (S.O_FallingWords.f_overlaps a), va_rf (S.O_FallingWords.f_text a), va_rf (S.O_FallingWords.f_script a)])) = X ++ va_pl S.L (wPF cyC cyI cyO4fe54 { S with O_FallingWords := { S.O_FallingWords with f_history := va_up S.O_FallingWords.f_history a v } }) := by
  rw [va_pl_set hD hL hk]
  exact congrArg (fun l => X ++ l) (va_pl_congr (wSt_O_FallingWords_f_history cyC cyI cyO4fe54 S h v))
theorem wSt_O_FallingWords_f_reduction (cyC : ClassId) (cyI : ClassId) (cyO4fe54 : ClassId) (S : wPS) {a : Nat} (h : S.K a = 9) (v : Option Nat) (b : Nat) : va_up (wPF cyC cyI cyO4fe54 S) a (.inr (9, [va_rf (S.O_FallingWords.f_now a), va_rf (S.O_FallingWords.f_trial a), va_rf (S.O_FallingWords.f_history a), va_rf v, va_rf (S.O_FallingWords.f_reach a), va_rf (S.O_FallingWords.f_overlaps a), va_rf (S.O_FallingWords.f_text a), va_rf (S.O_FallingWords.f_script a)])) b = wPF cyC cyI cyO4fe54 { S with O_FallingWords := { S.O_FallingWords with f_reduction := va_up S.O_FallingWords.f_reduction a v } } b := by by_cases hb : b = a <;> first | (simp only [wPF, va_up_ne _ _ hb]; done) | (simp only [wPF, va_up, if_neg hb]; done) | simp [wPF, va_re, va_up, va_rf, hb, h]
theorem wPu_O_FallingWords_f_reduction (cyC : ClassId) (cyI : ClassId) (cyO4fe54 : ClassId) (X : va_W) (S : wPS) {A : Nat → Prop} {a k : Nat} (hD : va_D A (X ++ va_pl S.L (wPF cyC cyI cyO4fe54 S))) (hL : a ∈ S.L) (h : S.K a = 9) (hk : (X ++ va_pl S.L (wPF cyC cyI cyO4fe54 S))[k]? = some (a, wPF cyC cyI cyO4fe54 S a)) (v : Option Nat) : (X ++ va_pl S.L (wPF cyC cyI cyO4fe54 S)).set k (a, .inr (9, [va_rf (S.O_FallingWords.f_now a), va_rf (S.O_FallingWords.f_trial a), va_rf (S.O_FallingWords.f_history a), va_rf v, va_rf (S.O_FallingWords.f_reach a), va_rf (S.O_FallingWords.f_overlaps a), va_rf (S.O_FallingWords.f_text a), va_rf (S.O_FallingWords.f_script a)])) = X ++ va_pl S.L (wPF cyC cyI cyO4fe54 { S with O_FallingWords := { S.O_FallingWords with f_reduction := va_up S.O_FallingWords.f_reduction a v } }) := by
  rw [va_pl_set hD hL hk]
  exact congrArg (fun l => X ++ l) (va_pl_congr (wSt_O_FallingWords_f_reduction cyC cyI cyO4fe54 S h v))
theorem wSt_O_FallingWords_f_reach (cyC : ClassId) (cyI : ClassId) (cyO4fe54 : ClassId) (S : wPS) {a : Nat} (h : S.K a = 9) (v : Option Nat) (b : Nat) : va_up (wPF cyC cyI cyO4fe54 S) a (.inr (9, [va_rf (S.O_FallingWords.f_now a), va_rf (S.O_FallingWords.f_trial a), va_rf (S.O_FallingWords.f_history a), va_rf (S.O_FallingWords.f_reduction a), va_rf v, va_rf (S.O_FallingWords.f_overlaps a), va_rf (S.O_FallingWords.f_text a), va_rf (S.O_FallingWords.f_script a)])) b = wPF cyC cyI cyO4fe54 { S with O_FallingWords := { S.O_FallingWords with f_reach := va_up S.O_FallingWords.f_reach a v } } b := by by_cases hb : b = a <;> first | (simp only [wPF, va_up_ne _ _ hb]; done) | (simp only [wPF, va_up, if_neg hb]; done) | simp [wPF, va_re, va_up, va_rf, hb, h]
theorem wPu_O_FallingWords_f_reach (cyC : ClassId) (cyI : ClassId) (cyO4fe54 : ClassId) (X : va_W) (S : wPS) {A : Nat → Prop} {a k : Nat} (hD : va_D A (X ++ va_pl S.L (wPF cyC cyI cyO4fe54 S))) (hL : a ∈ S.L) (h : S.K a = 9) (hk : (X ++ va_pl S.L (wPF cyC cyI cyO4fe54 S))[k]? = some (a, wPF cyC cyI cyO4fe54 S a)) (v : Option Nat) : (X ++ va_pl S.L (wPF cyC cyI cyO4fe54 S)).set k (a, .inr (9, [va_rf (S.O_FallingWords.f_now a), va_rf (S.O_FallingWords.f_trial a), va_rf (S.O_FallingWords.f_history a), va_rf (S.O_FallingWords.f_reduction a), va_rf v, va_rf (S.O_FallingWords.f_overlaps a), va_rf (S.O_FallingWords.f_text a), va_rf (S.O_FallingWords.f_script a)])) = X ++ va_pl S.L (wPF cyC cyI cyO4fe54 { S with O_FallingWords := { S.O_FallingWords with f_reach := va_up S.O_FallingWords.f_reach a v } }) := by
  rw [va_pl_set hD hL hk]
  exact congrArg (fun l => X ++ l) (va_pl_congr (wSt_O_FallingWords_f_reach cyC cyI cyO4fe54 S h v))
theorem wSt_O_FallingWords_f_overlaps (cyC : ClassId) (cyI : ClassId) (cyO4fe54 : ClassId) (S : wPS) {a : Nat} (h : S.K a = 9) (v : Option Nat) (b : Nat) : va_up (wPF cyC cyI cyO4fe54 S) a (.inr (9, [va_rf (S.O_FallingWords.f_now a), va_rf (S.O_FallingWords.f_trial a), va_rf (S.O_FallingWords.f_history a), va_rf (S.O_FallingWords.f_reduction a), va_rf (S.O_FallingWords.f_reach a), va_rf v, va_rf (S.O_FallingWords.f_text a), va_rf (S.O_FallingWords.f_script a)])) b = wPF cyC cyI cyO4fe54 { S with O_FallingWords := { S.O_FallingWords with f_overlaps := va_up S.O_FallingWords.f_overlaps a v } } b := by by_cases hb : b = a <;> first | (simp only [wPF, va_up_ne _ _ hb]; done) | (simp only [wPF, va_up, if_neg hb]; done) | simp [wPF, va_re, va_up, va_rf, hb, h]
theorem wPu_O_FallingWords_f_overlaps (cyC : ClassId) (cyI : ClassId) (cyO4fe54 : ClassId) (X : va_W) (S : wPS) {A : Nat → Prop} {a k : Nat} (hD : va_D A (X ++ va_pl S.L (wPF cyC cyI cyO4fe54 S))) (hL : a ∈ S.L) (h : S.K a = 9) (hk : (X ++ va_pl S.L (wPF cyC cyI cyO4fe54 S))[k]? = some (a, wPF cyC cyI cyO4fe54 S a)) (v : Option Nat) : (X ++ va_pl S.L (wPF cyC cyI cyO4fe54 S)).set k (a, .inr (9, [va_rf (S.O_FallingWords.f_now a), va_rf (S.O_FallingWords.f_trial a), va_rf (S.O_FallingWords.f_history a), va_rf (S.O_FallingWords.f_reduction a), va_rf (S.O_FallingWords.f_reach a), va_rf v, va_rf (S.O_FallingWords.f_text a), va_rf (S.O_FallingWords.f_script a)])) = X ++ va_pl S.L (wPF cyC cyI cyO4fe54 { S with O_FallingWords := { S.O_FallingWords with f_overlaps := va_up S.O_FallingWords.f_overlaps a v } }) := by
  rw [va_pl_set hD hL hk]
  exact congrArg (fun l => X ++ l) (va_pl_congr (wSt_O_FallingWords_f_overlaps cyC cyI cyO4fe54 S h v))
theorem wSt_O_FallingWords_f_text (cyC : ClassId) (cyI : ClassId) (cyO4fe54 : ClassId) (S : wPS) {a : Nat} (h : S.K a = 9) (v : Option Nat) (b : Nat) : va_up (wPF cyC cyI cyO4fe54 S) a (.inr (9, [va_rf (S.O_FallingWords.f_now a), va_rf (S.O_FallingWords.f_trial a), va_rf (S.O_FallingWords.f_history a), va_rf (S.O_FallingWords.f_reduction a), va_rf (S.O_FallingWords.f_reach a), va_rf (S.O_FallingWords.f_overlaps a), va_rf v, va_rf (S.O_FallingWords.f_script a)])) b = wPF cyC cyI cyO4fe54 { S with O_FallingWords := { S.O_FallingWords with f_text := va_up S.O_FallingWords.f_text a v } } b := by by_cases hb : b = a <;> first | (simp only [wPF, va_up_ne _ _ hb]; done) | (simp only [wPF, va_up, if_neg hb]; done) | simp [wPF, va_re, va_up, va_rf, hb, h]
theorem wPu_O_FallingWords_f_text (cyC : ClassId) (cyI : ClassId) (cyO4fe54 : ClassId) (X : va_W) (S : wPS) {A : Nat → Prop} {a k : Nat} (hD : va_D A (X ++ va_pl S.L (wPF cyC cyI cyO4fe54 S))) (hL : a ∈ S.L) (h : S.K a = 9) (hk : (X ++ va_pl S.L (wPF cyC cyI cyO4fe54 S))[k]? = some (a, wPF cyC cyI cyO4fe54 S a)) (v : Option Nat) : (X ++ va_pl S.L (wPF cyC cyI cyO4fe54 S)).set k (a, .inr (9, [va_rf (S.O_FallingWords.f_now a), va_rf (S.O_FallingWords.f_trial a), va_rf (S.O_FallingWords.f_history a), va_rf (S.O_FallingWords.f_reduction a), va_rf (S.O_FallingWords.f_reach a), va_rf (S.O_FallingWords.f_overlaps a), va_rf v, va_rf (S.O_FallingWords.f_script a)])) = X ++ va_pl S.L (wPF cyC cyI cyO4fe54 { S with O_FallingWords := { S.O_FallingWords with f_text := va_up S.O_FallingWords.f_text a v } }) := by
  rw [va_pl_set hD hL hk]
  exact congrArg (fun l => X ++ l) (va_pl_congr (wSt_O_FallingWords_f_text cyC cyI cyO4fe54 S h v))
theorem wSt_O_FallingWords_f_script (cyC : ClassId) (cyI : ClassId) (cyO4fe54 : ClassId) (S : wPS) {a : Nat} (h : S.K a = 9) (v : Option Nat) (b : Nat) : va_up (wPF cyC cyI cyO4fe54 S) a (.inr (9, [va_rf (S.O_FallingWords.f_now a), va_rf (S.O_FallingWords.f_trial a), va_rf (S.O_FallingWords.f_history a), va_rf (S.O_FallingWords.f_reduction a), va_rf (S.O_FallingWords.f_reach a), va_rf (S.O_FallingWords.f_overlaps a), va_rf (S.O_FallingWords.f_text a), va_rf v])) b = wPF cyC cyI cyO4fe54 { S with O_FallingWords := { S.O_FallingWords with f_script := va_up S.O_FallingWords.f_script a v } } b := by by_cases hb : b = a <;> first | (simp only [wPF, va_up_ne _ _ hb]; done) | (simp only [wPF, va_up, if_neg hb]; done) | simp [wPF, va_re, va_up, va_rf, hb, h]
theorem wPu_O_FallingWords_f_script (cyC : ClassId) (cyI : ClassId) (cyO4fe54 : ClassId) (X : va_W) (S : wPS) {A : Nat → Prop} {a k : Nat} (hD : va_D A (X ++ va_pl S.L (wPF cyC cyI cyO4fe54 S))) (hL : a ∈ S.L) (h : S.K a = 9) (hk : (X ++ va_pl S.L (wPF cyC cyI cyO4fe54 S))[k]? = some (a, wPF cyC cyI cyO4fe54 S a)) (v : Option Nat) : (X ++ va_pl S.L (wPF cyC cyI cyO4fe54 S)).set k (a, .inr (9, [va_rf (S.O_FallingWords.f_now a), va_rf (S.O_FallingWords.f_trial a), va_rf (S.O_FallingWords.f_history a), va_rf (S.O_FallingWords.f_reduction a), va_rf (S.O_FallingWords.f_reach a), va_rf (S.O_FallingWords.f_overlaps a), va_rf (S.O_FallingWords.f_text a), va_rf v])) = X ++ va_pl S.L (wPF cyC cyI cyO4fe54 { S with O_FallingWords := { S.O_FallingWords with f_script := va_up S.O_FallingWords.f_script a v } }) := by
  rw [va_pl_set hD hL hk]
  exact congrArg (fun l => X ++ l) (va_pl_congr (wSt_O_FallingWords_f_script cyC cyI cyO4fe54 S h v))
theorem wNw_O_FallingWords (cyC : ClassId) (cyI : ClassId) (cyO4fe54 : ClassId) (S : wPS) (a b : Nat) : va_up (wPF cyC cyI cyO4fe54 S) a (.inr (9, [.null, .null, .null, .null, .null, .null, .null, .null])) b = wPF cyC cyI cyO4fe54 { S with L := S.L ++ [a], K := va_up S.K a 9, O_FallingWords := { f_now := va_up S.O_FallingWords.f_now a none, f_trial := va_up S.O_FallingWords.f_trial a none, f_history := va_up S.O_FallingWords.f_history a none, f_reduction := va_up S.O_FallingWords.f_reduction a none, f_reach := va_up S.O_FallingWords.f_reach a none, f_overlaps := va_up S.O_FallingWords.f_overlaps a none, f_text := va_up S.O_FallingWords.f_text a none, f_script := va_up S.O_FallingWords.f_script a none } } b := by by_cases hb : b = a <;> first | (simp only [wPF, va_up_ne _ _ hb]; done) | (simp only [wPF, va_up, if_neg hb]; done) | simp [wPF, va_re, va_up, va_rf, hb]
theorem wPn_O_FallingWords (cyC : ClassId) (cyI : ClassId) (cyO4fe54 : ClassId) (X : va_W) (S : wPS) {a : Nat} (ha : a ∉ S.L) : (X ++ va_pl S.L (wPF cyC cyI cyO4fe54 S)) ++ [(a, .inr (9, [.null, .null, .null, .null, .null, .null, .null, .null]))] = X ++ va_pl (S.L ++ [a]) (wPF cyC cyI cyO4fe54 { S with L := S.L ++ [a], K := va_up S.K a 9, O_FallingWords := { f_now := va_up S.O_FallingWords.f_now a none, f_trial := va_up S.O_FallingWords.f_trial a none, f_history := va_up S.O_FallingWords.f_history a none, f_reduction := va_up S.O_FallingWords.f_reduction a none, f_reach := va_up S.O_FallingWords.f_reach a none, f_overlaps := va_up S.O_FallingWords.f_overlaps a none, f_text := va_up S.O_FallingWords.f_text a none, f_script := va_up S.O_FallingWords.f_script a none } }) := by
  rw [List.append_assoc, va_pl_push ha]
  exact congrArg (fun l => X ++ l) (va_pl_congr (wNw_O_FallingWords cyC cyI cyO4fe54 S a))
theorem wAt_O_FallingWordsModel (cyC : ClassId) (cyI : ClassId) (cyO4fe54 : ClassId) (S : wPS) {a : Nat} (h : S.K a = 10) : wPF cyC cyI cyO4fe54 S a = .inr (10, [va_rf (S.O_FallingWordsModel.f_s a), va_rf (S.O_FallingWordsModel.f_was a), va_rf (S.O_FallingWordsModel.f_begun a), va_rf (S.O_FallingWordsModel.f_aside a), .int (S.O_FallingWordsModel.f_states a), va_rf (S.O_FallingWordsModel.f_text a), .int (S.O_FallingWordsModel.f_typed a), .int (S.O_FallingWordsModel.f_at a), .int (S.O_FallingWordsModel.f_reason a), .int (S.O_FallingWordsModel.f_cause a), .int (S.O_FallingWordsModel.f_read a), .int (S.O_FallingWordsModel.f_readLength a), .int (S.O_FallingWordsModel.f_chosenRule a), .int (S.O_FallingWordsModel.f_chosenPlace a), va_rf (S.O_FallingWordsModel.f_row a), va_rf (S.O_FallingWordsModel.f_rowRule a), .int (S.O_FallingWordsModel.f_rowSteps a), .int (S.O_FallingWordsModel.f_ringFrom a), va_rf (S.O_FallingWordsModel.f_found a), .int (S.O_FallingWordsModel.f_many a), .int (S.O_FallingWordsModel.f_oneRule a), .int (S.O_FallingWordsModel.f_otherRule a), .int (S.O_FallingWordsModel.f_overlapPlace a), .int (S.O_FallingWordsModel.f_oneWord a), .int (S.O_FallingWordsModel.f_otherWord a), .int (S.O_FallingWordsModel.f_oneNormal a), .int (S.O_FallingWordsModel.f_otherNormal a)]) := by simp [wPF, h]
theorem wGt_O_FallingWordsModel (cyC : ClassId) (cyI : ClassId) (cyO4fe54 : ClassId) (X : va_W) (S : wPS) {a : Nat} (hL : a ∈ S.L) (h : S.K a = 10) : ∃ k : Nat, (X ++ va_pl S.L (wPF cyC cyI cyO4fe54 S))[k]? = some (a, wPF cyC cyI cyO4fe54 S a) ∧ (X ++ va_pl S.L (wPF cyC cyI cyO4fe54 S))[k]? = some (a, .inr (10, [va_rf (S.O_FallingWordsModel.f_s a), va_rf (S.O_FallingWordsModel.f_was a), va_rf (S.O_FallingWordsModel.f_begun a), va_rf (S.O_FallingWordsModel.f_aside a), .int (S.O_FallingWordsModel.f_states a), va_rf (S.O_FallingWordsModel.f_text a), .int (S.O_FallingWordsModel.f_typed a), .int (S.O_FallingWordsModel.f_at a), .int (S.O_FallingWordsModel.f_reason a), .int (S.O_FallingWordsModel.f_cause a), .int (S.O_FallingWordsModel.f_read a), .int (S.O_FallingWordsModel.f_readLength a), .int (S.O_FallingWordsModel.f_chosenRule a), .int (S.O_FallingWordsModel.f_chosenPlace a), va_rf (S.O_FallingWordsModel.f_row a), va_rf (S.O_FallingWordsModel.f_rowRule a), .int (S.O_FallingWordsModel.f_rowSteps a), .int (S.O_FallingWordsModel.f_ringFrom a), va_rf (S.O_FallingWordsModel.f_found a), .int (S.O_FallingWordsModel.f_many a), .int (S.O_FallingWordsModel.f_oneRule a), .int (S.O_FallingWordsModel.f_otherRule a), .int (S.O_FallingWordsModel.f_overlapPlace a), .int (S.O_FallingWordsModel.f_oneWord a), .int (S.O_FallingWordsModel.f_otherWord a), .int (S.O_FallingWordsModel.f_oneNormal a), .int (S.O_FallingWordsModel.f_otherNormal a)])) := by
  obtain ⟨k, hk⟩ := va_pl_get (X := X) (f := wPF cyC cyI cyO4fe54 S) hL
  exact ⟨k, hk, hk.trans (congrArg (fun e => some (a, e)) (wAt_O_FallingWordsModel cyC cyI cyO4fe54 S h))⟩
theorem wSt_O_FallingWordsModel_f_s (cyC : ClassId) (cyI : ClassId) (cyO4fe54 : ClassId) (S : wPS) {a : Nat} (h : S.K a = 10) (v : Option Nat) (b : Nat) : va_up (wPF cyC cyI cyO4fe54 S) a (.inr (10, [va_rf v, va_rf (S.O_FallingWordsModel.f_was a), va_rf (S.O_FallingWordsModel.f_begun a), va_rf (S.O_FallingWordsModel.f_aside a), .int (S.O_FallingWordsModel.f_states a), va_rf (S.O_FallingWordsModel.f_text a), .int (S.O_FallingWordsModel.f_typed a), .int (S.O_FallingWordsModel.f_at a), .int (S.O_FallingWordsModel.f_reason a), .int (S.O_FallingWordsModel.f_cause a), .int (S.O_FallingWordsModel.f_read a), .int (S.O_FallingWordsModel.f_readLength a), .int (S.O_FallingWordsModel.f_chosenRule a), .int (S.O_FallingWordsModel.f_chosenPlace a), va_rf (S.O_FallingWordsModel.f_row a), va_rf (S.O_FallingWordsModel.f_rowRule a), .int (S.O_FallingWordsModel.f_rowSteps a), .int (S.O_FallingWordsModel.f_ringFrom a), va_rf (S.O_FallingWordsModel.f_found a), .int (S.O_FallingWordsModel.f_many a), .int (S.O_FallingWordsModel.f_oneRule a), .int (S.O_FallingWordsModel.f_otherRule a), .int (S.O_FallingWordsModel.f_overlapPlace a), .int (S.O_FallingWordsModel.f_oneWord a), .int (S.O_FallingWordsModel.f_otherWord a), .int (S.O_FallingWordsModel.f_oneNormal a), .int (S.O_FallingWordsModel.f_otherNormal a)])) b = wPF cyC cyI cyO4fe54 { S with O_FallingWordsModel := { S.O_FallingWordsModel with f_s := va_up S.O_FallingWordsModel.f_s a v } } b := by by_cases hb : b = a <;> first | (simp only [wPF, va_up_ne _ _ hb]; done) | (simp only [wPF, va_up, if_neg hb]; done) | simp [wPF, va_re, va_up, va_rf, hb, h]
theorem wPu_O_FallingWordsModel_f_s (cyC : ClassId) (cyI : ClassId) (cyO4fe54 : ClassId) (X : va_W) (S : wPS) {A : Nat → Prop} {a k : Nat} (hD : va_D A (X ++ va_pl S.L (wPF cyC cyI cyO4fe54 S))) (hL : a ∈ S.L) (h : S.K a = 10) (hk : (X ++ va_pl S.L (wPF cyC cyI cyO4fe54 S))[k]? = some (a, wPF cyC cyI cyO4fe54 S a)) (v : Option Nat) : (X ++ va_pl S.L (wPF cyC cyI cyO4fe54 S)).set k (a, .inr (10, [va_rf v, va_rf (S.O_FallingWordsModel.f_was a), va_rf (S.O_FallingWordsModel.f_begun a), va_rf (S.O_FallingWordsModel.f_aside a), .int (S.O_FallingWordsModel.f_states a), va_rf (S.O_FallingWordsModel.f_text a), .int (S.O_FallingWordsModel.f_typed a), .int (S.O_FallingWordsModel.f_at a), .int (S.O_FallingWordsModel.f_reason a), .int (S.O_FallingWordsModel.f_cause a), .int (S.O_FallingWordsModel.f_read a), .int (S.O_FallingWordsModel.f_readLength a), .int (S.O_FallingWordsModel.f_chosenRule a), .int (S.O_FallingWordsModel.f_chosenPlace a), va_rf (S.O_FallingWordsModel.f_row a), va_rf (S.O_FallingWordsModel.f_rowRule a), .int (S.O_FallingWordsModel.f_rowSteps a), .int (S.O_FallingWordsModel.f_ringFrom a), va_rf (S.O_FallingWordsModel.f_found a), .int (S.O_FallingWordsModel.f_many a), .int (S.O_FallingWordsModel.f_oneRule a), .int (S.O_FallingWordsModel.f_otherRule a), .int (S.O_FallingWordsModel.f_overlapPlace a), .int (S.O_FallingWordsModel.f_oneWord a), .int (S.O_FallingWordsModel.f_otherWord a), .int (S.O_FallingWordsModel.f_oneNormal a), .int (S.O_FallingWordsModel.f_otherNormal a)])) = X ++ va_pl S.L (wPF cyC cyI cyO4fe54 { S with O_FallingWordsModel := { S.O_FallingWordsModel with f_s := va_up S.O_FallingWordsModel.f_s a v } }) := by
  rw [va_pl_set hD hL hk]
  exact congrArg (fun l => X ++ l) (va_pl_congr (wSt_O_FallingWordsModel_f_s cyC cyI cyO4fe54 S h v))
theorem wSt_O_FallingWordsModel_f_was (cyC : ClassId) (cyI : ClassId) (cyO4fe54 : ClassId) (S : wPS) {a : Nat} (h : S.K a = 10) (v : Option Nat) (b : Nat) : va_up (wPF cyC cyI cyO4fe54 S) a (.inr (10, [va_rf (S.O_FallingWordsModel.f_s a), va_rf v, va_rf (S.O_FallingWordsModel.f_begun a), va_rf (S.O_FallingWordsModel.f_aside a), .int (S.O_FallingWordsModel.f_states a), va_rf (S.O_FallingWordsModel.f_text a), .int (S.O_FallingWordsModel.f_typed a), .int (S.O_FallingWordsModel.f_at a), .int (S.O_FallingWordsModel.f_reason a), .int (S.O_FallingWordsModel.f_cause a), .int (S.O_FallingWordsModel.f_read a), .int (S.O_FallingWordsModel.f_readLength a), .int (S.O_FallingWordsModel.f_chosenRule a), .int (S.O_FallingWordsModel.f_chosenPlace a), va_rf (S.O_FallingWordsModel.f_row a), va_rf (S.O_FallingWordsModel.f_rowRule a), .int (S.O_FallingWordsModel.f_rowSteps a), .int (S.O_FallingWordsModel.f_ringFrom a), va_rf (S.O_FallingWordsModel.f_found a), .int (S.O_FallingWordsModel.f_many a), .int (S.O_FallingWordsModel.f_oneRule a), .int (S.O_FallingWordsModel.f_otherRule a), .int (S.O_FallingWordsModel.f_overlapPlace a), .int (S.O_FallingWordsModel.f_oneWord a), .int (S.O_FallingWordsModel.f_otherWord a), .int (S.O_FallingWordsModel.f_oneNormal a), .int (S.O_FallingWordsModel.f_otherNormal a)])) b = wPF cyC cyI cyO4fe54 { S with O_FallingWordsModel := { S.O_FallingWordsModel with f_was := va_up S.O_FallingWordsModel.f_was a v } } b := by by_cases hb : b = a <;> first | (simp only [wPF, va_up_ne _ _ hb]; done) | (simp only [wPF, va_up, if_neg hb]; done) | simp [wPF, va_re, va_up, va_rf, hb, h]
theorem wPu_O_FallingWordsModel_f_was (cyC : ClassId) (cyI : ClassId) (cyO4fe54 : ClassId) (X : va_W) (S : wPS) {A : Nat → Prop} {a k : Nat} (hD : va_D A (X ++ va_pl S.L (wPF cyC cyI cyO4fe54 S))) (hL : a ∈ S.L) (h : S.K a = 10) (hk : (X ++ va_pl S.L (wPF cyC cyI cyO4fe54 S))[k]? = some (a, wPF cyC cyI cyO4fe54 S a)) (v : Option Nat) : (X ++ va_pl S.L (wPF cyC cyI cyO4fe54 S)).set k (a, .inr (10, [va_rf (S.O_FallingWordsModel.f_s a), va_rf v, va_rf (S.O_FallingWordsModel.f_begun a), va_rf (S.O_FallingWordsModel.f_aside a), .int (S.O_FallingWordsModel.f_states a), va_rf (S.O_FallingWordsModel.f_text a), .int (S.O_FallingWordsModel.f_typed a), .int (S.O_FallingWordsModel.f_at a), .int (S.O_FallingWordsModel.f_reason a), .int (S.O_FallingWordsModel.f_cause a), .int (S.O_FallingWordsModel.f_read a), .int (S.O_FallingWordsModel.f_readLength a), .int (S.O_FallingWordsModel.f_chosenRule a), .int (S.O_FallingWordsModel.f_chosenPlace a), va_rf (S.O_FallingWordsModel.f_row a), va_rf (S.O_FallingWordsModel.f_rowRule a), .int (S.O_FallingWordsModel.f_rowSteps a), .int (S.O_FallingWordsModel.f_ringFrom a), va_rf (S.O_FallingWordsModel.f_found a), .int (S.O_FallingWordsModel.f_many a), .int (S.O_FallingWordsModel.f_oneRule a), .int (S.O_FallingWordsModel.f_otherRule a), .int (S.O_FallingWordsModel.f_overlapPlace a), .int (S.O_FallingWordsModel.f_oneWord a), .int (S.O_FallingWordsModel.f_otherWord a), .int (S.O_FallingWordsModel.f_oneNormal a), .int (S.O_FallingWordsModel.f_otherNormal a)])) = X ++ va_pl S.L (wPF cyC cyI cyO4fe54 { S with O_FallingWordsModel := { S.O_FallingWordsModel with f_was := va_up S.O_FallingWordsModel.f_was a v } }) := by
  rw [va_pl_set hD hL hk]
  exact congrArg (fun l => X ++ l) (va_pl_congr (wSt_O_FallingWordsModel_f_was cyC cyI cyO4fe54 S h v))
theorem wSt_O_FallingWordsModel_f_begun (cyC : ClassId) (cyI : ClassId) (cyO4fe54 : ClassId) (S : wPS) {a : Nat} (h : S.K a = 10) (v : Option Nat) (b : Nat) : va_up (wPF cyC cyI cyO4fe54 S) a (.inr (10, [va_rf (S.O_FallingWordsModel.f_s a), va_rf (S.O_FallingWordsModel.f_was a), va_rf v, va_rf (S.O_FallingWordsModel.f_aside a), .int (S.O_FallingWordsModel.f_states a), va_rf (S.O_FallingWordsModel.f_text a), .int (S.O_FallingWordsModel.f_typed a), .int (S.O_FallingWordsModel.f_at a), .int (S.O_FallingWordsModel.f_reason a), .int (S.O_FallingWordsModel.f_cause a), .int (S.O_FallingWordsModel.f_read a), .int (S.O_FallingWordsModel.f_readLength a), .int (S.O_FallingWordsModel.f_chosenRule a), .int (S.O_FallingWordsModel.f_chosenPlace a), va_rf (S.O_FallingWordsModel.f_row a), va_rf (S.O_FallingWordsModel.f_rowRule a), .int (S.O_FallingWordsModel.f_rowSteps a), .int (S.O_FallingWordsModel.f_ringFrom a), va_rf (S.O_FallingWordsModel.f_found a), .int (S.O_FallingWordsModel.f_many a), .int (S.O_FallingWordsModel.f_oneRule a), .int (S.O_FallingWordsModel.f_otherRule a), .int (S.O_FallingWordsModel.f_overlapPlace a), .int (S.O_FallingWordsModel.f_oneWord a), .int (S.O_FallingWordsModel.f_otherWord a), .int (S.O_FallingWordsModel.f_oneNormal a), .int (S.O_FallingWordsModel.f_otherNormal a)])) b = wPF cyC cyI cyO4fe54 { S with O_FallingWordsModel := { S.O_FallingWordsModel with f_begun := va_up S.O_FallingWordsModel.f_begun a v } } b := by by_cases hb : b = a <;> first | (simp only [wPF, va_up_ne _ _ hb]; done) | (simp only [wPF, va_up, if_neg hb]; done) | simp [wPF, va_re, va_up, va_rf, hb, h]
theorem wPu_O_FallingWordsModel_f_begun (cyC : ClassId) (cyI : ClassId) (cyO4fe54 : ClassId) (X : va_W) (S : wPS) {A : Nat → Prop} {a k : Nat} (hD : va_D A (X ++ va_pl S.L (wPF cyC cyI cyO4fe54 S))) (hL : a ∈ S.L) (h : S.K a = 10) (hk : (X ++ va_pl S.L (wPF cyC cyI cyO4fe54 S))[k]? = some (a, wPF cyC cyI cyO4fe54 S a)) (v : Option Nat) : (X ++ va_pl S.L (wPF cyC cyI cyO4fe54 S)).set k (a, .inr (10, [va_rf (S.O_FallingWordsModel.f_s a), va_rf (S.O_FallingWordsModel.f_was a), va_rf v, va_rf (S.O_FallingWordsModel.f_aside a), .int (S.O_FallingWordsModel.f_states a), va_rf (S.O_FallingWordsModel.f_text a), .int (S.O_FallingWordsModel.f_typed a), .int (S.O_FallingWordsModel.f_at a), .int (S.O_FallingWordsModel.f_reason a), .int (S.O_FallingWordsModel.f_cause a), .int (S.O_FallingWordsModel.f_read a), .int (S.O_FallingWordsModel.f_readLength a), .int (S.O_FallingWordsModel.f_chosenRule a), .int (S.O_FallingWordsModel.f_chosenPlace a), va_rf (S.O_FallingWordsModel.f_row a), va_rf (S.O_FallingWordsModel.f_rowRule a), .int (S.O_FallingWordsModel.f_rowSteps a), .int (S.O_FallingWordsModel.f_ringFrom a), va_rf (S.O_FallingWordsModel.f_found a), .int (S.O_FallingWordsModel.f_many a), .int (S.O_FallingWordsModel.f_oneRule a), .int (S.O_FallingWordsModel.f_otherRule a), .int (S.O_FallingWordsModel.f_overlapPlace a), .int (S.O_FallingWordsModel.f_oneWord a), .int (S.O_FallingWordsModel.f_otherWord a), .int (S.O_FallingWordsModel.f_oneNormal a), .int (S.O_FallingWordsModel.f_otherNormal a)])) = X ++ va_pl S.L (wPF cyC cyI cyO4fe54 { S with O_FallingWordsModel := { S.O_FallingWordsModel with f_begun := va_up S.O_FallingWordsModel.f_begun a v } }) := by
  rw [va_pl_set hD hL hk]
  exact congrArg (fun l => X ++ l) (va_pl_congr (wSt_O_FallingWordsModel_f_begun cyC cyI cyO4fe54 S h v))
theorem wSt_O_FallingWordsModel_f_aside (cyC : ClassId) (cyI : ClassId) (cyO4fe54 : ClassId) (S : wPS) {a : Nat} (h : S.K a = 10) (v : Option Nat) (b : Nat) : va_up (wPF cyC cyI cyO4fe54 S) a (.inr (10, [va_rf (S.O_FallingWordsModel.f_s a), va_rf (S.O_FallingWordsModel.f_was a), va_rf (S.O_FallingWordsModel.f_begun a), va_rf v, .int (S.O_FallingWordsModel.f_states a), va_rf (S.O_FallingWordsModel.f_text a), .int (S.O_FallingWordsModel.f_typed a), .int (S.O_FallingWordsModel.f_at a), .int (S.O_FallingWordsModel.f_reason a), .int (S.O_FallingWordsModel.f_cause a), .int (S.O_FallingWordsModel.f_read a), .int (S.O_FallingWordsModel.f_readLength a), .int (S.O_FallingWordsModel.f_chosenRule a), .int (S.O_FallingWordsModel.f_chosenPlace a), va_rf (S.O_FallingWordsModel.f_row a), va_rf (S.O_FallingWordsModel.f_rowRule a), .int (S.O_FallingWordsModel.f_rowSteps a), .int (S.O_FallingWordsModel.f_ringFrom a), va_rf (S.O_FallingWordsModel.f_found a), .int (S.O_FallingWordsModel.f_many a), .int (S.O_FallingWordsModel.f_oneRule a), .int (S.O_FallingWordsModel.f_otherRule a), .int (S.O_FallingWordsModel.f_overlapPlace a), .int (S.O_FallingWordsModel.f_oneWord a), .int (S.O_FallingWordsModel.f_otherWord a), .int (S.O_FallingWordsModel.f_oneNormal a), .int (S.O_FallingWordsModel.f_otherNormal a)])) b = wPF cyC cyI cyO4fe54 { S with O_FallingWordsModel := { S.O_FallingWordsModel with f_aside := va_up S.O_FallingWordsModel.f_aside a v } } b := by by_cases hb : b = a <;> first | (simp only [wPF, va_up_ne _ _ hb]; done) | (simp only [wPF, va_up, if_neg hb]; done) | simp [wPF, va_re, va_up, va_rf, hb, h]
theorem wPu_O_FallingWordsModel_f_aside (cyC : ClassId) (cyI : ClassId) (cyO4fe54 : ClassId) (X : va_W) (S : wPS) {A : Nat → Prop} {a k : Nat} (hD : va_D A (X ++ va_pl S.L (wPF cyC cyI cyO4fe54 S))) (hL : a ∈ S.L) (h : S.K a = 10) (hk : (X ++ va_pl S.L (wPF cyC cyI cyO4fe54 S))[k]? = some (a, wPF cyC cyI cyO4fe54 S a)) (v : Option Nat) : (X ++ va_pl S.L (wPF cyC cyI cyO4fe54 S)).set k (a, .inr (10, [va_rf (S.O_FallingWordsModel.f_s a), va_rf (S.O_FallingWordsModel.f_was a), va_rf (S.O_FallingWordsModel.f_begun a), va_rf v, .int (S.O_FallingWordsModel.f_states a), va_rf (S.O_FallingWordsModel.f_text a), .int (S.O_FallingWordsModel.f_typed a), .int (S.O_FallingWordsModel.f_at a), .int (S.O_FallingWordsModel.f_reason a), .int (S.O_FallingWordsModel.f_cause a), .int (S.O_FallingWordsModel.f_read a), .int (S.O_FallingWordsModel.f_readLength a), .int (S.O_FallingWordsModel.f_chosenRule a), .int (S.O_FallingWordsModel.f_chosenPlace a), va_rf (S.O_FallingWordsModel.f_row a), va_rf (S.O_FallingWordsModel.f_rowRule a), .int (S.O_FallingWordsModel.f_rowSteps a), .int (S.O_FallingWordsModel.f_ringFrom a), va_rf (S.O_FallingWordsModel.f_found a), .int (S.O_FallingWordsModel.f_many a), .int (S.O_FallingWordsModel.f_oneRule a), .int (S.O_FallingWordsModel.f_otherRule a), .int (S.O_FallingWordsModel.f_overlapPlace a), .int (S.O_FallingWordsModel.f_oneWord a), .int (S.O_FallingWordsModel.f_otherWord a), .int (S.O_FallingWordsModel.f_oneNormal a), .int (S.O_FallingWordsModel.f_otherNormal a)])) = X ++ va_pl S.L (wPF cyC cyI cyO4fe54 { S with O_FallingWordsModel := { S.O_FallingWordsModel with f_aside := va_up S.O_FallingWordsModel.f_aside a v } }) := by
  rw [va_pl_set hD hL hk]
  exact congrArg (fun l => X ++ l) (va_pl_congr (wSt_O_FallingWordsModel_f_aside cyC cyI cyO4fe54 S h v))
theorem wSt_O_FallingWordsModel_f_states (cyC : ClassId) (cyI : ClassId) (cyO4fe54 : ClassId) (S : wPS) {a : Nat} (h : S.K a = 10) (v : Int32) (b : Nat) : va_up (wPF cyC cyI cyO4fe54 S) a (.inr (10, [va_rf (S.O_FallingWordsModel.f_s a), va_rf (S.O_FallingWordsModel.f_was a), va_rf (S.O_FallingWordsModel.f_begun a), va_rf (S.O_FallingWordsModel.f_aside a), .int v, va_rf (S.O_FallingWordsModel.f_text a), .int (S.O_FallingWordsModel.f_typed a), .int (S.O_FallingWordsModel.f_at a), .int (S.O_FallingWordsModel.f_reason a), .int (S.O_FallingWordsModel.f_cause a), .int (S.O_FallingWordsModel.f_read a), .int (S.O_FallingWordsModel.f_readLength a), .int (S.O_FallingWordsModel.f_chosenRule a), .int (S.O_FallingWordsModel.f_chosenPlace a), va_rf (S.O_FallingWordsModel.f_row a), va_rf (S.O_FallingWordsModel.f_rowRule a), .int (S.O_FallingWordsModel.f_rowSteps a), .int (S.O_FallingWordsModel.f_ringFrom a), va_rf (S.O_FallingWordsModel.f_found a), .int (S.O_FallingWordsModel.f_many a), .int (S.O_FallingWordsModel.f_oneRule a), .int (S.O_FallingWordsModel.f_otherRule a), .int (S.O_FallingWordsModel.f_overlapPlace a), .int (S.O_FallingWordsModel.f_oneWord a), .int (S.O_FallingWordsModel.f_otherWord a), .int (S.O_FallingWordsModel.f_oneNormal a), .int (S.O_FallingWordsModel.f_otherNormal a)])) b = wPF cyC cyI cyO4fe54 { S with O_FallingWordsModel := { S.O_FallingWordsModel with f_states := va_up S.O_FallingWordsModel.f_states a v } } b := by by_cases hb : b = a <;> first | (simp only [wPF, va_up_ne _ _ hb]; done) | (simp only [wPF, va_up, if_neg hb]; done) | simp [wPF, va_re, va_up, va_rf, hb, h]
theorem wPu_O_FallingWordsModel_f_states (cyC : ClassId) (cyI : ClassId) (cyO4fe54 : ClassId) (X : va_W) (S : wPS) {A : Nat → Prop} {a k : Nat} (hD : va_D A (X ++ va_pl S.L (wPF cyC cyI cyO4fe54 S))) (hL : a ∈ S.L) (h : S.K a = 10) (hk : (X ++ va_pl S.L (wPF cyC cyI cyO4fe54 S))[k]? = some (a, wPF cyC cyI cyO4fe54 S a)) (v : Int32) : (X ++ va_pl S.L (wPF cyC cyI cyO4fe54 S)).set k (a, .inr (10, [va_rf (S.O_FallingWordsModel.f_s a), va_rf (S.O_FallingWordsModel.f_was a), va_rf (S.O_FallingWordsModel.f_begun a), va_rf (S.O_FallingWordsModel.f_aside a), .int v, va_rf (S.O_FallingWordsModel.f_text a), .int (S.O_FallingWordsModel.f_typed a), .int (S.O_FallingWordsModel.f_at a), .int (S.O_FallingWordsModel.f_reason a), .int (S.O_FallingWordsModel.f_cause a), .int (S.O_FallingWordsModel.f_read a), .int (S.O_FallingWordsModel.f_readLength a), .int (S.O_FallingWordsModel.f_chosenRule a), .int (S.O_FallingWordsModel.f_chosenPlace a), va_rf (S.O_FallingWordsModel.f_row a), va_rf (S.O_FallingWordsModel.f_rowRule a), .int (S.O_FallingWordsModel.f_rowSteps a), .int (S.O_FallingWordsModel.f_ringFrom a), va_rf (S.O_FallingWordsModel.f_found a), .int (S.O_FallingWordsModel.f_many a), .int (S.O_FallingWordsModel.f_oneRule a), .int (S.O_FallingWordsModel.f_otherRule a), .int (S.O_FallingWordsModel.f_overlapPlace a), .int (S.O_FallingWordsModel.f_oneWord a), .int (S.O_FallingWordsModel.f_otherWord a), .int (S.O_FallingWordsModel.f_oneNormal a), .int (S.O_FallingWordsModel.f_otherNormal a)])) = X ++ va_pl S.L (wPF cyC cyI cyO4fe54 { S with O_FallingWordsModel := { S.O_FallingWordsModel with f_states := va_up S.O_FallingWordsModel.f_states a v } }) := by
  rw [va_pl_set hD hL hk]
  exact congrArg (fun l => X ++ l) (va_pl_congr (wSt_O_FallingWordsModel_f_states cyC cyI cyO4fe54 S h v))
theorem wSt_O_FallingWordsModel_f_text (cyC : ClassId) (cyI : ClassId) (cyO4fe54 : ClassId) (S : wPS) {a : Nat} (h : S.K a = 10) (v : Option Nat) (b : Nat) : va_up (wPF cyC cyI cyO4fe54 S) a (.inr (10, [va_rf (S.O_FallingWordsModel.f_s a), va_rf (S.O_FallingWordsModel.f_was a), va_rf (S.O_FallingWordsModel.f_begun a), va_rf (S.O_FallingWordsModel.f_aside a), .int (S.O_FallingWordsModel.f_states a), va_rf v, .int (S.O_FallingWordsModel.f_typed a), .int (S.O_FallingWordsModel.f_at a), .int (S.O_FallingWordsModel.f_reason a), .int (S.O_FallingWordsModel.f_cause a), .int (S.O_FallingWordsModel.f_read a), .int (S.O_FallingWordsModel.f_readLength a), .int (S.O_FallingWordsModel.f_chosenRule a), .int (S.O_FallingWordsModel.f_chosenPlace a), va_rf (S.O_FallingWordsModel.f_row a), va_rf (S.O_FallingWordsModel.f_rowRule a), .int (S.O_FallingWordsModel.f_rowSteps a), .int (S.O_FallingWordsModel.f_ringFrom a), va_rf (S.O_FallingWordsModel.f_found a), .int (S.O_FallingWordsModel.f_many a), .int (S.O_FallingWordsModel.f_oneRule a), .int (S.O_FallingWordsModel.f_otherRule a), .int (S.O_FallingWordsModel.f_overlapPlace a), .int (S.O_FallingWordsModel.f_oneWord a), .int (S.O_FallingWordsModel.f_otherWord a), .int (S.O_FallingWordsModel.f_oneNormal a), .int (S.O_FallingWordsModel.f_otherNormal a)])) b = wPF cyC cyI cyO4fe54 { S with O_FallingWordsModel := { S.O_FallingWordsModel with f_text := va_up S.O_FallingWordsModel.f_text a v } } b := by by_cases hb : b = a <;> first | (simp only [wPF, va_up_ne _ _ hb]; done) | (simp only [wPF, va_up, if_neg hb]; done) | simp [wPF, va_re, va_up, va_rf, hb, h]
theorem wPu_O_FallingWordsModel_f_text (cyC : ClassId) (cyI : ClassId) (cyO4fe54 : ClassId) (X : va_W) (S : wPS) {A : Nat → Prop} {a k : Nat} (hD : va_D A (X ++ va_pl S.L (wPF cyC cyI cyO4fe54 S))) (hL : a ∈ S.L) (h : S.K a = 10) (hk : (X ++ va_pl S.L (wPF cyC cyI cyO4fe54 S))[k]? = some (a, wPF cyC cyI cyO4fe54 S a)) (v : Option Nat) : (X ++ va_pl S.L (wPF cyC cyI cyO4fe54 S)).set k (a, .inr (10, [va_rf (S.O_FallingWordsModel.f_s a), va_rf (S.O_FallingWordsModel.f_was a), va_rf (S.O_FallingWordsModel.f_begun a), va_rf (S.O_FallingWordsModel.f_aside a), .int (S.O_FallingWordsModel.f_states a), va_rf v, .int (S.O_FallingWordsModel.f_typed a), .int (S.O_FallingWordsModel.f_at a), .int (S.O_FallingWordsModel.f_reason a), .int (S.O_FallingWordsModel.f_cause a), .int (S.O_FallingWordsModel.f_read a), .int (S.O_FallingWordsModel.f_readLength a), .int (S.O_FallingWordsModel.f_chosenRule a), .int (S.O_FallingWordsModel.f_chosenPlace a), va_rf (S.O_FallingWordsModel.f_row a), va_rf (S.O_FallingWordsModel.f_rowRule a), .int (S.O_FallingWordsModel.f_rowSteps a), .int (S.O_FallingWordsModel.f_ringFrom a), va_rf (S.O_FallingWordsModel.f_found a), .int (S.O_FallingWordsModel.f_many a), .int (S.O_FallingWordsModel.f_oneRule a), .int (S.O_FallingWordsModel.f_otherRule a), .int (S.O_FallingWordsModel.f_overlapPlace a), .int (S.O_FallingWordsModel.f_oneWord a), .int (S.O_FallingWordsModel.f_otherWord a), .int (S.O_FallingWordsModel.f_oneNormal a), .int (S.O_FallingWordsModel.f_otherNormal a)])) = X ++ va_pl S.L (wPF cyC cyI cyO4fe54 { S with O_FallingWordsModel := { S.O_FallingWordsModel with f_text := va_up S.O_FallingWordsModel.f_text a v } }) := by
  rw [va_pl_set hD hL hk]
  exact congrArg (fun l => X ++ l) (va_pl_congr (wSt_O_FallingWordsModel_f_text cyC cyI cyO4fe54 S h v))
theorem wSt_O_FallingWordsModel_f_typed (cyC : ClassId) (cyI : ClassId) (cyO4fe54 : ClassId) (S : wPS) {a : Nat} (h : S.K a = 10) (v : Int32) (b : Nat) : va_up (wPF cyC cyI cyO4fe54 S) a (.inr (10, [va_rf (S.O_FallingWordsModel.f_s a), va_rf (S.O_FallingWordsModel.f_was a), va_rf (S.O_FallingWordsModel.f_begun a), va_rf (S.O_FallingWordsModel.f_aside a), .int (S.O_FallingWordsModel.f_states a), va_rf (S.O_FallingWordsModel.f_text a), .int v, .int (S.O_FallingWordsModel.f_at a), .int (S.O_FallingWordsModel.f_reason a), .int (S.O_FallingWordsModel.f_cause a), .int (S.O_FallingWordsModel.f_read a), .int (S.O_FallingWordsModel.f_readLength a), .int (S.O_FallingWordsModel.f_chosenRule a), .int (S.O_FallingWordsModel.f_chosenPlace a), va_rf (S.O_FallingWordsModel.f_row a), va_rf (S.O_FallingWordsModel.f_rowRule a), .int (S.O_FallingWordsModel.f_rowSteps a), .int (S.O_FallingWordsModel.f_ringFrom a), va_rf (S.O_FallingWordsModel.f_found a), .int (S.O_FallingWordsModel.f_many a), .int (S.O_FallingWordsModel.f_oneRule a), .int (S.O_FallingWordsModel.f_otherRule a), .int (S.O_FallingWordsModel.f_overlapPlace a), .int (S.O_FallingWordsModel.f_oneWord a), .int (S.O_FallingWordsModel.f_otherWord a), .int (S.O_FallingWordsModel.f_oneNormal a), .int (S.O_FallingWordsModel.f_otherNormal a)])) b = wPF cyC cyI cyO4fe54 { S with O_FallingWordsModel := { S.O_FallingWordsModel with f_typed := va_up S.O_FallingWordsModel.f_typed a v } } b := by by_cases hb : b = a <;> first | (simp only [wPF, va_up_ne _ _ hb]; done) | (simp only [wPF, va_up, if_neg hb]; done) | simp [wPF, va_re, va_up, va_rf, hb, h]
theorem wPu_O_FallingWordsModel_f_typed (cyC : ClassId) (cyI : ClassId) (cyO4fe54 : ClassId) (X : va_W) (S : wPS) {A : Nat → Prop} {a k : Nat} (hD : va_D A (X ++ va_pl S.L (wPF cyC cyI cyO4fe54 S))) (hL : a ∈ S.L) (h : S.K a = 10) (hk : (X ++ va_pl S.L (wPF cyC cyI cyO4fe54 S))[k]? = some (a, wPF cyC cyI cyO4fe54 S a)) (v : Int32) : (X ++ va_pl S.L (wPF cyC cyI cyO4fe54 S)).set k (a, .inr (10, [va_rf (S.O_FallingWordsModel.f_s a), va_rf (S.O_FallingWordsModel.f_was a), va_rf (S.O_FallingWordsModel.f_begun a), va_rf (S.O_FallingWordsModel.f_aside a), .int (S.O_FallingWordsModel.f_states a), va_rf (S.O_FallingWordsModel.f_text a), .int v, .int (S.O_FallingWordsModel.f_at a), .int (S.O_FallingWordsModel.f_reason a), .int (S.O_FallingWordsModel.f_cause a), .int (S.O_FallingWordsModel.f_read a), .int (S.O_FallingWordsModel.f_readLength a), .int (S.O_FallingWordsModel.f_chosenRule a), .int (S.O_FallingWordsModel.f_chosenPlace a), va_rf (S.O_FallingWordsModel.f_row a), va_rf (S.O_FallingWordsModel.f_rowRule a), .int (S.O_FallingWordsModel.f_rowSteps a), .int (S.O_FallingWordsModel.f_ringFrom a), va_rf (S.O_FallingWordsModel.f_found a), .int (S.O_FallingWordsModel.f_many a), .int (S.O_FallingWordsModel.f_oneRule a), .int (S.O_FallingWordsModel.f_otherRule a), .int (S.O_FallingWordsModel.f_overlapPlace a), .int (S.O_FallingWordsModel.f_oneWord a), .int (S.O_FallingWordsModel.f_otherWord a), .int (S.O_FallingWordsModel.f_oneNormal a), .int (S.O_FallingWordsModel.f_otherNormal a)])) = X ++ va_pl S.L (wPF cyC cyI cyO4fe54 { S with O_FallingWordsModel := { S.O_FallingWordsModel with f_typed := va_up S.O_FallingWordsModel.f_typed a v } }) := by
  rw [va_pl_set hD hL hk]
  exact congrArg (fun l => X ++ l) (va_pl_congr (wSt_O_FallingWordsModel_f_typed cyC cyI cyO4fe54 S h v))
theorem wSt_O_FallingWordsModel_f_at (cyC : ClassId) (cyI : ClassId) (cyO4fe54 : ClassId) (S : wPS) {a : Nat} (h : S.K a = 10) (v : Int32) (b : Nat) : va_up (wPF cyC cyI cyO4fe54 S) a (.inr (10, [va_rf (S.O_FallingWordsModel.f_s a), va_rf (S.O_FallingWordsModel.f_was a), va_rf (S.O_FallingWordsModel.f_begun a), va_rf (S.O_FallingWordsModel.f_aside a), .int (S.O_FallingWordsModel.f_states a), va_rf (S.O_FallingWordsModel.f_text a), .int (S.O_FallingWordsModel.f_typed a), .int v, .int (S.O_FallingWordsModel.f_reason a), .int (S.O_FallingWordsModel.f_cause a), .int (S.O_FallingWordsModel.f_read a), .int (S.O_FallingWordsModel.f_readLength a), .int (S.O_FallingWordsModel.f_chosenRule a), .int (S.O_FallingWordsModel.f_chosenPlace a), va_rf (S.O_FallingWordsModel.f_row a), va_rf (S.O_FallingWordsModel.f_rowRule a), .int (S.O_FallingWordsModel.f_rowSteps a), .int (S.O_FallingWordsModel.f_ringFrom a), va_rf (S.O_FallingWordsModel.f_found a), .int (S.O_FallingWordsModel.f_many a), .int (S.O_FallingWordsModel.f_oneRule a), .int (S.O_FallingWordsModel.f_otherRule a), .int (S.O_FallingWordsModel.f_overlapPlace a), .int (S.O_FallingWordsModel.f_oneWord a), .int (S.O_FallingWordsModel.f_otherWord a), .int (S.O_FallingWordsModel.f_oneNormal a), .int (S.O_FallingWordsModel.f_otherNormal a)])) b = wPF cyC cyI cyO4fe54 { S with O_FallingWordsModel := { S.O_FallingWordsModel with f_at := va_up S.O_FallingWordsModel.f_at a v } } b := by by_cases hb : b = a <;> first | (simp only [wPF, va_up_ne _ _ hb]; done) | (simp only [wPF, va_up, if_neg hb]; done) | simp [wPF, va_re, va_up, va_rf, hb, h]
theorem wPu_O_FallingWordsModel_f_at (cyC : ClassId) (cyI : ClassId) (cyO4fe54 : ClassId) (X : va_W) (S : wPS) {A : Nat → Prop} {a k : Nat} (hD : va_D A (X ++ va_pl S.L (wPF cyC cyI cyO4fe54 S))) (hL : a ∈ S.L) (h : S.K a = 10) (hk : (X ++ va_pl S.L (wPF cyC cyI cyO4fe54 S))[k]? = some (a, wPF cyC cyI cyO4fe54 S a)) (v : Int32) : (X ++ va_pl S.L (wPF cyC cyI cyO4fe54 S)).set k (a, .inr (10, [va_rf (S.O_FallingWordsModel.f_s a), va_rf (S.O_FallingWordsModel.f_was a), va_rf (S.O_FallingWordsModel.f_begun a), va_rf (S.O_FallingWordsModel.f_aside a), .int (S.O_FallingWordsModel.f_states a), va_rf (S.O_FallingWordsModel.f_text a), .int (S.O_FallingWordsModel.f_typed a), .int v, .int (S.O_FallingWordsModel.f_reason a), .int (S.O_FallingWordsModel.f_cause a), .int (S.O_FallingWordsModel.f_read a), .int (S.O_FallingWordsModel.f_readLength a), .int (S.O_FallingWordsModel.f_chosenRule a), .int (S.O_FallingWordsModel.f_chosenPlace a), va_rf (S.O_FallingWordsModel.f_row a), va_rf (S.O_FallingWordsModel.f_rowRule a), .int (S.O_FallingWordsModel.f_rowSteps a), .int (S.O_FallingWordsModel.f_ringFrom a), va_rf (S.O_FallingWordsModel.f_found a), .int (S.O_FallingWordsModel.f_many a), .int (S.O_FallingWordsModel.f_oneRule a), .int (S.O_FallingWordsModel.f_otherRule a), .int (S.O_FallingWordsModel.f_overlapPlace a), .int (S.O_FallingWordsModel.f_oneWord a), .int (S.O_FallingWordsModel.f_otherWord a), .int (S.O_FallingWordsModel.f_oneNormal a), .int (S.O_FallingWordsModel.f_otherNormal a)])) = X ++ va_pl S.L (wPF cyC cyI cyO4fe54 { S with O_FallingWordsModel := { S.O_FallingWordsModel with f_at := va_up S.O_FallingWordsModel.f_at a v } }) := by
  rw [va_pl_set hD hL hk]
  exact congrArg (fun l => X ++ l) (va_pl_congr (wSt_O_FallingWordsModel_f_at cyC cyI cyO4fe54 S h v))
theorem wSt_O_FallingWordsModel_f_reason (cyC : ClassId) (cyI : ClassId) (cyO4fe54 : ClassId) (S : wPS) {a : Nat} (h : S.K a = 10) (v : Int32) (b : Nat) : va_up (wPF cyC cyI cyO4fe54 S) a (.inr (10, [va_rf (S.O_FallingWordsModel.f_s a), va_rf (S.O_FallingWordsModel.f_was a), va_rf (S.O_FallingWordsModel.f_begun a), va_rf (S.O_FallingWordsModel.f_aside a), .int (S.O_FallingWordsModel.f_states a), va_rf (S.O_FallingWordsModel.f_text a), .int (S.O_FallingWordsModel.f_typed a), .int (S.O_FallingWordsModel.f_at a), .int v, .int (S.O_FallingWordsModel.f_cause a), .int (S.O_FallingWordsModel.f_read a), .int (S.O_FallingWordsModel.f_readLength a), .int (S.O_FallingWordsModel.f_chosenRule a), .int (S.O_FallingWordsModel.f_chosenPlace a), va_rf (S.O_FallingWordsModel.f_row a), va_rf (S.O_FallingWordsModel.f_rowRule a), .int (S.O_FallingWordsModel.f_rowSteps a), .int (S.O_FallingWordsModel.f_ringFrom a), va_rf (S.O_FallingWordsModel.f_found a), .int (S.O_FallingWordsModel.f_many a), .int (S.O_FallingWordsModel.f_oneRule a), .int (S.O_FallingWordsModel.f_otherRule a), .int (S.O_FallingWordsModel.f_overlapPlace a), .int (S.O_FallingWordsModel.f_oneWord a), .int (S.O_FallingWordsModel.f_otherWord a), .int (S.O_FallingWordsModel.f_oneNormal a), .int (S.O_FallingWordsModel.f_otherNormal a)])) b = wPF cyC cyI cyO4fe54 { S with O_FallingWordsModel := { S.O_FallingWordsModel with f_reason := va_up S.O_FallingWordsModel.f_reason a v } } b := by by_cases hb : b = a <;> first | (simp only [wPF, va_up_ne _ _ hb]; done) | (simp only [wPF, va_up, if_neg hb]; done) | simp [wPF, va_re, va_up, va_rf, hb, h]
theorem wPu_O_FallingWordsModel_f_reason (cyC : ClassId) (cyI : ClassId) (cyO4fe54 : ClassId) (X : va_W) (S : wPS) {A : Nat → Prop} {a k : Nat} (hD : va_D A (X ++ va_pl S.L (wPF cyC cyI cyO4fe54 S))) (hL : a ∈ S.L) (h : S.K a = 10) (hk : (X ++ va_pl S.L (wPF cyC cyI cyO4fe54 S))[k]? = some (a, wPF cyC cyI cyO4fe54 S a)) (v : Int32) : (X ++ va_pl S.L (wPF cyC cyI cyO4fe54 S)).set k (a, .inr (10, [va_rf (S.O_FallingWordsModel.f_s a), va_rf (S.O_FallingWordsModel.f_was a), va_rf (S.O_FallingWordsModel.f_begun a), va_rf (S.O_FallingWordsModel.f_aside a), .int (S.O_FallingWordsModel.f_states a), va_rf (S.O_FallingWordsModel.f_text a), .int (S.O_FallingWordsModel.f_typed a), .int (S.O_FallingWordsModel.f_at a), .int v, .int (S.O_FallingWordsModel.f_cause a), .int (S.O_FallingWordsModel.f_read a), .int (S.O_FallingWordsModel.f_readLength a), .int (S.O_FallingWordsModel.f_chosenRule a), .int (S.O_FallingWordsModel.f_chosenPlace a), va_rf (S.O_FallingWordsModel.f_row a), va_rf (S.O_FallingWordsModel.f_rowRule a), .int (S.O_FallingWordsModel.f_rowSteps a), .int (S.O_FallingWordsModel.f_ringFrom a), va_rf (S.O_FallingWordsModel.f_found a), .int (S.O_FallingWordsModel.f_many a), .int (S.O_FallingWordsModel.f_oneRule a), .int (S.O_FallingWordsModel.f_otherRule a), .int (S.O_FallingWordsModel.f_overlapPlace a), .int (S.O_FallingWordsModel.f_oneWord a), .int (S.O_FallingWordsModel.f_otherWord a), .int (S.O_FallingWordsModel.f_oneNormal a), .int (S.O_FallingWordsModel.f_otherNormal a)])) = X ++ va_pl S.L (wPF cyC cyI cyO4fe54 { S with O_FallingWordsModel := { S.O_FallingWordsModel with f_reason := va_up S.O_FallingWordsModel.f_reason a v } }) := by
  rw [va_pl_set hD hL hk]
  exact congrArg (fun l => X ++ l) (va_pl_congr (wSt_O_FallingWordsModel_f_reason cyC cyI cyO4fe54 S h v))
theorem wSt_O_FallingWordsModel_f_cause (cyC : ClassId) (cyI : ClassId) (cyO4fe54 : ClassId) (S : wPS) {a : Nat} (h : S.K a = 10) (v : Int32) (b : Nat) : va_up (wPF cyC cyI cyO4fe54 S) a (.inr (10, [va_rf (S.O_FallingWordsModel.f_s a), va_rf (S.O_FallingWordsModel.f_was a), va_rf (S.O_FallingWordsModel.f_begun a), va_rf (S.O_FallingWordsModel.f_aside a), .int (S.O_FallingWordsModel.f_states a), va_rf (S.O_FallingWordsModel.f_text a), .int (S.O_FallingWordsModel.f_typed a), .int (S.O_FallingWordsModel.f_at a), .int (S.O_FallingWordsModel.f_reason a), .int v, .int (S.O_FallingWordsModel.f_read a), .int (S.O_FallingWordsModel.f_readLength a), .int (S.O_FallingWordsModel.f_chosenRule a), .int (S.O_FallingWordsModel.f_chosenPlace a), va_rf (S.O_FallingWordsModel.f_row a), va_rf (S.O_FallingWordsModel.f_rowRule a), .int (S.O_FallingWordsModel.f_rowSteps a), .int (S.O_FallingWordsModel.f_ringFrom a), va_rf (S.O_FallingWordsModel.f_found a), .int (S.O_FallingWordsModel.f_many a), .int (S.O_FallingWordsModel.f_oneRule a), .int (S.O_FallingWordsModel.f_otherRule a), .int (S.O_FallingWordsModel.f_overlapPlace a), .int (S.O_FallingWordsModel.f_oneWord a), .int (S.O_FallingWordsModel.f_otherWord a), .int (S.O_FallingWordsModel.f_oneNormal a), .int (S.O_FallingWordsModel.f_otherNormal a)])) b = wPF cyC cyI cyO4fe54 { S with O_FallingWordsModel := { S.O_FallingWordsModel with f_cause := va_up S.O_FallingWordsModel.f_cause a v } } b := by by_cases hb : b = a <;> first | (simp only [wPF, va_up_ne _ _ hb]; done) | (simp only [wPF, va_up, if_neg hb]; done) | simp [wPF, va_re, va_up, va_rf, hb, h]
theorem wPu_O_FallingWordsModel_f_cause (cyC : ClassId) (cyI : ClassId) (cyO4fe54 : ClassId) (X : va_W) (S : wPS) {A : Nat → Prop} {a k : Nat} (hD : va_D A (X ++ va_pl S.L (wPF cyC cyI cyO4fe54 S))) (hL : a ∈ S.L) (h : S.K a = 10) (hk : (X ++ va_pl S.L (wPF cyC cyI cyO4fe54 S))[k]? = some (a, wPF cyC cyI cyO4fe54 S a)) (v : Int32) : (X ++ va_pl S.L (wPF cyC cyI cyO4fe54 S)).set k (a, .inr (10, [va_rf (S.O_FallingWordsModel.f_s a), va_rf (S.O_FallingWordsModel.f_was a), va_rf (S.O_FallingWordsModel.f_begun a), va_rf (S.O_FallingWordsModel.f_aside a), .int (S.O_FallingWordsModel.f_states a), va_rf (S.O_FallingWordsModel.f_text a), .int (S.O_FallingWordsModel.f_typed a), .int (S.O_FallingWordsModel.f_at a), .int (S.O_FallingWordsModel.f_reason a), .int v, .int (S.O_FallingWordsModel.f_read a), .int (S.O_FallingWordsModel.f_readLength a), .int (S.O_FallingWordsModel.f_chosenRule a), .int (S.O_FallingWordsModel.f_chosenPlace a), va_rf (S.O_FallingWordsModel.f_row a), va_rf (S.O_FallingWordsModel.f_rowRule a), .int (S.O_FallingWordsModel.f_rowSteps a), .int (S.O_FallingWordsModel.f_ringFrom a), va_rf (S.O_FallingWordsModel.f_found a), .int (S.O_FallingWordsModel.f_many a), .int (S.O_FallingWordsModel.f_oneRule a), .int (S.O_FallingWordsModel.f_otherRule a), .int (S.O_FallingWordsModel.f_overlapPlace a), .int (S.O_FallingWordsModel.f_oneWord a), .int (S.O_FallingWordsModel.f_otherWord a), .int (S.O_FallingWordsModel.f_oneNormal a), .int (S.O_FallingWordsModel.f_otherNormal a)])) = X ++ va_pl S.L (wPF cyC cyI cyO4fe54 { S with O_FallingWordsModel := { S.O_FallingWordsModel with f_cause := va_up S.O_FallingWordsModel.f_cause a v } }) := by
  rw [va_pl_set hD hL hk]
  exact congrArg (fun l => X ++ l) (va_pl_congr (wSt_O_FallingWordsModel_f_cause cyC cyI cyO4fe54 S h v))
theorem wSt_O_FallingWordsModel_f_read (cyC : ClassId) (cyI : ClassId) (cyO4fe54 : ClassId) (S : wPS) {a : Nat} (h : S.K a = 10) (v : Int32) (b : Nat) : va_up (wPF cyC cyI cyO4fe54 S) a (.inr (10, [va_rf (S.O_FallingWordsModel.f_s a), va_rf (S.O_FallingWordsModel.f_was a), va_rf (S.O_FallingWordsModel.f_begun a), va_rf (S.O_FallingWordsModel.f_aside a), .int (S.O_FallingWordsModel.f_states a), va_rf (S.O_FallingWordsModel.f_text a), .int (S.O_FallingWordsModel.f_typed a), .int (S.O_FallingWordsModel.f_at a), .int (S.O_FallingWordsModel.f_reason a), .int (S.O_FallingWordsModel.f_cause a), .int v, .int (S.O_FallingWordsModel.f_readLength a), .int (S.O_FallingWordsModel.f_chosenRule a), .int (S.O_FallingWordsModel.f_chosenPlace a), va_rf (S.O_FallingWordsModel.f_row a), va_rf (S.O_FallingWordsModel.f_rowRule a), .int (S.O_FallingWordsModel.f_rowSteps a), .int (S.O_FallingWordsModel.f_ringFrom a), va_rf (S.O_FallingWordsModel.f_found a), .int (S.O_FallingWordsModel.f_many a), .int (S.O_FallingWordsModel.f_oneRule a), .int (S.O_FallingWordsModel.f_otherRule a), .int (S.O_FallingWordsModel.f_overlapPlace a), .int (S.O_FallingWordsModel.f_oneWord a), .int (S.O_FallingWordsModel.f_otherWord a), .int (S.O_FallingWordsModel.f_oneNormal a), .int (S.O_FallingWordsModel.f_otherNormal a)])) b = wPF cyC cyI cyO4fe54 { S with O_FallingWordsModel := { S.O_FallingWordsModel with f_read := va_up S.O_FallingWordsModel.f_read a v } } b := by by_cases hb : b = a <;> first | (simp only [wPF, va_up_ne _ _ hb]; done) | (simp only [wPF, va_up, if_neg hb]; done) | simp [wPF, va_re, va_up, va_rf, hb, h]
theorem wPu_O_FallingWordsModel_f_read (cyC : ClassId) (cyI : ClassId) (cyO4fe54 : ClassId) (X : va_W) (S : wPS) {A : Nat → Prop} {a k : Nat} (hD : va_D A (X ++ va_pl S.L (wPF cyC cyI cyO4fe54 S))) (hL : a ∈ S.L) (h : S.K a = 10) (hk : (X ++ va_pl S.L (wPF cyC cyI cyO4fe54 S))[k]? = some (a, wPF cyC cyI cyO4fe54 S a)) (v : Int32) : (X ++ va_pl S.L (wPF cyC cyI cyO4fe54 S)).set k (a, .inr (10, [va_rf (S.O_FallingWordsModel.f_s a), va_rf (S.O_FallingWordsModel.f_was a), va_rf (S.O_FallingWordsModel.f_begun a), va_rf (S.O_FallingWordsModel.f_aside a), .int (S.O_FallingWordsModel.f_states a), va_rf (S.O_FallingWordsModel.f_text a), .int (S.O_FallingWordsModel.f_typed a), .int (S.O_FallingWordsModel.f_at a), .int (S.O_FallingWordsModel.f_reason a), .int (S.O_FallingWordsModel.f_cause a), .int v, .int (S.O_FallingWordsModel.f_readLength a), .int (S.O_FallingWordsModel.f_chosenRule a), .int (S.O_FallingWordsModel.f_chosenPlace a), va_rf (S.O_FallingWordsModel.f_row a), va_rf (S.O_FallingWordsModel.f_rowRule a), .int (S.O_FallingWordsModel.f_rowSteps a), .int (S.O_FallingWordsModel.f_ringFrom a), va_rf (S.O_FallingWordsModel.f_found a), .int (S.O_FallingWordsModel.f_many a), .int (S.O_FallingWordsModel.f_oneRule a), .int (S.O_FallingWordsModel.f_otherRule a), .int (S.O_FallingWordsModel.f_overlapPlace a), .int (S.O_FallingWordsModel.f_oneWord a), .int (S.O_FallingWordsModel.f_otherWord a), .int (S.O_FallingWordsModel.f_oneNormal a), .int (S.O_FallingWordsModel.f_otherNormal a)])) = X ++ va_pl S.L (wPF cyC cyI cyO4fe54 { S with O_FallingWordsModel := { S.O_FallingWordsModel with f_read := va_up S.O_FallingWordsModel.f_read a v } }) := by
  rw [va_pl_set hD hL hk]
  exact congrArg (fun l => X ++ l) (va_pl_congr (wSt_O_FallingWordsModel_f_read cyC cyI cyO4fe54 S h v))
theorem wSt_O_FallingWordsModel_f_readLength (cyC : ClassId) (cyI : ClassId) (cyO4fe54 : ClassId) (S : wPS) {a : Nat} (h : S.K a = 10) (v : Int32) (b : Nat) : va_up (wPF cyC cyI cyO4fe54 S) a (.inr (10, [va_rf (S.O_FallingWordsModel.f_s a), va_rf (S.O_FallingWordsModel.f_was a), va_rf (S.O_FallingWordsModel.f_begun a), va_rf (S.O_FallingWordsModel.f_aside a), .int (S.O_FallingWordsModel.f_states a), va_rf (S.O_FallingWordsModel.f_text a), .int (S.O_FallingWordsModel.f_typed a), .int (S.O_FallingWordsModel.f_at a), .int (S.O_FallingWordsModel.f_reason a), .int (S.O_FallingWordsModel.f_cause a), .int (S.O_FallingWordsModel.f_read a), .int v, .int (S.O_FallingWordsModel.f_chosenRule a), .int (S.O_FallingWordsModel.f_chosenPlace a), va_rf (S.O_FallingWordsModel.f_row a), va_rf (S.O_FallingWordsModel.f_rowRule a), .int (S.O_FallingWordsModel.f_rowSteps a), .int (S.O_FallingWordsModel.f_ringFrom a), va_rf (S.O_FallingWordsModel.f_found a), .int (S.O_FallingWordsModel.f_many a), .int (S.O_FallingWordsModel.f_oneRule a), .int (S.O_FallingWordsModel.f_otherRule a), .int (S.O_FallingWordsModel.f_overlapPlace a), .int (S.O_FallingWordsModel.f_oneWord a), .int (S.O_FallingWordsModel.f_otherWord a), .int (S.O_FallingWordsModel.f_oneNormal a), .int (S.O_FallingWordsModel.f_otherNormal a)])) b = wPF cyC cyI cyO4fe54 { S with O_FallingWordsModel := { S.O_FallingWordsModel with f_readLength := va_up S.O_FallingWordsModel.f_readLength a v } } b := by by_cases hb : b = a <;> first | (simp only [wPF, va_up_ne _ _ hb]; done) | (simp only [wPF, va_up, if_neg hb]; done) | simp [wPF, va_re, va_up, va_rf, hb, h]
theorem wPu_O_FallingWordsModel_f_readLength (cyC : ClassId) (cyI : ClassId) (cyO4fe54 : ClassId) (X : va_W) (S : wPS) {A : Nat → Prop} {a k : Nat} (hD : va_D A (X ++ va_pl S.L (wPF cyC cyI cyO4fe54 S))) (hL : a ∈ S.L) (h : S.K a = 10) (hk : (X ++ va_pl S.L (wPF cyC cyI cyO4fe54 S))[k]? = some (a, wPF cyC cyI cyO4fe54 S a)) (v : Int32) : (X ++ va_pl S.L (wPF cyC cyI cyO4fe54 S)).set k (a, .inr (10, [va_rf (S.O_FallingWordsModel.f_s a), va_rf (S.O_FallingWordsModel.f_was a), va_rf (S.O_FallingWordsModel.f_begun a), va_rf (S.O_FallingWordsModel.f_aside a), .int (S.O_FallingWordsModel.f_states a), va_rf (S.O_FallingWordsModel.f_text a), .int (S.O_FallingWordsModel.f_typed a), .int (S.O_FallingWordsModel.f_at a), .int (S.O_FallingWordsModel.f_reason a), .int (S.O_FallingWordsModel.f_cause a), .int (S.O_FallingWordsModel.f_read a), .int v, .int (S.O_FallingWordsModel.f_chosenRule a), .int (S.O_FallingWordsModel.f_chosenPlace a), va_rf (S.O_FallingWordsModel.f_row a), va_rf (S.O_FallingWordsModel.f_rowRule a), .int (S.O_FallingWordsModel.f_rowSteps a), .int (S.O_FallingWordsModel.f_ringFrom a), va_rf (S.O_FallingWordsModel.f_found a), .int (S.O_FallingWordsModel.f_many a), .int (S.O_FallingWordsModel.f_oneRule a), .int (S.O_FallingWordsModel.f_otherRule a), .int (S.O_FallingWordsModel.f_overlapPlace a), .int (S.O_FallingWordsModel.f_oneWord a), .int (S.O_FallingWordsModel.f_otherWord a), .int (S.O_FallingWordsModel.f_oneNormal a), .int (S.O_FallingWordsModel.f_otherNormal a)])) = X ++ va_pl S.L (wPF cyC cyI cyO4fe54 { S with O_FallingWordsModel := { S.O_FallingWordsModel with f_readLength := va_up S.O_FallingWordsModel.f_readLength a v } }) := by
  rw [va_pl_set hD hL hk]
  exact congrArg (fun l => X ++ l) (va_pl_congr (wSt_O_FallingWordsModel_f_readLength cyC cyI cyO4fe54 S h v))
theorem wSt_O_FallingWordsModel_f_chosenRule (cyC : ClassId) (cyI : ClassId) (cyO4fe54 : ClassId) (S : wPS) {a : Nat} (h : S.K a = 10) (v : Int32) (b : Nat) : va_up (wPF cyC cyI cyO4fe54 S) a (.inr (10, [va_rf (S.O_FallingWordsModel.f_s a), va_rf (S.O_FallingWordsModel.f_was a), va_rf (S.O_FallingWordsModel.f_begun a), va_rf (S.O_FallingWordsModel.f_aside a), .int (S.O_FallingWordsModel.f_states a), va_rf (S.O_FallingWordsModel.f_text a), .int (S.O_FallingWordsModel.f_typed a), .int (S.O_FallingWordsModel.f_at a), .int (S.O_FallingWordsModel.f_reason a), .int (S.O_FallingWordsModel.f_cause a), .int (S.O_FallingWordsModel.f_read a), .int (S.O_FallingWordsModel.f_readLength a), .int v, .int (S.O_FallingWordsModel.f_chosenPlace a), va_rf (S.O_FallingWordsModel.f_row a), va_rf (S.O_FallingWordsModel.f_rowRule a), .int (S.O_FallingWordsModel.f_rowSteps a), .int (S.O_FallingWordsModel.f_ringFrom a), va_rf (S.O_FallingWordsModel.f_found a), .int (S.O_FallingWordsModel.f_many a), .int (S.O_FallingWordsModel.f_oneRule a), .int (S.O_FallingWordsModel.f_otherRule a), .int (S.O_FallingWordsModel.f_overlapPlace a), .int (S.O_FallingWordsModel.f_oneWord a), .int (S.O_FallingWordsModel.f_otherWord a), .int (S.O_FallingWordsModel.f_oneNormal a), .int (S.O_FallingWordsModel.f_otherNormal a)])) b = wPF cyC cyI cyO4fe54 { S with O_FallingWordsModel := { S.O_FallingWordsModel with f_chosenRule := va_up S.O_FallingWordsModel.f_chosenRule a v } } b := by by_cases hb : b = a <;> first | (simp only [wPF, va_up_ne _ _ hb]; done) | (simp only [wPF, va_up, if_neg hb]; done) | simp [wPF, va_re, va_up, va_rf, hb, h]
theorem wPu_O_FallingWordsModel_f_chosenRule (cyC : ClassId) (cyI : ClassId) (cyO4fe54 : ClassId) (X : va_W) (S : wPS) {A : Nat → Prop} {a k : Nat} (hD : va_D A (X ++ va_pl S.L (wPF cyC cyI cyO4fe54 S))) (hL : a ∈ S.L) (h : S.K a = 10) (hk : (X ++ va_pl S.L (wPF cyC cyI cyO4fe54 S))[k]? = some (a, wPF cyC cyI cyO4fe54 S a)) (v : Int32) : (X ++ va_pl S.L (wPF cyC cyI cyO4fe54 S)).set k (a, .inr (10, [va_rf (S.O_FallingWordsModel.f_s a), va_rf (S.O_FallingWordsModel.f_was a), va_rf (S.O_FallingWordsModel.f_begun a), va_rf (S.O_FallingWordsModel.f_aside a), .int (S.O_FallingWordsModel.f_states a), va_rf (S.O_FallingWordsModel.f_text a), .int (S.O_FallingWordsModel.f_typed a), .int (S.O_FallingWordsModel.f_at a), .int (S.O_FallingWordsModel.f_reason a), .int (S.O_FallingWordsModel.f_cause a), .int (S.O_FallingWordsModel.f_read a), .int (S.O_FallingWordsModel.f_readLength a), .int v, .int (S.O_FallingWordsModel.f_chosenPlace a), va_rf (S.O_FallingWordsModel.f_row a), va_rf (S.O_FallingWordsModel.f_rowRule a), .int (S.O_FallingWordsModel.f_rowSteps a), .int (S.O_FallingWordsModel.f_ringFrom a), va_rf (S.O_FallingWordsModel.f_found a), .int (S.O_FallingWordsModel.f_many a), .int (S.O_FallingWordsModel.f_oneRule a), .int (S.O_FallingWordsModel.f_otherRule a), .int (S.O_FallingWordsModel.f_overlapPlace a), .int (S.O_FallingWordsModel.f_oneWord a), .int (S.O_FallingWordsModel.f_otherWord a), .int (S.O_FallingWordsModel.f_oneNormal a), .int (S.O_FallingWordsModel.f_otherNormal a)])) = X ++ va_pl S.L (wPF cyC cyI cyO4fe54 { S with O_FallingWordsModel := { S.O_FallingWordsModel with f_chosenRule := va_up S.O_FallingWordsModel.f_chosenRule a v } }) := by
  rw [va_pl_set hD hL hk]
  exact congrArg (fun l => X ++ l) (va_pl_congr (wSt_O_FallingWordsModel_f_chosenRule cyC cyI cyO4fe54 S h v))
theorem wSt_O_FallingWordsModel_f_chosenPlace (cyC : ClassId) (cyI : ClassId) (cyO4fe54 : ClassId) (S : wPS) {a : Nat} (h : S.K a = 10) (v : Int32) (b : Nat) : va_up (wPF cyC cyI cyO4fe54 S) a (.inr (10, [va_rf (S.O_FallingWordsModel.f_s a), va_rf (S.O_FallingWordsModel.f_was a), va_rf (S.O_FallingWordsModel.f_begun a), va_rf (S.O_FallingWordsModel.f_aside a), .int (S.O_FallingWordsModel.f_states a), va_rf (S.O_FallingWordsModel.f_text a), .int (S.O_FallingWordsModel.f_typed a), .int (S.O_FallingWordsModel.f_at a), .int (S.O_FallingWordsModel.f_reason a), .int (S.O_FallingWordsModel.f_cause a), .int (S.O_FallingWordsModel.f_read a), .int (S.O_FallingWordsModel.f_readLength a), .int (S.O_FallingWordsModel.f_chosenRule a), .int v, va_rf (S.O_FallingWordsModel.f_row a), va_rf (S.O_FallingWordsModel.f_rowRule a), .int (S.O_FallingWordsModel.f_rowSteps a), .int (S.O_FallingWordsModel.f_ringFrom a), va_rf (S.O_FallingWordsModel.f_found a), .int (S.O_FallingWordsModel.f_many a), .int (S.O_FallingWordsModel.f_oneRule a), .int (S.O_FallingWordsModel.f_otherRule a), .int (S.O_FallingWordsModel.f_overlapPlace a), .int (S.O_FallingWordsModel.f_oneWord a), .int (S.O_FallingWordsModel.f_otherWord a), .int (S.O_FallingWordsModel.f_oneNormal a), .int (S.O_FallingWordsModel.f_otherNormal a)])) b = wPF cyC cyI cyO4fe54 { S with O_FallingWordsModel := { S.O_FallingWordsModel with f_chosenPlace := va_up S.O_FallingWordsModel.f_chosenPlace a v } } b := by by_cases hb : b = a <;> first | (simp only [wPF, va_up_ne _ _ hb]; done) | (simp only [wPF, va_up, if_neg hb]; done) | simp [wPF, va_re, va_up, va_rf, hb, h]
theorem wPu_O_FallingWordsModel_f_chosenPlace (cyC : ClassId) (cyI : ClassId) (cyO4fe54 : ClassId) (X : va_W) (S : wPS) {A : Nat → Prop} {a k : Nat} (hD : va_D A (X ++ va_pl S.L (wPF cyC cyI cyO4fe54 S))) (hL : a ∈ S.L) (h : S.K a = 10) (hk : (X ++ va_pl S.L (wPF cyC cyI cyO4fe54 S))[k]? = some (a, wPF cyC cyI cyO4fe54 S a)) (v : Int32) : (X ++ va_pl S.L (wPF cyC cyI cyO4fe54 S)).set k (a, .inr (10, [va_rf (S.O_FallingWordsModel.f_s a), va_rf (S.O_FallingWordsModel.f_was a), va_rf (S.O_FallingWordsModel.f_begun a), va_rf (S.O_FallingWordsModel.f_aside a), .int (S.O_FallingWordsModel.f_states a), va_rf (S.O_FallingWordsModel.f_text a), .int (S.O_FallingWordsModel.f_typed a), .int (S.O_FallingWordsModel.f_at a), .int (S.O_FallingWordsModel.f_reason a), .int (S.O_FallingWordsModel.f_cause a), .int (S.O_FallingWordsModel.f_read a), .int (S.O_FallingWordsModel.f_readLength a), .int (S.O_FallingWordsModel.f_chosenRule a), .int v, va_rf (S.O_FallingWordsModel.f_row a), va_rf (S.O_FallingWordsModel.f_rowRule a), .int (S.O_FallingWordsModel.f_rowSteps a), .int (S.O_FallingWordsModel.f_ringFrom a), va_rf (S.O_FallingWordsModel.f_found a), .int (S.O_FallingWordsModel.f_many a), .int (S.O_FallingWordsModel.f_oneRule a), .int (S.O_FallingWordsModel.f_otherRule a), .int (S.O_FallingWordsModel.f_overlapPlace a), .int (S.O_FallingWordsModel.f_oneWord a), .int (S.O_FallingWordsModel.f_otherWord a), .int (S.O_FallingWordsModel.f_oneNormal a), .int (S.O_FallingWordsModel.f_otherNormal a)])) = X ++ va_pl S.L (wPF cyC cyI cyO4fe54 { S with O_FallingWordsModel := { S.O_FallingWordsModel with f_chosenPlace := va_up S.O_FallingWordsModel.f_chosenPlace a v } }) := by
  rw [va_pl_set hD hL hk]
  exact congrArg (fun l => X ++ l) (va_pl_congr (wSt_O_FallingWordsModel_f_chosenPlace cyC cyI cyO4fe54 S h v))
theorem wSt_O_FallingWordsModel_f_row (cyC : ClassId) (cyI : ClassId) (cyO4fe54 : ClassId) (S : wPS) {a : Nat} (h : S.K a = 10) (v : Option Nat) (b : Nat) : va_up (wPF cyC cyI cyO4fe54 S) a (.inr (10, [va_rf (S.O_FallingWordsModel.f_s a), va_rf (S.O_FallingWordsModel.f_was a), va_rf (S.O_FallingWordsModel.f_begun a), va_rf (S.O_FallingWordsModel.f_aside a), .int (S.O_FallingWordsModel.f_states a), va_rf (S.O_FallingWordsModel.f_text a), .int (S.O_FallingWordsModel.f_typed a), .int (S.O_FallingWordsModel.f_at a), .int (S.O_FallingWordsModel.f_reason a), .int (S.O_FallingWordsModel.f_cause a), .int (S.O_FallingWordsModel.f_read a), .int (S.O_FallingWordsModel.f_readLength a), .int (S.O_FallingWordsModel.f_chosenRule a), .int (S.O_FallingWordsModel.f_chosenPlace a), va_rf v, va_rf (S.O_FallingWordsModel.f_rowRule a), .int (S.O_FallingWordsModel.f_rowSteps a), .int (S.O_FallingWordsModel.f_ringFrom a), va_rf (S.O_FallingWordsModel.f_found a), .int (S.O_FallingWordsModel.f_many a), .int (S.O_FallingWordsModel.f_oneRule a), .int (S.O_FallingWordsModel.f_otherRule a), .int (S.O_FallingWordsModel.f_overlapPlace a), .int (S.O_FallingWordsModel.f_oneWord a), .int (S.O_FallingWordsModel.f_otherWord a), .int (S.O_FallingWordsModel.f_oneNormal a), .int (S.O_FallingWordsModel.f_otherNormal a)])) b = wPF cyC cyI cyO4fe54 { S with O_FallingWordsModel := { S.O_FallingWordsModel with f_row := va_up S.O_FallingWordsModel.f_row a v } } b := by by_cases hb : b = a <;> first | (simp only [wPF, va_up_ne _ _ hb]; done) | (simp only [wPF, va_up, if_neg hb]; done) | simp [wPF, va_re, va_up, va_rf, hb, h]
theorem wPu_O_FallingWordsModel_f_row (cyC : ClassId) (cyI : ClassId) (cyO4fe54 : ClassId) (X : va_W) (S : wPS) {A : Nat → Prop} {a k : Nat} (hD : va_D A (X ++ va_pl S.L (wPF cyC cyI cyO4fe54 S))) (hL : a ∈ S.L) (h : S.K a = 10) (hk : (X ++ va_pl S.L (wPF cyC cyI cyO4fe54 S))[k]? = some (a, wPF cyC cyI cyO4fe54 S a)) (v : Option Nat) : (X ++ va_pl S.L (wPF cyC cyI cyO4fe54 S)).set k (a, .inr (10, [va_rf (S.O_FallingWordsModel.f_s a), va_rf (S.O_FallingWordsModel.f_was a), va_rf (S.O_FallingWordsModel.f_begun a), va_rf (S.O_FallingWordsModel.f_aside a), .int (S.O_FallingWordsModel.f_states a), va_rf (S.O_FallingWordsModel.f_text a), .int (S.O_FallingWordsModel.f_typed a), .int (S.O_FallingWordsModel.f_at a), .int (S.O_FallingWordsModel.f_reason a), .int (S.O_FallingWordsModel.f_cause a), .int (S.O_FallingWordsModel.f_read a), .int (S.O_FallingWordsModel.f_readLength a), .int (S.O_FallingWordsModel.f_chosenRule a), .int (S.O_FallingWordsModel.f_chosenPlace a), va_rf v, va_rf (S.O_FallingWordsModel.f_rowRule a), .int (S.O_FallingWordsModel.f_rowSteps a), .int (S.O_FallingWordsModel.f_ringFrom a), va_rf (S.O_FallingWordsModel.f_found a), .int (S.O_FallingWordsModel.f_many a), .int (S.O_FallingWordsModel.f_oneRule a), .int (S.O_FallingWordsModel.f_otherRule a), .int (S.O_FallingWordsModel.f_overlapPlace a), .int (S.O_FallingWordsModel.f_oneWord a), .int (S.O_FallingWordsModel.f_otherWord a), .int (S.O_FallingWordsModel.f_oneNormal a), .int (S.O_FallingWordsModel.f_otherNormal a)])) = X ++ va_pl S.L (wPF cyC cyI cyO4fe54 { S with O_FallingWordsModel := { S.O_FallingWordsModel with f_row := va_up S.O_FallingWordsModel.f_row a v } }) := by
  rw [va_pl_set hD hL hk]
  exact congrArg (fun l => X ++ l) (va_pl_congr (wSt_O_FallingWordsModel_f_row cyC cyI cyO4fe54 S h v))
theorem wSt_O_FallingWordsModel_f_rowRule (cyC : ClassId) (cyI : ClassId) (cyO4fe54 : ClassId) (S : wPS) {a : Nat} (h : S.K a = 10) (v : Option Nat) (b : Nat) : va_up (wPF cyC cyI cyO4fe54 S) a (.inr (10, [va_rf (S.O_FallingWordsModel.f_s a), va_rf (S.O_FallingWordsModel.f_was a), va_rf (S.O_FallingWordsModel.f_begun a), va_rf (S.O_FallingWordsModel.f_aside a), .int (S.O_FallingWordsModel.f_states a), va_rf (S.O_FallingWordsModel.f_text a), .int (S.O_FallingWordsModel.f_typed a), .int (S.O_FallingWordsModel.f_at a), .int (S.O_FallingWordsModel.f_reason a), .int (S.O_FallingWordsModel.f_cause a), .int (S.O_FallingWordsModel.f_read a), .int (S.O_FallingWordsModel.f_readLength a), .int (S.O_FallingWordsModel.f_chosenRule a), .int (S.O_FallingWordsModel.f_chosenPlace a), va_rf (S.O_FallingWordsModel.f_row a), va_rf v, .int (S.O_FallingWordsModel.f_rowSteps a), .int (S.O_FallingWordsModel.f_ringFrom a), va_rf (S.O_FallingWordsModel.f_found a), .int (S.O_FallingWordsModel.f_many a), .int (S.O_FallingWordsModel.f_oneRule a), .int (S.O_FallingWordsModel.f_otherRule a), .int (S.O_FallingWordsModel.f_overlapPlace a), .int (S.O_FallingWordsModel.f_oneWord a), .int (S.O_FallingWordsModel.f_otherWord a), .int (S.O_FallingWordsModel.f_oneNormal a), .int (S.O_FallingWordsModel.f_otherNormal a)])) b = wPF cyC cyI cyO4fe54 { S with O_FallingWordsModel := { S.O_FallingWordsModel with f_rowRule := va_up S.O_FallingWordsModel.f_rowRule a v } } b := by by_cases hb : b = a <;> first | (simp only [wPF, va_up_ne _ _ hb]; done) | (simp only [wPF, va_up, if_neg hb]; done) | simp [wPF, va_re, va_up, va_rf, hb, h]
theorem wPu_O_FallingWordsModel_f_rowRule (cyC : ClassId) (cyI : ClassId) (cyO4fe54 : ClassId) (X : va_W) (S : wPS) {A : Nat → Prop} {a k : Nat} (hD : va_D A (X ++ va_pl S.L (wPF cyC cyI cyO4fe54 S))) (hL : a ∈ S.L) (h : S.K a = 10) (hk : (X ++ va_pl S.L (wPF cyC cyI cyO4fe54 S))[k]? = some (a, wPF cyC cyI cyO4fe54 S a)) (v : Option Nat) : (X ++ va_pl S.L (wPF cyC cyI cyO4fe54 S)).set k (a, .inr (10, [va_rf (S.O_FallingWordsModel.f_s a), va_rf (S.O_FallingWordsModel.f_was a), va_rf (S.O_FallingWordsModel.f_begun a), va_rf (S.O_FallingWordsModel.f_aside a), .int (S.O_FallingWordsModel.f_states a), va_rf (S.O_FallingWordsModel.f_text a), .int (S.O_FallingWordsModel.f_typed a), .int (S.O_FallingWordsModel.f_at a), .int (S.O_FallingWordsModel.f_reason a), .int (S.O_FallingWordsModel.f_cause a), .int (S.O_FallingWordsModel.f_read a), .int (S.O_FallingWordsModel.f_readLength a), .int (S.O_FallingWordsModel.f_chosenRule a), .int (S.O_FallingWordsModel.f_chosenPlace a), va_rf (S.O_FallingWordsModel.f_row a), va_rf v, .int (S.O_FallingWordsModel.f_rowSteps a), .int (S.O_FallingWordsModel.f_ringFrom a), va_rf (S.O_FallingWordsModel.f_found a), .int (S.O_FallingWordsModel.f_many a), .int (S.O_FallingWordsModel.f_oneRule a), .int (S.O_FallingWordsModel.f_otherRule a), .int (S.O_FallingWordsModel.f_overlapPlace a), .int (S.O_FallingWordsModel.f_oneWord a), .int (S.O_FallingWordsModel.f_otherWord a), .int (S.O_FallingWordsModel.f_oneNormal a), .int (S.O_FallingWordsModel.f_otherNormal a)])) = X ++ va_pl S.L (wPF cyC cyI cyO4fe54 { S with O_FallingWordsModel := { S.O_FallingWordsModel with f_rowRule := va_up S.O_FallingWordsModel.f_rowRule a v } }) := by
  rw [va_pl_set hD hL hk]
  exact congrArg (fun l => X ++ l) (va_pl_congr (wSt_O_FallingWordsModel_f_rowRule cyC cyI cyO4fe54 S h v))
theorem wSt_O_FallingWordsModel_f_rowSteps (cyC : ClassId) (cyI : ClassId) (cyO4fe54 : ClassId) (S : wPS) {a : Nat} (h : S.K a = 10) (v : Int32) (b : Nat) : va_up (wPF cyC cyI cyO4fe54 S) a (.inr (10, [va_rf (S.O_FallingWordsModel.f_s a), va_rf (S.O_FallingWordsModel.f_was a), va_rf (S.O_FallingWordsModel.f_begun a), va_rf (S.O_FallingWordsModel.f_aside a), .int (S.O_FallingWordsModel.f_states a), va_rf (S.O_FallingWordsModel.f_text a), .int (S.O_FallingWordsModel.f_typed a), .int (S.O_FallingWordsModel.f_at a), .int (S.O_FallingWordsModel.f_reason a), .int (S.O_FallingWordsModel.f_cause a), .int (S.O_FallingWordsModel.f_read a), .int (S.O_FallingWordsModel.f_readLength a), .int (S.O_FallingWordsModel.f_chosenRule a), .int (S.O_FallingWordsModel.f_chosenPlace a), va_rf (S.O_FallingWordsModel.f_row a), va_rf (S.O_FallingWordsModel.f_rowRule a), .int v, .int (S.O_FallingWordsModel.f_ringFrom a), va_rf (S.O_FallingWordsModel.f_found a), .int (S.O_FallingWordsModel.f_many a), .int (S.O_FallingWordsModel.f_oneRule a), .int (S.O_FallingWordsModel.f_otherRule a), .int (S.O_FallingWordsModel.f_overlapPlace a), .int (S.O_FallingWordsModel.f_oneWord a), .int (S.O_FallingWordsModel.f_otherWord a), .int (S.O_FallingWordsModel.f_oneNormal a), .int (S.O_FallingWordsModel.f_otherNormal a)])) b = wPF cyC cyI cyO4fe54 { S with O_FallingWordsModel := { S.O_FallingWordsModel with f_rowSteps := va_up S.O_FallingWordsModel.f_rowSteps a v } } b := by by_cases hb : b = a <;> first | (simp only [wPF, va_up_ne _ _ hb]; done) | (simp only [wPF, va_up, if_neg hb]; done) | simp [wPF, va_re, va_up, va_rf, hb, h]
theorem wPu_O_FallingWordsModel_f_rowSteps (cyC : ClassId) (cyI : ClassId) (cyO4fe54 : ClassId) (X : va_W) (S : wPS) {A : Nat → Prop} {a k : Nat} (hD : va_D A (X ++ va_pl S.L (wPF cyC cyI cyO4fe54 S))) (hL : a ∈ S.L) (h : S.K a = 10) (hk : (X ++ va_pl S.L (wPF cyC cyI cyO4fe54 S))[k]? = some (a, wPF cyC cyI cyO4fe54 S a)) (v : Int32) : (X ++ va_pl S.L (wPF cyC cyI cyO4fe54 S)).set k (a, .inr (10, [va_rf (S.O_FallingWordsModel.f_s a), va_rf (S.O_FallingWordsModel.f_was a), va_rf (S.O_FallingWordsModel.f_begun a), va_rf (S.O_FallingWordsModel.f_aside a), .int (S.O_FallingWordsModel.f_states a), va_rf (S.O_FallingWordsModel.f_text a), .int (S.O_FallingWordsModel.f_typed a), .int (S.O_FallingWordsModel.f_at a), .int (S.O_FallingWordsModel.f_reason a), .int (S.O_FallingWordsModel.f_cause a), .int (S.O_FallingWordsModel.f_read a), .int (S.O_FallingWordsModel.f_readLength a), .int (S.O_FallingWordsModel.f_chosenRule a), .int (S.O_FallingWordsModel.f_chosenPlace a), va_rf (S.O_FallingWordsModel.f_row a), va_rf (S.O_FallingWordsModel.f_rowRule a), .int v, .int (S.O_FallingWordsModel.f_ringFrom a), va_rf (S.O_FallingWordsModel.f_found a), .int (S.O_FallingWordsModel.f_many a), .int (S.O_FallingWordsModel.f_oneRule a), .int (S.O_FallingWordsModel.f_otherRule a), .int (S.O_FallingWordsModel.f_overlapPlace a), .int (S.O_FallingWordsModel.f_oneWord a), .int (S.O_FallingWordsModel.f_otherWord a), .int (S.O_FallingWordsModel.f_oneNormal a), .int (S.O_FallingWordsModel.f_otherNormal a)])) = X ++ va_pl S.L (wPF cyC cyI cyO4fe54 { S with O_FallingWordsModel := { S.O_FallingWordsModel with f_rowSteps := va_up S.O_FallingWordsModel.f_rowSteps a v } }) := by
  rw [va_pl_set hD hL hk]
  exact congrArg (fun l => X ++ l) (va_pl_congr (wSt_O_FallingWordsModel_f_rowSteps cyC cyI cyO4fe54 S h v))
theorem wSt_O_FallingWordsModel_f_ringFrom (cyC : ClassId) (cyI : ClassId) (cyO4fe54 : ClassId) (S : wPS) {a : Nat} (h : S.K a = 10) (v : Int32) (b : Nat) : va_up (wPF cyC cyI cyO4fe54 S) a (.inr (10, [va_rf (S.O_FallingWordsModel.f_s a), va_rf (S.O_FallingWordsModel.f_was a), va_rf (S.O_FallingWordsModel.f_begun a), va_rf (S.O_FallingWordsModel.f_aside a), .int (S.O_FallingWordsModel.f_states a), va_rf (S.O_FallingWordsModel.f_text a), .int (S.O_FallingWordsModel.f_typed a), .int (S.O_FallingWordsModel.f_at a), .int (S.O_FallingWordsModel.f_reason a), .int (S.O_FallingWordsModel.f_cause a), .int (S.O_FallingWordsModel.f_read a), .int (S.O_FallingWordsModel.f_readLength a), .int (S.O_FallingWordsModel.f_chosenRule a), .int (S.O_FallingWordsModel.f_chosenPlace a), va_rf (S.O_FallingWordsModel.f_row a), va_rf (S.O_FallingWordsModel.f_rowRule a), .int (S.O_FallingWordsModel.f_rowSteps a), .int v, va_rf (S.O_FallingWordsModel.f_found a), .int (S.O_FallingWordsModel.f_many a), .int (S.O_FallingWordsModel.f_oneRule a), .int (S.O_FallingWordsModel.f_otherRule a), .int (S.O_FallingWordsModel.f_overlapPlace a), .int (S.O_FallingWordsModel.f_oneWord a), .int (S.O_FallingWordsModel.f_otherWord a), .int (S.O_FallingWordsModel.f_oneNormal a), .int (S.O_FallingWordsModel.f_otherNormal a)])) b = wPF cyC cyI cyO4fe54 { S with O_FallingWordsModel := { S.O_FallingWordsModel with f_ringFrom := va_up S.O_FallingWordsModel.f_ringFrom a v } } b := by by_cases hb : b = a <;> first | (simp only [wPF, va_up_ne _ _ hb]; done) | (simp only [wPF, va_up, if_neg hb]; done) | simp [wPF, va_re, va_up, va_rf, hb, h]
theorem wPu_O_FallingWordsModel_f_ringFrom (cyC : ClassId) (cyI : ClassId) (cyO4fe54 : ClassId) (X : va_W) (S : wPS) {A : Nat → Prop} {a k : Nat} (hD : va_D A (X ++ va_pl S.L (wPF cyC cyI cyO4fe54 S))) (hL : a ∈ S.L) (h : S.K a = 10) (hk : (X ++ va_pl S.L (wPF cyC cyI cyO4fe54 S))[k]? = some (a, wPF cyC cyI cyO4fe54 S a)) (v : Int32) : (X ++ va_pl S.L (wPF cyC cyI cyO4fe54 S)).set k (a, .inr (10, [va_rf (S.O_FallingWordsModel.f_s a), va_rf (S.O_FallingWordsModel.f_was a), va_rf (S.O_FallingWordsModel.f_begun a), va_rf (S.O_FallingWordsModel.f_aside a), .int (S.O_FallingWordsModel.f_states a), va_rf (S.O_FallingWordsModel.f_text a), .int (S.O_FallingWordsModel.f_typed a), .int (S.O_FallingWordsModel.f_at a), .int (S.O_FallingWordsModel.f_reason a), .int (S.O_FallingWordsModel.f_cause a), .int (S.O_FallingWordsModel.f_read a), .int (S.O_FallingWordsModel.f_readLength a), .int (S.O_FallingWordsModel.f_chosenRule a), .int (S.O_FallingWordsModel.f_chosenPlace a), va_rf (S.O_FallingWordsModel.f_row a), va_rf (S.O_FallingWordsModel.f_rowRule a), .int (S.O_FallingWordsModel.f_rowSteps a), .int v, va_rf (S.O_FallingWordsModel.f_found a), .int (S.O_FallingWordsModel.f_many a), .int (S.O_FallingWordsModel.f_oneRule a), .int (S.O_FallingWordsModel.f_otherRule a), .int (S.O_FallingWordsModel.f_overlapPlace a), .int (S.O_FallingWordsModel.f_oneWord a), .int (S.O_FallingWordsModel.f_otherWord a), .int (S.O_FallingWordsModel.f_oneNormal a), .int (S.O_FallingWordsModel.f_otherNormal a)])) = X ++ va_pl S.L (wPF cyC cyI cyO4fe54 { S with O_FallingWordsModel := { S.O_FallingWordsModel with f_ringFrom := va_up S.O_FallingWordsModel.f_ringFrom a v } }) := by
  rw [va_pl_set hD hL hk]
  exact congrArg (fun l => X ++ l) (va_pl_congr (wSt_O_FallingWordsModel_f_ringFrom cyC cyI cyO4fe54 S h v))
theorem wSt_O_FallingWordsModel_f_found (cyC : ClassId) (cyI : ClassId) (cyO4fe54 : ClassId) (S : wPS) {a : Nat} (h : S.K a = 10) (v : Option Nat) (b : Nat) : va_up (wPF cyC cyI cyO4fe54 S) a (.inr (10, [va_rf (S.O_FallingWordsModel.f_s a), va_rf (S.O_FallingWordsModel.f_was a), va_rf (S.O_FallingWordsModel.f_begun a), va_rf (S.O_FallingWordsModel.f_aside a), .int (S.O_FallingWordsModel.f_states a), va_rf (S.O_FallingWordsModel.f_text a), .int (S.O_FallingWordsModel.f_typed a), .int (S.O_FallingWordsModel.f_at a), .int (S.O_FallingWordsModel.f_reason a), .int (S.O_FallingWordsModel.f_cause a), .int (S.O_FallingWordsModel.f_read a), .int (S.O_FallingWordsModel.f_readLength a), .int (S.O_FallingWordsModel.f_chosenRule a), .int (S.O_FallingWordsModel.f_chosenPlace a), va_rf (S.O_FallingWordsModel.f_row a), va_rf (S.O_FallingWordsModel.f_rowRule a), .int (S.O_FallingWordsModel.f_rowSteps a), .int (S.O_FallingWordsModel.f_ringFrom a), va_rf v, .int (S.O_FallingWordsModel.f_many a), .int (S.O_FallingWordsModel.f_oneRule a), .int (S.O_FallingWordsModel.f_otherRule a), .int (S.O_FallingWordsModel.f_overlapPlace a), .int (S.O_FallingWordsModel.f_oneWord a), .int (S.O_FallingWordsModel.f_otherWord a), .int (S.O_FallingWordsModel.f_oneNormal a), .int (S.O_FallingWordsModel.f_otherNormal a)])) b = wPF cyC cyI cyO4fe54 { S with O_FallingWordsModel := { S.O_FallingWordsModel with f_found := va_up S.O_FallingWordsModel.f_found a v } } b := by by_cases hb : b = a <;> first | (simp only [wPF, va_up_ne _ _ hb]; done) | (simp only [wPF, va_up, if_neg hb]; done) | simp [wPF, va_re, va_up, va_rf, hb, h]
theorem wPu_O_FallingWordsModel_f_found (cyC : ClassId) (cyI : ClassId) (cyO4fe54 : ClassId) (X : va_W) (S : wPS) {A : Nat → Prop} {a k : Nat} (hD : va_D A (X ++ va_pl S.L (wPF cyC cyI cyO4fe54 S))) (hL : a ∈ S.L) (h : S.K a = 10) (hk : (X ++ va_pl S.L (wPF cyC cyI cyO4fe54 S))[k]? = some (a, wPF cyC cyI cyO4fe54 S a)) (v : Option Nat) : (X ++ va_pl S.L (wPF cyC cyI cyO4fe54 S)).set k (a, .inr (10, [va_rf (S.O_FallingWordsModel.f_s a), va_rf (S.O_FallingWordsModel.f_was a), va_rf (S.O_FallingWordsModel.f_begun a), va_rf (S.O_FallingWordsModel.f_aside a), .int (S.O_FallingWordsModel.f_states a), va_rf (S.O_FallingWordsModel.f_text a), .int (S.O_FallingWordsModel.f_typed a), .int (S.O_FallingWordsModel.f_at a), .int (S.O_FallingWordsModel.f_reason a), .int (S.O_FallingWordsModel.f_cause a), .int (S.O_FallingWordsModel.f_read a), .int (S.O_FallingWordsModel.f_readLength a), .int (S.O_FallingWordsModel.f_chosenRule a), .int (S.O_FallingWordsModel.f_chosenPlace a), va_rf (S.O_FallingWordsModel.f_row a), va_rf (S.O_FallingWordsModel.f_rowRule a), .int (S.O_FallingWordsModel.f_rowSteps a), .int (S.O_FallingWordsModel.f_ringFrom a), va_rf v, .int (S.O_FallingWordsModel.f_many a), .int (S.O_FallingWordsModel.f_oneRule a), .int (S.O_FallingWordsModel.f_otherRule a), .int (S.O_FallingWordsModel.f_overlapPlace a), .int (S.O_FallingWordsModel.f_oneWord a), .int (S.O_FallingWordsModel.f_otherWord a), .int (S.O_FallingWordsModel.f_oneNormal a), .int (S.O_FallingWordsModel.f_otherNormal a)])) = X ++ va_pl S.L (wPF cyC cyI cyO4fe54 { S with O_FallingWordsModel := { S.O_FallingWordsModel with f_found := va_up S.O_FallingWordsModel.f_found a v } }) := by
  rw [va_pl_set hD hL hk]
  exact congrArg (fun l => X ++ l) (va_pl_congr (wSt_O_FallingWordsModel_f_found cyC cyI cyO4fe54 S h v))
theorem wSt_O_FallingWordsModel_f_many (cyC : ClassId) (cyI : ClassId) (cyO4fe54 : ClassId) (S : wPS) {a : Nat} (h : S.K a = 10) (v : Int32) (b : Nat) : va_up (wPF cyC cyI cyO4fe54 S) a (.inr (10, [va_rf (S.O_FallingWordsModel.f_s a), va_rf (S.O_FallingWordsModel.f_was a), va_rf (S.O_FallingWordsModel.f_begun a), va_rf (S.O_FallingWordsModel.f_aside a), .int (S.O_FallingWordsModel.f_states a), va_rf (S.O_FallingWordsModel.f_text a), .int (S.O_FallingWordsModel.f_typed a), .int (S.O_FallingWordsModel.f_at a), .int (S.O_FallingWordsModel.f_reason a), .int (S.O_FallingWordsModel.f_cause a), .int (S.O_FallingWordsModel.f_read a), .int (S.O_FallingWordsModel.f_readLength a), .int (S.O_FallingWordsModel.f_chosenRule a), .int (S.O_FallingWordsModel.f_chosenPlace a), va_rf (S.O_FallingWordsModel.f_row a), va_rf (S.O_FallingWordsModel.f_rowRule a), .int (S.O_FallingWordsModel.f_rowSteps a), .int (S.O_FallingWordsModel.f_ringFrom a), va_rf (S.O_FallingWordsModel.f_found a), .int v, .int (S.O_FallingWordsModel.f_oneRule a), .int (S.O_FallingWordsModel.f_otherRule a), .int (S.O_FallingWordsModel.f_overlapPlace a), .int (S.O_FallingWordsModel.f_oneWord a), .int (S.O_FallingWordsModel.f_otherWord a), .int (S.O_FallingWordsModel.f_oneNormal a), .int (S.O_FallingWordsModel.f_otherNormal a)])) b = wPF cyC cyI cyO4fe54 { S with O_FallingWordsModel := { S.O_FallingWordsModel with f_many := va_up S.O_FallingWordsModel.f_many a v } } b := by by_cases hb : b = a <;> first | (simp only [wPF, va_up_ne _ _ hb]; done) | (simp only [wPF, va_up, if_neg hb]; done) | simp [wPF, va_re, va_up, va_rf, hb, h]
theorem wPu_O_FallingWordsModel_f_many (cyC : ClassId) (cyI : ClassId) (cyO4fe54 : ClassId) (X : va_W) (S : wPS) {A : Nat → Prop} {a k : Nat} (hD : va_D A (X ++ va_pl S.L (wPF cyC cyI cyO4fe54 S))) (hL : a ∈ S.L) (h : S.K a = 10) (hk : (X ++ va_pl S.L (wPF cyC cyI cyO4fe54 S))[k]? = some (a, wPF cyC cyI cyO4fe54 S a)) (v : Int32) : (X ++ va_pl S.L (wPF cyC cyI cyO4fe54 S)).set k (a, .inr (10, [va_rf (S.O_FallingWordsModel.f_s a), va_rf (S.O_FallingWordsModel.f_was a), va_rf (S.O_FallingWordsModel.f_begun a), va_rf (S.O_FallingWordsModel.f_aside a), .int (S.O_FallingWordsModel.f_states a), va_rf (S.O_FallingWordsModel.f_text a), .int (S.O_FallingWordsModel.f_typed a), .int (S.O_FallingWordsModel.f_at a), .int (S.O_FallingWordsModel.f_reason a), .int (S.O_FallingWordsModel.f_cause a), .int (S.O_FallingWordsModel.f_read a), .int (S.O_FallingWordsModel.f_readLength a), .int (S.O_FallingWordsModel.f_chosenRule a), .int (S.O_FallingWordsModel.f_chosenPlace a), va_rf (S.O_FallingWordsModel.f_row a), va_rf (S.O_FallingWordsModel.f_rowRule a), .int (S.O_FallingWordsModel.f_rowSteps a), .int (S.O_FallingWordsModel.f_ringFrom a), va_rf (S.O_FallingWordsModel.f_found a), .int v, .int (S.O_FallingWordsModel.f_oneRule a), .int (S.O_FallingWordsModel.f_otherRule a), .int (S.O_FallingWordsModel.f_overlapPlace a), .int (S.O_FallingWordsModel.f_oneWord a), .int (S.O_FallingWordsModel.f_otherWord a), .int (S.O_FallingWordsModel.f_oneNormal a), .int (S.O_FallingWordsModel.f_otherNormal a)])) = X ++ va_pl S.L (wPF cyC cyI cyO4fe54 { S with O_FallingWordsModel := { S.O_FallingWordsModel with f_many := va_up S.O_FallingWordsModel.f_many a v } }) := by
  rw [va_pl_set hD hL hk]
  exact congrArg (fun l => X ++ l) (va_pl_congr (wSt_O_FallingWordsModel_f_many cyC cyI cyO4fe54 S h v))
theorem wSt_O_FallingWordsModel_f_oneRule (cyC : ClassId) (cyI : ClassId) (cyO4fe54 : ClassId) (S : wPS) {a : Nat} (h : S.K a = 10) (v : Int32) (b : Nat) : va_up (wPF cyC cyI cyO4fe54 S) a (.inr (10, [va_rf (S.O_FallingWordsModel.f_s a), va_rf (S.O_FallingWordsModel.f_was a), va_rf (S.O_FallingWordsModel.f_begun a), va_rf (S.O_FallingWordsModel.f_aside a), .int (S.O_FallingWordsModel.f_states a), va_rf (S.O_FallingWordsModel.f_text a), .int (S.O_FallingWordsModel.f_typed a), .int (S.O_FallingWordsModel.f_at a), .int (S.O_FallingWordsModel.f_reason a), .int (S.O_FallingWordsModel.f_cause a), .int (S.O_FallingWordsModel.f_read a), .int (S.O_FallingWordsModel.f_readLength a), .int (S.O_FallingWordsModel.f_chosenRule a), .int (S.O_FallingWordsModel.f_chosenPlace a), va_rf (S.O_FallingWordsModel.f_row a), va_rf (S.O_FallingWordsModel.f_rowRule a), .int (S.O_FallingWordsModel.f_rowSteps a), .int (S.O_FallingWordsModel.f_ringFrom a), va_rf (S.O_FallingWordsModel.f_found a), .int (S.O_FallingWordsModel.f_many a), .int v, .int (S.O_FallingWordsModel.f_otherRule a), .int (S.O_FallingWordsModel.f_overlapPlace a), .int (S.O_FallingWordsModel.f_oneWord a), .int (S.O_FallingWordsModel.f_otherWord a), .int (S.O_FallingWordsModel.f_oneNormal a), .int (S.O_FallingWordsModel.f_otherNormal a)])) b = wPF cyC cyI cyO4fe54 { S with O_FallingWordsModel := { S.O_FallingWordsModel with f_oneRule := va_up S.O_FallingWordsModel.f_oneRule a v } } b := by by_cases hb : b = a <;> first | (simp only [wPF, va_up_ne _ _ hb]; done) | (simp only [wPF, va_up, if_neg hb]; done) | simp [wPF, va_re, va_up, va_rf, hb, h]
theorem wPu_O_FallingWordsModel_f_oneRule (cyC : ClassId) (cyI : ClassId) (cyO4fe54 : ClassId) (X : va_W) (S : wPS) {A : Nat → Prop} {a k : Nat} (hD : va_D A (X ++ va_pl S.L (wPF cyC cyI cyO4fe54 S))) (hL : a ∈ S.L) (h : S.K a = 10) (hk : (X ++ va_pl S.L (wPF cyC cyI cyO4fe54 S))[k]? = some (a, wPF cyC cyI cyO4fe54 S a)) (v : Int32) : (X ++ va_pl S.L (wPF cyC cyI cyO4fe54 S)).set k (a, .inr (10, [va_rf (S.O_FallingWordsModel.f_s a), va_rf (S.O_FallingWordsModel.f_was a), va_rf (S.O_FallingWordsModel.f_begun a), va_rf (S.O_FallingWordsModel.f_aside a), .int (S.O_FallingWordsModel.f_states a), va_rf (S.O_FallingWordsModel.f_text a), .int (S.O_FallingWordsModel.f_typed a), .int (S.O_FallingWordsModel.f_at a), .int (S.O_FallingWordsModel.f_reason a), .int (S.O_FallingWordsModel.f_cause a), .int (S.O_FallingWordsModel.f_read a), .int (S.O_FallingWordsModel.f_readLength a), .int (S.O_FallingWordsModel.f_chosenRule a), .int (S.O_FallingWordsModel.f_chosenPlace a), va_rf (S.O_FallingWordsModel.f_row a), va_rf (S.O_FallingWordsModel.f_rowRule a), .int (S.O_FallingWordsModel.f_rowSteps a), .int (S.O_FallingWordsModel.f_ringFrom a), va_rf (S.O_FallingWordsModel.f_found a), .int (S.O_FallingWordsModel.f_many a), .int v, .int (S.O_FallingWordsModel.f_otherRule a), .int (S.O_FallingWordsModel.f_overlapPlace a), .int (S.O_FallingWordsModel.f_oneWord a), .int (S.O_FallingWordsModel.f_otherWord a), .int (S.O_FallingWordsModel.f_oneNormal a), .int (S.O_FallingWordsModel.f_otherNormal a)])) = X ++ va_pl S.L (wPF cyC cyI cyO4fe54 { S with O_FallingWordsModel := { S.O_FallingWordsModel with f_oneRule := va_up S.O_FallingWordsModel.f_oneRule a v } }) := by
  rw [va_pl_set hD hL hk]
  exact congrArg (fun l => X ++ l) (va_pl_congr (wSt_O_FallingWordsModel_f_oneRule cyC cyI cyO4fe54 S h v))
theorem wSt_O_FallingWordsModel_f_otherRule (cyC : ClassId) (cyI : ClassId) (cyO4fe54 : ClassId) (S : wPS) {a : Nat} (h : S.K a = 10) (v : Int32) (b : Nat) : va_up (wPF cyC cyI cyO4fe54 S) a (.inr (10, [va_rf (S.O_FallingWordsModel.f_s a), va_rf (S.O_FallingWordsModel.f_was a), va_rf (S.O_FallingWordsModel.f_begun a), va_rf (S.O_FallingWordsModel.f_aside a), .int (S.O_FallingWordsModel.f_states a), va_rf (S.O_FallingWordsModel.f_text a), .int (S.O_FallingWordsModel.f_typed a), .int (S.O_FallingWordsModel.f_at a), .int (S.O_FallingWordsModel.f_reason a), .int (S.O_FallingWordsModel.f_cause a), .int (S.O_FallingWordsModel.f_read a), .int (S.O_FallingWordsModel.f_readLength a), .int (S.O_FallingWordsModel.f_chosenRule a), .int (S.O_FallingWordsModel.f_chosenPlace a), va_rf (S.O_FallingWordsModel.f_row a), va_rf (S.O_FallingWordsModel.f_rowRule a), .int (S.O_FallingWordsModel.f_rowSteps a), .int (S.O_FallingWordsModel.f_ringFrom a), va_rf (S.O_FallingWordsModel.f_found a), .int (S.O_FallingWordsModel.f_many a), .int (S.O_FallingWordsModel.f_oneRule a), .int v, .int (S.O_FallingWordsModel.f_overlapPlace a), .int (S.O_FallingWordsModel.f_oneWord a), .int (S.O_FallingWordsModel.f_otherWord a), .int (S.O_FallingWordsModel.f_oneNormal a), .int (S.O_FallingWordsModel.f_otherNormal a)])) b = wPF cyC cyI cyO4fe54 { S with O_FallingWordsModel := { S.O_FallingWordsModel with f_otherRule := va_up S.O_FallingWordsModel.f_otherRule a v } } b := by by_cases hb : b = a <;> first | (simp only [wPF, va_up_ne _ _ hb]; done) | (simp only [wPF, va_up, if_neg hb]; done) | simp [wPF, va_re, va_up, va_rf, hb, h]
theorem wPu_O_FallingWordsModel_f_otherRule (cyC : ClassId) (cyI : ClassId) (cyO4fe54 : ClassId) (X : va_W) (S : wPS) {A : Nat → Prop} {a k : Nat} (hD : va_D A (X ++ va_pl S.L (wPF cyC cyI cyO4fe54 S))) (hL : a ∈ S.L) (h : S.K a = 10) (hk : (X ++ va_pl S.L (wPF cyC cyI cyO4fe54 S))[k]? = some (a, wPF cyC cyI cyO4fe54 S a)) (v : Int32) : (X ++ va_pl S.L (wPF cyC cyI cyO4fe54 S)).set k (a, .inr (10, [va_rf (S.O_FallingWordsModel.f_s a), va_rf (S.O_FallingWordsModel.f_was a), va_rf (S.O_FallingWordsModel.f_begun a), va_rf (S.O_FallingWordsModel.f_aside a), .int (S.O_FallingWordsModel.f_states a), va_rf (S.O_FallingWordsModel.f_text a), .int (S.O_FallingWordsModel.f_typed a), .int (S.O_FallingWordsModel.f_at a), .int (S.O_FallingWordsModel.f_reason a), .int (S.O_FallingWordsModel.f_cause a), .int (S.O_FallingWordsModel.f_read a), .int (S.O_FallingWordsModel.f_readLength a), .int (S.O_FallingWordsModel.f_chosenRule a), .int (S.O_FallingWordsModel.f_chosenPlace a), va_rf (S.O_FallingWordsModel.f_row a), va_rf (S.O_FallingWordsModel.f_rowRule a), .int (S.O_FallingWordsModel.f_rowSteps a), .int (S.O_FallingWordsModel.f_ringFrom a), va_rf (S.O_FallingWordsModel.f_found a), .int (S.O_FallingWordsModel.f_many a), .int (S.O_FallingWordsModel.f_oneRule a), .int v, .int (S.O_FallingWordsModel.f_overlapPlace a), .int (S.O_FallingWordsModel.f_oneWord a), .int (S.O_FallingWordsModel.f_otherWord a), .int (S.O_FallingWordsModel.f_oneNormal a), .int (S.O_FallingWordsModel.f_otherNormal a)])) = X ++ va_pl S.L (wPF cyC cyI cyO4fe54 { S with O_FallingWordsModel := { S.O_FallingWordsModel with f_otherRule := va_up S.O_FallingWordsModel.f_otherRule a v } }) := by
  rw [va_pl_set hD hL hk]
  exact congrArg (fun l => X ++ l) (va_pl_congr (wSt_O_FallingWordsModel_f_otherRule cyC cyI cyO4fe54 S h v))
theorem wSt_O_FallingWordsModel_f_overlapPlace (cyC : ClassId) (cyI : ClassId) (cyO4fe54 : ClassId) (S : wPS) {a : Nat} (h : S.K a = 10) (v : Int32) (b : Nat) : va_up (wPF cyC cyI cyO4fe54 S) a (.inr (10, [va_rf (S.O_FallingWordsModel.f_s a), va_rf (S.O_FallingWordsModel.f_was a), va_rf (S.O_FallingWordsModel.f_begun a), va_rf (S.O_FallingWordsModel.f_aside a), .int (S.O_FallingWordsModel.f_states a), va_rf (S.O_FallingWordsModel.f_text a), .int (S.O_FallingWordsModel.f_typed a), .int (S.O_FallingWordsModel.f_at a), .int (S.O_FallingWordsModel.f_reason a), .int (S.O_FallingWordsModel.f_cause a), .int (S.O_FallingWordsModel.f_read a), .int (S.O_FallingWordsModel.f_readLength a), .int (S.O_FallingWordsModel.f_chosenRule a), .int (S.O_FallingWordsModel.f_chosenPlace a), va_rf (S.O_FallingWordsModel.f_row a), va_rf (S.O_FallingWordsModel.f_rowRule a), .int (S.O_FallingWordsModel.f_rowSteps a), .int (S.O_FallingWordsModel.f_ringFrom a), va_rf (S.O_FallingWordsModel.f_found a), .int (S.O_FallingWordsModel.f_many a), .int (S.O_FallingWordsModel.f_oneRule a), .int (S.O_FallingWordsModel.f_otherRule a), .int v, .int (S.O_FallingWordsModel.f_oneWord a), .int (S.O_FallingWordsModel.f_otherWord a), .int (S.O_FallingWordsModel.f_oneNormal a), .int (S.O_FallingWordsModel.f_otherNormal a)])) b = wPF cyC cyI cyO4fe54 { S with O_FallingWordsModel := { S.O_FallingWordsModel with f_overlapPlace := va_up S.O_FallingWordsModel.f_overlapPlace a v } } b := by by_cases hb : b = a <;> first | (simp only [wPF, va_up_ne _ _ hb]; done) | (simp only [wPF, va_up, if_neg hb]; done) | simp [wPF, va_re, va_up, va_rf, hb, h]
theorem wPu_O_FallingWordsModel_f_overlapPlace (cyC : ClassId) (cyI : ClassId) (cyO4fe54 : ClassId) (X : va_W) (S : wPS) {A : Nat → Prop} {a k : Nat} (hD : va_D A (X ++ va_pl S.L (wPF cyC cyI cyO4fe54 S))) (hL : a ∈ S.L) (h : S.K a = 10) (hk : (X ++ va_pl S.L (wPF cyC cyI cyO4fe54 S))[k]? = some (a, wPF cyC cyI cyO4fe54 S a)) (v : Int32) : (X ++ va_pl S.L (wPF cyC cyI cyO4fe54 S)).set k (a, .inr (10, [va_rf (S.O_FallingWordsModel.f_s a), va_rf (S.O_FallingWordsModel.f_was a), va_rf (S.O_FallingWordsModel.f_begun a), va_rf (S.O_FallingWordsModel.f_aside a), .int (S.O_FallingWordsModel.f_states a), va_rf (S.O_FallingWordsModel.f_text a), .int (S.O_FallingWordsModel.f_typed a), .int (S.O_FallingWordsModel.f_at a), .int (S.O_FallingWordsModel.f_reason a), .int (S.O_FallingWordsModel.f_cause a), .int (S.O_FallingWordsModel.f_read a), .int (S.O_FallingWordsModel.f_readLength a), .int (S.O_FallingWordsModel.f_chosenRule a), .int (S.O_FallingWordsModel.f_chosenPlace a), va_rf (S.O_FallingWordsModel.f_row a), va_rf (S.O_FallingWordsModel.f_rowRule a), .int (S.O_FallingWordsModel.f_rowSteps a), .int (S.O_FallingWordsModel.f_ringFrom a), va_rf (S.O_FallingWordsModel.f_found a), .int (S.O_FallingWordsModel.f_many a), .int (S.O_FallingWordsModel.f_oneRule a), .int (S.O_FallingWordsModel.f_otherRule a), .int v, .int (S.O_FallingWordsModel.f_oneWord a), .int (S.O_FallingWordsModel.f_otherWord a), .int (S.O_FallingWordsModel.f_oneNormal a), .int (S.O_FallingWordsModel.f_otherNormal a)])) = X ++ va_pl S.L (wPF cyC cyI cyO4fe54 { S with O_FallingWordsModel := { S.O_FallingWordsModel with f_overlapPlace := va_up S.O_FallingWordsModel.f_overlapPlace a v } }) := by
  rw [va_pl_set hD hL hk]
  exact congrArg (fun l => X ++ l) (va_pl_congr (wSt_O_FallingWordsModel_f_overlapPlace cyC cyI cyO4fe54 S h v))
theorem wSt_O_FallingWordsModel_f_oneWord (cyC : ClassId) (cyI : ClassId) (cyO4fe54 : ClassId) (S : wPS) {a : Nat} (h : S.K a = 10) (v : Int32) (b : Nat) : va_up (wPF cyC cyI cyO4fe54 S) a (.inr (10, [va_rf (S.O_FallingWordsModel.f_s a), va_rf (S.O_FallingWordsModel.f_was a), va_rf (S.O_FallingWordsModel.f_begun a), va_rf (S.O_FallingWordsModel.f_aside a), .int (S.O_FallingWordsModel.f_states a), va_rf (S.O_FallingWordsModel.f_text a), .int (S.O_FallingWordsModel.f_typed a), .int (S.O_FallingWordsModel.f_at a), .int (S.O_FallingWordsModel.f_reason a), .int (S.O_FallingWordsModel.f_cause a), .int (S.O_FallingWordsModel.f_read a), .int (S.O_FallingWordsModel.f_readLength a), .int (S.O_FallingWordsModel.f_chosenRule a), .int (S.O_FallingWordsModel.f_chosenPlace a), va_rf (S.O_FallingWordsModel.f_row a), va_rf (S.O_FallingWordsModel.f_rowRule a), .int (S.O_FallingWordsModel.f_rowSteps a), .int (S.O_FallingWordsModel.f_ringFrom a), va_rf (S.O_FallingWordsModel.f_found a), .int (S.O_FallingWordsModel.f_many a), .int (S.O_FallingWordsModel.f_oneRule a), .int (S.O_FallingWordsModel.f_otherRule a), .int (S.O_FallingWordsModel.f_overlapPlace a), .int v, .int (S.O_FallingWordsModel.f_otherWord a), .int (S.O_FallingWordsModel.f_oneNormal a), .int (S.O_FallingWordsModel.f_otherNormal a)])) b = wPF cyC cyI cyO4fe54 { S with O_FallingWordsModel := { S.O_FallingWordsModel with f_oneWord := va_up S.O_FallingWordsModel.f_oneWord a v } } b := by by_cases hb : b = a <;> first | (simp only [wPF, va_up_ne _ _ hb]; done) | (simp only [wPF, va_up, if_neg hb]; done) | simp [wPF, va_re, va_up, va_rf, hb, h]
theorem wPu_O_FallingWordsModel_f_oneWord (cyC : ClassId) (cyI : ClassId) (cyO4fe54 : ClassId) (X : va_W) (S : wPS) {A : Nat → Prop} {a k : Nat} (hD : va_D A (X ++ va_pl S.L (wPF cyC cyI cyO4fe54 S))) (hL : a ∈ S.L) (h : S.K a = 10) (hk : (X ++ va_pl S.L (wPF cyC cyI cyO4fe54 S))[k]? = some (a, wPF cyC cyI cyO4fe54 S a)) (v : Int32) : (X ++ va_pl S.L (wPF cyC cyI cyO4fe54 S)).set k (a, .inr (10, [va_rf (S.O_FallingWordsModel.f_s a), va_rf (S.O_FallingWordsModel.f_was a), va_rf (S.O_FallingWordsModel.f_begun a), va_rf (S.O_FallingWordsModel.f_aside a), .int (S.O_FallingWordsModel.f_states a), va_rf (S.O_FallingWordsModel.f_text a), .int (S.O_FallingWordsModel.f_typed a), .int (S.O_FallingWordsModel.f_at a), .int (S.O_FallingWordsModel.f_reason a), .int (S.O_FallingWordsModel.f_cause a), .int (S.O_FallingWordsModel.f_read a), .int (S.O_FallingWordsModel.f_readLength a), .int (S.O_FallingWordsModel.f_chosenRule a), .int (S.O_FallingWordsModel.f_chosenPlace a), va_rf (S.O_FallingWordsModel.f_row a), va_rf (S.O_FallingWordsModel.f_rowRule a), .int (S.O_FallingWordsModel.f_rowSteps a), .int (S.O_FallingWordsModel.f_ringFrom a), va_rf (S.O_FallingWordsModel.f_found a), .int (S.O_FallingWordsModel.f_many a), .int (S.O_FallingWordsModel.f_oneRule a), .int (S.O_FallingWordsModel.f_otherRule a), .int (S.O_FallingWordsModel.f_overlapPlace a), .int v, .int (S.O_FallingWordsModel.f_otherWord a), .int (S.O_FallingWordsModel.f_oneNormal a), .int (S.O_FallingWordsModel.f_otherNormal a)])) = X ++ va_pl S.L (wPF cyC cyI cyO4fe54 { S with O_FallingWordsModel := { S.O_FallingWordsModel with f_oneWord := va_up S.O_FallingWordsModel.f_oneWord a v } }) := by
  rw [va_pl_set hD hL hk]
  exact congrArg (fun l => X ++ l) (va_pl_congr (wSt_O_FallingWordsModel_f_oneWord cyC cyI cyO4fe54 S h v))
theorem wSt_O_FallingWordsModel_f_otherWord (cyC : ClassId) (cyI : ClassId) (cyO4fe54 : ClassId) (S : wPS) {a : Nat} (h : S.K a = 10) (v : Int32) (b : Nat) : va_up (wPF cyC cyI cyO4fe54 S) a (.inr (10, [va_rf (S.O_FallingWordsModel.f_s a), va_rf (S.O_FallingWordsModel.f_was a), va_rf (S.O_FallingWordsModel.f_begun a), va_rf (S.O_FallingWordsModel.f_aside a), .int (S.O_FallingWordsModel.f_states a), va_rf (S.O_FallingWordsModel.f_text a), .int (S.O_FallingWordsModel.f_typed a), .int (S.O_FallingWordsModel.f_at a), .int (S.O_FallingWordsModel.f_reason a), .int (S.O_FallingWordsModel.f_cause a), .int (S.O_FallingWordsModel.f_read a), .int (S.O_FallingWordsModel.f_readLength a), .int (S.O_FallingWordsModel.f_chosenRule a), .int (S.O_FallingWordsModel.f_chosenPlace a), va_rf (S.O_FallingWordsModel.f_row a), va_rf (S.O_FallingWordsModel.f_rowRule a), .int (S.O_FallingWordsModel.f_rowSteps a), .int (S.O_FallingWordsModel.f_ringFrom a), va_rf (S.O_FallingWordsModel.f_found a), .int (S.O_FallingWordsModel.f_many a), .int (S.O_FallingWordsModel.f_oneRule a), .int (S.O_FallingWordsModel.f_otherRule a), .int (S.O_FallingWordsModel.f_overlapPlace a), .int (S.O_FallingWordsModel.f_oneWord a), .int v, .int (S.O_FallingWordsModel.f_oneNormal a), .int (S.O_FallingWordsModel.f_otherNormal a)])) b = wPF cyC cyI cyO4fe54 { S with O_FallingWordsModel := { S.O_FallingWordsModel with f_otherWord := va_up S.O_FallingWordsModel.f_otherWord a v } } b := by by_cases hb : b = a <;> first | (simp only [wPF, va_up_ne _ _ hb]; done) | (simp only [wPF, va_up, if_neg hb]; done) | simp [wPF, va_re, va_up, va_rf, hb, h]
theorem wPu_O_FallingWordsModel_f_otherWord (cyC : ClassId) (cyI : ClassId) (cyO4fe54 : ClassId) (X : va_W) (S : wPS) {A : Nat → Prop} {a k : Nat} (hD : va_D A (X ++ va_pl S.L (wPF cyC cyI cyO4fe54 S))) (hL : a ∈ S.L) (h : S.K a = 10) (hk : (X ++ va_pl S.L (wPF cyC cyI cyO4fe54 S))[k]? = some (a, wPF cyC cyI cyO4fe54 S a)) (v : Int32) : (X ++ va_pl S.L (wPF cyC cyI cyO4fe54 S)).set k (a, .inr (10, [va_rf (S.O_FallingWordsModel.f_s a), va_rf (S.O_FallingWordsModel.f_was a), va_rf (S.O_FallingWordsModel.f_begun a), va_rf (S.O_FallingWordsModel.f_aside a), .int (S.O_FallingWordsModel.f_states a), va_rf (S.O_FallingWordsModel.f_text a), .int (S.O_FallingWordsModel.f_typed a), .int (S.O_FallingWordsModel.f_at a), .int (S.O_FallingWordsModel.f_reason a), .int (S.O_FallingWordsModel.f_cause a), .int (S.O_FallingWordsModel.f_read a), .int (S.O_FallingWordsModel.f_readLength a), .int (S.O_FallingWordsModel.f_chosenRule a), .int (S.O_FallingWordsModel.f_chosenPlace a), va_rf (S.O_FallingWordsModel.f_row a), va_rf (S.O_FallingWordsModel.f_rowRule a), .int (S.O_FallingWordsModel.f_rowSteps a), .int (S.O_FallingWordsModel.f_ringFrom a), va_rf (S.O_FallingWordsModel.f_found a), .int (S.O_FallingWordsModel.f_many a), .int (S.O_FallingWordsModel.f_oneRule a), .int (S.O_FallingWordsModel.f_otherRule a), .int (S.O_FallingWordsModel.f_overlapPlace a), .int (S.O_FallingWordsModel.f_oneWord a), .int v, .int (S.O_FallingWordsModel.f_oneNormal a), .int (S.O_FallingWordsModel.f_otherNormal a)])) = X ++ va_pl S.L (wPF cyC cyI cyO4fe54 { S with O_FallingWordsModel := { S.O_FallingWordsModel with f_otherWord := va_up S.O_FallingWordsModel.f_otherWord a v } }) := by
  rw [va_pl_set hD hL hk]
  exact congrArg (fun l => X ++ l) (va_pl_congr (wSt_O_FallingWordsModel_f_otherWord cyC cyI cyO4fe54 S h v))
theorem wSt_O_FallingWordsModel_f_oneNormal (cyC : ClassId) (cyI : ClassId) (cyO4fe54 : ClassId) (S : wPS) {a : Nat} (h : S.K a = 10) (v : Int32) (b : Nat) : va_up (wPF cyC cyI cyO4fe54 S) a (.inr (10, [va_rf (S.O_FallingWordsModel.f_s a), va_rf (S.O_FallingWordsModel.f_was a), va_rf (S.O_FallingWordsModel.f_begun a), va_rf (S.O_FallingWordsModel.f_aside a), .int (S.O_FallingWordsModel.f_states a), va_rf (S.O_FallingWordsModel.f_text a), .int (S.O_FallingWordsModel.f_typed a), .int (S.O_FallingWordsModel.f_at a), .int (S.O_FallingWordsModel.f_reason a), .int (S.O_FallingWordsModel.f_cause a), .int (S.O_FallingWordsModel.f_read a), .int (S.O_FallingWordsModel.f_readLength a), .int (S.O_FallingWordsModel.f_chosenRule a), .int (S.O_FallingWordsModel.f_chosenPlace a), va_rf (S.O_FallingWordsModel.f_row a), va_rf (S.O_FallingWordsModel.f_rowRule a), .int (S.O_FallingWordsModel.f_rowSteps a), .int (S.O_FallingWordsModel.f_ringFrom a), va_rf (S.O_FallingWordsModel.f_found a), .int (S.O_FallingWordsModel.f_many a), .int (S.O_FallingWordsModel.f_oneRule a), .int (S.O_FallingWordsModel.f_otherRule a), .int (S.O_FallingWordsModel.f_overlapPlace a), .int (S.O_FallingWordsModel.f_oneWord a), .int (S.O_FallingWordsModel.f_otherWord a), .int v, .int (S.O_FallingWordsModel.f_otherNormal a)])) b = wPF cyC cyI cyO4fe54 { S with O_FallingWordsModel := { S.O_FallingWordsModel with f_oneNormal := va_up S.O_FallingWordsModel.f_oneNormal a v } } b := by by_cases hb : b = a <;> first | (simp only [wPF, va_up_ne _ _ hb]; done) | (simp only [wPF, va_up, if_neg hb]; done) | simp [wPF, va_re, va_up, va_rf, hb, h]
theorem wPu_O_FallingWordsModel_f_oneNormal (cyC : ClassId) (cyI : ClassId) (cyO4fe54 : ClassId) (X : va_W) (S : wPS) {A : Nat → Prop} {a k : Nat} (hD : va_D A (X ++ va_pl S.L (wPF cyC cyI cyO4fe54 S))) (hL : a ∈ S.L) (h : S.K a = 10) (hk : (X ++ va_pl S.L (wPF cyC cyI cyO4fe54 S))[k]? = some (a, wPF cyC cyI cyO4fe54 S a)) (v : Int32) : (X ++ va_pl S.L (wPF cyC cyI cyO4fe54 S)).set k (a, .inr (10, [va_rf (S.O_FallingWordsModel.f_s a), va_rf (S.O_FallingWordsModel.f_was a), va_rf (S.O_FallingWordsModel.f_begun a), va_rf (S.O_FallingWordsModel.f_aside a), .int (S.O_FallingWordsModel.f_states a), va_rf (S.O_FallingWordsModel.f_text a), .int (S.O_FallingWordsModel.f_typed a), .int (S.O_FallingWordsModel.f_at a), .int (S.O_FallingWordsModel.f_reason a), .int (S.O_FallingWordsModel.f_cause a), .int (S.O_FallingWordsModel.f_read a), .int (S.O_FallingWordsModel.f_readLength a), .int (S.O_FallingWordsModel.f_chosenRule a), .int (S.O_FallingWordsModel.f_chosenPlace a), va_rf (S.O_FallingWordsModel.f_row a), va_rf (S.O_FallingWordsModel.f_rowRule a), .int (S.O_FallingWordsModel.f_rowSteps a), .int (S.O_FallingWordsModel.f_ringFrom a), va_rf (S.O_FallingWordsModel.f_found a), .int (S.O_FallingWordsModel.f_many a), .int (S.O_FallingWordsModel.f_oneRule a), .int (S.O_FallingWordsModel.f_otherRule a), .int (S.O_FallingWordsModel.f_overlapPlace a), .int (S.O_FallingWordsModel.f_oneWord a), .int (S.O_FallingWordsModel.f_otherWord a), .int v, .int (S.O_FallingWordsModel.f_otherNormal a)])) = X ++ va_pl S.L (wPF cyC cyI cyO4fe54 { S with O_FallingWordsModel := { S.O_FallingWordsModel with f_oneNormal := va_up S.O_FallingWordsModel.f_oneNormal a v } }) := by
  rw [va_pl_set hD hL hk]
  exact congrArg (fun l => X ++ l) (va_pl_congr (wSt_O_FallingWordsModel_f_oneNormal cyC cyI cyO4fe54 S h v))
theorem wSt_O_FallingWordsModel_f_otherNormal (cyC : ClassId) (cyI : ClassId) (cyO4fe54 : ClassId) (S : wPS) {a : Nat} (h : S.K a = 10) (v : Int32) (b : Nat) : va_up (wPF cyC cyI cyO4fe54 S) a (.inr (10, [va_rf (S.O_FallingWordsModel.f_s a), va_rf (S.O_FallingWordsModel.f_was a), va_rf (S.O_FallingWordsModel.f_begun a), va_rf (S.O_FallingWordsModel.f_aside a), .int (S.O_FallingWordsModel.f_states a), va_rf (S.O_FallingWordsModel.f_text a), .int (S.O_FallingWordsModel.f_typed a), .int (S.O_FallingWordsModel.f_at a), .int (S.O_FallingWordsModel.f_reason a), .int (S.O_FallingWordsModel.f_cause a), .int (S.O_FallingWordsModel.f_read a), .int (S.O_FallingWordsModel.f_readLength a), .int (S.O_FallingWordsModel.f_chosenRule a), .int (S.O_FallingWordsModel.f_chosenPlace a), va_rf (S.O_FallingWordsModel.f_row a), va_rf (S.O_FallingWordsModel.f_rowRule a), .int (S.O_FallingWordsModel.f_rowSteps a), .int (S.O_FallingWordsModel.f_ringFrom a), va_rf (S.O_FallingWordsModel.f_found a), .int (S.O_FallingWordsModel.f_many a), .int (S.O_FallingWordsModel.f_oneRule a), .int (S.O_FallingWordsModel.f_otherRule a), .int (S.O_FallingWordsModel.f_overlapPlace a), .int (S.O_FallingWordsModel.f_oneWord a), .int (S.O_FallingWordsModel.f_otherWord a), .int (S.O_FallingWordsModel.f_oneNormal a), .int v])) b = wPF cyC cyI cyO4fe54 { S with O_FallingWordsModel := { S.O_FallingWordsModel with f_otherNormal := va_up S.O_FallingWordsModel.f_otherNormal a v } } b := by by_cases hb : b = a <;> first | (simp only [wPF, va_up_ne _ _ hb]; done) | (simp only [wPF, va_up, if_neg hb]; done) | simp [wPF, va_re, va_up, va_rf, hb, h]
theorem wPu_O_FallingWordsModel_f_otherNormal (cyC : ClassId) (cyI : ClassId) (cyO4fe54 : ClassId) (X : va_W) (S : wPS) {A : Nat → Prop} {a k : Nat} (hD : va_D A (X ++ va_pl S.L (wPF cyC cyI cyO4fe54 S))) (hL : a ∈ S.L) (h : S.K a = 10) (hk : (X ++ va_pl S.L (wPF cyC cyI cyO4fe54 S))[k]? = some (a, wPF cyC cyI cyO4fe54 S a)) (v : Int32) : (X ++ va_pl S.L (wPF cyC cyI cyO4fe54 S)).set k (a, .inr (10, [va_rf (S.O_FallingWordsModel.f_s a), va_rf (S.O_FallingWordsModel.f_was a), va_rf (S.O_FallingWordsModel.f_begun a), va_rf (S.O_FallingWordsModel.f_aside a), .int (S.O_FallingWordsModel.f_states a), va_rf (S.O_FallingWordsModel.f_text a), .int (S.O_FallingWordsModel.f_typed a), .int (S.O_FallingWordsModel.f_at a), .int (S.O_FallingWordsModel.f_reason a), .int (S.O_FallingWordsModel.f_cause a), .int (S.O_FallingWordsModel.f_read a), .int (S.O_FallingWordsModel.f_readLength a), .int (S.O_FallingWordsModel.f_chosenRule a), .int (S.O_FallingWordsModel.f_chosenPlace a), va_rf (S.O_FallingWordsModel.f_row a), va_rf (S.O_FallingWordsModel.f_rowRule a), .int (S.O_FallingWordsModel.f_rowSteps a), .int (S.O_FallingWordsModel.f_ringFrom a), va_rf (S.O_FallingWordsModel.f_found a), .int (S.O_FallingWordsModel.f_many a), .int (S.O_FallingWordsModel.f_oneRule a), .int (S.O_FallingWordsModel.f_otherRule a), .int (S.O_FallingWordsModel.f_overlapPlace a), .int (S.O_FallingWordsModel.f_oneWord a), .int (S.O_FallingWordsModel.f_otherWord a), .int (S.O_FallingWordsModel.f_oneNormal a), .int v])) = X ++ va_pl S.L (wPF cyC cyI cyO4fe54 { S with O_FallingWordsModel := { S.O_FallingWordsModel with f_otherNormal := va_up S.O_FallingWordsModel.f_otherNormal a v } }) := by
  rw [va_pl_set hD hL hk]
  exact congrArg (fun l => X ++ l) (va_pl_congr (wSt_O_FallingWordsModel_f_otherNormal cyC cyI cyO4fe54 S h v))
theorem wNw_O_FallingWordsModel (cyC : ClassId) (cyI : ClassId) (cyO4fe54 : ClassId) (S : wPS) (a b : Nat) : va_up (wPF cyC cyI cyO4fe54 S) a (.inr (10, [.null, .null, .null, .null, .int 0, .null, .int 0, .int 0, .int 0, .int 0, .int 0, .int 0, .int 0, .int 0, .null, .null, .int 0, .int 0, .null, .int 0, .int 0, .int 0, .int 0, .int 0, .int 0, .int 0, .int 0])) b = wPF cyC cyI cyO4fe54 { S with L := S.L ++ [a], K := va_up S.K a 10, O_FallingWordsModel := { f_s := va_up S.O_FallingWordsModel.f_s a none, f_was := va_up S.O_FallingWordsModel.f_was a none, f_begun := va_up S.O_FallingWordsModel.f_begun a none, f_aside := va_up S.O_FallingWordsModel.f_aside a none, f_states := va_up S.O_FallingWordsModel.f_states a 0, f_text := va_up S.O_FallingWordsModel.f_text a none, f_typed := va_up S.O_FallingWordsModel.f_typed a 0, f_at := va_up S.O_FallingWordsModel.f_at a 0, f_reason := va_up S.O_FallingWordsModel.f_reason a 0, f_cause := va_up S.O_FallingWordsModel.f_cause a 0, f_read := va_up S.O_FallingWordsModel.f_read a 0, f_readLength := va_up S.O_FallingWordsModel.f_readLength a 0, f_chosenRule := va_up S.O_FallingWordsModel.f_chosenRule a 0, f_chosenPlace := va_up S.O_FallingWordsModel.f_chosenPlace a 0, f_row := va_up S.O_FallingWordsModel.f_row a none, f_rowRule := va_up S.O_FallingWordsModel.f_rowRule a none, f_rowSteps := va_up S.O_FallingWordsModel.f_rowSteps a 0, f_ringFrom := va_up S.O_FallingWordsModel.f_ringFrom a 0, f_found := va_up S.O_FallingWordsModel.f_found a none, f_many := va_up S.O_FallingWordsModel.f_many a 0, f_oneRule := va_up S.O_FallingWordsModel.f_oneRule a 0, f_otherRule := va_up S.O_FallingWordsModel.f_otherRule a 0, f_overlapPlace := va_up S.O_FallingWordsModel.f_overlapPlace a 0, f_oneWord := va_up S.O_FallingWordsModel.f_oneWord a 0, f_otherWord := va_up S.O_FallingWordsModel.f_otherWord a 0, f_oneNormal := va_up S.O_FallingWordsModel.f_oneNormal a 0, f_otherNormal := va_up S.O_FallingWordsModel.f_otherNormal a 0 } } b := by by_cases hb : b = a <;> first | (simp only [wPF, va_up_ne _ _ hb]; done) | (simp only [wPF, va_up, if_neg hb]; done) | simp [wPF, va_re, va_up, va_rf, hb]
theorem wPn_O_FallingWordsModel (cyC : ClassId) (cyI : ClassId) (cyO4fe54 : ClassId) (X : va_W) (S : wPS) {a : Nat} (ha : a ∉ S.L) : (X ++ va_pl S.L (wPF cyC cyI cyO4fe54 S)) ++ [(a, .inr (10, [.null, .null, .null, .null, .int 0, .null, .int 0, .int 0, .int 0, .int 0, .int 0, .int 0, .int 0, .int 0, .null, .null, .int 0, .int 0, .null, .int 0, .int 0, .int 0, .int 0, .int 0, .int 0, .int 0, .int 0]))] = X ++ va_pl (S.L ++ [a]) (wPF cyC cyI cyO4fe54 { S with L := S.L ++ [a], K := va_up S.K a 10, O_FallingWordsModel := { f_s := va_up S.O_FallingWordsModel.f_s a none, f_was := va_up S.O_FallingWordsModel.f_was a none, f_begun := va_up S.O_FallingWordsModel.f_begun a none, f_aside := va_up S.O_FallingWordsModel.f_aside a none, f_states := va_up S.O_FallingWordsModel.f_states a 0, f_text := va_up S.O_FallingWordsModel.f_text a none, f_typed := va_up S.O_FallingWordsModel.f_typed a 0, f_at := va_up S.O_FallingWordsModel.f_at a 0, f_reason := va_up S.O_FallingWordsModel.f_reason a 0, f_cause := va_up S.O_FallingWordsModel.f_cause a 0, f_read := va_up S.O_FallingWordsModel.f_read a 0, f_readLength := va_up S.O_FallingWordsModel.f_readLength a 0, f_chosenRule := va_up S.O_FallingWordsModel.f_chosenRule a 0, f_chosenPlace := va_up S.O_FallingWordsModel.f_chosenPlace a 0, f_row := va_up S.O_FallingWordsModel.f_row a none, f_rowRule := va_up S.O_FallingWordsModel.f_rowRule a none, f_rowSteps := va_up S.O_FallingWordsModel.f_rowSteps a 0, f_ringFrom := va_up S.O_FallingWordsModel.f_ringFrom a 0, f_found := va_up S.O_FallingWordsModel.f_found a none, f_many := va_up S.O_FallingWordsModel.f_many a 0, f_oneRule := va_up S.O_FallingWordsModel.f_oneRule a 0, f_otherRule := va_up S.O_FallingWordsModel.f_otherRule a 0, f_overlapPlace := va_up S.O_FallingWordsModel.f_overlapPlace a 0, f_oneWord := va_up S.O_FallingWordsModel.f_oneWord a 0, f_otherWord := va_up S.O_FallingWordsModel.f_otherWord a 0, f_oneNormal := va_up S.O_FallingWordsModel.f_oneNormal a 0, f_otherNormal := va_up S.O_FallingWordsModel.f_otherNormal a 0 } }) := by
  rw [List.append_assoc, va_pl_push ha]
  exact congrArg (fun l => X ++ l) (va_pl_congr (wNw_O_FallingWordsModel cyC cyI cyO4fe54 S a))
theorem wAt_R_C (cyC : ClassId) (cyI : ClassId) (cyO4fe54 : ClassId) (S : wPS) {a : Nat} (h : S.K a = 11) : wPF cyC cyI cyO4fe54 S a = .inl (cyC, S.R_C.len a, .inl (S.R_C.row a)) := by simp [wPF, h]
theorem wGt_R_C (cyC : ClassId) (cyI : ClassId) (cyO4fe54 : ClassId) (X : va_W) (S : wPS) {a : Nat} (hL : a ∈ S.L) (h : S.K a = 11) : ∃ k : Nat, (X ++ va_pl S.L (wPF cyC cyI cyO4fe54 S))[k]? = some (a, wPF cyC cyI cyO4fe54 S a) ∧ (X ++ va_pl S.L (wPF cyC cyI cyO4fe54 S))[k]? = some (a, .inl (cyC, S.R_C.len a, .inl (S.R_C.row a))) := by
  obtain ⟨k, hk⟩ := va_pl_get (X := X) (f := wPF cyC cyI cyO4fe54 S) hL
  exact ⟨k, hk, hk.trans (congrArg (fun e => some (a, e)) (wAt_R_C cyC cyI cyO4fe54 S h))⟩
theorem wSt_R_C_row (cyC : ClassId) (cyI : ClassId) (cyO4fe54 : ClassId) (S : wPS) {a : Nat} (h : S.K a = 11) (v : Nat → Int32) (b : Nat) : va_up (wPF cyC cyI cyO4fe54 S) a (.inl (cyC, S.R_C.len a, .inl v)) b = wPF cyC cyI cyO4fe54 { S with R_C := { S.R_C with row := va_up S.R_C.row a v } } b := by by_cases hb : b = a <;> first | (simp only [wPF, va_up_ne _ _ hb]; done) | (simp only [wPF, va_up, if_neg hb]; done) | simp [wPF, va_re, va_up, va_rf, hb, h]
theorem wPu_R_C_row (cyC : ClassId) (cyI : ClassId) (cyO4fe54 : ClassId) (X : va_W) (S : wPS) {A : Nat → Prop} {a k : Nat} (hD : va_D A (X ++ va_pl S.L (wPF cyC cyI cyO4fe54 S))) (hL : a ∈ S.L) (h : S.K a = 11) (hk : (X ++ va_pl S.L (wPF cyC cyI cyO4fe54 S))[k]? = some (a, wPF cyC cyI cyO4fe54 S a)) (v : Nat → Int32) : (X ++ va_pl S.L (wPF cyC cyI cyO4fe54 S)).set k (a, .inl (cyC, S.R_C.len a, .inl v)) = X ++ va_pl S.L (wPF cyC cyI cyO4fe54 { S with R_C := { S.R_C with row := va_up S.R_C.row a v } }) := by
  rw [va_pl_set hD hL hk]
  exact congrArg (fun l => X ++ l) (va_pl_congr (wSt_R_C_row cyC cyI cyO4fe54 S h v))
theorem wNw_R_C (cyC : ClassId) (cyI : ClassId) (cyO4fe54 : ClassId) (S : wPS) (a : Nat) (z : Nat) (f : Nat → Int32) (b : Nat) : va_up (wPF cyC cyI cyO4fe54 S) a (.inl (cyC, z, .inl f)) b = wPF cyC cyI cyO4fe54 { S with L := S.L ++ [a], K := va_up S.K a 11, R_C := { len := va_up S.R_C.len a z, row := va_up S.R_C.row a f } } b := by by_cases hb : b = a <;> first | (simp only [wPF, va_up_ne _ _ hb]; done) | (simp only [wPF, va_up, if_neg hb]; done) | simp [wPF, va_re, va_up, va_rf, hb]
theorem wAt_R_I (cyC : ClassId) (cyI : ClassId) (cyO4fe54 : ClassId) (S : wPS) {a : Nat} (h : S.K a = 12) : wPF cyC cyI cyO4fe54 S a = .inl (cyI, S.R_I.len a, .inl (S.R_I.row a)) := by simp [wPF, h]
theorem wGt_R_I (cyC : ClassId) (cyI : ClassId) (cyO4fe54 : ClassId) (X : va_W) (S : wPS) {a : Nat} (hL : a ∈ S.L) (h : S.K a = 12) : ∃ k : Nat, (X ++ va_pl S.L (wPF cyC cyI cyO4fe54 S))[k]? = some (a, wPF cyC cyI cyO4fe54 S a) ∧ (X ++ va_pl S.L (wPF cyC cyI cyO4fe54 S))[k]? = some (a, .inl (cyI, S.R_I.len a, .inl (S.R_I.row a))) := by
  obtain ⟨k, hk⟩ := va_pl_get (X := X) (f := wPF cyC cyI cyO4fe54 S) hL
  exact ⟨k, hk, hk.trans (congrArg (fun e => some (a, e)) (wAt_R_I cyC cyI cyO4fe54 S h))⟩
theorem wSt_R_I_row (cyC : ClassId) (cyI : ClassId) (cyO4fe54 : ClassId) (S : wPS) {a : Nat} (h : S.K a = 12) (v : Nat → Int32) (b : Nat) : va_up (wPF cyC cyI cyO4fe54 S) a (.inl (cyI, S.R_I.len a, .inl v)) b = wPF cyC cyI cyO4fe54 { S with R_I := { S.R_I with row := va_up S.R_I.row a v } } b := by by_cases hb : b = a <;> first | (simp only [wPF, va_up_ne _ _ hb]; done) | (simp only [wPF, va_up, if_neg hb]; done) | simp [wPF, va_re, va_up, va_rf, hb, h]
theorem wPu_R_I_row (cyC : ClassId) (cyI : ClassId) (cyO4fe54 : ClassId) (X : va_W) (S : wPS) {A : Nat → Prop} {a k : Nat} (hD : va_D A (X ++ va_pl S.L (wPF cyC cyI cyO4fe54 S))) (hL : a ∈ S.L) (h : S.K a = 12) (hk : (X ++ va_pl S.L (wPF cyC cyI cyO4fe54 S))[k]? = some (a, wPF cyC cyI cyO4fe54 S a)) (v : Nat → Int32) : (X ++ va_pl S.L (wPF cyC cyI cyO4fe54 S)).set k (a, .inl (cyI, S.R_I.len a, .inl v)) = X ++ va_pl S.L (wPF cyC cyI cyO4fe54 { S with R_I := { S.R_I with row := va_up S.R_I.row a v } }) := by
  rw [va_pl_set hD hL hk]
  exact congrArg (fun l => X ++ l) (va_pl_congr (wSt_R_I_row cyC cyI cyO4fe54 S h v))
theorem wNw_R_I (cyC : ClassId) (cyI : ClassId) (cyO4fe54 : ClassId) (S : wPS) (a : Nat) (z : Nat) (f : Nat → Int32) (b : Nat) : va_up (wPF cyC cyI cyO4fe54 S) a (.inl (cyI, z, .inl f)) b = wPF cyC cyI cyO4fe54 { S with L := S.L ++ [a], K := va_up S.K a 12, R_I := { len := va_up S.R_I.len a z, row := va_up S.R_I.row a f } } b := by by_cases hb : b = a <;> first | (simp only [wPF, va_up_ne _ _ hb]; done) | (simp only [wPF, va_up, if_neg hb]; done) | simp [wPF, va_re, va_up, va_rf, hb]
theorem wAt_R_State (cyC : ClassId) (cyI : ClassId) (cyO4fe54 : ClassId) (S : wPS) {a : Nat} (h : S.K a = 13) : wPF cyC cyI cyO4fe54 S a = .inl (cyO4fe54, S.R_State.len a, .inr (.inr (.inr (.inr (S.R_State.row a))))) := by simp [wPF, h]
theorem wGt_R_State (cyC : ClassId) (cyI : ClassId) (cyO4fe54 : ClassId) (X : va_W) (S : wPS) {a : Nat} (hL : a ∈ S.L) (h : S.K a = 13) : ∃ k : Nat, (X ++ va_pl S.L (wPF cyC cyI cyO4fe54 S))[k]? = some (a, wPF cyC cyI cyO4fe54 S a) ∧ (X ++ va_pl S.L (wPF cyC cyI cyO4fe54 S))[k]? = some (a, .inl (cyO4fe54, S.R_State.len a, .inr (.inr (.inr (.inr (S.R_State.row a)))))) := by
  obtain ⟨k, hk⟩ := va_pl_get (X := X) (f := wPF cyC cyI cyO4fe54 S) hL
  exact ⟨k, hk, hk.trans (congrArg (fun e => some (a, e)) (wAt_R_State cyC cyI cyO4fe54 S h))⟩
theorem wSt_R_State_row (cyC : ClassId) (cyI : ClassId) (cyO4fe54 : ClassId) (S : wPS) {a : Nat} (h : S.K a = 13) (v : Nat → Option Nat) (b : Nat) : va_up (wPF cyC cyI cyO4fe54 S) a (.inl (cyO4fe54, S.R_State.len a, .inr (.inr (.inr (.inr v))))) b = wPF cyC cyI cyO4fe54 { S with R_State := { S.R_State with row := va_up S.R_State.row a v } } b := by by_cases hb : b = a <;> first | (simp only [wPF, va_up_ne _ _ hb]; done) | (simp only [wPF, va_up, if_neg hb]; done) | simp [wPF, va_re, va_up, va_rf, hb, h]
theorem wPu_R_State_row (cyC : ClassId) (cyI : ClassId) (cyO4fe54 : ClassId) (X : va_W) (S : wPS) {A : Nat → Prop} {a k : Nat} (hD : va_D A (X ++ va_pl S.L (wPF cyC cyI cyO4fe54 S))) (hL : a ∈ S.L) (h : S.K a = 13) (hk : (X ++ va_pl S.L (wPF cyC cyI cyO4fe54 S))[k]? = some (a, wPF cyC cyI cyO4fe54 S a)) (v : Nat → Option Nat) : (X ++ va_pl S.L (wPF cyC cyI cyO4fe54 S)).set k (a, .inl (cyO4fe54, S.R_State.len a, .inr (.inr (.inr (.inr v))))) = X ++ va_pl S.L (wPF cyC cyI cyO4fe54 { S with R_State := { S.R_State with row := va_up S.R_State.row a v } }) := by
  rw [va_pl_set hD hL hk]
  exact congrArg (fun l => X ++ l) (va_pl_congr (wSt_R_State_row cyC cyI cyO4fe54 S h v))
theorem wNw_R_State (cyC : ClassId) (cyI : ClassId) (cyO4fe54 : ClassId) (S : wPS) (a : Nat) (z : Nat) (f : Nat → Option Nat) (b : Nat) : va_up (wPF cyC cyI cyO4fe54 S) a (.inl (cyO4fe54, z, .inr (.inr (.inr (.inr f))))) b = wPF cyC cyI cyO4fe54 { S with L := S.L ++ [a], K := va_up S.K a 13, R_State := { len := va_up S.R_State.len a z, row := va_up S.R_State.row a f } } b := by by_cases hb : b = a <;> first | (simp only [wPF, va_up_ne _ _ hb]; done) | (simp only [wPF, va_up, if_neg hb]; done) | simp [wPF, va_re, va_up, va_rf, hb]
/-! ===== END printed: names ===== -/

