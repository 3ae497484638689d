theorem dX4_remove_15 : decode cX4_remove 15 = .ok (.getfield 33, 3) := by decide +kernel
theorem dX4_remove_18 : decode cX4_remove 18 = .ok (.if_icmp .ge 79, 3) := by decide +kernel
theorem dX4_remove_21 : decode cX4_remove 21 = .ok (.aload_n 0, 1) := by decide +kernel
theorem dX4_remove_22 : decode cX4_remove 22 = .ok (.getfield 9, 3) := by decide +kernel
theorem dX4_remove_25 : decode cX4_remove 25 = .ok (.iload_n 2, 1) := by decide +kernel
theorem dX4_remove_26 : decode cX4_remove 26 = .ok (.aload_n 0, 1) := by decide +kernel
theorem dX4_remove_27 : decode cX4_remove 27 = .ok (.getfield 9, 3) := by decide +kernel
theorem dX4_remove_30 : decode cX4_remove 30 = .ok (.iload_n 2, 1) := by decide +kernel
theorem dX4_remove_31 : decode cX4_remove 31 = .ok (.iconst 1, 1) := by decide +kernel
theorem dX4_remove_32 : decode cX4_remove 32 = .ok (.iadd, 1) := by decide +kernel
theorem dX4_remove_33 : decode cX4_remove 33 = .ok (.iaload, 1) := by decide +kernel
theorem dX4_remove_34 : decode cX4_remove 34 = .ok (.iastore, 1) := by decide +kernel
theorem dX4_remove_35 : decode cX4_remove 35 = .ok (.aload_n 0, 1) := by decide +kernel
theorem dX4_remove_36 : decode cX4_remove 36 = .ok (.getfield 15, 3) := by decide +kernel
theorem dX4_remove_39 : decode cX4_remove 39 = .ok (.iload_n 2, 1) := by decide +kernel
theorem dX4_remove_40 : decode cX4_remove 40 = .ok (.aload_n 0, 1) := by decide +kernel
theorem dX4_remove_41 : decode cX4_remove 41 = .ok (.getfield 15, 3) := by decide +kernel
theorem dX4_remove_44 : decode cX4_remove 44 = .ok (.iload_n 2, 1) := by decide +kernel
theorem dX4_remove_45 : decode cX4_remove 45 = .ok (.iconst 1, 1) := by decide +kernel
theorem dX4_remove_46 : decode cX4_remove 46 = .ok (.iadd, 1) := by decide +kernel
theorem dX4_remove_47 : decode cX4_remove 47 = .ok (.iaload, 1) := by decide +kernel
theorem dX4_remove_48 : decode cX4_remove 48 = .ok (.iastore, 1) := by decide +kernel
theorem dX4_remove_49 : decode cX4_remove 49 = .ok (.aload_n 0, 1) := by decide +kernel
theorem dX4_remove_50 : decode cX4_remove 50 = .ok (.getfield 18, 3) := by decide +kernel
theorem dX4_remove_53 : decode cX4_remove 53 = .ok (.iload_n 2, 1) := by decide +kernel
theorem dX4_remove_54 : decode cX4_remove 54 = .ok (.aload_n 0, 1) := by decide +kernel
theorem dX4_remove_55 : decode cX4_remove 55 = .ok (.getfield 18, 3) := by decide +kernel
theorem dX4_remove_58 : decode cX4_remove 58 = .ok (.iload_n 2, 1) := by decide +kernel
theorem dX4_remove_59 : decode cX4_remove 59 = .ok (.iconst 1, 1) := by decide +kernel
theorem dX4_remove_60 : decode cX4_remove 60 = .ok (.iadd, 1) := by decide +kernel
theorem dX4_remove_61 : decode cX4_remove 61 = .ok (.iaload, 1) := by decide +kernel
theorem dX4_remove_62 : decode cX4_remove 62 = .ok (.iastore, 1) := by decide +kernel
theorem dX4_remove_63 : decode cX4_remove 63 = .ok (.aload_n 0, 1) := by decide +kernel
theorem dX4_remove_64 : decode cX4_remove 64 = .ok (.getfield 21, 3) := by decide +kernel
theorem dX4_remove_67 : decode cX4_remove 67 = .ok (.iload_n 2, 1) := by decide +kernel
theorem dX4_remove_68 : decode cX4_remove 68 = .ok (.aload_n 0, 1) := by decide +kernel
theorem dX4_remove_69 : decode cX4_remove 69 = .ok (.getfield 21, 3) := by decide +kernel
theorem dX4_remove_72 : decode cX4_remove 72 = .ok (.iload_n 2, 1) := by decide +kernel
theorem dX4_remove_73 : decode cX4_remove 73 = .ok (.iconst 1, 1) := by decide +kernel
theorem dX4_remove_74 : decode cX4_remove 74 = .ok (.iadd, 1) := by decide +kernel
theorem dX4_remove_75 : decode cX4_remove 75 = .ok (.iaload, 1) := by decide +kernel
theorem dX4_remove_76 : decode cX4_remove 76 = .ok (.iastore, 1) := by decide +kernel
theorem dX4_remove_77 : decode cX4_remove 77 = .ok (.aload_n 0, 1) := by decide +kernel
theorem dX4_remove_78 : decode cX4_remove 78 = .ok (.getfield 24, 3) := by decide +kernel
theorem dX4_remove_81 : decode cX4_remove 81 = .ok (.iload_n 2, 1) := by decide +kernel
theorem dX4_remove_82 : decode cX4_remove 82 = .ok (.aload_n 0, 1) := by decide +kernel
theorem dX4_remove_83 : decode cX4_remove 83 = .ok (.getfield 24, 3) := by decide +kernel
theorem dX4_remove_86 : decode cX4_remove 86 = .ok (.iload_n 2, 1) := by decide +kernel
theorem dX4_remove_87 : decode cX4_remove 87 = .ok (.iconst 1, 1) := by decide +kernel
theorem dX4_remove_88 : decode cX4_remove 88 = .ok (.iadd, 1) := by decide +kernel
theorem dX4_remove_89 : decode cX4_remove 89 = .ok (.iaload, 1) := by decide +kernel
theorem dX4_remove_90 : decode cX4_remove 90 = .ok (.iastore, 1) := by decide +kernel
theorem dX4_remove_91 : decode cX4_remove 91 = .ok (.iinc 2 1, 3) := by decide +kernel
theorem dX4_remove_94 : decode cX4_remove 94 = .ok (.goto (-83), 3) := by decide +kernel
theorem dX4_remove_97 : decode cX4_remove 97 = .ok (.aload_n 0, 1) := by decide +kernel
theorem dX4_remove_98 : decode cX4_remove 98 = .ok (.dup, 1) := by decide +kernel
theorem dX4_remove_99 : decode cX4_remove 99 = .ok (.getfield 33, 3) := by decide +kernel
theorem dX4_remove_102 : decode cX4_remove 102 = .ok (.iconst 1, 1) := by decide +kernel
theorem dX4_remove_103 : decode cX4_remove 103 = .ok (.isub, 1) := by decide +kernel
theorem dX4_remove_104 : decode cX4_remove 104 = .ok (.putfield 33, 3) := by decide +kernel
theorem dX4_remove_107 : decode cX4_remove 107 = .ok (.return_, 1) := by decide +kernel
theorem dX4_appliesAt_0 : decode cX4_appliesAt 0 = .ok (.iload_n 2, 1) := by decide +kernel
theorem dX4_appliesAt_1 : decode cX4_appliesAt 1 = .ok (.iload 4, 2) := by decide +kernel
theorem dX4_appliesAt_3 : decode cX4_appliesAt 3 = .ok (.isub, 1) := by decide +kernel
theorem dX4_appliesAt_4 : decode cX4_appliesAt 4 = .ok (.aload_n 0, 1) := by decide +kernel
theorem dX4_appliesAt_5 : decode cX4_appliesAt 5 = .ok (.getfield 18, 3) := by decide +kernel
theorem dX4_appliesAt_8 : decode cX4_appliesAt 8 = .ok (.iload_n 3, 1) := by decide +kernel
theorem dX4_appliesAt_9 : decode cX4_appliesAt 9 = .ok (.iaload, 1) := by decide +kernel
theorem dX4_appliesAt_10 : decode cX4_appliesAt 10 = .ok (.isub, 1) := by decide +kernel
theorem dX4_appliesAt_11 : decode cX4_appliesAt 11 = .ok (.istore 5, 2) := by decide +kernel
theorem dX4_appliesAt_13 : decode cX4_appliesAt 13 = .ok (.iload 5, 2) := by decide +kernel
theorem dX4_appliesAt_15 : decode cX4_appliesAt 15 = .ok (.ifCond .ge 5, 3) := by decide +kernel
theorem dX4_appliesAt_18 : decode cX4_appliesAt 18 = .ok (.iconst 0, 1) := by decide +kernel
theorem dX4_appliesAt_19 : decode cX4_appliesAt 19 = .ok (.ireturn, 1) := by decide +kernel
theorem dX4_appliesAt_20 : decode cX4_appliesAt 20 = .ok (.iload_n 1, 1) := by decide +kernel
theorem dX4_appliesAt_21 : decode cX4_appliesAt 21 = .ok (.iconst 2, 1) := by decide +kernel
theorem dX4_appliesAt_22 : decode cX4_appliesAt 22 = .ok (.iload 5, 2) := by decide +kernel
theorem dX4_appliesAt_24 : decode cX4_appliesAt 24 = .ok (.imul, 1) := by decide +kernel
theorem dX4_appliesAt_25 : decode cX4_appliesAt 25 = .ok (.ishr, 1) := by decide +kernel
theorem dX4_appliesAt_26 : decode cX4_appliesAt 26 = .ok (.aload_n 0, 1) := by decide +kernel
theorem dX4_appliesAt_27 : decode cX4_appliesAt 27 = .ok (.getfield 9, 3) := by decide +kernel
theorem dX4_appliesAt_30 : decode cX4_appliesAt 30 = .ok (.iload_n 3, 1) := by decide +kernel
theorem dX4_appliesAt_31 : decode cX4_appliesAt 31 = .ok (.iaload, 1) := by decide +kernel
theorem dX4_appliesAt_32 : decode cX4_appliesAt 32 = .ok (.ixor, 1) := by decide +kernel
theorem dX4_appliesAt_33 : decode cX4_appliesAt 33 = .ok (.istore 6, 2) := by decide +kernel
theorem dX4_appliesAt_35 : decode cX4_appliesAt 35 = .ok (.iconst 1, 1) := by decide +kernel
theorem dX4_appliesAt_36 : decode cX4_appliesAt 36 = .ok (.iconst 2, 1) := by decide +kernel
theorem dX4_appliesAt_37 : decode cX4_appliesAt 37 = .ok (.aload_n 0, 1) := by decide +kernel
theorem dX4_appliesAt_38 : decode cX4_appliesAt 38 = .ok (.getfield 18, 3) := by decide +kernel
theorem dX4_appliesAt_41 : decode cX4_appliesAt 41 = .ok (.iload_n 3, 1) := by decide +kernel
theorem dX4_appliesAt_42 : decode cX4_appliesAt 42 = .ok (.iaload, 1) := by decide +kernel
theorem dX4_appliesAt_43 : decode cX4_appliesAt 43 = .ok (.imul, 1) := by decide +kernel
theorem dX4_appliesAt_44 : decode cX4_appliesAt 44 = .ok (.ishl, 1) := by decide +kernel
theorem dX4_appliesAt_45 : decode cX4_appliesAt 45 = .ok (.iconst 1, 1) := by decide +kernel
theorem dX4_appliesAt_46 : decode cX4_appliesAt 46 = .ok (.isub, 1) := by decide +kernel
theorem dX4_appliesAt_47 : decode cX4_appliesAt 47 = .ok (.istore 7, 2) := by decide +kernel
theorem dX4_appliesAt_49 : decode cX4_appliesAt 49 = .ok (.iload 6, 2) := by decide +kernel
theorem dX4_appliesAt_51 : decode cX4_appliesAt 51 = .ok (.iload 7, 2) := by decide +kernel
theorem dX4_appliesAt_53 : decode cX4_appliesAt 53 = .ok (.iand, 1) := by decide +kernel
theorem dX4_appliesAt_54 : decode cX4_appliesAt 54 = .ok (.ifCond .ne 7, 3) := by decide +kernel
theorem dX4_appliesAt_57 : decode cX4_appliesAt 57 = .ok (.iconst 1, 1) := by decide +kernel
theorem dX4_appliesAt_58 : decode cX4_appliesAt 58 = .ok (.goto 4, 3) := by decide +kernel
theorem dX4_appliesAt_61 : decode cX4_appliesAt 61 = .ok (.iconst 0, 1) := by decide +kernel
theorem dX4_appliesAt_62 : decode cX4_appliesAt 62 = .ok (.ireturn, 1) := by decide +kernel
set_option maxRecDepth 20000 in
theorem ggX4_placesIn_X9_lengthOf : GoodIn wsX4_placesIn wsX9_lengthOf := goodIn_r _ [3] (by decide +kernel) (by decide +kernel)
set_option maxRecDepth 20000 in
theorem gX4_placesIn_X9_lengthOf_n41 : GoodIn wsX4_placesIn (wsX9_lengthOf) := ggX4_placesIn_X9_lengthOf
set_option maxRecDepth 20000 in
theorem ggX4_placesIn_X4_appliesAt : GoodIn wsX4_placesIn wsX4_appliesAt := goodIn_r _ [8, 9, 10, 11, 12, 13, 14, 15, 16] (by decide +kernel) (by decide +kernel)
set_option maxRecDepth 20000 in
theorem gX4_placesIn_X4_appliesAt : GoodIn wsX4_placesIn (wsV RX4 51 RX4 yX4_appliesAt wsX4_appliesAt) := goodIn_app (goodIn_of _ (by decide +kernel)) ggX4_placesIn_X4_appliesAt
theorem dX4_placesIn_0 : decode cX4_placesIn 0 = .ok (.iload_n 1, 1) := by decide +kernel
theorem dX4_placesIn_1 : decode cX4_placesIn 1 = .ok (.invokestatic 41, 3) := by decide +kernel
theorem dX4_placesIn_4 : decode cX4_placesIn 4 = .ok (.istore_n 3, 1) := by decide +kernel
theorem dX4_placesIn_5 : decode cX4_placesIn 5 = .ok (.iconst 0, 1) := by decide +kernel
theorem dX4_placesIn_6 : decode cX4_placesIn 6 = .ok (.istore 4, 2) := by decide +kernel
theorem dX4_placesIn_8 : decode cX4_placesIn 8 = .ok (.iconst 0, 1) := by decide +kernel
theorem dX4_placesIn_9 : decode cX4_placesIn 9 = .ok (.istore 5, 2) := by decide +kernel
theorem dX4_placesIn_11 : decode cX4_placesIn 11 = .ok (.iload 5, 2) := by decide +kernel
theorem dX4_placesIn_13 : decode cX4_placesIn 13 = .ok (.iload_n 3, 1) := by decide +kernel
theorem dX4_placesIn_14 : decode cX4_placesIn 14 = .ok (.if_icmp .ge 24, 3) := by decide +kernel
theorem dX4_placesIn_17 : decode cX4_placesIn 17 = .ok (.aload_n 0, 1) := by decide +kernel
theorem dX4_placesIn_18 : decode cX4_placesIn 18 = .ok (.iload_n 1, 1) := by decide +kernel
theorem dX4_placesIn_19 : decode cX4_placesIn 19 = .ok (.iload_n 3, 1) := by decide +kernel
theorem dX4_placesIn_20 : decode cX4_placesIn 20 = .ok (.iload_n 2, 1) := by decide +kernel
theorem dX4_placesIn_21 : decode cX4_placesIn 21 = .ok (.iload 5, 2) := by decide +kernel
theorem dX4_placesIn_23 : decode cX4_placesIn 23 = .ok (.invokevirtual 51, 3) := by decide +kernel
theorem dX4_placesIn_26 : decode cX4_placesIn 26 = .ok (.ifCond .eq 6, 3) := by decide +kernel
theorem dX4_placesIn_29 : decode cX4_placesIn 29 = .ok (.iinc 4 1, 3) := by decide +kernel
theorem dX4_placesIn_32 : decode cX4_placesIn 32 = .ok (.iinc 5 1, 3) := by decide +kernel
theorem dX4_placesIn_35 : decode cX4_placesIn 35 = .ok (.goto (-24), 3) := by decide +kernel
theorem dX4_placesIn_38 : decode cX4_placesIn 38 = .ok (.iload 4, 2) := by decide +kernel
theorem dX4_placesIn_40 : decode cX4_placesIn 40 = .ok (.ireturn, 1) := by decide +kernel
set_option maxRecDepth 20000 in
theorem ggX4_choiceFor_X9_lengthOf : GoodIn wsX4_choiceFor wsX9_lengthOf := goodIn_r _ [4] (by decide +kernel) (by decide +kernel)
set_option maxRecDepth 20000 in
theorem gX4_choiceFor_X9_lengthOf_n41 : GoodIn wsX4_choiceFor (wsX9_lengthOf) := ggX4_choiceFor_X9_lengthOf
set_option maxRecDepth 20000 in
theorem ggX4_choiceFor_X4_appliesAt : GoodIn wsX4_choiceFor wsX4_appliesAt := goodIn_r _ [9, 10, 11, 12, 13, 14, 15, 16, 17] (by decide +kernel) (by decide +kernel)
set_option maxRecDepth 20000 in
theorem gX4_choiceFor_X4_appliesAt : GoodIn wsX4_choiceFor (wsV RX4 51 RX4 yX4_appliesAt wsX4_appliesAt) := goodIn_app (goodIn_of _ (by decide +kernel)) ggX4_choiceFor_X4_appliesAt
theorem dX4_choiceFor_0 : decode cX4_choiceFor 0 = .ok (.iload_n 1, 1) := by decide +kernel
theorem dX4_choiceFor_1 : decode cX4_choiceFor 1 = .ok (.invokestatic 41, 3) := by decide +kernel
theorem dX4_choiceFor_4 : decode cX4_choiceFor 4 = .ok (.istore_n 3, 1) := by decide +kernel
theorem dX4_choiceFor_5 : decode cX4_choiceFor 5 = .ok (.iload_n 2, 1) := by decide +kernel
theorem dX4_choiceFor_6 : decode cX4_choiceFor 6 = .ok (.iconst 2, 1) := by decide +kernel
theorem dX4_choiceFor_7 : decode cX4_choiceFor 7 = .ok (.if_icmp .ne 7, 3) := by decide +kernel
theorem dX4_choiceFor_10 : decode cX4_choiceFor 10 = .ok (.iconst 1, 1) := by decide +kernel
theorem dX4_choiceFor_11 : decode cX4_choiceFor 11 = .ok (.goto 4, 3) := by decide +kernel
theorem dX4_choiceFor_14 : decode cX4_choiceFor 14 = .ok (.iconst 0, 1) := by decide +kernel
theorem dX4_choiceFor_15 : decode cX4_choiceFor 15 = .ok (.istore 4, 2) := by decide +kernel
theorem dX4_choiceFor_17 : decode cX4_choiceFor 17 = .ok (.iload 4, 2) := by decide +kernel
theorem dX4_choiceFor_19 : decode cX4_choiceFor 19 = .ok (.ifCond .eq 10, 3) := by decide +kernel
theorem dX4_choiceFor_22 : decode cX4_choiceFor 22 = .ok (.aload_n 0, 1) := by decide +kernel
theorem dX4_choiceFor_23 : decode cX4_choiceFor 23 = .ok (.getfield 33, 3) := by decide +kernel
theorem dX4_choiceFor_26 : decode cX4_choiceFor 26 = .ok (.goto 4, 3) := by decide +kernel
theorem dX4_choiceFor_29 : decode cX4_choiceFor 29 = .ok (.iload_n 3, 1) := by decide +kernel
theorem dX4_choiceFor_30 : decode cX4_choiceFor 30 = .ok (.istore 5, 2) := by decide +kernel
theorem dX4_choiceFor_32 : decode cX4_choiceFor 32 = .ok (.iload 4, 2) := by decide +kernel
theorem dX4_choiceFor_34 : decode cX4_choiceFor 34 = .ok (.ifCond .eq 7, 3) := by decide +kernel
theorem dX4_choiceFor_37 : decode cX4_choiceFor 37 = .ok (.iload_n 3, 1) := by decide +kernel
theorem dX4_choiceFor_38 : decode cX4_choiceFor 38 = .ok (.goto 7, 3) := by decide +kernel
theorem dX4_choiceFor_41 : decode cX4_choiceFor 41 = .ok (.aload_n 0, 1) := by decide +kernel
theorem dX4_choiceFor_42 : decode cX4_choiceFor 42 = .ok (.getfield 33, 3) := by decide +kernel
theorem dX4_choiceFor_45 : decode cX4_choiceFor 45 = .ok (.istore 6, 2) := by decide +kernel
theorem dX4_choiceFor_47 : decode cX4_choiceFor 47 = .ok (.iconst 0, 1) := by decide +kernel
theorem dX4_choiceFor_48 : decode cX4_choiceFor 48 = .ok (.istore 7, 2) := by decide +kernel
theorem dX4_choiceFor_50 : decode cX4_choiceFor 50 = .ok (.iload 7, 2) := by decide +kernel
theorem dX4_choiceFor_52 : decode cX4_choiceFor 52 = .ok (.iload 5, 2) := by decide +kernel
theorem dX4_choiceFor_54 : decode cX4_choiceFor 54 = .ok (.if_icmp .ge 93, 3) := by decide +kernel
theorem dX4_choiceFor_57 : decode cX4_choiceFor 57 = .ok (.iconst 0, 1) := by decide +kernel
theorem dX4_choiceFor_58 : decode cX4_choiceFor 58 = .ok (.istore 8, 2) := by decide +kernel
theorem dX4_choiceFor_60 : decode cX4_choiceFor 60 = .ok (.iload 8, 2) := by decide +kernel
theorem dX4_choiceFor_62 : decode cX4_choiceFor 62 = .ok (.iload 6, 2) := by decide +kernel
theorem dX4_choiceFor_64 : decode cX4_choiceFor 64 = .ok (.if_icmp .ge 77, 3) := by decide +kernel
theorem dX4_choiceFor_67 : decode cX4_choiceFor 67 = .ok (.iload 4, 2) := by decide +kernel
theorem dX4_choiceFor_69 : decode cX4_choiceFor 69 = .ok (.ifCond .eq 8, 3) := by decide +kernel
theorem dX4_choiceFor_72 : decode cX4_choiceFor 72 = .ok (.iload 7, 2) := by decide +kernel
theorem dX4_choiceFor_74 : decode cX4_choiceFor 74 = .ok (.goto 5, 3) := by decide +kernel
theorem dX4_choiceFor_77 : decode cX4_choiceFor 77 = .ok (.iload 8, 2) := by decide +kernel
theorem dX4_choiceFor_79 : decode cX4_choiceFor 79 = .ok (.istore 9, 2) := by decide +kernel
theorem dX4_choiceFor_81 : decode cX4_choiceFor 81 = .ok (.iload 4, 2) := by decide +kernel
theorem dX4_choiceFor_83 : decode cX4_choiceFor 83 = .ok (.ifCond .eq 8, 3) := by decide +kernel
theorem dX4_choiceFor_86 : decode cX4_choiceFor 86 = .ok (.iload 8, 2) := by decide +kernel
theorem dX4_choiceFor_88 : decode cX4_choiceFor 88 = .ok (.goto 5, 3) := by decide +kernel
theorem dX4_choiceFor_91 : decode cX4_choiceFor 91 = .ok (.iload 7, 2) := by decide +kernel
theorem dX4_choiceFor_93 : decode cX4_choiceFor 93 = .ok (.istore 10, 2) := by decide +kernel
theorem dX4_choiceFor_95 : decode cX4_choiceFor 95 = .ok (.iload_n 2, 1) := by decide +kernel
theorem dX4_choiceFor_96 : decode cX4_choiceFor 96 = .ok (.iconst 1, 1) := by decide +kernel
theorem dX4_choiceFor_97 : decode cX4_choiceFor 97 = .ok (.if_icmp .ne 12, 3) := by decide +kernel
theorem dX4_choiceFor_100 : decode cX4_choiceFor 100 = .ok (.iload_n 3, 1) := by decide +kernel
theorem dX4_choiceFor_101 : decode cX4_choiceFor 101 = .ok (.iconst 1, 1) := by decide +kernel
theorem dX4_choiceFor_102 : decode cX4_choiceFor 102 = .ok (.isub, 1) := by decide +kernel
theorem dX4_choiceFor_103 : decode cX4_choiceFor 103 = .ok (.iload 10, 2) := by decide +kernel
theorem dX4_choiceFor_105 : decode cX4_choiceFor 105 = .ok (.isub, 1) := by decide +kernel
theorem dX4_choiceFor_106 : decode cX4_choiceFor 106 = .ok (.goto 5, 3) := by decide +kernel
theorem dX4_choiceFor_109 : decode cX4_choiceFor 109 = .ok (.iload 10, 2) := by decide +kernel
theorem dX4_choiceFor_111 : decode cX4_choiceFor 111 = .ok (.istore 11, 2) := by decide +kernel
theorem dX4_choiceFor_113 : decode cX4_choiceFor 113 = .ok (.aload_n 0, 1) := by decide +kernel
theorem dX4_choiceFor_114 : decode cX4_choiceFor 114 = .ok (.iload_n 1, 1) := by decide +kernel
theorem dX4_choiceFor_115 : decode cX4_choiceFor 115 = .ok (.iload_n 3, 1) := by decide +kernel
theorem dX4_choiceFor_116 : decode cX4_choiceFor 116 = .ok (.iload 9, 2) := by decide +kernel
theorem dX4_choiceFor_118 : decode cX4_choiceFor 118 = .ok (.iload 11, 2) := by decide +kernel
theorem dX4_choiceFor_120 : decode cX4_choiceFor 120 = .ok (.invokevirtual 51, 3) := by decide +kernel
theorem dX4_choiceFor_123 : decode cX4_choiceFor 123 = .ok (.ifCond .eq 12, 3) := by decide +kernel
theorem dX4_choiceFor_126 : decode cX4_choiceFor 126 = .ok (.iload 11, 2) := by decide +kernel
theorem dX4_choiceFor_128 : decode cX4_choiceFor 128 = .ok (.bipush 10, 2) := by decide +kernel
theorem dX4_choiceFor_130 : decode cX4_choiceFor 130 = .ok (.imul, 1) := by decide +kernel
theorem dX4_choiceFor_131 : decode cX4_choiceFor 131 = .ok (.iload 9, 2) := by decide +kernel
theorem dX4_choiceFor_133 : decode cX4_choiceFor 133 = .ok (.iadd, 1) := by decide +kernel
theorem dX4_choiceFor_134 : decode cX4_choiceFor 134 = .ok (.ireturn, 1) := by decide +kernel
theorem dX4_choiceFor_135 : decode cX4_choiceFor 135 = .ok (.iinc 8 1, 3) := by decide +kernel
theorem dX4_choiceFor_138 : decode cX4_choiceFor 138 = .ok (.goto (-78), 3) := by decide +kernel
theorem dX4_choiceFor_141 : decode cX4_choiceFor 141 = .ok (.iinc 7 1, 3) := by decide +kernel
theorem dX4_choiceFor_144 : decode cX4_choiceFor 144 = .ok (.goto (-94), 3) := by decide +kernel
theorem dX4_choiceFor_147 : decode cX4_choiceFor 147 = .ok (.iconst (-1), 1) := by decide +kernel
theorem dX4_choiceFor_148 : decode cX4_choiceFor 148 = .ok (.ireturn, 1) := by decide +kernel
theorem dX4_ruleIn_0 : decode cX4_ruleIn 0 = .ok (.iload_n 0, 1) := by decide +kernel
theorem dX4_ruleIn_1 : decode cX4_ruleIn 1 = .ok (.bipush 10, 2) := by decide +kernel
theorem dX4_ruleIn_3 : decode cX4_ruleIn 3 = .ok (.irem, 1) := by decide +kernel
theorem dX4_ruleIn_4 : decode cX4_ruleIn 4 = .ok (.ireturn, 1) := by decide +kernel
theorem dX4_placeIn_0 : decode cX4_placeIn 0 = .ok (.iload_n 0, 1) := by decide +kernel
theorem dX4_placeIn_1 : decode cX4_placeIn 1 = .ok (.bipush 10, 2) := by decide +kernel
theorem dX4_placeIn_3 : decode cX4_placeIn 3 = .ok (.idiv, 1) := by decide +kernel
theorem dX4_placeIn_4 : decode cX4_placeIn 4 = .ok (.ireturn, 1) := by decide +kernel
set_option maxRecDepth 20000 in
theorem ggX4_applied_X9_lengthOf : GoodIn wsX4_applied wsX9_lengthOf := goodIn_r _ [6] (by decide +kernel) (by decide +kernel)
set_option maxRecDepth 20000 in
theorem gX4_applied_X9_lengthOf_n41 : GoodIn wsX4_applied (wsX9_lengthOf) := ggX4_applied_X9_lengthOf
set_option maxRecDepth 20000 in
theorem ggX4_applied_X9_lastBits : GoodIn wsX4_applied wsX9_lastBits := goodIn_r _ [8] (by decide +kernel) (by decide +kernel)
set_option maxRecDepth 20000 in
theorem gX4_applied_X9_lastBits_n55 : GoodIn wsX4_applied (wsX9_lastBits) := ggX4_applied_X9_lastBits
theorem dX4_applied_0 : decode cX4_applied 0 = .ok (.iload_n 1, 1) := by decide +kernel
theorem dX4_applied_1 : decode cX4_applied 1 = .ok (.invokestatic 41, 3) := by decide +kernel
theorem dX4_applied_4 : decode cX4_applied 4 = .ok (.istore 4, 2) := by decide +kernel
theorem dX4_applied_6 : decode cX4_applied 6 = .ok (.iload_n 1, 1) := by decide +kernel
theorem dX4_applied_7 : decode cX4_applied 7 = .ok (.iconst 2, 1) := by decide +kernel
theorem dX4_applied_8 : decode cX4_applied 8 = .ok (.iload 4, 2) := by decide +kernel
theorem dX4_applied_10 : decode cX4_applied 10 = .ok (.iload_n 3, 1) := by decide +kernel
theorem dX4_applied_11 : decode cX4_applied 11 = .ok (.isub, 1) := by decide +kernel
theorem dX4_applied_12 : decode cX4_applied 12 = .ok (.imul, 1) := by decide +kernel
theorem dX4_applied_13 : decode cX4_applied 13 = .ok (.ishr, 1) := by decide +kernel
theorem dX4_applied_14 : decode cX4_applied 14 = .ok (.istore 5, 2) := by decide +kernel
theorem dX4_applied_16 : decode cX4_applied 16 = .ok (.aload_n 0, 1) := by decide +kernel
theorem dX4_applied_17 : decode cX4_applied 17 = .ok (.getfield 15, 3) := by decide +kernel
theorem dX4_applied_20 : decode cX4_applied 20 = .ok (.iload_n 2, 1) := by decide +kernel
theorem dX4_applied_21 : decode cX4_applied 21 = .ok (.iaload, 1) := by decide +kernel
theorem dX4_applied_22 : decode cX4_applied 22 = .ok (.aload_n 0, 1) := by decide +kernel
theorem dX4_applied_23 : decode cX4_applied 23 = .ok (.getfield 21, 3) := by decide +kernel
theorem dX4_applied_26 : decode cX4_applied 26 = .ok (.iload_n 2, 1) := by decide +kernel
theorem dX4_applied_27 : decode cX4_applied 27 = .ok (.iaload, 1) := by decide +kernel
theorem dX4_applied_28 : decode cX4_applied 28 = .ok (.invokestatic 55, 3) := by decide +kernel
theorem dX4_applied_31 : decode cX4_applied 31 = .ok (.istore 6, 2) := by decide +kernel
theorem dX4_applied_33 : decode cX4_applied 33 = .ok (.iload 4, 2) := by decide +kernel
theorem dX4_applied_35 : decode cX4_applied 35 = .ok (.iload_n 3, 1) := by decide +kernel
theorem dX4_applied_36 : decode cX4_applied 36 = .ok (.isub, 1) := by decide +kernel
theorem dX4_applied_37 : decode cX4_applied 37 = .ok (.aload_n 0, 1) := by decide +kernel
theorem dX4_applied_38 : decode cX4_applied 38 = .ok (.getfield 18, 3) := by decide +kernel
theorem dX4_applied_41 : decode cX4_applied 41 = .ok (.iload_n 2, 1) := by decide +kernel
theorem dX4_applied_42 : decode cX4_applied 42 = .ok (.iaload, 1) := by decide +kernel
theorem dX4_applied_43 : decode cX4_applied 43 = .ok (.isub, 1) := by decide +kernel
theorem dX4_applied_44 : decode cX4_applied 44 = .ok (.istore 7, 2) := by decide +kernel
theorem dX4_applied_46 : decode cX4_applied 46 = .ok (.iload 5, 2) := by decide +kernel
theorem dX4_applied_48 : decode cX4_applied 48 = .ok (.iconst 2, 1) := by decide +kernel
theorem dX4_applied_49 : decode cX4_applied 49 = .ok (.aload_n 0, 1) := by decide +kernel
theorem dX4_applied_50 : decode cX4_applied 50 = .ok (.getfield 21, 3) := by decide +kernel
theorem dX4_applied_53 : decode cX4_applied 53 = .ok (.iload_n 2, 1) := by decide +kernel
theorem dX4_applied_54 : decode cX4_applied 54 = .ok (.iaload, 1) := by decide +kernel
theorem dX4_applied_55 : decode cX4_applied 55 = .ok (.imul, 1) := by decide +kernel
theorem dX4_applied_56 : decode cX4_applied 56 = .ok (.ishl, 1) := by decide +kernel
theorem dX4_applied_57 : decode cX4_applied 57 = .ok (.iload 6, 2) := by decide +kernel
theorem dX4_applied_59 : decode cX4_applied 59 = .ok (.ior, 1) := by decide +kernel
theorem dX4_applied_60 : decode cX4_applied 60 = .ok (.istore 8, 2) := by decide +kernel
theorem dX4_applied_62 : decode cX4_applied 62 = .ok (.iload 8, 2) := by decide +kernel
theorem dX4_applied_64 : decode cX4_applied 64 = .ok (.iconst 2, 1) := by decide +kernel
theorem dX4_applied_65 : decode cX4_applied 65 = .ok (.iload 7, 2) := by decide +kernel
theorem dX4_applied_67 : decode cX4_applied 67 = .ok (.imul, 1) := by decide +kernel
theorem dX4_applied_68 : decode cX4_applied 68 = .ok (.ishl, 1) := by decide +kernel
theorem dX4_applied_69 : decode cX4_applied 69 = .ok (.iload_n 1, 1) := by decide +kernel
theorem dX4_applied_70 : decode cX4_applied 70 = .ok (.iload 7, 2) := by decide +kernel
theorem dX4_applied_72 : decode cX4_applied 72 = .ok (.invokestatic 55, 3) := by decide +kernel
theorem dX4_applied_75 : decode cX4_applied 75 = .ok (.ior, 1) := by decide +kernel
theorem dX4_applied_76 : decode cX4_applied 76 = .ok (.ireturn, 1) := by decide +kernel
theorem dX5_init_0 : decode cX5_init 0 = .ok (.aload_n 0, 1) := by decide +kernel
theorem dX5_init_1 : decode cX5_init 1 = .ok (.invokespecial 3, 3) := by decide +kernel
theorem dX5_init_4 : decode cX5_init 4 = .ok (.return_, 1) := by decide +kernel
set_option maxRecDepth 20000 in
theorem ggX5_run_X8_readCommand : GoodIn wsX5_run wsX8_readCommand := goodIn_r _ [8, 9, 10, 11, 12, 13, 14, 15, 6, 16, 17, 18, 19, 20, 21, 22, 23, 24, 25, 26, 27, 28, 29, 30, 31, 32, 33, 34, 166, 167, 168, 169, 170, 171, 172] (by decide +kernel) (by decide +kernel)
set_option maxRecDepth 20000 in
theorem gX5_run_X8_readCommand_n29 : GoodIn wsX5_run (wsX8_readCommand) := ggX5_run_X8_readCommand
set_option maxRecDepth 20000 in
theorem ggX5_run_X5_perform : GoodIn wsX5_run wsX5_perform := goodIn_r _ [39, 40, 41, 42, 38, 43, 44, 24, 45, 46, 47, 48, 49, 3, 4, 50, 51, 52, 53, 54, 55, 56, 57, 58, 59, 60, 61, 62, 63, 64, 65, 66, 67, 68, 69, 70, 71, 72, 73, 74, 75, 76, 77, 78, 79, 80, 81, 82, 83, 84, 85, 86, 87, 88, 89, 90, 91, 92, 93, 94, 95, 96, 97, 98, 99, 100, 101, 102, 103, 104, 105, 106, 107, 108, 109, 110, 111, 112, 113, 114, 115, 116, 117, 118, 119, 120, 121, 122, 123, 124, 125, 126, 127, 128, 129, 130, 131, 132, 133, 134, 135, 136, 137, 138, 139, 140, 141, 142, 143, 144, 145, 146, 147, 148, 149, 150, 151, 152, 153, 154, 155, 156, 157, 158, 159, 160, 161, 166, 167, 168, 169, 170, 171, 172, 173, 174, 175, 176, 177, 178, 162, 163, 164, 165, 179, 180, 181, 182, 183, 184, 185, 186, 187, 188, 189, 190, 191, 192] (by decide +kernel) (by decide +kernel)
set_option maxRecDepth 20000 in
theorem gX5_run_X5_perform : GoodIn wsX5_run (wsV RX5 33 RX5 yX5_perform wsX5_perform) := goodIn_app (goodIn_of _ (by decide +kernel)) ggX5_run_X5_perform
set_option maxRecDepth 20000 in
theorem ggX5_run_X5_failWith : GoodIn wsX5_run wsX5_failWith := goodIn_r _ [49, 3, 4, 162, 163, 164, 165] (by decide +kernel) (by decide +kernel)
set_option maxRecDepth 20000 in
theorem gX5_run_X5_failWith : GoodIn wsX5_run (wsV RX5 40 RX5 yX5_failWith wsX5_failWith) := goodIn_app (goodIn_of _ (by decide +kernel)) ggX5_run_X5_failWith
theorem dX5_run_0 : decode cX5_run 0 = .ok (.aload_n 0, 1) := by decide +kernel
theorem dX5_run_1 : decode cX5_run 1 = .ok (.iconst 0, 1) := by decide +kernel
theorem dX5_run_2 : decode cX5_run 2 = .ok (.putfield 9, 3) := by decide +kernel
theorem dX5_run_5 : decode cX5_run 5 = .ok (.aload_n 0, 1) := by decide +kernel
theorem dX5_run_6 : decode cX5_run 6 = .ok (.iconst 0, 1) := by decide +kernel
theorem dX5_run_7 : decode cX5_run 7 = .ok (.putfield 15, 3) := by decide +kernel
theorem dX5_run_10 : decode cX5_run 10 = .ok (.aload_n 0, 1) := by decide +kernel
theorem dX5_run_11 : decode cX5_run 11 = .ok (.iconst 0, 1) := by decide +kernel
theorem dX5_run_12 : decode cX5_run 12 = .ok (.putfield 18, 3) := by decide +kernel
theorem dX5_run_15 : decode cX5_run 15 = .ok (.aload_n 0, 1) := by decide +kernel
theorem dX5_run_16 : decode cX5_run 16 = .ok (.iconst 0, 1) := by decide +kernel
theorem dX5_run_17 : decode cX5_run 17 = .ok (.putfield 21, 3) := by decide +kernel
theorem dX5_run_20 : decode cX5_run 20 = .ok (.iconst 0, 1) := by decide +kernel
theorem dX5_run_21 : decode cX5_run 21 = .ok (.istore 4, 2) := by decide +kernel
theorem dX5_run_23 : decode cX5_run 23 = .ok (.iload 4, 2) := by decide +kernel
theorem dX5_run_25 : decode cX5_run 25 = .ok (.bipush 80, 2) := by decide +kernel
theorem dX5_run_27 : decode cX5_run 27 = .ok (.if_icmp .ge 81, 3) := by decide +kernel
theorem dX5_run_30 : decode cX5_run 30 = .ok (.aload_n 0, 1) := by decide +kernel
theorem dX5_run_31 : decode cX5_run 31 = .ok (.getfield 15, 3) := by decide +kernel
theorem dX5_run_34 : decode cX5_run 34 = .ok (.aload_n 1, 1) := by decide +kernel
theorem dX5_run_35 : decode cX5_run 35 = .ok (.getfield 24, 3) := by decide +kernel
theorem dX5_run_38 : decode cX5_run 38 = .ok (.if_icmp .ge 70, 3) := by decide +kernel
theorem dX5_run_41 : decode cX5_run 41 = .ok (.aload_n 1, 1) := by decide +kernel
theorem dX5_run_42 : decode cX5_run 42 = .ok (.aload_n 0, 1) := by decide +kernel
theorem dX5_run_43 : decode cX5_run 43 = .ok (.getfield 15, 3) := by decide +kernel
theorem dX5_run_46 : decode cX5_run 46 = .ok (.invokevirtual 29, 3) := by decide +kernel
theorem dX5_run_49 : decode cX5_run 49 = .ok (.ifCond .eq 13, 3) := by decide +kernel
theorem dX5_run_52 : decode cX5_run 52 = .ok (.aload_n 0, 1) := by decide +kernel
theorem dX5_run_53 : decode cX5_run 53 = .ok (.aload_n 1, 1) := by decide +kernel
theorem dX5_run_54 : decode cX5_run 54 = .ok (.aload_n 2, 1) := by decide +kernel
theorem dX5_run_55 : decode cX5_run 55 = .ok (.aload_n 3, 1) := by decide +kernel
theorem dX5_run_56 : decode cX5_run 56 = .ok (.invokevirtual 33, 3) := by decide +kernel
theorem dX5_run_59 : decode cX5_run 59 = .ok (.goto 17, 3) := by decide +kernel
theorem dX5_run_62 : decode cX5_run 62 = .ok (.aload_n 0, 1) := by decide +kernel
theorem dX5_run_63 : decode cX5_run 63 = .ok (.iconst 1, 1) := by decide +kernel
theorem dX5_run_64 : decode cX5_run 64 = .ok (.aload_n 1, 1) := by decide +kernel
theorem dX5_run_65 : decode cX5_run 65 = .ok (.getfield 37, 3) := by decide +kernel
theorem dX5_run_68 : decode cX5_run 68 = .ok (.aload_n 0, 1) := by decide +kernel
theorem dX5_run_69 : decode cX5_run 69 = .ok (.getfield 15, 3) := by decide +kernel
theorem dX5_run_72 : decode cX5_run 72 = .ok (.isub, 1) := by decide +kernel
theorem dX5_run_73 : decode cX5_run 73 = .ok (.invokevirtual 40, 3) := by decide +kernel
theorem dX5_run_76 : decode cX5_run 76 = .ok (.aload_n 0, 1) := by decide +kernel
theorem dX5_run_77 : decode cX5_run 77 = .ok (.getfield 18, 3) := by decide +kernel
theorem dX5_run_80 : decode cX5_run 80 = .ok (.ifCond .eq 4, 3) := by decide +kernel
theorem dX5_run_83 : decode cX5_run 83 = .ok (.return_, 1) := by decide +kernel
theorem dX5_run_84 : decode cX5_run 84 = .ok (.aload_n 0, 1) := by decide +kernel
theorem dX5_run_85 : decode cX5_run 85 = .ok (.dup, 1) := by decide +kernel
theorem dX5_run_86 : decode cX5_run 86 = .ok (.getfield 9, 3) := by decide +kernel
theorem dX5_run_89 : decode cX5_run 89 = .ok (.iconst 1, 1) := by decide +kernel
theorem dX5_run_90 : decode cX5_run 90 = .ok (.iadd, 1) := by decide +kernel
theorem dX5_run_91 : decode cX5_run 91 = .ok (.putfield 9, 3) := by decide +kernel
theorem dX5_run_94 : decode cX5_run 94 = .ok (.aload_n 0, 1) := by decide +kernel
theorem dX5_run_95 : decode cX5_run 95 = .ok (.aload_n 1, 1) := by decide +kernel
theorem dX5_run_96 : decode cX5_run 96 = .ok (.getfield 37, 3) := by decide +kernel
theorem dX5_run_99 : decode cX5_run 99 = .ok (.putfield 15, 3) := by decide +kernel
theorem dX5_run_102 : decode cX5_run 102 = .ok (.iinc 4 1, 3) := by decide +kernel
theorem dX5_run_105 : decode cX5_run 105 = .ok (.goto (-82), 3) := by decide +kernel
theorem dX5_run_108 : decode cX5_run 108 = .ok (.return_, 1) := by decide +kernel
theorem dX5_failWith_0 : decode cX5_failWith 0 = .ok (.aload_n 0, 1) := by decide +kernel
theorem dX5_failWith_1 : decode cX5_failWith 1 = .ok (.iload_n 1, 1) := by decide +kernel
theorem dX5_failWith_2 : decode cX5_failWith 2 = .ok (.putfield 18, 3) := by decide +kernel
theorem dX5_failWith_5 : decode cX5_failWith 5 = .ok (.aload_n 0, 1) := by decide +kernel
theorem dX5_failWith_6 : decode cX5_failWith 6 = .ok (.iload_n 2, 1) := by decide +kernel
theorem dX5_failWith_7 : decode cX5_failWith 7 = .ok (.putfield 21, 3) := by decide +kernel
theorem dX5_failWith_10 : decode cX5_failWith 10 = .ok (.return_, 1) := by decide +kernel
set_option maxRecDepth 20000 in
theorem ggX5_perform_X5_addRule : GoodIn wsX5_perform wsX5_addRule := goodIn_r _ [5, 6, 7, 8, 9, 10, 11, 4, 12, 13, 14, 15, 16, 17, 18, 19, 20, 21, 22, 23, 24, 25, 26, 27, 28, 29, 30, 31, 32, 33, 34, 35, 36, 37, 134, 135, 136, 137, 138, 139, 140, 141, 142, 143, 144, 145, 146, 147, 148, 149, 150, 151, 152] (by decide +kernel) (by decide +kernel)
set_option maxRecDepth 20000 in
theorem gX5_perform_X5_addRule : GoodIn wsX5_perform (wsV RX5 53 RX5 yX5_addRule wsX5_addRule) := goodIn_app (goodIn_of _ (by decide +kernel)) ggX5_perform_X5_addRule
set_option maxRecDepth 20000 in
theorem ggX5_perform_X5_removeRule : GoodIn wsX5_perform wsX5_removeRule := goodIn_r _ [41, 42, 16, 43, 44, 19, 45, 26, 46, 47, 29, 30, 48, 49, 50, 20, 21, 34, 35, 36, 51, 9, 10, 11, 4, 12, 13, 14, 134, 135, 136, 137, 138, 139, 144, 145, 146, 147, 148, 149, 150, 151, 152, 140, 141, 142, 143] (by decide +kernel) (by decide +kernel)
set_option maxRecDepth 20000 in
theorem gX5_perform_X5_removeRule : GoodIn wsX5_perform (wsV RX5 60 RX5 yX5_removeRule wsX5_removeRule) := goodIn_app (goodIn_of _ (by decide +kernel)) ggX5_perform_X5_removeRule
set_option maxRecDepth 20000 in
theorem ggX5_perform_X5_setWord : GoodIn wsX5_perform wsX5_setWord := goodIn_r _ [55, 6, 7, 8, 9, 10, 11, 4, 12, 13, 14, 134, 135, 136, 137, 138, 139, 140, 141, 142, 143] (by decide +kernel) (by decide +kernel)
set_option maxRecDepth 20000 in
theorem gX5_perform_X5_setWord : GoodIn wsX5_perform (wsV RX5 64 RX5 yX5_setWord wsX5_setWord) := goodIn_app (goodIn_of _ (by decide +kernel)) ggX5_perform_X5_setWord
set_option maxRecDepth 20000 in
theorem ggX5_perform_X6_takeStep : GoodIn wsX5_perform wsX6_takeStep := goodIn_r _ [58, 29, 59, 60, 61, 62, 63, 16, 64, 65, 19, 6, 7, 8, 66, 67, 68, 69, 34, 20, 70, 71, 72, 73, 74, 75, 76, 21, 35, 77, 78, 134, 135, 136, 137, 138, 139, 144, 145, 146, 147, 148, 149] (by decide +kernel) (by decide +kernel)
set_option maxRecDepth 20000 in
theorem gX5_perform_X6_takeStep_n67 : GoodIn wsX5_perform (wsX6_takeStep) := ggX5_perform_X6_takeStep
set_option maxRecDepth 20000 in
theorem ggX5_perform_X5_failWith : GoodIn wsX5_perform wsX5_failWith := goodIn_r _ [12, 13, 14, 140, 141, 142, 143] (by decide +kernel) (by decide +kernel)
set_option maxRecDepth 20000 in
theorem gX5_perform_X5_failWith : GoodIn wsX5_perform (wsV RX5 40 RX5 yX5_failWith wsX5_failWith) := goodIn_app (goodIn_of _ (by decide +kernel)) ggX5_perform_X5_failWith
set_option maxRecDepth 20000 in
theorem ggX5_perform_X6_reduce : GoodIn wsX5_perform wsX6_reduce := goodIn_r _ [81, 30, 59, 82, 29, 60, 61, 83, 62, 84, 85, 86, 87, 88, 89, 90, 91, 92, 93, 94, 95, 96, 97, 98, 99, 100, 101, 102, 103, 104, 105, 106, 107, 108, 109, 110, 63, 16, 64, 65, 19, 6, 7, 8, 66, 67, 68, 69, 34, 20, 70, 71, 72, 73, 74, 75, 76, 21, 35, 77, 78, 111, 112, 113, 114, 115, 116, 117, 118, 119, 134, 135, 136, 137, 138, 139, 153, 154, 155, 156, 157, 150, 151, 152, 144, 145, 146, 147, 148, 149] (by decide +kernel) (by decide +kernel)
set_option maxRecDepth 20000 in
theorem gX5_perform_X6_reduce_n73 : GoodIn wsX5_perform (wsX6_reduce) := ggX5_perform_X6_reduce
set_option maxRecDepth 20000 in
theorem ggX5_perform_X5_setChoosing : GoodIn wsX5_perform wsX5_setChoosing := goodIn_r _ [123, 124, 26, 125, 126, 60, 30, 9, 10, 11, 4, 12, 13, 14, 134, 135, 136, 137, 138, 139, 150, 151, 152, 140, 141, 142, 143] (by decide +kernel) (by decide +kernel)
set_option maxRecDepth 20000 in
theorem gX5_perform_X5_setChoosing : GoodIn wsX5_perform (wsV RX5 77 RX5 yX5_setChoosing wsX5_setChoosing) := goodIn_app (goodIn_of _ (by decide +kernel)) ggX5_perform_X5_setChoosing
theorem dX5_perform_0 : decode cX5_perform 0 = .ok (.aload_n 1, 1) := by decide +kernel
theorem dX5_perform_1 : decode cX5_perform 1 = .ok (.getfield 44, 3) := by decide +kernel
theorem dX5_perform_4 : decode cX5_perform 4 = .ok (.lookupswitch 125 #[(43, 52), (45, 68), (61, 80), (110, 108), (115, 92)], 52) := by decide +kernel
theorem dX5_perform_56 : decode cX5_perform 56 = .ok (.aload_n 0, 1) := by decide +kernel
theorem dX5_perform_57 : decode cX5_perform 57 = .ok (.aload_n 1, 1) := by decide +kernel
theorem dX5_perform_58 : decode cX5_perform 58 = .ok (.getfield 47, 3) := by decide +kernel
theorem dX5_perform_61 : decode cX5_perform 61 = .ok (.aload_n 1, 1) := by decide +kernel
theorem dX5_perform_62 : decode cX5_perform 62 = .ok (.getfield 50, 3) := by decide +kernel
theorem dX5_perform_65 : decode cX5_perform 65 = .ok (.aload_n 2, 1) := by decide +kernel
theorem dX5_perform_66 : decode cX5_perform 66 = .ok (.invokevirtual 53, 3) := by decide +kernel
theorem dX5_perform_69 : decode cX5_perform 69 = .ok (.goto 69, 3) := by decide +kernel
theorem dX5_perform_72 : decode cX5_perform 72 = .ok (.aload_n 0, 1) := by decide +kernel
theorem dX5_perform_73 : decode cX5_perform 73 = .ok (.aload_n 1, 1) := by decide +kernel
theorem dX5_perform_74 : decode cX5_perform 74 = .ok (.getfield 57, 3) := by decide +kernel
theorem dX5_perform_77 : decode cX5_perform 77 = .ok (.aload_n 2, 1) := by decide +kernel
theorem dX5_perform_78 : decode cX5_perform 78 = .ok (.invokevirtual 60, 3) := by decide +kernel
theorem dX5_perform_81 : decode cX5_perform 81 = .ok (.goto 57, 3) := by decide +kernel
theorem dX5_perform_84 : decode cX5_perform 84 = .ok (.aload_n 0, 1) := by decide +kernel
theorem dX5_perform_85 : decode cX5_perform 85 = .ok (.aload_n 1, 1) := by decide +kernel
theorem dX5_perform_86 : decode cX5_perform 86 = .ok (.getfield 47, 3) := by decide +kernel
theorem dX5_perform_89 : decode cX5_perform 89 = .ok (.aload_n 2, 1) := by decide +kernel
theorem dX5_perform_90 : decode cX5_perform 90 = .ok (.invokevirtual 64, 3) := by decide +kernel
theorem dX5_perform_93 : decode cX5_perform 93 = .ok (.goto 45, 3) := by decide +kernel
theorem dX5_perform_96 : decode cX5_perform 96 = .ok (.aload_n 2, 1) := by decide +kernel
theorem dX5_perform_97 : decode cX5_perform 97 = .ok (.invokevirtual 67, 3) := by decide +kernel
theorem dX5_perform_100 : decode cX5_perform 100 = .ok (.ifCond .ge 38, 3) := by decide +kernel
theorem dX5_perform_103 : decode cX5_perform 103 = .ok (.aload_n 0, 1) := by decide +kernel
theorem dX5_perform_104 : decode cX5_perform 104 = .ok (.iconst 3, 1) := by decide +kernel
theorem dX5_perform_105 : decode cX5_perform 105 = .ok (.iconst 4, 1) := by decide +kernel
theorem dX5_perform_106 : decode cX5_perform 106 = .ok (.invokevirtual 40, 3) := by decide +kernel
theorem dX5_perform_109 : decode cX5_perform 109 = .ok (.goto 29, 3) := by decide +kernel
theorem dX5_perform_112 : decode cX5_perform 112 = .ok (.aload_n 2, 1) := by decide +kernel
theorem dX5_perform_113 : decode cX5_perform 113 = .ok (.aload_n 3, 1) := by decide +kernel
theorem dX5_perform_114 : decode cX5_perform 114 = .ok (.invokevirtual 73, 3) := by decide +kernel
theorem dX5_perform_117 : decode cX5_perform 117 = .ok (.ifCond .ge 21, 3) := by decide +kernel
theorem dX5_perform_120 : decode cX5_perform 120 = .ok (.aload_n 0, 1) := by decide +kernel
theorem dX5_perform_121 : decode cX5_perform 121 = .ok (.iconst 3, 1) := by decide +kernel
theorem dX5_perform_122 : decode cX5_perform 122 = .ok (.iconst 5, 1) := by decide +kernel
theorem dX5_perform_123 : decode cX5_perform 123 = .ok (.invokevirtual 40, 3) := by decide +kernel
theorem dX5_perform_126 : decode cX5_perform 126 = .ok (.goto 12, 3) := by decide +kernel
theorem dX5_perform_129 : decode cX5_perform 129 = .ok (.aload_n 0, 1) := by decide +kernel
theorem dX5_perform_130 : decode cX5_perform 130 = .ok (.aload_n 1, 1) := by decide +kernel
theorem dX5_perform_131 : decode cX5_perform 131 = .ok (.getfield 57, 3) := by decide +kernel
theorem dX5_perform_134 : decode cX5_perform 134 = .ok (.aload_n 2, 1) := by decide +kernel
theorem dX5_perform_135 : decode cX5_perform 135 = .ok (.invokevirtual 77, 3) := by decide +kernel
theorem dX5_perform_138 : decode cX5_perform 138 = .ok (.return_, 1) := by decide +kernel
set_option maxRecDepth 20000 in
theorem ggX5_addRule_X9_lengthOf : GoodIn wsX5_addRule wsX9_lengthOf := goodIn_r _ [3] (by decide +kernel) (by decide +kernel)
set_option maxRecDepth 20000 in
theorem gX5_addRule_X9_lengthOf_n80 : GoodIn wsX5_addRule (wsX9_lengthOf) := ggX5_addRule_X9_lengthOf
set_option maxRecDepth 20000 in
theorem ggX5_addRule_X5_failWith : GoodIn wsX5_addRule wsX5_failWith := goodIn_r _ [8, 9, 10, 40, 41, 42, 43] (by decide +kernel) (by decide +kernel)
set_option maxRecDepth 20000 in
theorem gX5_addRule_X5_failWith : GoodIn wsX5_addRule (wsV RX5 40 RX5 yX5_failWith wsX5_failWith) := goodIn_app (goodIn_of _ (by decide +kernel)) ggX5_addRule_X5_failWith
set_option maxRecDepth 20000 in
theorem ggX5_addRule_X4_hasSides : GoodIn wsX5_addRule wsX4_hasSides := goodIn_r _ [14, 15, 16, 17, 44, 45, 46, 47, 48, 49] (by decide +kernel) (by decide +kernel)
set_option maxRecDepth 20000 in
theorem gX5_addRule_X4_hasSides_n90 : GoodIn wsX5_addRule (wsX4_hasSides) := ggX5_addRule_X4_hasSides
set_option maxRecDepth 20000 in
theorem ggX5_addRule_X4_isFull : GoodIn wsX5_addRule wsX4_isFull := goodIn_r _ [20, 15, 44, 45, 46, 47, 48, 49] (by decide +kernel) (by decide +kernel)
set_option maxRecDepth 20000 in
theorem gX5_addRule_X4_isFull_n96 : GoodIn wsX5_addRule (wsX4_isFull) := ggX5_addRule_X4_isFull
set_option maxRecDepth 20000 in
theorem ggX5_addRule_X6_addRule : GoodIn wsX5_addRule wsX6_addRule := goodIn_r _ [24, 25, 26, 27, 12, 28, 29, 16, 15, 17, 30, 31, 32, 33, 18, 19, 20, 1, 2, 3, 34, 35, 36, 37, 38, 39, 50, 51, 52, 44, 45, 46, 47, 48, 49] (by decide +kernel) (by decide +kernel)
set_option maxRecDepth 20000 in
theorem gX5_addRule_X6_addRule_n100 : GoodIn wsX5_addRule (wsX6_addRule) := ggX5_addRule_X6_addRule
theorem dX5_addRule_0 : decode cX5_addRule 0 = .ok (.iload_n 1, 1) := by decide +kernel
theorem dX5_addRule_1 : decode cX5_addRule 1 = .ok (.invokestatic 80, 3) := by decide +kernel
theorem dX5_addRule_4 : decode cX5_addRule 4 = .ok (.istore 4, 2) := by decide +kernel
theorem dX5_addRule_6 : decode cX5_addRule 6 = .ok (.iload_n 2, 1) := by decide +kernel
theorem dX5_addRule_7 : decode cX5_addRule 7 = .ok (.invokestatic 80, 3) := by decide +kernel
theorem dX5_addRule_10 : decode cX5_addRule 10 = .ok (.istore 5, 2) := by decide +kernel
theorem dX5_addRule_12 : decode cX5_addRule 12 = .ok (.iload 4, 2) := by decide +kernel
theorem dX5_addRule_14 : decode cX5_addRule 14 = .ok (.ifCond .eq 15, 3) := by decide +kernel
theorem dX5_addRule_17 : decode cX5_addRule 17 = .ok (.iload 4, 2) := by decide +kernel
theorem dX5_addRule_19 : decode cX5_addRule 19 = .ok (.iconst 4, 1) := by decide +kernel
theorem dX5_addRule_20 : decode cX5_addRule 20 = .ok (.if_icmp .gt 9, 3) := by decide +kernel
theorem dX5_addRule_23 : decode cX5_addRule 23 = .ok (.iload 5, 2) := by decide +kernel
theorem dX5_addRule_25 : decode cX5_addRule 25 = .ok (.iconst 4, 1) := by decide +kernel
theorem dX5_addRule_26 : decode cX5_addRule 26 = .ok (.if_icmp .le 12, 3) := by decide +kernel
theorem dX5_addRule_29 : decode cX5_addRule 29 = .ok (.aload_n 0, 1) := by decide +kernel
theorem dX5_addRule_30 : decode cX5_addRule 30 = .ok (.iconst 2, 1) := by decide +kernel
theorem dX5_addRule_31 : decode cX5_addRule 31 = .ok (.iconst 0, 1) := by decide +kernel
theorem dX5_addRule_32 : decode cX5_addRule 32 = .ok (.invokevirtual 40, 3) := by decide +kernel
theorem dX5_addRule_35 : decode cX5_addRule 35 = .ok (.goto 70, 3) := by decide +kernel
theorem dX5_addRule_38 : decode cX5_addRule 38 = .ok (.iload 5, 2) := by decide +kernel
theorem dX5_addRule_40 : decode cX5_addRule 40 = .ok (.iload 4, 2) := by decide +kernel
theorem dX5_addRule_42 : decode cX5_addRule 42 = .ok (.if_icmp .gt 8, 3) := by decide +kernel
theorem dX5_addRule_45 : decode cX5_addRule 45 = .ok (.iload_n 1, 1) := by decide +kernel
theorem dX5_addRule_46 : decode cX5_addRule 46 = .ok (.iload_n 2, 1) := by decide +kernel
theorem dX5_addRule_47 : decode cX5_addRule 47 = .ok (.if_icmp .ne 12, 3) := by decide +kernel
theorem dX5_addRule_50 : decode cX5_addRule 50 = .ok (.aload_n 0, 1) := by decide +kernel
theorem dX5_addRule_51 : decode cX5_addRule 51 = .ok (.iconst 3, 1) := by decide +kernel
theorem dX5_addRule_52 : decode cX5_addRule 52 = .ok (.iconst 1, 1) := by decide +kernel
theorem dX5_addRule_53 : decode cX5_addRule 53 = .ok (.invokevirtual 40, 3) := by decide +kernel
theorem dX5_addRule_56 : decode cX5_addRule 56 = .ok (.goto 49, 3) := by decide +kernel
theorem dX5_addRule_59 : decode cX5_addRule 59 = .ok (.aload_n 3, 1) := by decide +kernel
theorem dX5_addRule_60 : decode cX5_addRule 60 = .ok (.getfield 86, 3) := by decide +kernel
theorem dX5_addRule_63 : decode cX5_addRule 63 = .ok (.iload_n 1, 1) := by decide +kernel
theorem dX5_addRule_64 : decode cX5_addRule 64 = .ok (.iload_n 2, 1) := by decide +kernel
theorem dX5_addRule_65 : decode cX5_addRule 65 = .ok (.invokevirtual 90, 3) := by decide +kernel
theorem dX5_addRule_68 : decode cX5_addRule 68 = .ok (.ifCond .eq 12, 3) := by decide +kernel
theorem dX5_addRule_71 : decode cX5_addRule 71 = .ok (.aload_n 0, 1) := by decide +kernel
theorem dX5_addRule_72 : decode cX5_addRule 72 = .ok (.iconst 3, 1) := by decide +kernel
theorem dX5_addRule_73 : decode cX5_addRule 73 = .ok (.iconst 2, 1) := by decide +kernel
theorem dX5_addRule_74 : decode cX5_addRule 74 = .ok (.invokevirtual 40, 3) := by decide +kernel
theorem dX5_addRule_77 : decode cX5_addRule 77 = .ok (.goto 28, 3) := by decide +kernel
theorem dX5_addRule_80 : decode cX5_addRule 80 = .ok (.aload_n 3, 1) := by decide +kernel
theorem dX5_addRule_81 : decode cX5_addRule 81 = .ok (.getfield 86, 3) := by decide +kernel
theorem dX5_addRule_84 : decode cX5_addRule 84 = .ok (.invokevirtual 96, 3) := by decide +kernel
theorem dX5_addRule_87 : decode cX5_addRule 87 = .ok (.ifCond .eq 12, 3) := by decide +kernel
theorem dX5_addRule_90 : decode cX5_addRule 90 = .ok (.aload_n 0, 1) := by decide +kernel
theorem dX5_addRule_91 : decode cX5_addRule 91 = .ok (.iconst 3, 1) := by decide +kernel
theorem dX5_addRule_92 : decode cX5_addRule 92 = .ok (.iconst 3, 1) := by decide +kernel
theorem dX5_addRule_93 : decode cX5_addRule 93 = .ok (.invokevirtual 40, 3) := by decide +kernel
theorem dX5_addRule_96 : decode cX5_addRule 96 = .ok (.goto 9, 3) := by decide +kernel
theorem dX5_addRule_99 : decode cX5_addRule 99 = .ok (.aload_n 3, 1) := by decide +kernel
theorem dX5_addRule_100 : decode cX5_addRule 100 = .ok (.iload_n 1, 1) := by decide +kernel
theorem dX5_addRule_101 : decode cX5_addRule 101 = .ok (.iload_n 2, 1) := by decide +kernel
theorem dX5_addRule_102 : decode cX5_addRule 102 = .ok (.invokevirtual 100, 3) := by decide +kernel
theorem dX5_addRule_105 : decode cX5_addRule 105 = .ok (.return_, 1) := by decide +kernel
set_option maxRecDepth 20000 in
theorem ggX5_removeRule_X4_contains : GoodIn wsX5_removeRule wsX4_contains := goodIn_r _ [4, 5, 34, 35, 36, 37, 38, 39] (by decide +kernel) (by decide +kernel)
set_option maxRecDepth 20000 in
theorem gX5_removeRule_X4_contains_n102 : GoodIn wsX5_removeRule (wsX4_contains) := ggX5_removeRule_X4_contains
set_option maxRecDepth 20000 in
theorem ggX5_removeRule_X6_removeRule : GoodIn wsX5_removeRule wsX6_removeRule := goodIn_r _ [9, 10, 11, 12, 2, 13, 14, 5, 15, 16, 17, 18, 19, 20, 1, 3, 4, 28, 29, 30, 31, 32, 33, 40, 41, 42, 34, 35, 36, 37, 38, 39] (by decide +kernel) (by decide +kernel)
set_option maxRecDepth 20000 in
theorem gX5_removeRule_X6_removeRule_n105 : GoodIn wsX5_removeRule (wsX6_removeRule) := ggX5_removeRule_X6_removeRule
set_option maxRecDepth 20000 in
theorem ggX5_removeRule_X5_failWith : GoodIn wsX5_removeRule wsX5_failWith := goodIn_r _ [25, 26, 27, 43, 44, 45, 46] (by decide +kernel) (by decide +kernel)
set_option maxRecDepth 20000 in
theorem gX5_removeRule_X5_failWith : GoodIn wsX5_removeRule (wsV RX5 40 RX5 yX5_failWith wsX5_failWith) := goodIn_app (goodIn_of _ (by decide +kernel)) ggX5_removeRule_X5_failWith
theorem dX5_removeRule_0 : decode cX5_removeRule 0 = .ok (.aload_n 2, 1) := by decide +kernel
theorem dX5_removeRule_1 : decode cX5_removeRule 1 = .ok (.getfield 86, 3) := by decide +kernel
theorem dX5_removeRule_4 : decode cX5_removeRule 4 = .ok (.iload_n 1, 1) := by decide +kernel
theorem dX5_removeRule_5 : decode cX5_removeRule 5 = .ok (.invokevirtual 102, 3) := by decide +kernel
theorem dX5_removeRule_8 : decode cX5_removeRule 8 = .ok (.ifCond .eq 11, 3) := by decide +kernel
theorem dX5_removeRule_11 : decode cX5_removeRule 11 = .ok (.aload_n 2, 1) := by decide +kernel
theorem dX5_removeRule_12 : decode cX5_removeRule 12 = .ok (.iload_n 1, 1) := by decide +kernel
theorem dX5_removeRule_13 : decode cX5_removeRule 13 = .ok (.invokevirtual 105, 3) := by decide +kernel
theorem dX5_removeRule_16 : decode cX5_removeRule 16 = .ok (.goto 9, 3) := by decide +kernel
theorem dX5_removeRule_19 : decode cX5_removeRule 19 = .ok (.aload_n 0, 1) := by decide +kernel
theorem dX5_removeRule_20 : decode cX5_removeRule 20 = .ok (.iconst 2, 1) := by decide +kernel
theorem dX5_removeRule_21 : decode cX5_removeRule 21 = .ok (.iconst 0, 1) := by decide +kernel
theorem dX5_removeRule_22 : decode cX5_removeRule 22 = .ok (.invokevirtual 40, 3) := by decide +kernel
theorem dX5_removeRule_25 : decode cX5_removeRule 25 = .ok (.return_, 1) := by decide +kernel
set_option maxRecDepth 20000 in
theorem ggX5_setWord_X9_lengthOf : GoodIn wsX5_setWord wsX9_lengthOf := goodIn_r _ [3] (by decide +kernel) (by decide +kernel)
set_option maxRecDepth 20000 in
theorem gX5_setWord_X9_lengthOf_n80 : GoodIn wsX5_setWord (wsX9_lengthOf) := ggX5_setWord_X9_lengthOf
set_option maxRecDepth 20000 in
theorem ggX5_setWord_X5_failWith : GoodIn wsX5_setWord wsX5_failWith := goodIn_r _ [8, 9, 10, 17, 18, 19, 20] (by decide +kernel) (by decide +kernel)
set_option maxRecDepth 20000 in
theorem gX5_setWord_X5_failWith : GoodIn wsX5_setWord (wsV RX5 40 RX5 yX5_failWith wsX5_failWith) := goodIn_app (goodIn_of _ (by decide +kernel)) ggX5_setWord_X5_failWith
theorem dX5_setWord_0 : decode cX5_setWord 0 = .ok (.iload_n 1, 1) := by decide +kernel
theorem dX5_setWord_1 : decode cX5_setWord 1 = .ok (.invokestatic 80, 3) := by decide +kernel
theorem dX5_setWord_4 : decode cX5_setWord 4 = .ok (.bipush 12, 2) := by decide +kernel
theorem dX5_setWord_6 : decode cX5_setWord 6 = .ok (.if_icmp .gt 11, 3) := by decide +kernel
theorem dX5_setWord_9 : decode cX5_setWord 9 = .ok (.aload_n 2, 1) := by decide +kernel
theorem dX5_setWord_10 : decode cX5_setWord 10 = .ok (.iload_n 1, 1) := by decide +kernel
theorem dX5_setWord_11 : decode cX5_setWord 11 = .ok (.putfield 108, 3) := by decide +kernel
theorem dX5_setWord_14 : decode cX5_setWord 14 = .ok (.goto 9, 3) := by decide +kernel
theorem dX5_setWord_17 : decode cX5_setWord 17 = .ok (.aload_n 0, 1) := by decide +kernel
theorem dX5_setWord_18 : decode cX5_setWord 18 = .ok (.iconst 2, 1) := by decide +kernel
theorem dX5_setWord_19 : decode cX5_setWord 19 = .ok (.iconst 0, 1) := by decide +kernel
theorem dX5_setWord_20 : decode cX5_setWord 20 = .ok (.invokevirtual 40, 3) := by decide +kernel
theorem dX5_setWord_23 : decode cX5_setWord 23 = .ok (.return_, 1) := by decide +kernel
set_option maxRecDepth 20000 in
theorem ggX5_setChoosing_X6_setChoosing : GoodIn wsX5_setChoosing wsX6_setChoosing := goodIn_r _ [4, 5, 6, 14, 15, 16, 17, 18, 19, 20, 21, 22] (by decide +kernel) (by decide +kernel)
set_option maxRecDepth 20000 in
theorem gX5_setChoosing_X6_setChoosing_n111 : GoodIn wsX5_setChoosing (wsX6_setChoosing) := ggX5_setChoosing_X6_setChoosing
set_option maxRecDepth 20000 in
theorem ggX5_setChoosing_X5_failWith : GoodIn wsX5_setChoosing wsX5_failWith := goodIn_r _ [11, 12, 13, 23, 24, 25, 26] (by decide +kernel) (by decide +kernel)
set_option maxRecDepth 20000 in
theorem gX5_setChoosing_X5_failWith : GoodIn wsX5_setChoosing (wsV RX5 40 RX5 yX5_failWith wsX5_failWith) := goodIn_app (goodIn_of _ (by decide +kernel)) ggX5_setChoosing_X5_failWith
theorem dX5_setChoosing_0 : decode cX5_setChoosing 0 = .ok (.iload_n 1, 1) := by decide +kernel
theorem dX5_setChoosing_1 : decode cX5_setChoosing 1 = .ok (.iconst 2, 1) := by decide +kernel
theorem dX5_setChoosing_2 : decode cX5_setChoosing 2 = .ok (.if_icmp .gt 11, 3) := by decide +kernel
theorem dX5_setChoosing_5 : decode cX5_setChoosing 5 = .ok (.aload_n 2, 1) := by decide +kernel
theorem dX5_setChoosing_6 : decode cX5_setChoosing 6 = .ok (.iload_n 1, 1) := by decide +kernel
theorem dX5_setChoosing_7 : decode cX5_setChoosing 7 = .ok (.invokevirtual 111, 3) := by decide +kernel
theorem dX5_setChoosing_10 : decode cX5_setChoosing 10 = .ok (.goto 9, 3) := by decide +kernel
theorem dX5_setChoosing_13 : decode cX5_setChoosing 13 = .ok (.aload_n 0, 1) := by decide +kernel
theorem dX5_setChoosing_14 : decode cX5_setChoosing 14 = .ok (.iconst 2, 1) := by decide +kernel
theorem dX5_setChoosing_15 : decode cX5_setChoosing 15 = .ok (.iconst 0, 1) := by decide +kernel
theorem dX5_setChoosing_16 : decode cX5_setChoosing 16 = .ok (.invokevirtual 40, 3) := by decide +kernel
theorem dX5_setChoosing_19 : decode cX5_setChoosing 19 = .ok (.return_, 1) := by decide +kernel
set_option maxRecDepth 20000 in
theorem ggX6_init_X4_init : GoodIn wsX6_init wsX4_init := goodIn_r _ [15, 16, 2, 3, 17, 18, 19, 20, 21, 22, 28, 29, 30, 31, 32, 33] (by decide +kernel) (by decide +kernel)
set_option maxRecDepth 20000 in
theorem gX6_init_X4_init_n11 : GoodIn wsX6_init (wsX4_init) := ggX6_init_X4_init
set_option maxRecDepth 20000 in
theorem ggX6_init_X7_init : GoodIn wsX6_init wsX7_init := goodIn_r _ [24, 25, 2, 3, 17, 26, 27, 40, 41, 42] (by decide +kernel) (by decide +kernel)
set_option maxRecDepth 20000 in
theorem gX6_init_X7_init_n20 : GoodIn wsX6_init (wsX7_init) := ggX6_init_X7_init
theorem dX6_init_0 : decode cX6_init 0 = .ok (.aload_n 0, 1) := by decide +kernel
theorem dX6_init_1 : decode cX6_init 1 = .ok (.invokespecial 3, 3) := by decide +kernel
theorem dX6_init_4 : decode cX6_init 4 = .ok (.aload_n 0, 1) := by decide +kernel
theorem dX6_init_5 : decode cX6_init 5 = .ok (.new 9, 3) := by decide +kernel
theorem dX6_init_8 : decode cX6_init 8 = .ok (.dup, 1) := by decide +kernel
theorem dX6_init_9 : decode cX6_init 9 = .ok (.invokespecial 11, 3) := by decide +kernel
theorem dX6_init_12 : decode cX6_init 12 = .ok (.putfield 12, 3) := by decide +kernel
theorem dX6_init_15 : decode cX6_init 15 = .ok (.aload_n 0, 1) := by decide +kernel
theorem dX6_init_16 : decode cX6_init 16 = .ok (.new 18, 3) := by decide +kernel
theorem dX6_init_19 : decode cX6_init 19 = .ok (.dup, 1) := by decide +kernel
theorem dX6_init_20 : decode cX6_init 20 = .ok (.invokespecial 20, 3) := by decide +kernel
theorem dX6_init_23 : decode cX6_init 23 = .ok (.putfield 21, 3) := by decide +kernel
theorem dX6_init_26 : decode cX6_init 26 = .ok (.aload_n 0, 1) := by decide +kernel
theorem dX6_init_27 : decode cX6_init 27 = .ok (.iconst 1, 1) := by decide +kernel
theorem dX6_init_28 : decode cX6_init 28 = .ok (.putfield 27, 3) := by decide +kernel
theorem dX6_init_31 : decode cX6_init 31 = .ok (.aload_n 0, 1) := by decide +kernel
theorem dX6_init_32 : decode cX6_init 32 = .ok (.iconst 0, 1) := by decide +kernel
theorem dX6_init_33 : decode cX6_init 33 = .ok (.putfield 31, 3) := by decide +kernel
theorem dX6_init_36 : decode cX6_init 36 = .ok (.return_, 1) := by decide +kernel
set_option maxRecDepth 20000 in
theorem ggX6_takeOver_X4_takeOver : GoodIn wsX6_takeOver wsX4_takeOver := goodIn_r _ [10, 11, 12, 13, 14, 15, 16, 17, 18, 19, 20, 35, 36, 37, 38, 39, 40] (by decide +kernel) (by decide +kernel)
set_option maxRecDepth 20000 in
theorem gX6_takeOver_X4_takeOver_n34 : GoodIn wsX6_takeOver (wsX4_takeOver) := ggX6_takeOver_X4_takeOver
set_option maxRecDepth 20000 in
theorem ggX6_takeOver_X7_takeOver : GoodIn wsX6_takeOver wsX7_takeOver := goodIn_r _ [24, 25, 26, 13, 14, 15, 27, 28, 41, 42, 43] (by decide +kernel) (by decide +kernel)
set_option maxRecDepth 20000 in
theorem gX6_takeOver_X7_takeOver_n38 : GoodIn wsX6_takeOver (wsX7_takeOver) := ggX6_takeOver_X7_takeOver
theorem dX6_takeOver_0 : decode cX6_takeOver 0 = .ok (.aload_n 0, 1) := by decide +kernel
theorem dX6_takeOver_1 : decode cX6_takeOver 1 = .ok (.getfield 12, 3) := by decide +kernel
theorem dX6_takeOver_4 : decode cX6_takeOver 4 = .ok (.aload_n 1, 1) := by decide +kernel
theorem dX6_takeOver_5 : decode cX6_takeOver 5 = .ok (.getfield 12, 3) := by decide +kernel
theorem dX6_takeOver_8 : decode cX6_takeOver 8 = .ok (.invokevirtual 34, 3) := by decide +kernel
theorem dX6_takeOver_11 : decode cX6_takeOver 11 = .ok (.aload_n 0, 1) := by decide +kernel
theorem dX6_takeOver_12 : decode cX6_takeOver 12 = .ok (.getfield 21, 3) := by decide +kernel
theorem dX6_takeOver_15 : decode cX6_takeOver 15 = .ok (.aload_n 1, 1) := by decide +kernel
theorem dX6_takeOver_16 : decode cX6_takeOver 16 = .ok (.getfield 21, 3) := by decide +kernel
theorem dX6_takeOver_19 : decode cX6_takeOver 19 = .ok (.invokevirtual 38, 3) := by decide +kernel
theorem dX6_takeOver_22 : decode cX6_takeOver 22 = .ok (.aload_n 0, 1) := by decide +kernel
theorem dX6_takeOver_23 : decode cX6_takeOver 23 = .ok (.aload_n 1, 1) := by decide +kernel
theorem dX6_takeOver_24 : decode cX6_takeOver 24 = .ok (.getfield 27, 3) := by decide +kernel
theorem dX6_takeOver_27 : decode cX6_takeOver 27 = .ok (.putfield 27, 3) := by decide +kernel
theorem dX6_takeOver_30 : decode cX6_takeOver 30 = .ok (.aload_n 0, 1) := by decide +kernel
theorem dX6_takeOver_31 : decode cX6_takeOver 31 = .ok (.aload_n 1, 1) := by decide +kernel
theorem dX6_takeOver_32 : decode cX6_takeOver 32 = .ok (.getfield 31, 3) := by decide +kernel
theorem dX6_takeOver_35 : decode cX6_takeOver 35 = .ok (.putfield 31, 3) := by decide +kernel
theorem dX6_takeOver_38 : decode cX6_takeOver 38 = .ok (.aload_n 0, 1) := by decide +kernel
theorem dX6_takeOver_39 : decode cX6_takeOver 39 = .ok (.aload_n 1, 1) := by decide +kernel
theorem dX6_takeOver_40 : decode cX6_takeOver 40 = .ok (.getfield 41, 3) := by decide +kernel
theorem dX6_takeOver_43 : decode cX6_takeOver 43 = .ok (.putfield 41, 3) := by decide +kernel
theorem dX6_takeOver_46 : decode cX6_takeOver 46 = .ok (.aload_n 0, 1) := by decide +kernel
theorem dX6_takeOver_47 : decode cX6_takeOver 47 = .ok (.aload_n 1, 1) := by decide +kernel
theorem dX6_takeOver_48 : decode cX6_takeOver 48 = .ok (.getfield 44, 3) := by decide +kernel
theorem dX6_takeOver_51 : decode cX6_takeOver 51 = .ok (.putfield 44, 3) := by decide +kernel
theorem dX6_takeOver_54 : decode cX6_takeOver 54 = .ok (.return_, 1) := by decide +kernel
set_option maxRecDepth 20000 in
theorem ggX6_addRule_X4_add : GoodIn wsX6_addRule wsX4_add := goodIn_r _ [6, 7, 8, 9, 10, 11, 12, 13, 14, 15, 4, 16, 17, 18, 19, 29, 30, 31, 32, 33, 34] (by decide +kernel) (by decide +kernel)
set_option maxRecDepth 20000 in
theorem gX6_addRule_X4_add_n47 : GoodIn wsX6_addRule (wsX4_add) := ggX6_addRule_X4_add
theorem dX6_addRule_0 : decode cX6_addRule 0 = .ok (.aload_n 0, 1) := by decide +kernel
theorem dX6_addRule_1 : decode cX6_addRule 1 = .ok (.getfield 12, 3) := by decide +kernel
theorem dX6_addRule_4 : decode cX6_addRule 4 = .ok (.iload_n 1, 1) := by decide +kernel
theorem dX6_addRule_5 : decode cX6_addRule 5 = .ok (.iload_n 2, 1) := by decide +kernel
theorem dX6_addRule_6 : decode cX6_addRule 6 = .ok (.invokevirtual 47, 3) := by decide +kernel
theorem dX6_addRule_9 : decode cX6_addRule 9 = .ok (.aload_n 0, 1) := by decide +kernel
theorem dX6_addRule_10 : decode cX6_addRule 10 = .ok (.getfield 21, 3) := by decide +kernel
theorem dX6_addRule_13 : decode cX6_addRule 13 = .ok (.iconst 0, 1) := by decide +kernel
theorem dX6_addRule_14 : decode cX6_addRule 14 = .ok (.putfield 51, 3) := by decide +kernel
theorem dX6_addRule_17 : decode cX6_addRule 17 = .ok (.return_, 1) := by decide +kernel
set_option maxRecDepth 20000 in
theorem ggX6_removeRule_X4_remove : GoodIn wsX6_removeRule wsX4_remove := goodIn_r _ [6, 7, 8, 9, 10, 11, 12, 13, 14, 15, 4, 16, 26, 27, 28, 29, 30, 31] (by decide +kernel) (by decide +kernel)
set_option maxRecDepth 20000 in
theorem gX6_removeRule_X4_remove_n54 : GoodIn wsX6_removeRule (wsX4_remove) := ggX6_removeRule_X4_remove
theorem dX6_removeRule_0 : decode cX6_removeRule 0 = .ok (.aload_n 0, 1) := by decide +kernel
theorem dX6_removeRule_1 : decode cX6_removeRule 1 = .ok (.getfield 12, 3) := by decide +kernel
theorem dX6_removeRule_4 : decode cX6_removeRule 4 = .ok (.iload_n 1, 1) := by decide +kernel
theorem dX6_removeRule_5 : decode cX6_removeRule 5 = .ok (.invokevirtual 54, 3) := by decide +kernel
theorem dX6_removeRule_8 : decode cX6_removeRule 8 = .ok (.aload_n 0, 1) := by decide +kernel
theorem dX6_removeRule_9 : decode cX6_removeRule 9 = .ok (.getfield 21, 3) := by decide +kernel
theorem dX6_removeRule_12 : decode cX6_removeRule 12 = .ok (.iconst 0, 1) := by decide +kernel
theorem dX6_removeRule_13 : decode cX6_removeRule 13 = .ok (.putfield 51, 3) := by decide +kernel
theorem dX6_removeRule_16 : decode cX6_removeRule 16 = .ok (.return_, 1) := by decide +kernel
theorem dX6_setChoosing_0 : decode cX6_setChoosing 0 = .ok (.aload_n 0, 1) := by decide +kernel
theorem dX6_setChoosing_1 : decode cX6_setChoosing 1 = .ok (.iload_n 1, 1) := by decide +kernel
theorem dX6_setChoosing_2 : decode cX6_setChoosing 2 = .ok (.putfield 31, 3) := by decide +kernel
theorem dX6_setChoosing_5 : decode cX6_setChoosing 5 = .ok (.aload_n 0, 1) := by decide +kernel
theorem dX6_setChoosing_6 : decode cX6_setChoosing 6 = .ok (.getfield 21, 3) := by decide +kernel
theorem dX6_setChoosing_9 : decode cX6_setChoosing 9 = .ok (.iconst 0, 1) := by decide +kernel
theorem dX6_setChoosing_10 : decode cX6_setChoosing 10 = .ok (.putfield 51, 3) := by decide +kernel
theorem dX6_setChoosing_13 : decode cX6_setChoosing 13 = .ok (.return_, 1) := by decide +kernel
set_option maxRecDepth 20000 in
theorem ggX6_takeStep_X4_choiceFor : GoodIn wsX6_takeStep wsX4_choiceFor := goodIn_r _ [9, 10, 11, 12, 13, 14, 15, 16, 7, 17, 18, 19, 37, 38, 39, 40, 41, 42] (by decide +kernel) (by decide +kernel)
set_option maxRecDepth 20000 in
theorem gX6_takeStep_X4_choiceFor_n58 : GoodIn wsX6_takeStep (wsX4_choiceFor) := ggX6_takeStep_X4_choiceFor
set_option maxRecDepth 20000 in
theorem ggX6_takeStep_X4_ruleIn : GoodIn wsX6_takeStep wsX4_ruleIn := goodIn_r _ [21] (by decide +kernel) (by decide +kernel)
set_option maxRecDepth 20000 in
theorem gX6_takeStep_X4_ruleIn_n63 : GoodIn wsX6_takeStep (wsX4_ruleIn) := ggX6_takeStep_X4_ruleIn
set_option maxRecDepth 20000 in
theorem ggX6_takeStep_X4_placeIn : GoodIn wsX6_takeStep wsX4_placeIn := goodIn_r _ [23] (by decide +kernel) (by decide +kernel)
set_option maxRecDepth 20000 in
theorem gX6_takeStep_X4_placeIn_n67 : GoodIn wsX6_takeStep (wsX4_placeIn) := ggX6_takeStep_X4_placeIn
set_option maxRecDepth 20000 in
theorem ggX6_takeStep_X4_applied : GoodIn wsX6_takeStep wsX4_applied := goodIn_r _ [26, 27, 28, 18, 11, 12, 13, 29, 30, 37, 38, 39, 40, 41, 42] (by decide +kernel) (by decide +kernel)
set_option maxRecDepth 20000 in
theorem gX6_takeStep_X4_applied_n70 : GoodIn wsX6_takeStep (wsX4_applied) := ggX6_takeStep_X4_applied
theorem dX6_takeStep_0 : decode cX6_takeStep 0 = .ok (.aload_n 0, 1) := by decide +kernel
theorem dX6_takeStep_1 : decode cX6_takeStep 1 = .ok (.getfield 12, 3) := by decide +kernel
theorem dX6_takeStep_4 : decode cX6_takeStep 4 = .ok (.aload_n 0, 1) := by decide +kernel
theorem dX6_takeStep_5 : decode cX6_takeStep 5 = .ok (.getfield 27, 3) := by decide +kernel
theorem dX6_takeStep_8 : decode cX6_takeStep 8 = .ok (.aload_n 0, 1) := by decide +kernel
theorem dX6_takeStep_9 : decode cX6_takeStep 9 = .ok (.getfield 31, 3) := by decide +kernel
theorem dX6_takeStep_12 : decode cX6_takeStep 12 = .ok (.invokevirtual 58, 3) := by decide +kernel
theorem dX6_takeStep_15 : decode cX6_takeStep 15 = .ok (.istore_n 1, 1) := by decide +kernel
theorem dX6_takeStep_16 : decode cX6_takeStep 16 = .ok (.iload_n 1, 1) := by decide +kernel
theorem dX6_takeStep_17 : decode cX6_takeStep 17 = .ok (.ifCond .ge 6, 3) := by decide +kernel
theorem dX6_takeStep_20 : decode cX6_takeStep 20 = .ok (.ldc 62, 2) := by decide +kernel
theorem dX6_takeStep_22 : decode cX6_takeStep 22 = .ok (.ireturn, 1) := by decide +kernel
theorem dX6_takeStep_23 : decode cX6_takeStep 23 = .ok (.iload_n 1, 1) := by decide +kernel
theorem dX6_takeStep_24 : decode cX6_takeStep 24 = .ok (.invokestatic 63, 3) := by decide +kernel
theorem dX6_takeStep_27 : decode cX6_takeStep 27 = .ok (.istore_n 2, 1) := by decide +kernel
theorem dX6_takeStep_28 : decode cX6_takeStep 28 = .ok (.aload_n 0, 1) := by decide +kernel
theorem dX6_takeStep_29 : decode cX6_takeStep 29 = .ok (.aload_n 0, 1) := by decide +kernel
theorem dX6_takeStep_30 : decode cX6_takeStep 30 = .ok (.getfield 12, 3) := by decide +kernel
theorem dX6_takeStep_33 : decode cX6_takeStep 33 = .ok (.aload_n 0, 1) := by decide +kernel
theorem dX6_takeStep_34 : decode cX6_takeStep 34 = .ok (.getfield 27, 3) := by decide +kernel
theorem dX6_takeStep_37 : decode cX6_takeStep 37 = .ok (.iload_n 2, 1) := by decide +kernel
theorem dX6_takeStep_38 : decode cX6_takeStep 38 = .ok (.iload_n 1, 1) := by decide +kernel
theorem dX6_takeStep_39 : decode cX6_takeStep 39 = .ok (.invokestatic 67, 3) := by decide +kernel
theorem dX6_takeStep_42 : decode cX6_takeStep 42 = .ok (.invokevirtual 70, 3) := by decide +kernel
theorem dX6_takeStep_45 : decode cX6_takeStep 45 = .ok (.putfield 27, 3) := by decide +kernel
theorem dX6_takeStep_48 : decode cX6_takeStep 48 = .ok (.aload_n 0, 1) := by decide +kernel
theorem dX6_takeStep_49 : decode cX6_takeStep 49 = .ok (.getfield 12, 3) := by decide +kernel
theorem dX6_takeStep_52 : decode cX6_takeStep 52 = .ok (.getfield 74, 3) := by decide +kernel
theorem dX6_takeStep_55 : decode cX6_takeStep 55 = .ok (.iload_n 2, 1) := by decide +kernel
theorem dX6_takeStep_56 : decode cX6_takeStep 56 = .ok (.dup2, 1) := by decide +kernel
theorem dX6_takeStep_57 : decode cX6_takeStep 57 = .ok (.iaload, 1) := by decide +kernel
theorem dX6_takeStep_58 : decode cX6_takeStep 58 = .ok (.iconst 1, 1) := by decide +kernel
theorem dX6_takeStep_59 : decode cX6_takeStep 59 = .ok (.iadd, 1) := by decide +kernel
theorem dX6_takeStep_60 : decode cX6_takeStep 60 = .ok (.iastore, 1) := by decide +kernel
theorem dX6_takeStep_61 : decode cX6_takeStep 61 = .ok (.aload_n 0, 1) := by decide +kernel
theorem dX6_takeStep_62 : decode cX6_takeStep 62 = .ok (.dup, 1) := by decide +kernel
theorem dX6_takeStep_63 : decode cX6_takeStep 63 = .ok (.getfield 44, 3) := by decide +kernel
theorem dX6_takeStep_66 : decode cX6_takeStep 66 = .ok (.iconst 1, 1) := by decide +kernel
theorem dX6_takeStep_67 : decode cX6_takeStep 67 = .ok (.iadd, 1) := by decide +kernel
theorem dX6_takeStep_68 : decode cX6_takeStep 68 = .ok (.putfield 44, 3) := by decide +kernel
theorem dX6_takeStep_71 : decode cX6_takeStep 71 = .ok (.iload_n 2, 1) := by decide +kernel
theorem dX6_takeStep_72 : decode cX6_takeStep 72 = .ok (.ireturn, 1) := by decide +kernel
set_option maxRecDepth 20000 in
theorem ggX6_reduce_X7_indexOf : GoodIn wsX6_reduce wsX7_indexOf := goodIn_r _ [12, 13, 14, 81, 82, 83] (by decide +kernel) (by decide +kernel)
set_option maxRecDepth 20000 in
theorem gX6_reduce_X7_indexOf_n78 : GoodIn wsX6_reduce (wsX7_indexOf) := ggX6_reduce_X7_indexOf
set_option maxRecDepth 20000 in
theorem ggX6_reduce_X7_use : GoodIn wsX6_reduce wsX7_use := goodIn_r _ [17, 18, 14, 19, 20, 21, 10, 22, 81, 82, 83] (by decide +kernel) (by decide +kernel)
set_option maxRecDepth 20000 in
theorem gX6_reduce_X7_use_n81 : GoodIn wsX6_reduce (wsX7_use) := ggX6_reduce_X7_use
set_option maxRecDepth 20000 in
theorem ggX6_reduce_X3_run : GoodIn wsX6_reduce wsX3_run := goodIn_r _ [26, 27, 28, 29, 30, 31, 32, 33, 34, 24, 35, 36, 37, 38, 39, 40, 41, 42, 43, 44, 45, 46, 47, 48, 49, 50, 51, 52, 53, 54, 55, 56, 57, 58, 59, 60, 76, 77, 78, 79, 80, 84, 85, 86, 87, 88, 89] (by decide +kernel) (by decide +kernel)
set_option maxRecDepth 20000 in
theorem gX6_reduce_X3_run_n84 : GoodIn wsX6_reduce (wsX3_run) := ggX6_reduce_X3_run
set_option maxRecDepth 20000 in
theorem ggX6_reduce_X3_countRules : GoodIn wsX6_reduce wsX3_countRules := goodIn_r _ [63, 28, 31, 76, 77, 78, 79, 80, 84, 85, 86, 87, 88, 89] (by decide +kernel) (by decide +kernel)
set_option maxRecDepth 20000 in
theorem gX6_reduce_X3_countRules_n94 : GoodIn wsX6_reduce (wsX3_countRules) := ggX6_reduce_X3_countRules
set_option maxRecDepth 20000 in
theorem ggX6_reduce_X3_last : GoodIn wsX6_reduce wsX3_last := goodIn_r _ [66, 27, 28, 76, 77, 78, 79, 80] (by decide +kernel) (by decide +kernel)
set_option maxRecDepth 20000 in
theorem gX6_reduce_X3_last_n98 : GoodIn wsX6_reduce (wsX3_last) := ggX6_reduce_X3_last
set_option maxRecDepth 20000 in
theorem ggX6_reduce_X7_put : GoodIn wsX6_reduce wsX7_put := goodIn_r _ [69, 13, 19, 20, 21, 10, 22, 14, 18, 81, 82, 83] (by decide +kernel) (by decide +kernel)
set_option maxRecDepth 20000 in
theorem gX6_reduce_X7_put_n102 : GoodIn wsX6_reduce (wsX7_put) := ggX6_reduce_X7_put
theorem dX6_reduce_0 : decode cX6_reduce 0 = .ok (.aload_n 0, 1) := by decide +kernel
theorem dX6_reduce_1 : decode cX6_reduce 1 = .ok (.getfield 21, 3) := by decide +kernel
theorem dX6_reduce_4 : decode cX6_reduce 4 = .ok (.aload_n 0, 1) := by decide +kernel
theorem dX6_reduce_5 : decode cX6_reduce 5 = .ok (.getfield 27, 3) := by decide +kernel
theorem dX6_reduce_8 : decode cX6_reduce 8 = .ok (.invokevirtual 78, 3) := by decide +kernel
theorem dX6_reduce_11 : decode cX6_reduce 11 = .ok (.istore_n 2, 1) := by decide +kernel
theorem dX6_reduce_12 : decode cX6_reduce 12 = .ok (.iload_n 2, 1) := by decide +kernel
theorem dX6_reduce_13 : decode cX6_reduce 13 = .ok (.ifCond .lt 27, 3) := by decide +kernel
theorem dX6_reduce_16 : decode cX6_reduce 16 = .ok (.aload_n 0, 1) := by decide +kernel
theorem dX6_reduce_17 : decode cX6_reduce 17 = .ok (.aload_n 0, 1) := by decide +kernel
theorem dX6_reduce_18 : decode cX6_reduce 18 = .ok (.getfield 21, 3) := by decide +kernel
theorem dX6_reduce_21 : decode cX6_reduce 21 = .ok (.iload_n 2, 1) := by decide +kernel
theorem dX6_reduce_22 : decode cX6_reduce 22 = .ok (.invokevirtual 81, 3) := by decide +kernel
theorem dX6_reduce_25 : decode cX6_reduce 25 = .ok (.putfield 27, 3) := by decide +kernel
theorem dX6_reduce_28 : decode cX6_reduce 28 = .ok (.aload_n 0, 1) := by decide +kernel
theorem dX6_reduce_29 : decode cX6_reduce 29 = .ok (.dup, 1) := by decide +kernel
theorem dX6_reduce_30 : decode cX6_reduce 30 = .ok (.getfield 41, 3) := by decide +kernel
theorem dX6_reduce_33 : decode cX6_reduce 33 = .ok (.iconst 1, 1) := by decide +kernel
theorem dX6_reduce_34 : decode cX6_reduce 34 = .ok (.iadd, 1) := by decide +kernel
theorem dX6_reduce_35 : decode cX6_reduce 35 = .ok (.putfield 41, 3) := by decide +kernel
theorem dX6_reduce_38 : decode cX6_reduce 38 = .ok (.iconst 0, 1) := by decide +kernel
theorem dX6_reduce_39 : decode cX6_reduce 39 = .ok (.ireturn, 1) := by decide +kernel
theorem dX6_reduce_40 : decode cX6_reduce 40 = .ok (.aload_n 1, 1) := by decide +kernel
theorem dX6_reduce_41 : decode cX6_reduce 41 = .ok (.aload_n 0, 1) := by decide +kernel
theorem dX6_reduce_42 : decode cX6_reduce 42 = .ok (.getfield 12, 3) := by decide +kernel
theorem dX6_reduce_45 : decode cX6_reduce 45 = .ok (.aload_n 0, 1) := by decide +kernel
theorem dX6_reduce_46 : decode cX6_reduce 46 = .ok (.getfield 31, 3) := by decide +kernel
theorem dX6_reduce_49 : decode cX6_reduce 49 = .ok (.aload_n 0, 1) := by decide +kernel
theorem dX6_reduce_50 : decode cX6_reduce 50 = .ok (.getfield 27, 3) := by decide +kernel
theorem dX6_reduce_53 : decode cX6_reduce 53 = .ok (.invokevirtual 84, 3) := by decide +kernel
theorem dX6_reduce_56 : decode cX6_reduce 56 = .ok (.aload_n 1, 1) := by decide +kernel
theorem dX6_reduce_57 : decode cX6_reduce 57 = .ok (.getfield 90, 3) := by decide +kernel
theorem dX6_reduce_60 : decode cX6_reduce 60 = .ok (.iconst 1, 1) := by decide +kernel
theorem dX6_reduce_61 : decode cX6_reduce 61 = .ok (.if_icmp .ne 6, 3) := by decide +kernel
theorem dX6_reduce_64 : decode cX6_reduce 64 = .ok (.ldc 62, 2) := by decide +kernel
theorem dX6_reduce_66 : decode cX6_reduce 66 = .ok (.ireturn, 1) := by decide +kernel
theorem dX6_reduce_67 : decode cX6_reduce 67 = .ok (.aload_n 1, 1) := by decide +kernel
theorem dX6_reduce_68 : decode cX6_reduce 68 = .ok (.getfield 90, 3) := by decide +kernel
theorem dX6_reduce_71 : decode cX6_reduce 71 = .ok (.iconst 2, 1) := by decide +kernel
theorem dX6_reduce_72 : decode cX6_reduce 72 = .ok (.if_icmp .ne 6, 3) := by decide +kernel
theorem dX6_reduce_75 : decode cX6_reduce 75 = .ok (.ldc 93, 2) := by decide +kernel
theorem dX6_reduce_77 : decode cX6_reduce 77 = .ok (.ireturn, 1) := by decide +kernel
theorem dX6_reduce_78 : decode cX6_reduce 78 = .ok (.aload_n 1, 1) := by decide +kernel
theorem dX6_reduce_79 : decode cX6_reduce 79 = .ok (.aload_n 0, 1) := by decide +kernel
theorem dX6_reduce_80 : decode cX6_reduce 80 = .ok (.getfield 12, 3) := by decide +kernel
theorem dX6_reduce_83 : decode cX6_reduce 83 = .ok (.invokevirtual 94, 3) := by decide +kernel
theorem dX6_reduce_86 : decode cX6_reduce 86 = .ok (.aload_n 0, 1) := by decide +kernel
theorem dX6_reduce_87 : decode cX6_reduce 87 = .ok (.dup, 1) := by decide +kernel
theorem dX6_reduce_88 : decode cX6_reduce 88 = .ok (.getfield 44, 3) := by decide +kernel
theorem dX6_reduce_91 : decode cX6_reduce 91 = .ok (.aload_n 1, 1) := by decide +kernel
theorem dX6_reduce_92 : decode cX6_reduce 92 = .ok (.getfield 97, 3) := by decide +kernel
theorem dX6_reduce_95 : decode cX6_reduce 95 = .ok (.iadd, 1) := by decide +kernel
theorem dX6_reduce_96 : decode cX6_reduce 96 = .ok (.putfield 44, 3) := by decide +kernel
theorem dX6_reduce_99 : decode cX6_reduce 99 = .ok (.aload_n 0, 1) := by decide +kernel
theorem dX6_reduce_100 : decode cX6_reduce 100 = .ok (.getfield 21, 3) := by decide +kernel
theorem dX6_reduce_103 : decode cX6_reduce 103 = .ok (.aload_n 0, 1) := by decide +kernel
theorem dX6_reduce_104 : decode cX6_reduce 104 = .ok (.getfield 27, 3) := by decide +kernel
theorem dX6_reduce_107 : decode cX6_reduce 107 = .ok (.aload_n 1, 1) := by decide +kernel
theorem dX6_reduce_108 : decode cX6_reduce 108 = .ok (.invokevirtual 98, 3) := by decide +kernel
theorem dX6_reduce_111 : decode cX6_reduce 111 = .ok (.invokevirtual 102, 3) := by decide +kernel
theorem dX6_reduce_114 : decode cX6_reduce 114 = .ok (.aload_n 0, 1) := by decide +kernel
theorem dX6_reduce_115 : decode cX6_reduce 115 = .ok (.aload_n 1, 1) := by decide +kernel
theorem dX6_reduce_116 : decode cX6_reduce 116 = .ok (.invokevirtual 98, 3) := by decide +kernel
theorem dX6_reduce_119 : decode cX6_reduce 119 = .ok (.putfield 27, 3) := by decide +kernel
theorem dX6_reduce_122 : decode cX6_reduce 122 = .ok (.aload_n 1, 1) := by decide +kernel
theorem dX6_reduce_123 : decode cX6_reduce 123 = .ok (.getfield 97, 3) := by decide +kernel
theorem dX6_reduce_126 : decode cX6_reduce 126 = .ok (.ireturn, 1) := by decide +kernel
theorem dX7_init_0 : decode cX7_init 0 = .ok (.aload_n 0, 1) := by decide +kernel
theorem dX7_init_1 : decode cX7_init 1 = .ok (.invokespecial 3, 3) := by decide +kernel
theorem dX7_init_4 : decode cX7_init 4 = .ok (.aload_n 0, 1) := by decide +kernel
theorem dX7_init_5 : decode cX7_init 5 = .ok (.bipush 8, 2) := by decide +kernel
theorem dX7_init_7 : decode cX7_init 7 = .ok (.newarray .int, 2) := by decide +kernel
theorem dX7_init_9 : decode cX7_init 9 = .ok (.putfield 9, 3) := by decide +kernel
theorem dX7_init_12 : decode cX7_init 12 = .ok (.aload_n 0, 1) := by decide +kernel
theorem dX7_init_13 : decode cX7_init 13 = .ok (.bipush 8, 2) := by decide +kernel
theorem dX7_init_15 : decode cX7_init 15 = .ok (.newarray .int, 2) := by decide +kernel
theorem dX7_init_17 : decode cX7_init 17 = .ok (.putfield 15, 3) := by decide +kernel
theorem dX7_init_20 : decode cX7_init 20 = .ok (.return_, 1) := by decide +kernel
theorem dX7_takeOver_0 : decode cX7_takeOver 0 = .ok (.aload_n 1, 1) := by decide +kernel
theorem dX7_takeOver_1 : decode cX7_takeOver 1 = .ok (.getfield 9, 3) := by decide +kernel
theorem dX7_takeOver_4 : decode cX7_takeOver 4 = .ok (.iconst 0, 1) := by decide +kernel
theorem dX7_takeOver_5 : decode cX7_takeOver 5 = .ok (.aload_n 0, 1) := by decide +kernel
theorem dX7_takeOver_6 : decode cX7_takeOver 6 = .ok (.getfield 9, 3) := by decide +kernel
theorem dX7_takeOver_9 : decode cX7_takeOver 9 = .ok (.iconst 0, 1) := by decide +kernel
theorem dX7_takeOver_10 : decode cX7_takeOver 10 = .ok (.bipush 8, 2) := by decide +kernel
theorem dX7_takeOver_12 : decode cX7_takeOver 12 = .ok (.invokestatic 18, 3) := by decide +kernel
theorem dX7_takeOver_15 : decode cX7_takeOver 15 = .ok (.aload_n 1, 1) := by decide +kernel
theorem dX7_takeOver_16 : decode cX7_takeOver 16 = .ok (.getfield 15, 3) := by decide +kernel
theorem dX7_takeOver_19 : decode cX7_takeOver 19 = .ok (.iconst 0, 1) := by decide +kernel
theorem dX7_takeOver_20 : decode cX7_takeOver 20 = .ok (.aload_n 0, 1) := by decide +kernel
theorem dX7_takeOver_21 : decode cX7_takeOver 21 = .ok (.getfield 15, 3) := by decide +kernel
theorem dX7_takeOver_24 : decode cX7_takeOver 24 = .ok (.iconst 0, 1) := by decide +kernel
theorem dX7_takeOver_25 : decode cX7_takeOver 25 = .ok (.bipush 8, 2) := by decide +kernel
theorem dX7_takeOver_27 : decode cX7_takeOver 27 = .ok (.invokestatic 18, 3) := by decide +kernel
theorem dX7_takeOver_30 : decode cX7_takeOver 30 = .ok (.aload_n 0, 1) := by decide +kernel
theorem dX7_takeOver_31 : decode cX7_takeOver 31 = .ok (.aload_n 1, 1) := by decide +kernel
theorem dX7_takeOver_32 : decode cX7_takeOver 32 = .ok (.getfield 24, 3) := by decide +kernel
theorem dX7_takeOver_35 : decode cX7_takeOver 35 = .ok (.putfield 24, 3) := by decide +kernel
theorem dX7_takeOver_38 : decode cX7_takeOver 38 = .ok (.return_, 1) := by decide +kernel
theorem dX7_indexOf_0 : decode cX7_indexOf 0 = .ok (.iconst 0, 1) := by decide +kernel
theorem dX7_indexOf_1 : decode cX7_indexOf 1 = .ok (.istore_n 2, 1) := by decide +kernel
theorem dX7_indexOf_2 : decode cX7_indexOf 2 = .ok (.iload_n 2, 1) := by decide +kernel
theorem dX7_indexOf_3 : decode cX7_indexOf 3 = .ok (.aload_n 0, 1) := by decide +kernel
theorem dX7_indexOf_4 : decode cX7_indexOf 4 = .ok (.getfield 24, 3) := by decide +kernel
theorem dX7_indexOf_7 : decode cX7_indexOf 7 = .ok (.if_icmp .ge 21, 3) := by decide +kernel
theorem dX7_indexOf_10 : decode cX7_indexOf 10 = .ok (.aload_n 0, 1) := by decide +kernel
theorem dX7_indexOf_11 : decode cX7_indexOf 11 = .ok (.getfield 9, 3) := by decide +kernel
theorem dX7_indexOf_14 : decode cX7_indexOf 14 = .ok (.iload_n 2, 1) := by decide +kernel
theorem dX7_indexOf_15 : decode cX7_indexOf 15 = .ok (.iaload, 1) := by decide +kernel
theorem dX7_indexOf_16 : decode cX7_indexOf 16 = .ok (.iload_n 1, 1) := by decide +kernel
theorem dX7_indexOf_17 : decode cX7_indexOf 17 = .ok (.if_icmp .ne 5, 3) := by decide +kernel
theorem dX7_indexOf_20 : decode cX7_indexOf 20 = .ok (.iload_n 2, 1) := by decide +kernel
theorem dX7_indexOf_21 : decode cX7_indexOf 21 = .ok (.ireturn, 1) := by decide +kernel
theorem dX7_indexOf_22 : decode cX7_indexOf 22 = .ok (.iinc 2 1, 3) := by decide +kernel
theorem dX7_indexOf_25 : decode cX7_indexOf 25 = .ok (.goto (-23), 3) := by decide +kernel
theorem dX7_indexOf_28 : decode cX7_indexOf 28 = .ok (.iconst (-1), 1) := by decide +kernel
theorem dX7_indexOf_29 : decode cX7_indexOf 29 = .ok (.ireturn, 1) := by decide +kernel
set_option maxRecDepth 20000 in
theorem ggX7_put_X7_setAhead : GoodIn wsX7_put wsX7_setAhead := goodIn_r _ [6, 7, 8, 9, 10, 11] (by decide +kernel) (by decide +kernel)
set_option maxRecDepth 20000 in
theorem gX7_put_X7_setAhead : GoodIn wsX7_put (wsV RX7 28 RX7 yX7_setAhead wsX7_setAhead) := goodIn_app (goodIn_of _ (by decide +kernel)) ggX7_put_X7_setAhead
theorem dX7_put_0 : decode cX7_put 0 = .ok (.aload_n 0, 1) := by decide +kernel
theorem dX7_put_1 : decode cX7_put 1 = .ok (.getfield 24, 3) := by decide +kernel
theorem dX7_put_4 : decode cX7_put 4 = .ok (.bipush 8, 2) := by decide +kernel
theorem dX7_put_6 : decode cX7_put 6 = .ok (.if_icmp .ge 13, 3) := by decide +kernel
theorem dX7_put_9 : decode cX7_put 9 = .ok (.aload_n 0, 1) := by decide +kernel
theorem dX7_put_10 : decode cX7_put 10 = .ok (.dup, 1) := by decide +kernel
theorem dX7_put_11 : decode cX7_put 11 = .ok (.getfield 24, 3) := by decide +kernel
theorem dX7_put_14 : decode cX7_put 14 = .ok (.iconst 1, 1) := by decide +kernel
theorem dX7_put_15 : decode cX7_put 15 = .ok (.iadd, 1) := by decide +kernel
theorem dX7_put_16 : decode cX7_put 16 = .ok (.putfield 24, 3) := by decide +kernel
theorem dX7_put_19 : decode cX7_put 19 = .ok (.aload_n 0, 1) := by decide +kernel
theorem dX7_put_20 : decode cX7_put 20 = .ok (.aload_n 0, 1) := by decide +kernel
theorem dX7_put_21 : decode cX7_put 21 = .ok (.getfield 24, 3) := by decide +kernel
theorem dX7_put_24 : decode cX7_put 24 = .ok (.iconst 1, 1) := by decide +kernel
theorem dX7_put_25 : decode cX7_put 25 = .ok (.isub, 1) := by decide +kernel
theorem dX7_put_26 : decode cX7_put 26 = .ok (.iload_n 1, 1) := by decide +kernel
theorem dX7_put_27 : decode cX7_put 27 = .ok (.iload_n 2, 1) := by decide +kernel
theorem dX7_put_28 : decode cX7_put 28 = .ok (.invokevirtual 28, 3) := by decide +kernel
theorem dX7_put_31 : decode cX7_put 31 = .ok (.return_, 1) := by decide +kernel
set_option maxRecDepth 20000 in
theorem ggX7_use_X7_setAhead : GoodIn wsX7_use wsX7_setAhead := goodIn_r _ [7, 2, 1, 8, 9, 10] (by decide +kernel) (by decide +kernel)
set_option maxRecDepth 20000 in
theorem gX7_use_X7_setAhead : GoodIn wsX7_use (wsV RX7 28 RX7 yX7_setAhead wsX7_setAhead) := goodIn_app (goodIn_of _ (by decide +kernel)) ggX7_use_X7_setAhead
theorem dX7_use_0 : decode cX7_use 0 = .ok (.aload_n 0, 1) := by decide +kernel
theorem dX7_use_1 : decode cX7_use 1 = .ok (.getfield 15, 3) := by decide +kernel
theorem dX7_use_4 : decode cX7_use 4 = .ok (.iload_n 1, 1) := by decide +kernel
theorem dX7_use_5 : decode cX7_use 5 = .ok (.iaload, 1) := by decide +kernel
theorem dX7_use_6 : decode cX7_use 6 = .ok (.istore_n 2, 1) := by decide +kernel
theorem dX7_use_7 : decode cX7_use 7 = .ok (.aload_n 0, 1) := by decide +kernel
theorem dX7_use_8 : decode cX7_use 8 = .ok (.iload_n 1, 1) := by decide +kernel
theorem dX7_use_9 : decode cX7_use 9 = .ok (.aload_n 0, 1) := by decide +kernel
theorem dX7_use_10 : decode cX7_use 10 = .ok (.getfield 9, 3) := by decide +kernel
theorem dX7_use_13 : decode cX7_use 13 = .ok (.iload_n 1, 1) := by decide +kernel
theorem dX7_use_14 : decode cX7_use 14 = .ok (.iaload, 1) := by decide +kernel
theorem dX7_use_15 : decode cX7_use 15 = .ok (.iload_n 2, 1) := by decide +kernel
theorem dX7_use_16 : decode cX7_use 16 = .ok (.invokevirtual 28, 3) := by decide +kernel
theorem dX7_use_19 : decode cX7_use 19 = .ok (.iload_n 2, 1) := by decide +kernel
theorem dX7_use_20 : decode cX7_use 20 = .ok (.ireturn, 1) := by decide +kernel
theorem dX7_setAhead_0 : decode cX7_setAhead 0 = .ok (.iload_n 1, 1) := by decide +kernel
theorem dX7_setAhead_1 : decode cX7_setAhead 1 = .ok (.istore 4, 2) := by decide +kernel
theorem dX7_setAhead_3 : decode cX7_setAhead 3 = .ok (.iload 4, 2) := by decide +kernel
theorem dX7_setAhead_5 : decode cX7_setAhead 5 = .ok (.ifCond .le 41, 3) := by decide +kernel
theorem dX7_setAhead_8 : decode cX7_setAhead 8 = .ok (.aload_n 0, 1) := by decide +kernel
theorem dX7_setAhead_9 : decode cX7_setAhead 9 = .ok (.getfield 9, 3) := by decide +kernel
theorem dX7_setAhead_12 : decode cX7_setAhead 12 = .ok (.iload 4, 2) := by decide +kernel
theorem dX7_setAhead_14 : decode cX7_setAhead 14 = .ok (.aload_n 0, 1) := by decide +kernel
theorem dX7_setAhead_15 : decode cX7_setAhead 15 = .ok (.getfield 9, 3) := by decide +kernel
theorem dX7_setAhead_18 : decode cX7_setAhead 18 = .ok (.iload 4, 2) := by decide +kernel
theorem dX7_setAhead_20 : decode cX7_setAhead 20 = .ok (.iconst 1, 1) := by decide +kernel
theorem dX7_setAhead_21 : decode cX7_setAhead 21 = .ok (.isub, 1) := by decide +kernel
theorem dX7_setAhead_22 : decode cX7_setAhead 22 = .ok (.iaload, 1) := by decide +kernel
theorem dX7_setAhead_23 : decode cX7_setAhead 23 = .ok (.iastore, 1) := by decide +kernel
theorem dX7_setAhead_24 : decode cX7_setAhead 24 = .ok (.aload_n 0, 1) := by decide +kernel
theorem dX7_setAhead_25 : decode cX7_setAhead 25 = .ok (.getfield 15, 3) := by decide +kernel
theorem dX7_setAhead_28 : decode cX7_setAhead 28 = .ok (.iload 4, 2) := by decide +kernel
theorem dX7_setAhead_30 : decode cX7_setAhead 30 = .ok (.aload_n 0, 1) := by decide +kernel
theorem dX7_setAhead_31 : decode cX7_setAhead 31 = .ok (.getfield 15, 3) := by decide +kernel
theorem dX7_setAhead_34 : decode cX7_setAhead 34 = .ok (.iload 4, 2) := by decide +kernel
theorem dX7_setAhead_36 : decode cX7_setAhead 36 = .ok (.iconst 1, 1) := by decide +kernel
theorem dX7_setAhead_37 : decode cX7_setAhead 37 = .ok (.isub, 1) := by decide +kernel
theorem dX7_setAhead_38 : decode cX7_setAhead 38 = .ok (.iaload, 1) := by decide +kernel
theorem dX7_setAhead_39 : decode cX7_setAhead 39 = .ok (.iastore, 1) := by decide +kernel
theorem dX7_setAhead_40 : decode cX7_setAhead 40 = .ok (.iinc 4 (-1), 3) := by decide +kernel
theorem dX7_setAhead_43 : decode cX7_setAhead 43 = .ok (.goto (-40), 3) := by decide +kernel
theorem dX7_setAhead_46 : decode cX7_setAhead 46 = .ok (.aload_n 0, 1) := by decide +kernel
theorem dX7_setAhead_47 : decode cX7_setAhead 47 = .ok (.getfield 9, 3) := by decide +kernel
theorem dX7_setAhead_50 : decode cX7_setAhead 50 = .ok (.iconst 0, 1) := by decide +kernel
theorem dX7_setAhead_51 : decode cX7_setAhead 51 = .ok (.iload_n 2, 1) := by decide +kernel
theorem dX7_setAhead_52 : decode cX7_setAhead 52 = .ok (.iastore, 1) := by decide +kernel
theorem dX7_setAhead_53 : decode cX7_setAhead 53 = .ok (.aload_n 0, 1) := by decide +kernel
theorem dX7_setAhead_54 : decode cX7_setAhead 54 = .ok (.getfield 15, 3) := by decide +kernel
theorem dX7_setAhead_57 : decode cX7_setAhead 57 = .ok (.iconst 0, 1) := by decide +kernel
theorem dX7_setAhead_58 : decode cX7_setAhead 58 = .ok (.iload_n 3, 1) := by decide +kernel
theorem dX7_setAhead_59 : decode cX7_setAhead 59 = .ok (.iastore, 1) := by decide +kernel
theorem dX7_setAhead_60 : decode cX7_setAhead 60 = .ok (.return_, 1) := by decide +kernel
theorem dX8_init_0 : decode cX8_init 0 = .ok (.aload_n 0, 1) := by decide +kernel
theorem dX8_init_1 : decode cX8_init 1 = .ok (.invokespecial 3, 3) := by decide +kernel
theorem dX8_init_4 : decode cX8_init 4 = .ok (.aload_n 0, 1) := by decide +kernel
theorem dX8_init_5 : decode cX8_init 5 = .ok (.bipush 80, 2) := by decide +kernel
theorem dX8_init_7 : decode cX8_init 7 = .ok (.newarray .char, 2) := by decide +kernel
theorem dX8_init_9 : decode cX8_init 9 = .ok (.putfield 9, 3) := by decide +kernel
theorem dX8_init_12 : decode cX8_init 12 = .ok (.return_, 1) := by decide +kernel
theorem dX8_isFull_0 : decode cX8_isFull 0 = .ok (.aload_n 0, 1) := by decide +kernel
theorem dX8_isFull_1 : decode cX8_isFull 1 = .ok (.getfield 15, 3) := by decide +kernel
theorem dX8_isFull_4 : decode cX8_isFull 4 = .ok (.bipush 80, 2) := by decide +kernel
theorem dX8_isFull_6 : decode cX8_isFull 6 = .ok (.if_icmp .lt 7, 3) := by decide +kernel
theorem dX8_isFull_9 : decode cX8_isFull 9 = .ok (.iconst 1, 1) := by decide +kernel
theorem dX8_isFull_10 : decode cX8_isFull 10 = .ok (.goto 4, 3) := by decide +kernel
theorem dX8_isFull_13 : decode cX8_isFull 13 = .ok (.iconst 0, 1) := by decide +kernel
theorem dX8_isFull_14 : decode cX8_isFull 14 = .ok (.ireturn, 1) := by decide +kernel
set_option maxRecDepth 20000 in
theorem ggX8_append_X8_isFull : GoodIn wsX8_append wsX8_isFull := goodIn_r _ [7, 2, 8, 9, 10, 11, 12, 13, 14] (by decide +kernel) (by decide +kernel)
set_option maxRecDepth 20000 in
theorem gX8_append_X8_isFull : GoodIn wsX8_append (wsV RX8 19 RX8 yX8_isFull wsX8_isFull) := goodIn_app (goodIn_of _ (by decide +kernel)) ggX8_append_X8_isFull
theorem dX8_append_0 : decode cX8_append 0 = .ok (.aload_n 0, 1) := by decide +kernel
theorem dX8_append_1 : decode cX8_append 1 = .ok (.invokevirtual 19, 3) := by decide +kernel
theorem dX8_append_4 : decode cX8_append 4 = .ok (.ifCond .ne 24, 3) := by decide +kernel
theorem dX8_append_7 : decode cX8_append 7 = .ok (.aload_n 0, 1) := by decide +kernel
theorem dX8_append_8 : decode cX8_append 8 = .ok (.getfield 9, 3) := by decide +kernel
theorem dX8_append_11 : decode cX8_append 11 = .ok (.aload_n 0, 1) := by decide +kernel
theorem dX8_append_12 : decode cX8_append 12 = .ok (.getfield 15, 3) := by decide +kernel
theorem dX8_append_15 : decode cX8_append 15 = .ok (.iload_n 1, 1) := by decide +kernel
theorem dX8_append_16 : decode cX8_append 16 = .ok (.i2c, 1) := by decide +kernel
theorem dX8_append_17 : decode cX8_append 17 = .ok (.castore, 1) := by decide +kernel
theorem dX8_append_18 : decode cX8_append 18 = .ok (.aload_n 0, 1) := by decide +kernel
theorem dX8_append_19 : decode cX8_append 19 = .ok (.dup, 1) := by decide +kernel
theorem dX8_append_20 : decode cX8_append 20 = .ok (.getfield 15, 3) := by decide +kernel
theorem dX8_append_23 : decode cX8_append 23 = .ok (.iconst 1, 1) := by decide +kernel
theorem dX8_append_24 : decode cX8_append 24 = .ok (.iadd, 1) := by decide +kernel
theorem dX8_append_25 : decode cX8_append 25 = .ok (.putfield 15, 3) := by decide +kernel
theorem dX8_append_28 : decode cX8_append 28 = .ok (.return_, 1) := by decide +kernel
set_option maxRecDepth 20000 in
theorem ggX8_readCommand_X8_here : GoodIn wsX8_readCommand wsX8_here := goodIn_r _ [9, 1, 10, 11, 28, 29, 30, 31, 32, 33, 34] (by decide +kernel) (by decide +kernel)
set_option maxRecDepth 20000 in
theorem gX8_readCommand_X8_here : GoodIn wsX8_readCommand (wsV RX8 26 RX8 yX8_here wsX8_here) := goodIn_app (goodIn_of _ (by decide +kernel)) ggX8_readCommand_X8_here
set_option maxRecDepth 20000 in
theorem ggX8_readCommand_X8_readWord : GoodIn wsX8_readCommand wsX8_readWord := goodIn_r _ [15, 1, 10, 5, 6, 7, 8, 9, 11, 16, 17, 18, 28, 29, 30, 31, 32, 33, 34] (by decide +kernel) (by decide +kernel)
set_option maxRecDepth 20000 in
theorem gX8_readCommand_X8_readWord : GoodIn wsX8_readCommand (wsV RX8 33 RX8 yX8_readWord wsX8_readWord) := goodIn_app (goodIn_of _ (by decide +kernel)) ggX8_readCommand_X8_readWord
set_option maxRecDepth 20000 in
theorem ggX8_readCommand_X8_passes : GoodIn wsX8_readCommand wsX8_passes := goodIn_r _ [22, 1, 5, 6, 7, 8, 9, 10, 11, 28, 29, 30, 31, 32, 33, 34] (by decide +kernel) (by decide +kernel)
set_option maxRecDepth 20000 in
theorem gX8_readCommand_X8_passes : GoodIn wsX8_readCommand (wsV RX8 39 RX8 yX8_passes wsX8_passes) := goodIn_app (goodIn_of _ (by decide +kernel)) ggX8_readCommand_X8_passes
set_option maxRecDepth 20000 in
theorem ggX8_readCommand_X8_readDigit : GoodIn wsX8_readCommand wsX8_readDigit := goodIn_r _ [26, 27, 1, 5, 6, 7, 8, 9, 10, 11, 28, 29, 30, 31, 32, 33, 34] (by decide +kernel) (by decide +kernel)
set_option maxRecDepth 20000 in
theorem gX8_readCommand_X8_readDigit : GoodIn wsX8_readCommand (wsV RX8 46 RX8 yX8_readDigit wsX8_readDigit) := goodIn_app (goodIn_of _ (by decide +kernel)) ggX8_readCommand_X8_readDigit
theorem dX8_readCommand_0 : decode cX8_readCommand 0 = .ok (.aload_n 0, 1) := by decide +kernel
theorem dX8_readCommand_1 : decode cX8_readCommand 1 = .ok (.iload_n 1, 1) := by decide +kernel
theorem dX8_readCommand_2 : decode cX8_readCommand 2 = .ok (.putfield 23, 3) := by decide +kernel
theorem dX8_readCommand_5 : decode cX8_readCommand 5 = .ok (.aload_n 0, 1) := by decide +kernel
theorem dX8_readCommand_6 : decode cX8_readCommand 6 = .ok (.aload_n 0, 1) := by decide +kernel
theorem dX8_readCommand_7 : decode cX8_readCommand 7 = .ok (.invokevirtual 26, 3) := by decide +kernel
theorem dX8_readCommand_10 : decode cX8_readCommand 10 = .ok (.putfield 30, 3) := by decide +kernel
theorem dX8_readCommand_13 : decode cX8_readCommand 13 = .ok (.aload_n 0, 1) := by decide +kernel
theorem dX8_readCommand_14 : decode cX8_readCommand 14 = .ok (.getfield 30, 3) := by decide +kernel
theorem dX8_readCommand_17 : decode cX8_readCommand 17 = .ok (.lookupswitch 177 #[(43, 59), (45, 128), (61, 103), (110, 160), (115, 160), (119, 128)], 59) := by decide +kernel
theorem dX8_readCommand_76 : decode cX8_readCommand 76 = .ok (.aload_n 0, 1) := by decide +kernel
theorem dX8_readCommand_77 : decode cX8_readCommand 77 = .ok (.dup, 1) := by decide +kernel
theorem dX8_readCommand_78 : decode cX8_readCommand 78 = .ok (.getfield 23, 3) := by decide +kernel
theorem dX8_readCommand_81 : decode cX8_readCommand 81 = .ok (.iconst 1, 1) := by decide +kernel
theorem dX8_readCommand_82 : decode cX8_readCommand 82 = .ok (.iadd, 1) := by decide +kernel
theorem dX8_readCommand_83 : decode cX8_readCommand 83 = .ok (.putfield 23, 3) := by decide +kernel
theorem dX8_readCommand_86 : decode cX8_readCommand 86 = .ok (.aload_n 0, 1) := by decide +kernel
theorem dX8_readCommand_87 : decode cX8_readCommand 87 = .ok (.aload_n 0, 1) := by decide +kernel
theorem dX8_readCommand_88 : decode cX8_readCommand 88 = .ok (.invokevirtual 33, 3) := by decide +kernel
theorem dX8_readCommand_91 : decode cX8_readCommand 91 = .ok (.putfield 36, 3) := by decide +kernel
theorem dX8_readCommand_94 : decode cX8_readCommand 94 = .ok (.aload_n 0, 1) := by decide +kernel
theorem dX8_readCommand_95 : decode cX8_readCommand 95 = .ok (.bipush 62, 2) := by decide +kernel
theorem dX8_readCommand_97 : decode cX8_readCommand 97 = .ok (.invokevirtual 39, 3) := by decide +kernel
theorem dX8_readCommand_100 : decode cX8_readCommand 100 = .ok (.ifCond .ne 5, 3) := by decide +kernel
theorem dX8_readCommand_103 : decode cX8_readCommand 103 = .ok (.iconst 0, 1) := by decide +kernel
theorem dX8_readCommand_104 : decode cX8_readCommand 104 = .ok (.ireturn, 1) := by decide +kernel
theorem dX8_readCommand_105 : decode cX8_readCommand 105 = .ok (.aload_n 0, 1) := by decide +kernel
theorem dX8_readCommand_106 : decode cX8_readCommand 106 = .ok (.aload_n 0, 1) := by decide +kernel
theorem dX8_readCommand_107 : decode cX8_readCommand 107 = .ok (.invokevirtual 33, 3) := by decide +kernel
theorem dX8_readCommand_110 : decode cX8_readCommand 110 = .ok (.putfield 43, 3) := by decide +kernel
theorem dX8_readCommand_113 : decode cX8_readCommand 113 = .ok (.aload_n 0, 1) := by decide +kernel
theorem dX8_readCommand_114 : decode cX8_readCommand 114 = .ok (.bipush 59, 2) := by decide +kernel
theorem dX8_readCommand_116 : decode cX8_readCommand 116 = .ok (.invokevirtual 39, 3) := by decide +kernel
theorem dX8_readCommand_119 : decode cX8_readCommand 119 = .ok (.ireturn, 1) := by decide +kernel
theorem dX8_readCommand_120 : decode cX8_readCommand 120 = .ok (.aload_n 0, 1) := by decide +kernel
theorem dX8_readCommand_121 : decode cX8_readCommand 121 = .ok (.dup, 1) := by decide +kernel
theorem dX8_readCommand_122 : decode cX8_readCommand 122 = .ok (.getfield 23, 3) := by decide +kernel
theorem dX8_readCommand_125 : decode cX8_readCommand 125 = .ok (.iconst 1, 1) := by decide +kernel
theorem dX8_readCommand_126 : decode cX8_readCommand 126 = .ok (.iadd, 1) := by decide +kernel
theorem dX8_readCommand_127 : decode cX8_readCommand 127 = .ok (.putfield 23, 3) := by decide +kernel
theorem dX8_readCommand_130 : decode cX8_readCommand 130 = .ok (.aload_n 0, 1) := by decide +kernel
theorem dX8_readCommand_131 : decode cX8_readCommand 131 = .ok (.aload_n 0, 1) := by decide +kernel
theorem dX8_readCommand_132 : decode cX8_readCommand 132 = .ok (.invokevirtual 33, 3) := by decide +kernel
theorem dX8_readCommand_135 : decode cX8_readCommand 135 = .ok (.putfield 36, 3) := by decide +kernel
theorem dX8_readCommand_138 : decode cX8_readCommand 138 = .ok (.aload_n 0, 1) := by decide +kernel
theorem dX8_readCommand_139 : decode cX8_readCommand 139 = .ok (.bipush 59, 2) := by decide +kernel
theorem dX8_readCommand_141 : decode cX8_readCommand 141 = .ok (.invokevirtual 39, 3) := by decide +kernel
theorem dX8_readCommand_144 : decode cX8_readCommand 144 = .ok (.ireturn, 1) := by decide +kernel
theorem dX8_readCommand_145 : decode cX8_readCommand 145 = .ok (.aload_n 0, 1) := by decide +kernel
theorem dX8_readCommand_146 : decode cX8_readCommand 146 = .ok (.dup, 1) := by decide +kernel
theorem dX8_readCommand_147 : decode cX8_readCommand 147 = .ok (.getfield 23, 3) := by decide +kernel
theorem dX8_readCommand_150 : decode cX8_readCommand 150 = .ok (.iconst 1, 1) := by decide +kernel
theorem dX8_readCommand_151 : decode cX8_readCommand 151 = .ok (.iadd, 1) := by decide +kernel
theorem dX8_readCommand_152 : decode cX8_readCommand 152 = .ok (.putfield 23, 3) := by decide +kernel
theorem dX8_readCommand_155 : decode cX8_readCommand 155 = .ok (.aload_n 0, 1) := by decide +kernel
theorem dX8_readCommand_156 : decode cX8_readCommand 156 = .ok (.invokevirtual 46, 3) := by decide +kernel
theorem dX8_readCommand_159 : decode cX8_readCommand 159 = .ok (.ifCond .eq 16, 3) := by decide +kernel
theorem dX8_readCommand_162 : decode cX8_readCommand 162 = .ok (.aload_n 0, 1) := by decide +kernel
theorem dX8_readCommand_163 : decode cX8_readCommand 163 = .ok (.bipush 59, 2) := by decide +kernel
theorem dX8_readCommand_165 : decode cX8_readCommand 165 = .ok (.invokevirtual 39, 3) := by decide +kernel
theorem dX8_readCommand_168 : decode cX8_readCommand 168 = .ok (.ifCond .eq 7, 3) := by decide +kernel
theorem dX8_readCommand_171 : decode cX8_readCommand 171 = .ok (.iconst 1, 1) := by decide +kernel
theorem dX8_readCommand_172 : decode cX8_readCommand 172 = .ok (.goto 4, 3) := by decide +kernel
theorem dX8_readCommand_175 : decode cX8_readCommand 175 = .ok (.iconst 0, 1) := by decide +kernel
theorem dX8_readCommand_176 : decode cX8_readCommand 176 = .ok (.ireturn, 1) := by decide +kernel
theorem dX8_readCommand_177 : decode cX8_readCommand 177 = .ok (.aload_n 0, 1) := by decide +kernel
theorem dX8_readCommand_178 : decode cX8_readCommand 178 = .ok (.dup, 1) := by decide +kernel
theorem dX8_readCommand_179 : decode cX8_readCommand 179 = .ok (.getfield 23, 3) := by decide +kernel
theorem dX8_readCommand_182 : decode cX8_readCommand 182 = .ok (.iconst 1, 1) := by decide +kernel
theorem dX8_readCommand_183 : decode cX8_readCommand 183 = .ok (.iadd, 1) := by decide +kernel
theorem dX8_readCommand_184 : decode cX8_readCommand 184 = .ok (.putfield 23, 3) := by decide +kernel
theorem dX8_readCommand_187 : decode cX8_readCommand 187 = .ok (.aload_n 0, 1) := by decide +kernel
theorem dX8_readCommand_188 : decode cX8_readCommand 188 = .ok (.bipush 59, 2) := by decide +kernel
theorem dX8_readCommand_190 : decode cX8_readCommand 190 = .ok (.invokevirtual 39, 3) := by decide +kernel
theorem dX8_readCommand_193 : decode cX8_readCommand 193 = .ok (.ireturn, 1) := by decide +kernel
theorem dX8_readCommand_194 : decode cX8_readCommand 194 = .ok (.iconst 0, 1) := by decide +kernel
theorem dX8_readCommand_195 : decode cX8_readCommand 195 = .ok (.ireturn, 1) := by decide +kernel
theorem dX8_here_0 : decode cX8_here 0 = .ok (.aload_n 0, 1) := by decide +kernel
theorem dX8_here_1 : decode cX8_here 1 = .ok (.getfield 23, 3) := by decide +kernel
theorem dX8_here_4 : decode cX8_here 4 = .ok (.ifCond .lt 26, 3) := by decide +kernel
theorem dX8_here_7 : decode cX8_here 7 = .ok (.aload_n 0, 1) := by decide +kernel
theorem dX8_here_8 : decode cX8_here 8 = .ok (.getfield 23, 3) := by decide +kernel
theorem dX8_here_11 : decode cX8_here 11 = .ok (.aload_n 0, 1) := by decide +kernel
theorem dX8_here_12 : decode cX8_here 12 = .ok (.getfield 15, 3) := by decide +kernel
theorem dX8_here_15 : decode cX8_here 15 = .ok (.if_icmp .ge 15, 3) := by decide +kernel
theorem dX8_here_18 : decode cX8_here 18 = .ok (.aload_n 0, 1) := by decide +kernel
theorem dX8_here_19 : decode cX8_here 19 = .ok (.getfield 9, 3) := by decide +kernel
theorem dX8_here_22 : decode cX8_here 22 = .ok (.aload_n 0, 1) := by decide +kernel
theorem dX8_here_23 : decode cX8_here 23 = .ok (.getfield 23, 3) := by decide +kernel
theorem dX8_here_26 : decode cX8_here 26 = .ok (.caload, 1) := by decide +kernel
theorem dX8_here_27 : decode cX8_here 27 = .ok (.goto 4, 3) := by decide +kernel
theorem dX8_here_30 : decode cX8_here 30 = .ok (.iconst (-1), 1) := by decide +kernel
theorem dX8_here_31 : decode cX8_here 31 = .ok (.ireturn, 1) := by decide +kernel
set_option maxRecDepth 20000 in
theorem ggX8_passes_X8_here : GoodIn wsX8_passes wsX8_here := goodIn_r _ [6, 1, 7, 8, 9, 10, 11, 12, 13, 14, 15] (by decide +kernel) (by decide +kernel)
set_option maxRecDepth 20000 in
theorem gX8_passes_X8_here : GoodIn wsX8_passes (wsV RX8 26 RX8 yX8_here wsX8_here) := goodIn_app (goodIn_of _ (by decide +kernel)) ggX8_passes_X8_here
theorem dX8_passes_0 : decode cX8_passes 0 = .ok (.aload_n 0, 1) := by decide +kernel
theorem dX8_passes_1 : decode cX8_passes 1 = .ok (.invokevirtual 26, 3) := by decide +kernel
theorem dX8_passes_4 : decode cX8_passes 4 = .ok (.iload_n 1, 1) := by decide +kernel
theorem dX8_passes_5 : decode cX8_passes 5 = .ok (.if_icmp .eq 5, 3) := by decide +kernel
theorem dX8_passes_8 : decode cX8_passes 8 = .ok (.iconst 0, 1) := by decide +kernel
theorem dX8_passes_9 : decode cX8_passes 9 = .ok (.ireturn, 1) := by decide +kernel
theorem dX8_passes_10 : decode cX8_passes 10 = .ok (.aload_n 0, 1) := by decide +kernel
theorem dX8_passes_11 : decode cX8_passes 11 = .ok (.dup, 1) := by decide +kernel
theorem dX8_passes_12 : decode cX8_passes 12 = .ok (.getfield 23, 3) := by decide +kernel
theorem dX8_passes_15 : decode cX8_passes 15 = .ok (.iconst 1, 1) := by decide +kernel
theorem dX8_passes_16 : decode cX8_passes 16 = .ok (.iadd, 1) := by decide +kernel
theorem dX8_passes_17 : decode cX8_passes 17 = .ok (.putfield 23, 3) := by decide +kernel
theorem dX8_passes_20 : decode cX8_passes 20 = .ok (.iconst 1, 1) := by decide +kernel
theorem dX8_passes_21 : decode cX8_passes 21 = .ok (.ireturn, 1) := by decide +kernel
set_option maxRecDepth 20000 in
theorem ggX8_readDigit_X8_here : GoodIn wsX8_readDigit wsX8_here := goodIn_r _ [7, 2, 8, 9, 10, 11, 12, 13, 14, 15, 16] (by decide +kernel) (by decide +kernel)
set_option maxRecDepth 20000 in
theorem gX8_readDigit_X8_here : GoodIn wsX8_readDigit (wsV RX8 26 RX8 yX8_here wsX8_here) := goodIn_app (goodIn_of _ (by decide +kernel)) ggX8_readDigit_X8_here
theorem dX8_readDigit_0 : decode cX8_readDigit 0 = .ok (.aload_n 0, 1) := by decide +kernel
theorem dX8_readDigit_1 : decode cX8_readDigit 1 = .ok (.invokevirtual 26, 3) := by decide +kernel
theorem dX8_readDigit_4 : decode cX8_readDigit 4 = .ok (.istore_n 1, 1) := by decide +kernel
theorem dX8_readDigit_5 : decode cX8_readDigit 5 = .ok (.iload_n 1, 1) := by decide +kernel
theorem dX8_readDigit_6 : decode cX8_readDigit 6 = .ok (.bipush 48, 2) := by decide +kernel
theorem dX8_readDigit_8 : decode cX8_readDigit 8 = .ok (.if_icmp .lt 9, 3) := by decide +kernel
theorem dX8_readDigit_11 : decode cX8_readDigit 11 = .ok (.iload_n 1, 1) := by decide +kernel
theorem dX8_readDigit_12 : decode cX8_readDigit 12 = .ok (.bipush 57, 2) := by decide +kernel
theorem dX8_readDigit_14 : decode cX8_readDigit 14 = .ok (.if_icmp .le 5, 3) := by decide +kernel
theorem dX8_readDigit_17 : decode cX8_readDigit 17 = .ok (.iconst 0, 1) := by decide +kernel
theorem dX8_readDigit_18 : decode cX8_readDigit 18 = .ok (.ireturn, 1) := by decide +kernel
theorem dX8_readDigit_19 : decode cX8_readDigit 19 = .ok (.aload_n 0, 1) := by decide +kernel
theorem dX8_readDigit_20 : decode cX8_readDigit 20 = .ok (.iload_n 1, 1) := by decide +kernel
theorem dX8_readDigit_21 : decode cX8_readDigit 21 = .ok (.bipush 48, 2) := by decide +kernel
theorem dX8_readDigit_23 : decode cX8_readDigit 23 = .ok (.isub, 1) := by decide +kernel
theorem dX8_readDigit_24 : decode cX8_readDigit 24 = .ok (.putfield 49, 3) := by decide +kernel
theorem dX8_readDigit_27 : decode cX8_readDigit 27 = .ok (.aload_n 0, 1) := by decide +kernel
theorem dX8_readDigit_28 : decode cX8_readDigit 28 = .ok (.dup, 1) := by decide +kernel
theorem dX8_readDigit_29 : decode cX8_readDigit 29 = .ok (.getfield 23, 3) := by decide +kernel
theorem dX8_readDigit_32 : decode cX8_readDigit 32 = .ok (.iconst 1, 1) := by decide +kernel
theorem dX8_readDigit_33 : decode cX8_readDigit 33 = .ok (.iadd, 1) := by decide +kernel
theorem dX8_readDigit_34 : decode cX8_readDigit 34 = .ok (.putfield 23, 3) := by decide +kernel
theorem dX8_readDigit_37 : decode cX8_readDigit 37 = .ok (.iconst 1, 1) := by decide +kernel
theorem dX8_readDigit_38 : decode cX8_readDigit 38 = .ok (.ireturn, 1) := by decide +kernel
set_option maxRecDepth 20000 in
theorem ggX8_readWord_X8_here : GoodIn wsX8_readWord wsX8_here := goodIn_r _ [7, 1, 2, 8, 12, 13, 14, 15, 16, 17, 18] (by decide +kernel) (by decide +kernel)
set_option maxRecDepth 20000 in
theorem gX8_readWord_X8_here : GoodIn wsX8_readWord (wsV RX8 26 RX8 yX8_here wsX8_here) := goodIn_app (goodIn_of _ (by decide +kernel)) ggX8_readWord_X8_here
set_option maxRecDepth 20000 in
theorem ggX8_readWord_X9_withLetter : GoodIn wsX8_readWord wsX9_withLetter := goodIn_r _ [11] (by decide +kernel) (by decide +kernel)
set_option maxRecDepth 20000 in
theorem gX8_readWord_X9_withLetter_n54 : GoodIn wsX8_readWord (wsX9_withLetter) := ggX8_readWord_X9_withLetter
theorem dX8_readWord_0 : decode cX8_readWord 0 = .ok (.iconst 1, 1) := by decide +kernel
theorem dX8_readWord_1 : decode cX8_readWord 1 = .ok (.istore_n 1, 1) := by decide +kernel
theorem dX8_readWord_2 : decode cX8_readWord 2 = .ok (.iconst 0, 1) := by decide +kernel
theorem dX8_readWord_3 : decode cX8_readWord 3 = .ok (.istore_n 2, 1) := by decide +kernel
theorem dX8_readWord_4 : decode cX8_readWord 4 = .ok (.aload_n 0, 1) := by decide +kernel
theorem dX8_readWord_5 : decode cX8_readWord 5 = .ok (.getfield 23, 3) := by decide +kernel
theorem dX8_readWord_8 : decode cX8_readWord 8 = .ok (.aload_n 0, 1) := by decide +kernel
theorem dX8_readWord_9 : decode cX8_readWord 9 = .ok (.getfield 15, 3) := by decide +kernel
theorem dX8_readWord_12 : decode cX8_readWord 12 = .ok (.if_icmp .ge 55, 3) := by decide +kernel
theorem dX8_readWord_15 : decode cX8_readWord 15 = .ok (.aload_n 0, 1) := by decide +kernel
theorem dX8_readWord_16 : decode cX8_readWord 16 = .ok (.invokevirtual 26, 3) := by decide +kernel
theorem dX8_readWord_19 : decode cX8_readWord 19 = .ok (.bipush 97, 2) := by decide +kernel
theorem dX8_readWord_21 : decode cX8_readWord 21 = .ok (.if_icmp .lt 46, 3) := by decide +kernel
theorem dX8_readWord_24 : decode cX8_readWord 24 = .ok (.aload_n 0, 1) := by decide +kernel
theorem dX8_readWord_25 : decode cX8_readWord 25 = .ok (.invokevirtual 26, 3) := by decide +kernel
theorem dX8_readWord_28 : decode cX8_readWord 28 = .ok (.bipush 100, 2) := by decide +kernel
theorem dX8_readWord_30 : decode cX8_readWord 30 = .ok (.if_icmp .gt 37, 3) := by decide +kernel
theorem dX8_readWord_33 : decode cX8_readWord 33 = .ok (.iload_n 2, 1) := by decide +kernel
theorem dX8_readWord_34 : decode cX8_readWord 34 = .ok (.bipush 12, 2) := by decide +kernel
theorem dX8_readWord_36 : decode cX8_readWord 36 = .ok (.if_icmp .gt 15, 3) := by decide +kernel
theorem dX8_readWord_39 : decode cX8_readWord 39 = .ok (.iload_n 1, 1) := by decide +kernel
theorem dX8_readWord_40 : decode cX8_readWord 40 = .ok (.aload_n 0, 1) := by decide +kernel
theorem dX8_readWord_41 : decode cX8_readWord 41 = .ok (.invokevirtual 26, 3) := by decide +kernel
theorem dX8_readWord_44 : decode cX8_readWord 44 = .ok (.bipush 97, 2) := by decide +kernel
theorem dX8_readWord_46 : decode cX8_readWord 46 = .ok (.isub, 1) := by decide +kernel
theorem dX8_readWord_47 : decode cX8_readWord 47 = .ok (.invokestatic 54, 3) := by decide +kernel
theorem dX8_readWord_50 : decode cX8_readWord 50 = .ok (.istore_n 1, 1) := by decide +kernel
theorem dX8_readWord_51 : decode cX8_readWord 51 = .ok (.aload_n 0, 1) := by decide +kernel
theorem dX8_readWord_52 : decode cX8_readWord 52 = .ok (.dup, 1) := by decide +kernel
theorem dX8_readWord_53 : decode cX8_readWord 53 = .ok (.getfield 23, 3) := by decide +kernel
theorem dX8_readWord_56 : decode cX8_readWord 56 = .ok (.iconst 1, 1) := by decide +kernel
theorem dX8_readWord_57 : decode cX8_readWord 57 = .ok (.iadd, 1) := by decide +kernel
theorem dX8_readWord_58 : decode cX8_readWord 58 = .ok (.putfield 23, 3) := by decide +kernel
theorem dX8_readWord_61 : decode cX8_readWord 61 = .ok (.iinc 2 1, 3) := by decide +kernel
theorem dX8_readWord_64 : decode cX8_readWord 64 = .ok (.goto (-60), 3) := by decide +kernel
theorem dX8_readWord_67 : decode cX8_readWord 67 = .ok (.iload_n 1, 1) := by decide +kernel
theorem dX8_readWord_68 : decode cX8_readWord 68 = .ok (.ireturn, 1) := by decide +kernel
theorem dX9_lengthOf_0 : decode cX9_lengthOf 0 = .ok (.iconst 0, 1) := by decide +kernel
theorem dX9_lengthOf_1 : decode cX9_lengthOf 1 = .ok (.istore_n 1, 1) := by decide +kernel
theorem dX9_lengthOf_2 : decode cX9_lengthOf 2 = .ok (.iload_n 0, 1) := by decide +kernel
theorem dX9_lengthOf_3 : decode cX9_lengthOf 3 = .ok (.istore_n 2, 1) := by decide +kernel
theorem dX9_lengthOf_4 : decode cX9_lengthOf 4 = .ok (.iload_n 2, 1) := by decide +kernel
theorem dX9_lengthOf_5 : decode cX9_lengthOf 5 = .ok (.iconst 1, 1) := by decide +kernel
theorem dX9_lengthOf_6 : decode cX9_lengthOf 6 = .ok (.if_icmp .le 13, 3) := by decide +kernel
theorem dX9_lengthOf_9 : decode cX9_lengthOf 9 = .ok (.iinc 1 1, 3) := by decide +kernel
theorem dX9_lengthOf_12 : decode cX9_lengthOf 12 = .ok (.iload_n 2, 1) := by decide +kernel
theorem dX9_lengthOf_13 : decode cX9_lengthOf 13 = .ok (.iconst 2, 1) := by decide +kernel
theorem dX9_lengthOf_14 : decode cX9_lengthOf 14 = .ok (.ishr, 1) := by decide +kernel
theorem dX9_lengthOf_15 : decode cX9_lengthOf 15 = .ok (.istore_n 2, 1) := by decide +kernel
theorem dX9_lengthOf_16 : decode cX9_lengthOf 16 = .ok (.goto (-12), 3) := by decide +kernel
theorem dX9_lengthOf_19 : decode cX9_lengthOf 19 = .ok (.iload_n 1, 1) := by decide +kernel
theorem dX9_lengthOf_20 : decode cX9_lengthOf 20 = .ok (.ireturn, 1) := by decide +kernel
set_option maxRecDepth 20000 in
theorem ggX9_letterOf_X9_lengthOf : GoodIn wsX9_letterOf wsX9_lengthOf := goodIn_r _ [5] (by decide +kernel) (by decide +kernel)
set_option maxRecDepth 20000 in
theorem gX9_letterOf_X9_lengthOf : GoodIn wsX9_letterOf (va_wsS RX9 9 yX9_lengthOf wsX9_lengthOf) := goodIn_app (goodIn_of _ (by decide +kernel)) ggX9_letterOf_X9_lengthOf
theorem dX9_letterOf_0 : decode cX9_letterOf 0 = .ok (.iload_n 0, 1) := by decide +kernel
theorem dX9_letterOf_1 : decode cX9_letterOf 1 = .ok (.invokestatic 9, 3) := by decide +kernel
theorem dX9_letterOf_4 : decode cX9_letterOf 4 = .ok (.istore_n 2, 1) := by decide +kernel
theorem dX9_letterOf_5 : decode cX9_letterOf 5 = .ok (.iload_n 1, 1) := by decide +kernel
theorem dX9_letterOf_6 : decode cX9_letterOf 6 = .ok (.ifCond .lt 8, 3) := by decide +kernel
theorem dX9_letterOf_9 : decode cX9_letterOf 9 = .ok (.iload_n 1, 1) := by decide +kernel
theorem dX9_letterOf_10 : decode cX9_letterOf 10 = .ok (.iload_n 2, 1) := by decide +kernel
theorem dX9_letterOf_11 : decode cX9_letterOf 11 = .ok (.if_icmp .lt 6, 3) := by decide +kernel
theorem dX9_letterOf_14 : decode cX9_letterOf 14 = .ok (.ldc 15, 2) := by decide +kernel
theorem dX9_letterOf_16 : decode cX9_letterOf 16 = .ok (.ireturn, 1) := by decide +kernel
theorem dX9_letterOf_17 : decode cX9_letterOf 17 = .ok (.iload_n 0, 1) := by decide +kernel
theorem dX9_letterOf_18 : decode cX9_letterOf 18 = .ok (.iconst 2, 1) := by decide +kernel
theorem dX9_letterOf_19 : decode cX9_letterOf 19 = .ok (.iload_n 2, 1) := by decide +kernel
theorem dX9_letterOf_20 : decode cX9_letterOf 20 = .ok (.iconst 1, 1) := by decide +kernel
theorem dX9_letterOf_21 : decode cX9_letterOf 21 = .ok (.isub, 1) := by decide +kernel
theorem dX9_letterOf_22 : decode cX9_letterOf 22 = .ok (.iload_n 1, 1) := by decide +kernel
theorem dX9_letterOf_23 : decode cX9_letterOf 23 = .ok (.isub, 1) := by decide +kernel
theorem dX9_letterOf_24 : decode cX9_letterOf 24 = .ok (.imul, 1) := by decide +kernel
theorem dX9_letterOf_25 : decode cX9_letterOf 25 = .ok (.ishr, 1) := by decide +kernel
theorem dX9_letterOf_26 : decode cX9_letterOf 26 = .ok (.iconst 3, 1) := by decide +kernel
theorem dX9_letterOf_27 : decode cX9_letterOf 27 = .ok (.iand, 1) := by decide +kernel
theorem dX9_letterOf_28 : decode cX9_letterOf 28 = .ok (.ireturn, 1) := by decide +kernel
theorem dX9_withLetter_0 : decode cX9_withLetter 0 = .ok (.iload_n 0, 1) := by decide +kernel
theorem dX9_withLetter_1 : decode cX9_withLetter 1 = .ok (.iconst 2, 1) := by decide +kernel
theorem dX9_withLetter_2 : decode cX9_withLetter 2 = .ok (.ishl, 1) := by decide +kernel
theorem dX9_withLetter_3 : decode cX9_withLetter 3 = .ok (.iload_n 1, 1) := by decide +kernel
theorem dX9_withLetter_4 : decode cX9_withLetter 4 = .ok (.ior, 1) := by decide +kernel
theorem dX9_withLetter_5 : decode cX9_withLetter 5 = .ok (.ireturn, 1) := by decide +kernel
theorem dX9_lastBits_0 : decode cX9_lastBits 0 = .ok (.iload_n 0, 1) := by decide +kernel
theorem dX9_lastBits_1 : decode cX9_lastBits 1 = .ok (.iconst 1, 1) := by decide +kernel
theorem dX9_lastBits_2 : decode cX9_lastBits 2 = .ok (.iconst 2, 1) := by decide +kernel
theorem dX9_lastBits_3 : decode cX9_lastBits 3 = .ok (.iload_n 1, 1) := by decide +kernel
theorem dX9_lastBits_4 : decode cX9_lastBits 4 = .ok (.imul, 1) := by decide +kernel
theorem dX9_lastBits_5 : decode cX9_lastBits 5 = .ok (.ishl, 1) := by decide +kernel
theorem dX9_lastBits_6 : decode cX9_lastBits 6 = .ok (.iconst 1, 1) := by decide +kernel
theorem dX9_lastBits_7 : decode cX9_lastBits 7 = .ok (.isub, 1) := by decide +kernel
theorem dX9_lastBits_8 : decode cX9_lastBits 8 = .ok (.iand, 1) := by decide +kernel
theorem dX9_lastBits_9 : decode cX9_lastBits 9 = .ok (.ireturn, 1) := by decide +kernel
set_option maxRecDepth 20000 in
theorem ggX10_init_X6_init : GoodIn wsX10_init wsX6_init := goodIn_r _ [34, 35, 2, 3, 36, 37, 38, 39, 40, 41, 42, 43, 44, 45, 46, 47, 48, 49, 50, 51, 52, 53, 54, 55, 56, 57, 58, 59, 131, 132, 133, 134, 135, 136, 86, 87, 88, 89, 90, 91, 137, 138, 139] (by decide +kernel) (by decide +kernel)
set_option maxRecDepth 20000 in
theorem gX10_init_X6_init_n9 : GoodIn wsX10_init (wsX6_init) := ggX10_init_X6_init
set_option maxRecDepth 20000 in
theorem ggX10_init_X0_init : GoodIn wsX10_init wsX0_init := goodIn_r _ [61, 62, 2, 3, 63, 64, 5, 6, 33, 34, 35, 36, 37, 38, 39, 40, 41, 42, 43, 44, 45, 46, 47, 48, 49, 50, 51, 52, 53, 54, 55, 56, 57, 58, 59, 100, 101, 86, 87, 88, 89, 90, 91, 131, 132, 133, 134, 135, 136, 137, 138, 139] (by decide +kernel) (by decide +kernel)
set_option maxRecDepth 20000 in
theorem gX10_init_X0_init_n21 : GoodIn wsX10_init (wsX0_init) := ggX10_init_X0_init
set_option maxRecDepth 20000 in
theorem ggX10_init_X3_init : GoodIn wsX10_init wsX3_init := goodIn_r _ [66, 67, 2, 3, 49, 68, 69, 102, 103, 104, 105, 106] (by decide +kernel) (by decide +kernel)
set_option maxRecDepth 20000 in
theorem gX10_init_X3_init_n28 : GoodIn wsX10_init (wsX3_init) := ggX10_init_X3_init
set_option maxRecDepth 20000 in
theorem ggX10_init_X2_init : GoodIn wsX10_init wsX2_init := goodIn_r _ [71, 72, 2, 3, 49, 73, 74, 107, 108, 109, 110, 111, 112, 113] (by decide +kernel) (by decide +kernel)
set_option maxRecDepth 20000 in
theorem gX10_init_X2_init_n35 : GoodIn wsX10_init (wsX2_init) := ggX10_init_X2_init
set_option maxRecDepth 20000 in
theorem ggX10_init_X1_init : GoodIn wsX10_init wsX1_init := goodIn_r _ [76, 77, 2, 3] (by decide +kernel) (by decide +kernel)
set_option maxRecDepth 20000 in
theorem gX10_init_X1_init_n42 : GoodIn wsX10_init (wsX1_init) := ggX10_init_X1_init
set_option maxRecDepth 20000 in
theorem ggX10_init_X8_init : GoodIn wsX10_init wsX8_init := goodIn_r _ [79, 80, 2, 3, 81, 82, 120, 121, 122, 123, 124, 125, 126] (by decide +kernel) (by decide +kernel)
set_option maxRecDepth 20000 in
theorem gX10_init_X8_init_n49 : GoodIn wsX10_init (wsX8_init) := ggX10_init_X8_init
set_option maxRecDepth 20000 in
theorem ggX10_init_X5_init : GoodIn wsX10_init wsX5_init := goodIn_r _ [84, 85, 2, 3] (by decide +kernel) (by decide +kernel)
set_option maxRecDepth 20000 in
theorem gX10_init_X5_init_n56 : GoodIn wsX10_init (wsX5_init) := ggX10_init_X5_init
theorem dX10_init_0 : decode cX10_init 0 = .ok (.aload_n 0, 1) := by decide +kernel
theorem dX10_init_1 : decode cX10_init 1 = .ok (.invokespecial 1, 3) := by decide +kernel
theorem dX10_init_4 : decode cX10_init 4 = .ok (.aload_n 0, 1) := by decide +kernel
theorem dX10_init_5 : decode cX10_init 5 = .ok (.new 7, 3) := by decide +kernel
theorem dX10_init_8 : decode cX10_init 8 = .ok (.dup, 1) := by decide +kernel
theorem dX10_init_9 : decode cX10_init 9 = .ok (.invokespecial 9, 3) := by decide +kernel
theorem dX10_init_12 : decode cX10_init 12 = .ok (.putfield 10, 3) := by decide +kernel
theorem dX10_init_15 : decode cX10_init 15 = .ok (.aload_n 0, 1) := by decide +kernel
theorem dX10_init_16 : decode cX10_init 16 = .ok (.new 7, 3) := by decide +kernel
theorem dX10_init_19 : decode cX10_init 19 = .ok (.dup, 1) := by decide +kernel
theorem dX10_init_20 : decode cX10_init 20 = .ok (.invokespecial 9, 3) := by decide +kernel
theorem dX10_init_23 : decode cX10_init 23 = .ok (.putfield 16, 3) := by decide +kernel
theorem dX10_init_26 : decode cX10_init 26 = .ok (.aload_n 0, 1) := by decide +kernel
theorem dX10_init_27 : decode cX10_init 27 = .ok (.new 19, 3) := by decide +kernel
theorem dX10_init_30 : decode cX10_init 30 = .ok (.dup, 1) := by decide +kernel
theorem dX10_init_31 : decode cX10_init 31 = .ok (.invokespecial 21, 3) := by decide +kernel
theorem dX10_init_34 : decode cX10_init 34 = .ok (.putfield 22, 3) := by decide +kernel
theorem dX10_init_37 : decode cX10_init 37 = .ok (.aload_n 0, 1) := by decide +kernel
theorem dX10_init_38 : decode cX10_init 38 = .ok (.new 26, 3) := by decide +kernel
theorem dX10_init_41 : decode cX10_init 41 = .ok (.dup, 1) := by decide +kernel
theorem dX10_init_42 : decode cX10_init 42 = .ok (.invokespecial 28, 3) := by decide +kernel
theorem dX10_init_45 : decode cX10_init 45 = .ok (.putfield 29, 3) := by decide +kernel
theorem dX10_init_48 : decode cX10_init 48 = .ok (.aload_n 0, 1) := by decide +kernel
theorem dX10_init_49 : decode cX10_init 49 = .ok (.new 33, 3) := by decide +kernel
theorem dX10_init_52 : decode cX10_init 52 = .ok (.dup, 1) := by decide +kernel
theorem dX10_init_53 : decode cX10_init 53 = .ok (.invokespecial 35, 3) := by decide +kernel
theorem dX10_init_56 : decode cX10_init 56 = .ok (.putfield 36, 3) := by decide +kernel
theorem dX10_init_59 : decode cX10_init 59 = .ok (.aload_n 0, 1) := by decide +kernel
theorem dX10_init_60 : decode cX10_init 60 = .ok (.new 40, 3) := by decide +kernel
theorem dX10_init_63 : decode cX10_init 63 = .ok (.dup, 1) := by decide +kernel
theorem dX10_init_64 : decode cX10_init 64 = .ok (.invokespecial 42, 3) := by decide +kernel
theorem dX10_init_67 : decode cX10_init 67 = .ok (.putfield 43, 3) := by decide +kernel
theorem dX10_init_70 : decode cX10_init 70 = .ok (.aload_n 0, 1) := by decide +kernel
theorem dX10_init_71 : decode cX10_init 71 = .ok (.new 47, 3) := by decide +kernel
theorem dX10_init_74 : decode cX10_init 74 = .ok (.dup, 1) := by decide +kernel
theorem dX10_init_75 : decode cX10_init 75 = .ok (.invokespecial 49, 3) := by decide +kernel
theorem dX10_init_78 : decode cX10_init 78 = .ok (.putfield 50, 3) := by decide +kernel
theorem dX10_init_81 : decode cX10_init 81 = .ok (.aload_n 0, 1) := by decide +kernel
theorem dX10_init_82 : decode cX10_init 82 = .ok (.new 54, 3) := by decide +kernel
theorem dX10_init_85 : decode cX10_init 85 = .ok (.dup, 1) := by decide +kernel
theorem dX10_init_86 : decode cX10_init 86 = .ok (.invokespecial 56, 3) := by decide +kernel
theorem dX10_init_89 : decode cX10_init 89 = .ok (.putfield 57, 3) := by decide +kernel
theorem dX10_init_92 : decode cX10_init 92 = .ok (.return_, 1) := by decide +kernel
set_option maxRecDepth 20000 in
theorem ggX10_drop_X4_contains : GoodIn wsX10_drop wsX4_contains := goodIn_r _ [7, 8, 80, 81, 82, 83, 84, 85] (by decide +kernel) (by decide +kernel)
set_option maxRecDepth 20000 in
theorem gX10_drop_X4_contains_n65 : GoodIn wsX10_drop (wsX4_contains) := ggX10_drop_X4_contains
set_option maxRecDepth 20000 in
theorem ggX10_drop_X10_startTrial : GoodIn wsX10_drop wsX10_startTrial := goodIn_r _ [13, 3, 1, 14, 15, 16, 17, 18, 19, 20, 21, 22, 23, 24, 5, 25, 26, 27, 28, 29, 30, 31, 32, 33, 34, 35, 8, 36, 37, 38, 39, 40, 41, 42, 43, 66, 67, 68, 69, 70, 71, 72, 73, 74, 75, 76, 77, 78, 79, 80, 81, 82, 83, 84, 85, 86, 87, 88] (by decide +kernel) (by decide +kernel)
set_option maxRecDepth 20000 in
theorem gX10_drop_X10_startTrial : GoodIn wsX10_drop (wsV RX10 72 RX10 yX10_startTrial wsX10_startTrial) := goodIn_app (goodIn_of _ (by decide +kernel)) ggX10_drop_X10_startTrial
set_option maxRecDepth 20000 in
theorem ggX10_drop_X6_removeRule : GoodIn wsX10_drop wsX6_removeRule := goodIn_r _ [46, 18, 19, 47, 5, 48, 49, 8, 27, 32, 33, 34, 35, 50, 4, 6, 7, 74, 75, 76, 77, 78, 79, 86, 87, 88, 80, 81, 82, 83, 84, 85] (by decide +kernel) (by decide +kernel)
set_option maxRecDepth 20000 in
theorem gX10_drop_X6_removeRule_n75 : GoodIn wsX10_drop (wsX6_removeRule) := ggX10_drop_X6_removeRule
set_option maxRecDepth 20000 in
theorem ggX10_drop_X10_keepTrial : GoodIn wsX10_drop wsX10_keepTrial := goodIn_r _ [54, 55, 1, 3, 56, 57, 58, 59, 60, 61, 62, 63, 64, 65, 14, 15, 16, 17, 18, 19, 20, 21, 22, 23, 24, 5, 25, 26, 27, 28, 29, 30, 31, 32, 33, 34, 35, 8, 36, 37, 38, 39, 40, 41, 42, 43, 66, 67, 68, 69, 70, 71, 72, 73, 89, 90, 74, 75, 76, 77, 78, 79, 80, 81, 82, 83, 84, 85, 86, 87, 88] (by decide +kernel) (by decide +kernel)
set_option maxRecDepth 20000 in
theorem gX10_drop_X10_keepTrial : GoodIn wsX10_drop (wsV RX10 79 RX10 yX10_keepTrial wsX10_keepTrial) := goodIn_app (goodIn_of _ (by decide +kernel)) ggX10_drop_X10_keepTrial
theorem dX10_drop_0 : decode cX10_drop 0 = .ok (.aload_n 0, 1) := by decide +kernel
theorem dX10_drop_1 : decode cX10_drop 1 = .ok (.getfield 10, 3) := by decide +kernel
theorem dX10_drop_4 : decode cX10_drop 4 = .ok (.getfield 61, 3) := by decide +kernel
theorem dX10_drop_7 : decode cX10_drop 7 = .ok (.iload_n 1, 1) := by decide +kernel
theorem dX10_drop_8 : decode cX10_drop 8 = .ok (.invokevirtual 65, 3) := by decide +kernel
theorem dX10_drop_11 : decode cX10_drop 11 = .ok (.ifCond .ne 6, 3) := by decide +kernel
theorem dX10_drop_14 : decode cX10_drop 14 = .ok (.ldc 71, 2) := by decide +kernel
theorem dX10_drop_16 : decode cX10_drop 16 = .ok (.ireturn, 1) := by decide +kernel
theorem dX10_drop_17 : decode cX10_drop 17 = .ok (.aload_n 0, 1) := by decide +kernel
theorem dX10_drop_18 : decode cX10_drop 18 = .ok (.invokevirtual 72, 3) := by decide +kernel
theorem dX10_drop_21 : decode cX10_drop 21 = .ok (.aload_n 0, 1) := by decide +kernel
theorem dX10_drop_22 : decode cX10_drop 22 = .ok (.getfield 16, 3) := by decide +kernel
theorem dX10_drop_25 : decode cX10_drop 25 = .ok (.iload_n 1, 1) := by decide +kernel
theorem dX10_drop_26 : decode cX10_drop 26 = .ok (.invokevirtual 75, 3) := by decide +kernel
theorem dX10_drop_29 : decode cX10_drop 29 = .ok (.aload_n 0, 1) := by decide +kernel
theorem dX10_drop_30 : decode cX10_drop 30 = .ok (.invokevirtual 79, 3) := by decide +kernel
theorem dX10_drop_33 : decode cX10_drop 33 = .ok (.aload_n 0, 1) := by decide +kernel
theorem dX10_drop_34 : decode cX10_drop 34 = .ok (.getfield 10, 3) := by decide +kernel
theorem dX10_drop_37 : decode cX10_drop 37 = .ok (.getfield 61, 3) := by decide +kernel
theorem dX10_drop_40 : decode cX10_drop 40 = .ok (.getfield 82, 3) := by decide +kernel
theorem dX10_drop_43 : decode cX10_drop 43 = .ok (.ireturn, 1) := by decide +kernel
set_option maxRecDepth 20000 in
theorem ggX10_way_X10_startTrial : GoodIn wsX10_way wsX10_startTrial := goodIn_r _ [8, 3, 2, 9, 10, 11, 12, 13, 14, 15, 16, 17, 18, 19, 20, 21, 22, 23, 24, 25, 26, 27, 28, 29, 30, 31, 32, 33, 34, 35, 36, 37, 38, 39, 40, 59, 60, 61, 62, 63, 64, 65, 66, 67, 68, 69, 70, 71, 72, 73, 74, 75, 76, 77, 78, 79, 80, 81] (by decide +kernel) (by decide +kernel)
set_option maxRecDepth 20000 in
theorem gX10_way_X10_startTrial : GoodIn wsX10_way (wsV RX10 72 RX10 yX10_startTrial wsX10_startTrial) := goodIn_app (goodIn_of _ (by decide +kernel)) ggX10_way_X10_startTrial
set_option maxRecDepth 20000 in
theorem ggX10_way_X6_setChoosing : GoodIn wsX10_way wsX6_setChoosing := goodIn_r _ [43, 16, 14, 67, 68, 69, 70, 71, 72, 79, 80, 81] (by decide +kernel) (by decide +kernel)
set_option maxRecDepth 20000 in
theorem gX10_way_X6_setChoosing_n89 : GoodIn wsX10_way (wsX6_setChoosing) := ggX10_way_X6_setChoosing
set_option maxRecDepth 20000 in
theorem ggX10_way_X10_keepTrial : GoodIn wsX10_way wsX10_keepTrial := goodIn_r _ [47, 48, 2, 3, 49, 50, 51, 52, 53, 54, 55, 56, 57, 58, 9, 10, 11, 12, 13, 14, 15, 16, 17, 18, 19, 20, 21, 22, 23, 24, 25, 26, 27, 28, 29, 30, 31, 32, 33, 34, 35, 36, 37, 38, 39, 40, 59, 60, 61, 62, 63, 64, 65, 66, 82, 83, 67, 68, 69, 70, 71, 72, 73, 74, 75, 76, 77, 78, 79, 80, 81] (by decide +kernel) (by decide +kernel)
set_option maxRecDepth 20000 in
theorem gX10_way_X10_keepTrial : GoodIn wsX10_way (wsV RX10 79 RX10 yX10_keepTrial wsX10_keepTrial) := goodIn_app (goodIn_of _ (by decide +kernel)) ggX10_way_X10_keepTrial
theorem dX10_way_0 : decode cX10_way 0 = .ok (.iload_n 1, 1) := by decide +kernel
theorem dX10_way_1 : decode cX10_way 1 = .ok (.ifCond .lt 8, 3) := by decide +kernel
theorem dX10_way_4 : decode cX10_way 4 = .ok (.iload_n 1, 1) := by decide +kernel
theorem dX10_way_5 : decode cX10_way 5 = .ok (.iconst 2, 1) := by decide +kernel
theorem dX10_way_6 : decode cX10_way 6 = .ok (.if_icmp .le 6, 3) := by decide +kernel
theorem dX10_way_9 : decode cX10_way 9 = .ok (.ldc 71, 2) := by decide +kernel
theorem dX10_way_11 : decode cX10_way 11 = .ok (.ireturn, 1) := by decide +kernel
theorem dX10_way_12 : decode cX10_way 12 = .ok (.aload_n 0, 1) := by decide +kernel
theorem dX10_way_13 : decode cX10_way 13 = .ok (.getfield 10, 3) := by decide +kernel
theorem dX10_way_16 : decode cX10_way 16 = .ok (.getfield 86, 3) := by decide +kernel
theorem dX10_way_19 : decode cX10_way 19 = .ok (.istore_n 2, 1) := by decide +kernel
theorem dX10_way_20 : decode cX10_way 20 = .ok (.aload_n 0, 1) := by decide +kernel
theorem dX10_way_21 : decode cX10_way 21 = .ok (.invokevirtual 72, 3) := by decide +kernel
theorem dX10_way_24 : decode cX10_way 24 = .ok (.aload_n 0, 1) := by decide +kernel
theorem dX10_way_25 : decode cX10_way 25 = .ok (.getfield 16, 3) := by decide +kernel
theorem dX10_way_28 : decode cX10_way 28 = .ok (.iload_n 1, 1) := by decide +kernel
theorem dX10_way_29 : decode cX10_way 29 = .ok (.invokevirtual 89, 3) := by decide +kernel
theorem dX10_way_32 : decode cX10_way 32 = .ok (.aload_n 0, 1) := by decide +kernel
theorem dX10_way_33 : decode cX10_way 33 = .ok (.invokevirtual 79, 3) := by decide +kernel
theorem dX10_way_36 : decode cX10_way 36 = .ok (.iload_n 2, 1) := by decide +kernel
theorem dX10_way_37 : decode cX10_way 37 = .ok (.ireturn, 1) := by decide +kernel
set_option maxRecDepth 20000 in
theorem ggX10_ruleOf_X4_contains : GoodIn wsX10_ruleOf wsX4_contains := goodIn_r _ [6, 7, 42, 43, 44, 45, 46, 47] (by decide +kernel) (by decide +kernel)
set_option maxRecDepth 20000 in
theorem gX10_ruleOf_X4_contains_n65 : GoodIn wsX10_ruleOf (wsX4_contains) := ggX10_ruleOf_X4_contains
set_option maxRecDepth 20000 in
theorem ggX10_ruleOf_X10_isLetterOf : GoodIn wsX10_ruleOf wsX10_isLetterOf := goodIn_r _ [11] (by decide +kernel) (by decide +kernel)
set_option maxRecDepth 20000 in
theorem gX10_ruleOf_X10_isLetterOf : GoodIn wsX10_ruleOf (va_wsS RX10 92 yX10_isLetterOf wsX10_isLetterOf) := goodIn_app (goodIn_of _ (by decide +kernel)) ggX10_ruleOf_X10_isLetterOf
set_option maxRecDepth 20000 in
theorem ggX10_ruleOf_X9_letterOf : GoodIn wsX10_ruleOf wsX9_letterOf := goodIn_r _ [14, 15, 16, 17, 13, 18] (by decide +kernel) (by decide +kernel)
set_option maxRecDepth 20000 in
theorem gX10_ruleOf_X9_letterOf_n100 : GoodIn wsX10_ruleOf (wsX9_letterOf) := ggX10_ruleOf_X9_letterOf
set_option maxRecDepth 20000 in
theorem ggX10_ruleOf_X4_placesIn : GoodIn wsX10_ruleOf wsX4_placesIn := goodIn_r _ [21, 17, 13, 18, 22, 23, 24, 4, 25, 26, 27, 42, 43, 44, 45, 46, 47] (by decide +kernel) (by decide +kernel)
set_option maxRecDepth 20000 in
theorem gX10_ruleOf_X4_placesIn_n118 : GoodIn wsX10_ruleOf (wsX4_placesIn) := ggX10_ruleOf_X4_placesIn
theorem dX10_ruleOf_0 : decode cX10_ruleOf 0 = .ok (.aload_n 0, 1) := by decide +kernel
theorem dX10_ruleOf_1 : decode cX10_ruleOf 1 = .ok (.getfield 10, 3) := by decide +kernel
theorem dX10_ruleOf_4 : decode cX10_ruleOf 4 = .ok (.getfield 61, 3) := by decide +kernel
theorem dX10_ruleOf_7 : decode cX10_ruleOf 7 = .ok (.astore_n 3, 1) := by decide +kernel
theorem dX10_ruleOf_8 : decode cX10_ruleOf 8 = .ok (.aload_n 3, 1) := by decide +kernel
theorem dX10_ruleOf_9 : decode cX10_ruleOf 9 = .ok (.iload_n 1, 1) := by decide +kernel
theorem dX10_ruleOf_10 : decode cX10_ruleOf 10 = .ok (.invokevirtual 65, 3) := by decide +kernel
theorem dX10_ruleOf_13 : decode cX10_ruleOf 13 = .ok (.ifCond .ne 6, 3) := by decide +kernel
theorem dX10_ruleOf_16 : decode cX10_ruleOf 16 = .ok (.ldc 71, 2) := by decide +kernel
theorem dX10_ruleOf_18 : decode cX10_ruleOf 18 = .ok (.ireturn, 1) := by decide +kernel
theorem dX10_ruleOf_19 : decode cX10_ruleOf 19 = .ok (.iload_n 2, 1) := by decide +kernel
theorem dX10_ruleOf_20 : decode cX10_ruleOf 20 = .ok (.bipush 10, 2) := by decide +kernel
theorem dX10_ruleOf_22 : decode cX10_ruleOf 22 = .ok (.iconst 4, 1) := by decide +kernel
theorem dX10_ruleOf_23 : decode cX10_ruleOf 23 = .ok (.invokestatic 92, 3) := by decide +kernel
theorem dX10_ruleOf_26 : decode cX10_ruleOf 26 = .ok (.ifCond .eq 17, 3) := by decide +kernel
theorem dX10_ruleOf_29 : decode cX10_ruleOf 29 = .ok (.aload_n 3, 1) := by decide +kernel
theorem dX10_ruleOf_30 : decode cX10_ruleOf 30 = .ok (.getfield 96, 3) := by decide +kernel
theorem dX10_ruleOf_33 : decode cX10_ruleOf 33 = .ok (.iload_n 1, 1) := by decide +kernel
theorem dX10_ruleOf_34 : decode cX10_ruleOf 34 = .ok (.iaload, 1) := by decide +kernel
theorem dX10_ruleOf_35 : decode cX10_ruleOf 35 = .ok (.iload_n 2, 1) := by decide +kernel
theorem dX10_ruleOf_36 : decode cX10_ruleOf 36 = .ok (.bipush 10, 2) := by decide +kernel
theorem dX10_ruleOf_38 : decode cX10_ruleOf 38 = .ok (.isub, 1) := by decide +kernel
theorem dX10_ruleOf_39 : decode cX10_ruleOf 39 = .ok (.invokestatic 100, 3) := by decide +kernel
theorem dX10_ruleOf_42 : decode cX10_ruleOf 42 = .ok (.ireturn, 1) := by decide +kernel
theorem dX10_ruleOf_43 : decode cX10_ruleOf 43 = .ok (.iload_n 2, 1) := by decide +kernel
theorem dX10_ruleOf_44 : decode cX10_ruleOf 44 = .ok (.bipush 20, 2) := by decide +kernel
theorem dX10_ruleOf_46 : decode cX10_ruleOf 46 = .ok (.iconst 4, 1) := by decide +kernel
theorem dX10_ruleOf_47 : decode cX10_ruleOf 47 = .ok (.invokestatic 92, 3) := by decide +kernel
theorem dX10_ruleOf_50 : decode cX10_ruleOf 50 = .ok (.ifCond .eq 17, 3) := by decide +kernel
theorem dX10_ruleOf_53 : decode cX10_ruleOf 53 = .ok (.aload_n 3, 1) := by decide +kernel
theorem dX10_ruleOf_54 : decode cX10_ruleOf 54 = .ok (.getfield 106, 3) := by decide +kernel
theorem dX10_ruleOf_57 : decode cX10_ruleOf 57 = .ok (.iload_n 1, 1) := by decide +kernel
theorem dX10_ruleOf_58 : decode cX10_ruleOf 58 = .ok (.iaload, 1) := by decide +kernel
theorem dX10_ruleOf_59 : decode cX10_ruleOf 59 = .ok (.iload_n 2, 1) := by decide +kernel
theorem dX10_ruleOf_60 : decode cX10_ruleOf 60 = .ok (.bipush 20, 2) := by decide +kernel
theorem dX10_ruleOf_62 : decode cX10_ruleOf 62 = .ok (.isub, 1) := by decide +kernel
theorem dX10_ruleOf_63 : decode cX10_ruleOf 63 = .ok (.invokestatic 100, 3) := by decide +kernel
theorem dX10_ruleOf_66 : decode cX10_ruleOf 66 = .ok (.ireturn, 1) := by decide +kernel
theorem dX10_ruleOf_67 : decode cX10_ruleOf 67 = .ok (.iload_n 2, 1) := by decide +kernel
theorem dX10_ruleOf_68 : decode cX10_ruleOf 68 = .ok (.tableswitch 91 0 4 #[36, 43, 50, 71, 84], 36) := by decide +kernel
theorem dX10_ruleOf_104 : decode cX10_ruleOf 104 = .ok (.aload_n 3, 1) := by decide +kernel
theorem dX10_ruleOf_105 : decode cX10_ruleOf 105 = .ok (.getfield 109, 3) := by decide +kernel
theorem dX10_ruleOf_108 : decode cX10_ruleOf 108 = .ok (.iload_n 1, 1) := by decide +kernel
theorem dX10_ruleOf_109 : decode cX10_ruleOf 109 = .ok (.iaload, 1) := by decide +kernel
theorem dX10_ruleOf_110 : decode cX10_ruleOf 110 = .ok (.ireturn, 1) := by decide +kernel
theorem dX10_ruleOf_111 : decode cX10_ruleOf 111 = .ok (.aload_n 3, 1) := by decide +kernel
theorem dX10_ruleOf_112 : decode cX10_ruleOf 112 = .ok (.getfield 112, 3) := by decide +kernel
theorem dX10_ruleOf_115 : decode cX10_ruleOf 115 = .ok (.iload_n 1, 1) := by decide +kernel
theorem dX10_ruleOf_116 : decode cX10_ruleOf 116 = .ok (.iaload, 1) := by decide +kernel
theorem dX10_ruleOf_117 : decode cX10_ruleOf 117 = .ok (.ireturn, 1) := by decide +kernel
theorem dX10_ruleOf_118 : decode cX10_ruleOf 118 = .ok (.aload_n 3, 1) := by decide +kernel
theorem dX10_ruleOf_119 : decode cX10_ruleOf 119 = .ok (.getfield 112, 3) := by decide +kernel
theorem dX10_ruleOf_122 : decode cX10_ruleOf 122 = .ok (.iload_n 1, 1) := by decide +kernel
theorem dX10_ruleOf_123 : decode cX10_ruleOf 123 = .ok (.iaload, 1) := by decide +kernel
theorem dX10_ruleOf_124 : decode cX10_ruleOf 124 = .ok (.aload_n 3, 1) := by decide +kernel
theorem dX10_ruleOf_125 : decode cX10_ruleOf 125 = .ok (.getfield 109, 3) := by decide +kernel
theorem dX10_ruleOf_128 : decode cX10_ruleOf 128 = .ok (.iload_n 1, 1) := by decide +kernel
theorem dX10_ruleOf_129 : decode cX10_ruleOf 129 = .ok (.iaload, 1) := by decide +kernel
theorem dX10_ruleOf_130 : decode cX10_ruleOf 130 = .ok (.if_icmp .ge 7, 3) := by decide +kernel
theorem dX10_ruleOf_133 : decode cX10_ruleOf 133 = .ok (.iconst 1, 1) := by decide +kernel
theorem dX10_ruleOf_134 : decode cX10_ruleOf 134 = .ok (.goto 4, 3) := by decide +kernel
theorem dX10_ruleOf_137 : decode cX10_ruleOf 137 = .ok (.iconst 0, 1) := by decide +kernel
theorem dX10_ruleOf_138 : decode cX10_ruleOf 138 = .ok (.ireturn, 1) := by decide +kernel
theorem dX10_ruleOf_139 : decode cX10_ruleOf 139 = .ok (.aload_n 3, 1) := by decide +kernel
theorem dX10_ruleOf_140 : decode cX10_ruleOf 140 = .ok (.aload_n 0, 1) := by decide +kernel
theorem dX10_ruleOf_141 : decode cX10_ruleOf 141 = .ok (.getfield 10, 3) := by decide +kernel
theorem dX10_ruleOf_144 : decode cX10_ruleOf 144 = .ok (.getfield 115, 3) := by decide +kernel
theorem dX10_ruleOf_147 : decode cX10_ruleOf 147 = .ok (.iload_n 1, 1) := by decide +kernel
theorem dX10_ruleOf_148 : decode cX10_ruleOf 148 = .ok (.invokevirtual 118, 3) := by decide +kernel
theorem dX10_ruleOf_151 : decode cX10_ruleOf 151 = .ok (.ireturn, 1) := by decide +kernel
theorem dX10_ruleOf_152 : decode cX10_ruleOf 152 = .ok (.aload_n 3, 1) := by decide +kernel
theorem dX10_ruleOf_153 : decode cX10_ruleOf 153 = .ok (.getfield 121, 3) := by decide +kernel
theorem dX10_ruleOf_156 : decode cX10_ruleOf 156 = .ok (.iload_n 1, 1) := by decide +kernel
theorem dX10_ruleOf_157 : decode cX10_ruleOf 157 = .ok (.iaload, 1) := by decide +kernel
theorem dX10_ruleOf_158 : decode cX10_ruleOf 158 = .ok (.ireturn, 1) := by decide +kernel
theorem dX10_ruleOf_159 : decode cX10_ruleOf 159 = .ok (.ldc 71, 2) := by decide +kernel
theorem dX10_ruleOf_161 : decode cX10_ruleOf 161 = .ok (.ireturn, 1) := by decide +kernel
set_option maxRecDepth 20000 in
theorem ggX10_step_X10_startTrial : GoodIn wsX10_step wsX10_startTrial := goodIn_r _ [6, 1, 7, 8, 9, 10, 11, 12, 13, 14, 15, 16, 17, 18, 19, 20, 21, 22, 23, 24, 25, 26, 27, 28, 29, 30, 31, 32, 33, 34, 35, 36, 37, 38, 39, 78, 79, 80, 81, 82, 83, 84, 85, 86, 87, 88, 89, 90, 91, 92, 93, 94, 95, 96, 97, 98, 99, 100] (by decide +kernel) (by decide +kernel)
set_option maxRecDepth 20000 in
theorem gX10_step_X10_startTrial : GoodIn wsX10_step (wsV RX10 72 RX10 yX10_startTrial wsX10_startTrial) := goodIn_app (goodIn_of _ (by decide +kernel)) ggX10_step_X10_startTrial
set_option maxRecDepth 20000 in
theorem ggX10_step_X6_takeStep : GoodIn wsX10_step wsX6_takeStep := goodIn_r _ [42, 12, 14, 15, 43, 17, 44, 19, 45, 46, 31, 47, 48, 49, 50, 51, 52, 53, 28, 22, 54, 55, 56, 57, 58, 59, 60, 27, 29, 61, 62, 86, 87, 88, 89, 90, 91, 92, 93, 94, 95, 96, 97] (by decide +kernel) (by decide +kernel)
set_option maxRecDepth 20000 in
theorem gX10_step_X6_takeStep_n124 : GoodIn wsX10_step (wsX6_takeStep) := ggX10_step_X6_takeStep
set_option maxRecDepth 20000 in
theorem ggX10_step_X10_keepTrial : GoodIn wsX10_step wsX10_keepTrial := goodIn_r _ [66, 67, 7, 1, 68, 69, 70, 71, 72, 73, 74, 75, 76, 77, 8, 9, 10, 11, 12, 13, 14, 15, 16, 17, 18, 19, 20, 21, 22, 23, 24, 25, 26, 27, 28, 29, 30, 31, 32, 33, 34, 35, 36, 37, 38, 39, 78, 79, 80, 81, 82, 83, 84, 85, 101, 102, 86, 87, 88, 89, 90, 91, 92, 93, 94, 95, 96, 97, 98, 99, 100] (by decide +kernel) (by decide +kernel)
set_option maxRecDepth 20000 in
theorem gX10_step_X10_keepTrial : GoodIn wsX10_step (wsV RX10 79 RX10 yX10_keepTrial wsX10_keepTrial) := goodIn_app (goodIn_of _ (by decide +kernel)) ggX10_step_X10_keepTrial
theorem dX10_step_0 : decode cX10_step 0 = .ok (.aload_n 0, 1) := by decide +kernel
theorem dX10_step_1 : decode cX10_step 1 = .ok (.invokevirtual 72, 3) := by decide +kernel
theorem dX10_step_4 : decode cX10_step 4 = .ok (.aload_n 0, 1) := by decide +kernel
theorem dX10_step_5 : decode cX10_step 5 = .ok (.getfield 16, 3) := by decide +kernel
theorem dX10_step_8 : decode cX10_step 8 = .ok (.invokevirtual 124, 3) := by decide +kernel
theorem dX10_step_11 : decode cX10_step 11 = .ok (.istore_n 1, 1) := by decide +kernel
theorem dX10_step_12 : decode cX10_step 12 = .ok (.iload_n 1, 1) := by decide +kernel
theorem dX10_step_13 : decode cX10_step 13 = .ok (.ifCond .lt 7, 3) := by decide +kernel
theorem dX10_step_16 : decode cX10_step 16 = .ok (.aload_n 0, 1) := by decide +kernel
theorem dX10_step_17 : decode cX10_step 17 = .ok (.invokevirtual 79, 3) := by decide +kernel
theorem dX10_step_20 : decode cX10_step 20 = .ok (.iload_n 1, 1) := by decide +kernel
theorem dX10_step_21 : decode cX10_step 21 = .ok (.ireturn, 1) := by decide +kernel
set_option maxRecDepth 20000 in
theorem ggX10_normal_X10_startTrial : GoodIn wsX10_normal wsX10_startTrial := goodIn_r _ [7, 1, 8, 9, 10, 11, 12, 13, 14, 15, 16, 17, 18, 19, 20, 21, 22, 23, 24, 25, 26, 27, 28, 29, 30, 31, 32, 33, 34, 35, 36, 37, 38, 39, 40, 112, 113, 114, 115, 116, 117, 118, 119, 120, 121, 122, 123, 124, 125, 126, 127, 128, 129, 130, 131, 132, 133, 134] (by decide +kernel) (by decide +kernel)
set_option maxRecDepth 20000 in
theorem gX10_normal_X10_startTrial : GoodIn wsX10_normal (wsV RX10 72 RX10 yX10_startTrial wsX10_startTrial) := goodIn_app (goodIn_of _ (by decide +kernel)) ggX10_normal_X10_startTrial
set_option maxRecDepth 20000 in
theorem ggX10_normal_X6_reduce : GoodIn wsX10_normal wsX6_reduce := goodIn_r _ [43, 14, 15, 17, 13, 16, 44, 45, 18, 46, 34, 47, 48, 40, 37, 49, 50, 51, 39, 52, 53, 54, 55, 56, 57, 58, 59, 60, 61, 62, 63, 64, 65, 66, 67, 68, 69, 20, 70, 71, 32, 72, 73, 74, 75, 76, 77, 78, 29, 23, 79, 80, 81, 82, 83, 84, 85, 28, 30, 86, 87, 88, 89, 90, 91, 92, 93, 94, 95, 96, 120, 121, 122, 123, 124, 125, 135, 136, 137, 138, 139, 132, 133, 134, 126, 127, 128, 129, 130, 131] (by decide +kernel) (by decide +kernel)
set_option maxRecDepth 20000 in
theorem gX10_normal_X6_reduce_n128 : GoodIn wsX10_normal (wsX6_reduce) := ggX10_normal_X6_reduce
set_option maxRecDepth 20000 in
theorem ggX10_normal_X10_keepTrial : GoodIn wsX10_normal wsX10_keepTrial := goodIn_r _ [100, 101, 8, 1, 102, 103, 104, 105, 106, 107, 108, 109, 110, 111, 9, 10, 11, 12, 13, 14, 15, 16, 17, 18, 19, 20, 21, 22, 23, 24, 25, 26, 27, 28, 29, 30, 31, 32, 33, 34, 35, 36, 37, 38, 39, 40, 112, 113, 114, 115, 116, 117, 118, 119, 140, 141, 120, 121, 122, 123, 124, 125, 126, 127, 128, 129, 130, 131, 132, 133, 134] (by decide +kernel) (by decide +kernel)
set_option maxRecDepth 20000 in
theorem gX10_normal_X10_keepTrial : GoodIn wsX10_normal (wsV RX10 79 RX10 yX10_keepTrial wsX10_keepTrial) := goodIn_app (goodIn_of _ (by decide +kernel)) ggX10_normal_X10_keepTrial
theorem dX10_normal_0 : decode cX10_normal 0 = .ok (.aload_n 0, 1) := by decide +kernel
theorem dX10_normal_1 : decode cX10_normal 1 = .ok (.invokevirtual 72, 3) := by decide +kernel
theorem dX10_normal_4 : decode cX10_normal 4 = .ok (.aload_n 0, 1) := by decide +kernel
theorem dX10_normal_5 : decode cX10_normal 5 = .ok (.getfield 16, 3) := by decide +kernel
theorem dX10_normal_8 : decode cX10_normal 8 = .ok (.aload_n 0, 1) := by decide +kernel
theorem dX10_normal_9 : decode cX10_normal 9 = .ok (.getfield 29, 3) := by decide +kernel
theorem dX10_normal_12 : decode cX10_normal 12 = .ok (.invokevirtual 128, 3) := by decide +kernel
theorem dX10_normal_15 : decode cX10_normal 15 = .ok (.istore_n 1, 1) := by decide +kernel
theorem dX10_normal_16 : decode cX10_normal 16 = .ok (.iload_n 1, 1) := by decide +kernel
theorem dX10_normal_17 : decode cX10_normal 17 = .ok (.ifCond .lt 7, 3) := by decide +kernel
theorem dX10_normal_20 : decode cX10_normal 20 = .ok (.aload_n 0, 1) := by decide +kernel
theorem dX10_normal_21 : decode cX10_normal 21 = .ok (.invokevirtual 79, 3) := by decide +kernel
theorem dX10_normal_24 : decode cX10_normal 24 = .ok (.iload_n 1, 1) := by decide +kernel
theorem dX10_normal_25 : decode cX10_normal 25 = .ok (.ireturn, 1) := by decide +kernel
set_option maxRecDepth 20000 in
theorem ggX10_letterAt_X9_letterOf : GoodIn wsX10_letterAt wsX9_letterOf := goodIn_r _ [5, 6, 7, 8, 4, 9] (by decide +kernel) (by decide +kernel)
set_option maxRecDepth 20000 in
theorem gX10_letterAt_X9_letterOf_n100 : GoodIn wsX10_letterAt (wsX9_letterOf) := ggX10_letterAt_X9_letterOf
theorem dX10_letterAt_0 : decode cX10_letterAt 0 = .ok (.iload_n 1, 1) := by decide +kernel
theorem dX10_letterAt_1 : decode cX10_letterAt 1 = .ok (.ifCond .ge 6, 3) := by decide +kernel
theorem dX10_letterAt_4 : decode cX10_letterAt 4 = .ok (.ldc 71, 2) := by decide +kernel
theorem dX10_letterAt_6 : decode cX10_letterAt 6 = .ok (.ireturn, 1) := by decide +kernel
theorem dX10_letterAt_7 : decode cX10_letterAt 7 = .ok (.aload_n 0, 1) := by decide +kernel
theorem dX10_letterAt_8 : decode cX10_letterAt 8 = .ok (.getfield 10, 3) := by decide +kernel
theorem dX10_letterAt_11 : decode cX10_letterAt 11 = .ok (.getfield 115, 3) := by decide +kernel
theorem dX10_letterAt_14 : decode cX10_letterAt 14 = .ok (.iload_n 1, 1) := by decide +kernel
theorem dX10_letterAt_15 : decode cX10_letterAt 15 = .ok (.invokestatic 100, 3) := by decide +kernel
theorem dX10_letterAt_18 : decode cX10_letterAt 18 = .ok (.ireturn, 1) := by decide +kernel
set_option maxRecDepth 20000 in
theorem ggX10_next_X4_choiceFor : GoodIn wsX10_next wsX4_choiceFor := goodIn_r _ [7, 8, 9, 10, 11, 12, 13, 14, 5, 15, 16, 17, 36, 37, 38, 39, 40, 41] (by decide +kernel) (by decide +kernel)
set_option maxRecDepth 20000 in
theorem gX10_next_X4_choiceFor_n132 : GoodIn wsX10_next (wsX4_choiceFor) := ggX10_next_X4_choiceFor
set_option maxRecDepth 20000 in
theorem ggX10_next_X4_ruleIn : GoodIn wsX10_next wsX4_ruleIn := goodIn_r _ [19] (by decide +kernel) (by decide +kernel)
set_option maxRecDepth 20000 in
theorem gX10_next_X4_ruleIn_n136 : GoodIn wsX10_next (wsX4_ruleIn) := ggX10_next_X4_ruleIn
set_option maxRecDepth 20000 in
theorem ggX10_next_X4_placeIn : GoodIn wsX10_next wsX4_placeIn := goodIn_r _ [21] (by decide +kernel) (by decide +kernel)
set_option maxRecDepth 20000 in
theorem gX10_next_X4_placeIn_n140 : GoodIn wsX10_next (wsX4_placeIn) := ggX10_next_X4_placeIn
theorem dX10_next_0 : decode cX10_next 0 = .ok (.iload_n 1, 1) := by decide +kernel
theorem dX10_next_1 : decode cX10_next 1 = .ok (.ifCond .lt 8, 3) := by decide +kernel
theorem dX10_next_4 : decode cX10_next 4 = .ok (.iload_n 1, 1) := by decide +kernel
theorem dX10_next_5 : decode cX10_next 5 = .ok (.iconst 1, 1) := by decide +kernel
theorem dX10_next_6 : decode cX10_next 6 = .ok (.if_icmp .le 6, 3) := by decide +kernel
theorem dX10_next_9 : decode cX10_next 9 = .ok (.ldc 71, 2) := by decide +kernel
theorem dX10_next_11 : decode cX10_next 11 = .ok (.ireturn, 1) := by decide +kernel
theorem dX10_next_12 : decode cX10_next 12 = .ok (.aload_n 0, 1) := by decide +kernel
theorem dX10_next_13 : decode cX10_next 13 = .ok (.getfield 10, 3) := by decide +kernel
theorem dX10_next_16 : decode cX10_next 16 = .ok (.getfield 61, 3) := by decide +kernel
theorem dX10_next_19 : decode cX10_next 19 = .ok (.aload_n 0, 1) := by decide +kernel
theorem dX10_next_20 : decode cX10_next 20 = .ok (.getfield 10, 3) := by decide +kernel
theorem dX10_next_23 : decode cX10_next 23 = .ok (.getfield 115, 3) := by decide +kernel
theorem dX10_next_26 : decode cX10_next 26 = .ok (.aload_n 0, 1) := by decide +kernel
theorem dX10_next_27 : decode cX10_next 27 = .ok (.getfield 10, 3) := by decide +kernel
theorem dX10_next_30 : decode cX10_next 30 = .ok (.getfield 86, 3) := by decide +kernel
theorem dX10_next_33 : decode cX10_next 33 = .ok (.invokevirtual 132, 3) := by decide +kernel
theorem dX10_next_36 : decode cX10_next 36 = .ok (.istore_n 2, 1) := by decide +kernel
theorem dX10_next_37 : decode cX10_next 37 = .ok (.iload_n 2, 1) := by decide +kernel
theorem dX10_next_38 : decode cX10_next 38 = .ok (.ifCond .ge 6, 3) := by decide +kernel
theorem dX10_next_41 : decode cX10_next 41 = .ok (.ldc 135, 2) := by decide +kernel
theorem dX10_next_43 : decode cX10_next 43 = .ok (.ireturn, 1) := by decide +kernel
theorem dX10_next_44 : decode cX10_next 44 = .ok (.iload_n 1, 1) := by decide +kernel
theorem dX10_next_45 : decode cX10_next 45 = .ok (.ifCond .ne 10, 3) := by decide +kernel
theorem dX10_next_48 : decode cX10_next 48 = .ok (.iload_n 2, 1) := by decide +kernel
theorem dX10_next_49 : decode cX10_next 49 = .ok (.invokestatic 136, 3) := by decide +kernel
theorem dX10_next_52 : decode cX10_next 52 = .ok (.goto 7, 3) := by decide +kernel
theorem dX10_next_55 : decode cX10_next 55 = .ok (.iload_n 2, 1) := by decide +kernel
theorem dX10_next_56 : decode cX10_next 56 = .ok (.invokestatic 140, 3) := by decide +kernel
theorem dX10_next_59 : decode cX10_next 59 = .ok (.ireturn, 1) := by decide +kernel
set_option maxRecDepth 20000 in
theorem ggX10_reduced_X10_isLetterOf : GoodIn wsX10_reduced wsX10_isLetterOf := goodIn_r _ [8] (by decide +kernel) (by decide +kernel)
set_option maxRecDepth 20000 in
theorem gX10_reduced_X10_isLetterOf : GoodIn wsX10_reduced (va_wsS RX10 92 yX10_isLetterOf wsX10_isLetterOf) := goodIn_app (goodIn_of _ (by decide +kernel)) ggX10_reduced_X10_isLetterOf
set_option maxRecDepth 20000 in
theorem ggX10_reduced_X3_run : GoodIn wsX10_reduced wsX3_run := goodIn_r _ [12, 13, 14, 15, 16, 17, 18, 19, 20, 10, 21, 22, 23, 24, 25, 26, 27, 28, 29, 30, 31, 32, 33, 34, 35, 36, 37, 38, 39, 40, 41, 42, 43, 44, 45, 46, 72, 73, 74, 75, 76, 77, 78, 79, 80, 81, 82] (by decide +kernel) (by decide +kernel)
set_option maxRecDepth 20000 in
theorem gX10_reduced_X3_run_n143 : GoodIn wsX10_reduced (wsX3_run) := ggX10_reduced_X3_run
set_option maxRecDepth 20000 in
theorem ggX10_reduced_X10_ringAnswer : GoodIn wsX10_reduced wsX10_ringAnswer := goodIn_r _ [50, 2, 4, 58, 59, 60, 61, 62, 63, 64, 65, 72, 73, 74, 75, 76] (by decide +kernel) (by decide +kernel)
set_option maxRecDepth 20000 in
theorem gX10_reduced_X10_ringAnswer : GoodIn wsX10_reduced (wsV RX10 153 RX10 yX10_ringAnswer wsX10_ringAnswer) := goodIn_app (goodIn_of _ (by decide +kernel)) ggX10_reduced_X10_ringAnswer
set_option maxRecDepth 20000 in
theorem ggX10_reduced_X3_last : GoodIn wsX10_reduced wsX3_last := goodIn_r _ [53, 13, 14, 72, 73, 74, 75, 76] (by decide +kernel) (by decide +kernel)
set_option maxRecDepth 20000 in
theorem gX10_reduced_X3_last_n156 : GoodIn wsX10_reduced (wsX3_last) := ggX10_reduced_X3_last
set_option maxRecDepth 20000 in
theorem ggX10_reduced_X9_letterOf : GoodIn wsX10_reduced wsX9_letterOf := goodIn_r _ [55, 56, 57, 27, 28, 29] (by decide +kernel) (by decide +kernel)
set_option maxRecDepth 20000 in
theorem gX10_reduced_X9_letterOf_n100 : GoodIn wsX10_reduced (wsX9_letterOf) := ggX10_reduced_X9_letterOf
set_option maxRecDepth 20000 in
theorem ggX10_reduced_X9_lengthOf : GoodIn wsX10_reduced wsX9_lengthOf := goodIn_r _ [29] (by decide +kernel) (by decide +kernel)
set_option maxRecDepth 20000 in
theorem gX10_reduced_X9_lengthOf_n159 : GoodIn wsX10_reduced (wsX9_lengthOf) := ggX10_reduced_X9_lengthOf
theorem dX10_reduced_0 : decode cX10_reduced 0 = .ok (.iload_n 1, 1) := by decide +kernel
theorem dX10_reduced_1 : decode cX10_reduced 1 = .ok (.bipush 10, 2) := by decide +kernel
theorem dX10_reduced_3 : decode cX10_reduced 3 = .ok (.bipush 12, 2) := by decide +kernel
theorem dX10_reduced_5 : decode cX10_reduced 5 = .ok (.invokestatic 92, 3) := by decide +kernel
theorem dX10_reduced_8 : decode cX10_reduced 8 = .ok (.istore_n 2, 1) := by decide +kernel
theorem dX10_reduced_9 : decode cX10_reduced 9 = .ok (.iload_n 2, 1) := by decide +kernel
theorem dX10_reduced_10 : decode cX10_reduced 10 = .ok (.ifCond .ne 15, 3) := by decide +kernel
theorem dX10_reduced_13 : decode cX10_reduced 13 = .ok (.iload_n 1, 1) := by decide +kernel
theorem dX10_reduced_14 : decode cX10_reduced 14 = .ok (.ifCond .lt 8, 3) := by decide +kernel
theorem dX10_reduced_17 : decode cX10_reduced 17 = .ok (.iload_n 1, 1) := by decide +kernel
theorem dX10_reduced_18 : decode cX10_reduced 18 = .ok (.iconst 4, 1) := by decide +kernel
theorem dX10_reduced_19 : decode cX10_reduced 19 = .ok (.if_icmp .le 6, 3) := by decide +kernel
theorem dX10_reduced_22 : decode cX10_reduced 22 = .ok (.ldc 71, 2) := by decide +kernel
theorem dX10_reduced_24 : decode cX10_reduced 24 = .ok (.ireturn, 1) := by decide +kernel
theorem dX10_reduced_25 : decode cX10_reduced 25 = .ok (.aload_n 0, 1) := by decide +kernel
theorem dX10_reduced_26 : decode cX10_reduced 26 = .ok (.getfield 29, 3) := by decide +kernel
theorem dX10_reduced_29 : decode cX10_reduced 29 = .ok (.aload_n 0, 1) := by decide +kernel
theorem dX10_reduced_30 : decode cX10_reduced 30 = .ok (.getfield 10, 3) := by decide +kernel
theorem dX10_reduced_33 : decode cX10_reduced 33 = .ok (.getfield 61, 3) := by decide +kernel
theorem dX10_reduced_36 : decode cX10_reduced 36 = .ok (.aload_n 0, 1) := by decide +kernel
theorem dX10_reduced_37 : decode cX10_reduced 37 = .ok (.getfield 10, 3) := by decide +kernel
theorem dX10_reduced_40 : decode cX10_reduced 40 = .ok (.getfield 86, 3) := by decide +kernel
theorem dX10_reduced_43 : decode cX10_reduced 43 = .ok (.aload_n 0, 1) := by decide +kernel
theorem dX10_reduced_44 : decode cX10_reduced 44 = .ok (.getfield 10, 3) := by decide +kernel
theorem dX10_reduced_47 : decode cX10_reduced 47 = .ok (.getfield 115, 3) := by decide +kernel
theorem dX10_reduced_50 : decode cX10_reduced 50 = .ok (.invokevirtual 143, 3) := by decide +kernel
theorem dX10_reduced_53 : decode cX10_reduced 53 = .ok (.iload_n 1, 1) := by decide +kernel
theorem dX10_reduced_54 : decode cX10_reduced 54 = .ok (.ifCond .ne 11, 3) := by decide +kernel
theorem dX10_reduced_57 : decode cX10_reduced 57 = .ok (.aload_n 0, 1) := by decide +kernel
theorem dX10_reduced_58 : decode cX10_reduced 58 = .ok (.getfield 29, 3) := by decide +kernel
theorem dX10_reduced_61 : decode cX10_reduced 61 = .ok (.getfield 147, 3) := by decide +kernel
theorem dX10_reduced_64 : decode cX10_reduced 64 = .ok (.ireturn, 1) := by decide +kernel
theorem dX10_reduced_65 : decode cX10_reduced 65 = .ok (.iload_n 1, 1) := by decide +kernel
theorem dX10_reduced_66 : decode cX10_reduced 66 = .ok (.iconst 1, 1) := by decide +kernel
theorem dX10_reduced_67 : decode cX10_reduced 67 = .ok (.if_icmp .ne 11, 3) := by decide +kernel
theorem dX10_reduced_70 : decode cX10_reduced 70 = .ok (.aload_n 0, 1) := by decide +kernel
theorem dX10_reduced_71 : decode cX10_reduced 71 = .ok (.getfield 29, 3) := by decide +kernel
theorem dX10_reduced_74 : decode cX10_reduced 74 = .ok (.getfield 150, 3) := by decide +kernel
theorem dX10_reduced_77 : decode cX10_reduced 77 = .ok (.ireturn, 1) := by decide +kernel
theorem dX10_reduced_78 : decode cX10_reduced 78 = .ok (.iload_n 1, 1) := by decide +kernel
theorem dX10_reduced_79 : decode cX10_reduced 79 = .ok (.iconst 2, 1) := by decide +kernel
theorem dX10_reduced_80 : decode cX10_reduced 80 = .ok (.if_icmp .eq 8, 3) := by decide +kernel
theorem dX10_reduced_83 : decode cX10_reduced 83 = .ok (.iload_n 1, 1) := by decide +kernel
theorem dX10_reduced_84 : decode cX10_reduced 84 = .ok (.iconst 3, 1) := by decide +kernel
theorem dX10_reduced_85 : decode cX10_reduced 85 = .ok (.if_icmp .ne 9, 3) := by decide +kernel
theorem dX10_reduced_88 : decode cX10_reduced 88 = .ok (.aload_n 0, 1) := by decide +kernel
theorem dX10_reduced_89 : decode cX10_reduced 89 = .ok (.iload_n 1, 1) := by decide +kernel
theorem dX10_reduced_90 : decode cX10_reduced 90 = .ok (.invokevirtual 153, 3) := by decide +kernel
theorem dX10_reduced_93 : decode cX10_reduced 93 = .ok (.ireturn, 1) := by decide +kernel
theorem dX10_reduced_94 : decode cX10_reduced 94 = .ok (.aload_n 0, 1) := by decide +kernel
theorem dX10_reduced_95 : decode cX10_reduced 95 = .ok (.getfield 29, 3) := by decide +kernel
theorem dX10_reduced_98 : decode cX10_reduced 98 = .ok (.getfield 147, 3) := by decide +kernel
theorem dX10_reduced_101 : decode cX10_reduced 101 = .ok (.ifCond .eq 6, 3) := by decide +kernel
theorem dX10_reduced_104 : decode cX10_reduced 104 = .ok (.ldc 135, 2) := by decide +kernel
theorem dX10_reduced_106 : decode cX10_reduced 106 = .ok (.ireturn, 1) := by decide +kernel
theorem dX10_reduced_107 : decode cX10_reduced 107 = .ok (.iload_n 2, 1) := by decide +kernel
theorem dX10_reduced_108 : decode cX10_reduced 108 = .ok (.ifCond .eq 20, 3) := by decide +kernel
theorem dX10_reduced_111 : decode cX10_reduced 111 = .ok (.aload_n 0, 1) := by decide +kernel
theorem dX10_reduced_112 : decode cX10_reduced 112 = .ok (.getfield 29, 3) := by decide +kernel
theorem dX10_reduced_115 : decode cX10_reduced 115 = .ok (.invokevirtual 156, 3) := by decide +kernel
theorem dX10_reduced_118 : decode cX10_reduced 118 = .ok (.iload_n 1, 1) := by decide +kernel
theorem dX10_reduced_119 : decode cX10_reduced 119 = .ok (.bipush 10, 2) := by decide +kernel
theorem dX10_reduced_121 : decode cX10_reduced 121 = .ok (.isub, 1) := by decide +kernel
theorem dX10_reduced_122 : decode cX10_reduced 122 = .ok (.invokestatic 100, 3) := by decide +kernel
theorem dX10_reduced_125 : decode cX10_reduced 125 = .ok (.goto 13, 3) := by decide +kernel
theorem dX10_reduced_128 : decode cX10_reduced 128 = .ok (.aload_n 0, 1) := by decide +kernel
theorem dX10_reduced_129 : decode cX10_reduced 129 = .ok (.getfield 29, 3) := by decide +kernel
theorem dX10_reduced_132 : decode cX10_reduced 132 = .ok (.invokevirtual 156, 3) := by decide +kernel
theorem dX10_reduced_135 : decode cX10_reduced 135 = .ok (.invokestatic 159, 3) := by decide +kernel
theorem dX10_reduced_138 : decode cX10_reduced 138 = .ok (.ireturn, 1) := by decide +kernel
theorem dX10_ringAnswer_0 : decode cX10_ringAnswer 0 = .ok (.aload_n 0, 1) := by decide +kernel
theorem dX10_ringAnswer_1 : decode cX10_ringAnswer 1 = .ok (.getfield 29, 3) := by decide +kernel
theorem dX10_ringAnswer_4 : decode cX10_ringAnswer 4 = .ok (.getfield 147, 3) := by decide +kernel
theorem dX10_ringAnswer_7 : decode cX10_ringAnswer 7 = .ok (.iconst 1, 1) := by decide +kernel
theorem dX10_ringAnswer_8 : decode cX10_ringAnswer 8 = .ok (.if_icmp .eq 6, 3) := by decide +kernel
theorem dX10_ringAnswer_11 : decode cX10_ringAnswer 11 = .ok (.ldc 135, 2) := by decide +kernel
theorem dX10_ringAnswer_13 : decode cX10_ringAnswer 13 = .ok (.ireturn, 1) := by decide +kernel
theorem dX10_ringAnswer_14 : decode cX10_ringAnswer 14 = .ok (.iload_n 1, 1) := by decide +kernel
theorem dX10_ringAnswer_15 : decode cX10_ringAnswer 15 = .ok (.iconst 2, 1) := by decide +kernel
theorem dX10_ringAnswer_16 : decode cX10_ringAnswer 16 = .ok (.if_icmp .ne 21, 3) := by decide +kernel
theorem dX10_ringAnswer_19 : decode cX10_ringAnswer 19 = .ok (.aload_n 0, 1) := by decide +kernel
theorem dX10_ringAnswer_20 : decode cX10_ringAnswer 20 = .ok (.getfield 29, 3) := by decide +kernel
theorem dX10_ringAnswer_23 : decode cX10_ringAnswer 23 = .ok (.getfield 150, 3) := by decide +kernel
theorem dX10_ringAnswer_26 : decode cX10_ringAnswer 26 = .ok (.aload_n 0, 1) := by decide +kernel
theorem dX10_ringAnswer_27 : decode cX10_ringAnswer 27 = .ok (.getfield 29, 3) := by decide +kernel
theorem dX10_ringAnswer_30 : decode cX10_ringAnswer 30 = .ok (.getfield 162, 3) := by decide +kernel
theorem dX10_ringAnswer_33 : decode cX10_ringAnswer 33 = .ok (.isub, 1) := by decide +kernel
theorem dX10_ringAnswer_34 : decode cX10_ringAnswer 34 = .ok (.goto 10, 3) := by decide +kernel
theorem dX10_ringAnswer_37 : decode cX10_ringAnswer 37 = .ok (.aload_n 0, 1) := by decide +kernel
theorem dX10_ringAnswer_38 : decode cX10_ringAnswer 38 = .ok (.getfield 29, 3) := by decide +kernel
theorem dX10_ringAnswer_41 : decode cX10_ringAnswer 41 = .ok (.getfield 162, 3) := by decide +kernel
theorem dX10_ringAnswer_44 : decode cX10_ringAnswer 44 = .ok (.ireturn, 1) := by decide +kernel
set_option maxRecDepth 20000 in
theorem ggX10_reached_X10_isLetterOf : GoodIn wsX10_reached wsX10_isLetterOf := goodIn_r _ [9] (by decide +kernel) (by decide +kernel)
set_option maxRecDepth 20000 in
theorem gX10_reached_X10_isLetterOf : GoodIn wsX10_reached (va_wsS RX10 92 yX10_isLetterOf wsX10_isLetterOf) := goodIn_app (goodIn_of _ (by decide +kernel)) ggX10_reached_X10_isLetterOf
set_option maxRecDepth 20000 in
theorem ggX10_reached_X2_run : GoodIn wsX10_reached wsX2_run := goodIn_r _ [13, 14, 15, 16, 17, 18, 19, 20, 21, 22, 23, 24, 25, 11, 26, 27, 28, 29, 30, 31, 32, 33, 34, 35, 36, 37, 38, 39, 40, 41, 42, 43, 44, 45, 46, 47, 48, 49, 50, 51, 52, 53, 54, 55, 56, 57, 58, 59, 60, 79, 80, 81, 82, 83, 84, 85, 86, 87, 88, 89, 90, 91] (by decide +kernel) (by decide +kernel)
set_option maxRecDepth 20000 in
theorem gX10_reached_X2_run_n165 : GoodIn wsX10_reached (wsX2_run) := ggX10_reached_X2_run
set_option maxRecDepth 20000 in
theorem ggX10_reached_X9_letterOf : GoodIn wsX10_reached wsX9_letterOf := goodIn_r _ [62, 63, 64, 32, 33, 34] (by decide +kernel) (by decide +kernel)
set_option maxRecDepth 20000 in
theorem gX10_reached_X9_letterOf_n100 : GoodIn wsX10_reached (wsX9_letterOf) := ggX10_reached_X9_letterOf
set_option maxRecDepth 20000 in
theorem ggX10_reached_X9_lengthOf : GoodIn wsX10_reached wsX9_lengthOf := goodIn_r _ [34] (by decide +kernel) (by decide +kernel)
set_option maxRecDepth 20000 in
theorem gX10_reached_X9_lengthOf_n159 : GoodIn wsX10_reached (wsX9_lengthOf) := ggX10_reached_X9_lengthOf
theorem dX10_reached_0 : decode cX10_reached 0 = .ok (.iload_n 1, 1) := by decide +kernel
theorem dX10_reached_1 : decode cX10_reached 1 = .ok (.bipush 10, 2) := by decide +kernel
theorem dX10_reached_3 : decode cX10_reached 3 = .ok (.bipush 12, 2) := by decide +kernel
theorem dX10_reached_5 : decode cX10_reached 5 = .ok (.invokestatic 92, 3) := by decide +kernel
theorem dX10_reached_8 : decode cX10_reached 8 = .ok (.istore_n 2, 1) := by decide +kernel
theorem dX10_reached_9 : decode cX10_reached 9 = .ok (.iload_n 1, 1) := by decide +kernel
theorem dX10_reached_10 : decode cX10_reached 10 = .ok (.bipush 30, 2) := by decide +kernel
theorem dX10_reached_12 : decode cX10_reached 12 = .ok (.bipush 12, 2) := by decide +kernel
theorem dX10_reached_14 : decode cX10_reached 14 = .ok (.invokestatic 92, 3) := by decide +kernel
theorem dX10_reached_17 : decode cX10_reached 17 = .ok (.istore_n 3, 1) := by decide +kernel
theorem dX10_reached_18 : decode cX10_reached 18 = .ok (.iload_n 2, 1) := by decide +kernel
theorem dX10_reached_19 : decode cX10_reached 19 = .ok (.ifCond .ne 19, 3) := by decide +kernel
theorem dX10_reached_22 : decode cX10_reached 22 = .ok (.iload_n 3, 1) := by decide +kernel
theorem dX10_reached_23 : decode cX10_reached 23 = .ok (.ifCond .ne 15, 3) := by decide +kernel
theorem dX10_reached_26 : decode cX10_reached 26 = .ok (.iload_n 1, 1) := by decide +kernel
theorem dX10_reached_27 : decode cX10_reached 27 = .ok (.ifCond .lt 8, 3) := by decide +kernel
theorem dX10_reached_30 : decode cX10_reached 30 = .ok (.iload_n 1, 1) := by decide +kernel
theorem dX10_reached_31 : decode cX10_reached 31 = .ok (.iconst 3, 1) := by decide +kernel
theorem dX10_reached_32 : decode cX10_reached 32 = .ok (.if_icmp .le 6, 3) := by decide +kernel
theorem dX10_reached_35 : decode cX10_reached 35 = .ok (.ldc 71, 2) := by decide +kernel
theorem dX10_reached_37 : decode cX10_reached 37 = .ok (.ireturn, 1) := by decide +kernel
theorem dX10_reached_38 : decode cX10_reached 38 = .ok (.aload_n 0, 1) := by decide +kernel
theorem dX10_reached_39 : decode cX10_reached 39 = .ok (.getfield 36, 3) := by decide +kernel
theorem dX10_reached_42 : decode cX10_reached 42 = .ok (.aload_n 0, 1) := by decide +kernel
theorem dX10_reached_43 : decode cX10_reached 43 = .ok (.getfield 10, 3) := by decide +kernel
theorem dX10_reached_46 : decode cX10_reached 46 = .ok (.getfield 61, 3) := by decide +kernel
theorem dX10_reached_49 : decode cX10_reached 49 = .ok (.aload_n 0, 1) := by decide +kernel
theorem dX10_reached_50 : decode cX10_reached 50 = .ok (.getfield 10, 3) := by decide +kernel
theorem dX10_reached_53 : decode cX10_reached 53 = .ok (.getfield 115, 3) := by decide +kernel
theorem dX10_reached_56 : decode cX10_reached 56 = .ok (.invokevirtual 165, 3) := by decide +kernel
theorem dX10_reached_59 : decode cX10_reached 59 = .ok (.aload_n 0, 1) := by decide +kernel
theorem dX10_reached_60 : decode cX10_reached 60 = .ok (.getfield 36, 3) := by decide +kernel
theorem dX10_reached_63 : decode cX10_reached 63 = .ok (.getfield 168, 3) := by decide +kernel
theorem dX10_reached_66 : decode cX10_reached 66 = .ok (.ifCond .eq 6, 3) := by decide +kernel
theorem dX10_reached_69 : decode cX10_reached 69 = .ok (.ldc 172, 2) := by decide +kernel
theorem dX10_reached_71 : decode cX10_reached 71 = .ok (.ireturn, 1) := by decide +kernel
theorem dX10_reached_72 : decode cX10_reached 72 = .ok (.iload_n 1, 1) := by decide +kernel
theorem dX10_reached_73 : decode cX10_reached 73 = .ok (.ifCond .ne 11, 3) := by decide +kernel
theorem dX10_reached_76 : decode cX10_reached 76 = .ok (.aload_n 0, 1) := by decide +kernel
theorem dX10_reached_77 : decode cX10_reached 77 = .ok (.getfield 36, 3) := by decide +kernel
theorem dX10_reached_80 : decode cX10_reached 80 = .ok (.getfield 173, 3) := by decide +kernel
theorem dX10_reached_83 : decode cX10_reached 83 = .ok (.ireturn, 1) := by decide +kernel
theorem dX10_reached_84 : decode cX10_reached 84 = .ok (.iload_n 1, 1) := by decide +kernel
theorem dX10_reached_85 : decode cX10_reached 85 = .ok (.iconst 1, 1) := by decide +kernel
theorem dX10_reached_86 : decode cX10_reached 86 = .ok (.if_icmp .ne 11, 3) := by decide +kernel
theorem dX10_reached_89 : decode cX10_reached 89 = .ok (.aload_n 0, 1) := by decide +kernel
theorem dX10_reached_90 : decode cX10_reached 90 = .ok (.getfield 36, 3) := by decide +kernel
theorem dX10_reached_93 : decode cX10_reached 93 = .ok (.getfield 174, 3) := by decide +kernel
theorem dX10_reached_96 : decode cX10_reached 96 = .ok (.ireturn, 1) := by decide +kernel
theorem dX10_reached_97 : decode cX10_reached 97 = .ok (.aload_n 0, 1) := by decide +kernel
theorem dX10_reached_98 : decode cX10_reached 98 = .ok (.getfield 36, 3) := by decide +kernel
theorem dX10_reached_101 : decode cX10_reached 101 = .ok (.getfield 174, 3) := by decide +kernel
theorem dX10_reached_104 : decode cX10_reached 104 = .ok (.ifCond .ne 6, 3) := by decide +kernel
theorem dX10_reached_107 : decode cX10_reached 107 = .ok (.ldc 135, 2) := by decide +kernel
theorem dX10_reached_109 : decode cX10_reached 109 = .ok (.ireturn, 1) := by decide +kernel
theorem dX10_reached_110 : decode cX10_reached 110 = .ok (.iload_n 2, 1) := by decide +kernel
theorem dX10_reached_111 : decode cX10_reached 111 = .ok (.ifCond .eq 18, 3) := by decide +kernel
theorem dX10_reached_114 : decode cX10_reached 114 = .ok (.aload_n 0, 1) := by decide +kernel
theorem dX10_reached_115 : decode cX10_reached 115 = .ok (.getfield 36, 3) := by decide +kernel
theorem dX10_reached_118 : decode cX10_reached 118 = .ok (.getfield 177, 3) := by decide +kernel
theorem dX10_reached_121 : decode cX10_reached 121 = .ok (.iload_n 1, 1) := by decide +kernel
theorem dX10_reached_122 : decode cX10_reached 122 = .ok (.bipush 10, 2) := by decide +kernel
theorem dX10_reached_124 : decode cX10_reached 124 = .ok (.isub, 1) := by decide +kernel
theorem dX10_reached_125 : decode cX10_reached 125 = .ok (.invokestatic 100, 3) := by decide +kernel
theorem dX10_reached_128 : decode cX10_reached 128 = .ok (.ireturn, 1) := by decide +kernel
theorem dX10_reached_129 : decode cX10_reached 129 = .ok (.iload_n 3, 1) := by decide +kernel
theorem dX10_reached_130 : decode cX10_reached 130 = .ok (.ifCond .eq 18, 3) := by decide +kernel
theorem dX10_reached_133 : decode cX10_reached 133 = .ok (.aload_n 0, 1) := by decide +kernel
theorem dX10_reached_134 : decode cX10_reached 134 = .ok (.getfield 36, 3) := by decide +kernel
theorem dX10_reached_137 : decode cX10_reached 137 = .ok (.getfield 180, 3) := by decide +kernel
theorem dX10_reached_140 : decode cX10_reached 140 = .ok (.iload_n 1, 1) := by decide +kernel
theorem dX10_reached_141 : decode cX10_reached 141 = .ok (.bipush 30, 2) := by decide +kernel
theorem dX10_reached_143 : decode cX10_reached 143 = .ok (.isub, 1) := by decide +kernel
theorem dX10_reached_144 : decode cX10_reached 144 = .ok (.invokestatic 100, 3) := by decide +kernel
theorem dX10_reached_147 : decode cX10_reached 147 = .ok (.ireturn, 1) := by decide +kernel
theorem dX10_reached_148 : decode cX10_reached 148 = .ok (.iload_n 1, 1) := by decide +kernel
theorem dX10_reached_149 : decode cX10_reached 149 = .ok (.iconst 2, 1) := by decide +kernel
theorem dX10_reached_150 : decode cX10_reached 150 = .ok (.if_icmp .ne 13, 3) := by decide +kernel
theorem dX10_reached_153 : decode cX10_reached 153 = .ok (.aload_n 0, 1) := by decide +kernel
theorem dX10_reached_154 : decode cX10_reached 154 = .ok (.getfield 36, 3) := by decide +kernel
theorem dX10_reached_157 : decode cX10_reached 157 = .ok (.getfield 177, 3) := by decide +kernel
theorem dX10_reached_160 : decode cX10_reached 160 = .ok (.goto 10, 3) := by decide +kernel
theorem dX10_reached_163 : decode cX10_reached 163 = .ok (.aload_n 0, 1) := by decide +kernel
theorem dX10_reached_164 : decode cX10_reached 164 = .ok (.getfield 36, 3) := by decide +kernel
theorem dX10_reached_167 : decode cX10_reached 167 = .ok (.getfield 180, 3) := by decide +kernel
theorem dX10_reached_170 : decode cX10_reached 170 = .ok (.invokestatic 159, 3) := by decide +kernel
theorem dX10_reached_173 : decode cX10_reached 173 = .ok (.ireturn, 1) := by decide +kernel
set_option maxRecDepth 20000 in
theorem ggX10_storeOf_X10_isLetterOf : GoodIn wsX10_storeOf wsX10_isLetterOf := goodIn_r _ [7] (by decide +kernel) (by decide +kernel)
set_option maxRecDepth 20000 in
theorem gX10_storeOf_X10_isLetterOf : GoodIn wsX10_storeOf (va_wsS RX10 92 yX10_isLetterOf wsX10_isLetterOf) := goodIn_app (goodIn_of _ (by decide +kernel)) ggX10_storeOf_X10_isLetterOf
set_option maxRecDepth 20000 in
theorem ggX10_storeOf_X9_letterOf : GoodIn wsX10_storeOf wsX9_letterOf := goodIn_r _ [10, 11, 12, 13, 9, 14] (by decide +kernel) (by decide +kernel)
set_option maxRecDepth 20000 in
theorem gX10_storeOf_X9_letterOf_n100 : GoodIn wsX10_storeOf (wsX9_letterOf) := ggX10_storeOf_X9_letterOf
set_option maxRecDepth 20000 in
theorem ggX10_storeOf_X9_lengthOf : GoodIn wsX10_storeOf wsX9_lengthOf := goodIn_r _ [14] (by decide +kernel) (by decide +kernel)
set_option maxRecDepth 20000 in
theorem gX10_storeOf_X9_lengthOf_n159 : GoodIn wsX10_storeOf (wsX9_lengthOf) := ggX10_storeOf_X9_lengthOf
theorem dX10_storeOf_0 : decode cX10_storeOf 0 = .ok (.iload_n 2, 1) := by decide +kernel
theorem dX10_storeOf_1 : decode cX10_storeOf 1 = .ok (.bipush 10, 2) := by decide +kernel
theorem dX10_storeOf_3 : decode cX10_storeOf 3 = .ok (.bipush 12, 2) := by decide +kernel
theorem dX10_storeOf_5 : decode cX10_storeOf 5 = .ok (.invokestatic 92, 3) := by decide +kernel
theorem dX10_storeOf_8 : decode cX10_storeOf 8 = .ok (.istore_n 3, 1) := by decide +kernel
theorem dX10_storeOf_9 : decode cX10_storeOf 9 = .ok (.iload_n 2, 1) := by decide +kernel
theorem dX10_storeOf_10 : decode cX10_storeOf 10 = .ok (.bipush 30, 2) := by decide +kernel
theorem dX10_storeOf_12 : decode cX10_storeOf 12 = .ok (.bipush 12, 2) := by decide +kernel
theorem dX10_storeOf_14 : decode cX10_storeOf 14 = .ok (.invokestatic 92, 3) := by decide +kernel
theorem dX10_storeOf_17 : decode cX10_storeOf 17 = .ok (.istore 4, 2) := by decide +kernel
theorem dX10_storeOf_19 : decode cX10_storeOf 19 = .ok (.iload_n 1, 1) := by decide +kernel
theorem dX10_storeOf_20 : decode cX10_storeOf 20 = .ok (.ifCond .lt 21, 3) := by decide +kernel
theorem dX10_storeOf_23 : decode cX10_storeOf 23 = .ok (.iload_n 3, 1) := by decide +kernel
theorem dX10_storeOf_24 : decode cX10_storeOf 24 = .ok (.ifCond .ne 20, 3) := by decide +kernel
theorem dX10_storeOf_27 : decode cX10_storeOf 27 = .ok (.iload 4, 2) := by decide +kernel
theorem dX10_storeOf_29 : decode cX10_storeOf 29 = .ok (.ifCond .ne 15, 3) := by decide +kernel
theorem dX10_storeOf_32 : decode cX10_storeOf 32 = .ok (.iload_n 2, 1) := by decide +kernel
theorem dX10_storeOf_33 : decode cX10_storeOf 33 = .ok (.ifCond .eq 11, 3) := by decide +kernel
theorem dX10_storeOf_36 : decode cX10_storeOf 36 = .ok (.iload_n 2, 1) := by decide +kernel
theorem dX10_storeOf_37 : decode cX10_storeOf 37 = .ok (.iconst 1, 1) := by decide +kernel
theorem dX10_storeOf_38 : decode cX10_storeOf 38 = .ok (.if_icmp .eq 6, 3) := by decide +kernel
theorem dX10_storeOf_41 : decode cX10_storeOf 41 = .ok (.ldc 71, 2) := by decide +kernel
theorem dX10_storeOf_43 : decode cX10_storeOf 43 = .ok (.ireturn, 1) := by decide +kernel
theorem dX10_storeOf_44 : decode cX10_storeOf 44 = .ok (.iload_n 1, 1) := by decide +kernel
theorem dX10_storeOf_45 : decode cX10_storeOf 45 = .ok (.aload_n 0, 1) := by decide +kernel
theorem dX10_storeOf_46 : decode cX10_storeOf 46 = .ok (.getfield 10, 3) := by decide +kernel
theorem dX10_storeOf_49 : decode cX10_storeOf 49 = .ok (.getfield 183, 3) := by decide +kernel
theorem dX10_storeOf_52 : decode cX10_storeOf 52 = .ok (.getfield 187, 3) := by decide +kernel
theorem dX10_storeOf_55 : decode cX10_storeOf 55 = .ok (.if_icmp .lt 6, 3) := by decide +kernel
theorem dX10_storeOf_58 : decode cX10_storeOf 58 = .ok (.ldc 135, 2) := by decide +kernel
theorem dX10_storeOf_60 : decode cX10_storeOf 60 = .ok (.ireturn, 1) := by decide +kernel
theorem dX10_storeOf_61 : decode cX10_storeOf 61 = .ok (.iload_n 3, 1) := by decide +kernel
theorem dX10_storeOf_62 : decode cX10_storeOf 62 = .ok (.ifCond .eq 23, 3) := by decide +kernel
theorem dX10_storeOf_65 : decode cX10_storeOf 65 = .ok (.aload_n 0, 1) := by decide +kernel
theorem dX10_storeOf_66 : decode cX10_storeOf 66 = .ok (.getfield 10, 3) := by decide +kernel
theorem dX10_storeOf_69 : decode cX10_storeOf 69 = .ok (.getfield 183, 3) := by decide +kernel
theorem dX10_storeOf_72 : decode cX10_storeOf 72 = .ok (.getfield 190, 3) := by decide +kernel
theorem dX10_storeOf_75 : decode cX10_storeOf 75 = .ok (.iload_n 1, 1) := by decide +kernel
theorem dX10_storeOf_76 : decode cX10_storeOf 76 = .ok (.iaload, 1) := by decide +kernel
theorem dX10_storeOf_77 : decode cX10_storeOf 77 = .ok (.iload_n 2, 1) := by decide +kernel
theorem dX10_storeOf_78 : decode cX10_storeOf 78 = .ok (.bipush 10, 2) := by decide +kernel
theorem dX10_storeOf_80 : decode cX10_storeOf 80 = .ok (.isub, 1) := by decide +kernel
theorem dX10_storeOf_81 : decode cX10_storeOf 81 = .ok (.invokestatic 100, 3) := by decide +kernel
theorem dX10_storeOf_84 : decode cX10_storeOf 84 = .ok (.ireturn, 1) := by decide +kernel
theorem dX10_storeOf_85 : decode cX10_storeOf 85 = .ok (.iload 4, 2) := by decide +kernel
theorem dX10_storeOf_87 : decode cX10_storeOf 87 = .ok (.ifCond .eq 23, 3) := by decide +kernel
theorem dX10_storeOf_90 : decode cX10_storeOf 90 = .ok (.aload_n 0, 1) := by decide +kernel
theorem dX10_storeOf_91 : decode cX10_storeOf 91 = .ok (.getfield 10, 3) := by decide +kernel
theorem dX10_storeOf_94 : decode cX10_storeOf 94 = .ok (.getfield 183, 3) := by decide +kernel
theorem dX10_storeOf_97 : decode cX10_storeOf 97 = .ok (.getfield 193, 3) := by decide +kernel
theorem dX10_storeOf_100 : decode cX10_storeOf 100 = .ok (.iload_n 1, 1) := by decide +kernel
theorem dX10_storeOf_101 : decode cX10_storeOf 101 = .ok (.iaload, 1) := by decide +kernel
theorem dX10_storeOf_102 : decode cX10_storeOf 102 = .ok (.iload_n 2, 1) := by decide +kernel
theorem dX10_storeOf_103 : decode cX10_storeOf 103 = .ok (.bipush 30, 2) := by decide +kernel
theorem dX10_storeOf_105 : decode cX10_storeOf 105 = .ok (.isub, 1) := by decide +kernel
theorem dX10_storeOf_106 : decode cX10_storeOf 106 = .ok (.invokestatic 100, 3) := by decide +kernel
theorem dX10_storeOf_109 : decode cX10_storeOf 109 = .ok (.ireturn, 1) := by decide +kernel
theorem dX10_storeOf_110 : decode cX10_storeOf 110 = .ok (.iload_n 2, 1) := by decide +kernel
theorem dX10_storeOf_111 : decode cX10_storeOf 111 = .ok (.ifCond .ne 18, 3) := by decide +kernel
theorem dX10_storeOf_114 : decode cX10_storeOf 114 = .ok (.aload_n 0, 1) := by decide +kernel
theorem dX10_storeOf_115 : decode cX10_storeOf 115 = .ok (.getfield 10, 3) := by decide +kernel
theorem dX10_storeOf_118 : decode cX10_storeOf 118 = .ok (.getfield 183, 3) := by decide +kernel
theorem dX10_storeOf_121 : decode cX10_storeOf 121 = .ok (.getfield 190, 3) := by decide +kernel
theorem dX10_storeOf_124 : decode cX10_storeOf 124 = .ok (.iload_n 1, 1) := by decide +kernel
theorem dX10_storeOf_125 : decode cX10_storeOf 125 = .ok (.iaload, 1) := by decide +kernel
theorem dX10_storeOf_126 : decode cX10_storeOf 126 = .ok (.goto 15, 3) := by decide +kernel
theorem dX10_storeOf_129 : decode cX10_storeOf 129 = .ok (.aload_n 0, 1) := by decide +kernel
theorem dX10_storeOf_130 : decode cX10_storeOf 130 = .ok (.getfield 10, 3) := by decide +kernel
theorem dX10_storeOf_133 : decode cX10_storeOf 133 = .ok (.getfield 183, 3) := by decide +kernel
theorem dX10_storeOf_136 : decode cX10_storeOf 136 = .ok (.getfield 193, 3) := by decide +kernel
theorem dX10_storeOf_139 : decode cX10_storeOf 139 = .ok (.iload_n 1, 1) := by decide +kernel
theorem dX10_storeOf_140 : decode cX10_storeOf 140 = .ok (.iaload, 1) := by decide +kernel
theorem dX10_storeOf_141 : decode cX10_storeOf 141 = .ok (.invokestatic 159, 3) := by decide +kernel
theorem dX10_storeOf_144 : decode cX10_storeOf 144 = .ok (.ireturn, 1) := by decide +kernel
set_option maxRecDepth 20000 in
theorem ggX10_overlapOf_X1_find : GoodIn wsX10_overlapOf wsX1_find := goodIn_r _ [8, 9, 10, 11, 6, 12, 13, 14, 15, 16, 17, 18, 19, 20, 21, 22, 23, 24, 25, 26, 27, 28, 29, 30, 31, 32, 33, 34, 35, 92, 93, 94, 95, 96, 97, 98, 99, 100, 101, 102, 103] (by decide +kernel) (by decide +kernel)
set_option maxRecDepth 20000 in
theorem gX10_overlapOf_X1_find_n196 : GoodIn wsX10_overlapOf (wsX1_find) := ggX10_overlapOf_X1_find
set_option maxRecDepth 20000 in
theorem ggX10_overlapOf_X9_lengthOf : GoodIn wsX10_overlapOf wsX9_lengthOf := goodIn_r _ [30] (by decide +kernel) (by decide +kernel)
set_option maxRecDepth 20000 in
theorem gX10_overlapOf_X9_lengthOf_n159 : GoodIn wsX10_overlapOf (wsX9_lengthOf) := ggX10_overlapOf_X9_lengthOf
set_option maxRecDepth 20000 in
theorem ggX10_overlapOf_X1_verdict : GoodIn wsX10_overlapOf wsX1_verdict := goodIn_r _ [38, 39, 40, 41, 42, 43, 6, 44, 16, 13, 45, 18, 46, 47, 48, 49, 34, 29, 27, 30, 26, 28, 50, 51, 52, 53, 54, 55, 56, 57, 58, 59, 60, 61, 62, 63, 64, 65, 21, 66, 31, 32, 33, 35, 67, 68, 69, 70, 71, 72, 73, 74, 75, 76, 77, 14, 15, 86, 87, 88, 89, 90, 91, 104, 105, 106, 107, 108, 92, 93, 94, 95, 96, 97, 98, 99, 100, 101, 102, 103] (by decide +kernel) (by decide +kernel)
set_option maxRecDepth 20000 in
theorem gX10_overlapOf_X1_verdict_n210 : GoodIn wsX10_overlapOf (wsX1_verdict) := ggX10_overlapOf_X1_verdict
set_option maxRecDepth 20000 in
theorem ggX10_overlapOf_X1_firstWord : GoodIn wsX10_overlapOf wsX1_firstWord := goodIn_r _ [44, 16, 13, 45, 18, 46, 47, 48, 49, 34, 29, 27, 30, 26, 28, 92, 93, 94, 95, 96, 97, 98, 99, 100, 101, 102, 103] (by decide +kernel) (by decide +kernel)
set_option maxRecDepth 20000 in
theorem gX10_overlapOf_X1_firstWord_n214 : GoodIn wsX10_overlapOf (wsX1_firstWord) := ggX10_overlapOf_X1_firstWord
set_option maxRecDepth 20000 in
theorem ggX10_overlapOf_X1_secondWord : GoodIn wsX10_overlapOf wsX1_secondWord := goodIn_r _ [77, 16, 14, 15, 45, 18, 46, 47, 48, 49, 34, 29, 27, 30, 26, 28, 92, 93, 94, 95, 96, 97, 98, 99, 100, 101, 102, 103] (by decide +kernel) (by decide +kernel)
set_option maxRecDepth 20000 in
theorem gX10_overlapOf_X1_secondWord_n218 : GoodIn wsX10_overlapOf (wsX1_secondWord) := ggX10_overlapOf_X1_secondWord
theorem dX10_overlapOf_0 : decode cX10_overlapOf 0 = .ok (.iload_n 2, 1) := by decide +kernel
theorem dX10_overlapOf_1 : decode cX10_overlapOf 1 = .ok (.ifCond .lt 27, 3) := by decide +kernel
theorem dX10_overlapOf_4 : decode cX10_overlapOf 4 = .ok (.iload_n 2, 1) := by decide +kernel
theorem dX10_overlapOf_5 : decode cX10_overlapOf 5 = .ok (.bipush 6, 2) := by decide +kernel
theorem dX10_overlapOf_7 : decode cX10_overlapOf 7 = .ok (.if_icmp .gt 21, 3) := by decide +kernel
theorem dX10_overlapOf_10 : decode cX10_overlapOf 10 = .ok (.aload_n 0, 1) := by decide +kernel
theorem dX10_overlapOf_11 : decode cX10_overlapOf 11 = .ok (.getfield 43, 3) := by decide +kernel
theorem dX10_overlapOf_14 : decode cX10_overlapOf 14 = .ok (.aload_n 0, 1) := by decide +kernel
theorem dX10_overlapOf_15 : decode cX10_overlapOf 15 = .ok (.getfield 10, 3) := by decide +kernel
theorem dX10_overlapOf_18 : decode cX10_overlapOf 18 = .ok (.getfield 61, 3) := by decide +kernel
theorem dX10_overlapOf_21 : decode cX10_overlapOf 21 = .ok (.iload_n 1, 1) := by decide +kernel
theorem dX10_overlapOf_22 : decode cX10_overlapOf 22 = .ok (.invokevirtual 196, 3) := by decide +kernel
theorem dX10_overlapOf_25 : decode cX10_overlapOf 25 = .ok (.ifCond .ne 6, 3) := by decide +kernel
theorem dX10_overlapOf_28 : decode cX10_overlapOf 28 = .ok (.ldc 71, 2) := by decide +kernel
theorem dX10_overlapOf_30 : decode cX10_overlapOf 30 = .ok (.ireturn, 1) := by decide +kernel
theorem dX10_overlapOf_31 : decode cX10_overlapOf 31 = .ok (.iload_n 2, 1) := by decide +kernel
theorem dX10_overlapOf_32 : decode cX10_overlapOf 32 = .ok (.tableswitch 109 0 5 #[40, 48, 56, 64, 75, 91], 40) := by decide +kernel
theorem dX10_overlapOf_72 : decode cX10_overlapOf 72 = .ok (.aload_n 0, 1) := by decide +kernel
theorem dX10_overlapOf_73 : decode cX10_overlapOf 73 = .ok (.getfield 43, 3) := by decide +kernel
theorem dX10_overlapOf_76 : decode cX10_overlapOf 76 = .ok (.getfield 200, 3) := by decide +kernel
theorem dX10_overlapOf_79 : decode cX10_overlapOf 79 = .ok (.ireturn, 1) := by decide +kernel
theorem dX10_overlapOf_80 : decode cX10_overlapOf 80 = .ok (.aload_n 0, 1) := by decide +kernel
theorem dX10_overlapOf_81 : decode cX10_overlapOf 81 = .ok (.getfield 43, 3) := by decide +kernel
theorem dX10_overlapOf_84 : decode cX10_overlapOf 84 = .ok (.getfield 203, 3) := by decide +kernel
theorem dX10_overlapOf_87 : decode cX10_overlapOf 87 = .ok (.ireturn, 1) := by decide +kernel
theorem dX10_overlapOf_88 : decode cX10_overlapOf 88 = .ok (.aload_n 0, 1) := by decide +kernel
theorem dX10_overlapOf_89 : decode cX10_overlapOf 89 = .ok (.getfield 43, 3) := by decide +kernel
theorem dX10_overlapOf_92 : decode cX10_overlapOf 92 = .ok (.getfield 206, 3) := by decide +kernel
theorem dX10_overlapOf_95 : decode cX10_overlapOf 95 = .ok (.ireturn, 1) := by decide +kernel
theorem dX10_overlapOf_96 : decode cX10_overlapOf 96 = .ok (.aload_n 0, 1) := by decide +kernel
theorem dX10_overlapOf_97 : decode cX10_overlapOf 97 = .ok (.getfield 43, 3) := by decide +kernel
theorem dX10_overlapOf_100 : decode cX10_overlapOf 100 = .ok (.getfield 209, 3) := by decide +kernel
theorem dX10_overlapOf_103 : decode cX10_overlapOf 103 = .ok (.invokestatic 159, 3) := by decide +kernel
theorem dX10_overlapOf_106 : decode cX10_overlapOf 106 = .ok (.ireturn, 1) := by decide +kernel
theorem dX10_overlapOf_107 : decode cX10_overlapOf 107 = .ok (.aload_n 0, 1) := by decide +kernel
theorem dX10_overlapOf_108 : decode cX10_overlapOf 108 = .ok (.getfield 43, 3) := by decide +kernel
theorem dX10_overlapOf_111 : decode cX10_overlapOf 111 = .ok (.aload_n 0, 1) := by decide +kernel
theorem dX10_overlapOf_112 : decode cX10_overlapOf 112 = .ok (.getfield 10, 3) := by decide +kernel
theorem dX10_overlapOf_115 : decode cX10_overlapOf 115 = .ok (.aload_n 0, 1) := by decide +kernel
theorem dX10_overlapOf_116 : decode cX10_overlapOf 116 = .ok (.getfield 29, 3) := by decide +kernel
theorem dX10_overlapOf_119 : decode cX10_overlapOf 119 = .ok (.invokevirtual 210, 3) := by decide +kernel
theorem dX10_overlapOf_122 : decode cX10_overlapOf 122 = .ok (.ireturn, 1) := by decide +kernel
theorem dX10_overlapOf_123 : decode cX10_overlapOf 123 = .ok (.aload_n 0, 1) := by decide +kernel
theorem dX10_overlapOf_124 : decode cX10_overlapOf 124 = .ok (.getfield 43, 3) := by decide +kernel
theorem dX10_overlapOf_127 : decode cX10_overlapOf 127 = .ok (.aload_n 0, 1) := by decide +kernel
theorem dX10_overlapOf_128 : decode cX10_overlapOf 128 = .ok (.getfield 10, 3) := by decide +kernel
theorem dX10_overlapOf_131 : decode cX10_overlapOf 131 = .ok (.getfield 61, 3) := by decide +kernel
theorem dX10_overlapOf_134 : decode cX10_overlapOf 134 = .ok (.invokevirtual 214, 3) := by decide +kernel
theorem dX10_overlapOf_137 : decode cX10_overlapOf 137 = .ok (.invokestatic 159, 3) := by decide +kernel
theorem dX10_overlapOf_140 : decode cX10_overlapOf 140 = .ok (.ireturn, 1) := by decide +kernel
theorem dX10_overlapOf_141 : decode cX10_overlapOf 141 = .ok (.aload_n 0, 1) := by decide +kernel
theorem dX10_overlapOf_142 : decode cX10_overlapOf 142 = .ok (.getfield 43, 3) := by decide +kernel
theorem dX10_overlapOf_145 : decode cX10_overlapOf 145 = .ok (.aload_n 0, 1) := by decide +kernel
theorem dX10_overlapOf_146 : decode cX10_overlapOf 146 = .ok (.getfield 10, 3) := by decide +kernel
theorem dX10_overlapOf_149 : decode cX10_overlapOf 149 = .ok (.getfield 61, 3) := by decide +kernel
theorem dX10_overlapOf_152 : decode cX10_overlapOf 152 = .ok (.invokevirtual 218, 3) := by decide +kernel
theorem dX10_overlapOf_155 : decode cX10_overlapOf 155 = .ok (.invokestatic 159, 3) := by decide +kernel
theorem dX10_overlapOf_158 : decode cX10_overlapOf 158 = .ok (.ireturn, 1) := by decide +kernel
set_option maxRecDepth 20000 in
theorem ggX10_complete_X10_startTrial : GoodIn wsX10_complete wsX10_startTrial := goodIn_r _ [17, 3, 18, 19, 20, 21, 22, 23, 24, 25, 26, 27, 28, 29, 30, 31, 32, 33, 34, 35, 36, 37, 38, 39, 40, 41, 42, 43, 44, 45, 46, 47, 48, 49, 50, 144, 145, 146, 147, 148, 149, 150, 151, 158, 159, 160, 161, 162, 163, 164, 165, 166, 167, 168, 169, 170, 171, 172] (by decide +kernel) (by decide +kernel)
set_option maxRecDepth 20000 in
theorem gX10_complete_X10_startTrial : GoodIn wsX10_complete (wsV RX10 72 RX10 yX10_startTrial wsX10_startTrial) := goodIn_app (goodIn_of _ (by decide +kernel)) ggX10_complete_X10_startTrial
set_option maxRecDepth 20000 in
theorem ggX10_complete_X1_findParting : GoodIn wsX10_complete wsX1_findParting := goodIn_r _ [54, 55, 56, 57, 52, 58, 59, 60, 61, 62, 63, 30, 64, 65, 42, 66, 67, 68, 69, 70, 71, 72, 73, 74, 75, 76, 77, 39, 33, 78, 79, 80, 81, 82, 83, 84, 85, 86, 87, 88, 89, 90, 38, 40, 91, 92, 93, 94, 95, 96, 97, 98, 99, 100, 101, 102, 103, 104, 105, 106, 107, 108, 109, 110, 111, 112, 113, 114, 115, 116, 117, 118, 158, 159, 160, 161, 162, 163, 152, 153, 154, 155, 156, 157, 164, 165, 166, 167, 168, 169, 173, 174, 175, 176, 177] (by decide +kernel) (by decide +kernel)
set_option maxRecDepth 20000 in
theorem gX10_complete_X1_findParting_n221 : GoodIn wsX10_complete (wsX1_findParting) := ggX10_complete_X1_findParting
set_option maxRecDepth 20000 in
theorem ggX10_complete_X4_isFull : GoodIn wsX10_complete wsX4_isFull := goodIn_r _ [121, 42, 164, 165, 166, 167, 168, 169] (by decide +kernel) (by decide +kernel)
set_option maxRecDepth 20000 in
theorem gX10_complete_X4_isFull_n239 : GoodIn wsX10_complete (wsX4_isFull) := ggX10_complete_X4_isFull
set_option maxRecDepth 20000 in
theorem ggX10_complete_X9_lengthOf : GoodIn wsX10_complete wsX9_lengthOf := goodIn_r _ [74] (by decide +kernel) (by decide +kernel)
set_option maxRecDepth 20000 in
theorem gX10_complete_X9_lengthOf_n159 : GoodIn wsX10_complete (wsX9_lengthOf) := ggX10_complete_X9_lengthOf
set_option maxRecDepth 20000 in
theorem ggX10_complete_X6_addRule : GoodIn wsX10_complete wsX6_addRule := goodIn_r _ [124, 23, 24, 125, 30, 126, 127, 33, 42, 38, 39, 40, 41, 128, 119, 120, 121, 73, 71, 74, 158, 159, 160, 161, 162, 163, 170, 171, 172, 164, 165, 166, 167, 168, 169] (by decide +kernel) (by decide +kernel)
set_option maxRecDepth 20000 in
theorem gX10_complete_X6_addRule_n243 : GoodIn wsX10_complete (wsX6_addRule) := ggX10_complete_X6_addRule
set_option maxRecDepth 20000 in
theorem ggX10_complete_X10_keepTrial : GoodIn wsX10_complete wsX10_keepTrial := goodIn_r _ [132, 133, 18, 3, 134, 135, 136, 137, 138, 139, 140, 141, 142, 143, 19, 20, 21, 22, 23, 24, 25, 26, 27, 28, 29, 30, 31, 32, 33, 34, 35, 36, 37, 38, 39, 40, 41, 42, 43, 44, 45, 46, 47, 48, 49, 50, 144, 145, 146, 147, 148, 149, 150, 151, 178, 179, 158, 159, 160, 161, 162, 163, 164, 165, 166, 167, 168, 169, 170, 171, 172] (by decide +kernel) (by decide +kernel)
set_option maxRecDepth 20000 in
theorem gX10_complete_X10_keepTrial : GoodIn wsX10_complete (wsV RX10 79 RX10 yX10_keepTrial wsX10_keepTrial) := goodIn_app (goodIn_of _ (by decide +kernel)) ggX10_complete_X10_keepTrial
theorem dX10_complete_0 : decode cX10_complete 0 = .ok (.iload_n 1, 1) := by decide +kernel
theorem dX10_complete_1 : decode cX10_complete 1 = .ok (.iconst 1, 1) := by decide +kernel
theorem dX10_complete_2 : decode cX10_complete 2 = .ok (.if_icmp .lt 9, 3) := by decide +kernel
theorem dX10_complete_5 : decode cX10_complete 5 = .ok (.iload_n 1, 1) := by decide +kernel
