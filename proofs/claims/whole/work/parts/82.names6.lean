theorem dX11_comesFirst_77 : decode cX11_comesFirst 77 = .ok (.getfield 7, 3) := by decide +kernel
theorem dX11_comesFirst_80 : decode cX11_comesFirst 80 = .ok (.bipush 37, 2) := by decide +kernel
theorem dX11_comesFirst_82 : decode cX11_comesFirst 82 = .ok (.iload_n 2, 1) := by decide +kernel
theorem dX11_comesFirst_83 : decode cX11_comesFirst 83 = .ok (.iastore, 1) := by decide +kernel
theorem dX11_comesFirst_84 : decode cX11_comesFirst 84 = .ok (.return_, 1) := by decide +kernel
set_option maxRecDepth 20000 in
theorem ggX11_normals_X11_comesFirst : GoodIn wsX11_normals wsX11_comesFirst := goodIn_r _ [11, 1, 41, 42, 43, 44, 45, 46, 47, 48, 49, 50, 51, 52, 53, 54, 55, 56, 57, 58, 59, 60, 61, 62, 63, 64, 65, 66, 67] (by decide +kernel) (by decide +kernel)
set_option maxRecDepth 20000 in
theorem gX11_normals_X11_comesFirst : GoodIn wsX11_normals (wsV RX11 108 RX11 yX11_comesFirst wsX11_comesFirst) := goodIn_app (goodIn_of _ (by decide +kernel)) ggX11_normals_X11_comesFirst
set_option maxRecDepth 20000 in
theorem ggX11_normals_X11_reduces : GoodIn wsX11_normals wsX11_reduces := goodIn_r _ [15, 6, 4, 16, 17, 5, 18, 19, 20, 21, 10, 22, 1, 23, 24, 25, 26, 27, 28, 29, 30, 31, 32, 33, 34, 35, 36, 37, 38, 39, 40, 41, 42, 43, 44, 45, 46, 47, 48, 49, 50, 51, 52, 53, 54, 55, 56, 57, 58, 59, 60, 61, 62, 63, 64, 65, 66, 67] (by decide +kernel) (by decide +kernel)
set_option maxRecDepth 20000 in
theorem gX11_normals_X11_reduces : GoodIn wsX11_normals (wsV RX11 112 RX11 yX11_reduces wsX11_reduces) := goodIn_app (goodIn_of _ (by decide +kernel)) ggX11_normals_X11_reduces
theorem dX11_normals_0 : decode cX11_normals 0 = .ok (.aload_n 0, 1) := by decide +kernel
theorem dX11_normals_1 : decode cX11_normals 1 = .ok (.getfield 7, 3) := by decide +kernel
theorem dX11_normals_4 : decode cX11_normals 4 = .ok (.iconst 0, 1) := by decide +kernel
theorem dX11_normals_5 : decode cX11_normals 5 = .ok (.iaload, 1) := by decide +kernel
theorem dX11_normals_6 : decode cX11_normals 6 = .ok (.istore_n 1, 1) := by decide +kernel
theorem dX11_normals_7 : decode cX11_normals 7 = .ok (.iconst 0, 1) := by decide +kernel
theorem dX11_normals_8 : decode cX11_normals 8 = .ok (.istore_n 2, 1) := by decide +kernel
theorem dX11_normals_9 : decode cX11_normals 9 = .ok (.iload_n 2, 1) := by decide +kernel
theorem dX11_normals_10 : decode cX11_normals 10 = .ok (.aload_n 0, 1) := by decide +kernel
theorem dX11_normals_11 : decode cX11_normals 11 = .ok (.getfield 7, 3) := by decide +kernel
theorem dX11_normals_14 : decode cX11_normals 14 = .ok (.iconst 3, 1) := by decide +kernel
theorem dX11_normals_15 : decode cX11_normals 15 = .ok (.iaload, 1) := by decide +kernel
theorem dX11_normals_16 : decode cX11_normals 16 = .ok (.if_icmp .ge 68, 3) := by decide +kernel
theorem dX11_normals_19 : decode cX11_normals 19 = .ok (.aload_n 0, 1) := by decide +kernel
theorem dX11_normals_20 : decode cX11_normals 20 = .ok (.getfield 7, 3) := by decide +kernel
theorem dX11_normals_23 : decode cX11_normals 23 = .ok (.bipush 36, 2) := by decide +kernel
theorem dX11_normals_25 : decode cX11_normals 25 = .ok (.iconst 2, 1) := by decide +kernel
theorem dX11_normals_26 : decode cX11_normals 26 = .ok (.iload_n 2, 1) := by decide +kernel
theorem dX11_normals_27 : decode cX11_normals 27 = .ok (.imul, 1) := by decide +kernel
theorem dX11_normals_28 : decode cX11_normals 28 = .ok (.iadd, 1) := by decide +kernel
theorem dX11_normals_29 : decode cX11_normals 29 = .ok (.iaload, 1) := by decide +kernel
theorem dX11_normals_30 : decode cX11_normals 30 = .ok (.iload_n 1, 1) := by decide +kernel
theorem dX11_normals_31 : decode cX11_normals 31 = .ok (.if_icmp .ne 47, 3) := by decide +kernel
theorem dX11_normals_34 : decode cX11_normals 34 = .ok (.aload_n 0, 1) := by decide +kernel
theorem dX11_normals_35 : decode cX11_normals 35 = .ok (.iload_n 1, 1) := by decide +kernel
theorem dX11_normals_36 : decode cX11_normals 36 = .ok (.aload_n 0, 1) := by decide +kernel
theorem dX11_normals_37 : decode cX11_normals 37 = .ok (.getfield 7, 3) := by decide +kernel
theorem dX11_normals_40 : decode cX11_normals 40 = .ok (.bipush 36, 2) := by decide +kernel
theorem dX11_normals_42 : decode cX11_normals 42 = .ok (.iconst 2, 1) := by decide +kernel
theorem dX11_normals_43 : decode cX11_normals 43 = .ok (.iload_n 2, 1) := by decide +kernel
theorem dX11_normals_44 : decode cX11_normals 44 = .ok (.imul, 1) := by decide +kernel
theorem dX11_normals_45 : decode cX11_normals 45 = .ok (.iadd, 1) := by decide +kernel
theorem dX11_normals_46 : decode cX11_normals 46 = .ok (.iconst 1, 1) := by decide +kernel
theorem dX11_normals_47 : decode cX11_normals 47 = .ok (.iadd, 1) := by decide +kernel
theorem dX11_normals_48 : decode cX11_normals 48 = .ok (.iaload, 1) := by decide +kernel
theorem dX11_normals_49 : decode cX11_normals 49 = .ok (.iload_n 2, 1) := by decide +kernel
theorem dX11_normals_50 : decode cX11_normals 50 = .ok (.invokevirtual 108, 3) := by decide +kernel
theorem dX11_normals_53 : decode cX11_normals 53 = .ok (.aload_n 0, 1) := by decide +kernel
theorem dX11_normals_54 : decode cX11_normals 54 = .ok (.getfield 7, 3) := by decide +kernel
theorem dX11_normals_57 : decode cX11_normals 57 = .ok (.iconst 0, 1) := by decide +kernel
theorem dX11_normals_58 : decode cX11_normals 58 = .ok (.aload_n 0, 1) := by decide +kernel
theorem dX11_normals_59 : decode cX11_normals 59 = .ok (.getfield 7, 3) := by decide +kernel
theorem dX11_normals_62 : decode cX11_normals 62 = .ok (.bipush 37, 2) := by decide +kernel
theorem dX11_normals_64 : decode cX11_normals 64 = .ok (.iaload, 1) := by decide +kernel
theorem dX11_normals_65 : decode cX11_normals 65 = .ok (.iastore, 1) := by decide +kernel
theorem dX11_normals_66 : decode cX11_normals 66 = .ok (.aload_n 0, 1) := by decide +kernel
theorem dX11_normals_67 : decode cX11_normals 67 = .ok (.getfield 7, 3) := by decide +kernel
theorem dX11_normals_70 : decode cX11_normals 70 = .ok (.iconst 4, 1) := by decide +kernel
theorem dX11_normals_71 : decode cX11_normals 71 = .ok (.dup2, 1) := by decide +kernel
theorem dX11_normals_72 : decode cX11_normals 72 = .ok (.iaload, 1) := by decide +kernel
theorem dX11_normals_73 : decode cX11_normals 73 = .ok (.iconst 1, 1) := by decide +kernel
theorem dX11_normals_74 : decode cX11_normals 74 = .ok (.iadd, 1) := by decide +kernel
theorem dX11_normals_75 : decode cX11_normals 75 = .ok (.iastore, 1) := by decide +kernel
theorem dX11_normals_76 : decode cX11_normals 76 = .ok (.iconst 0, 1) := by decide +kernel
theorem dX11_normals_77 : decode cX11_normals 77 = .ok (.ireturn, 1) := by decide +kernel
theorem dX11_normals_78 : decode cX11_normals 78 = .ok (.iinc 2 1, 3) := by decide +kernel
theorem dX11_normals_81 : decode cX11_normals 81 = .ok (.goto (-72), 3) := by decide +kernel
theorem dX11_normals_84 : decode cX11_normals 84 = .ok (.aload_n 0, 1) := by decide +kernel
theorem dX11_normals_85 : decode cX11_normals 85 = .ok (.iload_n 1, 1) := by decide +kernel
theorem dX11_normals_86 : decode cX11_normals 86 = .ok (.invokevirtual 112, 3) := by decide +kernel
theorem dX11_normals_89 : decode cX11_normals 89 = .ok (.istore_n 2, 1) := by decide +kernel
theorem dX11_normals_90 : decode cX11_normals 90 = .ok (.iload_n 2, 1) := by decide +kernel
theorem dX11_normals_91 : decode cX11_normals 91 = .ok (.ifCond .eq 16, 3) := by decide +kernel
theorem dX11_normals_94 : decode cX11_normals 94 = .ok (.iload_n 2, 1) := by decide +kernel
theorem dX11_normals_95 : decode cX11_normals 95 = .ok (.iconst 1, 1) := by decide +kernel
theorem dX11_normals_96 : decode cX11_normals 96 = .ok (.if_icmp .ne 8, 3) := by decide +kernel
theorem dX11_normals_99 : decode cX11_normals 99 = .ok (.ldc 103, 2) := by decide +kernel
theorem dX11_normals_101 : decode cX11_normals 101 = .ok (.goto 5, 3) := by decide +kernel
theorem dX11_normals_104 : decode cX11_normals 104 = .ok (.ldc 115, 2) := by decide +kernel
theorem dX11_normals_106 : decode cX11_normals 106 = .ok (.ireturn, 1) := by decide +kernel
theorem dX11_normals_107 : decode cX11_normals 107 = .ok (.iconst 0, 1) := by decide +kernel
theorem dX11_normals_108 : decode cX11_normals 108 = .ok (.istore_n 3, 1) := by decide +kernel
theorem dX11_normals_109 : decode cX11_normals 109 = .ok (.iload_n 3, 1) := by decide +kernel
theorem dX11_normals_110 : decode cX11_normals 110 = .ok (.aload_n 0, 1) := by decide +kernel
theorem dX11_normals_111 : decode cX11_normals 111 = .ok (.getfield 64, 3) := by decide +kernel
theorem dX11_normals_114 : decode cX11_normals 114 = .ok (.if_icmp .ge 31, 3) := by decide +kernel
theorem dX11_normals_117 : decode cX11_normals 117 = .ok (.aload_n 0, 1) := by decide +kernel
theorem dX11_normals_118 : decode cX11_normals 118 = .ok (.getfield 7, 3) := by decide +kernel
theorem dX11_normals_121 : decode cX11_normals 121 = .ok (.bipush 6, 2) := by decide +kernel
theorem dX11_normals_123 : decode cX11_normals 123 = .ok (.iconst 3, 1) := by decide +kernel
theorem dX11_normals_124 : decode cX11_normals 124 = .ok (.aload_n 0, 1) := by decide +kernel
theorem dX11_normals_125 : decode cX11_normals 125 = .ok (.getfield 29, 3) := by decide +kernel
theorem dX11_normals_128 : decode cX11_normals 128 = .ok (.iload_n 3, 1) := by decide +kernel
theorem dX11_normals_129 : decode cX11_normals 129 = .ok (.iaload, 1) := by decide +kernel
theorem dX11_normals_130 : decode cX11_normals 130 = .ok (.imul, 1) := by decide +kernel
theorem dX11_normals_131 : decode cX11_normals 131 = .ok (.iadd, 1) := by decide +kernel
theorem dX11_normals_132 : decode cX11_normals 132 = .ok (.iconst 2, 1) := by decide +kernel
theorem dX11_normals_133 : decode cX11_normals 133 = .ok (.iadd, 1) := by decide +kernel
theorem dX11_normals_134 : decode cX11_normals 134 = .ok (.dup2, 1) := by decide +kernel
theorem dX11_normals_135 : decode cX11_normals 135 = .ok (.iaload, 1) := by decide +kernel
theorem dX11_normals_136 : decode cX11_normals 136 = .ok (.iconst 1, 1) := by decide +kernel
theorem dX11_normals_137 : decode cX11_normals 137 = .ok (.iadd, 1) := by decide +kernel
theorem dX11_normals_138 : decode cX11_normals 138 = .ok (.iastore, 1) := by decide +kernel
theorem dX11_normals_139 : decode cX11_normals 139 = .ok (.iinc 3 1, 3) := by decide +kernel
theorem dX11_normals_142 : decode cX11_normals 142 = .ok (.goto (-33), 3) := by decide +kernel
theorem dX11_normals_145 : decode cX11_normals 145 = .ok (.aload_n 0, 1) := by decide +kernel
theorem dX11_normals_146 : decode cX11_normals 146 = .ok (.getfield 7, 3) := by decide +kernel
theorem dX11_normals_149 : decode cX11_normals 149 = .ok (.iconst 5, 1) := by decide +kernel
theorem dX11_normals_150 : decode cX11_normals 150 = .ok (.dup2, 1) := by decide +kernel
theorem dX11_normals_151 : decode cX11_normals 151 = .ok (.iaload, 1) := by decide +kernel
theorem dX11_normals_152 : decode cX11_normals 152 = .ok (.aload_n 0, 1) := by decide +kernel
theorem dX11_normals_153 : decode cX11_normals 153 = .ok (.getfield 64, 3) := by decide +kernel
theorem dX11_normals_156 : decode cX11_normals 156 = .ok (.iadd, 1) := by decide +kernel
theorem dX11_normals_157 : decode cX11_normals 157 = .ok (.iastore, 1) := by decide +kernel
theorem dX11_normals_158 : decode cX11_normals 158 = .ok (.aload_n 0, 1) := by decide +kernel
theorem dX11_normals_159 : decode cX11_normals 159 = .ok (.getfield 7, 3) := by decide +kernel
theorem dX11_normals_162 : decode cX11_normals 162 = .ok (.iconst 0, 1) := by decide +kernel
theorem dX11_normals_163 : decode cX11_normals 163 = .ok (.aload_n 0, 1) := by decide +kernel
theorem dX11_normals_164 : decode cX11_normals 164 = .ok (.getfield 26, 3) := by decide +kernel
theorem dX11_normals_167 : decode cX11_normals 167 = .ok (.aload_n 0, 1) := by decide +kernel
theorem dX11_normals_168 : decode cX11_normals 168 = .ok (.getfield 64, 3) := by decide +kernel
theorem dX11_normals_171 : decode cX11_normals 171 = .ok (.iaload, 1) := by decide +kernel
theorem dX11_normals_172 : decode cX11_normals 172 = .ok (.iastore, 1) := by decide +kernel
theorem dX11_normals_173 : decode cX11_normals 173 = .ok (.aload_n 0, 1) := by decide +kernel
theorem dX11_normals_174 : decode cX11_normals 174 = .ok (.getfield 7, 3) := by decide +kernel
theorem dX11_normals_177 : decode cX11_normals 177 = .ok (.iconst 3, 1) := by decide +kernel
theorem dX11_normals_178 : decode cX11_normals 178 = .ok (.aload_n 0, 1) := by decide +kernel
theorem dX11_normals_179 : decode cX11_normals 179 = .ok (.getfield 7, 3) := by decide +kernel
theorem dX11_normals_182 : decode cX11_normals 182 = .ok (.iconst 3, 1) := by decide +kernel
theorem dX11_normals_183 : decode cX11_normals 183 = .ok (.iaload, 1) := by decide +kernel
theorem dX11_normals_184 : decode cX11_normals 184 = .ok (.bipush 8, 2) := by decide +kernel
theorem dX11_normals_186 : decode cX11_normals 186 = .ok (.if_icmp .ge 14, 3) := by decide +kernel
theorem dX11_normals_189 : decode cX11_normals 189 = .ok (.aload_n 0, 1) := by decide +kernel
theorem dX11_normals_190 : decode cX11_normals 190 = .ok (.getfield 7, 3) := by decide +kernel
theorem dX11_normals_193 : decode cX11_normals 193 = .ok (.iconst 3, 1) := by decide +kernel
theorem dX11_normals_194 : decode cX11_normals 194 = .ok (.iaload, 1) := by decide +kernel
theorem dX11_normals_195 : decode cX11_normals 195 = .ok (.iconst 1, 1) := by decide +kernel
theorem dX11_normals_196 : decode cX11_normals 196 = .ok (.iadd, 1) := by decide +kernel
theorem dX11_normals_197 : decode cX11_normals 197 = .ok (.goto 5, 3) := by decide +kernel
theorem dX11_normals_200 : decode cX11_normals 200 = .ok (.bipush 8, 2) := by decide +kernel
theorem dX11_normals_202 : decode cX11_normals 202 = .ok (.iastore, 1) := by decide +kernel
theorem dX11_normals_203 : decode cX11_normals 203 = .ok (.aload_n 0, 1) := by decide +kernel
theorem dX11_normals_204 : decode cX11_normals 204 = .ok (.iload_n 1, 1) := by decide +kernel
theorem dX11_normals_205 : decode cX11_normals 205 = .ok (.aload_n 0, 1) := by decide +kernel
theorem dX11_normals_206 : decode cX11_normals 206 = .ok (.getfield 7, 3) := by decide +kernel
theorem dX11_normals_209 : decode cX11_normals 209 = .ok (.iconst 0, 1) := by decide +kernel
theorem dX11_normals_210 : decode cX11_normals 210 = .ok (.iaload, 1) := by decide +kernel
theorem dX11_normals_211 : decode cX11_normals 211 = .ok (.aload_n 0, 1) := by decide +kernel
theorem dX11_normals_212 : decode cX11_normals 212 = .ok (.getfield 7, 3) := by decide +kernel
theorem dX11_normals_215 : decode cX11_normals 215 = .ok (.iconst 3, 1) := by decide +kernel
theorem dX11_normals_216 : decode cX11_normals 216 = .ok (.iaload, 1) := by decide +kernel
theorem dX11_normals_217 : decode cX11_normals 217 = .ok (.iconst 1, 1) := by decide +kernel
theorem dX11_normals_218 : decode cX11_normals 218 = .ok (.isub, 1) := by decide +kernel
theorem dX11_normals_219 : decode cX11_normals 219 = .ok (.invokevirtual 108, 3) := by decide +kernel
theorem dX11_normals_222 : decode cX11_normals 222 = .ok (.aload_n 0, 1) := by decide +kernel
theorem dX11_normals_223 : decode cX11_normals 223 = .ok (.getfield 64, 3) := by decide +kernel
theorem dX11_normals_226 : decode cX11_normals 226 = .ok (.ireturn, 1) := by decide +kernel
set_option maxRecDepth 20000 in
theorem ggX11_normal_X11_keeps : GoodIn wsX11_normal wsX11_keeps := goodIn_r _ [5, 6, 7, 57, 58, 59, 60, 61, 62, 63, 64, 65, 66, 67, 68, 69, 70, 71, 72, 73, 74, 75, 76, 77, 78, 79, 80, 81, 82, 83] (by decide +kernel) (by decide +kernel)
set_option maxRecDepth 20000 in
theorem gX11_normal_X11_keeps : GoodIn wsX11_normal (wsV RX11 85 RX11 yX11_keeps wsX11_keeps) := goodIn_app (goodIn_of _ (by decide +kernel)) ggX11_normal_X11_keeps
set_option maxRecDepth 20000 in
theorem ggX11_normal_X11_normals : GoodIn wsX11_normal wsX11_normals := goodIn_r _ [11, 7, 12, 13, 14, 15, 16, 17, 18, 19, 4, 20, 21, 22, 23, 24, 25, 26, 27, 28, 29, 30, 31, 32, 33, 34, 35, 36, 37, 38, 39, 40, 41, 42, 43, 44, 45, 46, 47, 48, 49, 57, 58, 59, 60, 61, 62, 63, 64, 65, 66, 67, 68, 69, 70, 71, 72, 73, 74, 75, 76, 77, 78, 79, 80, 81, 82, 83] (by decide +kernel) (by decide +kernel)
set_option maxRecDepth 20000 in
theorem gX11_normal_X11_normals : GoodIn wsX11_normal (wsV RX11 116 RX11 yX11_normals wsX11_normals) := goodIn_app (goodIn_of _ (by decide +kernel)) ggX11_normal_X11_normals
set_option maxRecDepth 20000 in
theorem ggX11_normal_X11_acted : GoodIn wsX11_normal wsX11_acted := goodIn_r _ [53, 54, 55, 56, 6, 57, 58, 59, 60, 61, 62, 63, 64, 65, 66, 67, 68, 69, 70, 71, 72, 73, 74, 75, 76, 77, 78, 79, 80, 81, 82, 83] (by decide +kernel) (by decide +kernel)
set_option maxRecDepth 20000 in
theorem gX11_normal_X11_acted : GoodIn wsX11_normal (wsV RX11 91 RX11 yX11_acted wsX11_acted) := goodIn_app (goodIn_of _ (by decide +kernel)) ggX11_normal_X11_acted
theorem dX11_normal_0 : decode cX11_normal 0 = .ok (.aload_n 0, 1) := by decide +kernel
theorem dX11_normal_1 : decode cX11_normal 1 = .ok (.invokevirtual 85, 3) := by decide +kernel
theorem dX11_normal_4 : decode cX11_normal 4 = .ok (.aload_n 0, 1) := by decide +kernel
theorem dX11_normal_5 : decode cX11_normal 5 = .ok (.aload_n 0, 1) := by decide +kernel
theorem dX11_normal_6 : decode cX11_normal 6 = .ok (.invokevirtual 116, 3) := by decide +kernel
theorem dX11_normal_9 : decode cX11_normal 9 = .ok (.invokevirtual 91, 3) := by decide +kernel
theorem dX11_normal_12 : decode cX11_normal 12 = .ok (.ireturn, 1) := by decide +kernel
set_option maxRecDepth 20000 in
theorem ggX11_letterAt_X11_letterOf : GoodIn wsX11_letterAt wsX11_letterOf := goodIn_r _ [6, 7, 8, 9, 5, 10, 11, 12, 13] (by decide +kernel) (by decide +kernel)
set_option maxRecDepth 20000 in
theorem gX11_letterAt_X11_letterOf : GoodIn wsX11_letterAt (va_wsS RX11 100 yX11_letterOf wsX11_letterOf) := goodIn_app (goodIn_of _ (by decide +kernel)) ggX11_letterAt_X11_letterOf
theorem dX11_letterAt_0 : decode cX11_letterAt 0 = .ok (.iload_n 1, 1) := by decide +kernel
theorem dX11_letterAt_1 : decode cX11_letterAt 1 = .ok (.ifCond .ge 8, 3) := by decide +kernel
theorem dX11_letterAt_4 : decode cX11_letterAt 4 = .ok (.ldc 78, 2) := by decide +kernel
theorem dX11_letterAt_6 : decode cX11_letterAt 6 = .ok (.goto 13, 3) := by decide +kernel
theorem dX11_letterAt_9 : decode cX11_letterAt 9 = .ok (.aload_n 0, 1) := by decide +kernel
theorem dX11_letterAt_10 : decode cX11_letterAt 10 = .ok (.getfield 7, 3) := by decide +kernel
theorem dX11_letterAt_13 : decode cX11_letterAt 13 = .ok (.iconst 0, 1) := by decide +kernel
theorem dX11_letterAt_14 : decode cX11_letterAt 14 = .ok (.iaload, 1) := by decide +kernel
theorem dX11_letterAt_15 : decode cX11_letterAt 15 = .ok (.iload_n 1, 1) := by decide +kernel
theorem dX11_letterAt_16 : decode cX11_letterAt 16 = .ok (.invokestatic 100, 3) := by decide +kernel
theorem dX11_letterAt_19 : decode cX11_letterAt 19 = .ok (.ireturn, 1) := by decide +kernel
set_option maxRecDepth 20000 in
theorem ggX11_next_X11_in : GoodIn wsX11_next wsX11_in := goodIn_r _ [9] (by decide +kernel) (by decide +kernel)
set_option maxRecDepth 20000 in
theorem gX11_next_X11_in : GoodIn wsX11_next (va_wsS RX11 44 yX11_in wsX11_in) := goodIn_app (goodIn_of _ (by decide +kernel)) ggX11_next_X11_in
set_option maxRecDepth 20000 in
theorem ggX11_next_X11_chooses : GoodIn wsX11_next wsX11_chooses := goodIn_r _ [13, 4, 2, 5, 14, 15, 8, 16, 17, 18, 19, 20, 21, 22, 23, 24, 25, 26, 27, 28, 29, 30, 31, 32, 33, 34, 35, 36, 37, 38, 39, 40, 41, 42, 43, 44, 45, 46, 47, 48, 49, 50] (by decide +kernel) (by decide +kernel)
set_option maxRecDepth 20000 in
theorem gX11_next_X11_chooses : GoodIn wsX11_next (wsV RX11 67 RX11 yX11_chooses wsX11_chooses) := goodIn_app (goodIn_of _ (by decide +kernel)) ggX11_next_X11_chooses
theorem dX11_next_0 : decode cX11_next 0 = .ok (.iload_n 1, 1) := by decide +kernel
theorem dX11_next_1 : decode cX11_next 1 = .ok (.iconst 0, 1) := by decide +kernel
theorem dX11_next_2 : decode cX11_next 2 = .ok (.iconst 1, 1) := by decide +kernel
theorem dX11_next_3 : decode cX11_next 3 = .ok (.invokestatic 44, 3) := by decide +kernel
theorem dX11_next_6 : decode cX11_next 6 = .ok (.ifCond .ne 6, 3) := by decide +kernel
theorem dX11_next_9 : decode cX11_next 9 = .ok (.ldc 78, 2) := by decide +kernel
theorem dX11_next_11 : decode cX11_next 11 = .ok (.ireturn, 1) := by decide +kernel
theorem dX11_next_12 : decode cX11_next 12 = .ok (.aload_n 0, 1) := by decide +kernel
theorem dX11_next_13 : decode cX11_next 13 = .ok (.aload_n 0, 1) := by decide +kernel
theorem dX11_next_14 : decode cX11_next 14 = .ok (.getfield 7, 3) := by decide +kernel
theorem dX11_next_17 : decode cX11_next 17 = .ok (.iconst 0, 1) := by decide +kernel
theorem dX11_next_18 : decode cX11_next 18 = .ok (.iaload, 1) := by decide +kernel
theorem dX11_next_19 : decode cX11_next 19 = .ok (.invokevirtual 67, 3) := by decide +kernel
theorem dX11_next_22 : decode cX11_next 22 = .ok (.ifCond .ne 6, 3) := by decide +kernel
theorem dX11_next_25 : decode cX11_next 25 = .ok (.ldc 43, 2) := by decide +kernel
theorem dX11_next_27 : decode cX11_next 27 = .ok (.ireturn, 1) := by decide +kernel
theorem dX11_next_28 : decode cX11_next 28 = .ok (.iload_n 1, 1) := by decide +kernel
theorem dX11_next_29 : decode cX11_next 29 = .ok (.ifCond .ne 10, 3) := by decide +kernel
theorem dX11_next_32 : decode cX11_next 32 = .ok (.aload_n 0, 1) := by decide +kernel
theorem dX11_next_33 : decode cX11_next 33 = .ok (.getfield 54, 3) := by decide +kernel
theorem dX11_next_36 : decode cX11_next 36 = .ok (.goto 7, 3) := by decide +kernel
theorem dX11_next_39 : decode cX11_next 39 = .ok (.aload_n 0, 1) := by decide +kernel
theorem dX11_next_40 : decode cX11_next 40 = .ok (.getfield 58, 3) := by decide +kernel
theorem dX11_next_43 : decode cX11_next 43 = .ok (.ireturn, 1) := by decide +kernel
set_option maxRecDepth 20000 in
theorem ggX11_reduced_X11_in : GoodIn wsX11_reduced wsX11_in := goodIn_r _ [10] (by decide +kernel) (by decide +kernel)
set_option maxRecDepth 20000 in
theorem gX11_reduced_X11_in : GoodIn wsX11_reduced (va_wsS RX11 44 yX11_in wsX11_in) := goodIn_app (goodIn_of _ (by decide +kernel)) ggX11_reduced_X11_in
set_option maxRecDepth 20000 in
theorem ggX11_reduced_X11_reduces : GoodIn wsX11_reduced wsX11_reduces := goodIn_r _ [14, 6, 3, 15, 16, 17, 4, 18, 19, 20, 9, 21, 2, 22, 23, 24, 25, 26, 27, 28, 29, 30, 31, 32, 33, 34, 35, 36, 37, 38, 39, 46, 47, 48, 49, 50, 51, 52, 53, 54, 55, 56, 57, 58, 59, 60, 61, 62, 63, 64, 65, 66, 67, 68, 69, 70, 71, 72] (by decide +kernel) (by decide +kernel)
set_option maxRecDepth 20000 in
theorem gX11_reduced_X11_reduces : GoodIn wsX11_reduced (wsV RX11 112 RX11 yX11_reduces wsX11_reduces) := goodIn_app (goodIn_of _ (by decide +kernel)) ggX11_reduced_X11_reduces
set_option maxRecDepth 20000 in
theorem ggX11_reduced_X11_length : GoodIn wsX11_reduced wsX11_length := goodIn_r _ [24] (by decide +kernel) (by decide +kernel)
set_option maxRecDepth 20000 in
theorem gX11_reduced_X11_length : GoodIn wsX11_reduced (va_wsS RX11 35 yX11_length wsX11_length) := goodIn_app (goodIn_of _ (by decide +kernel)) ggX11_reduced_X11_length
set_option maxRecDepth 20000 in
theorem ggX11_reduced_X11_letterOf : GoodIn wsX11_reduced wsX11_letterOf := goodIn_r _ [42, 5, 22, 23, 9, 24, 43, 44, 45] (by decide +kernel) (by decide +kernel)
set_option maxRecDepth 20000 in
theorem gX11_reduced_X11_letterOf : GoodIn wsX11_reduced (va_wsS RX11 100 yX11_letterOf wsX11_letterOf) := goodIn_app (goodIn_of _ (by decide +kernel)) ggX11_reduced_X11_letterOf
theorem dX11_reduced_0 : decode cX11_reduced 0 = .ok (.iload_n 1, 1) := by decide +kernel
theorem dX11_reduced_1 : decode cX11_reduced 1 = .ok (.iconst 0, 1) := by decide +kernel
theorem dX11_reduced_2 : decode cX11_reduced 2 = .ok (.iconst 4, 1) := by decide +kernel
theorem dX11_reduced_3 : decode cX11_reduced 3 = .ok (.invokestatic 44, 3) := by decide +kernel
theorem dX11_reduced_6 : decode cX11_reduced 6 = .ok (.ifCond .ne 17, 3) := by decide +kernel
theorem dX11_reduced_9 : decode cX11_reduced 9 = .ok (.iload_n 1, 1) := by decide +kernel
theorem dX11_reduced_10 : decode cX11_reduced 10 = .ok (.bipush 10, 2) := by decide +kernel
theorem dX11_reduced_12 : decode cX11_reduced 12 = .ok (.bipush 21, 2) := by decide +kernel
theorem dX11_reduced_14 : decode cX11_reduced 14 = .ok (.invokestatic 44, 3) := by decide +kernel
theorem dX11_reduced_17 : decode cX11_reduced 17 = .ok (.ifCond .ne 6, 3) := by decide +kernel
theorem dX11_reduced_20 : decode cX11_reduced 20 = .ok (.ldc 78, 2) := by decide +kernel
theorem dX11_reduced_22 : decode cX11_reduced 22 = .ok (.ireturn, 1) := by decide +kernel
theorem dX11_reduced_23 : decode cX11_reduced 23 = .ok (.aload_n 0, 1) := by decide +kernel
theorem dX11_reduced_24 : decode cX11_reduced 24 = .ok (.aload_n 0, 1) := by decide +kernel
theorem dX11_reduced_25 : decode cX11_reduced 25 = .ok (.getfield 7, 3) := by decide +kernel
theorem dX11_reduced_28 : decode cX11_reduced 28 = .ok (.iconst 0, 1) := by decide +kernel
theorem dX11_reduced_29 : decode cX11_reduced 29 = .ok (.iaload, 1) := by decide +kernel
theorem dX11_reduced_30 : decode cX11_reduced 30 = .ok (.invokevirtual 112, 3) := by decide +kernel
theorem dX11_reduced_33 : decode cX11_reduced 33 = .ok (.istore_n 2, 1) := by decide +kernel
theorem dX11_reduced_34 : decode cX11_reduced 34 = .ok (.iload_n 1, 1) := by decide +kernel
theorem dX11_reduced_35 : decode cX11_reduced 35 = .ok (.tableswitch 97 0 4 #[33, 35, 40, 60, 75], 33) := by decide +kernel
theorem dX11_reduced_68 : decode cX11_reduced 68 = .ok (.iload_n 2, 1) := by decide +kernel
theorem dX11_reduced_69 : decode cX11_reduced 69 = .ok (.ireturn, 1) := by decide +kernel
theorem dX11_reduced_70 : decode cX11_reduced 70 = .ok (.aload_n 0, 1) := by decide +kernel
theorem dX11_reduced_71 : decode cX11_reduced 71 = .ok (.getfield 64, 3) := by decide +kernel
theorem dX11_reduced_74 : decode cX11_reduced 74 = .ok (.ireturn, 1) := by decide +kernel
theorem dX11_reduced_75 : decode cX11_reduced 75 = .ok (.iload_n 2, 1) := by decide +kernel
theorem dX11_reduced_76 : decode cX11_reduced 76 = .ok (.iconst 1, 1) := by decide +kernel
theorem dX11_reduced_77 : decode cX11_reduced 77 = .ok (.if_icmp .ne 15, 3) := by decide +kernel
theorem dX11_reduced_80 : decode cX11_reduced 80 = .ok (.aload_n 0, 1) := by decide +kernel
theorem dX11_reduced_81 : decode cX11_reduced 81 = .ok (.getfield 64, 3) := by decide +kernel
theorem dX11_reduced_84 : decode cX11_reduced 84 = .ok (.aload_n 0, 1) := by decide +kernel
theorem dX11_reduced_85 : decode cX11_reduced 85 = .ok (.getfield 75, 3) := by decide +kernel
theorem dX11_reduced_88 : decode cX11_reduced 88 = .ok (.isub, 1) := by decide +kernel
theorem dX11_reduced_89 : decode cX11_reduced 89 = .ok (.goto 5, 3) := by decide +kernel
theorem dX11_reduced_92 : decode cX11_reduced 92 = .ok (.ldc 43, 2) := by decide +kernel
theorem dX11_reduced_94 : decode cX11_reduced 94 = .ok (.ireturn, 1) := by decide +kernel
theorem dX11_reduced_95 : decode cX11_reduced 95 = .ok (.iload_n 2, 1) := by decide +kernel
theorem dX11_reduced_96 : decode cX11_reduced 96 = .ok (.iconst 1, 1) := by decide +kernel
theorem dX11_reduced_97 : decode cX11_reduced 97 = .ok (.if_icmp .ne 10, 3) := by decide +kernel
theorem dX11_reduced_100 : decode cX11_reduced 100 = .ok (.aload_n 0, 1) := by decide +kernel
theorem dX11_reduced_101 : decode cX11_reduced 101 = .ok (.getfield 75, 3) := by decide +kernel
theorem dX11_reduced_104 : decode cX11_reduced 104 = .ok (.goto 5, 3) := by decide +kernel
theorem dX11_reduced_107 : decode cX11_reduced 107 = .ok (.ldc 43, 2) := by decide +kernel
theorem dX11_reduced_109 : decode cX11_reduced 109 = .ok (.ireturn, 1) := by decide +kernel
theorem dX11_reduced_110 : decode cX11_reduced 110 = .ok (.iload_n 2, 1) := by decide +kernel
theorem dX11_reduced_111 : decode cX11_reduced 111 = .ok (.ifCond .ne 18, 3) := by decide +kernel
theorem dX11_reduced_114 : decode cX11_reduced 114 = .ok (.aload_n 0, 1) := by decide +kernel
theorem dX11_reduced_115 : decode cX11_reduced 115 = .ok (.getfield 26, 3) := by decide +kernel
theorem dX11_reduced_118 : decode cX11_reduced 118 = .ok (.aload_n 0, 1) := by decide +kernel
theorem dX11_reduced_119 : decode cX11_reduced 119 = .ok (.getfield 64, 3) := by decide +kernel
theorem dX11_reduced_122 : decode cX11_reduced 122 = .ok (.iaload, 1) := by decide +kernel
theorem dX11_reduced_123 : decode cX11_reduced 123 = .ok (.invokestatic 35, 3) := by decide +kernel
theorem dX11_reduced_126 : decode cX11_reduced 126 = .ok (.goto 5, 3) := by decide +kernel
theorem dX11_reduced_129 : decode cX11_reduced 129 = .ok (.ldc 43, 2) := by decide +kernel
theorem dX11_reduced_131 : decode cX11_reduced 131 = .ok (.ireturn, 1) := by decide +kernel
theorem dX11_reduced_132 : decode cX11_reduced 132 = .ok (.iload_n 2, 1) := by decide +kernel
theorem dX11_reduced_133 : decode cX11_reduced 133 = .ok (.ifCond .ne 22, 3) := by decide +kernel
theorem dX11_reduced_136 : decode cX11_reduced 136 = .ok (.aload_n 0, 1) := by decide +kernel
theorem dX11_reduced_137 : decode cX11_reduced 137 = .ok (.getfield 26, 3) := by decide +kernel
theorem dX11_reduced_140 : decode cX11_reduced 140 = .ok (.aload_n 0, 1) := by decide +kernel
theorem dX11_reduced_141 : decode cX11_reduced 141 = .ok (.getfield 64, 3) := by decide +kernel
theorem dX11_reduced_144 : decode cX11_reduced 144 = .ok (.iaload, 1) := by decide +kernel
theorem dX11_reduced_145 : decode cX11_reduced 145 = .ok (.iload_n 1, 1) := by decide +kernel
theorem dX11_reduced_146 : decode cX11_reduced 146 = .ok (.bipush 10, 2) := by decide +kernel
theorem dX11_reduced_148 : decode cX11_reduced 148 = .ok (.isub, 1) := by decide +kernel
theorem dX11_reduced_149 : decode cX11_reduced 149 = .ok (.invokestatic 100, 3) := by decide +kernel
theorem dX11_reduced_152 : decode cX11_reduced 152 = .ok (.goto 5, 3) := by decide +kernel
theorem dX11_reduced_155 : decode cX11_reduced 155 = .ok (.ldc 43, 2) := by decide +kernel
theorem dX11_reduced_157 : decode cX11_reduced 157 = .ok (.ireturn, 1) := by decide +kernel
theorem dX11_reaches_0 : decode cX11_reaches 0 = .ok (.iconst 0, 1) := by decide +kernel
theorem dX11_reaches_1 : decode cX11_reaches 1 = .ok (.istore_n 2, 1) := by decide +kernel
theorem dX11_reaches_2 : decode cX11_reaches 2 = .ok (.iconst 0, 1) := by decide +kernel
theorem dX11_reaches_3 : decode cX11_reaches 3 = .ok (.istore_n 3, 1) := by decide +kernel
theorem dX11_reaches_4 : decode cX11_reaches 4 = .ok (.iload_n 3, 1) := by decide +kernel
theorem dX11_reaches_5 : decode cX11_reaches 5 = .ok (.aload_n 0, 1) := by decide +kernel
theorem dX11_reaches_6 : decode cX11_reaches 6 = .ok (.getfield 119, 3) := by decide +kernel
theorem dX11_reaches_9 : decode cX11_reaches 9 = .ok (.if_icmp .ge 29, 3) := by decide +kernel
theorem dX11_reaches_12 : decode cX11_reaches 12 = .ok (.iload_n 2, 1) := by decide +kernel
theorem dX11_reaches_13 : decode cX11_reaches 13 = .ok (.ifCond .ne 25, 3) := by decide +kernel
theorem dX11_reaches_16 : decode cX11_reaches 16 = .ok (.aload_n 0, 1) := by decide +kernel
theorem dX11_reaches_17 : decode cX11_reaches 17 = .ok (.getfield 32, 3) := by decide +kernel
theorem dX11_reaches_20 : decode cX11_reaches 20 = .ok (.iload_n 3, 1) := by decide +kernel
theorem dX11_reaches_21 : decode cX11_reaches 21 = .ok (.iaload, 1) := by decide +kernel
theorem dX11_reaches_22 : decode cX11_reaches 22 = .ok (.iload_n 1, 1) := by decide +kernel
theorem dX11_reaches_23 : decode cX11_reaches 23 = .ok (.if_icmp .ne 7, 3) := by decide +kernel
theorem dX11_reaches_26 : decode cX11_reaches 26 = .ok (.iconst 1, 1) := by decide +kernel
theorem dX11_reaches_27 : decode cX11_reaches 27 = .ok (.goto 4, 3) := by decide +kernel
theorem dX11_reaches_30 : decode cX11_reaches 30 = .ok (.iconst 0, 1) := by decide +kernel
theorem dX11_reaches_31 : decode cX11_reaches 31 = .ok (.istore_n 2, 1) := by decide +kernel
theorem dX11_reaches_32 : decode cX11_reaches 32 = .ok (.iinc 3 1, 3) := by decide +kernel
theorem dX11_reaches_35 : decode cX11_reaches 35 = .ok (.goto (-31), 3) := by decide +kernel
theorem dX11_reaches_38 : decode cX11_reaches 38 = .ok (.iload_n 2, 1) := by decide +kernel
theorem dX11_reaches_39 : decode cX11_reaches 39 = .ok (.ifCond .ne 23, 3) := by decide +kernel
theorem dX11_reaches_42 : decode cX11_reaches 42 = .ok (.aload_n 0, 1) := by decide +kernel
theorem dX11_reaches_43 : decode cX11_reaches 43 = .ok (.getfield 32, 3) := by decide +kernel
theorem dX11_reaches_46 : decode cX11_reaches 46 = .ok (.aload_n 0, 1) := by decide +kernel
theorem dX11_reaches_47 : decode cX11_reaches 47 = .ok (.getfield 119, 3) := by decide +kernel
theorem dX11_reaches_50 : decode cX11_reaches 50 = .ok (.iload_n 1, 1) := by decide +kernel
theorem dX11_reaches_51 : decode cX11_reaches 51 = .ok (.iastore, 1) := by decide +kernel
theorem dX11_reaches_52 : decode cX11_reaches 52 = .ok (.aload_n 0, 1) := by decide +kernel
theorem dX11_reaches_53 : decode cX11_reaches 53 = .ok (.dup, 1) := by decide +kernel
theorem dX11_reaches_54 : decode cX11_reaches 54 = .ok (.getfield 119, 3) := by decide +kernel
theorem dX11_reaches_57 : decode cX11_reaches 57 = .ok (.iconst 1, 1) := by decide +kernel
theorem dX11_reaches_58 : decode cX11_reaches 58 = .ok (.iadd, 1) := by decide +kernel
theorem dX11_reaches_59 : decode cX11_reaches 59 = .ok (.putfield 119, 3) := by decide +kernel
theorem dX11_reaches_62 : decode cX11_reaches 62 = .ok (.return_, 1) := by decide +kernel
set_option maxRecDepth 20000 in
theorem ggX11_reachesAll_X11_reaches : GoodIn wsX11_reachesAll wsX11_reaches := goodIn_r _ [8, 1, 3, 27, 28, 29, 30, 31, 32, 33, 34, 35, 36, 37, 38, 39, 40, 41, 42, 43, 44, 45, 46, 47, 48, 49, 50, 51, 52, 53] (by decide +kernel) (by decide +kernel)
set_option maxRecDepth 20000 in
theorem gX11_reachesAll_X11_reaches : GoodIn wsX11_reachesAll (wsV RX11 122 RX11 yX11_reaches wsX11_reaches) := goodIn_app (goodIn_of _ (by decide +kernel)) ggX11_reachesAll_X11_reaches
set_option maxRecDepth 20000 in
theorem ggX11_reachesAll_X11_length : GoodIn wsX11_reachesAll wsX11_length := goodIn_r _ [11] (by decide +kernel) (by decide +kernel)
set_option maxRecDepth 20000 in
theorem gX11_reachesAll_X11_length : GoodIn wsX11_reachesAll (va_wsS RX11 35 yX11_length wsX11_length) := goodIn_app (goodIn_of _ (by decide +kernel)) ggX11_reachesAll_X11_length
set_option maxRecDepth 20000 in
theorem ggX11_reachesAll_X11_left : GoodIn wsX11_reachesAll wsX11_left := goodIn_r _ [15, 2, 27, 28, 29, 30, 31, 32, 33, 34, 35, 36, 37, 38, 39, 40, 41, 42, 43, 44, 45, 46, 47, 48, 49, 50, 51, 52, 53] (by decide +kernel) (by decide +kernel)
set_option maxRecDepth 20000 in
theorem gX11_reachesAll_X11_left : GoodIn wsX11_reachesAll (wsV RX11 48 RX11 yX11_left wsX11_left) := goodIn_app (goodIn_of _ (by decide +kernel)) ggX11_reachesAll_X11_left
set_option maxRecDepth 20000 in
theorem ggX11_reachesAll_X11_stands : GoodIn wsX11_reachesAll wsX11_stands := goodIn_r _ [18, 9, 10, 7, 11] (by decide +kernel) (by decide +kernel)
set_option maxRecDepth 20000 in
theorem gX11_reachesAll_X11_stands : GoodIn wsX11_reachesAll (va_wsS RX11 61 yX11_stands wsX11_stands) := goodIn_app (goodIn_of _ (by decide +kernel)) ggX11_reachesAll_X11_stands
set_option maxRecDepth 20000 in
theorem ggX11_reachesAll_X11_applied : GoodIn wsX11_reachesAll wsX11_applied := goodIn_r _ [22, 9, 10, 7, 11, 12, 13, 14, 15, 2, 23, 24, 25, 26, 27, 28, 29, 30, 31, 32, 33, 34, 35, 36, 37, 38, 39, 40, 41, 42, 43, 44, 45, 46, 47, 48, 49, 50, 51, 52, 53] (by decide +kernel) (by decide +kernel)
set_option maxRecDepth 20000 in
theorem gX11_reachesAll_X11_applied : GoodIn wsX11_reachesAll (wsV RX11 71 RX11 yX11_applied wsX11_applied) := goodIn_app (goodIn_of _ (by decide +kernel)) ggX11_reachesAll_X11_applied
theorem dX11_reachesAll_0 : decode cX11_reachesAll 0 = .ok (.aload_n 0, 1) := by decide +kernel
theorem dX11_reachesAll_1 : decode cX11_reachesAll 1 = .ok (.iconst 0, 1) := by decide +kernel
theorem dX11_reachesAll_2 : decode cX11_reachesAll 2 = .ok (.putfield 119, 3) := by decide +kernel
theorem dX11_reachesAll_5 : decode cX11_reachesAll 5 = .ok (.aload_n 0, 1) := by decide +kernel
theorem dX11_reachesAll_6 : decode cX11_reachesAll 6 = .ok (.aload_n 0, 1) := by decide +kernel
theorem dX11_reachesAll_7 : decode cX11_reachesAll 7 = .ok (.getfield 7, 3) := by decide +kernel
theorem dX11_reachesAll_10 : decode cX11_reachesAll 10 = .ok (.iconst 0, 1) := by decide +kernel
theorem dX11_reachesAll_11 : decode cX11_reachesAll 11 = .ok (.iaload, 1) := by decide +kernel
theorem dX11_reachesAll_12 : decode cX11_reachesAll 12 = .ok (.invokevirtual 122, 3) := by decide +kernel
theorem dX11_reachesAll_15 : decode cX11_reachesAll 15 = .ok (.iconst 0, 1) := by decide +kernel
theorem dX11_reachesAll_16 : decode cX11_reachesAll 16 = .ok (.istore_n 1, 1) := by decide +kernel
theorem dX11_reachesAll_17 : decode cX11_reachesAll 17 = .ok (.iload_n 1, 1) := by decide +kernel
theorem dX11_reachesAll_18 : decode cX11_reachesAll 18 = .ok (.aload_n 0, 1) := by decide +kernel
theorem dX11_reachesAll_19 : decode cX11_reachesAll 19 = .ok (.getfield 119, 3) := by decide +kernel
theorem dX11_reachesAll_22 : decode cX11_reachesAll 22 = .ok (.if_icmp .ge 102, 3) := by decide +kernel
theorem dX11_reachesAll_25 : decode cX11_reachesAll 25 = .ok (.aload_n 0, 1) := by decide +kernel
theorem dX11_reachesAll_26 : decode cX11_reachesAll 26 = .ok (.getfield 119, 3) := by decide +kernel
theorem dX11_reachesAll_29 : decode cX11_reachesAll 29 = .ok (.sipush 401, 3) := by decide +kernel
theorem dX11_reachesAll_32 : decode cX11_reachesAll 32 = .ok (.if_icmp .ge 92, 3) := by decide +kernel
theorem dX11_reachesAll_35 : decode cX11_reachesAll 35 = .ok (.iconst 0, 1) := by decide +kernel
theorem dX11_reachesAll_36 : decode cX11_reachesAll 36 = .ok (.istore_n 2, 1) := by decide +kernel
theorem dX11_reachesAll_37 : decode cX11_reachesAll 37 = .ok (.iload_n 2, 1) := by decide +kernel
theorem dX11_reachesAll_38 : decode cX11_reachesAll 38 = .ok (.aload_n 0, 1) := by decide +kernel
theorem dX11_reachesAll_39 : decode cX11_reachesAll 39 = .ok (.getfield 32, 3) := by decide +kernel
theorem dX11_reachesAll_42 : decode cX11_reachesAll 42 = .ok (.iload_n 1, 1) := by decide +kernel
theorem dX11_reachesAll_43 : decode cX11_reachesAll 43 = .ok (.iaload, 1) := by decide +kernel
theorem dX11_reachesAll_44 : decode cX11_reachesAll 44 = .ok (.invokestatic 35, 3) := by decide +kernel
theorem dX11_reachesAll_47 : decode cX11_reachesAll 47 = .ok (.if_icmp .ge 71, 3) := by decide +kernel
theorem dX11_reachesAll_50 : decode cX11_reachesAll 50 = .ok (.iconst 0, 1) := by decide +kernel
theorem dX11_reachesAll_51 : decode cX11_reachesAll 51 = .ok (.istore_n 3, 1) := by decide +kernel
theorem dX11_reachesAll_52 : decode cX11_reachesAll 52 = .ok (.iload_n 3, 1) := by decide +kernel
theorem dX11_reachesAll_53 : decode cX11_reachesAll 53 = .ok (.aload_n 0, 1) := by decide +kernel
theorem dX11_reachesAll_54 : decode cX11_reachesAll 54 = .ok (.getfield 7, 3) := by decide +kernel
theorem dX11_reachesAll_57 : decode cX11_reachesAll 57 = .ok (.iconst 1, 1) := by decide +kernel
theorem dX11_reachesAll_58 : decode cX11_reachesAll 58 = .ok (.iaload, 1) := by decide +kernel
theorem dX11_reachesAll_59 : decode cX11_reachesAll 59 = .ok (.if_icmp .ge 53, 3) := by decide +kernel
theorem dX11_reachesAll_62 : decode cX11_reachesAll 62 = .ok (.aload_n 0, 1) := by decide +kernel
theorem dX11_reachesAll_63 : decode cX11_reachesAll 63 = .ok (.getfield 119, 3) := by decide +kernel
theorem dX11_reachesAll_66 : decode cX11_reachesAll 66 = .ok (.sipush 401, 3) := by decide +kernel
theorem dX11_reachesAll_69 : decode cX11_reachesAll 69 = .ok (.if_icmp .ge 43, 3) := by decide +kernel
theorem dX11_reachesAll_72 : decode cX11_reachesAll 72 = .ok (.aload_n 0, 1) := by decide +kernel
theorem dX11_reachesAll_73 : decode cX11_reachesAll 73 = .ok (.iload_n 3, 1) := by decide +kernel
theorem dX11_reachesAll_74 : decode cX11_reachesAll 74 = .ok (.invokevirtual 48, 3) := by decide +kernel
theorem dX11_reachesAll_77 : decode cX11_reachesAll 77 = .ok (.aload_n 0, 1) := by decide +kernel
theorem dX11_reachesAll_78 : decode cX11_reachesAll 78 = .ok (.getfield 32, 3) := by decide +kernel
theorem dX11_reachesAll_81 : decode cX11_reachesAll 81 = .ok (.iload_n 1, 1) := by decide +kernel
theorem dX11_reachesAll_82 : decode cX11_reachesAll 82 = .ok (.iaload, 1) := by decide +kernel
theorem dX11_reachesAll_83 : decode cX11_reachesAll 83 = .ok (.iload_n 2, 1) := by decide +kernel
theorem dX11_reachesAll_84 : decode cX11_reachesAll 84 = .ok (.invokestatic 61, 3) := by decide +kernel
theorem dX11_reachesAll_87 : decode cX11_reachesAll 87 = .ok (.ifCond .eq 19, 3) := by decide +kernel
theorem dX11_reachesAll_90 : decode cX11_reachesAll 90 = .ok (.aload_n 0, 1) := by decide +kernel
theorem dX11_reachesAll_91 : decode cX11_reachesAll 91 = .ok (.aload_n 0, 1) := by decide +kernel
theorem dX11_reachesAll_92 : decode cX11_reachesAll 92 = .ok (.aload_n 0, 1) := by decide +kernel
theorem dX11_reachesAll_93 : decode cX11_reachesAll 93 = .ok (.getfield 32, 3) := by decide +kernel
theorem dX11_reachesAll_96 : decode cX11_reachesAll 96 = .ok (.iload_n 1, 1) := by decide +kernel
theorem dX11_reachesAll_97 : decode cX11_reachesAll 97 = .ok (.iaload, 1) := by decide +kernel
theorem dX11_reachesAll_98 : decode cX11_reachesAll 98 = .ok (.iload_n 3, 1) := by decide +kernel
theorem dX11_reachesAll_99 : decode cX11_reachesAll 99 = .ok (.iload_n 2, 1) := by decide +kernel
theorem dX11_reachesAll_100 : decode cX11_reachesAll 100 = .ok (.invokevirtual 71, 3) := by decide +kernel
theorem dX11_reachesAll_103 : decode cX11_reachesAll 103 = .ok (.invokevirtual 122, 3) := by decide +kernel
theorem dX11_reachesAll_106 : decode cX11_reachesAll 106 = .ok (.iinc 3 1, 3) := by decide +kernel
theorem dX11_reachesAll_109 : decode cX11_reachesAll 109 = .ok (.goto (-57), 3) := by decide +kernel
theorem dX11_reachesAll_112 : decode cX11_reachesAll 112 = .ok (.iinc 2 1, 3) := by decide +kernel
theorem dX11_reachesAll_115 : decode cX11_reachesAll 115 = .ok (.goto (-78), 3) := by decide +kernel
theorem dX11_reachesAll_118 : decode cX11_reachesAll 118 = .ok (.iinc 1 1, 3) := by decide +kernel
theorem dX11_reachesAll_121 : decode cX11_reachesAll 121 = .ok (.goto (-104), 3) := by decide +kernel
theorem dX11_reachesAll_124 : decode cX11_reachesAll 124 = .ok (.return_, 1) := by decide +kernel
set_option maxRecDepth 20000 in
theorem ggX11_end_X11_chooses : GoodIn wsX11_end wsX11_chooses := goodIn_r _ [7, 8, 9, 10, 11, 12, 6, 13, 14, 15, 16, 17, 18, 19, 20, 21, 22, 23, 24, 25, 26, 27, 28, 29, 30, 31, 32, 33, 34, 35, 36, 37, 38, 39, 40, 41, 42, 43, 44, 45, 46, 47] (by decide +kernel) (by decide +kernel)
set_option maxRecDepth 20000 in
theorem gX11_end_X11_chooses : GoodIn wsX11_end (wsV RX11 67 RX11 yX11_chooses wsX11_chooses) := goodIn_app (goodIn_of _ (by decide +kernel)) ggX11_end_X11_chooses
theorem dX11_end_0 : decode cX11_end 0 = .ok (.iconst (-1), 1) := by decide +kernel
theorem dX11_end_1 : decode cX11_end 1 = .ok (.istore_n 2, 1) := by decide +kernel
theorem dX11_end_2 : decode cX11_end 2 = .ok (.iconst 0, 1) := by decide +kernel
theorem dX11_end_3 : decode cX11_end 3 = .ok (.istore_n 3, 1) := by decide +kernel
theorem dX11_end_4 : decode cX11_end 4 = .ok (.iload_n 3, 1) := by decide +kernel
theorem dX11_end_5 : decode cX11_end 5 = .ok (.aload_n 0, 1) := by decide +kernel
theorem dX11_end_6 : decode cX11_end 6 = .ok (.getfield 119, 3) := by decide +kernel
theorem dX11_end_9 : decode cX11_end 9 = .ok (.if_icmp .ge 76, 3) := by decide +kernel
theorem dX11_end_12 : decode cX11_end 12 = .ok (.iload_n 2, 1) := by decide +kernel
theorem dX11_end_13 : decode cX11_end 13 = .ok (.ifCond .lt 30, 3) := by decide +kernel
theorem dX11_end_16 : decode cX11_end 16 = .ok (.iload_n 1, 1) := by decide +kernel
theorem dX11_end_17 : decode cX11_end 17 = .ok (.ifCond .eq 16, 3) := by decide +kernel
theorem dX11_end_20 : decode cX11_end 20 = .ok (.aload_n 0, 1) := by decide +kernel
theorem dX11_end_21 : decode cX11_end 21 = .ok (.getfield 32, 3) := by decide +kernel
theorem dX11_end_24 : decode cX11_end 24 = .ok (.iload_n 3, 1) := by decide +kernel
theorem dX11_end_25 : decode cX11_end 25 = .ok (.iaload, 1) := by decide +kernel
theorem dX11_end_26 : decode cX11_end 26 = .ok (.iload_n 2, 1) := by decide +kernel
theorem dX11_end_27 : decode cX11_end 27 = .ok (.if_icmp .le 20, 3) := by decide +kernel
theorem dX11_end_30 : decode cX11_end 30 = .ok (.goto 13, 3) := by decide +kernel
theorem dX11_end_33 : decode cX11_end 33 = .ok (.aload_n 0, 1) := by decide +kernel
theorem dX11_end_34 : decode cX11_end 34 = .ok (.getfield 32, 3) := by decide +kernel
theorem dX11_end_37 : decode cX11_end 37 = .ok (.iload_n 3, 1) := by decide +kernel
theorem dX11_end_38 : decode cX11_end 38 = .ok (.iaload, 1) := by decide +kernel
theorem dX11_end_39 : decode cX11_end 39 = .ok (.iload_n 2, 1) := by decide +kernel
theorem dX11_end_40 : decode cX11_end 40 = .ok (.if_icmp .ge 7, 3) := by decide +kernel
theorem dX11_end_43 : decode cX11_end 43 = .ok (.iconst 1, 1) := by decide +kernel
theorem dX11_end_44 : decode cX11_end 44 = .ok (.goto 4, 3) := by decide +kernel
theorem dX11_end_47 : decode cX11_end 47 = .ok (.iconst 0, 1) := by decide +kernel
theorem dX11_end_48 : decode cX11_end 48 = .ok (.istore 4, 2) := by decide +kernel
theorem dX11_end_50 : decode cX11_end 50 = .ok (.iload 4, 2) := by decide +kernel
theorem dX11_end_52 : decode cX11_end 52 = .ok (.ifCond .eq 25, 3) := by decide +kernel
theorem dX11_end_55 : decode cX11_end 55 = .ok (.aload_n 0, 1) := by decide +kernel
theorem dX11_end_56 : decode cX11_end 56 = .ok (.aload_n 0, 1) := by decide +kernel
theorem dX11_end_57 : decode cX11_end 57 = .ok (.getfield 32, 3) := by decide +kernel
theorem dX11_end_60 : decode cX11_end 60 = .ok (.iload_n 3, 1) := by decide +kernel
theorem dX11_end_61 : decode cX11_end 61 = .ok (.iaload, 1) := by decide +kernel
theorem dX11_end_62 : decode cX11_end 62 = .ok (.invokevirtual 67, 3) := by decide +kernel
theorem dX11_end_65 : decode cX11_end 65 = .ok (.ifCond .ne 12, 3) := by decide +kernel
theorem dX11_end_68 : decode cX11_end 68 = .ok (.aload_n 0, 1) := by decide +kernel
theorem dX11_end_69 : decode cX11_end 69 = .ok (.getfield 32, 3) := by decide +kernel
theorem dX11_end_72 : decode cX11_end 72 = .ok (.iload_n 3, 1) := by decide +kernel
theorem dX11_end_73 : decode cX11_end 73 = .ok (.iaload, 1) := by decide +kernel
theorem dX11_end_74 : decode cX11_end 74 = .ok (.goto 4, 3) := by decide +kernel
theorem dX11_end_77 : decode cX11_end 77 = .ok (.iload_n 2, 1) := by decide +kernel
theorem dX11_end_78 : decode cX11_end 78 = .ok (.istore_n 2, 1) := by decide +kernel
theorem dX11_end_79 : decode cX11_end 79 = .ok (.iinc 3 1, 3) := by decide +kernel
theorem dX11_end_82 : decode cX11_end 82 = .ok (.goto (-78), 3) := by decide +kernel
theorem dX11_end_85 : decode cX11_end 85 = .ok (.iload_n 2, 1) := by decide +kernel
theorem dX11_end_86 : decode cX11_end 86 = .ok (.ireturn, 1) := by decide +kernel
set_option maxRecDepth 20000 in
theorem ggX11_ends_X11_chooses : GoodIn wsX11_ends wsX11_chooses := goodIn_r _ [7, 8, 9, 10, 11, 12, 6, 13, 14, 15, 16, 17, 18, 19, 20, 21, 22, 23, 24, 25, 26, 27, 28, 29, 30, 31, 32, 33, 34, 35, 36, 37, 38, 39, 40, 41, 42, 43, 44, 45, 46, 47] (by decide +kernel) (by decide +kernel)
set_option maxRecDepth 20000 in
theorem gX11_ends_X11_chooses : GoodIn wsX11_ends (wsV RX11 67 RX11 yX11_chooses wsX11_chooses) := goodIn_app (goodIn_of _ (by decide +kernel)) ggX11_ends_X11_chooses
theorem dX11_ends_0 : decode cX11_ends 0 = .ok (.iconst 0, 1) := by decide +kernel
theorem dX11_ends_1 : decode cX11_ends 1 = .ok (.istore_n 1, 1) := by decide +kernel
theorem dX11_ends_2 : decode cX11_ends 2 = .ok (.iconst 0, 1) := by decide +kernel
theorem dX11_ends_3 : decode cX11_ends 3 = .ok (.istore_n 2, 1) := by decide +kernel
theorem dX11_ends_4 : decode cX11_ends 4 = .ok (.iload_n 2, 1) := by decide +kernel
theorem dX11_ends_5 : decode cX11_ends 5 = .ok (.aload_n 0, 1) := by decide +kernel
theorem dX11_ends_6 : decode cX11_ends 6 = .ok (.getfield 119, 3) := by decide +kernel
theorem dX11_ends_9 : decode cX11_ends 9 = .ok (.if_icmp .ge 30, 3) := by decide +kernel
theorem dX11_ends_12 : decode cX11_ends 12 = .ok (.iload_n 1, 1) := by decide +kernel
theorem dX11_ends_13 : decode cX11_ends 13 = .ok (.aload_n 0, 1) := by decide +kernel
theorem dX11_ends_14 : decode cX11_ends 14 = .ok (.aload_n 0, 1) := by decide +kernel
theorem dX11_ends_15 : decode cX11_ends 15 = .ok (.getfield 32, 3) := by decide +kernel
theorem dX11_ends_18 : decode cX11_ends 18 = .ok (.iload_n 2, 1) := by decide +kernel
theorem dX11_ends_19 : decode cX11_ends 19 = .ok (.iaload, 1) := by decide +kernel
theorem dX11_ends_20 : decode cX11_ends 20 = .ok (.invokevirtual 67, 3) := by decide +kernel
theorem dX11_ends_23 : decode cX11_ends 23 = .ok (.ifCond .eq 7, 3) := by decide +kernel
theorem dX11_ends_26 : decode cX11_ends 26 = .ok (.iconst 0, 1) := by decide +kernel
theorem dX11_ends_27 : decode cX11_ends 27 = .ok (.goto 4, 3) := by decide +kernel
theorem dX11_ends_30 : decode cX11_ends 30 = .ok (.iconst 1, 1) := by decide +kernel
theorem dX11_ends_31 : decode cX11_ends 31 = .ok (.iadd, 1) := by decide +kernel
theorem dX11_ends_32 : decode cX11_ends 32 = .ok (.istore_n 1, 1) := by decide +kernel
theorem dX11_ends_33 : decode cX11_ends 33 = .ok (.iinc 2 1, 3) := by decide +kernel
theorem dX11_ends_36 : decode cX11_ends 36 = .ok (.goto (-32), 3) := by decide +kernel
theorem dX11_ends_39 : decode cX11_ends 39 = .ok (.iload_n 1, 1) := by decide +kernel
theorem dX11_ends_40 : decode cX11_ends 40 = .ok (.ireturn, 1) := by decide +kernel
set_option maxRecDepth 20000 in
theorem ggX11_reached_X11_in : GoodIn wsX11_reached wsX11_in := goodIn_r _ [8] (by decide +kernel) (by decide +kernel)
set_option maxRecDepth 20000 in
theorem gX11_reached_X11_in : GoodIn wsX11_reached (va_wsS RX11 44 yX11_in wsX11_in) := goodIn_app (goodIn_of _ (by decide +kernel)) ggX11_reached_X11_in
set_option maxRecDepth 20000 in
theorem ggX11_reached_X11_reachesAll : GoodIn wsX11_reached wsX11_reachesAll := goodIn_r _ [12, 2, 13, 14, 15, 16, 17, 7, 18, 19, 20, 21, 22, 23, 24, 25, 26, 27, 28, 29, 30, 31, 32, 33, 34, 35, 36, 57, 58, 59, 60, 61, 62, 63, 64, 65, 66, 67, 68, 69, 70, 71, 72, 73, 74, 75, 76, 77, 78, 79, 80, 81, 82, 83] (by decide +kernel) (by decide +kernel)
set_option maxRecDepth 20000 in
theorem gX11_reached_X11_reachesAll : GoodIn wsX11_reached (wsV RX11 126 RX11 yX11_reachesAll wsX11_reachesAll) := goodIn_app (goodIn_of _ (by decide +kernel)) ggX11_reached_X11_reachesAll
set_option maxRecDepth 20000 in
theorem ggX11_reached_X11_ends : GoodIn wsX11_reached wsX11_ends := goodIn_r _ [40, 2, 14, 41, 42, 43, 7, 44, 45, 13, 46, 19, 20, 21, 22, 23, 24, 25, 26, 27, 28, 57, 58, 59, 60, 61, 62, 63, 64, 65, 66, 67, 68, 69, 70, 71, 72, 73, 74, 75, 76, 77, 78, 79, 80, 81, 82, 83] (by decide +kernel) (by decide +kernel)
set_option maxRecDepth 20000 in
theorem gX11_reached_X11_ends : GoodIn wsX11_reached (wsV RX11 129 RX11 yX11_ends wsX11_ends) := goodIn_app (goodIn_of _ (by decide +kernel)) ggX11_reached_X11_ends
set_option maxRecDepth 20000 in
theorem ggX11_reached_X11_end : GoodIn wsX11_reached wsX11_end := goodIn_r _ [50, 2, 14, 41, 42, 43, 7, 44, 45, 13, 46, 19, 20, 21, 22, 23, 24, 25, 26, 27, 28, 57, 58, 59, 60, 61, 62, 63, 64, 65, 66, 67, 68, 69, 70, 71, 72, 73, 74, 75, 76, 77, 78, 79, 80, 81, 82, 83] (by decide +kernel) (by decide +kernel)
set_option maxRecDepth 20000 in
theorem gX11_reached_X11_end : GoodIn wsX11_reached (wsV RX11 132 RX11 yX11_end wsX11_end) := goodIn_app (goodIn_of _ (by decide +kernel)) ggX11_reached_X11_end
set_option maxRecDepth 20000 in
theorem ggX11_reached_X11_length : GoodIn wsX11_reached wsX11_length := goodIn_r _ [21] (by decide +kernel) (by decide +kernel)
set_option maxRecDepth 20000 in
theorem gX11_reached_X11_length : GoodIn wsX11_reached (va_wsS RX11 35 yX11_length wsX11_length) := goodIn_app (goodIn_of _ (by decide +kernel)) ggX11_reached_X11_length
set_option maxRecDepth 20000 in
theorem ggX11_reached_X11_letterOf : GoodIn wsX11_reached wsX11_letterOf := goodIn_r _ [53, 4, 19, 20, 7, 21, 54, 55, 56] (by decide +kernel) (by decide +kernel)
set_option maxRecDepth 20000 in
theorem gX11_reached_X11_letterOf : GoodIn wsX11_reached (va_wsS RX11 100 yX11_letterOf wsX11_letterOf) := goodIn_app (goodIn_of _ (by decide +kernel)) ggX11_reached_X11_letterOf
theorem dX11_reached_0 : decode cX11_reached 0 = .ok (.iload_n 1, 1) := by decide +kernel
theorem dX11_reached_1 : decode cX11_reached 1 = .ok (.iconst 0, 1) := by decide +kernel
theorem dX11_reached_2 : decode cX11_reached 2 = .ok (.iconst 3, 1) := by decide +kernel
theorem dX11_reached_3 : decode cX11_reached 3 = .ok (.invokestatic 44, 3) := by decide +kernel
theorem dX11_reached_6 : decode cX11_reached 6 = .ok (.ifCond .ne 28, 3) := by decide +kernel
theorem dX11_reached_9 : decode cX11_reached 9 = .ok (.iload_n 1, 1) := by decide +kernel
theorem dX11_reached_10 : decode cX11_reached 10 = .ok (.bipush 10, 2) := by decide +kernel
theorem dX11_reached_12 : decode cX11_reached 12 = .ok (.bipush 21, 2) := by decide +kernel
theorem dX11_reached_14 : decode cX11_reached 14 = .ok (.invokestatic 44, 3) := by decide +kernel
theorem dX11_reached_17 : decode cX11_reached 17 = .ok (.ifCond .ne 17, 3) := by decide +kernel
theorem dX11_reached_20 : decode cX11_reached 20 = .ok (.iload_n 1, 1) := by decide +kernel
theorem dX11_reached_21 : decode cX11_reached 21 = .ok (.bipush 30, 2) := by decide +kernel
theorem dX11_reached_23 : decode cX11_reached 23 = .ok (.bipush 41, 2) := by decide +kernel
theorem dX11_reached_25 : decode cX11_reached 25 = .ok (.invokestatic 44, 3) := by decide +kernel
theorem dX11_reached_28 : decode cX11_reached 28 = .ok (.ifCond .ne 6, 3) := by decide +kernel
theorem dX11_reached_31 : decode cX11_reached 31 = .ok (.ldc 78, 2) := by decide +kernel
theorem dX11_reached_33 : decode cX11_reached 33 = .ok (.ireturn, 1) := by decide +kernel
theorem dX11_reached_34 : decode cX11_reached 34 = .ok (.aload_n 0, 1) := by decide +kernel
theorem dX11_reached_35 : decode cX11_reached 35 = .ok (.invokevirtual 126, 3) := by decide +kernel
theorem dX11_reached_38 : decode cX11_reached 38 = .ok (.aload_n 0, 1) := by decide +kernel
theorem dX11_reached_39 : decode cX11_reached 39 = .ok (.getfield 119, 3) := by decide +kernel
theorem dX11_reached_42 : decode cX11_reached 42 = .ok (.sipush 400, 3) := by decide +kernel
theorem dX11_reached_45 : decode cX11_reached 45 = .ok (.if_icmp .le 6, 3) := by decide +kernel
theorem dX11_reached_48 : decode cX11_reached 48 = .ok (.ldc 115, 2) := by decide +kernel
theorem dX11_reached_50 : decode cX11_reached 50 = .ok (.ireturn, 1) := by decide +kernel
theorem dX11_reached_51 : decode cX11_reached 51 = .ok (.iload_n 1, 1) := by decide +kernel
theorem dX11_reached_52 : decode cX11_reached 52 = .ok (.iconst 2, 1) := by decide +kernel
theorem dX11_reached_53 : decode cX11_reached 53 = .ok (.if_icmp .ge 19, 3) := by decide +kernel
theorem dX11_reached_56 : decode cX11_reached 56 = .ok (.iload_n 1, 1) := by decide +kernel
theorem dX11_reached_57 : decode cX11_reached 57 = .ok (.ifCond .ne 10, 3) := by decide +kernel
theorem dX11_reached_60 : decode cX11_reached 60 = .ok (.aload_n 0, 1) := by decide +kernel
theorem dX11_reached_61 : decode cX11_reached 61 = .ok (.getfield 119, 3) := by decide +kernel
theorem dX11_reached_64 : decode cX11_reached 64 = .ok (.goto 7, 3) := by decide +kernel
theorem dX11_reached_67 : decode cX11_reached 67 = .ok (.aload_n 0, 1) := by decide +kernel
theorem dX11_reached_68 : decode cX11_reached 68 = .ok (.invokevirtual 129, 3) := by decide +kernel
theorem dX11_reached_71 : decode cX11_reached 71 = .ok (.ireturn, 1) := by decide +kernel
theorem dX11_reached_72 : decode cX11_reached 72 = .ok (.aload_n 0, 1) := by decide +kernel
theorem dX11_reached_73 : decode cX11_reached 73 = .ok (.iload_n 1, 1) := by decide +kernel
theorem dX11_reached_74 : decode cX11_reached 74 = .ok (.iconst 3, 1) := by decide +kernel
theorem dX11_reached_75 : decode cX11_reached 75 = .ok (.if_icmp .eq 9, 3) := by decide +kernel
theorem dX11_reached_78 : decode cX11_reached 78 = .ok (.iload_n 1, 1) := by decide +kernel
theorem dX11_reached_79 : decode cX11_reached 79 = .ok (.bipush 30, 2) := by decide +kernel
theorem dX11_reached_81 : decode cX11_reached 81 = .ok (.if_icmp .lt 7, 3) := by decide +kernel
theorem dX11_reached_84 : decode cX11_reached 84 = .ok (.iconst 1, 1) := by decide +kernel
theorem dX11_reached_85 : decode cX11_reached 85 = .ok (.goto 4, 3) := by decide +kernel
theorem dX11_reached_88 : decode cX11_reached 88 = .ok (.iconst 0, 1) := by decide +kernel
theorem dX11_reached_89 : decode cX11_reached 89 = .ok (.invokevirtual 132, 3) := by decide +kernel
theorem dX11_reached_92 : decode cX11_reached 92 = .ok (.istore_n 2, 1) := by decide +kernel
theorem dX11_reached_93 : decode cX11_reached 93 = .ok (.iload_n 2, 1) := by decide +kernel
theorem dX11_reached_94 : decode cX11_reached 94 = .ok (.ifCond .ge 6, 3) := by decide +kernel
theorem dX11_reached_97 : decode cX11_reached 97 = .ok (.ldc 43, 2) := by decide +kernel
theorem dX11_reached_99 : decode cX11_reached 99 = .ok (.ireturn, 1) := by decide +kernel
theorem dX11_reached_100 : decode cX11_reached 100 = .ok (.iload_n 1, 1) := by decide +kernel
theorem dX11_reached_101 : decode cX11_reached 101 = .ok (.bipush 10, 2) := by decide +kernel
theorem dX11_reached_103 : decode cX11_reached 103 = .ok (.if_icmp .ge 10, 3) := by decide +kernel
theorem dX11_reached_106 : decode cX11_reached 106 = .ok (.iload_n 2, 1) := by decide +kernel
theorem dX11_reached_107 : decode cX11_reached 107 = .ok (.invokestatic 35, 3) := by decide +kernel
theorem dX11_reached_110 : decode cX11_reached 110 = .ok (.goto 24, 3) := by decide +kernel
theorem dX11_reached_113 : decode cX11_reached 113 = .ok (.iload_n 2, 1) := by decide +kernel
theorem dX11_reached_114 : decode cX11_reached 114 = .ok (.iload_n 1, 1) := by decide +kernel
theorem dX11_reached_115 : decode cX11_reached 115 = .ok (.bipush 30, 2) := by decide +kernel
theorem dX11_reached_117 : decode cX11_reached 117 = .ok (.if_icmp .ge 10, 3) := by decide +kernel
theorem dX11_reached_120 : decode cX11_reached 120 = .ok (.iload_n 1, 1) := by decide +kernel
theorem dX11_reached_121 : decode cX11_reached 121 = .ok (.bipush 10, 2) := by decide +kernel
theorem dX11_reached_123 : decode cX11_reached 123 = .ok (.isub, 1) := by decide +kernel
theorem dX11_reached_124 : decode cX11_reached 124 = .ok (.goto 7, 3) := by decide +kernel
theorem dX11_reached_127 : decode cX11_reached 127 = .ok (.iload_n 1, 1) := by decide +kernel
theorem dX11_reached_128 : decode cX11_reached 128 = .ok (.bipush 30, 2) := by decide +kernel
theorem dX11_reached_130 : decode cX11_reached 130 = .ok (.isub, 1) := by decide +kernel
theorem dX11_reached_131 : decode cX11_reached 131 = .ok (.invokestatic 100, 3) := by decide +kernel
theorem dX11_reached_134 : decode cX11_reached 134 = .ok (.ireturn, 1) := by decide +kernel
set_option maxRecDepth 20000 in
theorem ggX11_storeOf_X11_in : GoodIn wsX11_storeOf wsX11_in := goodIn_r _ [7] (by decide +kernel) (by decide +kernel)
set_option maxRecDepth 20000 in
theorem gX11_storeOf_X11_in : GoodIn wsX11_storeOf (va_wsS RX11 44 yX11_in wsX11_in) := goodIn_app (goodIn_of _ (by decide +kernel)) ggX11_storeOf_X11_in
set_option maxRecDepth 20000 in
theorem ggX11_storeOf_X11_length : GoodIn wsX11_storeOf wsX11_length := goodIn_r _ [10] (by decide +kernel) (by decide +kernel)
set_option maxRecDepth 20000 in
theorem gX11_storeOf_X11_length : GoodIn wsX11_storeOf (va_wsS RX11 35 yX11_length wsX11_length) := goodIn_app (goodIn_of _ (by decide +kernel)) ggX11_storeOf_X11_length
set_option maxRecDepth 20000 in
theorem ggX11_storeOf_X11_letterOf : GoodIn wsX11_storeOf wsX11_letterOf := goodIn_r _ [13, 3, 8, 9, 6, 10, 14, 15, 16] (by decide +kernel) (by decide +kernel)
set_option maxRecDepth 20000 in
theorem gX11_storeOf_X11_letterOf : GoodIn wsX11_storeOf (va_wsS RX11 100 yX11_letterOf wsX11_letterOf) := goodIn_app (goodIn_of _ (by decide +kernel)) ggX11_storeOf_X11_letterOf
theorem dX11_storeOf_0 : decode cX11_storeOf 0 = .ok (.iload_n 1, 1) := by decide +kernel
theorem dX11_storeOf_1 : decode cX11_storeOf 1 = .ok (.ifCond .lt 34, 3) := by decide +kernel
theorem dX11_storeOf_4 : decode cX11_storeOf 4 = .ok (.iload_n 2, 1) := by decide +kernel
theorem dX11_storeOf_5 : decode cX11_storeOf 5 = .ok (.iconst 0, 1) := by decide +kernel
theorem dX11_storeOf_6 : decode cX11_storeOf 6 = .ok (.iconst 1, 1) := by decide +kernel
theorem dX11_storeOf_7 : decode cX11_storeOf 7 = .ok (.invokestatic 44, 3) := by decide +kernel
theorem dX11_storeOf_10 : decode cX11_storeOf 10 = .ok (.ifCond .ne 28, 3) := by decide +kernel
theorem dX11_storeOf_13 : decode cX11_storeOf 13 = .ok (.iload_n 2, 1) := by decide +kernel
theorem dX11_storeOf_14 : decode cX11_storeOf 14 = .ok (.bipush 10, 2) := by decide +kernel
theorem dX11_storeOf_16 : decode cX11_storeOf 16 = .ok (.bipush 21, 2) := by decide +kernel
theorem dX11_storeOf_18 : decode cX11_storeOf 18 = .ok (.invokestatic 44, 3) := by decide +kernel
theorem dX11_storeOf_21 : decode cX11_storeOf 21 = .ok (.ifCond .ne 17, 3) := by decide +kernel
theorem dX11_storeOf_24 : decode cX11_storeOf 24 = .ok (.iload_n 2, 1) := by decide +kernel
theorem dX11_storeOf_25 : decode cX11_storeOf 25 = .ok (.bipush 30, 2) := by decide +kernel
theorem dX11_storeOf_27 : decode cX11_storeOf 27 = .ok (.bipush 41, 2) := by decide +kernel
theorem dX11_storeOf_29 : decode cX11_storeOf 29 = .ok (.invokestatic 44, 3) := by decide +kernel
theorem dX11_storeOf_32 : decode cX11_storeOf 32 = .ok (.ifCond .ne 6, 3) := by decide +kernel
theorem dX11_storeOf_35 : decode cX11_storeOf 35 = .ok (.ldc 78, 2) := by decide +kernel
theorem dX11_storeOf_37 : decode cX11_storeOf 37 = .ok (.ireturn, 1) := by decide +kernel
theorem dX11_storeOf_38 : decode cX11_storeOf 38 = .ok (.iload_n 1, 1) := by decide +kernel
theorem dX11_storeOf_39 : decode cX11_storeOf 39 = .ok (.aload_n 0, 1) := by decide +kernel
theorem dX11_storeOf_40 : decode cX11_storeOf 40 = .ok (.getfield 7, 3) := by decide +kernel
theorem dX11_storeOf_43 : decode cX11_storeOf 43 = .ok (.iconst 3, 1) := by decide +kernel
theorem dX11_storeOf_44 : decode cX11_storeOf 44 = .ok (.iaload, 1) := by decide +kernel
theorem dX11_storeOf_45 : decode cX11_storeOf 45 = .ok (.if_icmp .lt 6, 3) := by decide +kernel
theorem dX11_storeOf_48 : decode cX11_storeOf 48 = .ok (.ldc 43, 2) := by decide +kernel
theorem dX11_storeOf_50 : decode cX11_storeOf 50 = .ok (.ireturn, 1) := by decide +kernel
theorem dX11_storeOf_51 : decode cX11_storeOf 51 = .ok (.aload_n 0, 1) := by decide +kernel
theorem dX11_storeOf_52 : decode cX11_storeOf 52 = .ok (.getfield 7, 3) := by decide +kernel
theorem dX11_storeOf_55 : decode cX11_storeOf 55 = .ok (.bipush 36, 2) := by decide +kernel
theorem dX11_storeOf_57 : decode cX11_storeOf 57 = .ok (.iconst 2, 1) := by decide +kernel
theorem dX11_storeOf_58 : decode cX11_storeOf 58 = .ok (.iload_n 1, 1) := by decide +kernel
theorem dX11_storeOf_59 : decode cX11_storeOf 59 = .ok (.imul, 1) := by decide +kernel
theorem dX11_storeOf_60 : decode cX11_storeOf 60 = .ok (.iadd, 1) := by decide +kernel
theorem dX11_storeOf_61 : decode cX11_storeOf 61 = .ok (.iload_n 2, 1) := by decide +kernel
theorem dX11_storeOf_62 : decode cX11_storeOf 62 = .ok (.ifCond .eq 14, 3) := by decide +kernel
theorem dX11_storeOf_65 : decode cX11_storeOf 65 = .ok (.iload_n 2, 1) := by decide +kernel
theorem dX11_storeOf_66 : decode cX11_storeOf 66 = .ok (.bipush 10, 2) := by decide +kernel
theorem dX11_storeOf_68 : decode cX11_storeOf 68 = .ok (.bipush 21, 2) := by decide +kernel
theorem dX11_storeOf_70 : decode cX11_storeOf 70 = .ok (.invokestatic 44, 3) := by decide +kernel
theorem dX11_storeOf_73 : decode cX11_storeOf 73 = .ok (.ifCond .eq 7, 3) := by decide +kernel
theorem dX11_storeOf_76 : decode cX11_storeOf 76 = .ok (.iconst 0, 1) := by decide +kernel
theorem dX11_storeOf_77 : decode cX11_storeOf 77 = .ok (.goto 4, 3) := by decide +kernel
theorem dX11_storeOf_80 : decode cX11_storeOf 80 = .ok (.iconst 1, 1) := by decide +kernel
theorem dX11_storeOf_81 : decode cX11_storeOf 81 = .ok (.iadd, 1) := by decide +kernel
theorem dX11_storeOf_82 : decode cX11_storeOf 82 = .ok (.iaload, 1) := by decide +kernel
theorem dX11_storeOf_83 : decode cX11_storeOf 83 = .ok (.istore_n 3, 1) := by decide +kernel
theorem dX11_storeOf_84 : decode cX11_storeOf 84 = .ok (.iload_n 2, 1) := by decide +kernel
theorem dX11_storeOf_85 : decode cX11_storeOf 85 = .ok (.bipush 10, 2) := by decide +kernel
theorem dX11_storeOf_87 : decode cX11_storeOf 87 = .ok (.if_icmp .ge 10, 3) := by decide +kernel
theorem dX11_storeOf_90 : decode cX11_storeOf 90 = .ok (.iload_n 3, 1) := by decide +kernel
theorem dX11_storeOf_91 : decode cX11_storeOf 91 = .ok (.invokestatic 35, 3) := by decide +kernel
theorem dX11_storeOf_94 : decode cX11_storeOf 94 = .ok (.goto 24, 3) := by decide +kernel
theorem dX11_storeOf_97 : decode cX11_storeOf 97 = .ok (.iload_n 3, 1) := by decide +kernel
theorem dX11_storeOf_98 : decode cX11_storeOf 98 = .ok (.iload_n 2, 1) := by decide +kernel
theorem dX11_storeOf_99 : decode cX11_storeOf 99 = .ok (.bipush 30, 2) := by decide +kernel
theorem dX11_storeOf_101 : decode cX11_storeOf 101 = .ok (.if_icmp .ge 10, 3) := by decide +kernel
theorem dX11_storeOf_104 : decode cX11_storeOf 104 = .ok (.iload_n 2, 1) := by decide +kernel
theorem dX11_storeOf_105 : decode cX11_storeOf 105 = .ok (.bipush 10, 2) := by decide +kernel
theorem dX11_storeOf_107 : decode cX11_storeOf 107 = .ok (.isub, 1) := by decide +kernel
theorem dX11_storeOf_108 : decode cX11_storeOf 108 = .ok (.goto 7, 3) := by decide +kernel
theorem dX11_storeOf_111 : decode cX11_storeOf 111 = .ok (.iload_n 2, 1) := by decide +kernel
theorem dX11_storeOf_112 : decode cX11_storeOf 112 = .ok (.bipush 30, 2) := by decide +kernel
theorem dX11_storeOf_114 : decode cX11_storeOf 114 = .ok (.isub, 1) := by decide +kernel
theorem dX11_storeOf_115 : decode cX11_storeOf 115 = .ok (.invokestatic 100, 3) := by decide +kernel
theorem dX11_storeOf_118 : decode cX11_storeOf 118 = .ok (.ireturn, 1) := by decide +kernel
set_option maxRecDepth 20000 in
theorem ggX11_isOverlap_X11_left : GoodIn wsX11_isOverlap wsX11_left := goodIn_r _ [5, 6, 13, 14, 15, 16, 17, 18, 19, 20, 21, 22, 23, 24, 25, 26, 27, 28, 29, 30, 31, 32, 33, 34, 35, 36, 37, 38, 39] (by decide +kernel) (by decide +kernel)
set_option maxRecDepth 20000 in
theorem gX11_isOverlap_X11_left : GoodIn wsX11_isOverlap (wsV RX11 48 RX11 yX11_left wsX11_left) := goodIn_app (goodIn_of _ (by decide +kernel)) ggX11_isOverlap_X11_left
set_option maxRecDepth 20000 in
theorem ggX11_isOverlap_X11_length : GoodIn wsX11_isOverlap wsX11_length := goodIn_r _ [9] (by decide +kernel) (by decide +kernel)
set_option maxRecDepth 20000 in
theorem gX11_isOverlap_X11_length : GoodIn wsX11_isOverlap (va_wsS RX11 35 yX11_length wsX11_length) := goodIn_app (goodIn_of _ (by decide +kernel)) ggX11_isOverlap_X11_length
set_option maxRecDepth 20000 in
theorem ggX11_isOverlap_X11_letter : GoodIn wsX11_isOverlap wsX11_letter := goodIn_r _ [12, 7, 8, 4, 9] (by decide +kernel) (by decide +kernel)
set_option maxRecDepth 20000 in
theorem gX11_isOverlap_X11_letter : GoodIn wsX11_isOverlap (va_wsS RX11 39 yX11_letter wsX11_letter) := goodIn_app (goodIn_of _ (by decide +kernel)) ggX11_isOverlap_X11_letter
theorem dX11_isOverlap_0 : decode cX11_isOverlap 0 = .ok (.aload_n 0, 1) := by decide +kernel
theorem dX11_isOverlap_1 : decode cX11_isOverlap 1 = .ok (.iload_n 1, 1) := by decide +kernel
theorem dX11_isOverlap_2 : decode cX11_isOverlap 2 = .ok (.invokevirtual 48, 3) := by decide +kernel
theorem dX11_isOverlap_5 : decode cX11_isOverlap 5 = .ok (.invokestatic 35, 3) := by decide +kernel
theorem dX11_isOverlap_8 : decode cX11_isOverlap 8 = .ok (.istore 4, 2) := by decide +kernel
theorem dX11_isOverlap_10 : decode cX11_isOverlap 10 = .ok (.aload_n 0, 1) := by decide +kernel
theorem dX11_isOverlap_11 : decode cX11_isOverlap 11 = .ok (.iload_n 2, 1) := by decide +kernel
theorem dX11_isOverlap_12 : decode cX11_isOverlap 12 = .ok (.invokevirtual 48, 3) := by decide +kernel
theorem dX11_isOverlap_15 : decode cX11_isOverlap 15 = .ok (.invokestatic 35, 3) := by decide +kernel
theorem dX11_isOverlap_18 : decode cX11_isOverlap 18 = .ok (.istore 5, 2) := by decide +kernel
theorem dX11_isOverlap_20 : decode cX11_isOverlap 20 = .ok (.iload_n 1, 1) := by decide +kernel
theorem dX11_isOverlap_21 : decode cX11_isOverlap 21 = .ok (.iload_n 2, 1) := by decide +kernel
theorem dX11_isOverlap_22 : decode cX11_isOverlap 22 = .ok (.if_icmp .eq 16, 3) := by decide +kernel
theorem dX11_isOverlap_25 : decode cX11_isOverlap 25 = .ok (.iload_n 3, 1) := by decide +kernel
theorem dX11_isOverlap_26 : decode cX11_isOverlap 26 = .ok (.iload 5, 2) := by decide +kernel
theorem dX11_isOverlap_28 : decode cX11_isOverlap 28 = .ok (.iadd, 1) := by decide +kernel
theorem dX11_isOverlap_29 : decode cX11_isOverlap 29 = .ok (.iload 4, 2) := by decide +kernel
theorem dX11_isOverlap_31 : decode cX11_isOverlap 31 = .ok (.if_icmp .gt 7, 3) := by decide +kernel
theorem dX11_isOverlap_34 : decode cX11_isOverlap 34 = .ok (.iconst 1, 1) := by decide +kernel
theorem dX11_isOverlap_35 : decode cX11_isOverlap 35 = .ok (.goto 4, 3) := by decide +kernel
theorem dX11_isOverlap_38 : decode cX11_isOverlap 38 = .ok (.iconst 0, 1) := by decide +kernel
theorem dX11_isOverlap_39 : decode cX11_isOverlap 39 = .ok (.istore 6, 2) := by decide +kernel
theorem dX11_isOverlap_41 : decode cX11_isOverlap 41 = .ok (.iload_n 3, 1) := by decide +kernel
theorem dX11_isOverlap_42 : decode cX11_isOverlap 42 = .ok (.ifCond .le 22, 3) := by decide +kernel
theorem dX11_isOverlap_45 : decode cX11_isOverlap 45 = .ok (.iload_n 3, 1) := by decide +kernel
theorem dX11_isOverlap_46 : decode cX11_isOverlap 46 = .ok (.iload 4, 2) := by decide +kernel
theorem dX11_isOverlap_48 : decode cX11_isOverlap 48 = .ok (.if_icmp .ge 16, 3) := by decide +kernel
theorem dX11_isOverlap_51 : decode cX11_isOverlap 51 = .ok (.iload_n 3, 1) := by decide +kernel
theorem dX11_isOverlap_52 : decode cX11_isOverlap 52 = .ok (.iload 5, 2) := by decide +kernel
theorem dX11_isOverlap_54 : decode cX11_isOverlap 54 = .ok (.iadd, 1) := by decide +kernel
theorem dX11_isOverlap_55 : decode cX11_isOverlap 55 = .ok (.iload 4, 2) := by decide +kernel
theorem dX11_isOverlap_57 : decode cX11_isOverlap 57 = .ok (.if_icmp .lt 7, 3) := by decide +kernel
theorem dX11_isOverlap_60 : decode cX11_isOverlap 60 = .ok (.iconst 1, 1) := by decide +kernel
theorem dX11_isOverlap_61 : decode cX11_isOverlap 61 = .ok (.goto 4, 3) := by decide +kernel
theorem dX11_isOverlap_64 : decode cX11_isOverlap 64 = .ok (.iconst 0, 1) := by decide +kernel
theorem dX11_isOverlap_65 : decode cX11_isOverlap 65 = .ok (.istore 7, 2) := by decide +kernel
theorem dX11_isOverlap_67 : decode cX11_isOverlap 67 = .ok (.iload 6, 2) := by decide +kernel
theorem dX11_isOverlap_69 : decode cX11_isOverlap 69 = .ok (.ifCond .ne 8, 3) := by decide +kernel
theorem dX11_isOverlap_72 : decode cX11_isOverlap 72 = .ok (.iload 7, 2) := by decide +kernel
theorem dX11_isOverlap_74 : decode cX11_isOverlap 74 = .ok (.ifCond .eq 7, 3) := by decide +kernel
theorem dX11_isOverlap_77 : decode cX11_isOverlap 77 = .ok (.iconst 1, 1) := by decide +kernel
theorem dX11_isOverlap_78 : decode cX11_isOverlap 78 = .ok (.goto 4, 3) := by decide +kernel
theorem dX11_isOverlap_81 : decode cX11_isOverlap 81 = .ok (.iconst 0, 1) := by decide +kernel
theorem dX11_isOverlap_82 : decode cX11_isOverlap 82 = .ok (.istore 8, 2) := by decide +kernel
theorem dX11_isOverlap_84 : decode cX11_isOverlap 84 = .ok (.iload_n 3, 1) := by decide +kernel
theorem dX11_isOverlap_85 : decode cX11_isOverlap 85 = .ok (.istore 9, 2) := by decide +kernel
theorem dX11_isOverlap_87 : decode cX11_isOverlap 87 = .ok (.iload 9, 2) := by decide +kernel
theorem dX11_isOverlap_89 : decode cX11_isOverlap 89 = .ok (.iload 4, 2) := by decide +kernel
theorem dX11_isOverlap_91 : decode cX11_isOverlap 91 = .ok (.if_icmp .ge 55, 3) := by decide +kernel
theorem dX11_isOverlap_94 : decode cX11_isOverlap 94 = .ok (.iload 9, 2) := by decide +kernel
theorem dX11_isOverlap_96 : decode cX11_isOverlap 96 = .ok (.iload_n 3, 1) := by decide +kernel
theorem dX11_isOverlap_97 : decode cX11_isOverlap 97 = .ok (.iload 5, 2) := by decide +kernel
theorem dX11_isOverlap_99 : decode cX11_isOverlap 99 = .ok (.iadd, 1) := by decide +kernel
theorem dX11_isOverlap_100 : decode cX11_isOverlap 100 = .ok (.if_icmp .ge 46, 3) := by decide +kernel
theorem dX11_isOverlap_103 : decode cX11_isOverlap 103 = .ok (.iload 8, 2) := by decide +kernel
theorem dX11_isOverlap_105 : decode cX11_isOverlap 105 = .ok (.ifCond .eq 41, 3) := by decide +kernel
theorem dX11_isOverlap_108 : decode cX11_isOverlap 108 = .ok (.aload_n 0, 1) := by decide +kernel
theorem dX11_isOverlap_109 : decode cX11_isOverlap 109 = .ok (.iload_n 1, 1) := by decide +kernel
theorem dX11_isOverlap_110 : decode cX11_isOverlap 110 = .ok (.invokevirtual 48, 3) := by decide +kernel
theorem dX11_isOverlap_113 : decode cX11_isOverlap 113 = .ok (.iload 9, 2) := by decide +kernel
theorem dX11_isOverlap_115 : decode cX11_isOverlap 115 = .ok (.invokestatic 39, 3) := by decide +kernel
theorem dX11_isOverlap_118 : decode cX11_isOverlap 118 = .ok (.aload_n 0, 1) := by decide +kernel
theorem dX11_isOverlap_119 : decode cX11_isOverlap 119 = .ok (.iload_n 2, 1) := by decide +kernel
theorem dX11_isOverlap_120 : decode cX11_isOverlap 120 = .ok (.invokevirtual 48, 3) := by decide +kernel
theorem dX11_isOverlap_123 : decode cX11_isOverlap 123 = .ok (.iload 9, 2) := by decide +kernel
theorem dX11_isOverlap_125 : decode cX11_isOverlap 125 = .ok (.iload_n 3, 1) := by decide +kernel
theorem dX11_isOverlap_126 : decode cX11_isOverlap 126 = .ok (.isub, 1) := by decide +kernel
theorem dX11_isOverlap_127 : decode cX11_isOverlap 127 = .ok (.invokestatic 39, 3) := by decide +kernel
theorem dX11_isOverlap_130 : decode cX11_isOverlap 130 = .ok (.if_icmp .ne 7, 3) := by decide +kernel
theorem dX11_isOverlap_133 : decode cX11_isOverlap 133 = .ok (.iconst 1, 1) := by decide +kernel
theorem dX11_isOverlap_134 : decode cX11_isOverlap 134 = .ok (.goto 4, 3) := by decide +kernel
theorem dX11_isOverlap_137 : decode cX11_isOverlap 137 = .ok (.iconst 0, 1) := by decide +kernel
theorem dX11_isOverlap_138 : decode cX11_isOverlap 138 = .ok (.istore 8, 2) := by decide +kernel
theorem dX11_isOverlap_140 : decode cX11_isOverlap 140 = .ok (.iinc 9 1, 3) := by decide +kernel
theorem dX11_isOverlap_143 : decode cX11_isOverlap 143 = .ok (.goto (-56), 3) := by decide +kernel
theorem dX11_isOverlap_146 : decode cX11_isOverlap 146 = .ok (.iload 8, 2) := by decide +kernel
theorem dX11_isOverlap_148 : decode cX11_isOverlap 148 = .ok (.ireturn, 1) := by decide +kernel
set_option maxRecDepth 20000 in
theorem ggX11_lays_X11_left : GoodIn wsX11_lays wsX11_left := goodIn_r _ [10, 11, 26, 27, 28, 29, 30, 31, 32, 33, 34, 35, 36, 37, 38, 39, 40, 41, 42, 43, 44, 45, 46, 47, 48, 49, 50, 51, 52] (by decide +kernel) (by decide +kernel)
set_option maxRecDepth 20000 in
theorem gX11_lays_X11_left : GoodIn wsX11_lays (wsV RX11 48 RX11 yX11_left wsX11_left) := goodIn_app (goodIn_of _ (by decide +kernel)) ggX11_lays_X11_left
set_option maxRecDepth 20000 in
theorem ggX11_lays_X11_length : GoodIn wsX11_lays wsX11_length := goodIn_r _ [14] (by decide +kernel) (by decide +kernel)
set_option maxRecDepth 20000 in
theorem gX11_lays_X11_length : GoodIn wsX11_lays (va_wsS RX11 35 yX11_length wsX11_length) := goodIn_app (goodIn_of _ (by decide +kernel)) ggX11_lays_X11_length
set_option maxRecDepth 20000 in
theorem ggX11_lays_X11_letter : GoodIn wsX11_lays wsX11_letter := goodIn_r _ [17, 12, 13, 9, 14] (by decide +kernel) (by decide +kernel)
set_option maxRecDepth 20000 in
theorem gX11_lays_X11_letter : GoodIn wsX11_lays (va_wsS RX11 39 yX11_letter wsX11_letter) := goodIn_app (goodIn_of _ (by decide +kernel)) ggX11_lays_X11_letter
set_option maxRecDepth 20000 in
theorem ggX11_lays_X11_applied : GoodIn wsX11_lays wsX11_applied := goodIn_r _ [21, 12, 13, 9, 14, 6, 7, 8, 10, 11, 22, 23, 24, 25, 26, 27, 28, 29, 30, 31, 32, 33, 34, 35, 36, 37, 38, 39, 40, 41, 42, 43, 44, 45, 46, 47, 48, 49, 50, 51, 52] (by decide +kernel) (by decide +kernel)
set_option maxRecDepth 20000 in
theorem gX11_lays_X11_applied : GoodIn wsX11_lays (wsV RX11 71 RX11 yX11_applied wsX11_applied) := goodIn_app (goodIn_of _ (by decide +kernel)) ggX11_lays_X11_applied
theorem dX11_lays_0 : decode cX11_lays 0 = .ok (.aload_n 0, 1) := by decide +kernel
theorem dX11_lays_1 : decode cX11_lays 1 = .ok (.iload_n 1, 1) := by decide +kernel
theorem dX11_lays_2 : decode cX11_lays 2 = .ok (.invokevirtual 48, 3) := by decide +kernel
theorem dX11_lays_5 : decode cX11_lays 5 = .ok (.istore 4, 2) := by decide +kernel
theorem dX11_lays_7 : decode cX11_lays 7 = .ok (.aload_n 0, 1) := by decide +kernel
theorem dX11_lays_8 : decode cX11_lays 8 = .ok (.iload_n 1, 1) := by decide +kernel
theorem dX11_lays_9 : decode cX11_lays 9 = .ok (.invokevirtual 48, 3) := by decide +kernel
theorem dX11_lays_12 : decode cX11_lays 12 = .ok (.invokestatic 35, 3) := by decide +kernel
theorem dX11_lays_15 : decode cX11_lays 15 = .ok (.iload_n 3, 1) := by decide +kernel
theorem dX11_lays_16 : decode cX11_lays 16 = .ok (.isub, 1) := by decide +kernel
theorem dX11_lays_17 : decode cX11_lays 17 = .ok (.istore 5, 2) := by decide +kernel
theorem dX11_lays_19 : decode cX11_lays 19 = .ok (.iload 5, 2) := by decide +kernel
theorem dX11_lays_21 : decode cX11_lays 21 = .ok (.aload_n 0, 1) := by decide +kernel
theorem dX11_lays_22 : decode cX11_lays 22 = .ok (.iload_n 2, 1) := by decide +kernel
theorem dX11_lays_23 : decode cX11_lays 23 = .ok (.invokevirtual 48, 3) := by decide +kernel
theorem dX11_lays_26 : decode cX11_lays 26 = .ok (.invokestatic 35, 3) := by decide +kernel
theorem dX11_lays_29 : decode cX11_lays 29 = .ok (.if_icmp .ge 26, 3) := by decide +kernel
theorem dX11_lays_32 : decode cX11_lays 32 = .ok (.iconst 4, 1) := by decide +kernel
theorem dX11_lays_33 : decode cX11_lays 33 = .ok (.iload 4, 2) := by decide +kernel
theorem dX11_lays_35 : decode cX11_lays 35 = .ok (.imul, 1) := by decide +kernel
theorem dX11_lays_36 : decode cX11_lays 36 = .ok (.aload_n 0, 1) := by decide +kernel
theorem dX11_lays_37 : decode cX11_lays 37 = .ok (.iload_n 2, 1) := by decide +kernel
theorem dX11_lays_38 : decode cX11_lays 38 = .ok (.invokevirtual 48, 3) := by decide +kernel
theorem dX11_lays_41 : decode cX11_lays 41 = .ok (.iload 5, 2) := by decide +kernel
theorem dX11_lays_43 : decode cX11_lays 43 = .ok (.invokestatic 39, 3) := by decide +kernel
theorem dX11_lays_46 : decode cX11_lays 46 = .ok (.iadd, 1) := by decide +kernel
theorem dX11_lays_47 : decode cX11_lays 47 = .ok (.istore 4, 2) := by decide +kernel
theorem dX11_lays_49 : decode cX11_lays 49 = .ok (.iinc 5 1, 3) := by decide +kernel
theorem dX11_lays_52 : decode cX11_lays 52 = .ok (.goto (-33), 3) := by decide +kernel
theorem dX11_lays_55 : decode cX11_lays 55 = .ok (.aload_n 0, 1) := by decide +kernel
theorem dX11_lays_56 : decode cX11_lays 56 = .ok (.iload_n 1, 1) := by decide +kernel
theorem dX11_lays_57 : decode cX11_lays 57 = .ok (.putfield 136, 3) := by decide +kernel
theorem dX11_lays_60 : decode cX11_lays 60 = .ok (.aload_n 0, 1) := by decide +kernel
theorem dX11_lays_61 : decode cX11_lays 61 = .ok (.iload_n 2, 1) := by decide +kernel
theorem dX11_lays_62 : decode cX11_lays 62 = .ok (.putfield 139, 3) := by decide +kernel
theorem dX11_lays_65 : decode cX11_lays 65 = .ok (.aload_n 0, 1) := by decide +kernel
theorem dX11_lays_66 : decode cX11_lays 66 = .ok (.iload_n 3, 1) := by decide +kernel
theorem dX11_lays_67 : decode cX11_lays 67 = .ok (.putfield 142, 3) := by decide +kernel
theorem dX11_lays_70 : decode cX11_lays 70 = .ok (.aload_n 0, 1) := by decide +kernel
theorem dX11_lays_71 : decode cX11_lays 71 = .ok (.aload_n 0, 1) := by decide +kernel
theorem dX11_lays_72 : decode cX11_lays 72 = .ok (.iload 4, 2) := by decide +kernel
theorem dX11_lays_74 : decode cX11_lays 74 = .ok (.iload_n 1, 1) := by decide +kernel
theorem dX11_lays_75 : decode cX11_lays 75 = .ok (.iconst 0, 1) := by decide +kernel
theorem dX11_lays_76 : decode cX11_lays 76 = .ok (.invokevirtual 71, 3) := by decide +kernel
theorem dX11_lays_79 : decode cX11_lays 79 = .ok (.putfield 145, 3) := by decide +kernel
theorem dX11_lays_82 : decode cX11_lays 82 = .ok (.aload_n 0, 1) := by decide +kernel
theorem dX11_lays_83 : decode cX11_lays 83 = .ok (.aload_n 0, 1) := by decide +kernel
theorem dX11_lays_84 : decode cX11_lays 84 = .ok (.iload 4, 2) := by decide +kernel
theorem dX11_lays_86 : decode cX11_lays 86 = .ok (.iload_n 2, 1) := by decide +kernel
theorem dX11_lays_87 : decode cX11_lays 87 = .ok (.iload_n 3, 1) := by decide +kernel
theorem dX11_lays_88 : decode cX11_lays 88 = .ok (.invokevirtual 71, 3) := by decide +kernel
theorem dX11_lays_91 : decode cX11_lays 91 = .ok (.putfield 148, 3) := by decide +kernel
theorem dX11_lays_94 : decode cX11_lays 94 = .ok (.return_, 1) := by decide +kernel
set_option maxRecDepth 20000 in
theorem ggX11_parts_X11_reduces : GoodIn wsX11_parts wsX11_reduces := goodIn_r _ [11, 2, 3, 12, 13, 14, 15, 16, 17, 18, 10, 19, 20, 21, 22, 23, 24, 25, 26, 27, 28, 29, 30, 31, 32, 33, 34, 35, 36, 37, 38, 39, 40, 41, 42, 43, 44, 45, 46, 47, 48, 49, 50, 51, 52, 53, 54, 55, 56, 57, 58, 59, 60, 61, 62, 63, 64, 65] (by decide +kernel) (by decide +kernel)
set_option maxRecDepth 20000 in
theorem gX11_parts_X11_reduces : GoodIn wsX11_parts (wsV RX11 112 RX11 yX11_reduces wsX11_reduces) := goodIn_app (goodIn_of _ (by decide +kernel)) ggX11_parts_X11_reduces
theorem dX11_parts_0 : decode cX11_parts 0 = .ok (.aload_n 0, 1) := by decide +kernel
theorem dX11_parts_1 : decode cX11_parts 1 = .ok (.aload_n 0, 1) := by decide +kernel
theorem dX11_parts_2 : decode cX11_parts 2 = .ok (.getfield 145, 3) := by decide +kernel
theorem dX11_parts_5 : decode cX11_parts 5 = .ok (.invokevirtual 112, 3) := by decide +kernel
theorem dX11_parts_8 : decode cX11_parts 8 = .ok (.ifCond .ne 7, 3) := by decide +kernel
theorem dX11_parts_11 : decode cX11_parts 11 = .ok (.iconst 1, 1) := by decide +kernel
theorem dX11_parts_12 : decode cX11_parts 12 = .ok (.goto 4, 3) := by decide +kernel
theorem dX11_parts_15 : decode cX11_parts 15 = .ok (.iconst 0, 1) := by decide +kernel
theorem dX11_parts_16 : decode cX11_parts 16 = .ok (.istore_n 1, 1) := by decide +kernel
theorem dX11_parts_17 : decode cX11_parts 17 = .ok (.aload_n 0, 1) := by decide +kernel
theorem dX11_parts_18 : decode cX11_parts 18 = .ok (.aload_n 0, 1) := by decide +kernel
theorem dX11_parts_19 : decode cX11_parts 19 = .ok (.getfield 26, 3) := by decide +kernel
theorem dX11_parts_22 : decode cX11_parts 22 = .ok (.aload_n 0, 1) := by decide +kernel
theorem dX11_parts_23 : decode cX11_parts 23 = .ok (.getfield 64, 3) := by decide +kernel
theorem dX11_parts_26 : decode cX11_parts 26 = .ok (.iaload, 1) := by decide +kernel
theorem dX11_parts_27 : decode cX11_parts 27 = .ok (.putfield 151, 3) := by decide +kernel
theorem dX11_parts_30 : decode cX11_parts 30 = .ok (.aload_n 0, 1) := by decide +kernel
theorem dX11_parts_31 : decode cX11_parts 31 = .ok (.aload_n 0, 1) := by decide +kernel
theorem dX11_parts_32 : decode cX11_parts 32 = .ok (.getfield 148, 3) := by decide +kernel
theorem dX11_parts_35 : decode cX11_parts 35 = .ok (.invokevirtual 112, 3) := by decide +kernel
theorem dX11_parts_38 : decode cX11_parts 38 = .ok (.ifCond .ne 7, 3) := by decide +kernel
theorem dX11_parts_41 : decode cX11_parts 41 = .ok (.iconst 1, 1) := by decide +kernel
theorem dX11_parts_42 : decode cX11_parts 42 = .ok (.goto 4, 3) := by decide +kernel
theorem dX11_parts_45 : decode cX11_parts 45 = .ok (.iconst 0, 1) := by decide +kernel
theorem dX11_parts_46 : decode cX11_parts 46 = .ok (.istore_n 2, 1) := by decide +kernel
theorem dX11_parts_47 : decode cX11_parts 47 = .ok (.aload_n 0, 1) := by decide +kernel
theorem dX11_parts_48 : decode cX11_parts 48 = .ok (.aload_n 0, 1) := by decide +kernel
theorem dX11_parts_49 : decode cX11_parts 49 = .ok (.getfield 26, 3) := by decide +kernel
theorem dX11_parts_52 : decode cX11_parts 52 = .ok (.aload_n 0, 1) := by decide +kernel
theorem dX11_parts_53 : decode cX11_parts 53 = .ok (.getfield 64, 3) := by decide +kernel
theorem dX11_parts_56 : decode cX11_parts 56 = .ok (.iaload, 1) := by decide +kernel
theorem dX11_parts_57 : decode cX11_parts 57 = .ok (.putfield 154, 3) := by decide +kernel
theorem dX11_parts_60 : decode cX11_parts 60 = .ok (.iload_n 1, 1) := by decide +kernel
theorem dX11_parts_61 : decode cX11_parts 61 = .ok (.ifCond .eq 7, 3) := by decide +kernel
theorem dX11_parts_64 : decode cX11_parts 64 = .ok (.iload_n 2, 1) := by decide +kernel
theorem dX11_parts_65 : decode cX11_parts 65 = .ok (.ifCond .ne 7, 3) := by decide +kernel
theorem dX11_parts_68 : decode cX11_parts 68 = .ok (.iconst 2, 1) := by decide +kernel
theorem dX11_parts_69 : decode cX11_parts 69 = .ok (.goto 19, 3) := by decide +kernel
theorem dX11_parts_72 : decode cX11_parts 72 = .ok (.aload_n 0, 1) := by decide +kernel
theorem dX11_parts_73 : decode cX11_parts 73 = .ok (.getfield 151, 3) := by decide +kernel
theorem dX11_parts_76 : decode cX11_parts 76 = .ok (.aload_n 0, 1) := by decide +kernel
theorem dX11_parts_77 : decode cX11_parts 77 = .ok (.getfield 154, 3) := by decide +kernel
theorem dX11_parts_80 : decode cX11_parts 80 = .ok (.if_icmp .ne 7, 3) := by decide +kernel
theorem dX11_parts_83 : decode cX11_parts 83 = .ok (.iconst 0, 1) := by decide +kernel
theorem dX11_parts_84 : decode cX11_parts 84 = .ok (.goto 4, 3) := by decide +kernel
theorem dX11_parts_87 : decode cX11_parts 87 = .ok (.iconst 1, 1) := by decide +kernel
theorem dX11_parts_88 : decode cX11_parts 88 = .ok (.ireturn, 1) := by decide +kernel
set_option maxRecDepth 20000 in
theorem ggX11_finds_X11_isOverlap : GoodIn wsX11_finds wsX11_isOverlap := goodIn_r _ [6, 7, 8, 9, 5, 10, 1, 11, 12, 13, 14, 15, 16, 57, 58, 59, 60, 61, 62, 63, 64, 65, 66, 67, 68, 69, 70, 71, 72, 73, 74, 75, 76, 77, 78, 79, 80, 81, 82, 83] (by decide +kernel) (by decide +kernel)
set_option maxRecDepth 20000 in
theorem gX11_finds_X11_isOverlap : GoodIn wsX11_finds (wsV RX11 157 RX11 yX11_isOverlap wsX11_isOverlap) := goodIn_app (goodIn_of _ (by decide +kernel)) ggX11_finds_X11_isOverlap
set_option maxRecDepth 20000 in
theorem ggX11_finds_X11_lays : GoodIn wsX11_finds wsX11_lays := goodIn_r _ [20, 21, 22, 23, 24, 25, 7, 8, 9, 5, 10, 1, 11, 12, 13, 14, 15, 16, 26, 27, 28, 29, 30, 31, 32, 33, 57, 58, 59, 60, 61, 62, 63, 64, 65, 66, 67, 68, 69, 70, 71, 72, 73, 74, 75, 76, 77, 78, 79, 80, 81, 82, 83] (by decide +kernel) (by decide +kernel)
set_option maxRecDepth 20000 in
theorem gX11_finds_X11_lays : GoodIn wsX11_finds (wsV RX11 160 RX11 yX11_lays wsX11_lays) := goodIn_app (goodIn_of _ (by decide +kernel)) ggX11_finds_X11_lays
set_option maxRecDepth 20000 in
theorem ggX11_finds_X11_parts : GoodIn wsX11_finds wsX11_parts := goodIn_r _ [37, 24, 38, 39, 40, 25, 41, 42, 43, 44, 5, 45, 46, 47, 48, 49, 50, 51, 52, 53, 1, 11, 12, 13, 7, 8, 9, 10, 54, 55, 56, 26, 27, 28, 29, 30, 31, 32, 33, 57, 58, 59, 60, 61, 62, 63, 64, 65, 66, 67, 68, 69, 70, 71, 72, 73, 74, 75, 76, 77, 78, 79, 80, 81, 82, 83] (by decide +kernel) (by decide +kernel)
set_option maxRecDepth 20000 in
theorem gX11_finds_X11_parts : GoodIn wsX11_finds (wsV RX11 163 RX11 yX11_parts wsX11_parts) := goodIn_app (goodIn_of _ (by decide +kernel)) ggX11_finds_X11_parts
theorem dX11_finds_0 : decode cX11_finds 0 = .ok (.iconst 0, 1) := by decide +kernel
theorem dX11_finds_1 : decode cX11_finds 1 = .ok (.istore_n 3, 1) := by decide +kernel
theorem dX11_finds_2 : decode cX11_finds 2 = .ok (.iconst 0, 1) := by decide +kernel
theorem dX11_finds_3 : decode cX11_finds 3 = .ok (.istore 4, 2) := by decide +kernel
theorem dX11_finds_5 : decode cX11_finds 5 = .ok (.iload 4, 2) := by decide +kernel
theorem dX11_finds_7 : decode cX11_finds 7 = .ok (.aload_n 0, 1) := by decide +kernel
theorem dX11_finds_8 : decode cX11_finds 8 = .ok (.getfield 7, 3) := by decide +kernel
theorem dX11_finds_11 : decode cX11_finds 11 = .ok (.iconst 1, 1) := by decide +kernel
theorem dX11_finds_12 : decode cX11_finds 12 = .ok (.iaload, 1) := by decide +kernel
theorem dX11_finds_13 : decode cX11_finds 13 = .ok (.if_icmp .ge 94, 3) := by decide +kernel
theorem dX11_finds_16 : decode cX11_finds 16 = .ok (.iconst 0, 1) := by decide +kernel
theorem dX11_finds_17 : decode cX11_finds 17 = .ok (.istore 5, 2) := by decide +kernel
theorem dX11_finds_19 : decode cX11_finds 19 = .ok (.iload 5, 2) := by decide +kernel
theorem dX11_finds_21 : decode cX11_finds 21 = .ok (.aload_n 0, 1) := by decide +kernel
theorem dX11_finds_22 : decode cX11_finds 22 = .ok (.getfield 7, 3) := by decide +kernel
theorem dX11_finds_25 : decode cX11_finds 25 = .ok (.iconst 1, 1) := by decide +kernel
theorem dX11_finds_26 : decode cX11_finds 26 = .ok (.iaload, 1) := by decide +kernel
theorem dX11_finds_27 : decode cX11_finds 27 = .ok (.if_icmp .ge 74, 3) := by decide +kernel
theorem dX11_finds_30 : decode cX11_finds 30 = .ok (.iconst 0, 1) := by decide +kernel
theorem dX11_finds_31 : decode cX11_finds 31 = .ok (.istore 6, 2) := by decide +kernel
theorem dX11_finds_33 : decode cX11_finds 33 = .ok (.iload 6, 2) := by decide +kernel
theorem dX11_finds_35 : decode cX11_finds 35 = .ok (.iconst 4, 1) := by decide +kernel
theorem dX11_finds_36 : decode cX11_finds 36 = .ok (.if_icmp .ge 59, 3) := by decide +kernel
theorem dX11_finds_39 : decode cX11_finds 39 = .ok (.aload_n 0, 1) := by decide +kernel
theorem dX11_finds_40 : decode cX11_finds 40 = .ok (.iload 4, 2) := by decide +kernel
theorem dX11_finds_42 : decode cX11_finds 42 = .ok (.iload 5, 2) := by decide +kernel
theorem dX11_finds_44 : decode cX11_finds 44 = .ok (.iload 6, 2) := by decide +kernel
theorem dX11_finds_46 : decode cX11_finds 46 = .ok (.invokevirtual 157, 3) := by decide +kernel
theorem dX11_finds_49 : decode cX11_finds 49 = .ok (.ifCond .eq 40, 3) := by decide +kernel
theorem dX11_finds_52 : decode cX11_finds 52 = .ok (.aload_n 0, 1) := by decide +kernel
theorem dX11_finds_53 : decode cX11_finds 53 = .ok (.iload 4, 2) := by decide +kernel
theorem dX11_finds_55 : decode cX11_finds 55 = .ok (.iload 5, 2) := by decide +kernel
theorem dX11_finds_57 : decode cX11_finds 57 = .ok (.iload 6, 2) := by decide +kernel
theorem dX11_finds_59 : decode cX11_finds 59 = .ok (.invokevirtual 160, 3) := by decide +kernel
theorem dX11_finds_62 : decode cX11_finds 62 = .ok (.iload_n 3, 1) := by decide +kernel
theorem dX11_finds_63 : decode cX11_finds 63 = .ok (.iload_n 2, 1) := by decide +kernel
theorem dX11_finds_64 : decode cX11_finds 64 = .ok (.ifCond .lt 11, 3) := by decide +kernel
theorem dX11_finds_67 : decode cX11_finds 67 = .ok (.aload_n 0, 1) := by decide +kernel
theorem dX11_finds_68 : decode cX11_finds 68 = .ok (.invokevirtual 163, 3) := by decide +kernel
theorem dX11_finds_71 : decode cX11_finds 71 = .ok (.iload_n 2, 1) := by decide +kernel
theorem dX11_finds_72 : decode cX11_finds 72 = .ok (.if_icmp .ne 7, 3) := by decide +kernel
theorem dX11_finds_75 : decode cX11_finds 75 = .ok (.iconst 1, 1) := by decide +kernel
theorem dX11_finds_76 : decode cX11_finds 76 = .ok (.goto 4, 3) := by decide +kernel
theorem dX11_finds_79 : decode cX11_finds 79 = .ok (.iconst 0, 1) := by decide +kernel
theorem dX11_finds_80 : decode cX11_finds 80 = .ok (.iadd, 1) := by decide +kernel
theorem dX11_finds_81 : decode cX11_finds 81 = .ok (.istore_n 3, 1) := by decide +kernel
theorem dX11_finds_82 : decode cX11_finds 82 = .ok (.iload_n 3, 1) := by decide +kernel
theorem dX11_finds_83 : decode cX11_finds 83 = .ok (.iload_n 1, 1) := by decide +kernel
theorem dX11_finds_84 : decode cX11_finds 84 = .ok (.if_icmp .le 5, 3) := by decide +kernel
theorem dX11_finds_87 : decode cX11_finds 87 = .ok (.iload_n 3, 1) := by decide +kernel
theorem dX11_finds_88 : decode cX11_finds 88 = .ok (.ireturn, 1) := by decide +kernel
theorem dX11_finds_89 : decode cX11_finds 89 = .ok (.iinc 6 1, 3) := by decide +kernel
theorem dX11_finds_92 : decode cX11_finds 92 = .ok (.goto (-59), 3) := by decide +kernel
theorem dX11_finds_95 : decode cX11_finds 95 = .ok (.iinc 5 1, 3) := by decide +kernel
theorem dX11_finds_98 : decode cX11_finds 98 = .ok (.goto (-79), 3) := by decide +kernel
theorem dX11_finds_101 : decode cX11_finds 101 = .ok (.iinc 4 1, 3) := by decide +kernel
theorem dX11_finds_104 : decode cX11_finds 104 = .ok (.goto (-99), 3) := by decide +kernel
theorem dX11_finds_107 : decode cX11_finds 107 = .ok (.iload_n 3, 1) := by decide +kernel
theorem dX11_finds_108 : decode cX11_finds 108 = .ok (.ireturn, 1) := by decide +kernel
set_option maxRecDepth 20000 in
theorem ggX11_overlapOf_X11_in : GoodIn wsX11_overlapOf wsX11_in := goodIn_r _ [10] (by decide +kernel) (by decide +kernel)
set_option maxRecDepth 20000 in
theorem gX11_overlapOf_X11_in : GoodIn wsX11_overlapOf (va_wsS RX11 44 yX11_in wsX11_in) := goodIn_app (goodIn_of _ (by decide +kernel)) ggX11_overlapOf_X11_in
set_option maxRecDepth 20000 in
theorem ggX11_overlapOf_X11_finds : GoodIn wsX11_overlapOf wsX11_finds := goodIn_r _ [14, 15, 16, 17, 18, 9, 19, 20, 21, 22, 23, 24, 25, 26, 27, 28, 29, 30, 31, 32, 33, 2, 4, 3, 5, 6, 34, 35, 36, 37, 38, 39, 40, 41, 42, 43, 44, 45, 46, 47, 48, 49, 50, 51, 52, 53, 54, 55, 56, 57, 58, 59, 60, 61, 62, 63, 64, 65, 66, 67, 68, 69, 70, 71, 72, 73, 74, 75, 76, 77, 78, 79, 80, 81, 82, 83, 84, 85, 86, 87, 88, 89, 90, 91] (by decide +kernel) (by decide +kernel)
set_option maxRecDepth 20000 in
theorem gX11_overlapOf_X11_finds : GoodIn wsX11_overlapOf (wsV RX11 166 RX11 yX11_finds wsX11_finds) := goodIn_app (goodIn_of _ (by decide +kernel)) ggX11_overlapOf_X11_finds
set_option maxRecDepth 20000 in
theorem ggX11_overlapOf_X11_left : GoodIn wsX11_overlapOf wsX11_left := goodIn_r _ [23, 15, 65, 66, 67, 68, 69, 70, 71, 72, 73, 74, 75, 76, 77, 78, 79, 80, 81, 82, 83, 84, 85, 86, 87, 88, 89, 90, 91] (by decide +kernel) (by decide +kernel)
set_option maxRecDepth 20000 in
theorem gX11_overlapOf_X11_left : GoodIn wsX11_overlapOf (wsV RX11 48 RX11 yX11_left wsX11_left) := goodIn_app (goodIn_of _ (by decide +kernel)) ggX11_overlapOf_X11_left
set_option maxRecDepth 20000 in
theorem ggX11_overlapOf_X11_length : GoodIn wsX11_overlapOf wsX11_length := goodIn_r _ [26] (by decide +kernel) (by decide +kernel)
set_option maxRecDepth 20000 in
theorem gX11_overlapOf_X11_length : GoodIn wsX11_overlapOf (va_wsS RX11 35 yX11_length wsX11_length) := goodIn_app (goodIn_of _ (by decide +kernel)) ggX11_overlapOf_X11_length
set_option maxRecDepth 20000 in
theorem ggX11_overlapOf_X11_parts : GoodIn wsX11_overlapOf wsX11_parts := goodIn_r _ [45, 5, 46, 47, 48, 6, 49, 50, 51, 52, 9, 53, 54, 55, 56, 57, 58, 59, 60, 61, 15, 24, 25, 26, 20, 21, 22, 23, 62, 63, 64, 34, 35, 36, 37, 38, 39, 40, 41, 65, 66, 67, 68, 69, 70, 71, 72, 73, 74, 75, 76, 77, 78, 79, 80, 81, 82, 83, 84, 85, 86, 87, 88, 89, 90, 91] (by decide +kernel) (by decide +kernel)
set_option maxRecDepth 20000 in
theorem gX11_overlapOf_X11_parts : GoodIn wsX11_overlapOf (wsV RX11 163 RX11 yX11_parts wsX11_parts) := goodIn_app (goodIn_of _ (by decide +kernel)) ggX11_overlapOf_X11_parts
theorem dX11_overlapOf_0 : decode cX11_overlapOf 0 = .ok (.iload_n 1, 1) := by decide +kernel
theorem dX11_overlapOf_1 : decode cX11_overlapOf 1 = .ok (.ifCond .lt 23, 3) := by decide +kernel
theorem dX11_overlapOf_4 : decode cX11_overlapOf 4 = .ok (.iload_n 2, 1) := by decide +kernel
theorem dX11_overlapOf_5 : decode cX11_overlapOf 5 = .ok (.iconst 0, 1) := by decide +kernel
theorem dX11_overlapOf_6 : decode cX11_overlapOf 6 = .ok (.bipush 6, 2) := by decide +kernel
theorem dX11_overlapOf_8 : decode cX11_overlapOf 8 = .ok (.invokestatic 44, 3) := by decide +kernel
theorem dX11_overlapOf_11 : decode cX11_overlapOf 11 = .ok (.ifCond .eq 13, 3) := by decide +kernel
theorem dX11_overlapOf_14 : decode cX11_overlapOf 14 = .ok (.aload_n 0, 1) := by decide +kernel
theorem dX11_overlapOf_15 : decode cX11_overlapOf 15 = .ok (.iload_n 1, 1) := by decide +kernel
