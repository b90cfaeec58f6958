theorem dX11_draftSum_32 : decode cX11_draftSum 32 = .ok (.iload_n 1, 1) := by decide +kernel
theorem dX11_draftSum_33 : decode cX11_draftSum 33 = .ok (.ireturn, 1) := by decide +kernel
theorem dX11_checkOf_0 : decode cX11_checkOf 0 = .ok (.iconst 0, 1) := by decide +kernel
theorem dX11_checkOf_1 : decode cX11_checkOf 1 = .ok (.istore_n 3, 1) := by decide +kernel
theorem dX11_checkOf_2 : decode cX11_checkOf 2 = .ok (.iconst 0, 1) := by decide +kernel
theorem dX11_checkOf_3 : decode cX11_checkOf 3 = .ok (.istore 4, 2) := by decide +kernel
theorem dX11_checkOf_5 : decode cX11_checkOf 5 = .ok (.iload 4, 2) := by decide +kernel
theorem dX11_checkOf_7 : decode cX11_checkOf 7 = .ok (.iload_n 2, 1) := by decide +kernel
theorem dX11_checkOf_8 : decode cX11_checkOf 8 = .ok (.if_icmp .ge 24, 3) := by decide +kernel
theorem dX11_checkOf_11 : decode cX11_checkOf 11 = .ok (.iload_n 3, 1) := by decide +kernel
theorem dX11_checkOf_12 : decode cX11_checkOf 12 = .ok (.aload_n 0, 1) := by decide +kernel
theorem dX11_checkOf_13 : decode cX11_checkOf 13 = .ok (.getfield 51, 3) := by decide +kernel
theorem dX11_checkOf_16 : decode cX11_checkOf 16 = .ok (.bipush 64, 2) := by decide +kernel
theorem dX11_checkOf_18 : decode cX11_checkOf 18 = .ok (.iload_n 1, 1) := by decide +kernel
theorem dX11_checkOf_19 : decode cX11_checkOf 19 = .ok (.imul, 1) := by decide +kernel
theorem dX11_checkOf_20 : decode cX11_checkOf 20 = .ok (.iload 4, 2) := by decide +kernel
theorem dX11_checkOf_22 : decode cX11_checkOf 22 = .ok (.iadd, 1) := by decide +kernel
theorem dX11_checkOf_23 : decode cX11_checkOf 23 = .ok (.iaload, 1) := by decide +kernel
theorem dX11_checkOf_24 : decode cX11_checkOf 24 = .ok (.iadd, 1) := by decide +kernel
theorem dX11_checkOf_25 : decode cX11_checkOf 25 = .ok (.istore_n 3, 1) := by decide +kernel
theorem dX11_checkOf_26 : decode cX11_checkOf 26 = .ok (.iinc 4 1, 3) := by decide +kernel
theorem dX11_checkOf_29 : decode cX11_checkOf 29 = .ok (.goto (-24), 3) := by decide +kernel
theorem dX11_checkOf_32 : decode cX11_checkOf 32 = .ok (.sipush 255, 3) := by decide +kernel
theorem dX11_checkOf_35 : decode cX11_checkOf 35 = .ok (.iload_n 3, 1) := by decide +kernel
theorem dX11_checkOf_36 : decode cX11_checkOf 36 = .ok (.sipush 256, 3) := by decide +kernel
theorem dX11_checkOf_39 : decode cX11_checkOf 39 = .ok (.irem, 1) := by decide +kernel
theorem dX11_checkOf_40 : decode cX11_checkOf 40 = .ok (.isub, 1) := by decide +kernel
theorem dX11_checkOf_41 : decode cX11_checkOf 41 = .ok (.ireturn, 1) := by decide +kernel
set_option maxRecDepth 20000 in
theorem ggX11_laid_X11_checkOf : GoodIn wsX11_laid wsX11_checkOf := goodIn_r _ [19, 12, 20, 21, 22, 23, 24, 25, 26, 27, 28, 29, 30, 31, 32, 33, 34, 35, 36, 37, 38, 39, 40, 41, 42, 43, 44, 45, 46, 47, 48, 49, 50, 51, 52, 53, 54, 55, 56, 57, 58, 59, 60, 61, 62, 63, 64, 65, 66, 67, 68, 69, 70, 71, 72, 73, 74, 75, 76, 77] (by decide +kernel) (by decide +kernel)
set_option maxRecDepth 20000 in
theorem gX11_laid_X11_checkOf : GoodIn wsX11_laid (wsV RX11 208 RX11 yX11_checkOf wsX11_checkOf) := goodIn_app (goodIn_of _ (by decide +kernel)) ggX11_laid_X11_checkOf
theorem dX11_laid_0 : decode cX11_laid 0 = .ok (.aload_n 0, 1) := by decide +kernel
theorem dX11_laid_1 : decode cX11_laid 1 = .ok (.getfield 204, 3) := by decide +kernel
theorem dX11_laid_4 : decode cX11_laid 4 = .ok (.istore 5, 2) := by decide +kernel
theorem dX11_laid_6 : decode cX11_laid 6 = .ok (.aload_n 0, 1) := by decide +kernel
theorem dX11_laid_7 : decode cX11_laid 7 = .ok (.getfield 54, 3) := by decide +kernel
theorem dX11_laid_10 : decode cX11_laid 10 = .ok (.iload 5, 2) := by decide +kernel
theorem dX11_laid_12 : decode cX11_laid 12 = .ok (.iload_n 1, 1) := by decide +kernel
theorem dX11_laid_13 : decode cX11_laid 13 = .ok (.iastore, 1) := by decide +kernel
theorem dX11_laid_14 : decode cX11_laid 14 = .ok (.aload_n 0, 1) := by decide +kernel
theorem dX11_laid_15 : decode cX11_laid 15 = .ok (.getfield 57, 3) := by decide +kernel
theorem dX11_laid_18 : decode cX11_laid 18 = .ok (.iload 5, 2) := by decide +kernel
theorem dX11_laid_20 : decode cX11_laid 20 = .ok (.iload_n 2, 1) := by decide +kernel
theorem dX11_laid_21 : decode cX11_laid 21 = .ok (.iastore, 1) := by decide +kernel
theorem dX11_laid_22 : decode cX11_laid 22 = .ok (.aload_n 0, 1) := by decide +kernel
theorem dX11_laid_23 : decode cX11_laid 23 = .ok (.getfield 60, 3) := by decide +kernel
theorem dX11_laid_26 : decode cX11_laid 26 = .ok (.iload 5, 2) := by decide +kernel
theorem dX11_laid_28 : decode cX11_laid 28 = .ok (.iload_n 3, 1) := by decide +kernel
theorem dX11_laid_29 : decode cX11_laid 29 = .ok (.ldc 207, 2) := by decide +kernel
theorem dX11_laid_31 : decode cX11_laid 31 = .ok (.irem, 1) := by decide +kernel
theorem dX11_laid_32 : decode cX11_laid 32 = .ok (.iastore, 1) := by decide +kernel
theorem dX11_laid_33 : decode cX11_laid 33 = .ok (.aload_n 0, 1) := by decide +kernel
theorem dX11_laid_34 : decode cX11_laid 34 = .ok (.getfield 63, 3) := by decide +kernel
theorem dX11_laid_37 : decode cX11_laid 37 = .ok (.iload 5, 2) := by decide +kernel
theorem dX11_laid_39 : decode cX11_laid 39 = .ok (.aload_n 0, 1) := by decide +kernel
theorem dX11_laid_40 : decode cX11_laid 40 = .ok (.getfield 195, 3) := by decide +kernel
theorem dX11_laid_43 : decode cX11_laid 43 = .ok (.iastore, 1) := by decide +kernel
theorem dX11_laid_44 : decode cX11_laid 44 = .ok (.aload_n 0, 1) := by decide +kernel
theorem dX11_laid_45 : decode cX11_laid 45 = .ok (.getfield 66, 3) := by decide +kernel
theorem dX11_laid_48 : decode cX11_laid 48 = .ok (.iload 5, 2) := by decide +kernel
theorem dX11_laid_50 : decode cX11_laid 50 = .ok (.iconst (-1), 1) := by decide +kernel
theorem dX11_laid_51 : decode cX11_laid 51 = .ok (.iastore, 1) := by decide +kernel
theorem dX11_laid_52 : decode cX11_laid 52 = .ok (.aload_n 0, 1) := by decide +kernel
theorem dX11_laid_53 : decode cX11_laid 53 = .ok (.getfield 69, 3) := by decide +kernel
theorem dX11_laid_56 : decode cX11_laid 56 = .ok (.iload 5, 2) := by decide +kernel
theorem dX11_laid_58 : decode cX11_laid 58 = .ok (.iconst 0, 1) := by decide +kernel
theorem dX11_laid_59 : decode cX11_laid 59 = .ok (.bastore, 1) := by decide +kernel
theorem dX11_laid_60 : decode cX11_laid 60 = .ok (.aload_n 0, 1) := by decide +kernel
theorem dX11_laid_61 : decode cX11_laid 61 = .ok (.getfield 72, 3) := by decide +kernel
theorem dX11_laid_64 : decode cX11_laid 64 = .ok (.iload 5, 2) := by decide +kernel
theorem dX11_laid_66 : decode cX11_laid 66 = .ok (.iconst 0, 1) := by decide +kernel
theorem dX11_laid_67 : decode cX11_laid 67 = .ok (.bastore, 1) := by decide +kernel
theorem dX11_laid_68 : decode cX11_laid 68 = .ok (.iconst 0, 1) := by decide +kernel
theorem dX11_laid_69 : decode cX11_laid 69 = .ok (.istore 6, 2) := by decide +kernel
theorem dX11_laid_71 : decode cX11_laid 71 = .ok (.iconst 0, 1) := by decide +kernel
theorem dX11_laid_72 : decode cX11_laid 72 = .ok (.istore 7, 2) := by decide +kernel
theorem dX11_laid_74 : decode cX11_laid 74 = .ok (.iload 7, 2) := by decide +kernel
theorem dX11_laid_76 : decode cX11_laid 76 = .ok (.aload_n 0, 1) := by decide +kernel
theorem dX11_laid_77 : decode cX11_laid 77 = .ok (.getfield 195, 3) := by decide +kernel
theorem dX11_laid_80 : decode cX11_laid 80 = .ok (.if_icmp .ge 77, 3) := by decide +kernel
theorem dX11_laid_83 : decode cX11_laid 83 = .ok (.iconst 0, 1) := by decide +kernel
theorem dX11_laid_84 : decode cX11_laid 84 = .ok (.istore 8, 2) := by decide +kernel
theorem dX11_laid_86 : decode cX11_laid 86 = .ok (.iload 7, 2) := by decide +kernel
theorem dX11_laid_88 : decode cX11_laid 88 = .ok (.istore 9, 2) := by decide +kernel
theorem dX11_laid_90 : decode cX11_laid 90 = .ok (.iload 9, 2) := by decide +kernel
theorem dX11_laid_92 : decode cX11_laid 92 = .ok (.iload 7, 2) := by decide +kernel
theorem dX11_laid_94 : decode cX11_laid 94 = .ok (.bipush 8, 2) := by decide +kernel
theorem dX11_laid_96 : decode cX11_laid 96 = .ok (.iadd, 1) := by decide +kernel
theorem dX11_laid_97 : decode cX11_laid 97 = .ok (.if_icmp .ge 36, 3) := by decide +kernel
theorem dX11_laid_100 : decode cX11_laid 100 = .ok (.iconst 2, 1) := by decide +kernel
theorem dX11_laid_101 : decode cX11_laid 101 = .ok (.iload 8, 2) := by decide +kernel
theorem dX11_laid_103 : decode cX11_laid 103 = .ok (.imul, 1) := by decide +kernel
theorem dX11_laid_104 : decode cX11_laid 104 = .ok (.iload 9, 2) := by decide +kernel
theorem dX11_laid_106 : decode cX11_laid 106 = .ok (.aload_n 0, 1) := by decide +kernel
theorem dX11_laid_107 : decode cX11_laid 107 = .ok (.getfield 195, 3) := by decide +kernel
theorem dX11_laid_110 : decode cX11_laid 110 = .ok (.if_icmp .ge 13, 3) := by decide +kernel
theorem dX11_laid_113 : decode cX11_laid 113 = .ok (.aload_n 0, 1) := by decide +kernel
theorem dX11_laid_114 : decode cX11_laid 114 = .ok (.getfield 108, 3) := by decide +kernel
theorem dX11_laid_117 : decode cX11_laid 117 = .ok (.iload 9, 2) := by decide +kernel
theorem dX11_laid_119 : decode cX11_laid 119 = .ok (.iaload, 1) := by decide +kernel
theorem dX11_laid_120 : decode cX11_laid 120 = .ok (.goto 4, 3) := by decide +kernel
theorem dX11_laid_123 : decode cX11_laid 123 = .ok (.iconst 0, 1) := by decide +kernel
theorem dX11_laid_124 : decode cX11_laid 124 = .ok (.iadd, 1) := by decide +kernel
theorem dX11_laid_125 : decode cX11_laid 125 = .ok (.istore 8, 2) := by decide +kernel
theorem dX11_laid_127 : decode cX11_laid 127 = .ok (.iinc 9 1, 3) := by decide +kernel
theorem dX11_laid_130 : decode cX11_laid 130 = .ok (.goto (-40), 3) := by decide +kernel
theorem dX11_laid_133 : decode cX11_laid 133 = .ok (.aload_n 0, 1) := by decide +kernel
theorem dX11_laid_134 : decode cX11_laid 134 = .ok (.getfield 51, 3) := by decide +kernel
theorem dX11_laid_137 : decode cX11_laid 137 = .ok (.bipush 64, 2) := by decide +kernel
theorem dX11_laid_139 : decode cX11_laid 139 = .ok (.iload 5, 2) := by decide +kernel
theorem dX11_laid_141 : decode cX11_laid 141 = .ok (.imul, 1) := by decide +kernel
theorem dX11_laid_142 : decode cX11_laid 142 = .ok (.iload 6, 2) := by decide +kernel
theorem dX11_laid_144 : decode cX11_laid 144 = .ok (.iadd, 1) := by decide +kernel
theorem dX11_laid_145 : decode cX11_laid 145 = .ok (.iload 8, 2) := by decide +kernel
theorem dX11_laid_147 : decode cX11_laid 147 = .ok (.iastore, 1) := by decide +kernel
theorem dX11_laid_148 : decode cX11_laid 148 = .ok (.iinc 6 1, 3) := by decide +kernel
theorem dX11_laid_151 : decode cX11_laid 151 = .ok (.iinc 7 8, 3) := by decide +kernel
theorem dX11_laid_154 : decode cX11_laid 154 = .ok (.goto (-80), 3) := by decide +kernel
theorem dX11_laid_157 : decode cX11_laid 157 = .ok (.iload 4, 2) := by decide +kernel
theorem dX11_laid_159 : decode cX11_laid 159 = .ok (.ifCond .eq 27, 3) := by decide +kernel
theorem dX11_laid_162 : decode cX11_laid 162 = .ok (.aload_n 0, 1) := by decide +kernel
theorem dX11_laid_163 : decode cX11_laid 163 = .ok (.getfield 51, 3) := by decide +kernel
theorem dX11_laid_166 : decode cX11_laid 166 = .ok (.bipush 64, 2) := by decide +kernel
theorem dX11_laid_168 : decode cX11_laid 168 = .ok (.iload 5, 2) := by decide +kernel
theorem dX11_laid_170 : decode cX11_laid 170 = .ok (.imul, 1) := by decide +kernel
theorem dX11_laid_171 : decode cX11_laid 171 = .ok (.iload 6, 2) := by decide +kernel
theorem dX11_laid_173 : decode cX11_laid 173 = .ok (.iadd, 1) := by decide +kernel
theorem dX11_laid_174 : decode cX11_laid 174 = .ok (.aload_n 0, 1) := by decide +kernel
theorem dX11_laid_175 : decode cX11_laid 175 = .ok (.iload 5, 2) := by decide +kernel
theorem dX11_laid_177 : decode cX11_laid 177 = .ok (.iload 6, 2) := by decide +kernel
theorem dX11_laid_179 : decode cX11_laid 179 = .ok (.invokevirtual 208, 3) := by decide +kernel
theorem dX11_laid_182 : decode cX11_laid 182 = .ok (.iastore, 1) := by decide +kernel
theorem dX11_laid_183 : decode cX11_laid 183 = .ok (.iinc 6 1, 3) := by decide +kernel
theorem dX11_laid_186 : decode cX11_laid 186 = .ok (.aload_n 0, 1) := by decide +kernel
theorem dX11_laid_187 : decode cX11_laid 187 = .ok (.getfield 48, 3) := by decide +kernel
theorem dX11_laid_190 : decode cX11_laid 190 = .ok (.iload 5, 2) := by decide +kernel
theorem dX11_laid_192 : decode cX11_laid 192 = .ok (.iload 6, 2) := by decide +kernel
theorem dX11_laid_194 : decode cX11_laid 194 = .ok (.iastore, 1) := by decide +kernel
theorem dX11_laid_195 : decode cX11_laid 195 = .ok (.aload_n 0, 1) := by decide +kernel
theorem dX11_laid_196 : decode cX11_laid 196 = .ok (.dup, 1) := by decide +kernel
theorem dX11_laid_197 : decode cX11_laid 197 = .ok (.getfield 204, 3) := by decide +kernel
theorem dX11_laid_200 : decode cX11_laid 200 = .ok (.iconst 1, 1) := by decide +kernel
theorem dX11_laid_201 : decode cX11_laid 201 = .ok (.iadd, 1) := by decide +kernel
theorem dX11_laid_202 : decode cX11_laid 202 = .ok (.putfield 204, 3) := by decide +kernel
theorem dX11_laid_205 : decode cX11_laid 205 = .ok (.aload_n 0, 1) := by decide +kernel
theorem dX11_laid_206 : decode cX11_laid 206 = .ok (.iconst 1, 1) := by decide +kernel
theorem dX11_laid_207 : decode cX11_laid 207 = .ok (.putfield 165, 3) := by decide +kernel
theorem dX11_laid_210 : decode cX11_laid 210 = .ok (.iload 5, 2) := by decide +kernel
theorem dX11_laid_212 : decode cX11_laid 212 = .ok (.ireturn, 1) := by decide +kernel
set_option maxRecDepth 20000 in
theorem ggX11_head_X11_say : GoodIn wsX11_head wsX11_say := goodIn_r _ [7, 8, 1, 9, 10, 11, 12, 13, 14, 15, 16, 17, 18, 19, 20, 21, 22, 23, 24, 25, 26, 27, 28, 29, 30, 31, 32, 33, 34, 35, 36, 37, 38, 39, 40, 41, 42, 43, 44, 45, 46, 47, 48, 49, 50, 51, 52, 53, 54, 55, 56, 57, 58, 59, 60, 61, 62, 63, 64, 65, 66] (by decide +kernel) (by decide +kernel)
set_option maxRecDepth 20000 in
theorem gX11_head_X11_say : GoodIn wsX11_head (wsV RX11 212 RX11 yX11_say wsX11_say) := goodIn_app (goodIn_of _ (by decide +kernel)) ggX11_head_X11_say
theorem dX11_head_0 : decode cX11_head 0 = .ok (.aload_n 0, 1) := by decide +kernel
theorem dX11_head_1 : decode cX11_head 1 = .ok (.iconst 0, 1) := by decide +kernel
theorem dX11_head_2 : decode cX11_head 2 = .ok (.putfield 195, 3) := by decide +kernel
theorem dX11_head_5 : decode cX11_head 5 = .ok (.aload_n 0, 1) := by decide +kernel
theorem dX11_head_6 : decode cX11_head 6 = .ok (.iload_n 1, 1) := by decide +kernel
theorem dX11_head_7 : decode cX11_head 7 = .ok (.i2l, 1) := by decide +kernel
theorem dX11_head_8 : decode cX11_head 8 = .ok (.iconst 3, 1) := by decide +kernel
theorem dX11_head_9 : decode cX11_head 9 = .ok (.invokevirtual 212, 3) := by decide +kernel
theorem dX11_head_12 : decode cX11_head 12 = .ok (.aload_n 0, 1) := by decide +kernel
theorem dX11_head_13 : decode cX11_head 13 = .ok (.iload_n 2, 1) := by decide +kernel
theorem dX11_head_14 : decode cX11_head 14 = .ok (.i2l, 1) := by decide +kernel
theorem dX11_head_15 : decode cX11_head 15 = .ok (.iconst 3, 1) := by decide +kernel
theorem dX11_head_16 : decode cX11_head 16 = .ok (.invokevirtual 212, 3) := by decide +kernel
theorem dX11_head_19 : decode cX11_head 19 = .ok (.aload_n 0, 1) := by decide +kernel
theorem dX11_head_20 : decode cX11_head 20 = .ok (.iload_n 3, 1) := by decide +kernel
theorem dX11_head_21 : decode cX11_head 21 = .ok (.ldc 207, 2) := by decide +kernel
theorem dX11_head_23 : decode cX11_head 23 = .ok (.irem, 1) := by decide +kernel
theorem dX11_head_24 : decode cX11_head 24 = .ok (.i2l, 1) := by decide +kernel
theorem dX11_head_25 : decode cX11_head 25 = .ok (.bipush 16, 2) := by decide +kernel
theorem dX11_head_27 : decode cX11_head 27 = .ok (.invokevirtual 212, 3) := by decide +kernel
theorem dX11_head_30 : decode cX11_head 30 = .ok (.return_, 1) := by decide +kernel
set_option maxRecDepth 20000 in
theorem ggX11_sendWhole_X11_head : GoodIn wsX11_sendWhole wsX11_head := goodIn_r _ [12, 13, 14, 15, 16, 17, 11, 18, 19, 44, 45, 46, 47, 48, 49, 50, 51, 52, 53, 54, 55, 56, 57, 58, 59, 60, 61, 62, 63, 64, 65, 66, 67, 68, 69, 70, 71, 72, 73, 74, 75, 76, 77, 78, 79, 80, 81, 82, 83, 84, 85, 86, 87, 88, 89, 90, 91, 92, 93, 94, 95, 96, 97, 98, 99, 100, 101] (by decide +kernel) (by decide +kernel)
set_option maxRecDepth 20000 in
theorem gX11_sendWhole_X11_head : GoodIn wsX11_sendWhole (wsV RX11 216 RX11 yX11_head wsX11_head) := goodIn_app (goodIn_of _ (by decide +kernel)) ggX11_sendWhole_X11_head
set_option maxRecDepth 20000 in
theorem ggX11_sendWhole_X11_say : GoodIn wsX11_sendWhole wsX11_say := goodIn_r _ [18, 19, 13, 44, 45, 46, 47, 48, 49, 50, 51, 52, 53, 54, 55, 56, 57, 58, 59, 60, 61, 62, 63, 64, 65, 66, 67, 68, 69, 70, 71, 72, 73, 74, 75, 76, 77, 78, 79, 80, 81, 82, 83, 84, 85, 86, 87, 88, 89, 90, 91, 92, 93, 94, 95, 96, 97, 98, 99, 100, 101] (by decide +kernel) (by decide +kernel)
set_option maxRecDepth 20000 in
theorem gX11_sendWhole_X11_say : GoodIn wsX11_sendWhole (wsV RX11 212 RX11 yX11_say wsX11_say) := goodIn_app (goodIn_of _ (by decide +kernel)) ggX11_sendWhole_X11_say
set_option maxRecDepth 20000 in
theorem ggX11_sendWhole_X11_runs : GoodIn wsX11_sendWhole wsX11_runs := goodIn_r _ [23, 24, 44, 45, 46, 47, 48, 49, 50, 51, 52, 53, 54, 55, 56, 57, 58, 59, 60, 61, 62, 63, 64, 65, 66, 67, 68, 69, 70, 71, 72, 73, 74, 75, 76, 77, 78, 79, 80, 81, 82, 83, 84, 85, 86, 87, 88, 89, 90, 91, 92, 93, 94, 95, 96, 97, 98, 99, 100, 101] (by decide +kernel) (by decide +kernel)
set_option maxRecDepth 20000 in
theorem gX11_sendWhole_X11_runs : GoodIn wsX11_sendWhole (wsV RX11 178 RX11 yX11_runs wsX11_runs) := goodIn_app (goodIn_of _ (by decide +kernel)) ggX11_sendWhole_X11_runs
set_option maxRecDepth 20000 in
theorem ggX11_sendWhole_X11_laid : GoodIn wsX11_sendWhole wsX11_laid := goodIn_r _ [28, 29, 30, 31, 32, 14, 33, 13, 34, 35, 36, 19, 37, 38, 39, 40, 41, 42, 11, 43, 44, 45, 46, 47, 48, 49, 50, 51, 52, 53, 54, 55, 56, 57, 58, 59, 60, 61, 62, 63, 64, 65, 66, 67, 68, 69, 70, 71, 72, 73, 74, 75, 76, 77, 78, 79, 80, 81, 82, 83, 84, 85, 86, 87, 88, 89, 90, 91, 92, 93, 94, 95, 96, 97, 98, 99, 100, 101] (by decide +kernel) (by decide +kernel)
set_option maxRecDepth 20000 in
theorem gX11_sendWhole_X11_laid : GoodIn wsX11_sendWhole (wsV RX11 220 RX11 yX11_laid wsX11_laid) := goodIn_app (goodIn_of _ (by decide +kernel)) ggX11_sendWhole_X11_laid
theorem dX11_sendWhole_0 : decode cX11_sendWhole 0 = .ok (.aload_n 0, 1) := by decide +kernel
theorem dX11_sendWhole_1 : decode cX11_sendWhole 1 = .ok (.getfield 29, 3) := by decide +kernel
theorem dX11_sendWhole_4 : decode cX11_sendWhole 4 = .ok (.iload_n 1, 1) := by decide +kernel
theorem dX11_sendWhole_5 : decode cX11_sendWhole 5 = .ok (.aload_n 0, 1) := by decide +kernel
theorem dX11_sendWhole_6 : decode cX11_sendWhole 6 = .ok (.getfield 29, 3) := by decide +kernel
theorem dX11_sendWhole_9 : decode cX11_sendWhole 9 = .ok (.iload_n 1, 1) := by decide +kernel
theorem dX11_sendWhole_10 : decode cX11_sendWhole 10 = .ok (.iaload, 1) := by decide +kernel
theorem dX11_sendWhole_11 : decode cX11_sendWhole 11 = .ok (.iconst 1, 1) := by decide +kernel
theorem dX11_sendWhole_12 : decode cX11_sendWhole 12 = .ok (.iadd, 1) := by decide +kernel
theorem dX11_sendWhole_13 : decode cX11_sendWhole 13 = .ok (.bipush 16, 2) := by decide +kernel
theorem dX11_sendWhole_15 : decode cX11_sendWhole 15 = .ok (.irem, 1) := by decide +kernel
theorem dX11_sendWhole_16 : decode cX11_sendWhole 16 = .ok (.iastore, 1) := by decide +kernel
theorem dX11_sendWhole_17 : decode cX11_sendWhole 17 = .ok (.aload_n 0, 1) := by decide +kernel
theorem dX11_sendWhole_18 : decode cX11_sendWhole 18 = .ok (.getfield 39, 3) := by decide +kernel
theorem dX11_sendWhole_21 : decode cX11_sendWhole 21 = .ok (.iload_n 1, 1) := by decide +kernel
theorem dX11_sendWhole_22 : decode cX11_sendWhole 22 = .ok (.iconst 0, 1) := by decide +kernel
theorem dX11_sendWhole_23 : decode cX11_sendWhole 23 = .ok (.iastore, 1) := by decide +kernel
theorem dX11_sendWhole_24 : decode cX11_sendWhole 24 = .ok (.aload_n 0, 1) := by decide +kernel
theorem dX11_sendWhole_25 : decode cX11_sendWhole 25 = .ok (.getfield 35, 3) := by decide +kernel
theorem dX11_sendWhole_28 : decode cX11_sendWhole 28 = .ok (.iload_n 1, 1) := by decide +kernel
theorem dX11_sendWhole_29 : decode cX11_sendWhole 29 = .ok (.iconst 0, 1) := by decide +kernel
theorem dX11_sendWhole_30 : decode cX11_sendWhole 30 = .ok (.bastore, 1) := by decide +kernel
theorem dX11_sendWhole_31 : decode cX11_sendWhole 31 = .ok (.aload_n 0, 1) := by decide +kernel
theorem dX11_sendWhole_32 : decode cX11_sendWhole 32 = .ok (.iconst 0, 1) := by decide +kernel
theorem dX11_sendWhole_33 : decode cX11_sendWhole 33 = .ok (.iload_n 1, 1) := by decide +kernel
theorem dX11_sendWhole_34 : decode cX11_sendWhole 34 = .ok (.iload_n 2, 1) := by decide +kernel
theorem dX11_sendWhole_35 : decode cX11_sendWhole 35 = .ok (.invokevirtual 216, 3) := by decide +kernel
theorem dX11_sendWhole_38 : decode cX11_sendWhole 38 = .ok (.aload_n 0, 1) := by decide +kernel
theorem dX11_sendWhole_39 : decode cX11_sendWhole 39 = .ok (.aload_n 0, 1) := by decide +kernel
theorem dX11_sendWhole_40 : decode cX11_sendWhole 40 = .ok (.getfield 29, 3) := by decide +kernel
theorem dX11_sendWhole_43 : decode cX11_sendWhole 43 = .ok (.iload_n 1, 1) := by decide +kernel
theorem dX11_sendWhole_44 : decode cX11_sendWhole 44 = .ok (.iaload, 1) := by decide +kernel
theorem dX11_sendWhole_45 : decode cX11_sendWhole 45 = .ok (.i2l, 1) := by decide +kernel
theorem dX11_sendWhole_46 : decode cX11_sendWhole 46 = .ok (.iconst 4, 1) := by decide +kernel
theorem dX11_sendWhole_47 : decode cX11_sendWhole 47 = .ok (.invokevirtual 212, 3) := by decide +kernel
theorem dX11_sendWhole_50 : decode cX11_sendWhole 50 = .ok (.iconst 0, 1) := by decide +kernel
theorem dX11_sendWhole_51 : decode cX11_sendWhole 51 = .ok (.istore_n 3, 1) := by decide +kernel
theorem dX11_sendWhole_52 : decode cX11_sendWhole 52 = .ok (.iload_n 3, 1) := by decide +kernel
theorem dX11_sendWhole_53 : decode cX11_sendWhole 53 = .ok (.aload_n 0, 1) := by decide +kernel
theorem dX11_sendWhole_54 : decode cX11_sendWhole 54 = .ok (.getfield 148, 3) := by decide +kernel
theorem dX11_sendWhole_57 : decode cX11_sendWhole 57 = .ok (.if_icmp .ge 51, 3) := by decide +kernel
theorem dX11_sendWhole_60 : decode cX11_sendWhole 60 = .ok (.aload_n 0, 1) := by decide +kernel
theorem dX11_sendWhole_61 : decode cX11_sendWhole 61 = .ok (.aload_n 0, 1) := by decide +kernel
theorem dX11_sendWhole_62 : decode cX11_sendWhole 62 = .ok (.getfield 23, 3) := by decide +kernel
theorem dX11_sendWhole_65 : decode cX11_sendWhole 65 = .ok (.iload_n 3, 1) := by decide +kernel
theorem dX11_sendWhole_66 : decode cX11_sendWhole 66 = .ok (.laload, 1) := by decide +kernel
theorem dX11_sendWhole_67 : decode cX11_sendWhole 67 = .ok (.aload_n 0, 1) := by decide +kernel
theorem dX11_sendWhole_68 : decode cX11_sendWhole 68 = .ok (.getfield 13, 3) := by decide +kernel
theorem dX11_sendWhole_71 : decode cX11_sendWhole 71 = .ok (.iload_n 3, 1) := by decide +kernel
theorem dX11_sendWhole_72 : decode cX11_sendWhole 72 = .ok (.iaload, 1) := by decide +kernel
theorem dX11_sendWhole_73 : decode cX11_sendWhole 73 = .ok (.invokevirtual 212, 3) := by decide +kernel
theorem dX11_sendWhole_76 : decode cX11_sendWhole 76 = .ok (.aload_n 0, 1) := by decide +kernel
theorem dX11_sendWhole_77 : decode cX11_sendWhole 77 = .ok (.iload_n 3, 1) := by decide +kernel
theorem dX11_sendWhole_78 : decode cX11_sendWhole 78 = .ok (.invokevirtual 178, 3) := by decide +kernel
theorem dX11_sendWhole_81 : decode cX11_sendWhole 81 = .ok (.ifCond .eq 21, 3) := by decide +kernel
theorem dX11_sendWhole_84 : decode cX11_sendWhole 84 = .ok (.aload_n 0, 1) := by decide +kernel
theorem dX11_sendWhole_85 : decode cX11_sendWhole 85 = .ok (.aload_n 0, 1) := by decide +kernel
theorem dX11_sendWhole_86 : decode cX11_sendWhole 86 = .ok (.getfield 32, 3) := by decide +kernel
theorem dX11_sendWhole_89 : decode cX11_sendWhole 89 = .ok (.bipush 8, 2) := by decide +kernel
theorem dX11_sendWhole_91 : decode cX11_sendWhole 91 = .ok (.iload_n 1, 1) := by decide +kernel
theorem dX11_sendWhole_92 : decode cX11_sendWhole 92 = .ok (.imul, 1) := by decide +kernel
theorem dX11_sendWhole_93 : decode cX11_sendWhole 93 = .ok (.iload_n 3, 1) := by decide +kernel
theorem dX11_sendWhole_94 : decode cX11_sendWhole 94 = .ok (.iadd, 1) := by decide +kernel
theorem dX11_sendWhole_95 : decode cX11_sendWhole 95 = .ok (.iaload, 1) := by decide +kernel
theorem dX11_sendWhole_96 : decode cX11_sendWhole 96 = .ok (.i2l, 1) := by decide +kernel
theorem dX11_sendWhole_97 : decode cX11_sendWhole 97 = .ok (.bipush 8, 2) := by decide +kernel
theorem dX11_sendWhole_99 : decode cX11_sendWhole 99 = .ok (.invokevirtual 212, 3) := by decide +kernel
theorem dX11_sendWhole_102 : decode cX11_sendWhole 102 = .ok (.iinc 3 1, 3) := by decide +kernel
theorem dX11_sendWhole_105 : decode cX11_sendWhole 105 = .ok (.goto (-53), 3) := by decide +kernel
theorem dX11_sendWhole_108 : decode cX11_sendWhole 108 = .ok (.aload_n 0, 1) := by decide +kernel
theorem dX11_sendWhole_109 : decode cX11_sendWhole 109 = .ok (.iconst 0, 1) := by decide +kernel
theorem dX11_sendWhole_110 : decode cX11_sendWhole 110 = .ok (.iload_n 1, 1) := by decide +kernel
theorem dX11_sendWhole_111 : decode cX11_sendWhole 111 = .ok (.iload_n 2, 1) := by decide +kernel
theorem dX11_sendWhole_112 : decode cX11_sendWhole 112 = .ok (.iconst 1, 1) := by decide +kernel
theorem dX11_sendWhole_113 : decode cX11_sendWhole 113 = .ok (.invokevirtual 220, 3) := by decide +kernel
theorem dX11_sendWhole_116 : decode cX11_sendWhole 116 = .ok (.ireturn, 1) := by decide +kernel
set_option maxRecDepth 20000 in
theorem ggX11_sendPart_X11_head : GoodIn wsX11_sendPart wsX11_head := goodIn_r _ [10, 11, 12, 13, 14, 15, 9, 16, 17, 69, 70, 71, 72, 73, 74, 75, 76, 77, 78, 79, 80, 81, 82, 83, 84, 85, 86, 87, 88, 89, 90, 91, 92, 93, 94, 95, 96, 97, 98, 99, 100, 101, 102, 103, 104, 105, 106, 107, 108, 109, 110, 111, 112, 113, 114, 115, 116, 117, 118, 119, 120, 121, 122, 123, 124, 125, 126] (by decide +kernel) (by decide +kernel)
set_option maxRecDepth 20000 in
theorem gX11_sendPart_X11_head : GoodIn wsX11_sendPart (wsV RX11 216 RX11 yX11_head wsX11_head) := goodIn_app (goodIn_of _ (by decide +kernel)) ggX11_sendPart_X11_head
set_option maxRecDepth 20000 in
theorem ggX11_sendPart_X11_say : GoodIn wsX11_sendPart wsX11_say := goodIn_r _ [16, 17, 11, 69, 70, 71, 72, 73, 74, 75, 76, 77, 78, 79, 80, 81, 82, 83, 84, 85, 86, 87, 88, 89, 90, 91, 92, 93, 94, 95, 96, 97, 98, 99, 100, 101, 102, 103, 104, 105, 106, 107, 108, 109, 110, 111, 112, 113, 114, 115, 116, 117, 118, 119, 120, 121, 122, 123, 124, 125, 126] (by decide +kernel) (by decide +kernel)
set_option maxRecDepth 20000 in
theorem gX11_sendPart_X11_say : GoodIn wsX11_sendPart (wsV RX11 212 RX11 yX11_say wsX11_say) := goodIn_app (goodIn_of _ (by decide +kernel)) ggX11_sendPart_X11_say
set_option maxRecDepth 20000 in
theorem ggX11_sendPart_X11_giveAll : GoodIn wsX11_sendPart wsX11_giveAll := goodIn_r _ [21, 22, 4, 23, 24, 25, 9, 26, 3, 27, 28, 29, 30, 31, 32, 33, 34, 35, 5, 36, 37, 38, 39, 69, 70, 71, 72, 73, 74, 75, 76, 77, 78, 79, 80, 81, 82, 83, 84, 85, 86, 87, 88, 89, 90, 91, 92, 93, 94, 95, 96, 97, 98, 99, 100, 101, 102, 103, 104, 105, 106, 107, 108, 109, 110, 111, 112, 113, 114, 115, 116, 117, 118, 119, 120, 121, 122, 123, 124, 125, 126] (by decide +kernel) (by decide +kernel)
set_option maxRecDepth 20000 in
theorem gX11_sendPart_X11_giveAll : GoodIn wsX11_sendPart (wsV RX11 224 RX11 yX11_giveAll wsX11_giveAll) := goodIn_app (goodIn_of _ (by decide +kernel)) ggX11_sendPart_X11_giveAll
set_option maxRecDepth 20000 in
theorem ggX11_sendPart_X11_draftSum : GoodIn wsX11_sendPart wsX11_draftSum := goodIn_r _ [43, 2, 4, 44, 45, 46, 9, 47, 48, 49, 69, 70, 71, 72, 73, 74, 75, 76, 77, 78, 79, 80, 81, 82, 83, 84, 85, 86, 87, 88, 89, 90, 91, 92, 93, 94, 95, 96, 97, 98, 99, 100, 101, 102, 103, 104, 105, 106, 107, 108, 109, 110, 111, 112, 113, 114, 115, 116, 117, 118, 119, 120, 121, 122, 123, 124, 125, 126] (by decide +kernel) (by decide +kernel)
set_option maxRecDepth 20000 in
theorem gX11_sendPart_X11_draftSum : GoodIn wsX11_sendPart (wsV RX11 228 RX11 yX11_draftSum wsX11_draftSum) := goodIn_app (goodIn_of _ (by decide +kernel)) ggX11_sendPart_X11_draftSum
set_option maxRecDepth 20000 in
theorem ggX11_sendPart_X11_laid : GoodIn wsX11_sendPart wsX11_laid := goodIn_r _ [53, 54, 55, 56, 57, 12, 58, 11, 59, 60, 61, 17, 62, 63, 64, 65, 66, 67, 9, 68, 69, 70, 71, 72, 73, 74, 75, 76, 77, 78, 79, 80, 81, 82, 83, 84, 85, 86, 87, 88, 89, 90, 91, 92, 93, 94, 95, 96, 97, 98, 99, 100, 101, 102, 103, 104, 105, 106, 107, 108, 109, 110, 111, 112, 113, 114, 115, 116, 117, 118, 119, 120, 121, 122, 123, 124, 125, 126] (by decide +kernel) (by decide +kernel)
set_option maxRecDepth 20000 in
theorem gX11_sendPart_X11_laid : GoodIn wsX11_sendPart (wsV RX11 220 RX11 yX11_laid wsX11_laid) := goodIn_app (goodIn_of _ (by decide +kernel)) ggX11_sendPart_X11_laid
theorem dX11_sendPart_0 : decode cX11_sendPart 0 = .ok (.aload_n 0, 1) := by decide +kernel
theorem dX11_sendPart_1 : decode cX11_sendPart 1 = .ok (.iconst 1, 1) := by decide +kernel
theorem dX11_sendPart_2 : decode cX11_sendPart 2 = .ok (.iload_n 1, 1) := by decide +kernel
theorem dX11_sendPart_3 : decode cX11_sendPart 3 = .ok (.iload_n 2, 1) := by decide +kernel
theorem dX11_sendPart_4 : decode cX11_sendPart 4 = .ok (.invokevirtual 216, 3) := by decide +kernel
theorem dX11_sendPart_7 : decode cX11_sendPart 7 = .ok (.aload_n 0, 1) := by decide +kernel
theorem dX11_sendPart_8 : decode cX11_sendPart 8 = .ok (.aload_n 0, 1) := by decide +kernel
theorem dX11_sendPart_9 : decode cX11_sendPart 9 = .ok (.getfield 29, 3) := by decide +kernel
theorem dX11_sendPart_12 : decode cX11_sendPart 12 = .ok (.iload_n 1, 1) := by decide +kernel
theorem dX11_sendPart_13 : decode cX11_sendPart 13 = .ok (.iaload, 1) := by decide +kernel
theorem dX11_sendPart_14 : decode cX11_sendPart 14 = .ok (.i2l, 1) := by decide +kernel
theorem dX11_sendPart_15 : decode cX11_sendPart 15 = .ok (.iconst 4, 1) := by decide +kernel
theorem dX11_sendPart_16 : decode cX11_sendPart 16 = .ok (.invokevirtual 212, 3) := by decide +kernel
theorem dX11_sendPart_19 : decode cX11_sendPart 19 = .ok (.iconst 0, 1) := by decide +kernel
theorem dX11_sendPart_20 : decode cX11_sendPart 20 = .ok (.istore_n 3, 1) := by decide +kernel
theorem dX11_sendPart_21 : decode cX11_sendPart 21 = .ok (.iload_n 3, 1) := by decide +kernel
theorem dX11_sendPart_22 : decode cX11_sendPart 22 = .ok (.aload_n 0, 1) := by decide +kernel
theorem dX11_sendPart_23 : decode cX11_sendPart 23 = .ok (.getfield 148, 3) := by decide +kernel
theorem dX11_sendPart_26 : decode cX11_sendPart 26 = .ok (.if_icmp .ge 82, 3) := by decide +kernel
theorem dX11_sendPart_29 : decode cX11_sendPart 29 = .ok (.aload_n 0, 1) := by decide +kernel
theorem dX11_sendPart_30 : decode cX11_sendPart 30 = .ok (.getfield 7, 3) := by decide +kernel
theorem dX11_sendPart_33 : decode cX11_sendPart 33 = .ok (.iload_n 3, 1) := by decide +kernel
theorem dX11_sendPart_34 : decode cX11_sendPart 34 = .ok (.iaload, 1) := by decide +kernel
theorem dX11_sendPart_35 : decode cX11_sendPart 35 = .ok (.iconst 4, 1) := by decide +kernel
theorem dX11_sendPart_36 : decode cX11_sendPart 36 = .ok (.if_icmp .eq 17, 3) := by decide +kernel
theorem dX11_sendPart_39 : decode cX11_sendPart 39 = .ok (.aload_n 0, 1) := by decide +kernel
theorem dX11_sendPart_40 : decode cX11_sendPart 40 = .ok (.iload_n 1, 1) := by decide +kernel
theorem dX11_sendPart_41 : decode cX11_sendPart 41 = .ok (.iload_n 3, 1) := by decide +kernel
theorem dX11_sendPart_42 : decode cX11_sendPart 42 = .ok (.iload_n 2, 1) := by decide +kernel
theorem dX11_sendPart_43 : decode cX11_sendPart 43 = .ok (.invokevirtual 224, 3) := by decide +kernel
theorem dX11_sendPart_46 : decode cX11_sendPart 46 = .ok (.ifCond .eq 7, 3) := by decide +kernel
theorem dX11_sendPart_49 : decode cX11_sendPart 49 = .ok (.iconst 1, 1) := by decide +kernel
theorem dX11_sendPart_50 : decode cX11_sendPart 50 = .ok (.goto 4, 3) := by decide +kernel
theorem dX11_sendPart_53 : decode cX11_sendPart 53 = .ok (.iconst 0, 1) := by decide +kernel
theorem dX11_sendPart_54 : decode cX11_sendPart 54 = .ok (.istore 4, 2) := by decide +kernel
theorem dX11_sendPart_56 : decode cX11_sendPart 56 = .ok (.aload_n 0, 1) := by decide +kernel
theorem dX11_sendPart_57 : decode cX11_sendPart 57 = .ok (.getfield 7, 3) := by decide +kernel
theorem dX11_sendPart_60 : decode cX11_sendPart 60 = .ok (.iload_n 3, 1) := by decide +kernel
theorem dX11_sendPart_61 : decode cX11_sendPart 61 = .ok (.iaload, 1) := by decide +kernel
theorem dX11_sendPart_62 : decode cX11_sendPart 62 = .ok (.iconst 4, 1) := by decide +kernel
theorem dX11_sendPart_63 : decode cX11_sendPart 63 = .ok (.if_icmp .eq 18, 3) := by decide +kernel
theorem dX11_sendPart_66 : decode cX11_sendPart 66 = .ok (.aload_n 0, 1) := by decide +kernel
theorem dX11_sendPart_67 : decode cX11_sendPart 67 = .ok (.iload 4, 2) := by decide +kernel
theorem dX11_sendPart_69 : decode cX11_sendPart 69 = .ok (.ifCond .eq 7, 3) := by decide +kernel
theorem dX11_sendPart_72 : decode cX11_sendPart 72 = .ok (.lconst 0, 1) := by decide +kernel
theorem dX11_sendPart_73 : decode cX11_sendPart 73 = .ok (.goto 4, 3) := by decide +kernel
theorem dX11_sendPart_76 : decode cX11_sendPart 76 = .ok (.lconst 1, 1) := by decide +kernel
theorem dX11_sendPart_77 : decode cX11_sendPart 77 = .ok (.iconst 1, 1) := by decide +kernel
theorem dX11_sendPart_78 : decode cX11_sendPart 78 = .ok (.invokevirtual 212, 3) := by decide +kernel
theorem dX11_sendPart_81 : decode cX11_sendPart 81 = .ok (.iload 4, 2) := by decide +kernel
theorem dX11_sendPart_83 : decode cX11_sendPart 83 = .ok (.ifCond .ne 19, 3) := by decide +kernel
theorem dX11_sendPart_86 : decode cX11_sendPart 86 = .ok (.aload_n 0, 1) := by decide +kernel
theorem dX11_sendPart_87 : decode cX11_sendPart 87 = .ok (.aload_n 0, 1) := by decide +kernel
theorem dX11_sendPart_88 : decode cX11_sendPart 88 = .ok (.getfield 23, 3) := by decide +kernel
theorem dX11_sendPart_91 : decode cX11_sendPart 91 = .ok (.iload_n 3, 1) := by decide +kernel
theorem dX11_sendPart_92 : decode cX11_sendPart 92 = .ok (.laload, 1) := by decide +kernel
theorem dX11_sendPart_93 : decode cX11_sendPart 93 = .ok (.aload_n 0, 1) := by decide +kernel
theorem dX11_sendPart_94 : decode cX11_sendPart 94 = .ok (.getfield 13, 3) := by decide +kernel
theorem dX11_sendPart_97 : decode cX11_sendPart 97 = .ok (.iload_n 3, 1) := by decide +kernel
theorem dX11_sendPart_98 : decode cX11_sendPart 98 = .ok (.iaload, 1) := by decide +kernel
theorem dX11_sendPart_99 : decode cX11_sendPart 99 = .ok (.invokevirtual 212, 3) := by decide +kernel
theorem dX11_sendPart_102 : decode cX11_sendPart 102 = .ok (.iinc 3 1, 3) := by decide +kernel
theorem dX11_sendPart_105 : decode cX11_sendPart 105 = .ok (.goto (-84), 3) := by decide +kernel
theorem dX11_sendPart_108 : decode cX11_sendPart 108 = .ok (.aload_n 0, 1) := by decide +kernel
theorem dX11_sendPart_109 : decode cX11_sendPart 109 = .ok (.aload_n 0, 1) := by decide +kernel
theorem dX11_sendPart_110 : decode cX11_sendPart 110 = .ok (.invokevirtual 228, 3) := by decide +kernel
theorem dX11_sendPart_113 : decode cX11_sendPart 113 = .ok (.i2l, 1) := by decide +kernel
theorem dX11_sendPart_114 : decode cX11_sendPart 114 = .ok (.bipush 8, 2) := by decide +kernel
theorem dX11_sendPart_116 : decode cX11_sendPart 116 = .ok (.invokevirtual 212, 3) := by decide +kernel
theorem dX11_sendPart_119 : decode cX11_sendPart 119 = .ok (.aload_n 0, 1) := by decide +kernel
theorem dX11_sendPart_120 : decode cX11_sendPart 120 = .ok (.iconst 1, 1) := by decide +kernel
theorem dX11_sendPart_121 : decode cX11_sendPart 121 = .ok (.iload_n 1, 1) := by decide +kernel
theorem dX11_sendPart_122 : decode cX11_sendPart 122 = .ok (.iload_n 2, 1) := by decide +kernel
theorem dX11_sendPart_123 : decode cX11_sendPart 123 = .ok (.iconst 0, 1) := by decide +kernel
theorem dX11_sendPart_124 : decode cX11_sendPart 124 = .ok (.invokevirtual 220, 3) := by decide +kernel
theorem dX11_sendPart_127 : decode cX11_sendPart 127 = .ok (.ireturn, 1) := by decide +kernel
set_option maxRecDepth 20000 in
theorem ggX11_fails_X11_given : GoodIn wsX11_fails wsX11_given := goodIn_r _ [8, 9, 2, 10, 11, 12, 3, 13, 14, 15, 16, 7, 17, 18, 19, 20, 21, 22, 27, 28, 29, 30, 31, 32, 33, 34, 35, 36, 37, 38, 39, 40, 41, 42, 43, 44, 45, 46, 47, 48, 49, 50, 51, 52, 53, 54, 55, 56, 57, 58, 59, 60, 61, 62, 63, 64, 65, 66, 67, 68, 69, 70, 71, 72, 73, 74, 75, 76, 77, 78, 79, 80, 81, 82, 83, 84] (by decide +kernel) (by decide +kernel)
set_option maxRecDepth 20000 in
theorem gX11_fails_X11_given : GoodIn wsX11_fails (wsV RX11 187 RX11 yX11_given wsX11_given) := goodIn_app (goodIn_of _ (by decide +kernel)) ggX11_fails_X11_given
set_option maxRecDepth 20000 in
theorem ggX11_fails_X11_finds : GoodIn wsX11_fails wsX11_finds := goodIn_r _ [26, 14, 15, 16, 7, 17, 18, 27, 28, 29, 30, 31, 32, 33, 34, 35, 36, 37, 38, 39, 40, 41, 42, 43, 44, 45, 46, 47, 48, 49, 50, 51, 52, 53, 54, 55, 56, 57, 58, 59, 60, 61, 62, 63, 64, 65, 66, 67, 68, 69, 70, 71, 72, 73, 74, 75, 76, 77, 78, 79, 80, 81, 82, 83, 84] (by decide +kernel) (by decide +kernel)
set_option maxRecDepth 20000 in
theorem gX11_fails_X11_finds : GoodIn wsX11_fails (wsV RX11 191 RX11 yX11_finds wsX11_finds) := goodIn_app (goodIn_of _ (by decide +kernel)) ggX11_fails_X11_finds
theorem dX11_fails_0 : decode cX11_fails 0 = .ok (.bipush (-2), 2) := by decide +kernel
theorem dX11_fails_2 : decode cX11_fails 2 = .ok (.istore 5, 2) := by decide +kernel
theorem dX11_fails_4 : decode cX11_fails 4 = .ok (.aload_n 0, 1) := by decide +kernel
theorem dX11_fails_5 : decode cX11_fails 5 = .ok (.getfield 39, 3) := by decide +kernel
theorem dX11_fails_8 : decode cX11_fails 8 = .ok (.iload_n 1, 1) := by decide +kernel
theorem dX11_fails_9 : decode cX11_fails 9 = .ok (.iaload, 1) := by decide +kernel
theorem dX11_fails_10 : decode cX11_fails 10 = .ok (.iconst 1, 1) := by decide +kernel
theorem dX11_fails_11 : decode cX11_fails 11 = .ok (.isub, 1) := by decide +kernel
theorem dX11_fails_12 : decode cX11_fails 12 = .ok (.istore 6, 2) := by decide +kernel
theorem dX11_fails_14 : decode cX11_fails 14 = .ok (.iload 6, 2) := by decide +kernel
theorem dX11_fails_16 : decode cX11_fails 16 = .ok (.ifCond .lt 58, 3) := by decide +kernel
theorem dX11_fails_19 : decode cX11_fails 19 = .ok (.iload 4, 2) := by decide +kernel
theorem dX11_fails_21 : decode cX11_fails 21 = .ok (.ifCond .lt 53, 3) := by decide +kernel
theorem dX11_fails_24 : decode cX11_fails 24 = .ok (.aload_n 0, 1) := by decide +kernel
theorem dX11_fails_25 : decode cX11_fails 25 = .ok (.iload_n 2, 1) := by decide +kernel
theorem dX11_fails_26 : decode cX11_fails 26 = .ok (.aload_n 0, 1) := by decide +kernel
theorem dX11_fails_27 : decode cX11_fails 27 = .ok (.iload_n 1, 1) := by decide +kernel
theorem dX11_fails_28 : decode cX11_fails 28 = .ok (.iload 6, 2) := by decide +kernel
theorem dX11_fails_30 : decode cX11_fails 30 = .ok (.iload_n 2, 1) := by decide +kernel
theorem dX11_fails_31 : decode cX11_fails 31 = .ok (.iload_n 3, 1) := by decide +kernel
theorem dX11_fails_32 : decode cX11_fails 32 = .ok (.invokevirtual 187, 3) := by decide +kernel
theorem dX11_fails_35 : decode cX11_fails 35 = .ok (.aload_n 0, 1) := by decide +kernel
theorem dX11_fails_36 : decode cX11_fails 36 = .ok (.getfield 23, 3) := by decide +kernel
theorem dX11_fails_39 : decode cX11_fails 39 = .ok (.iload_n 2, 1) := by decide +kernel
theorem dX11_fails_40 : decode cX11_fails 40 = .ok (.laload, 1) := by decide +kernel
theorem dX11_fails_41 : decode cX11_fails 41 = .ok (.iload 4, 2) := by decide +kernel
theorem dX11_fails_43 : decode cX11_fails 43 = .ok (.invokevirtual 191, 3) := by decide +kernel
theorem dX11_fails_46 : decode cX11_fails 46 = .ok (.ifCond .eq 8, 3) := by decide +kernel
theorem dX11_fails_49 : decode cX11_fails 49 = .ok (.iload 5, 2) := by decide +kernel
theorem dX11_fails_51 : decode cX11_fails 51 = .ok (.goto 15, 3) := by decide +kernel
theorem dX11_fails_54 : decode cX11_fails 54 = .ok (.aload_n 0, 1) := by decide +kernel
theorem dX11_fails_55 : decode cX11_fails 55 = .ok (.getfield 42, 3) := by decide +kernel
theorem dX11_fails_58 : decode cX11_fails 58 = .ok (.bipush 9, 2) := by decide +kernel
theorem dX11_fails_60 : decode cX11_fails 60 = .ok (.iload_n 1, 1) := by decide +kernel
theorem dX11_fails_61 : decode cX11_fails 61 = .ok (.imul, 1) := by decide +kernel
theorem dX11_fails_62 : decode cX11_fails 62 = .ok (.iload 6, 2) := by decide +kernel
theorem dX11_fails_64 : decode cX11_fails 64 = .ok (.iadd, 1) := by decide +kernel
theorem dX11_fails_65 : decode cX11_fails 65 = .ok (.iaload, 1) := by decide +kernel
theorem dX11_fails_66 : decode cX11_fails 66 = .ok (.istore 5, 2) := by decide +kernel
theorem dX11_fails_68 : decode cX11_fails 68 = .ok (.iinc 6 (-1), 3) := by decide +kernel
theorem dX11_fails_71 : decode cX11_fails 71 = .ok (.goto (-57), 3) := by decide +kernel
theorem dX11_fails_74 : decode cX11_fails 74 = .ok (.iload 5, 2) := by decide +kernel
theorem dX11_fails_76 : decode cX11_fails 76 = .ok (.ireturn, 1) := by decide +kernel
set_option maxRecDepth 20000 in
theorem ggX11_sendShort_X11_head : GoodIn wsX11_sendShort wsX11_head := goodIn_r _ [17, 18, 19, 20, 21, 22, 16, 23, 24, 85, 86, 87, 88, 89, 90, 91, 92, 93, 94, 95, 96, 97, 98, 99, 100, 101, 102, 103, 104, 105, 106, 107, 108, 109, 110, 111, 112, 113, 114, 115, 116, 117, 118, 119, 120, 121, 122, 123, 124, 125, 126, 127, 128, 129, 130, 131, 132, 133, 134, 135, 136, 137, 138, 139, 140, 141, 142] (by decide +kernel) (by decide +kernel)
set_option maxRecDepth 20000 in
theorem gX11_sendShort_X11_head : GoodIn wsX11_sendShort (wsV RX11 216 RX11 yX11_head wsX11_head) := goodIn_app (goodIn_of _ (by decide +kernel)) ggX11_sendShort_X11_head
set_option maxRecDepth 20000 in
theorem ggX11_sendShort_X11_say : GoodIn wsX11_sendShort wsX11_say := goodIn_r _ [23, 24, 18, 85, 86, 87, 88, 89, 90, 91, 92, 93, 94, 95, 96, 97, 98, 99, 100, 101, 102, 103, 104, 105, 106, 107, 108, 109, 110, 111, 112, 113, 114, 115, 116, 117, 118, 119, 120, 121, 122, 123, 124, 125, 126, 127, 128, 129, 130, 131, 132, 133, 134, 135, 136, 137, 138, 139, 140, 141, 142] (by decide +kernel) (by decide +kernel)
set_option maxRecDepth 20000 in
theorem gX11_sendShort_X11_say : GoodIn wsX11_sendShort (wsV RX11 212 RX11 yX11_say wsX11_say) := goodIn_app (goodIn_of _ (by decide +kernel)) ggX11_sendShort_X11_say
set_option maxRecDepth 20000 in
theorem ggX11_sendShort_X11_runs : GoodIn wsX11_sendShort wsX11_runs := goodIn_r _ [28, 7, 85, 86, 87, 88, 89, 90, 91, 92, 93, 94, 95, 96, 97, 98, 99, 100, 101, 102, 103, 104, 105, 106, 107, 108, 109, 110, 111, 112, 113, 114, 115, 116, 117, 118, 119, 120, 121, 122, 123, 124, 125, 126, 127, 128, 129, 130, 131, 132, 133, 134, 135, 136, 137, 138, 139, 140, 141, 142] (by decide +kernel) (by decide +kernel)
set_option maxRecDepth 20000 in
theorem gX11_sendShort_X11_runs : GoodIn wsX11_sendShort (wsV RX11 178 RX11 yX11_runs wsX11_runs) := goodIn_app (goodIn_of _ (by decide +kernel)) ggX11_sendShort_X11_runs
set_option maxRecDepth 20000 in
theorem ggX11_sendShort_X11_serves : GoodIn wsX11_sendShort wsX11_serves := goodIn_r _ [32, 10, 3, 33, 34, 35, 16, 36, 7, 37, 38, 39, 12, 40, 41, 42, 43, 44, 8, 45, 46, 47, 48, 49, 50, 51, 52, 85, 86, 87, 88, 89, 90, 91, 92, 93, 94, 95, 96, 97, 98, 99, 100, 101, 102, 103, 104, 105, 106, 107, 108, 109, 110, 111, 112, 113, 114, 115, 116, 117, 118, 119, 120, 121, 122, 123, 124, 125, 126, 127, 128, 129, 130, 131, 132, 133, 134, 135, 136, 137, 138, 139, 140, 141, 142] (by decide +kernel) (by decide +kernel)
set_option maxRecDepth 20000 in
theorem gX11_sendShort_X11_serves : GoodIn wsX11_sendShort (wsV RX11 232 RX11 yX11_serves wsX11_serves) := goodIn_app (goodIn_of _ (by decide +kernel)) ggX11_sendShort_X11_serves
set_option maxRecDepth 20000 in
theorem ggX11_sendShort_X11_fails : GoodIn wsX11_sendShort wsX11_fails := goodIn_r _ [56, 10, 3, 12, 33, 34, 35, 16, 36, 7, 37, 38, 39, 40, 41, 42, 43, 44, 8, 45, 46, 47, 48, 49, 50, 51, 52, 85, 86, 87, 88, 89, 90, 91, 92, 93, 94, 95, 96, 97, 98, 99, 100, 101, 102, 103, 104, 105, 106, 107, 108, 109, 110, 111, 112, 113, 114, 115, 116, 117, 118, 119, 120, 121, 122, 123, 124, 125, 126, 127, 128, 129, 130, 131, 132, 133, 134, 135, 136, 137, 138, 139, 140, 141, 142] (by decide +kernel) (by decide +kernel)
set_option maxRecDepth 20000 in
theorem gX11_sendShort_X11_fails : GoodIn wsX11_sendShort (wsV RX11 236 RX11 yX11_fails wsX11_fails) := goodIn_app (goodIn_of _ (by decide +kernel)) ggX11_sendShort_X11_fails
set_option maxRecDepth 20000 in
theorem ggX11_sendShort_X11_draftSum : GoodIn wsX11_sendShort wsX11_draftSum := goodIn_r _ [60, 2, 3, 61, 62, 63, 16, 64, 65, 66, 85, 86, 87, 88, 89, 90, 91, 92, 93, 94, 95, 96, 97, 98, 99, 100, 101, 102, 103, 104, 105, 106, 107, 108, 109, 110, 111, 112, 113, 114, 115, 116, 117, 118, 119, 120, 121, 122, 123, 124, 125, 126, 127, 128, 129, 130, 131, 132, 133, 134, 135, 136, 137, 138, 139, 140, 141, 142] (by decide +kernel) (by decide +kernel)
set_option maxRecDepth 20000 in
theorem gX11_sendShort_X11_draftSum : GoodIn wsX11_sendShort (wsV RX11 228 RX11 yX11_draftSum wsX11_draftSum) := goodIn_app (goodIn_of _ (by decide +kernel)) ggX11_sendShort_X11_draftSum
set_option maxRecDepth 20000 in
theorem ggX11_sendShort_X11_laid : GoodIn wsX11_sendShort wsX11_laid := goodIn_r _ [70, 5, 71, 72, 73, 19, 74, 18, 75, 76, 77, 24, 78, 79, 80, 81, 82, 83, 16, 84, 85, 86, 87, 88, 89, 90, 91, 92, 93, 94, 95, 96, 97, 98, 99, 100, 101, 102, 103, 104, 105, 106, 107, 108, 109, 110, 111, 112, 113, 114, 115, 116, 117, 118, 119, 120, 121, 122, 123, 124, 125, 126, 127, 128, 129, 130, 131, 132, 133, 134, 135, 136, 137, 138, 139, 140, 141, 142] (by decide +kernel) (by decide +kernel)
set_option maxRecDepth 20000 in
theorem gX11_sendShort_X11_laid : GoodIn wsX11_sendShort (wsV RX11 220 RX11 yX11_laid wsX11_laid) := goodIn_app (goodIn_of _ (by decide +kernel)) ggX11_sendShort_X11_laid
theorem dX11_sendShort_0 : decode cX11_sendShort 0 = .ok (.aload_n 0, 1) := by decide +kernel
theorem dX11_sendShort_1 : decode cX11_sendShort 1 = .ok (.iconst 2, 1) := by decide +kernel
theorem dX11_sendShort_2 : decode cX11_sendShort 2 = .ok (.iload_n 1, 1) := by decide +kernel
theorem dX11_sendShort_3 : decode cX11_sendShort 3 = .ok (.iload_n 2, 1) := by decide +kernel
theorem dX11_sendShort_4 : decode cX11_sendShort 4 = .ok (.invokevirtual 216, 3) := by decide +kernel
theorem dX11_sendShort_7 : decode cX11_sendShort 7 = .ok (.aload_n 0, 1) := by decide +kernel
theorem dX11_sendShort_8 : decode cX11_sendShort 8 = .ok (.aload_n 0, 1) := by decide +kernel
theorem dX11_sendShort_9 : decode cX11_sendShort 9 = .ok (.getfield 29, 3) := by decide +kernel
theorem dX11_sendShort_12 : decode cX11_sendShort 12 = .ok (.iload_n 1, 1) := by decide +kernel
theorem dX11_sendShort_13 : decode cX11_sendShort 13 = .ok (.iaload, 1) := by decide +kernel
theorem dX11_sendShort_14 : decode cX11_sendShort 14 = .ok (.i2l, 1) := by decide +kernel
theorem dX11_sendShort_15 : decode cX11_sendShort 15 = .ok (.iconst 4, 1) := by decide +kernel
theorem dX11_sendShort_16 : decode cX11_sendShort 16 = .ok (.invokevirtual 212, 3) := by decide +kernel
theorem dX11_sendShort_19 : decode cX11_sendShort 19 = .ok (.iconst 0, 1) := by decide +kernel
theorem dX11_sendShort_20 : decode cX11_sendShort 20 = .ok (.istore_n 3, 1) := by decide +kernel
theorem dX11_sendShort_21 : decode cX11_sendShort 21 = .ok (.iload_n 3, 1) := by decide +kernel
theorem dX11_sendShort_22 : decode cX11_sendShort 22 = .ok (.aload_n 0, 1) := by decide +kernel
theorem dX11_sendShort_23 : decode cX11_sendShort 23 = .ok (.getfield 148, 3) := by decide +kernel
theorem dX11_sendShort_26 : decode cX11_sendShort 26 = .ok (.if_icmp .ge 129, 3) := by decide +kernel
theorem dX11_sendShort_29 : decode cX11_sendShort 29 = .ok (.aload_n 0, 1) := by decide +kernel
theorem dX11_sendShort_30 : decode cX11_sendShort 30 = .ok (.iload_n 3, 1) := by decide +kernel
theorem dX11_sendShort_31 : decode cX11_sendShort 31 = .ok (.invokevirtual 178, 3) := by decide +kernel
theorem dX11_sendShort_34 : decode cX11_sendShort 34 = .ok (.ifCond .eq 89, 3) := by decide +kernel
theorem dX11_sendShort_37 : decode cX11_sendShort 37 = .ok (.iconst 0, 1) := by decide +kernel
theorem dX11_sendShort_38 : decode cX11_sendShort 38 = .ok (.istore 4, 2) := by decide +kernel
theorem dX11_sendShort_40 : decode cX11_sendShort 40 = .ok (.aload_n 0, 1) := by decide +kernel
theorem dX11_sendShort_41 : decode cX11_sendShort 41 = .ok (.iload_n 1, 1) := by decide +kernel
theorem dX11_sendShort_42 : decode cX11_sendShort 42 = .ok (.iload_n 3, 1) := by decide +kernel
theorem dX11_sendShort_43 : decode cX11_sendShort 43 = .ok (.iload_n 2, 1) := by decide +kernel
theorem dX11_sendShort_44 : decode cX11_sendShort 44 = .ok (.iload 4, 2) := by decide +kernel
theorem dX11_sendShort_46 : decode cX11_sendShort 46 = .ok (.invokevirtual 232, 3) := by decide +kernel
theorem dX11_sendShort_49 : decode cX11_sendShort 49 = .ok (.ifCond .ne 9, 3) := by decide +kernel
theorem dX11_sendShort_52 : decode cX11_sendShort 52 = .ok (.iinc 4 1, 3) := by decide +kernel
theorem dX11_sendShort_55 : decode cX11_sendShort 55 = .ok (.goto (-15), 3) := by decide +kernel
theorem dX11_sendShort_58 : decode cX11_sendShort 58 = .ok (.aload_n 0, 1) := by decide +kernel
theorem dX11_sendShort_59 : decode cX11_sendShort 59 = .ok (.iload 4, 2) := by decide +kernel
theorem dX11_sendShort_61 : decode cX11_sendShort 61 = .ok (.i2l, 1) := by decide +kernel
theorem dX11_sendShort_62 : decode cX11_sendShort 62 = .ok (.bipush 6, 2) := by decide +kernel
theorem dX11_sendShort_64 : decode cX11_sendShort 64 = .ok (.invokevirtual 212, 3) := by decide +kernel
theorem dX11_sendShort_67 : decode cX11_sendShort 67 = .ok (.aload_n 0, 1) := by decide +kernel
theorem dX11_sendShort_68 : decode cX11_sendShort 68 = .ok (.aload_n 0, 1) := by decide +kernel
theorem dX11_sendShort_69 : decode cX11_sendShort 69 = .ok (.getfield 23, 3) := by decide +kernel
theorem dX11_sendShort_72 : decode cX11_sendShort 72 = .ok (.iload_n 3, 1) := by decide +kernel
theorem dX11_sendShort_73 : decode cX11_sendShort 73 = .ok (.laload, 1) := by decide +kernel
theorem dX11_sendShort_74 : decode cX11_sendShort 74 = .ok (.iload 4, 2) := by decide +kernel
theorem dX11_sendShort_76 : decode cX11_sendShort 76 = .ok (.invokevirtual 212, 3) := by decide +kernel
theorem dX11_sendShort_79 : decode cX11_sendShort 79 = .ok (.aload_n 0, 1) := by decide +kernel
theorem dX11_sendShort_80 : decode cX11_sendShort 80 = .ok (.getfield 75, 3) := by decide +kernel
theorem dX11_sendShort_83 : decode cX11_sendShort 83 = .ok (.bipush 8, 2) := by decide +kernel
theorem dX11_sendShort_85 : decode cX11_sendShort 85 = .ok (.aload_n 0, 1) := by decide +kernel
theorem dX11_sendShort_86 : decode cX11_sendShort 86 = .ok (.getfield 204, 3) := by decide +kernel
theorem dX11_sendShort_89 : decode cX11_sendShort 89 = .ok (.imul, 1) := by decide +kernel
theorem dX11_sendShort_90 : decode cX11_sendShort 90 = .ok (.iload_n 3, 1) := by decide +kernel
theorem dX11_sendShort_91 : decode cX11_sendShort 91 = .ok (.iadd, 1) := by decide +kernel
theorem dX11_sendShort_92 : decode cX11_sendShort 92 = .ok (.iload 4, 2) := by decide +kernel
theorem dX11_sendShort_94 : decode cX11_sendShort 94 = .ok (.iastore, 1) := by decide +kernel
theorem dX11_sendShort_95 : decode cX11_sendShort 95 = .ok (.aload_n 0, 1) := by decide +kernel
theorem dX11_sendShort_96 : decode cX11_sendShort 96 = .ok (.getfield 78, 3) := by decide +kernel
theorem dX11_sendShort_99 : decode cX11_sendShort 99 = .ok (.bipush 8, 2) := by decide +kernel
theorem dX11_sendShort_101 : decode cX11_sendShort 101 = .ok (.aload_n 0, 1) := by decide +kernel
theorem dX11_sendShort_102 : decode cX11_sendShort 102 = .ok (.getfield 204, 3) := by decide +kernel
theorem dX11_sendShort_105 : decode cX11_sendShort 105 = .ok (.imul, 1) := by decide +kernel
theorem dX11_sendShort_106 : decode cX11_sendShort 106 = .ok (.iload_n 3, 1) := by decide +kernel
theorem dX11_sendShort_107 : decode cX11_sendShort 107 = .ok (.iadd, 1) := by decide +kernel
theorem dX11_sendShort_108 : decode cX11_sendShort 108 = .ok (.aload_n 0, 1) := by decide +kernel
theorem dX11_sendShort_109 : decode cX11_sendShort 109 = .ok (.iload_n 1, 1) := by decide +kernel
theorem dX11_sendShort_110 : decode cX11_sendShort 110 = .ok (.iload_n 3, 1) := by decide +kernel
theorem dX11_sendShort_111 : decode cX11_sendShort 111 = .ok (.iload_n 2, 1) := by decide +kernel
theorem dX11_sendShort_112 : decode cX11_sendShort 112 = .ok (.iload 4, 2) := by decide +kernel
theorem dX11_sendShort_114 : decode cX11_sendShort 114 = .ok (.iconst 1, 1) := by decide +kernel
theorem dX11_sendShort_115 : decode cX11_sendShort 115 = .ok (.isub, 1) := by decide +kernel
theorem dX11_sendShort_116 : decode cX11_sendShort 116 = .ok (.invokevirtual 236, 3) := by decide +kernel
theorem dX11_sendShort_119 : decode cX11_sendShort 119 = .ok (.iastore, 1) := by decide +kernel
theorem dX11_sendShort_120 : decode cX11_sendShort 120 = .ok (.goto 29, 3) := by decide +kernel
theorem dX11_sendShort_123 : decode cX11_sendShort 123 = .ok (.aload_n 0, 1) := by decide +kernel
theorem dX11_sendShort_124 : decode cX11_sendShort 124 = .ok (.getfield 7, 3) := by decide +kernel
theorem dX11_sendShort_127 : decode cX11_sendShort 127 = .ok (.iload_n 3, 1) := by decide +kernel
theorem dX11_sendShort_128 : decode cX11_sendShort 128 = .ok (.iaload, 1) := by decide +kernel
theorem dX11_sendShort_129 : decode cX11_sendShort 129 = .ok (.iconst 4, 1) := by decide +kernel
theorem dX11_sendShort_130 : decode cX11_sendShort 130 = .ok (.if_icmp .ne 19, 3) := by decide +kernel
theorem dX11_sendShort_133 : decode cX11_sendShort 133 = .ok (.aload_n 0, 1) := by decide +kernel
theorem dX11_sendShort_134 : decode cX11_sendShort 134 = .ok (.aload_n 0, 1) := by decide +kernel
theorem dX11_sendShort_135 : decode cX11_sendShort 135 = .ok (.getfield 23, 3) := by decide +kernel
theorem dX11_sendShort_138 : decode cX11_sendShort 138 = .ok (.iload_n 3, 1) := by decide +kernel
theorem dX11_sendShort_139 : decode cX11_sendShort 139 = .ok (.laload, 1) := by decide +kernel
theorem dX11_sendShort_140 : decode cX11_sendShort 140 = .ok (.aload_n 0, 1) := by decide +kernel
theorem dX11_sendShort_141 : decode cX11_sendShort 141 = .ok (.getfield 13, 3) := by decide +kernel
theorem dX11_sendShort_144 : decode cX11_sendShort 144 = .ok (.iload_n 3, 1) := by decide +kernel
theorem dX11_sendShort_145 : decode cX11_sendShort 145 = .ok (.iaload, 1) := by decide +kernel
theorem dX11_sendShort_146 : decode cX11_sendShort 146 = .ok (.invokevirtual 212, 3) := by decide +kernel
theorem dX11_sendShort_149 : decode cX11_sendShort 149 = .ok (.iinc 3 1, 3) := by decide +kernel
theorem dX11_sendShort_152 : decode cX11_sendShort 152 = .ok (.goto (-131), 3) := by decide +kernel
theorem dX11_sendShort_155 : decode cX11_sendShort 155 = .ok (.aload_n 0, 1) := by decide +kernel
theorem dX11_sendShort_156 : decode cX11_sendShort 156 = .ok (.getfield 81, 3) := by decide +kernel
theorem dX11_sendShort_159 : decode cX11_sendShort 159 = .ok (.aload_n 0, 1) := by decide +kernel
theorem dX11_sendShort_160 : decode cX11_sendShort 160 = .ok (.getfield 204, 3) := by decide +kernel
theorem dX11_sendShort_163 : decode cX11_sendShort 163 = .ok (.aload_n 0, 1) := by decide +kernel
theorem dX11_sendShort_164 : decode cX11_sendShort 164 = .ok (.getfield 39, 3) := by decide +kernel
theorem dX11_sendShort_167 : decode cX11_sendShort 167 = .ok (.iload_n 1, 1) := by decide +kernel
theorem dX11_sendShort_168 : decode cX11_sendShort 168 = .ok (.iaload, 1) := by decide +kernel
theorem dX11_sendShort_169 : decode cX11_sendShort 169 = .ok (.iastore, 1) := by decide +kernel
theorem dX11_sendShort_170 : decode cX11_sendShort 170 = .ok (.aload_n 0, 1) := by decide +kernel
theorem dX11_sendShort_171 : decode cX11_sendShort 171 = .ok (.getfield 84, 3) := by decide +kernel
theorem dX11_sendShort_174 : decode cX11_sendShort 174 = .ok (.aload_n 0, 1) := by decide +kernel
theorem dX11_sendShort_175 : decode cX11_sendShort 175 = .ok (.getfield 204, 3) := by decide +kernel
theorem dX11_sendShort_178 : decode cX11_sendShort 178 = .ok (.aload_n 0, 1) := by decide +kernel
theorem dX11_sendShort_179 : decode cX11_sendShort 179 = .ok (.getfield 42, 3) := by decide +kernel
theorem dX11_sendShort_182 : decode cX11_sendShort 182 = .ok (.bipush 9, 2) := by decide +kernel
theorem dX11_sendShort_184 : decode cX11_sendShort 184 = .ok (.iload_n 1, 1) := by decide +kernel
theorem dX11_sendShort_185 : decode cX11_sendShort 185 = .ok (.imul, 1) := by decide +kernel
theorem dX11_sendShort_186 : decode cX11_sendShort 186 = .ok (.iaload, 1) := by decide +kernel
theorem dX11_sendShort_187 : decode cX11_sendShort 187 = .ok (.iastore, 1) := by decide +kernel
theorem dX11_sendShort_188 : decode cX11_sendShort 188 = .ok (.aload_n 0, 1) := by decide +kernel
theorem dX11_sendShort_189 : decode cX11_sendShort 189 = .ok (.aload_n 0, 1) := by decide +kernel
theorem dX11_sendShort_190 : decode cX11_sendShort 190 = .ok (.invokevirtual 228, 3) := by decide +kernel
theorem dX11_sendShort_193 : decode cX11_sendShort 193 = .ok (.i2l, 1) := by decide +kernel
theorem dX11_sendShort_194 : decode cX11_sendShort 194 = .ok (.bipush 8, 2) := by decide +kernel
theorem dX11_sendShort_196 : decode cX11_sendShort 196 = .ok (.invokevirtual 212, 3) := by decide +kernel
theorem dX11_sendShort_199 : decode cX11_sendShort 199 = .ok (.aload_n 0, 1) := by decide +kernel
theorem dX11_sendShort_200 : decode cX11_sendShort 200 = .ok (.iconst 2, 1) := by decide +kernel
theorem dX11_sendShort_201 : decode cX11_sendShort 201 = .ok (.iload_n 1, 1) := by decide +kernel
theorem dX11_sendShort_202 : decode cX11_sendShort 202 = .ok (.iload_n 2, 1) := by decide +kernel
theorem dX11_sendShort_203 : decode cX11_sendShort 203 = .ok (.iconst 0, 1) := by decide +kernel
theorem dX11_sendShort_204 : decode cX11_sendShort 204 = .ok (.invokevirtual 220, 3) := by decide +kernel
theorem dX11_sendShort_207 : decode cX11_sendShort 207 = .ok (.ireturn, 1) := by decide +kernel
set_option maxRecDepth 20000 in
theorem ggX11_send_X11_isFlow : GoodIn wsX11_send wsX11_isFlow := goodIn_r _ [11] (by decide +kernel) (by decide +kernel)
set_option maxRecDepth 20000 in
theorem gX11_send_X11_isFlow : GoodIn wsX11_send (va_wsS RX11 175 yX11_isFlow wsX11_isFlow) := goodIn_app (goodIn_of _ (by decide +kernel)) ggX11_send_X11_isFlow
set_option maxRecDepth 20000 in
theorem ggX11_send_X11_giveAll : GoodIn wsX11_send wsX11_giveAll := goodIn_r _ [15, 7, 16, 17, 18, 19, 10, 20, 5, 21, 22, 23, 24, 25, 26, 27, 28, 29, 30, 31, 32, 33, 34, 116, 117, 118, 119, 120, 121, 122, 123, 124, 125, 126, 127, 128, 129, 130, 131, 132, 133, 134, 135, 136, 137, 138, 139, 140, 141, 142, 143, 144, 145, 146, 147, 148, 149, 150, 151, 152, 153, 154, 155, 156, 157, 158, 159, 160, 161, 162, 163, 164, 165, 166, 167, 168, 169, 170, 171, 172, 173] (by decide +kernel) (by decide +kernel)
set_option maxRecDepth 20000 in
theorem gX11_send_X11_giveAll : GoodIn wsX11_send (wsV RX11 224 RX11 yX11_giveAll wsX11_giveAll) := goodIn_app (goodIn_of _ (by decide +kernel)) ggX11_send_X11_giveAll
set_option maxRecDepth 20000 in
theorem ggX11_send_X11_sendWhole : GoodIn wsX11_send wsX11_sendWhole := goodIn_r _ [38, 39, 7, 6, 3, 16, 30, 25, 40, 41, 42, 10, 43, 44, 45, 46, 47, 48, 49, 50, 51, 52, 53, 54, 5, 55, 56, 57, 58, 2, 59, 60, 61, 62, 63, 64, 65, 66, 67, 68, 69, 70, 71, 72, 116, 117, 118, 119, 120, 121, 122, 123, 124, 125, 126, 127, 128, 129, 130, 131, 132, 133, 134, 135, 136, 137, 138, 139, 140, 141, 142, 143, 144, 145, 146, 147, 148, 149, 150, 151, 152, 153, 154, 155, 156, 157, 158, 159, 160, 161, 162, 163, 164, 165, 166, 167, 168, 169, 170, 171, 172, 173] (by decide +kernel) (by decide +kernel)
set_option maxRecDepth 20000 in
theorem gX11_send_X11_sendWhole : GoodIn wsX11_send (wsV RX11 240 RX11 yX11_sendWhole wsX11_sendWhole) := goodIn_app (goodIn_of _ (by decide +kernel)) ggX11_send_X11_sendWhole
set_option maxRecDepth 20000 in
theorem ggX11_send_X11_sendShort : GoodIn wsX11_send wsX11_sendShort := goodIn_r _ [76, 39, 3, 16, 77, 2, 78, 5, 30, 79, 7, 80, 24, 40, 41, 42, 10, 43, 44, 45, 46, 47, 48, 49, 50, 51, 52, 53, 54, 81, 82, 83, 84, 17, 18, 19, 20, 21, 22, 23, 25, 26, 27, 28, 29, 31, 32, 33, 34, 85, 86, 87, 88, 89, 90, 91, 92, 93, 94, 95, 96, 97, 98, 99, 100, 101, 102, 55, 56, 57, 58, 59, 60, 61, 62, 63, 64, 65, 66, 67, 68, 69, 70, 71, 72, 116, 117, 118, 119, 120, 121, 122, 123, 124, 125, 126, 127, 128, 129, 130, 131, 132, 133, 134, 135, 136, 137, 138, 139, 140, 141, 142, 143, 144, 145, 146, 147, 148, 149, 150, 151, 152, 153, 154, 155, 156, 157, 158, 159, 160, 161, 162, 163, 164, 165, 166, 167, 168, 169, 170, 171, 172, 173] (by decide +kernel) (by decide +kernel)
set_option maxRecDepth 20000 in
theorem gX11_send_X11_sendShort : GoodIn wsX11_send (wsV RX11 243 RX11 yX11_sendShort wsX11_sendShort) := goodIn_app (goodIn_of _ (by decide +kernel)) ggX11_send_X11_sendShort
set_option maxRecDepth 20000 in
theorem ggX11_send_X11_sendPart : GoodIn wsX11_send wsX11_sendPart := goodIn_r _ [106, 39, 3, 5, 16, 30, 40, 41, 42, 10, 43, 44, 45, 46, 47, 48, 49, 50, 12, 13, 14, 15, 7, 17, 18, 19, 20, 21, 22, 23, 24, 25, 26, 27, 28, 29, 31, 32, 33, 34, 93, 94, 95, 96, 97, 98, 99, 100, 101, 102, 55, 56, 57, 58, 2, 59, 60, 61, 62, 63, 64, 65, 66, 67, 68, 69, 70, 71, 72, 116, 117, 118, 119, 120, 121, 122, 123, 124, 125, 126, 127, 128, 129, 130, 131, 132, 133, 134, 135, 136, 137, 138, 139, 140, 141, 142, 143, 144, 145, 146, 147, 148, 149, 150, 151, 152, 153, 154, 155, 156, 157, 158, 159, 160, 161, 162, 163, 164, 165, 166, 167, 168, 169, 170, 171, 172, 173] (by decide +kernel) (by decide +kernel)
set_option maxRecDepth 20000 in
theorem gX11_send_X11_sendPart : GoodIn wsX11_send (wsV RX11 246 RX11 yX11_sendPart wsX11_sendPart) := goodIn_app (goodIn_of _ (by decide +kernel)) ggX11_send_X11_sendPart
set_option maxRecDepth 20000 in
theorem ggX11_send_X11_refer : GoodIn wsX11_send wsX11_refer := goodIn_r _ [110, 7, 24, 3, 23, 16, 111, 112, 113, 114, 10, 115, 116, 117, 118, 119, 120, 121, 122, 123, 124, 125, 126, 127, 128, 129, 130, 131, 132, 133, 134, 135, 136, 137, 138, 139, 140, 141, 142, 143, 144, 145, 146, 147, 148, 149, 150, 151, 152, 153, 154, 155, 156, 157, 158, 159, 160, 161, 162, 163, 164, 165, 166, 167, 168, 169, 170, 171, 172, 173] (by decide +kernel) (by decide +kernel)
set_option maxRecDepth 20000 in
theorem gX11_send_X11_refer : GoodIn wsX11_send (wsV RX11 249 RX11 yX11_refer wsX11_refer) := goodIn_app (goodIn_of _ (by decide +kernel)) ggX11_send_X11_refer
theorem dX11_send_0 : decode cX11_send 0 = .ok (.aload_n 0, 1) := by decide +kernel
theorem dX11_send_1 : decode cX11_send 1 = .ok (.iconst 0, 1) := by decide +kernel
theorem dX11_send_2 : decode cX11_send 2 = .ok (.putfield 145, 3) := by decide +kernel
theorem dX11_send_5 : decode cX11_send 5 = .ok (.iload_n 1, 1) := by decide +kernel
theorem dX11_send_6 : decode cX11_send 6 = .ok (.invokestatic 175, 3) := by decide +kernel
theorem dX11_send_9 : decode cX11_send 9 = .ok (.ifCond .ne 5, 3) := by decide +kernel
theorem dX11_send_12 : decode cX11_send 12 = .ok (.iconst (-1), 1) := by decide +kernel
theorem dX11_send_13 : decode cX11_send 13 = .ok (.ireturn, 1) := by decide +kernel
theorem dX11_send_14 : decode cX11_send 14 = .ok (.aload_n 0, 1) := by decide +kernel
theorem dX11_send_15 : decode cX11_send 15 = .ok (.getfield 204, 3) := by decide +kernel
theorem dX11_send_18 : decode cX11_send 18 = .ok (.sipush 200, 3) := by decide +kernel
theorem dX11_send_21 : decode cX11_send 21 = .ok (.if_icmp .eq 10, 3) := by decide +kernel
theorem dX11_send_24 : decode cX11_send 24 = .ok (.aload_n 0, 1) := by decide +kernel
theorem dX11_send_25 : decode cX11_send 25 = .ok (.getfield 148, 3) := by decide +kernel
theorem dX11_send_28 : decode cX11_send 28 = .ok (.ifCond .ne 21, 3) := by decide +kernel
theorem dX11_send_31 : decode cX11_send 31 = .ok (.aload_n 0, 1) := by decide +kernel
theorem dX11_send_32 : decode cX11_send 32 = .ok (.getfield 204, 3) := by decide +kernel
theorem dX11_send_35 : decode cX11_send 35 = .ok (.sipush 200, 3) := by decide +kernel
theorem dX11_send_38 : decode cX11_send 38 = .ok (.if_icmp .ne 8, 3) := by decide +kernel
theorem dX11_send_41 : decode cX11_send 41 = .ok (.bipush (-2), 2) := by decide +kernel
theorem dX11_send_43 : decode cX11_send 43 = .ok (.goto 5, 3) := by decide +kernel
theorem dX11_send_46 : decode cX11_send 46 = .ok (.bipush (-3), 2) := by decide +kernel
theorem dX11_send_48 : decode cX11_send 48 = .ok (.ireturn, 1) := by decide +kernel
theorem dX11_send_49 : decode cX11_send 49 = .ok (.aload_n 0, 1) := by decide +kernel
theorem dX11_send_50 : decode cX11_send 50 = .ok (.getfield 26, 3) := by decide +kernel
theorem dX11_send_53 : decode cX11_send 53 = .ok (.iload_n 1, 1) := by decide +kernel
theorem dX11_send_54 : decode cX11_send 54 = .ok (.iaload, 1) := by decide +kernel
theorem dX11_send_55 : decode cX11_send 55 = .ok (.istore_n 3, 1) := by decide +kernel
theorem dX11_send_56 : decode cX11_send 56 = .ok (.aload_n 0, 1) := by decide +kernel
theorem dX11_send_57 : decode cX11_send 57 = .ok (.getfield 26, 3) := by decide +kernel
theorem dX11_send_60 : decode cX11_send 60 = .ok (.iload_n 1, 1) := by decide +kernel
theorem dX11_send_61 : decode cX11_send 61 = .ok (.dup2, 1) := by decide +kernel
theorem dX11_send_62 : decode cX11_send 62 = .ok (.iaload, 1) := by decide +kernel
theorem dX11_send_63 : decode cX11_send 63 = .ok (.iconst 1, 1) := by decide +kernel
theorem dX11_send_64 : decode cX11_send 64 = .ok (.iadd, 1) := by decide +kernel
theorem dX11_send_65 : decode cX11_send 65 = .ok (.iastore, 1) := by decide +kernel
theorem dX11_send_66 : decode cX11_send 66 = .ok (.iconst 1, 1) := by decide +kernel
theorem dX11_send_67 : decode cX11_send 67 = .ok (.istore 4, 2) := by decide +kernel
theorem dX11_send_69 : decode cX11_send 69 = .ok (.iconst 0, 1) := by decide +kernel
theorem dX11_send_70 : decode cX11_send 70 = .ok (.istore 5, 2) := by decide +kernel
theorem dX11_send_72 : decode cX11_send 72 = .ok (.iload 5, 2) := by decide +kernel
theorem dX11_send_74 : decode cX11_send 74 = .ok (.aload_n 0, 1) := by decide +kernel
theorem dX11_send_75 : decode cX11_send 75 = .ok (.getfield 148, 3) := by decide +kernel
theorem dX11_send_78 : decode cX11_send 78 = .ok (.if_icmp .ge 43, 3) := by decide +kernel
theorem dX11_send_81 : decode cX11_send 81 = .ok (.iload 4, 2) := by decide +kernel
theorem dX11_send_83 : decode cX11_send 83 = .ok (.ifCond .eq 29, 3) := by decide +kernel
theorem dX11_send_86 : decode cX11_send 86 = .ok (.aload_n 0, 1) := by decide +kernel
theorem dX11_send_87 : decode cX11_send 87 = .ok (.getfield 7, 3) := by decide +kernel
theorem dX11_send_90 : decode cX11_send 90 = .ok (.iload 5, 2) := by decide +kernel
theorem dX11_send_92 : decode cX11_send 92 = .ok (.iaload, 1) := by decide +kernel
theorem dX11_send_93 : decode cX11_send 93 = .ok (.iconst 1, 1) := by decide +kernel
theorem dX11_send_94 : decode cX11_send 94 = .ok (.if_icmp .gt 14, 3) := by decide +kernel
theorem dX11_send_97 : decode cX11_send 97 = .ok (.aload_n 0, 1) := by decide +kernel
theorem dX11_send_98 : decode cX11_send 98 = .ok (.iload_n 1, 1) := by decide +kernel
theorem dX11_send_99 : decode cX11_send 99 = .ok (.iload 5, 2) := by decide +kernel
theorem dX11_send_101 : decode cX11_send 101 = .ok (.iload_n 3, 1) := by decide +kernel
theorem dX11_send_102 : decode cX11_send 102 = .ok (.invokevirtual 224, 3) := by decide +kernel
theorem dX11_send_105 : decode cX11_send 105 = .ok (.ifCond .eq 7, 3) := by decide +kernel
theorem dX11_send_108 : decode cX11_send 108 = .ok (.iconst 1, 1) := by decide +kernel
theorem dX11_send_109 : decode cX11_send 109 = .ok (.goto 4, 3) := by decide +kernel
theorem dX11_send_112 : decode cX11_send 112 = .ok (.iconst 0, 1) := by decide +kernel
theorem dX11_send_113 : decode cX11_send 113 = .ok (.istore 4, 2) := by decide +kernel
theorem dX11_send_115 : decode cX11_send 115 = .ok (.iinc 5 1, 3) := by decide +kernel
theorem dX11_send_118 : decode cX11_send 118 = .ok (.goto (-46), 3) := by decide +kernel
theorem dX11_send_121 : decode cX11_send 121 = .ok (.iload_n 2, 1) := by decide +kernel
theorem dX11_send_122 : decode cX11_send 122 = .ok (.ifCond .ne 21, 3) := by decide +kernel
theorem dX11_send_125 : decode cX11_send 125 = .ok (.aload_n 0, 1) := by decide +kernel
theorem dX11_send_126 : decode cX11_send 126 = .ok (.getfield 35, 3) := by decide +kernel
theorem dX11_send_129 : decode cX11_send 129 = .ok (.iload_n 1, 1) := by decide +kernel
theorem dX11_send_130 : decode cX11_send 130 = .ok (.baload, 1) := by decide +kernel
theorem dX11_send_131 : decode cX11_send 131 = .ok (.ifCond .ne 12, 3) := by decide +kernel
theorem dX11_send_134 : decode cX11_send 134 = .ok (.aload_n 0, 1) := by decide +kernel
theorem dX11_send_135 : decode cX11_send 135 = .ok (.getfield 39, 3) := by decide +kernel
theorem dX11_send_138 : decode cX11_send 138 = .ok (.iload_n 1, 1) := by decide +kernel
theorem dX11_send_139 : decode cX11_send 139 = .ok (.iaload, 1) := by decide +kernel
theorem dX11_send_140 : decode cX11_send 140 = .ok (.ifCond .ne 7, 3) := by decide +kernel
theorem dX11_send_143 : decode cX11_send 143 = .ok (.iconst 1, 1) := by decide +kernel
theorem dX11_send_144 : decode cX11_send 144 = .ok (.goto 4, 3) := by decide +kernel
theorem dX11_send_147 : decode cX11_send 147 = .ok (.iconst 0, 1) := by decide +kernel
theorem dX11_send_148 : decode cX11_send 148 = .ok (.istore 5, 2) := by decide +kernel
theorem dX11_send_150 : decode cX11_send 150 = .ok (.iload 5, 2) := by decide +kernel
theorem dX11_send_152 : decode cX11_send 152 = .ok (.ifCond .eq 12, 3) := by decide +kernel
theorem dX11_send_155 : decode cX11_send 155 = .ok (.aload_n 0, 1) := by decide +kernel
theorem dX11_send_156 : decode cX11_send 156 = .ok (.iload_n 1, 1) := by decide +kernel
theorem dX11_send_157 : decode cX11_send 157 = .ok (.iload_n 3, 1) := by decide +kernel
theorem dX11_send_158 : decode cX11_send 158 = .ok (.invokevirtual 240, 3) := by decide +kernel
theorem dX11_send_161 : decode cX11_send 161 = .ok (.goto 23, 3) := by decide +kernel
theorem dX11_send_164 : decode cX11_send 164 = .ok (.iload 4, 2) := by decide +kernel
theorem dX11_send_166 : decode cX11_send 166 = .ok (.ifCond .eq 12, 3) := by decide +kernel
theorem dX11_send_169 : decode cX11_send 169 = .ok (.aload_n 0, 1) := by decide +kernel
theorem dX11_send_170 : decode cX11_send 170 = .ok (.iload_n 1, 1) := by decide +kernel
theorem dX11_send_171 : decode cX11_send 171 = .ok (.iload_n 3, 1) := by decide +kernel
theorem dX11_send_172 : decode cX11_send 172 = .ok (.invokevirtual 243, 3) := by decide +kernel
theorem dX11_send_175 : decode cX11_send 175 = .ok (.goto 9, 3) := by decide +kernel
theorem dX11_send_178 : decode cX11_send 178 = .ok (.aload_n 0, 1) := by decide +kernel
theorem dX11_send_179 : decode cX11_send 179 = .ok (.iload_n 1, 1) := by decide +kernel
theorem dX11_send_180 : decode cX11_send 180 = .ok (.iload_n 3, 1) := by decide +kernel
theorem dX11_send_181 : decode cX11_send 181 = .ok (.invokevirtual 246, 3) := by decide +kernel
theorem dX11_send_184 : decode cX11_send 184 = .ok (.istore 6, 2) := by decide +kernel
theorem dX11_send_186 : decode cX11_send 186 = .ok (.aload_n 0, 1) := by decide +kernel
theorem dX11_send_187 : decode cX11_send 187 = .ok (.iload_n 1, 1) := by decide +kernel
theorem dX11_send_188 : decode cX11_send 188 = .ok (.iload_n 3, 1) := by decide +kernel
theorem dX11_send_189 : decode cX11_send 189 = .ok (.invokevirtual 249, 3) := by decide +kernel
theorem dX11_send_192 : decode cX11_send 192 = .ok (.iload 6, 2) := by decide +kernel
theorem dX11_send_194 : decode cX11_send 194 = .ok (.ireturn, 1) := by decide +kernel
set_option maxRecDepth 20000 in
theorem ggX11_refer_X11_drop : GoodIn wsX11_refer wsX11_drop := goodIn_r _ [11, 1, 2, 3, 4, 12, 13, 14, 15, 16, 17, 18, 19, 20, 21, 22, 23, 24, 25, 26, 27, 28, 29, 30, 31, 32, 33, 34, 35, 36, 37, 38, 39, 40, 41, 42, 43, 44, 45, 46, 47, 48, 49, 50, 51, 52, 53, 54, 55, 56, 57, 58, 59, 60, 61, 62, 63, 64, 65, 66, 67, 68, 69] (by decide +kernel) (by decide +kernel)
set_option maxRecDepth 20000 in
theorem gX11_refer_X11_drop : GoodIn wsX11_refer (wsV RX11 253 RX11 yX11_drop wsX11_drop) := goodIn_app (goodIn_of _ (by decide +kernel)) ggX11_refer_X11_drop
theorem dX11_refer_0 : decode cX11_refer 0 = .ok (.bipush 9, 2) := by decide +kernel
theorem dX11_refer_2 : decode cX11_refer 2 = .ok (.iload_n 1, 1) := by decide +kernel
theorem dX11_refer_3 : decode cX11_refer 3 = .ok (.imul, 1) := by decide +kernel
theorem dX11_refer_4 : decode cX11_refer 4 = .ok (.aload_n 0, 1) := by decide +kernel
theorem dX11_refer_5 : decode cX11_refer 5 = .ok (.getfield 39, 3) := by decide +kernel
theorem dX11_refer_8 : decode cX11_refer 8 = .ok (.iload_n 1, 1) := by decide +kernel
theorem dX11_refer_9 : decode cX11_refer 9 = .ok (.iaload, 1) := by decide +kernel
theorem dX11_refer_10 : decode cX11_refer 10 = .ok (.iadd, 1) := by decide +kernel
theorem dX11_refer_11 : decode cX11_refer 11 = .ok (.istore_n 3, 1) := by decide +kernel
theorem dX11_refer_12 : decode cX11_refer 12 = .ok (.aload_n 0, 1) := by decide +kernel
theorem dX11_refer_13 : decode cX11_refer 13 = .ok (.getfield 42, 3) := by decide +kernel
theorem dX11_refer_16 : decode cX11_refer 16 = .ok (.iload_n 3, 1) := by decide +kernel
theorem dX11_refer_17 : decode cX11_refer 17 = .ok (.iload_n 2, 1) := by decide +kernel
theorem dX11_refer_18 : decode cX11_refer 18 = .ok (.iastore, 1) := by decide +kernel
theorem dX11_refer_19 : decode cX11_refer 19 = .ok (.iconst 0, 1) := by decide +kernel
theorem dX11_refer_20 : decode cX11_refer 20 = .ok (.istore 4, 2) := by decide +kernel
theorem dX11_refer_22 : decode cX11_refer 22 = .ok (.iload 4, 2) := by decide +kernel
theorem dX11_refer_24 : decode cX11_refer 24 = .ok (.aload_n 0, 1) := by decide +kernel
theorem dX11_refer_25 : decode cX11_refer 25 = .ok (.getfield 148, 3) := by decide +kernel
theorem dX11_refer_28 : decode cX11_refer 28 = .ok (.if_icmp .ge 28, 3) := by decide +kernel
theorem dX11_refer_31 : decode cX11_refer 31 = .ok (.aload_n 0, 1) := by decide +kernel
theorem dX11_refer_32 : decode cX11_refer 32 = .ok (.getfield 45, 3) := by decide +kernel
theorem dX11_refer_35 : decode cX11_refer 35 = .ok (.bipush 8, 2) := by decide +kernel
theorem dX11_refer_37 : decode cX11_refer 37 = .ok (.iload_n 3, 1) := by decide +kernel
theorem dX11_refer_38 : decode cX11_refer 38 = .ok (.imul, 1) := by decide +kernel
theorem dX11_refer_39 : decode cX11_refer 39 = .ok (.iload 4, 2) := by decide +kernel
theorem dX11_refer_41 : decode cX11_refer 41 = .ok (.iadd, 1) := by decide +kernel
theorem dX11_refer_42 : decode cX11_refer 42 = .ok (.aload_n 0, 1) := by decide +kernel
theorem dX11_refer_43 : decode cX11_refer 43 = .ok (.getfield 23, 3) := by decide +kernel
theorem dX11_refer_46 : decode cX11_refer 46 = .ok (.iload 4, 2) := by decide +kernel
theorem dX11_refer_48 : decode cX11_refer 48 = .ok (.laload, 1) := by decide +kernel
theorem dX11_refer_49 : decode cX11_refer 49 = .ok (.lastore, 1) := by decide +kernel
theorem dX11_refer_50 : decode cX11_refer 50 = .ok (.iinc 4 1, 3) := by decide +kernel
theorem dX11_refer_53 : decode cX11_refer 53 = .ok (.goto (-31), 3) := by decide +kernel
theorem dX11_refer_56 : decode cX11_refer 56 = .ok (.aload_n 0, 1) := by decide +kernel
theorem dX11_refer_57 : decode cX11_refer 57 = .ok (.getfield 39, 3) := by decide +kernel
theorem dX11_refer_60 : decode cX11_refer 60 = .ok (.iload_n 1, 1) := by decide +kernel
theorem dX11_refer_61 : decode cX11_refer 61 = .ok (.dup2, 1) := by decide +kernel
theorem dX11_refer_62 : decode cX11_refer 62 = .ok (.iaload, 1) := by decide +kernel
theorem dX11_refer_63 : decode cX11_refer 63 = .ok (.iconst 1, 1) := by decide +kernel
theorem dX11_refer_64 : decode cX11_refer 64 = .ok (.iadd, 1) := by decide +kernel
theorem dX11_refer_65 : decode cX11_refer 65 = .ok (.iastore, 1) := by decide +kernel
theorem dX11_refer_66 : decode cX11_refer 66 = .ok (.aload_n 0, 1) := by decide +kernel
theorem dX11_refer_67 : decode cX11_refer 67 = .ok (.getfield 39, 3) := by decide +kernel
theorem dX11_refer_70 : decode cX11_refer 70 = .ok (.iload_n 1, 1) := by decide +kernel
theorem dX11_refer_71 : decode cX11_refer 71 = .ok (.iaload, 1) := by decide +kernel
theorem dX11_refer_72 : decode cX11_refer 72 = .ok (.aload_n 0, 1) := by decide +kernel
theorem dX11_refer_73 : decode cX11_refer 73 = .ok (.getfield 141, 3) := by decide +kernel
theorem dX11_refer_76 : decode cX11_refer 76 = .ok (.if_icmp .le 9, 3) := by decide +kernel
theorem dX11_refer_79 : decode cX11_refer 79 = .ok (.aload_n 0, 1) := by decide +kernel
theorem dX11_refer_80 : decode cX11_refer 80 = .ok (.iload_n 1, 1) := by decide +kernel
theorem dX11_refer_81 : decode cX11_refer 81 = .ok (.iconst 1, 1) := by decide +kernel
theorem dX11_refer_82 : decode cX11_refer 82 = .ok (.invokevirtual 253, 3) := by decide +kernel
theorem dX11_refer_85 : decode cX11_refer 85 = .ok (.return_, 1) := by decide +kernel
theorem dX11_drop_0 : decode cX11_drop 0 = .ok (.aload_n 0, 1) := by decide +kernel
theorem dX11_drop_1 : decode cX11_drop 1 = .ok (.getfield 39, 3) := by decide +kernel
theorem dX11_drop_4 : decode cX11_drop 4 = .ok (.iload_n 1, 1) := by decide +kernel
theorem dX11_drop_5 : decode cX11_drop 5 = .ok (.dup2, 1) := by decide +kernel
theorem dX11_drop_6 : decode cX11_drop 6 = .ok (.iaload, 1) := by decide +kernel
theorem dX11_drop_7 : decode cX11_drop 7 = .ok (.iload_n 2, 1) := by decide +kernel
theorem dX11_drop_8 : decode cX11_drop 8 = .ok (.isub, 1) := by decide +kernel
theorem dX11_drop_9 : decode cX11_drop 9 = .ok (.iastore, 1) := by decide +kernel
theorem dX11_drop_10 : decode cX11_drop 10 = .ok (.iconst 0, 1) := by decide +kernel
theorem dX11_drop_11 : decode cX11_drop 11 = .ok (.istore_n 3, 1) := by decide +kernel
theorem dX11_drop_12 : decode cX11_drop 12 = .ok (.iload_n 3, 1) := by decide +kernel
theorem dX11_drop_13 : decode cX11_drop 13 = .ok (.aload_n 0, 1) := by decide +kernel
theorem dX11_drop_14 : decode cX11_drop 14 = .ok (.getfield 39, 3) := by decide +kernel
theorem dX11_drop_17 : decode cX11_drop 17 = .ok (.iload_n 1, 1) := by decide +kernel
theorem dX11_drop_18 : decode cX11_drop 18 = .ok (.iaload, 1) := by decide +kernel
theorem dX11_drop_19 : decode cX11_drop 19 = .ok (.if_icmp .ge 82, 3) := by decide +kernel
theorem dX11_drop_22 : decode cX11_drop 22 = .ok (.bipush 9, 2) := by decide +kernel
theorem dX11_drop_24 : decode cX11_drop 24 = .ok (.iload_n 1, 1) := by decide +kernel
theorem dX11_drop_25 : decode cX11_drop 25 = .ok (.imul, 1) := by decide +kernel
theorem dX11_drop_26 : decode cX11_drop 26 = .ok (.iload_n 3, 1) := by decide +kernel
theorem dX11_drop_27 : decode cX11_drop 27 = .ok (.iadd, 1) := by decide +kernel
theorem dX11_drop_28 : decode cX11_drop 28 = .ok (.istore 4, 2) := by decide +kernel
theorem dX11_drop_30 : decode cX11_drop 30 = .ok (.aload_n 0, 1) := by decide +kernel
theorem dX11_drop_31 : decode cX11_drop 31 = .ok (.getfield 42, 3) := by decide +kernel
theorem dX11_drop_34 : decode cX11_drop 34 = .ok (.iload 4, 2) := by decide +kernel
theorem dX11_drop_36 : decode cX11_drop 36 = .ok (.aload_n 0, 1) := by decide +kernel
theorem dX11_drop_37 : decode cX11_drop 37 = .ok (.getfield 42, 3) := by decide +kernel
theorem dX11_drop_40 : decode cX11_drop 40 = .ok (.iload 4, 2) := by decide +kernel
theorem dX11_drop_42 : decode cX11_drop 42 = .ok (.iload_n 2, 1) := by decide +kernel
theorem dX11_drop_43 : decode cX11_drop 43 = .ok (.iadd, 1) := by decide +kernel
theorem dX11_drop_44 : decode cX11_drop 44 = .ok (.iaload, 1) := by decide +kernel
theorem dX11_drop_45 : decode cX11_drop 45 = .ok (.iastore, 1) := by decide +kernel
theorem dX11_drop_46 : decode cX11_drop 46 = .ok (.iconst 0, 1) := by decide +kernel
theorem dX11_drop_47 : decode cX11_drop 47 = .ok (.istore 5, 2) := by decide +kernel
theorem dX11_drop_49 : decode cX11_drop 49 = .ok (.iload 5, 2) := by decide +kernel
theorem dX11_drop_51 : decode cX11_drop 51 = .ok (.aload_n 0, 1) := by decide +kernel
theorem dX11_drop_52 : decode cX11_drop 52 = .ok (.getfield 148, 3) := by decide +kernel
theorem dX11_drop_55 : decode cX11_drop 55 = .ok (.if_icmp .ge 40, 3) := by decide +kernel
theorem dX11_drop_58 : decode cX11_drop 58 = .ok (.aload_n 0, 1) := by decide +kernel
theorem dX11_drop_59 : decode cX11_drop 59 = .ok (.getfield 45, 3) := by decide +kernel
theorem dX11_drop_62 : decode cX11_drop 62 = .ok (.bipush 8, 2) := by decide +kernel
theorem dX11_drop_64 : decode cX11_drop 64 = .ok (.iload 4, 2) := by decide +kernel
theorem dX11_drop_66 : decode cX11_drop 66 = .ok (.imul, 1) := by decide +kernel
theorem dX11_drop_67 : decode cX11_drop 67 = .ok (.iload 5, 2) := by decide +kernel
theorem dX11_drop_69 : decode cX11_drop 69 = .ok (.iadd, 1) := by decide +kernel
theorem dX11_drop_70 : decode cX11_drop 70 = .ok (.aload_n 0, 1) := by decide +kernel
theorem dX11_drop_71 : decode cX11_drop 71 = .ok (.getfield 45, 3) := by decide +kernel
theorem dX11_drop_74 : decode cX11_drop 74 = .ok (.bipush 8, 2) := by decide +kernel
theorem dX11_drop_76 : decode cX11_drop 76 = .ok (.iload 4, 2) := by decide +kernel
theorem dX11_drop_78 : decode cX11_drop 78 = .ok (.imul, 1) := by decide +kernel
theorem dX11_drop_79 : decode cX11_drop 79 = .ok (.bipush 8, 2) := by decide +kernel
theorem dX11_drop_81 : decode cX11_drop 81 = .ok (.iload_n 2, 1) := by decide +kernel
theorem dX11_drop_82 : decode cX11_drop 82 = .ok (.imul, 1) := by decide +kernel
theorem dX11_drop_83 : decode cX11_drop 83 = .ok (.iadd, 1) := by decide +kernel
theorem dX11_drop_84 : decode cX11_drop 84 = .ok (.iload 5, 2) := by decide +kernel
theorem dX11_drop_86 : decode cX11_drop 86 = .ok (.iadd, 1) := by decide +kernel
theorem dX11_drop_87 : decode cX11_drop 87 = .ok (.laload, 1) := by decide +kernel
theorem dX11_drop_88 : decode cX11_drop 88 = .ok (.lastore, 1) := by decide +kernel
theorem dX11_drop_89 : decode cX11_drop 89 = .ok (.iinc 5 1, 3) := by decide +kernel
theorem dX11_drop_92 : decode cX11_drop 92 = .ok (.goto (-43), 3) := by decide +kernel
theorem dX11_drop_95 : decode cX11_drop 95 = .ok (.iinc 3 1, 3) := by decide +kernel
theorem dX11_drop_98 : decode cX11_drop 98 = .ok (.goto (-86), 3) := by decide +kernel
theorem dX11_drop_101 : decode cX11_drop 101 = .ok (.return_, 1) := by decide +kernel
set_option maxRecDepth 20000 in
theorem ggX11_ack_X11_isFlow : GoodIn wsX11_ack wsX11_isFlow := goodIn_r _ [8] (by decide +kernel) (by decide +kernel)
set_option maxRecDepth 20000 in
theorem gX11_ack_X11_isFlow : GoodIn wsX11_ack (va_wsS RX11 175 yX11_isFlow wsX11_isFlow) := goodIn_app (goodIn_of _ (by decide +kernel)) ggX11_ack_X11_isFlow
set_option maxRecDepth 20000 in
theorem ggX11_ack_X11_head : GoodIn wsX11_ack wsX11_head := goodIn_r _ [12, 13, 14, 15, 16, 17, 7, 18, 19, 38, 39, 40, 41, 42, 43, 44, 45, 46, 47, 48, 49, 50, 51, 52, 53, 54, 55, 56, 57, 58, 59, 60, 61, 62, 63, 64, 65, 66, 67, 68, 69, 70, 71, 72, 73, 74, 75, 76, 77, 78, 79, 80, 81, 82, 83, 84, 85, 86, 87, 88, 89, 90, 91, 92, 93, 94, 95] (by decide +kernel) (by decide +kernel)
set_option maxRecDepth 20000 in
theorem gX11_ack_X11_head : GoodIn wsX11_ack (wsV RX11 216 RX11 yX11_head wsX11_head) := goodIn_app (goodIn_of _ (by decide +kernel)) ggX11_ack_X11_head
set_option maxRecDepth 20000 in
theorem ggX11_ack_X11_laid : GoodIn wsX11_ack wsX11_laid := goodIn_r _ [23, 2, 24, 25, 26, 14, 27, 13, 28, 29, 30, 19, 31, 32, 33, 34, 35, 36, 7, 37, 38, 39, 40, 41, 42, 43, 44, 45, 46, 47, 48, 49, 50, 51, 52, 53, 54, 55, 56, 57, 58, 59, 60, 61, 62, 63, 64, 65, 66, 67, 68, 69, 70, 71, 72, 73, 74, 75, 76, 77, 78, 79, 80, 81, 82, 83, 84, 85, 86, 87, 88, 89, 90, 91, 92, 93, 94, 95] (by decide +kernel) (by decide +kernel)
set_option maxRecDepth 20000 in
theorem gX11_ack_X11_laid : GoodIn wsX11_ack (wsV RX11 220 RX11 yX11_laid wsX11_laid) := goodIn_app (goodIn_of _ (by decide +kernel)) ggX11_ack_X11_laid
theorem dX11_ack_0 : decode cX11_ack 0 = .ok (.aload_n 0, 1) := by decide +kernel
theorem dX11_ack_1 : decode cX11_ack 1 = .ok (.iconst 0, 1) := by decide +kernel
theorem dX11_ack_2 : decode cX11_ack 2 = .ok (.putfield 145, 3) := by decide +kernel
theorem dX11_ack_5 : decode cX11_ack 5 = .ok (.iload_n 1, 1) := by decide +kernel
theorem dX11_ack_6 : decode cX11_ack 6 = .ok (.invokestatic 175, 3) := by decide +kernel
theorem dX11_ack_9 : decode cX11_ack 9 = .ok (.ifCond .ne 5, 3) := by decide +kernel
theorem dX11_ack_12 : decode cX11_ack 12 = .ok (.iconst (-1), 1) := by decide +kernel
theorem dX11_ack_13 : decode cX11_ack 13 = .ok (.ireturn, 1) := by decide +kernel
theorem dX11_ack_14 : decode cX11_ack 14 = .ok (.aload_n 0, 1) := by decide +kernel
theorem dX11_ack_15 : decode cX11_ack 15 = .ok (.getfield 204, 3) := by decide +kernel
theorem dX11_ack_18 : decode cX11_ack 18 = .ok (.sipush 200, 3) := by decide +kernel
theorem dX11_ack_21 : decode cX11_ack 21 = .ok (.if_icmp .ne 6, 3) := by decide +kernel
theorem dX11_ack_24 : decode cX11_ack 24 = .ok (.bipush (-2), 2) := by decide +kernel
theorem dX11_ack_26 : decode cX11_ack 26 = .ok (.ireturn, 1) := by decide +kernel
theorem dX11_ack_27 : decode cX11_ack 27 = .ok (.aload_n 0, 1) := by decide +kernel
theorem dX11_ack_28 : decode cX11_ack 28 = .ok (.getfield 87, 3) := by decide +kernel
theorem dX11_ack_31 : decode cX11_ack 31 = .ok (.iload_n 1, 1) := by decide +kernel
theorem dX11_ack_32 : decode cX11_ack 32 = .ok (.baload, 1) := by decide +kernel
theorem dX11_ack_33 : decode cX11_ack 33 = .ok (.ifCond .ne 6, 3) := by decide +kernel
theorem dX11_ack_36 : decode cX11_ack 36 = .ok (.bipush (-3), 2) := by decide +kernel
theorem dX11_ack_38 : decode cX11_ack 38 = .ok (.ireturn, 1) := by decide +kernel
theorem dX11_ack_39 : decode cX11_ack 39 = .ok (.aload_n 0, 1) := by decide +kernel
theorem dX11_ack_40 : decode cX11_ack 40 = .ok (.iconst 3, 1) := by decide +kernel
theorem dX11_ack_41 : decode cX11_ack 41 = .ok (.iload_n 1, 1) := by decide +kernel
theorem dX11_ack_42 : decode cX11_ack 42 = .ok (.aload_n 0, 1) := by decide +kernel
theorem dX11_ack_43 : decode cX11_ack 43 = .ok (.getfield 90, 3) := by decide +kernel
theorem dX11_ack_46 : decode cX11_ack 46 = .ok (.iload_n 1, 1) := by decide +kernel
theorem dX11_ack_47 : decode cX11_ack 47 = .ok (.iaload, 1) := by decide +kernel
theorem dX11_ack_48 : decode cX11_ack 48 = .ok (.invokevirtual 216, 3) := by decide +kernel
theorem dX11_ack_51 : decode cX11_ack 51 = .ok (.aload_n 0, 1) := by decide +kernel
theorem dX11_ack_52 : decode cX11_ack 52 = .ok (.iconst 3, 1) := by decide +kernel
theorem dX11_ack_53 : decode cX11_ack 53 = .ok (.iload_n 1, 1) := by decide +kernel
theorem dX11_ack_54 : decode cX11_ack 54 = .ok (.aload_n 0, 1) := by decide +kernel
theorem dX11_ack_55 : decode cX11_ack 55 = .ok (.getfield 90, 3) := by decide +kernel
theorem dX11_ack_58 : decode cX11_ack 58 = .ok (.iload_n 1, 1) := by decide +kernel
theorem dX11_ack_59 : decode cX11_ack 59 = .ok (.iaload, 1) := by decide +kernel
theorem dX11_ack_60 : decode cX11_ack 60 = .ok (.iconst 1, 1) := by decide +kernel
theorem dX11_ack_61 : decode cX11_ack 61 = .ok (.invokevirtual 220, 3) := by decide +kernel
theorem dX11_ack_64 : decode cX11_ack 64 = .ok (.ireturn, 1) := by decide +kernel
set_option maxRecDepth 20000 in
theorem ggX11_nack_X11_isFlow : GoodIn wsX11_nack wsX11_isFlow := goodIn_r _ [8] (by decide +kernel) (by decide +kernel)
set_option maxRecDepth 20000 in
theorem gX11_nack_X11_isFlow : GoodIn wsX11_nack (va_wsS RX11 175 yX11_isFlow wsX11_isFlow) := goodIn_app (goodIn_of _ (by decide +kernel)) ggX11_nack_X11_isFlow
set_option maxRecDepth 20000 in
theorem ggX11_nack_X11_head : GoodIn wsX11_nack wsX11_head := goodIn_r _ [12, 13, 14, 15, 16, 17, 7, 18, 19, 38, 39, 40, 41, 42, 43, 44, 45, 46, 47, 48, 49, 50, 51, 52, 53, 54, 55, 56, 57, 58, 59, 60, 61, 62, 63, 64, 65, 66, 67, 68, 69, 70, 71, 72, 73, 74, 75, 76, 77, 78, 79, 80, 81, 82, 83, 84, 85, 86, 87, 88, 89, 90, 91, 92, 93, 94, 95] (by decide +kernel) (by decide +kernel)
set_option maxRecDepth 20000 in
theorem gX11_nack_X11_head : GoodIn wsX11_nack (wsV RX11 216 RX11 yX11_head wsX11_head) := goodIn_app (goodIn_of _ (by decide +kernel)) ggX11_nack_X11_head
set_option maxRecDepth 20000 in
theorem ggX11_nack_X11_laid : GoodIn wsX11_nack wsX11_laid := goodIn_r _ [23, 2, 24, 25, 26, 14, 27, 13, 28, 29, 30, 19, 31, 32, 33, 34, 35, 36, 7, 37, 38, 39, 40, 41, 42, 43, 44, 45, 46, 47, 48, 49, 50, 51, 52, 53, 54, 55, 56, 57, 58, 59, 60, 61, 62, 63, 64, 65, 66, 67, 68, 69, 70, 71, 72, 73, 74, 75, 76, 77, 78, 79, 80, 81, 82, 83, 84, 85, 86, 87, 88, 89, 90, 91, 92, 93, 94, 95] (by decide +kernel) (by decide +kernel)
set_option maxRecDepth 20000 in
theorem gX11_nack_X11_laid : GoodIn wsX11_nack (wsV RX11 220 RX11 yX11_laid wsX11_laid) := goodIn_app (goodIn_of _ (by decide +kernel)) ggX11_nack_X11_laid
theorem dX11_nack_0 : decode cX11_nack 0 = .ok (.aload_n 0, 1) := by decide +kernel
theorem dX11_nack_1 : decode cX11_nack 1 = .ok (.iconst 0, 1) := by decide +kernel
theorem dX11_nack_2 : decode cX11_nack 2 = .ok (.putfield 145, 3) := by decide +kernel
theorem dX11_nack_5 : decode cX11_nack 5 = .ok (.iload_n 1, 1) := by decide +kernel
theorem dX11_nack_6 : decode cX11_nack 6 = .ok (.invokestatic 175, 3) := by decide +kernel
theorem dX11_nack_9 : decode cX11_nack 9 = .ok (.ifCond .ne 5, 3) := by decide +kernel
theorem dX11_nack_12 : decode cX11_nack 12 = .ok (.iconst (-1), 1) := by decide +kernel
theorem dX11_nack_13 : decode cX11_nack 13 = .ok (.ireturn, 1) := by decide +kernel
theorem dX11_nack_14 : decode cX11_nack 14 = .ok (.aload_n 0, 1) := by decide +kernel
theorem dX11_nack_15 : decode cX11_nack 15 = .ok (.getfield 204, 3) := by decide +kernel
theorem dX11_nack_18 : decode cX11_nack 18 = .ok (.sipush 200, 3) := by decide +kernel
theorem dX11_nack_21 : decode cX11_nack 21 = .ok (.if_icmp .ne 6, 3) := by decide +kernel
theorem dX11_nack_24 : decode cX11_nack 24 = .ok (.bipush (-2), 2) := by decide +kernel
theorem dX11_nack_26 : decode cX11_nack 26 = .ok (.ireturn, 1) := by decide +kernel
theorem dX11_nack_27 : decode cX11_nack 27 = .ok (.aload_n 0, 1) := by decide +kernel
theorem dX11_nack_28 : decode cX11_nack 28 = .ok (.getfield 87, 3) := by decide +kernel
theorem dX11_nack_31 : decode cX11_nack 31 = .ok (.iload_n 1, 1) := by decide +kernel
theorem dX11_nack_32 : decode cX11_nack 32 = .ok (.baload, 1) := by decide +kernel
theorem dX11_nack_33 : decode cX11_nack 33 = .ok (.ifCond .eq 7, 3) := by decide +kernel
theorem dX11_nack_36 : decode cX11_nack 36 = .ok (.iconst 4, 1) := by decide +kernel
theorem dX11_nack_37 : decode cX11_nack 37 = .ok (.goto 4, 3) := by decide +kernel
theorem dX11_nack_40 : decode cX11_nack 40 = .ok (.iconst 5, 1) := by decide +kernel
theorem dX11_nack_41 : decode cX11_nack 41 = .ok (.istore_n 2, 1) := by decide +kernel
theorem dX11_nack_42 : decode cX11_nack 42 = .ok (.aload_n 0, 1) := by decide +kernel
theorem dX11_nack_43 : decode cX11_nack 43 = .ok (.getfield 87, 3) := by decide +kernel
theorem dX11_nack_46 : decode cX11_nack 46 = .ok (.iload_n 1, 1) := by decide +kernel
theorem dX11_nack_47 : decode cX11_nack 47 = .ok (.baload, 1) := by decide +kernel
theorem dX11_nack_48 : decode cX11_nack 48 = .ok (.ifCond .eq 14, 3) := by decide +kernel
theorem dX11_nack_51 : decode cX11_nack 51 = .ok (.aload_n 0, 1) := by decide +kernel
theorem dX11_nack_52 : decode cX11_nack 52 = .ok (.getfield 90, 3) := by decide +kernel
theorem dX11_nack_55 : decode cX11_nack 55 = .ok (.iload_n 1, 1) := by decide +kernel
theorem dX11_nack_56 : decode cX11_nack 56 = .ok (.iaload, 1) := by decide +kernel
theorem dX11_nack_57 : decode cX11_nack 57 = .ok (.iconst 1, 1) := by decide +kernel
theorem dX11_nack_58 : decode cX11_nack 58 = .ok (.iadd, 1) := by decide +kernel
theorem dX11_nack_59 : decode cX11_nack 59 = .ok (.goto 4, 3) := by decide +kernel
theorem dX11_nack_62 : decode cX11_nack 62 = .ok (.iconst 0, 1) := by decide +kernel
theorem dX11_nack_63 : decode cX11_nack 63 = .ok (.istore_n 3, 1) := by decide +kernel
theorem dX11_nack_64 : decode cX11_nack 64 = .ok (.aload_n 0, 1) := by decide +kernel
theorem dX11_nack_65 : decode cX11_nack 65 = .ok (.iload_n 2, 1) := by decide +kernel
theorem dX11_nack_66 : decode cX11_nack 66 = .ok (.iload_n 1, 1) := by decide +kernel
theorem dX11_nack_67 : decode cX11_nack 67 = .ok (.iload_n 3, 1) := by decide +kernel
theorem dX11_nack_68 : decode cX11_nack 68 = .ok (.invokevirtual 216, 3) := by decide +kernel
theorem dX11_nack_71 : decode cX11_nack 71 = .ok (.aload_n 0, 1) := by decide +kernel
theorem dX11_nack_72 : decode cX11_nack 72 = .ok (.iload_n 2, 1) := by decide +kernel
theorem dX11_nack_73 : decode cX11_nack 73 = .ok (.iload_n 1, 1) := by decide +kernel
theorem dX11_nack_74 : decode cX11_nack 74 = .ok (.iload_n 3, 1) := by decide +kernel
theorem dX11_nack_75 : decode cX11_nack 75 = .ok (.iconst 1, 1) := by decide +kernel
theorem dX11_nack_76 : decode cX11_nack 76 = .ok (.invokevirtual 220, 3) := by decide +kernel
theorem dX11_nack_79 : decode cX11_nack 79 = .ok (.ireturn, 1) := by decide +kernel
theorem dX11_take_0 : decode cX11_take 0 = .ok (.lconst 0, 1) := by decide +kernel
theorem dX11_take_1 : decode cX11_take 1 = .ok (.lstore_n 3, 1) := by decide +kernel
theorem dX11_take_2 : decode cX11_take 2 = .ok (.iconst 0, 1) := by decide +kernel
theorem dX11_take_3 : decode cX11_take 3 = .ok (.istore 5, 2) := by decide +kernel
theorem dX11_take_5 : decode cX11_take 5 = .ok (.iload 5, 2) := by decide +kernel
theorem dX11_take_7 : decode cX11_take 7 = .ok (.iload_n 2, 1) := by decide +kernel
theorem dX11_take_8 : decode cX11_take 8 = .ok (.if_icmp .ge 75, 3) := by decide +kernel
theorem dX11_take_11 : decode cX11_take 11 = .ok (.aload_n 0, 1) := by decide +kernel
theorem dX11_take_12 : decode cX11_take 12 = .ok (.getfield 256, 3) := by decide +kernel
theorem dX11_take_15 : decode cX11_take 15 = .ok (.aload_n 0, 1) := by decide +kernel
theorem dX11_take_16 : decode cX11_take 16 = .ok (.getfield 259, 3) := by decide +kernel
theorem dX11_take_19 : decode cX11_take 19 = .ok (.if_icmp .lt 10, 3) := by decide +kernel
theorem dX11_take_22 : decode cX11_take 22 = .ok (.aload_n 0, 1) := by decide +kernel
theorem dX11_take_23 : decode cX11_take 23 = .ok (.iconst 1, 1) := by decide +kernel
theorem dX11_take_24 : decode cX11_take 24 = .ok (.putfield 262, 3) := by decide +kernel
theorem dX11_take_27 : decode cX11_take 27 = .ok (.lconst 0, 1) := by decide +kernel
theorem dX11_take_28 : decode cX11_take 28 = .ok (.lreturn, 1) := by decide +kernel
theorem dX11_take_29 : decode cX11_take 29 = .ok (.ldc2_w 265, 3) := by decide +kernel
theorem dX11_take_32 : decode cX11_take 32 = .ok (.lload_n 3, 1) := by decide +kernel
theorem dX11_take_33 : decode cX11_take 33 = .ok (.lmul, 1) := by decide +kernel
theorem dX11_take_34 : decode cX11_take 34 = .ok (.aload_n 0, 1) := by decide +kernel
theorem dX11_take_35 : decode cX11_take 35 = .ok (.getfield 51, 3) := by decide +kernel
theorem dX11_take_38 : decode cX11_take 38 = .ok (.bipush 64, 2) := by decide +kernel
theorem dX11_take_40 : decode cX11_take 40 = .ok (.iload_n 1, 1) := by decide +kernel
theorem dX11_take_41 : decode cX11_take 41 = .ok (.imul, 1) := by decide +kernel
theorem dX11_take_42 : decode cX11_take 42 = .ok (.aload_n 0, 1) := by decide +kernel
theorem dX11_take_43 : decode cX11_take 43 = .ok (.getfield 256, 3) := by decide +kernel
theorem dX11_take_46 : decode cX11_take 46 = .ok (.bipush 8, 2) := by decide +kernel
theorem dX11_take_48 : decode cX11_take 48 = .ok (.idiv, 1) := by decide +kernel
theorem dX11_take_49 : decode cX11_take 49 = .ok (.iadd, 1) := by decide +kernel
theorem dX11_take_50 : decode cX11_take 50 = .ok (.iaload, 1) := by decide +kernel
theorem dX11_take_51 : decode cX11_take 51 = .ok (.bipush 7, 2) := by decide +kernel
theorem dX11_take_53 : decode cX11_take 53 = .ok (.aload_n 0, 1) := by decide +kernel
theorem dX11_take_54 : decode cX11_take 54 = .ok (.getfield 256, 3) := by decide +kernel
theorem dX11_take_57 : decode cX11_take 57 = .ok (.bipush 8, 2) := by decide +kernel
theorem dX11_take_59 : decode cX11_take 59 = .ok (.irem, 1) := by decide +kernel
theorem dX11_take_60 : decode cX11_take 60 = .ok (.isub, 1) := by decide +kernel
theorem dX11_take_61 : decode cX11_take 61 = .ok (.ishr, 1) := by decide +kernel
theorem dX11_take_62 : decode cX11_take 62 = .ok (.iconst 1, 1) := by decide +kernel
theorem dX11_take_63 : decode cX11_take 63 = .ok (.iand, 1) := by decide +kernel
theorem dX11_take_64 : decode cX11_take 64 = .ok (.i2l, 1) := by decide +kernel
theorem dX11_take_65 : decode cX11_take 65 = .ok (.ladd, 1) := by decide +kernel
theorem dX11_take_66 : decode cX11_take 66 = .ok (.lstore_n 3, 1) := by decide +kernel
theorem dX11_take_67 : decode cX11_take 67 = .ok (.aload_n 0, 1) := by decide +kernel
theorem dX11_take_68 : decode cX11_take 68 = .ok (.dup, 1) := by decide +kernel
theorem dX11_take_69 : decode cX11_take 69 = .ok (.getfield 256, 3) := by decide +kernel
theorem dX11_take_72 : decode cX11_take 72 = .ok (.iconst 1, 1) := by decide +kernel
theorem dX11_take_73 : decode cX11_take 73 = .ok (.iadd, 1) := by decide +kernel
theorem dX11_take_74 : decode cX11_take 74 = .ok (.putfield 256, 3) := by decide +kernel
theorem dX11_take_77 : decode cX11_take 77 = .ok (.iinc 5 1, 3) := by decide +kernel
theorem dX11_take_80 : decode cX11_take 80 = .ok (.goto (-75), 3) := by decide +kernel
theorem dX11_take_83 : decode cX11_take 83 = .ok (.lload_n 3, 1) := by decide +kernel
theorem dX11_take_84 : decode cX11_take 84 = .ok (.lreturn, 1) := by decide +kernel
set_option maxRecDepth 20000 in
theorem ggX11_takeEnd_X11_take : GoodIn wsX11_takeEnd wsX11_take := goodIn_r _ [9, 2, 10, 1, 11, 4, 16, 17, 18, 19, 20, 21, 22, 23, 24, 25, 26, 27, 28, 29, 30, 31, 32, 33, 34, 35, 36, 37, 38, 39, 40, 41, 42, 43, 44, 45, 46, 47, 48, 49, 50, 51, 52, 53, 54, 55, 56, 57, 58, 59, 60, 61, 62, 63, 64, 65, 66, 67, 68, 69, 70, 71, 72, 73] (by decide +kernel) (by decide +kernel)
set_option maxRecDepth 20000 in
theorem gX11_takeEnd_X11_take : GoodIn wsX11_takeEnd (wsV RX11 267 RX11 yX11_take wsX11_take) := goodIn_app (goodIn_of _ (by decide +kernel)) ggX11_takeEnd_X11_take
set_option maxRecDepth 20000 in
theorem ggX11_takeEnd_X11_checkOf : GoodIn wsX11_takeEnd wsX11_checkOf := goodIn_r _ [15, 4, 16, 17, 18, 19, 20, 21, 22, 23, 24, 25, 26, 27, 28, 29, 30, 31, 32, 33, 34, 35, 36, 37, 38, 39, 40, 41, 42, 43, 44, 45, 46, 47, 48, 49, 50, 51, 52, 53, 54, 55, 56, 57, 58, 59, 60, 61, 62, 63, 64, 65, 66, 67, 68, 69, 70, 71, 72, 73] (by decide +kernel) (by decide +kernel)
set_option maxRecDepth 20000 in
theorem gX11_takeEnd_X11_checkOf : GoodIn wsX11_takeEnd (wsV RX11 208 RX11 yX11_checkOf wsX11_checkOf) := goodIn_app (goodIn_of _ (by decide +kernel)) ggX11_takeEnd_X11_checkOf
theorem dX11_takeEnd_0 : decode cX11_takeEnd 0 = .ok (.aload_n 0, 1) := by decide +kernel
theorem dX11_takeEnd_1 : decode cX11_takeEnd 1 = .ok (.getfield 262, 3) := by decide +kernel
theorem dX11_takeEnd_4 : decode cX11_takeEnd 4 = .ok (.ifCond .ne 36, 3) := by decide +kernel
theorem dX11_takeEnd_7 : decode cX11_takeEnd 7 = .ok (.aload_n 0, 1) := by decide +kernel
theorem dX11_takeEnd_8 : decode cX11_takeEnd 8 = .ok (.getfield 256, 3) := by decide +kernel
theorem dX11_takeEnd_11 : decode cX11_takeEnd 11 = .ok (.bipush 8, 2) := by decide +kernel
theorem dX11_takeEnd_13 : decode cX11_takeEnd 13 = .ok (.irem, 1) := by decide +kernel
theorem dX11_takeEnd_14 : decode cX11_takeEnd 14 = .ok (.ifCond .eq 26, 3) := by decide +kernel
theorem dX11_takeEnd_17 : decode cX11_takeEnd 17 = .ok (.aload_n 0, 1) := by decide +kernel
theorem dX11_takeEnd_18 : decode cX11_takeEnd 18 = .ok (.aload_n 0, 1) := by decide +kernel
theorem dX11_takeEnd_19 : decode cX11_takeEnd 19 = .ok (.iload_n 1, 1) := by decide +kernel
theorem dX11_takeEnd_20 : decode cX11_takeEnd 20 = .ok (.iconst 1, 1) := by decide +kernel
theorem dX11_takeEnd_21 : decode cX11_takeEnd 21 = .ok (.invokevirtual 267, 3) := by decide +kernel
theorem dX11_takeEnd_24 : decode cX11_takeEnd 24 = .ok (.lconst 0, 1) := by decide +kernel
theorem dX11_takeEnd_25 : decode cX11_takeEnd 25 = .ok (.lcmp, 1) := by decide +kernel
theorem dX11_takeEnd_26 : decode cX11_takeEnd 26 = .ok (.ifCond .eq 7, 3) := by decide +kernel
theorem dX11_takeEnd_29 : decode cX11_takeEnd 29 = .ok (.iconst 1, 1) := by decide +kernel
theorem dX11_takeEnd_30 : decode cX11_takeEnd 30 = .ok (.goto 4, 3) := by decide +kernel
theorem dX11_takeEnd_33 : decode cX11_takeEnd 33 = .ok (.iconst 0, 1) := by decide +kernel
theorem dX11_takeEnd_34 : decode cX11_takeEnd 34 = .ok (.putfield 262, 3) := by decide +kernel
theorem dX11_takeEnd_37 : decode cX11_takeEnd 37 = .ok (.goto (-37), 3) := by decide +kernel
theorem dX11_takeEnd_40 : decode cX11_takeEnd 40 = .ok (.aload_n 0, 1) := by decide +kernel
theorem dX11_takeEnd_41 : decode cX11_takeEnd 41 = .ok (.getfield 256, 3) := by decide +kernel
theorem dX11_takeEnd_44 : decode cX11_takeEnd 44 = .ok (.bipush 8, 2) := by decide +kernel
theorem dX11_takeEnd_46 : decode cX11_takeEnd 46 = .ok (.idiv, 1) := by decide +kernel
theorem dX11_takeEnd_47 : decode cX11_takeEnd 47 = .ok (.istore_n 3, 1) := by decide +kernel
theorem dX11_takeEnd_48 : decode cX11_takeEnd 48 = .ok (.iload_n 2, 1) := by decide +kernel
theorem dX11_takeEnd_49 : decode cX11_takeEnd 49 = .ok (.ifCond .eq 52, 3) := by decide +kernel
theorem dX11_takeEnd_52 : decode cX11_takeEnd 52 = .ok (.aload_n 0, 1) := by decide +kernel
theorem dX11_takeEnd_53 : decode cX11_takeEnd 53 = .ok (.getfield 262, 3) := by decide +kernel
theorem dX11_takeEnd_56 : decode cX11_takeEnd 56 = .ok (.ifCond .ne 45, 3) := by decide +kernel
theorem dX11_takeEnd_59 : decode cX11_takeEnd 59 = .ok (.aload_n 0, 1) := by decide +kernel
theorem dX11_takeEnd_60 : decode cX11_takeEnd 60 = .ok (.iload_n 3, 1) := by decide +kernel
theorem dX11_takeEnd_61 : decode cX11_takeEnd 61 = .ok (.aload_n 0, 1) := by decide +kernel
theorem dX11_takeEnd_62 : decode cX11_takeEnd 62 = .ok (.getfield 48, 3) := by decide +kernel
theorem dX11_takeEnd_65 : decode cX11_takeEnd 65 = .ok (.iload_n 1, 1) := by decide +kernel
theorem dX11_takeEnd_66 : decode cX11_takeEnd 66 = .ok (.iaload, 1) := by decide +kernel
theorem dX11_takeEnd_67 : decode cX11_takeEnd 67 = .ok (.if_icmp .ge 23, 3) := by decide +kernel
theorem dX11_takeEnd_70 : decode cX11_takeEnd 70 = .ok (.aload_n 0, 1) := by decide +kernel
theorem dX11_takeEnd_71 : decode cX11_takeEnd 71 = .ok (.getfield 51, 3) := by decide +kernel
theorem dX11_takeEnd_74 : decode cX11_takeEnd 74 = .ok (.bipush 64, 2) := by decide +kernel
theorem dX11_takeEnd_76 : decode cX11_takeEnd 76 = .ok (.iload_n 1, 1) := by decide +kernel
theorem dX11_takeEnd_77 : decode cX11_takeEnd 77 = .ok (.imul, 1) := by decide +kernel
theorem dX11_takeEnd_78 : decode cX11_takeEnd 78 = .ok (.iload_n 3, 1) := by decide +kernel
theorem dX11_takeEnd_79 : decode cX11_takeEnd 79 = .ok (.iadd, 1) := by decide +kernel
theorem dX11_takeEnd_80 : decode cX11_takeEnd 80 = .ok (.iaload, 1) := by decide +kernel
theorem dX11_takeEnd_81 : decode cX11_takeEnd 81 = .ok (.aload_n 0, 1) := by decide +kernel
theorem dX11_takeEnd_82 : decode cX11_takeEnd 82 = .ok (.iload_n 1, 1) := by decide +kernel
theorem dX11_takeEnd_83 : decode cX11_takeEnd 83 = .ok (.iload_n 3, 1) := by decide +kernel
theorem dX11_takeEnd_84 : decode cX11_takeEnd 84 = .ok (.invokevirtual 208, 3) := by decide +kernel
theorem dX11_takeEnd_87 : decode cX11_takeEnd 87 = .ok (.if_icmp .eq 7, 3) := by decide +kernel
theorem dX11_takeEnd_90 : decode cX11_takeEnd 90 = .ok (.iconst 1, 1) := by decide +kernel
theorem dX11_takeEnd_91 : decode cX11_takeEnd 91 = .ok (.goto 4, 3) := by decide +kernel
theorem dX11_takeEnd_94 : decode cX11_takeEnd 94 = .ok (.iconst 0, 1) := by decide +kernel
theorem dX11_takeEnd_95 : decode cX11_takeEnd 95 = .ok (.putfield 262, 3) := by decide +kernel
theorem dX11_takeEnd_98 : decode cX11_takeEnd 98 = .ok (.iinc 3 1, 3) := by decide +kernel
theorem dX11_takeEnd_101 : decode cX11_takeEnd 101 = .ok (.aload_n 0, 1) := by decide +kernel
theorem dX11_takeEnd_102 : decode cX11_takeEnd 102 = .ok (.aload_n 0, 1) := by decide +kernel
theorem dX11_takeEnd_103 : decode cX11_takeEnd 103 = .ok (.getfield 262, 3) := by decide +kernel
theorem dX11_takeEnd_106 : decode cX11_takeEnd 106 = .ok (.ifCond .ne 13, 3) := by decide +kernel
theorem dX11_takeEnd_109 : decode cX11_takeEnd 109 = .ok (.iload_n 3, 1) := by decide +kernel
theorem dX11_takeEnd_110 : decode cX11_takeEnd 110 = .ok (.aload_n 0, 1) := by decide +kernel
theorem dX11_takeEnd_111 : decode cX11_takeEnd 111 = .ok (.getfield 48, 3) := by decide +kernel
theorem dX11_takeEnd_114 : decode cX11_takeEnd 114 = .ok (.iload_n 1, 1) := by decide +kernel
theorem dX11_takeEnd_115 : decode cX11_takeEnd 115 = .ok (.iaload, 1) := by decide +kernel
theorem dX11_takeEnd_116 : decode cX11_takeEnd 116 = .ok (.if_icmp .eq 7, 3) := by decide +kernel
theorem dX11_takeEnd_119 : decode cX11_takeEnd 119 = .ok (.iconst 1, 1) := by decide +kernel
theorem dX11_takeEnd_120 : decode cX11_takeEnd 120 = .ok (.goto 4, 3) := by decide +kernel
theorem dX11_takeEnd_123 : decode cX11_takeEnd 123 = .ok (.iconst 0, 1) := by decide +kernel
theorem dX11_takeEnd_124 : decode cX11_takeEnd 124 = .ok (.putfield 262, 3) := by decide +kernel
theorem dX11_takeEnd_127 : decode cX11_takeEnd 127 = .ok (.return_, 1) := by decide +kernel
set_option maxRecDepth 20000 in
theorem ggX11_takeFields_X11_take : GoodIn wsX11_takeFields wsX11_take := goodIn_r _ [15, 16, 17, 3, 18, 19, 33, 34, 35, 36, 37, 38, 39, 40, 41, 42, 43, 44, 45, 46, 47, 48, 49, 50, 51, 52, 53, 54, 55, 56, 57, 58, 59, 60, 61, 62, 63, 64, 65, 66, 67, 68, 69, 70, 71, 72, 73, 74, 75, 76, 77, 78, 79, 80, 81, 82, 83, 84, 85, 86, 87, 88, 89, 90] (by decide +kernel) (by decide +kernel)
set_option maxRecDepth 20000 in
theorem gX11_takeFields_X11_take : GoodIn wsX11_takeFields (wsV RX11 267 RX11 yX11_take wsX11_take) := goodIn_app (goodIn_of _ (by decide +kernel)) ggX11_takeFields_X11_take
set_option maxRecDepth 20000 in
theorem ggX11_takeFields_X11_runs : GoodIn wsX11_takeFields wsX11_runs := goodIn_r _ [23, 6, 33, 34, 35, 36, 37, 38, 39, 40, 41, 42, 43, 44, 45, 46, 47, 48, 49, 50, 51, 52, 53, 54, 55, 56, 57, 58, 59, 60, 61, 62, 63, 64, 65, 66, 67, 68, 69, 70, 71, 72, 73, 74, 75, 76, 77, 78, 79, 80, 81, 82, 83, 84, 85, 86, 87, 88, 89, 90] (by decide +kernel) (by decide +kernel)
set_option maxRecDepth 20000 in
theorem gX11_takeFields_X11_runs : GoodIn wsX11_takeFields (wsV RX11 178 RX11 yX11_runs wsX11_runs) := goodIn_app (goodIn_of _ (by decide +kernel)) ggX11_takeFields_X11_runs
set_option maxRecDepth 20000 in
theorem ggX11_takeFields_X11_takeEnd : GoodIn wsX11_takeFields wsX11_takeEnd := goodIn_r _ [27, 3, 16, 28, 19, 11, 12, 13, 14, 15, 17, 18, 29, 30, 31, 32, 33, 34, 35, 36, 37, 38, 39, 40, 41, 42, 43, 44, 45, 46, 47, 48, 49, 50, 51, 52, 53, 54, 55, 56, 57, 58, 59, 60, 61, 62, 63, 64, 65, 66, 67, 68, 69, 70, 71, 72, 73, 74, 75, 76, 77, 78, 79, 80, 81, 82, 83, 84, 85, 86, 87, 88, 89, 90] (by decide +kernel) (by decide +kernel)
set_option maxRecDepth 20000 in
theorem gX11_takeFields_X11_takeEnd : GoodIn wsX11_takeFields (wsV RX11 278 RX11 yX11_takeEnd wsX11_takeEnd) := goodIn_app (goodIn_of _ (by decide +kernel)) ggX11_takeFields_X11_takeEnd
theorem dX11_takeFields_0 : decode cX11_takeFields 0 = .ok (.aload_n 0, 1) := by decide +kernel
theorem dX11_takeFields_1 : decode cX11_takeFields 1 = .ok (.aload_n 0, 1) := by decide +kernel
theorem dX11_takeFields_2 : decode cX11_takeFields 2 = .ok (.iload_n 1, 1) := by decide +kernel
theorem dX11_takeFields_3 : decode cX11_takeFields 3 = .ok (.iconst 4, 1) := by decide +kernel
theorem dX11_takeFields_4 : decode cX11_takeFields 4 = .ok (.invokevirtual 267, 3) := by decide +kernel
theorem dX11_takeFields_7 : decode cX11_takeFields 7 = .ok (.l2i, 1) := by decide +kernel
theorem dX11_takeFields_8 : decode cX11_takeFields 8 = .ok (.putfield 271, 3) := by decide +kernel
theorem dX11_takeFields_11 : decode cX11_takeFields 11 = .ok (.iconst 0, 1) := by decide +kernel
theorem dX11_takeFields_12 : decode cX11_takeFields 12 = .ok (.istore_n 3, 1) := by decide +kernel
theorem dX11_takeFields_13 : decode cX11_takeFields 13 = .ok (.iload_n 3, 1) := by decide +kernel
theorem dX11_takeFields_14 : decode cX11_takeFields 14 = .ok (.aload_n 0, 1) := by decide +kernel
theorem dX11_takeFields_15 : decode cX11_takeFields 15 = .ok (.getfield 148, 3) := by decide +kernel
theorem dX11_takeFields_18 : decode cX11_takeFields 18 = .ok (.if_icmp .ge 233, 3) := by decide +kernel
theorem dX11_takeFields_21 : decode cX11_takeFields 21 = .ok (.aload_n 0, 1) := by decide +kernel
theorem dX11_takeFields_22 : decode cX11_takeFields 22 = .ok (.getfield 262, 3) := by decide +kernel
theorem dX11_takeFields_25 : decode cX11_takeFields 25 = .ok (.ifCond .ne 226, 3) := by decide +kernel
theorem dX11_takeFields_28 : decode cX11_takeFields 28 = .ok (.aload_n 0, 1) := by decide +kernel
theorem dX11_takeFields_29 : decode cX11_takeFields 29 = .ok (.getfield 120, 3) := by decide +kernel
theorem dX11_takeFields_32 : decode cX11_takeFields 32 = .ok (.iload_n 3, 1) := by decide +kernel
theorem dX11_takeFields_33 : decode cX11_takeFields 33 = .ok (.iconst 1, 1) := by decide +kernel
theorem dX11_takeFields_34 : decode cX11_takeFields 34 = .ok (.iastore, 1) := by decide +kernel
theorem dX11_takeFields_35 : decode cX11_takeFields 35 = .ok (.aload_n 0, 1) := by decide +kernel
theorem dX11_takeFields_36 : decode cX11_takeFields 36 = .ok (.getfield 114, 3) := by decide +kernel
theorem dX11_takeFields_39 : decode cX11_takeFields 39 = .ok (.iload_n 3, 1) := by decide +kernel
theorem dX11_takeFields_40 : decode cX11_takeFields 40 = .ok (.iconst 0, 1) := by decide +kernel
theorem dX11_takeFields_41 : decode cX11_takeFields 41 = .ok (.iastore, 1) := by decide +kernel
theorem dX11_takeFields_42 : decode cX11_takeFields 42 = .ok (.iload_n 2, 1) := by decide +kernel
theorem dX11_takeFields_43 : decode cX11_takeFields 43 = .ok (.ifCond .eq 29, 3) := by decide +kernel
theorem dX11_takeFields_46 : decode cX11_takeFields 46 = .ok (.aload_n 0, 1) := by decide +kernel
theorem dX11_takeFields_47 : decode cX11_takeFields 47 = .ok (.getfield 7, 3) := by decide +kernel
theorem dX11_takeFields_50 : decode cX11_takeFields 50 = .ok (.iload_n 3, 1) := by decide +kernel
theorem dX11_takeFields_51 : decode cX11_takeFields 51 = .ok (.iaload, 1) := by decide +kernel
theorem dX11_takeFields_52 : decode cX11_takeFields 52 = .ok (.iconst 4, 1) := by decide +kernel
theorem dX11_takeFields_53 : decode cX11_takeFields 53 = .ok (.if_icmp .eq 19, 3) := by decide +kernel
theorem dX11_takeFields_56 : decode cX11_takeFields 56 = .ok (.iload_n 2, 1) := by decide +kernel
theorem dX11_takeFields_57 : decode cX11_takeFields 57 = .ok (.iconst 1, 1) := by decide +kernel
theorem dX11_takeFields_58 : decode cX11_takeFields 58 = .ok (.if_icmp .ne 18, 3) := by decide +kernel
theorem dX11_takeFields_61 : decode cX11_takeFields 61 = .ok (.aload_n 0, 1) := by decide +kernel
theorem dX11_takeFields_62 : decode cX11_takeFields 62 = .ok (.iload_n 1, 1) := by decide +kernel
theorem dX11_takeFields_63 : decode cX11_takeFields 63 = .ok (.iconst 1, 1) := by decide +kernel
theorem dX11_takeFields_64 : decode cX11_takeFields 64 = .ok (.invokevirtual 267, 3) := by decide +kernel
theorem dX11_takeFields_67 : decode cX11_takeFields 67 = .ok (.lconst 1, 1) := by decide +kernel
theorem dX11_takeFields_68 : decode cX11_takeFields 68 = .ok (.lcmp, 1) := by decide +kernel
theorem dX11_takeFields_69 : decode cX11_takeFields 69 = .ok (.ifCond .ne 7, 3) := by decide +kernel
theorem dX11_takeFields_72 : decode cX11_takeFields 72 = .ok (.iconst 1, 1) := by decide +kernel
theorem dX11_takeFields_73 : decode cX11_takeFields 73 = .ok (.goto 4, 3) := by decide +kernel
theorem dX11_takeFields_76 : decode cX11_takeFields 76 = .ok (.iconst 0, 1) := by decide +kernel
theorem dX11_takeFields_77 : decode cX11_takeFields 77 = .ok (.istore 4, 2) := by decide +kernel
theorem dX11_takeFields_79 : decode cX11_takeFields 79 = .ok (.aload_n 0, 1) := by decide +kernel
theorem dX11_takeFields_80 : decode cX11_takeFields 80 = .ok (.getfield 111, 3) := by decide +kernel
theorem dX11_takeFields_83 : decode cX11_takeFields 83 = .ok (.iload_n 3, 1) := by decide +kernel
theorem dX11_takeFields_84 : decode cX11_takeFields 84 = .ok (.iload 4, 2) := by decide +kernel
theorem dX11_takeFields_86 : decode cX11_takeFields 86 = .ok (.ifCond .eq 7, 3) := by decide +kernel
theorem dX11_takeFields_89 : decode cX11_takeFields 89 = .ok (.iconst 2, 1) := by decide +kernel
theorem dX11_takeFields_90 : decode cX11_takeFields 90 = .ok (.goto 21, 3) := by decide +kernel
theorem dX11_takeFields_93 : decode cX11_takeFields 93 = .ok (.iload_n 2, 1) := by decide +kernel
theorem dX11_takeFields_94 : decode cX11_takeFields 94 = .ok (.iconst 2, 1) := by decide +kernel
theorem dX11_takeFields_95 : decode cX11_takeFields 95 = .ok (.if_icmp .ne 15, 3) := by decide +kernel
theorem dX11_takeFields_98 : decode cX11_takeFields 98 = .ok (.aload_n 0, 1) := by decide +kernel
theorem dX11_takeFields_99 : decode cX11_takeFields 99 = .ok (.iload_n 3, 1) := by decide +kernel
theorem dX11_takeFields_100 : decode cX11_takeFields 100 = .ok (.invokevirtual 178, 3) := by decide +kernel
theorem dX11_takeFields_103 : decode cX11_takeFields 103 = .ok (.ifCond .eq 7, 3) := by decide +kernel
theorem dX11_takeFields_106 : decode cX11_takeFields 106 = .ok (.iconst 1, 1) := by decide +kernel
theorem dX11_takeFields_107 : decode cX11_takeFields 107 = .ok (.goto 4, 3) := by decide +kernel
theorem dX11_takeFields_110 : decode cX11_takeFields 110 = .ok (.iconst 0, 1) := by decide +kernel
theorem dX11_takeFields_111 : decode cX11_takeFields 111 = .ok (.iastore, 1) := by decide +kernel
theorem dX11_takeFields_112 : decode cX11_takeFields 112 = .ok (.aload_n 0, 1) := by decide +kernel
theorem dX11_takeFields_113 : decode cX11_takeFields 113 = .ok (.getfield 111, 3) := by decide +kernel
theorem dX11_takeFields_116 : decode cX11_takeFields 116 = .ok (.iload_n 3, 1) := by decide +kernel
theorem dX11_takeFields_117 : decode cX11_takeFields 117 = .ok (.iaload, 1) := by decide +kernel
theorem dX11_takeFields_118 : decode cX11_takeFields 118 = .ok (.iconst 1, 1) := by decide +kernel
theorem dX11_takeFields_119 : decode cX11_takeFields 119 = .ok (.if_icmp .ne 48, 3) := by decide +kernel
theorem dX11_takeFields_122 : decode cX11_takeFields 122 = .ok (.aload_n 0, 1) := by decide +kernel
theorem dX11_takeFields_123 : decode cX11_takeFields 123 = .ok (.getfield 114, 3) := by decide +kernel
theorem dX11_takeFields_126 : decode cX11_takeFields 126 = .ok (.iload_n 3, 1) := by decide +kernel
theorem dX11_takeFields_127 : decode cX11_takeFields 127 = .ok (.aload_n 0, 1) := by decide +kernel
theorem dX11_takeFields_128 : decode cX11_takeFields 128 = .ok (.iload_n 1, 1) := by decide +kernel
theorem dX11_takeFields_129 : decode cX11_takeFields 129 = .ok (.bipush 6, 2) := by decide +kernel
theorem dX11_takeFields_131 : decode cX11_takeFields 131 = .ok (.invokevirtual 267, 3) := by decide +kernel
theorem dX11_takeFields_134 : decode cX11_takeFields 134 = .ok (.l2i, 1) := by decide +kernel
theorem dX11_takeFields_135 : decode cX11_takeFields 135 = .ok (.iastore, 1) := by decide +kernel
theorem dX11_takeFields_136 : decode cX11_takeFields 136 = .ok (.aload_n 0, 1) := by decide +kernel
theorem dX11_takeFields_137 : decode cX11_takeFields 137 = .ok (.aload_n 0, 1) := by decide +kernel
theorem dX11_takeFields_138 : decode cX11_takeFields 138 = .ok (.getfield 262, 3) := by decide +kernel
theorem dX11_takeFields_141 : decode cX11_takeFields 141 = .ok (.ifCond .ne 18, 3) := by decide +kernel
theorem dX11_takeFields_144 : decode cX11_takeFields 144 = .ok (.aload_n 0, 1) := by decide +kernel
theorem dX11_takeFields_145 : decode cX11_takeFields 145 = .ok (.getfield 114, 3) := by decide +kernel
theorem dX11_takeFields_148 : decode cX11_takeFields 148 = .ok (.iload_n 3, 1) := by decide +kernel
theorem dX11_takeFields_149 : decode cX11_takeFields 149 = .ok (.iaload, 1) := by decide +kernel
theorem dX11_takeFields_150 : decode cX11_takeFields 150 = .ok (.aload_n 0, 1) := by decide +kernel
theorem dX11_takeFields_151 : decode cX11_takeFields 151 = .ok (.getfield 13, 3) := by decide +kernel
theorem dX11_takeFields_154 : decode cX11_takeFields 154 = .ok (.iload_n 3, 1) := by decide +kernel
theorem dX11_takeFields_155 : decode cX11_takeFields 155 = .ok (.iaload, 1) := by decide +kernel
theorem dX11_takeFields_156 : decode cX11_takeFields 156 = .ok (.if_icmp .le 7, 3) := by decide +kernel
theorem dX11_takeFields_159 : decode cX11_takeFields 159 = .ok (.iconst 1, 1) := by decide +kernel
theorem dX11_takeFields_160 : decode cX11_takeFields 160 = .ok (.goto 4, 3) := by decide +kernel
theorem dX11_takeFields_163 : decode cX11_takeFields 163 = .ok (.iconst 0, 1) := by decide +kernel
theorem dX11_takeFields_164 : decode cX11_takeFields 164 = .ok (.putfield 262, 3) := by decide +kernel
theorem dX11_takeFields_167 : decode cX11_takeFields 167 = .ok (.aload_n 0, 1) := by decide +kernel
theorem dX11_takeFields_168 : decode cX11_takeFields 168 = .ok (.getfield 111, 3) := by decide +kernel
theorem dX11_takeFields_171 : decode cX11_takeFields 171 = .ok (.iload_n 3, 1) := by decide +kernel
theorem dX11_takeFields_172 : decode cX11_takeFields 172 = .ok (.iaload, 1) := by decide +kernel
theorem dX11_takeFields_173 : decode cX11_takeFields 173 = .ok (.ifCond .le 46, 3) := by decide +kernel
theorem dX11_takeFields_176 : decode cX11_takeFields 176 = .ok (.aload_n 0, 1) := by decide +kernel
theorem dX11_takeFields_177 : decode cX11_takeFields 177 = .ok (.getfield 262, 3) := by decide +kernel
theorem dX11_takeFields_180 : decode cX11_takeFields 180 = .ok (.ifCond .ne 39, 3) := by decide +kernel
theorem dX11_takeFields_183 : decode cX11_takeFields 183 = .ok (.aload_n 0, 1) := by decide +kernel
theorem dX11_takeFields_184 : decode cX11_takeFields 184 = .ok (.getfield 117, 3) := by decide +kernel
theorem dX11_takeFields_187 : decode cX11_takeFields 187 = .ok (.iload_n 3, 1) := by decide +kernel
theorem dX11_takeFields_188 : decode cX11_takeFields 188 = .ok (.aload_n 0, 1) := by decide +kernel
theorem dX11_takeFields_189 : decode cX11_takeFields 189 = .ok (.iload_n 1, 1) := by decide +kernel
theorem dX11_takeFields_190 : decode cX11_takeFields 190 = .ok (.aload_n 0, 1) := by decide +kernel
theorem dX11_takeFields_191 : decode cX11_takeFields 191 = .ok (.getfield 111, 3) := by decide +kernel
theorem dX11_takeFields_194 : decode cX11_takeFields 194 = .ok (.iload_n 3, 1) := by decide +kernel
theorem dX11_takeFields_195 : decode cX11_takeFields 195 = .ok (.iaload, 1) := by decide +kernel
theorem dX11_takeFields_196 : decode cX11_takeFields 196 = .ok (.iconst 2, 1) := by decide +kernel
theorem dX11_takeFields_197 : decode cX11_takeFields 197 = .ok (.if_icmp .ne 12, 3) := by decide +kernel
theorem dX11_takeFields_200 : decode cX11_takeFields 200 = .ok (.aload_n 0, 1) := by decide +kernel
theorem dX11_takeFields_201 : decode cX11_takeFields 201 = .ok (.getfield 13, 3) := by decide +kernel
theorem dX11_takeFields_204 : decode cX11_takeFields 204 = .ok (.iload_n 3, 1) := by decide +kernel
theorem dX11_takeFields_205 : decode cX11_takeFields 205 = .ok (.iaload, 1) := by decide +kernel
theorem dX11_takeFields_206 : decode cX11_takeFields 206 = .ok (.goto 9, 3) := by decide +kernel
theorem dX11_takeFields_209 : decode cX11_takeFields 209 = .ok (.aload_n 0, 1) := by decide +kernel
theorem dX11_takeFields_210 : decode cX11_takeFields 210 = .ok (.getfield 114, 3) := by decide +kernel
theorem dX11_takeFields_213 : decode cX11_takeFields 213 = .ok (.iload_n 3, 1) := by decide +kernel
theorem dX11_takeFields_214 : decode cX11_takeFields 214 = .ok (.iaload, 1) := by decide +kernel
theorem dX11_takeFields_215 : decode cX11_takeFields 215 = .ok (.invokevirtual 267, 3) := by decide +kernel
theorem dX11_takeFields_218 : decode cX11_takeFields 218 = .ok (.lastore, 1) := by decide +kernel
theorem dX11_takeFields_219 : decode cX11_takeFields 219 = .ok (.iload_n 2, 1) := by decide +kernel
theorem dX11_takeFields_220 : decode cX11_takeFields 220 = .ok (.ifCond .ne 25, 3) := by decide +kernel
theorem dX11_takeFields_223 : decode cX11_takeFields 223 = .ok (.aload_n 0, 1) := by decide +kernel
theorem dX11_takeFields_224 : decode cX11_takeFields 224 = .ok (.iload_n 3, 1) := by decide +kernel
theorem dX11_takeFields_225 : decode cX11_takeFields 225 = .ok (.invokevirtual 178, 3) := by decide +kernel
theorem dX11_takeFields_228 : decode cX11_takeFields 228 = .ok (.ifCond .eq 17, 3) := by decide +kernel
theorem dX11_takeFields_231 : decode cX11_takeFields 231 = .ok (.aload_n 0, 1) := by decide +kernel
theorem dX11_takeFields_232 : decode cX11_takeFields 232 = .ok (.getfield 120, 3) := by decide +kernel
theorem dX11_takeFields_235 : decode cX11_takeFields 235 = .ok (.iload_n 3, 1) := by decide +kernel
theorem dX11_takeFields_236 : decode cX11_takeFields 236 = .ok (.aload_n 0, 1) := by decide +kernel
theorem dX11_takeFields_237 : decode cX11_takeFields 237 = .ok (.iload_n 1, 1) := by decide +kernel
theorem dX11_takeFields_238 : decode cX11_takeFields 238 = .ok (.bipush 8, 2) := by decide +kernel
theorem dX11_takeFields_240 : decode cX11_takeFields 240 = .ok (.invokevirtual 267, 3) := by decide +kernel
theorem dX11_takeFields_243 : decode cX11_takeFields 243 = .ok (.l2i, 1) := by decide +kernel
theorem dX11_takeFields_244 : decode cX11_takeFields 244 = .ok (.iastore, 1) := by decide +kernel
theorem dX11_takeFields_245 : decode cX11_takeFields 245 = .ok (.iinc 3 1, 3) := by decide +kernel
theorem dX11_takeFields_248 : decode cX11_takeFields 248 = .ok (.goto (-235), 3) := by decide +kernel
theorem dX11_takeFields_251 : decode cX11_takeFields 251 = .ok (.aload_n 0, 1) := by decide +kernel
theorem dX11_takeFields_252 : decode cX11_takeFields 252 = .ok (.iload_n 2, 1) := by decide +kernel
theorem dX11_takeFields_253 : decode cX11_takeFields 253 = .ok (.ifCond .ne 7, 3) := by decide +kernel
theorem dX11_takeFields_256 : decode cX11_takeFields 256 = .ok (.lconst 0, 1) := by decide +kernel
theorem dX11_takeFields_257 : decode cX11_takeFields 257 = .ok (.goto 10, 3) := by decide +kernel
theorem dX11_takeFields_260 : decode cX11_takeFields 260 = .ok (.aload_n 0, 1) := by decide +kernel
theorem dX11_takeFields_261 : decode cX11_takeFields 261 = .ok (.iload_n 1, 1) := by decide +kernel
theorem dX11_takeFields_262 : decode cX11_takeFields 262 = .ok (.bipush 8, 2) := by decide +kernel
theorem dX11_takeFields_264 : decode cX11_takeFields 264 = .ok (.invokevirtual 267, 3) := by decide +kernel
theorem dX11_takeFields_267 : decode cX11_takeFields 267 = .ok (.putfield 274, 3) := by decide +kernel
theorem dX11_takeFields_270 : decode cX11_takeFields 270 = .ok (.aload_n 0, 1) := by decide +kernel
theorem dX11_takeFields_271 : decode cX11_takeFields 271 = .ok (.iload_n 1, 1) := by decide +kernel
theorem dX11_takeFields_272 : decode cX11_takeFields 272 = .ok (.iload_n 2, 1) := by decide +kernel
theorem dX11_takeFields_273 : decode cX11_takeFields 273 = .ok (.ifCond .ne 7, 3) := by decide +kernel
theorem dX11_takeFields_276 : decode cX11_takeFields 276 = .ok (.iconst 1, 1) := by decide +kernel
theorem dX11_takeFields_277 : decode cX11_takeFields 277 = .ok (.goto 4, 3) := by decide +kernel
theorem dX11_takeFields_280 : decode cX11_takeFields 280 = .ok (.iconst 0, 1) := by decide +kernel
theorem dX11_takeFields_281 : decode cX11_takeFields 281 = .ok (.invokevirtual 278, 3) := by decide +kernel
theorem dX11_takeFields_284 : decode cX11_takeFields 284 = .ok (.return_, 1) := by decide +kernel
set_option maxRecDepth 20000 in
theorem ggX11_found_X11_cut : GoodIn wsX11_found wsX11_cut := goodIn_r _ [5, 6, 7, 8, 9, 10, 11, 12, 13, 14, 15, 16, 17, 18, 19, 20, 21, 22, 23, 24, 25, 26, 27, 28, 29, 30, 31, 32, 33, 34, 35, 36, 37, 38, 39, 40, 41, 42, 43, 44, 45, 46, 47, 48, 49, 50, 51, 52, 53, 54, 55, 56, 57, 58, 59, 60, 61, 62, 63, 64] (by decide +kernel) (by decide +kernel)
set_option maxRecDepth 20000 in
theorem gX11_found_X11_cut : GoodIn wsX11_found (wsV RX11 171 RX11 yX11_cut wsX11_cut) := goodIn_app (goodIn_of _ (by decide +kernel)) ggX11_found_X11_cut
theorem dX11_found_0 : decode cX11_found 0 = .ok (.iload 4, 2) := by decide +kernel
theorem dX11_found_2 : decode cX11_found 2 = .ok (.ifCond .ne 5, 3) := by decide +kernel
theorem dX11_found_5 : decode cX11_found 5 = .ok (.lload_n 2, 1) := by decide +kernel
theorem dX11_found_6 : decode cX11_found 6 = .ok (.lreturn, 1) := by decide +kernel
theorem dX11_found_7 : decode cX11_found 7 = .ok (.aload_n 0, 1) := by decide +kernel
theorem dX11_found_8 : decode cX11_found 8 = .ok (.iload_n 1, 1) := by decide +kernel
theorem dX11_found_9 : decode cX11_found 9 = .ok (.lload_n 2, 1) := by decide +kernel
theorem dX11_found_10 : decode cX11_found 10 = .ok (.lconst 1, 1) := by decide +kernel
theorem dX11_found_11 : decode cX11_found 11 = .ok (.iload 4, 2) := by decide +kernel
theorem dX11_found_13 : decode cX11_found 13 = .ok (.iconst 1, 1) := by decide +kernel
theorem dX11_found_14 : decode cX11_found 14 = .ok (.isub, 1) := by decide +kernel
theorem dX11_found_15 : decode cX11_found 15 = .ok (.lshl, 1) := by decide +kernel
theorem dX11_found_16 : decode cX11_found 16 = .ok (.lsub, 1) := by decide +kernel
theorem dX11_found_17 : decode cX11_found 17 = .ok (.invokevirtual 171, 3) := by decide +kernel
theorem dX11_found_20 : decode cX11_found 20 = .ok (.lstore 7, 2) := by decide +kernel
theorem dX11_found_22 : decode cX11_found 22 = .ok (.lload 5, 2) := by decide +kernel
theorem dX11_found_24 : decode cX11_found 24 = .ok (.lload 7, 2) := by decide +kernel
theorem dX11_found_26 : decode cX11_found 26 = .ok (.lsub, 1) := by decide +kernel
theorem dX11_found_27 : decode cX11_found 27 = .ok (.lconst 1, 1) := by decide +kernel
theorem dX11_found_28 : decode cX11_found 28 = .ok (.iload 4, 2) := by decide +kernel
theorem dX11_found_30 : decode cX11_found 30 = .ok (.lshl, 1) := by decide +kernel
theorem dX11_found_31 : decode cX11_found 31 = .ok (.lconst 1, 1) := by decide +kernel
theorem dX11_found_32 : decode cX11_found 32 = .ok (.lsub, 1) := by decide +kernel
theorem dX11_found_33 : decode cX11_found 33 = .ok (.land, 1) := by decide +kernel
theorem dX11_found_34 : decode cX11_found 34 = .ok (.lstore 9, 2) := by decide +kernel
theorem dX11_found_36 : decode cX11_found 36 = .ok (.aload_n 0, 1) := by decide +kernel
theorem dX11_found_37 : decode cX11_found 37 = .ok (.iload_n 1, 1) := by decide +kernel
theorem dX11_found_38 : decode cX11_found 38 = .ok (.lload 7, 2) := by decide +kernel
theorem dX11_found_40 : decode cX11_found 40 = .ok (.lload 9, 2) := by decide +kernel
theorem dX11_found_42 : decode cX11_found 42 = .ok (.ladd, 1) := by decide +kernel
theorem dX11_found_43 : decode cX11_found 43 = .ok (.invokevirtual 171, 3) := by decide +kernel
theorem dX11_found_46 : decode cX11_found 46 = .ok (.lreturn, 1) := by decide +kernel
set_option maxRecDepth 20000 in
theorem ggX11_open_X11_cut : GoodIn wsX11_open wsX11_cut := goodIn_r _ [16, 17, 26, 27, 28, 29, 30, 31, 32, 33, 34, 35, 36, 37, 38, 39, 40, 41, 42, 43, 44, 45, 46, 47, 48, 49, 50, 51, 52, 53, 54, 55, 56, 57, 58, 59, 60, 61, 62, 63, 64, 65, 66, 67, 68, 69, 70, 71, 72, 73, 74, 75, 76, 77, 78, 79, 80, 81, 82, 83] (by decide +kernel) (by decide +kernel)
set_option maxRecDepth 20000 in
theorem gX11_open_X11_cut : GoodIn wsX11_open (wsV RX11 171 RX11 yX11_cut wsX11_cut) := goodIn_app (goodIn_of _ (by decide +kernel)) ggX11_open_X11_cut
set_option maxRecDepth 20000 in
theorem ggX11_open_X11_onwards : GoodIn wsX11_open wsX11_onwards := goodIn_r _ [21, 2, 5, 12, 13, 14, 15, 16, 17, 26, 27, 28, 29, 30, 31, 32, 33, 34, 35, 36, 37, 38, 39, 40, 41, 42, 43, 44, 45, 46, 47, 48, 49, 50, 51, 52, 53, 54, 55, 56, 57, 58, 59, 60, 61, 62, 63, 64, 65, 66, 67, 68, 69, 70, 71, 72, 73, 74, 75, 76, 77, 78, 79, 80, 81, 82, 83] (by decide +kernel) (by decide +kernel)
set_option maxRecDepth 20000 in
theorem gX11_open_X11_onwards : GoodIn wsX11_open (wsV RX11 183 RX11 yX11_onwards wsX11_onwards) := goodIn_app (goodIn_of _ (by decide +kernel)) ggX11_open_X11_onwards
set_option maxRecDepth 20000 in
theorem ggX11_open_X11_found : GoodIn wsX11_open wsX11_found := goodIn_r _ [25, 12, 13, 14, 15, 16, 17, 26, 27, 28, 29, 30, 31, 32, 33, 34, 35, 36, 37, 38, 39, 40, 41, 42, 43, 44, 45, 46, 47, 48, 49, 50, 51, 52, 53, 54, 55, 56, 57, 58, 59, 60, 61, 62, 63, 64, 65, 66, 67, 68, 69, 70, 71, 72, 73, 74, 75, 76, 77, 78, 79, 80, 81, 82, 83] (by decide +kernel) (by decide +kernel)
set_option maxRecDepth 20000 in
theorem gX11_open_X11_found : GoodIn wsX11_open (wsV RX11 282 RX11 yX11_found wsX11_found) := goodIn_app (goodIn_of _ (by decide +kernel)) ggX11_open_X11_found
theorem dX11_open_0 : decode cX11_open 0 = .ok (.iconst 0, 1) := by decide +kernel
theorem dX11_open_1 : decode cX11_open 1 = .ok (.istore_n 3, 1) := by decide +kernel
theorem dX11_open_2 : decode cX11_open 2 = .ok (.iload_n 3, 1) := by decide +kernel
theorem dX11_open_3 : decode cX11_open 3 = .ok (.aload_n 0, 1) := by decide +kernel
theorem dX11_open_4 : decode cX11_open 4 = .ok (.getfield 148, 3) := by decide +kernel
theorem dX11_open_7 : decode cX11_open 7 = .ok (.if_icmp .ge 141, 3) := by decide +kernel
theorem dX11_open_10 : decode cX11_open 10 = .ok (.aload_n 0, 1) := by decide +kernel
theorem dX11_open_11 : decode cX11_open 11 = .ok (.getfield 7, 3) := by decide +kernel
theorem dX11_open_14 : decode cX11_open 14 = .ok (.iload_n 3, 1) := by decide +kernel
theorem dX11_open_15 : decode cX11_open 15 = .ok (.iaload, 1) := by decide +kernel
theorem dX11_open_16 : decode cX11_open 16 = .ok (.iconst 1, 1) := by decide +kernel
theorem dX11_open_17 : decode cX11_open 17 = .ok (.if_icmp .ne 29, 3) := by decide +kernel
theorem dX11_open_20 : decode cX11_open 20 = .ok (.aload_n 0, 1) := by decide +kernel
theorem dX11_open_21 : decode cX11_open 21 = .ok (.iload_n 3, 1) := by decide +kernel
theorem dX11_open_22 : decode cX11_open 22 = .ok (.aload_n 0, 1) := by decide +kernel
theorem dX11_open_23 : decode cX11_open 23 = .ok (.getfield 123, 3) := by decide +kernel
theorem dX11_open_26 : decode cX11_open 26 = .ok (.aload_n 0, 1) := by decide +kernel
theorem dX11_open_27 : decode cX11_open 27 = .ok (.getfield 16, 3) := by decide +kernel
theorem dX11_open_30 : decode cX11_open 30 = .ok (.iload_n 3, 1) := by decide +kernel
theorem dX11_open_31 : decode cX11_open 31 = .ok (.iaload, 1) := by decide +kernel
theorem dX11_open_32 : decode cX11_open 32 = .ok (.laload, 1) := by decide +kernel
theorem dX11_open_33 : decode cX11_open 33 = .ok (.aload_n 0, 1) := by decide +kernel
theorem dX11_open_34 : decode cX11_open 34 = .ok (.getfield 19, 3) := by decide +kernel
theorem dX11_open_37 : decode cX11_open 37 = .ok (.iload_n 3, 1) := by decide +kernel
theorem dX11_open_38 : decode cX11_open 38 = .ok (.laload, 1) := by decide +kernel
theorem dX11_open_39 : decode cX11_open 39 = .ok (.ladd, 1) := by decide +kernel
theorem dX11_open_40 : decode cX11_open 40 = .ok (.invokevirtual 171, 3) := by decide +kernel
theorem dX11_open_43 : decode cX11_open 43 = .ok (.goto 38, 3) := by decide +kernel
theorem dX11_open_46 : decode cX11_open 46 = .ok (.aload_n 0, 1) := by decide +kernel
theorem dX11_open_47 : decode cX11_open 47 = .ok (.iload_n 3, 1) := by decide +kernel
theorem dX11_open_48 : decode cX11_open 48 = .ok (.aload_n 0, 1) := by decide +kernel
theorem dX11_open_49 : decode cX11_open 49 = .ok (.getfield 99, 3) := by decide +kernel
theorem dX11_open_52 : decode cX11_open 52 = .ok (.bipush 8, 2) := by decide +kernel
theorem dX11_open_54 : decode cX11_open 54 = .ok (.iload_n 1, 1) := by decide +kernel
theorem dX11_open_55 : decode cX11_open 55 = .ok (.imul, 1) := by decide +kernel
theorem dX11_open_56 : decode cX11_open 56 = .ok (.iload_n 3, 1) := by decide +kernel
theorem dX11_open_57 : decode cX11_open 57 = .ok (.iadd, 1) := by decide +kernel
theorem dX11_open_58 : decode cX11_open 58 = .ok (.laload, 1) := by decide +kernel
theorem dX11_open_59 : decode cX11_open 59 = .ok (.iload_n 2, 1) := by decide +kernel
theorem dX11_open_60 : decode cX11_open 60 = .ok (.aload_n 0, 1) := by decide +kernel
theorem dX11_open_61 : decode cX11_open 61 = .ok (.getfield 90, 3) := by decide +kernel
theorem dX11_open_64 : decode cX11_open 64 = .ok (.iload_n 1, 1) := by decide +kernel
theorem dX11_open_65 : decode cX11_open 65 = .ok (.iaload, 1) := by decide +kernel
theorem dX11_open_66 : decode cX11_open 66 = .ok (.isub, 1) := by decide +kernel
theorem dX11_open_67 : decode cX11_open 67 = .ok (.aload_n 0, 1) := by decide +kernel
theorem dX11_open_68 : decode cX11_open 68 = .ok (.getfield 96, 3) := by decide +kernel
theorem dX11_open_71 : decode cX11_open 71 = .ok (.bipush 8, 2) := by decide +kernel
theorem dX11_open_73 : decode cX11_open 73 = .ok (.iload_n 1, 1) := by decide +kernel
theorem dX11_open_74 : decode cX11_open 74 = .ok (.imul, 1) := by decide +kernel
theorem dX11_open_75 : decode cX11_open 75 = .ok (.iload_n 3, 1) := by decide +kernel
theorem dX11_open_76 : decode cX11_open 76 = .ok (.iadd, 1) := by decide +kernel
theorem dX11_open_77 : decode cX11_open 77 = .ok (.iaload, 1) := by decide +kernel
theorem dX11_open_78 : decode cX11_open 78 = .ok (.invokevirtual 183, 3) := by decide +kernel
theorem dX11_open_81 : decode cX11_open 81 = .ok (.lstore 4, 2) := by decide +kernel
theorem dX11_open_83 : decode cX11_open 83 = .ok (.aload_n 0, 1) := by decide +kernel
theorem dX11_open_84 : decode cX11_open 84 = .ok (.getfield 123, 3) := by decide +kernel
theorem dX11_open_87 : decode cX11_open 87 = .ok (.iload_n 3, 1) := by decide +kernel
theorem dX11_open_88 : decode cX11_open 88 = .ok (.aload_n 0, 1) := by decide +kernel
theorem dX11_open_89 : decode cX11_open 89 = .ok (.getfield 111, 3) := by decide +kernel
theorem dX11_open_92 : decode cX11_open 92 = .ok (.iload_n 3, 1) := by decide +kernel
theorem dX11_open_93 : decode cX11_open 93 = .ok (.iaload, 1) := by decide +kernel
theorem dX11_open_94 : decode cX11_open 94 = .ok (.iconst 2, 1) := by decide +kernel
theorem dX11_open_95 : decode cX11_open 95 = .ok (.if_icmp .ne 12, 3) := by decide +kernel
theorem dX11_open_98 : decode cX11_open 98 = .ok (.aload_n 0, 1) := by decide +kernel
theorem dX11_open_99 : decode cX11_open 99 = .ok (.getfield 117, 3) := by decide +kernel
theorem dX11_open_102 : decode cX11_open 102 = .ok (.iload_n 3, 1) := by decide +kernel
theorem dX11_open_103 : decode cX11_open 103 = .ok (.laload, 1) := by decide +kernel
theorem dX11_open_104 : decode cX11_open 104 = .ok (.goto 37, 3) := by decide +kernel
theorem dX11_open_107 : decode cX11_open 107 = .ok (.aload_n 0, 1) := by decide +kernel
theorem dX11_open_108 : decode cX11_open 108 = .ok (.getfield 111, 3) := by decide +kernel
theorem dX11_open_111 : decode cX11_open 111 = .ok (.iload_n 3, 1) := by decide +kernel
theorem dX11_open_112 : decode cX11_open 112 = .ok (.iaload, 1) := by decide +kernel
theorem dX11_open_113 : decode cX11_open 113 = .ok (.iconst 1, 1) := by decide +kernel
theorem dX11_open_114 : decode cX11_open 114 = .ok (.if_icmp .ne 25, 3) := by decide +kernel
theorem dX11_open_117 : decode cX11_open 117 = .ok (.aload_n 0, 1) := by decide +kernel
theorem dX11_open_118 : decode cX11_open 118 = .ok (.iload_n 3, 1) := by decide +kernel
theorem dX11_open_119 : decode cX11_open 119 = .ok (.lload 4, 2) := by decide +kernel
theorem dX11_open_121 : decode cX11_open 121 = .ok (.aload_n 0, 1) := by decide +kernel
theorem dX11_open_122 : decode cX11_open 122 = .ok (.getfield 114, 3) := by decide +kernel
theorem dX11_open_125 : decode cX11_open 125 = .ok (.iload_n 3, 1) := by decide +kernel
theorem dX11_open_126 : decode cX11_open 126 = .ok (.iaload, 1) := by decide +kernel
theorem dX11_open_127 : decode cX11_open 127 = .ok (.aload_n 0, 1) := by decide +kernel
theorem dX11_open_128 : decode cX11_open 128 = .ok (.getfield 117, 3) := by decide +kernel
theorem dX11_open_131 : decode cX11_open 131 = .ok (.iload_n 3, 1) := by decide +kernel
theorem dX11_open_132 : decode cX11_open 132 = .ok (.laload, 1) := by decide +kernel
theorem dX11_open_133 : decode cX11_open 133 = .ok (.invokevirtual 282, 3) := by decide +kernel
theorem dX11_open_136 : decode cX11_open 136 = .ok (.goto 5, 3) := by decide +kernel
theorem dX11_open_139 : decode cX11_open 139 = .ok (.lload 4, 2) := by decide +kernel
theorem dX11_open_141 : decode cX11_open 141 = .ok (.lastore, 1) := by decide +kernel
theorem dX11_open_142 : decode cX11_open 142 = .ok (.iinc 3 1, 3) := by decide +kernel
theorem dX11_open_145 : decode cX11_open 145 = .ok (.goto (-143), 3) := by decide +kernel
theorem dX11_open_148 : decode cX11_open 148 = .ok (.return_, 1) := by decide +kernel
set_option maxRecDepth 20000 in
theorem ggX11_isUnlike_X11_sumOf : GoodIn wsX11_isUnlike wsX11_sumOf := goodIn_r _ [8, 9, 10] (by decide +kernel) (by decide +kernel)
set_option maxRecDepth 20000 in
theorem gX11_isUnlike_X11_sumOf : GoodIn wsX11_isUnlike (wsV RX11 200 RX11 yX11_sumOf wsX11_sumOf) := goodIn_app (goodIn_of _ (by decide +kernel)) ggX11_isUnlike_X11_sumOf
theorem dX11_isUnlike_0 : decode cX11_isUnlike 0 = .ok (.bipush 17, 2) := by decide +kernel
theorem dX11_isUnlike_2 : decode cX11_isUnlike 2 = .ok (.istore_n 1, 1) := by decide +kernel
theorem dX11_isUnlike_3 : decode cX11_isUnlike 3 = .ok (.iconst 0, 1) := by decide +kernel
theorem dX11_isUnlike_4 : decode cX11_isUnlike 4 = .ok (.istore_n 2, 1) := by decide +kernel
theorem dX11_isUnlike_5 : decode cX11_isUnlike 5 = .ok (.iload_n 2, 1) := by decide +kernel
theorem dX11_isUnlike_6 : decode cX11_isUnlike 6 = .ok (.aload_n 0, 1) := by decide +kernel
theorem dX11_isUnlike_7 : decode cX11_isUnlike 7 = .ok (.getfield 148, 3) := by decide +kernel
theorem dX11_isUnlike_10 : decode cX11_isUnlike 10 = .ok (.if_icmp .ge 22, 3) := by decide +kernel
theorem dX11_isUnlike_13 : decode cX11_isUnlike 13 = .ok (.aload_n 0, 1) := by decide +kernel
theorem dX11_isUnlike_14 : decode cX11_isUnlike 14 = .ok (.iload_n 1, 1) := by decide +kernel
theorem dX11_isUnlike_15 : decode cX11_isUnlike 15 = .ok (.i2l, 1) := by decide +kernel
theorem dX11_isUnlike_16 : decode cX11_isUnlike 16 = .ok (.aload_n 0, 1) := by decide +kernel
theorem dX11_isUnlike_17 : decode cX11_isUnlike 17 = .ok (.getfield 123, 3) := by decide +kernel
theorem dX11_isUnlike_20 : decode cX11_isUnlike 20 = .ok (.iload_n 2, 1) := by decide +kernel
theorem dX11_isUnlike_21 : decode cX11_isUnlike 21 = .ok (.laload, 1) := by decide +kernel
theorem dX11_isUnlike_22 : decode cX11_isUnlike 22 = .ok (.invokevirtual 200, 3) := by decide +kernel
theorem dX11_isUnlike_25 : decode cX11_isUnlike 25 = .ok (.istore_n 1, 1) := by decide +kernel
theorem dX11_isUnlike_26 : decode cX11_isUnlike 26 = .ok (.iinc 2 1, 3) := by decide +kernel
theorem dX11_isUnlike_29 : decode cX11_isUnlike 29 = .ok (.goto (-24), 3) := by decide +kernel
theorem dX11_isUnlike_32 : decode cX11_isUnlike 32 = .ok (.iload_n 1, 1) := by decide +kernel
theorem dX11_isUnlike_33 : decode cX11_isUnlike 33 = .ok (.i2l, 1) := by decide +kernel
theorem dX11_isUnlike_34 : decode cX11_isUnlike 34 = .ok (.aload_n 0, 1) := by decide +kernel
theorem dX11_isUnlike_35 : decode cX11_isUnlike 35 = .ok (.getfield 274, 3) := by decide +kernel
theorem dX11_isUnlike_38 : decode cX11_isUnlike 38 = .ok (.lcmp, 1) := by decide +kernel
theorem dX11_isUnlike_39 : decode cX11_isUnlike 39 = .ok (.ifCond .eq 7, 3) := by decide +kernel
theorem dX11_isUnlike_42 : decode cX11_isUnlike 42 = .ok (.iconst 1, 1) := by decide +kernel
theorem dX11_isUnlike_43 : decode cX11_isUnlike 43 = .ok (.goto 4, 3) := by decide +kernel
theorem dX11_isUnlike_46 : decode cX11_isUnlike 46 = .ok (.iconst 0, 1) := by decide +kernel
theorem dX11_isUnlike_47 : decode cX11_isUnlike 47 = .ok (.ireturn, 1) := by decide +kernel
set_option maxRecDepth 20000 in
theorem ggX11_opened_X11_takeFields : GoodIn wsX11_opened wsX11_takeFields := goodIn_r _ [23, 4, 11, 1, 18, 24, 25, 15, 26, 27, 28, 29, 30, 31, 22, 32, 33, 34, 35, 36, 37, 38, 39, 40, 41, 42, 43, 44, 45, 46, 47, 48, 49, 78, 79, 80, 81, 82, 83, 84, 85, 86, 87, 88, 89, 90, 91, 92, 93, 94, 95, 96, 97, 98, 99, 100, 101, 102, 103, 104, 105, 106, 107, 108, 109, 110, 111, 112, 113, 114, 115, 116, 117, 118, 119, 120, 121, 122, 123, 124, 125, 126, 127, 128, 129, 130, 131, 132, 133, 134, 135] (by decide +kernel) (by decide +kernel)
set_option maxRecDepth 20000 in
theorem gX11_opened_X11_takeFields : GoodIn wsX11_opened (wsV RX11 286 RX11 yX11_takeFields wsX11_takeFields) := goodIn_app (goodIn_of _ (by decide +kernel)) ggX11_opened_X11_takeFields
set_option maxRecDepth 20000 in
theorem ggX11_opened_X11_open : GoodIn wsX11_opened wsX11_open := goodIn_r _ [53, 11, 25, 13, 54, 55, 16, 5, 17, 15, 27, 24, 56, 57, 58, 22, 59, 26, 60, 61, 62, 63, 64, 65, 66, 67, 78, 79, 80, 81, 82, 83, 84, 85, 86, 87, 88, 89, 90, 91, 92, 93, 94, 95, 96, 97, 98, 99, 100, 101, 102, 103, 104, 105, 106, 107, 108, 109, 110, 111, 112, 113, 114, 115, 116, 117, 118, 119, 120, 121, 122, 123, 124, 125, 126, 127, 128, 129, 130, 131, 132, 133, 134, 135] (by decide +kernel) (by decide +kernel)
set_option maxRecDepth 20000 in
theorem gX11_opened_X11_open : GoodIn wsX11_opened (wsV RX11 289 RX11 yX11_open wsX11_open) := goodIn_app (goodIn_of _ (by decide +kernel)) ggX11_opened_X11_open
set_option maxRecDepth 20000 in
theorem ggX11_opened_X11_isUnlike : GoodIn wsX11_opened wsX11_isUnlike := goodIn_r _ [71, 11, 13, 28, 72, 73, 74, 22, 75, 76, 77, 78, 79, 80, 81, 82, 83, 84, 85, 86, 87, 88, 89, 90, 91, 92, 93, 94, 95, 96, 97, 98, 99, 100, 101, 102, 103, 104, 105, 106, 107, 108, 109, 110, 111, 112, 113, 114, 115, 116, 117, 118, 119, 120, 121, 122, 123, 124, 125, 126, 127, 128, 129, 130, 131, 132, 133, 134, 135] (by decide +kernel) (by decide +kernel)
set_option maxRecDepth 20000 in
theorem gX11_opened_X11_isUnlike : GoodIn wsX11_opened (wsV RX11 292 RX11 yX11_isUnlike wsX11_isUnlike) := goodIn_app (goodIn_of _ (by decide +kernel)) ggX11_opened_X11_isUnlike
theorem dX11_opened_0 : decode cX11_opened 0 = .ok (.aload_n 0, 1) := by decide +kernel
theorem dX11_opened_1 : decode cX11_opened 1 = .ok (.iload_n 1, 1) := by decide +kernel
theorem dX11_opened_2 : decode cX11_opened 2 = .ok (.iload_n 2, 1) := by decide +kernel
theorem dX11_opened_3 : decode cX11_opened 3 = .ok (.invokevirtual 286, 3) := by decide +kernel
theorem dX11_opened_6 : decode cX11_opened 6 = .ok (.aload_n 0, 1) := by decide +kernel
theorem dX11_opened_7 : decode cX11_opened 7 = .ok (.getfield 262, 3) := by decide +kernel
theorem dX11_opened_10 : decode cX11_opened 10 = .ok (.ifCond .eq 5, 3) := by decide +kernel
theorem dX11_opened_13 : decode cX11_opened 13 = .ok (.iconst 5, 1) := by decide +kernel
theorem dX11_opened_14 : decode cX11_opened 14 = .ok (.ireturn, 1) := by decide +kernel
theorem dX11_opened_15 : decode cX11_opened 15 = .ok (.iload_n 2, 1) := by decide +kernel
theorem dX11_opened_16 : decode cX11_opened 16 = .ok (.ifCond .le 27, 3) := by decide +kernel
theorem dX11_opened_19 : decode cX11_opened 19 = .ok (.aload_n 0, 1) := by decide +kernel
theorem dX11_opened_20 : decode cX11_opened 20 = .ok (.getfield 87, 3) := by decide +kernel
theorem dX11_opened_23 : decode cX11_opened 23 = .ok (.iload_n 3, 1) := by decide +kernel
theorem dX11_opened_24 : decode cX11_opened 24 = .ok (.baload, 1) := by decide +kernel
theorem dX11_opened_25 : decode cX11_opened 25 = .ok (.ifCond .eq 16, 3) := by decide +kernel
theorem dX11_opened_28 : decode cX11_opened 28 = .ok (.aload_n 0, 1) := by decide +kernel
theorem dX11_opened_29 : decode cX11_opened 29 = .ok (.getfield 93, 3) := by decide +kernel
theorem dX11_opened_32 : decode cX11_opened 32 = .ok (.iload_n 3, 1) := by decide +kernel
theorem dX11_opened_33 : decode cX11_opened 33 = .ok (.iaload, 1) := by decide +kernel
theorem dX11_opened_34 : decode cX11_opened 34 = .ok (.aload_n 0, 1) := by decide +kernel
theorem dX11_opened_35 : decode cX11_opened 35 = .ok (.getfield 271, 3) := by decide +kernel
theorem dX11_opened_38 : decode cX11_opened 38 = .ok (.if_icmp .eq 5, 3) := by decide +kernel
theorem dX11_opened_41 : decode cX11_opened 41 = .ok (.iconst 3, 1) := by decide +kernel
theorem dX11_opened_42 : decode cX11_opened 42 = .ok (.ireturn, 1) := by decide +kernel
theorem dX11_opened_43 : decode cX11_opened 43 = .ok (.aload_n 0, 1) := by decide +kernel
theorem dX11_opened_44 : decode cX11_opened 44 = .ok (.getfield 87, 3) := by decide +kernel
theorem dX11_opened_47 : decode cX11_opened 47 = .ok (.iload_n 3, 1) := by decide +kernel
theorem dX11_opened_48 : decode cX11_opened 48 = .ok (.baload, 1) := by decide +kernel
theorem dX11_opened_49 : decode cX11_opened 49 = .ok (.ifCond .eq 16, 3) := by decide +kernel
theorem dX11_opened_52 : decode cX11_opened 52 = .ok (.iload 4, 2) := by decide +kernel
theorem dX11_opened_54 : decode cX11_opened 54 = .ok (.aload_n 0, 1) := by decide +kernel
theorem dX11_opened_55 : decode cX11_opened 55 = .ok (.getfield 90, 3) := by decide +kernel
theorem dX11_opened_58 : decode cX11_opened 58 = .ok (.iload_n 3, 1) := by decide +kernel
theorem dX11_opened_59 : decode cX11_opened 59 = .ok (.iaload, 1) := by decide +kernel
theorem dX11_opened_60 : decode cX11_opened 60 = .ok (.if_icmp .gt 5, 3) := by decide +kernel
theorem dX11_opened_63 : decode cX11_opened 63 = .ok (.iconst 1, 1) := by decide +kernel
theorem dX11_opened_64 : decode cX11_opened 64 = .ok (.ireturn, 1) := by decide +kernel
theorem dX11_opened_65 : decode cX11_opened 65 = .ok (.iload_n 2, 1) := by decide +kernel
theorem dX11_opened_66 : decode cX11_opened 66 = .ok (.ifCond .le 21, 3) := by decide +kernel
theorem dX11_opened_69 : decode cX11_opened 69 = .ok (.iload 4, 2) := by decide +kernel
theorem dX11_opened_71 : decode cX11_opened 71 = .ok (.aload_n 0, 1) := by decide +kernel
theorem dX11_opened_72 : decode cX11_opened 72 = .ok (.getfield 90, 3) := by decide +kernel
theorem dX11_opened_75 : decode cX11_opened 75 = .ok (.iload_n 3, 1) := by decide +kernel
theorem dX11_opened_76 : decode cX11_opened 76 = .ok (.iaload, 1) := by decide +kernel
theorem dX11_opened_77 : decode cX11_opened 77 = .ok (.aload_n 0, 1) := by decide +kernel
theorem dX11_opened_78 : decode cX11_opened 78 = .ok (.getfield 141, 3) := by decide +kernel
theorem dX11_opened_81 : decode cX11_opened 81 = .ok (.iadd, 1) := by decide +kernel
theorem dX11_opened_82 : decode cX11_opened 82 = .ok (.if_icmp .le 5, 3) := by decide +kernel
theorem dX11_opened_85 : decode cX11_opened 85 = .ok (.iconst 2, 1) := by decide +kernel
theorem dX11_opened_86 : decode cX11_opened 86 = .ok (.ireturn, 1) := by decide +kernel
theorem dX11_opened_87 : decode cX11_opened 87 = .ok (.aload_n 0, 1) := by decide +kernel
theorem dX11_opened_88 : decode cX11_opened 88 = .ok (.iload_n 3, 1) := by decide +kernel
theorem dX11_opened_89 : decode cX11_opened 89 = .ok (.iload 4, 2) := by decide +kernel
theorem dX11_opened_91 : decode cX11_opened 91 = .ok (.invokevirtual 289, 3) := by decide +kernel
theorem dX11_opened_94 : decode cX11_opened 94 = .ok (.iload_n 2, 1) := by decide +kernel
theorem dX11_opened_95 : decode cX11_opened 95 = .ok (.ifCond .le 12, 3) := by decide +kernel
theorem dX11_opened_98 : decode cX11_opened 98 = .ok (.aload_n 0, 1) := by decide +kernel
theorem dX11_opened_99 : decode cX11_opened 99 = .ok (.invokevirtual 292, 3) := by decide +kernel
theorem dX11_opened_102 : decode cX11_opened 102 = .ok (.ifCond .eq 5, 3) := by decide +kernel
theorem dX11_opened_105 : decode cX11_opened 105 = .ok (.iconst 4, 1) := by decide +kernel
theorem dX11_opened_106 : decode cX11_opened 106 = .ok (.ireturn, 1) := by decide +kernel
theorem dX11_opened_107 : decode cX11_opened 107 = .ok (.aload_n 0, 1) := by decide +kernel
theorem dX11_opened_108 : decode cX11_opened 108 = .ok (.iload_n 2, 1) := by decide +kernel
theorem dX11_opened_109 : decode cX11_opened 109 = .ok (.ifCond .le 12, 3) := by decide +kernel
theorem dX11_opened_112 : decode cX11_opened 112 = .ok (.aload_n 0, 1) := by decide +kernel
theorem dX11_opened_113 : decode cX11_opened 113 = .ok (.getfield 90, 3) := by decide +kernel
theorem dX11_opened_116 : decode cX11_opened 116 = .ok (.iload_n 3, 1) := by decide +kernel
theorem dX11_opened_117 : decode cX11_opened 117 = .ok (.iaload, 1) := by decide +kernel
theorem dX11_opened_118 : decode cX11_opened 118 = .ok (.goto 4, 3) := by decide +kernel
theorem dX11_opened_121 : decode cX11_opened 121 = .ok (.iconst (-1), 1) := by decide +kernel
theorem dX11_opened_122 : decode cX11_opened 122 = .ok (.putfield 296, 3) := by decide +kernel
theorem dX11_opened_125 : decode cX11_opened 125 = .ok (.aload_n 0, 1) := by decide +kernel
theorem dX11_opened_126 : decode cX11_opened 126 = .ok (.iload_n 3, 1) := by decide +kernel
theorem dX11_opened_127 : decode cX11_opened 127 = .ok (.putfield 299, 3) := by decide +kernel
theorem dX11_opened_130 : decode cX11_opened 130 = .ok (.aload_n 0, 1) := by decide +kernel
theorem dX11_opened_131 : decode cX11_opened 131 = .ok (.iload 4, 2) := by decide +kernel
theorem dX11_opened_133 : decode cX11_opened 133 = .ok (.putfield 302, 3) := by decide +kernel
theorem dX11_opened_136 : decode cX11_opened 136 = .ok (.aload_n 0, 1) := by decide +kernel
theorem dX11_opened_137 : decode cX11_opened 137 = .ok (.dup, 1) := by decide +kernel
theorem dX11_opened_138 : decode cX11_opened 138 = .ok (.getfield 305, 3) := by decide +kernel
theorem dX11_opened_141 : decode cX11_opened 141 = .ok (.iconst 1, 1) := by decide +kernel
theorem dX11_opened_142 : decode cX11_opened 142 = .ok (.iadd, 1) := by decide +kernel
theorem dX11_opened_143 : decode cX11_opened 143 = .ok (.putfield 305, 3) := by decide +kernel
theorem dX11_opened_146 : decode cX11_opened 146 = .ok (.aload_n 0, 1) := by decide +kernel
theorem dX11_opened_147 : decode cX11_opened 147 = .ok (.getfield 87, 3) := by decide +kernel
theorem dX11_opened_150 : decode cX11_opened 150 = .ok (.iload_n 3, 1) := by decide +kernel
theorem dX11_opened_151 : decode cX11_opened 151 = .ok (.iconst 1, 1) := by decide +kernel
theorem dX11_opened_152 : decode cX11_opened 152 = .ok (.bastore, 1) := by decide +kernel
theorem dX11_opened_153 : decode cX11_opened 153 = .ok (.aload_n 0, 1) := by decide +kernel
theorem dX11_opened_154 : decode cX11_opened 154 = .ok (.getfield 90, 3) := by decide +kernel
theorem dX11_opened_157 : decode cX11_opened 157 = .ok (.iload_n 3, 1) := by decide +kernel
theorem dX11_opened_158 : decode cX11_opened 158 = .ok (.iload 4, 2) := by decide +kernel
theorem dX11_opened_160 : decode cX11_opened 160 = .ok (.iastore, 1) := by decide +kernel
theorem dX11_opened_161 : decode cX11_opened 161 = .ok (.iconst 0, 1) := by decide +kernel
theorem dX11_opened_162 : decode cX11_opened 162 = .ok (.istore 5, 2) := by decide +kernel
theorem dX11_opened_164 : decode cX11_opened 164 = .ok (.iload 5, 2) := by decide +kernel
theorem dX11_opened_166 : decode cX11_opened 166 = .ok (.aload_n 0, 1) := by decide +kernel
theorem dX11_opened_167 : decode cX11_opened 167 = .ok (.getfield 148, 3) := by decide +kernel
theorem dX11_opened_170 : decode cX11_opened 170 = .ok (.if_icmp .ge 94, 3) := by decide +kernel
theorem dX11_opened_173 : decode cX11_opened 173 = .ok (.aload_n 0, 1) := by decide +kernel
theorem dX11_opened_174 : decode cX11_opened 174 = .ok (.getfield 102, 3) := by decide +kernel
theorem dX11_opened_177 : decode cX11_opened 177 = .ok (.iload 5, 2) := by decide +kernel
theorem dX11_opened_179 : decode cX11_opened 179 = .ok (.aload_n 0, 1) := by decide +kernel
theorem dX11_opened_180 : decode cX11_opened 180 = .ok (.getfield 123, 3) := by decide +kernel
theorem dX11_opened_183 : decode cX11_opened 183 = .ok (.iload 5, 2) := by decide +kernel
theorem dX11_opened_185 : decode cX11_opened 185 = .ok (.laload, 1) := by decide +kernel
theorem dX11_opened_186 : decode cX11_opened 186 = .ok (.lastore, 1) := by decide +kernel
theorem dX11_opened_187 : decode cX11_opened 187 = .ok (.aload_n 0, 1) := by decide +kernel
theorem dX11_opened_188 : decode cX11_opened 188 = .ok (.getfield 105, 3) := by decide +kernel
theorem dX11_opened_191 : decode cX11_opened 191 = .ok (.iload 5, 2) := by decide +kernel
theorem dX11_opened_193 : decode cX11_opened 193 = .ok (.aload_n 0, 1) := by decide +kernel
theorem dX11_opened_194 : decode cX11_opened 194 = .ok (.getfield 111, 3) := by decide +kernel
theorem dX11_opened_197 : decode cX11_opened 197 = .ok (.iload 5, 2) := by decide +kernel
theorem dX11_opened_199 : decode cX11_opened 199 = .ok (.iaload, 1) := by decide +kernel
theorem dX11_opened_200 : decode cX11_opened 200 = .ok (.iastore, 1) := by decide +kernel
theorem dX11_opened_201 : decode cX11_opened 201 = .ok (.aload_n 0, 1) := by decide +kernel
theorem dX11_opened_202 : decode cX11_opened 202 = .ok (.getfield 99, 3) := by decide +kernel
theorem dX11_opened_205 : decode cX11_opened 205 = .ok (.bipush 8, 2) := by decide +kernel
theorem dX11_opened_207 : decode cX11_opened 207 = .ok (.iload_n 3, 1) := by decide +kernel
theorem dX11_opened_208 : decode cX11_opened 208 = .ok (.imul, 1) := by decide +kernel
theorem dX11_opened_209 : decode cX11_opened 209 = .ok (.iload 5, 2) := by decide +kernel
theorem dX11_opened_211 : decode cX11_opened 211 = .ok (.iadd, 1) := by decide +kernel
theorem dX11_opened_212 : decode cX11_opened 212 = .ok (.aload_n 0, 1) := by decide +kernel
theorem dX11_opened_213 : decode cX11_opened 213 = .ok (.getfield 123, 3) := by decide +kernel
theorem dX11_opened_216 : decode cX11_opened 216 = .ok (.iload 5, 2) := by decide +kernel
theorem dX11_opened_218 : decode cX11_opened 218 = .ok (.laload, 1) := by decide +kernel
theorem dX11_opened_219 : decode cX11_opened 219 = .ok (.lastore, 1) := by decide +kernel
theorem dX11_opened_220 : decode cX11_opened 220 = .ok (.aload_n 0, 1) := by decide +kernel
theorem dX11_opened_221 : decode cX11_opened 221 = .ok (.getfield 96, 3) := by decide +kernel
theorem dX11_opened_224 : decode cX11_opened 224 = .ok (.bipush 8, 2) := by decide +kernel
theorem dX11_opened_226 : decode cX11_opened 226 = .ok (.iload_n 3, 1) := by decide +kernel
theorem dX11_opened_227 : decode cX11_opened 227 = .ok (.imul, 1) := by decide +kernel
theorem dX11_opened_228 : decode cX11_opened 228 = .ok (.iload 5, 2) := by decide +kernel
theorem dX11_opened_230 : decode cX11_opened 230 = .ok (.iadd, 1) := by decide +kernel
theorem dX11_opened_231 : decode cX11_opened 231 = .ok (.iload_n 2, 1) := by decide +kernel
theorem dX11_opened_232 : decode cX11_opened 232 = .ok (.ifCond .ne 13, 3) := by decide +kernel
theorem dX11_opened_235 : decode cX11_opened 235 = .ok (.aload_n 0, 1) := by decide +kernel
theorem dX11_opened_236 : decode cX11_opened 236 = .ok (.getfield 120, 3) := by decide +kernel
theorem dX11_opened_239 : decode cX11_opened 239 = .ok (.iload 5, 2) := by decide +kernel
theorem dX11_opened_241 : decode cX11_opened 241 = .ok (.iaload, 1) := by decide +kernel
theorem dX11_opened_242 : decode cX11_opened 242 = .ok (.goto 15, 3) := by decide +kernel
theorem dX11_opened_245 : decode cX11_opened 245 = .ok (.aload_n 0, 1) := by decide +kernel
theorem dX11_opened_246 : decode cX11_opened 246 = .ok (.getfield 96, 3) := by decide +kernel
theorem dX11_opened_249 : decode cX11_opened 249 = .ok (.bipush 8, 2) := by decide +kernel
theorem dX11_opened_251 : decode cX11_opened 251 = .ok (.iload_n 3, 1) := by decide +kernel
theorem dX11_opened_252 : decode cX11_opened 252 = .ok (.imul, 1) := by decide +kernel
theorem dX11_opened_253 : decode cX11_opened 253 = .ok (.iload 5, 2) := by decide +kernel
theorem dX11_opened_255 : decode cX11_opened 255 = .ok (.iadd, 1) := by decide +kernel
theorem dX11_opened_256 : decode cX11_opened 256 = .ok (.iaload, 1) := by decide +kernel
theorem dX11_opened_257 : decode cX11_opened 257 = .ok (.iastore, 1) := by decide +kernel
theorem dX11_opened_258 : decode cX11_opened 258 = .ok (.iinc 5 1, 3) := by decide +kernel
theorem dX11_opened_261 : decode cX11_opened 261 = .ok (.goto (-97), 3) := by decide +kernel
theorem dX11_opened_264 : decode cX11_opened 264 = .ok (.aload_n 0, 1) := by decide +kernel
theorem dX11_opened_265 : decode cX11_opened 265 = .ok (.getfield 93, 3) := by decide +kernel
theorem dX11_opened_268 : decode cX11_opened 268 = .ok (.iload_n 3, 1) := by decide +kernel
theorem dX11_opened_269 : decode cX11_opened 269 = .ok (.aload_n 0, 1) := by decide +kernel
theorem dX11_opened_270 : decode cX11_opened 270 = .ok (.getfield 271, 3) := by decide +kernel
theorem dX11_opened_273 : decode cX11_opened 273 = .ok (.iastore, 1) := by decide +kernel
theorem dX11_opened_274 : decode cX11_opened 274 = .ok (.iconst 0, 1) := by decide +kernel
theorem dX11_opened_275 : decode cX11_opened 275 = .ok (.ireturn, 1) := by decide +kernel
set_option maxRecDepth 20000 in
theorem ggX11_answered_X11_takeEnd : GoodIn wsX11_answered wsX11_takeEnd := goodIn_r _ [10, 1, 11, 12, 13, 14, 15, 16, 9, 17, 18, 19, 20, 21, 22, 23, 30, 31, 32, 33, 34, 35, 36, 37, 38, 39, 40, 41, 42, 43, 44, 45, 46, 47, 48, 49, 50, 51, 52, 53, 54, 55, 56, 57, 58, 59, 60, 61, 62, 63, 64, 65, 66, 67, 68, 69, 70, 71, 72, 73, 74, 75, 76, 77, 78, 79, 80, 81, 82, 83, 84, 85, 86, 87] (by decide +kernel) (by decide +kernel)
set_option maxRecDepth 20000 in
theorem gX11_answered_X11_takeEnd : GoodIn wsX11_answered (wsV RX11 278 RX11 yX11_takeEnd wsX11_takeEnd) := goodIn_app (goodIn_of _ (by decide +kernel)) ggX11_answered_X11_takeEnd
set_option maxRecDepth 20000 in
theorem ggX11_answered_X11_drop : GoodIn wsX11_answered wsX11_drop := goodIn_r _ [27, 3, 4, 28, 29, 30, 31, 32, 33, 34, 35, 36, 37, 38, 39, 40, 41, 42, 43, 44, 45, 46, 47, 48, 49, 50, 51, 52, 53, 54, 55, 56, 57, 58, 59, 60, 61, 62, 63, 64, 65, 66, 67, 68, 69, 70, 71, 72, 73, 74, 75, 76, 77, 78, 79, 80, 81, 82, 83, 84, 85, 86, 87] (by decide +kernel) (by decide +kernel)
set_option maxRecDepth 20000 in
theorem gX11_answered_X11_drop : GoodIn wsX11_answered (wsV RX11 253 RX11 yX11_drop wsX11_drop) := goodIn_app (goodIn_of _ (by decide +kernel)) ggX11_answered_X11_drop
theorem dX11_answered_0 : decode cX11_answered 0 = .ok (.aload_n 0, 1) := by decide +kernel
theorem dX11_answered_1 : decode cX11_answered 1 = .ok (.iload_n 1, 1) := by decide +kernel
theorem dX11_answered_2 : decode cX11_answered 2 = .ok (.iconst 1, 1) := by decide +kernel
theorem dX11_answered_3 : decode cX11_answered 3 = .ok (.invokevirtual 278, 3) := by decide +kernel
theorem dX11_answered_6 : decode cX11_answered 6 = .ok (.aload_n 0, 1) := by decide +kernel
theorem dX11_answered_7 : decode cX11_answered 7 = .ok (.getfield 262, 3) := by decide +kernel
theorem dX11_answered_10 : decode cX11_answered 10 = .ok (.ifCond .eq 5, 3) := by decide +kernel
theorem dX11_answered_13 : decode cX11_answered 13 = .ok (.iconst 5, 1) := by decide +kernel
theorem dX11_answered_14 : decode cX11_answered 14 = .ok (.ireturn, 1) := by decide +kernel
theorem dX11_answered_15 : decode cX11_answered 15 = .ok (.iload_n 2, 1) := by decide +kernel
theorem dX11_answered_16 : decode cX11_answered 16 = .ok (.iconst 3, 1) := by decide +kernel
theorem dX11_answered_17 : decode cX11_answered 17 = .ok (.if_icmp .le 31, 3) := by decide +kernel
theorem dX11_answered_20 : decode cX11_answered 20 = .ok (.aload_n 0, 1) := by decide +kernel
theorem dX11_answered_21 : decode cX11_answered 21 = .ok (.getfield 35, 3) := by decide +kernel
theorem dX11_answered_24 : decode cX11_answered 24 = .ok (.iload_n 3, 1) := by decide +kernel
theorem dX11_answered_25 : decode cX11_answered 25 = .ok (.baload, 1) := by decide +kernel
theorem dX11_answered_26 : decode cX11_answered 26 = .ok (.ifCond .eq 8, 3) := by decide +kernel
theorem dX11_answered_29 : decode cX11_answered 29 = .ok (.bipush 7, 2) := by decide +kernel
theorem dX11_answered_31 : decode cX11_answered 31 = .ok (.goto 5, 3) := by decide +kernel
theorem dX11_answered_34 : decode cX11_answered 34 = .ok (.bipush 6, 2) := by decide +kernel
theorem dX11_answered_36 : decode cX11_answered 36 = .ok (.istore 5, 2) := by decide +kernel
theorem dX11_answered_38 : decode cX11_answered 38 = .ok (.aload_n 0, 1) := by decide +kernel
theorem dX11_answered_39 : decode cX11_answered 39 = .ok (.getfield 35, 3) := by decide +kernel
theorem dX11_answered_42 : decode cX11_answered 42 = .ok (.iload_n 3, 1) := by decide +kernel
theorem dX11_answered_43 : decode cX11_answered 43 = .ok (.iconst 1, 1) := by decide +kernel
theorem dX11_answered_44 : decode cX11_answered 44 = .ok (.bastore, 1) := by decide +kernel
theorem dX11_answered_45 : decode cX11_answered 45 = .ok (.iload 5, 2) := by decide +kernel
theorem dX11_answered_47 : decode cX11_answered 47 = .ok (.ireturn, 1) := by decide +kernel
theorem dX11_answered_48 : decode cX11_answered 48 = .ok (.iconst 0, 1) := by decide +kernel
theorem dX11_answered_49 : decode cX11_answered 49 = .ok (.istore 5, 2) := by decide +kernel
theorem dX11_answered_51 : decode cX11_answered 51 = .ok (.iload 5, 2) := by decide +kernel
theorem dX11_answered_53 : decode cX11_answered 53 = .ok (.aload_n 0, 1) := by decide +kernel
theorem dX11_answered_54 : decode cX11_answered 54 = .ok (.getfield 39, 3) := by decide +kernel
theorem dX11_answered_57 : decode cX11_answered 57 = .ok (.iload_n 3, 1) := by decide +kernel
theorem dX11_answered_58 : decode cX11_answered 58 = .ok (.iaload, 1) := by decide +kernel
theorem dX11_answered_59 : decode cX11_answered 59 = .ok (.if_icmp .ge 39, 3) := by decide +kernel
theorem dX11_answered_62 : decode cX11_answered 62 = .ok (.aload_n 0, 1) := by decide +kernel
theorem dX11_answered_63 : decode cX11_answered 63 = .ok (.getfield 42, 3) := by decide +kernel
theorem dX11_answered_66 : decode cX11_answered 66 = .ok (.bipush 9, 2) := by decide +kernel
theorem dX11_answered_68 : decode cX11_answered 68 = .ok (.iload_n 3, 1) := by decide +kernel
theorem dX11_answered_69 : decode cX11_answered 69 = .ok (.imul, 1) := by decide +kernel
theorem dX11_answered_70 : decode cX11_answered 70 = .ok (.iload 5, 2) := by decide +kernel
theorem dX11_answered_72 : decode cX11_answered 72 = .ok (.iadd, 1) := by decide +kernel
theorem dX11_answered_73 : decode cX11_answered 73 = .ok (.iaload, 1) := by decide +kernel
theorem dX11_answered_74 : decode cX11_answered 74 = .ok (.ldc 207, 2) := by decide +kernel
theorem dX11_answered_76 : decode cX11_answered 76 = .ok (.irem, 1) := by decide +kernel
theorem dX11_answered_77 : decode cX11_answered 77 = .ok (.iload 4, 2) := by decide +kernel
theorem dX11_answered_79 : decode cX11_answered 79 = .ok (.if_icmp .ne 13, 3) := by decide +kernel
theorem dX11_answered_82 : decode cX11_answered 82 = .ok (.aload_n 0, 1) := by decide +kernel
theorem dX11_answered_83 : decode cX11_answered 83 = .ok (.iload_n 3, 1) := by decide +kernel
theorem dX11_answered_84 : decode cX11_answered 84 = .ok (.iload 5, 2) := by decide +kernel
theorem dX11_answered_86 : decode cX11_answered 86 = .ok (.invokevirtual 253, 3) := by decide +kernel
theorem dX11_answered_89 : decode cX11_answered 89 = .ok (.bipush 6, 2) := by decide +kernel
theorem dX11_answered_91 : decode cX11_answered 91 = .ok (.ireturn, 1) := by decide +kernel
theorem dX11_answered_92 : decode cX11_answered 92 = .ok (.iinc 5 1, 3) := by decide +kernel
theorem dX11_answered_95 : decode cX11_answered 95 = .ok (.goto (-44), 3) := by decide +kernel
theorem dX11_answered_98 : decode cX11_answered 98 = .ok (.bipush 7, 2) := by decide +kernel
theorem dX11_answered_100 : decode cX11_answered 100 = .ok (.ireturn, 1) := by decide +kernel
theorem dX11_isUnderWay_0 : decode cX11_isUnderWay 0 = .ok (.iload_n 1, 1) := by decide +kernel
theorem dX11_isUnderWay_1 : decode cX11_isUnderWay 1 = .ok (.ifCond .lt 24, 3) := by decide +kernel
theorem dX11_isUnderWay_4 : decode cX11_isUnderWay 4 = .ok (.iload_n 1, 1) := by decide +kernel
theorem dX11_isUnderWay_5 : decode cX11_isUnderWay 5 = .ok (.aload_n 0, 1) := by decide +kernel
theorem dX11_isUnderWay_6 : decode cX11_isUnderWay 6 = .ok (.getfield 204, 3) := by decide +kernel
theorem dX11_isUnderWay_9 : decode cX11_isUnderWay 9 = .ok (.if_icmp .ge 16, 3) := by decide +kernel
theorem dX11_isUnderWay_12 : decode cX11_isUnderWay 12 = .ok (.aload_n 0, 1) := by decide +kernel
theorem dX11_isUnderWay_13 : decode cX11_isUnderWay 13 = .ok (.getfield 69, 3) := by decide +kernel
theorem dX11_isUnderWay_16 : decode cX11_isUnderWay 16 = .ok (.iload_n 1, 1) := by decide +kernel
theorem dX11_isUnderWay_17 : decode cX11_isUnderWay 17 = .ok (.baload, 1) := by decide +kernel
theorem dX11_isUnderWay_18 : decode cX11_isUnderWay 18 = .ok (.ifCond .ne 7, 3) := by decide +kernel
theorem dX11_isUnderWay_21 : decode cX11_isUnderWay 21 = .ok (.iconst 1, 1) := by decide +kernel
theorem dX11_isUnderWay_22 : decode cX11_isUnderWay 22 = .ok (.goto 4, 3) := by decide +kernel
theorem dX11_isUnderWay_25 : decode cX11_isUnderWay 25 = .ok (.iconst 0, 1) := by decide +kernel
theorem dX11_isUnderWay_26 : decode cX11_isUnderWay 26 = .ok (.ireturn, 1) := by decide +kernel
set_option maxRecDepth 20000 in
theorem ggX11_deliver_X11_isUnderWay : GoodIn wsX11_deliver wsX11_isUnderWay := goodIn_r _ [11, 12, 13, 103, 104, 105, 106, 107, 108, 109, 110, 111, 112, 113, 114, 115, 116, 117, 118, 119, 120, 121, 122, 123, 124, 125, 126, 127, 128, 129, 130, 131, 132, 133, 134, 135, 136, 137, 138, 139, 140, 141, 142, 143, 144, 145, 146, 147, 148, 149, 150, 151, 152, 153, 154, 155, 156, 157, 158, 159, 160] (by decide +kernel) (by decide +kernel)
set_option maxRecDepth 20000 in
theorem gX11_deliver_X11_isUnderWay : GoodIn wsX11_deliver (wsV RX11 308 RX11 yX11_isUnderWay wsX11_isUnderWay) := goodIn_app (goodIn_of _ (by decide +kernel)) ggX11_deliver_X11_isUnderWay
set_option maxRecDepth 20000 in
theorem ggX11_deliver_X11_take : GoodIn wsX11_deliver wsX11_take := goodIn_r _ [17, 2, 4, 5, 18, 19, 103, 104, 105, 106, 107, 108, 109, 110, 111, 112, 113, 114, 115, 116, 117, 118, 119, 120, 121, 122, 123, 124, 125, 126, 127, 128, 129, 130, 131, 132, 133, 134, 135, 136, 137, 138, 139, 140, 141, 142, 143, 144, 145, 146, 147, 148, 149, 150, 151, 152, 153, 154, 155, 156, 157, 158, 159, 160] (by decide +kernel) (by decide +kernel)
set_option maxRecDepth 20000 in
theorem gX11_deliver_X11_take : GoodIn wsX11_deliver (wsV RX11 267 RX11 yX11_take wsX11_take) := goodIn_app (goodIn_of _ (by decide +kernel)) ggX11_deliver_X11_take
set_option maxRecDepth 20000 in
theorem ggX11_deliver_X11_answered : GoodIn wsX11_deliver wsX11_answered := goodIn_r _ [23, 5, 24, 25, 26, 27, 28, 29, 30, 10, 31, 2, 3, 19, 14, 15, 16, 17, 4, 18, 32, 33, 34, 35, 36, 37, 38, 39, 40, 41, 103, 104, 105, 106, 107, 108, 109, 110, 111, 112, 113, 114, 115, 116, 117, 118, 119, 120, 121, 122, 123, 124, 125, 126, 127, 128, 129, 130, 131, 132, 133, 134, 135, 136, 137, 138, 139, 140, 141, 142, 143, 144, 145, 146, 147, 148, 149, 150, 151, 152, 153, 154, 155, 156, 157, 158, 159, 160] (by decide +kernel) (by decide +kernel)
set_option maxRecDepth 20000 in
theorem gX11_deliver_X11_answered : GoodIn wsX11_deliver (wsV RX11 311 RX11 yX11_answered wsX11_answered) := goodIn_app (goodIn_of _ (by decide +kernel)) ggX11_deliver_X11_answered
set_option maxRecDepth 20000 in
theorem ggX11_deliver_X11_opened : GoodIn wsX11_deliver wsX11_opened := goodIn_r _ [45, 5, 46, 47, 48, 49, 50, 51, 52, 53, 54, 40, 55, 56, 57, 58, 59, 60, 61, 62, 63, 64, 10, 65, 66, 67, 68, 69, 70, 14, 15, 16, 17, 2, 4, 18, 19, 71, 72, 73, 74, 28, 29, 30, 31, 3, 32, 33, 34, 35, 75, 76, 77, 78, 79, 80, 81, 82, 83, 84, 85, 86, 87, 88, 89, 90, 91, 92, 93, 94, 95, 96, 97, 98, 99, 100, 101, 102, 103, 104, 105, 106, 107, 108, 109, 110, 111, 112, 113, 114, 115, 116, 117, 118, 119, 120, 121, 122, 123, 124, 125, 126, 127, 128, 129, 130, 131, 132, 133, 134, 135, 136, 137, 138, 139, 140, 141, 142, 143, 144, 145, 146, 147, 148, 149, 150, 151, 152, 153, 154, 155, 156, 157, 158, 159, 160] (by decide +kernel) (by decide +kernel)
set_option maxRecDepth 20000 in
theorem gX11_deliver_X11_opened : GoodIn wsX11_deliver (wsV RX11 314 RX11 yX11_opened wsX11_opened) := goodIn_app (goodIn_of _ (by decide +kernel)) ggX11_deliver_X11_opened
theorem dX11_deliver_0 : decode cX11_deliver 0 = .ok (.aload_n 0, 1) := by decide +kernel
theorem dX11_deliver_1 : decode cX11_deliver 1 = .ok (.iconst 0, 1) := by decide +kernel
theorem dX11_deliver_2 : decode cX11_deliver 2 = .ok (.putfield 145, 3) := by decide +kernel
theorem dX11_deliver_5 : decode cX11_deliver 5 = .ok (.aload_n 0, 1) := by decide +kernel
theorem dX11_deliver_6 : decode cX11_deliver 6 = .ok (.iload_n 1, 1) := by decide +kernel
theorem dX11_deliver_7 : decode cX11_deliver 7 = .ok (.invokevirtual 308, 3) := by decide +kernel
theorem dX11_deliver_10 : decode cX11_deliver 10 = .ok (.ifCond .ne 5, 3) := by decide +kernel
theorem dX11_deliver_13 : decode cX11_deliver 13 = .ok (.iconst (-1), 1) := by decide +kernel
theorem dX11_deliver_14 : decode cX11_deliver 14 = .ok (.ireturn, 1) := by decide +kernel
theorem dX11_deliver_15 : decode cX11_deliver 15 = .ok (.aload_n 0, 1) := by decide +kernel
theorem dX11_deliver_16 : decode cX11_deliver 16 = .ok (.iconst 0, 1) := by decide +kernel
theorem dX11_deliver_17 : decode cX11_deliver 17 = .ok (.putfield 256, 3) := by decide +kernel
theorem dX11_deliver_20 : decode cX11_deliver 20 = .ok (.aload_n 0, 1) := by decide +kernel
theorem dX11_deliver_21 : decode cX11_deliver 21 = .ok (.bipush 8, 2) := by decide +kernel
theorem dX11_deliver_23 : decode cX11_deliver 23 = .ok (.aload_n 0, 1) := by decide +kernel
theorem dX11_deliver_24 : decode cX11_deliver 24 = .ok (.getfield 48, 3) := by decide +kernel
theorem dX11_deliver_27 : decode cX11_deliver 27 = .ok (.iload_n 1, 1) := by decide +kernel
theorem dX11_deliver_28 : decode cX11_deliver 28 = .ok (.iaload, 1) := by decide +kernel
theorem dX11_deliver_29 : decode cX11_deliver 29 = .ok (.imul, 1) := by decide +kernel
theorem dX11_deliver_30 : decode cX11_deliver 30 = .ok (.putfield 259, 3) := by decide +kernel
theorem dX11_deliver_33 : decode cX11_deliver 33 = .ok (.aload_n 0, 1) := by decide +kernel
theorem dX11_deliver_34 : decode cX11_deliver 34 = .ok (.iconst 0, 1) := by decide +kernel
theorem dX11_deliver_35 : decode cX11_deliver 35 = .ok (.putfield 262, 3) := by decide +kernel
theorem dX11_deliver_38 : decode cX11_deliver 38 = .ok (.aload_n 0, 1) := by decide +kernel
theorem dX11_deliver_39 : decode cX11_deliver 39 = .ok (.iload_n 1, 1) := by decide +kernel
theorem dX11_deliver_40 : decode cX11_deliver 40 = .ok (.iconst 3, 1) := by decide +kernel
theorem dX11_deliver_41 : decode cX11_deliver 41 = .ok (.invokevirtual 267, 3) := by decide +kernel
theorem dX11_deliver_44 : decode cX11_deliver 44 = .ok (.l2i, 1) := by decide +kernel
theorem dX11_deliver_45 : decode cX11_deliver 45 = .ok (.istore_n 2, 1) := by decide +kernel
theorem dX11_deliver_46 : decode cX11_deliver 46 = .ok (.aload_n 0, 1) := by decide +kernel
theorem dX11_deliver_47 : decode cX11_deliver 47 = .ok (.iload_n 1, 1) := by decide +kernel
theorem dX11_deliver_48 : decode cX11_deliver 48 = .ok (.iconst 3, 1) := by decide +kernel
theorem dX11_deliver_49 : decode cX11_deliver 49 = .ok (.invokevirtual 267, 3) := by decide +kernel
theorem dX11_deliver_52 : decode cX11_deliver 52 = .ok (.l2i, 1) := by decide +kernel
theorem dX11_deliver_53 : decode cX11_deliver 53 = .ok (.istore_n 3, 1) := by decide +kernel
theorem dX11_deliver_54 : decode cX11_deliver 54 = .ok (.aload_n 0, 1) := by decide +kernel
theorem dX11_deliver_55 : decode cX11_deliver 55 = .ok (.iload_n 1, 1) := by decide +kernel
theorem dX11_deliver_56 : decode cX11_deliver 56 = .ok (.bipush 16, 2) := by decide +kernel
theorem dX11_deliver_58 : decode cX11_deliver 58 = .ok (.invokevirtual 267, 3) := by decide +kernel
theorem dX11_deliver_61 : decode cX11_deliver 61 = .ok (.l2i, 1) := by decide +kernel
theorem dX11_deliver_62 : decode cX11_deliver 62 = .ok (.istore 4, 2) := by decide +kernel
theorem dX11_deliver_64 : decode cX11_deliver 64 = .ok (.aload_n 0, 1) := by decide +kernel
theorem dX11_deliver_65 : decode cX11_deliver 65 = .ok (.getfield 66, 3) := by decide +kernel
theorem dX11_deliver_68 : decode cX11_deliver 68 = .ok (.iload_n 1, 1) := by decide +kernel
theorem dX11_deliver_69 : decode cX11_deliver 69 = .ok (.iload_n 2, 1) := by decide +kernel
theorem dX11_deliver_70 : decode cX11_deliver 70 = .ok (.iconst 5, 1) := by decide +kernel
theorem dX11_deliver_71 : decode cX11_deliver 71 = .ok (.if_icmp .le 7, 3) := by decide +kernel
theorem dX11_deliver_74 : decode cX11_deliver 74 = .ok (.iconst 5, 1) := by decide +kernel
theorem dX11_deliver_75 : decode cX11_deliver 75 = .ok (.goto 29, 3) := by decide +kernel
theorem dX11_deliver_78 : decode cX11_deliver 78 = .ok (.iload_n 2, 1) := by decide +kernel
theorem dX11_deliver_79 : decode cX11_deliver 79 = .ok (.iconst 2, 1) := by decide +kernel
theorem dX11_deliver_80 : decode cX11_deliver 80 = .ok (.if_icmp .le 15, 3) := by decide +kernel
theorem dX11_deliver_83 : decode cX11_deliver 83 = .ok (.aload_n 0, 1) := by decide +kernel
theorem dX11_deliver_84 : decode cX11_deliver 84 = .ok (.iload_n 1, 1) := by decide +kernel
theorem dX11_deliver_85 : decode cX11_deliver 85 = .ok (.iload_n 2, 1) := by decide +kernel
theorem dX11_deliver_86 : decode cX11_deliver 86 = .ok (.iload_n 3, 1) := by decide +kernel
theorem dX11_deliver_87 : decode cX11_deliver 87 = .ok (.iload 4, 2) := by decide +kernel
theorem dX11_deliver_89 : decode cX11_deliver 89 = .ok (.invokevirtual 311, 3) := by decide +kernel
theorem dX11_deliver_92 : decode cX11_deliver 92 = .ok (.goto 12, 3) := by decide +kernel
theorem dX11_deliver_95 : decode cX11_deliver 95 = .ok (.aload_n 0, 1) := by decide +kernel
theorem dX11_deliver_96 : decode cX11_deliver 96 = .ok (.iload_n 1, 1) := by decide +kernel
theorem dX11_deliver_97 : decode cX11_deliver 97 = .ok (.iload_n 2, 1) := by decide +kernel
theorem dX11_deliver_98 : decode cX11_deliver 98 = .ok (.iload_n 3, 1) := by decide +kernel
theorem dX11_deliver_99 : decode cX11_deliver 99 = .ok (.iload 4, 2) := by decide +kernel
theorem dX11_deliver_101 : decode cX11_deliver 101 = .ok (.invokevirtual 314, 3) := by decide +kernel
theorem dX11_deliver_104 : decode cX11_deliver 104 = .ok (.iastore, 1) := by decide +kernel
theorem dX11_deliver_105 : decode cX11_deliver 105 = .ok (.aload_n 0, 1) := by decide +kernel
theorem dX11_deliver_106 : decode cX11_deliver 106 = .ok (.getfield 66, 3) := by decide +kernel
theorem dX11_deliver_109 : decode cX11_deliver 109 = .ok (.iload_n 1, 1) := by decide +kernel
theorem dX11_deliver_110 : decode cX11_deliver 110 = .ok (.iaload, 1) := by decide +kernel
theorem dX11_deliver_111 : decode cX11_deliver 111 = .ok (.ireturn, 1) := by decide +kernel
set_option maxRecDepth 20000 in
theorem ggX11_lose_X11_isUnderWay : GoodIn wsX11_lose wsX11_isUnderWay := goodIn_r _ [7, 8, 2, 9, 10, 11, 12, 13, 14, 15, 16, 17, 18, 19, 20, 21, 22, 23, 24, 25, 26, 27, 28, 29, 30, 31, 32, 33, 34, 35, 36, 37, 38, 39, 40, 41, 42, 43, 44, 45, 46, 47, 48, 49, 50, 51, 52, 53, 54, 55, 56, 57, 58, 59, 60, 61, 62, 63, 64, 65, 66] (by decide +kernel) (by decide +kernel)
set_option maxRecDepth 20000 in
theorem gX11_lose_X11_isUnderWay : GoodIn wsX11_lose (wsV RX11 308 RX11 yX11_isUnderWay wsX11_isUnderWay) := goodIn_app (goodIn_of _ (by decide +kernel)) ggX11_lose_X11_isUnderWay
theorem dX11_lose_0 : decode cX11_lose 0 = .ok (.aload_n 0, 1) := by decide +kernel
theorem dX11_lose_1 : decode cX11_lose 1 = .ok (.iconst 0, 1) := by decide +kernel
theorem dX11_lose_2 : decode cX11_lose 2 = .ok (.putfield 145, 3) := by decide +kernel
theorem dX11_lose_5 : decode cX11_lose 5 = .ok (.aload_n 0, 1) := by decide +kernel
theorem dX11_lose_6 : decode cX11_lose 6 = .ok (.iload_n 1, 1) := by decide +kernel
theorem dX11_lose_7 : decode cX11_lose 7 = .ok (.invokevirtual 308, 3) := by decide +kernel
theorem dX11_lose_10 : decode cX11_lose 10 = .ok (.ifCond .ne 5, 3) := by decide +kernel
theorem dX11_lose_13 : decode cX11_lose 13 = .ok (.iconst (-1), 1) := by decide +kernel
theorem dX11_lose_14 : decode cX11_lose 14 = .ok (.ireturn, 1) := by decide +kernel
theorem dX11_lose_15 : decode cX11_lose 15 = .ok (.aload_n 0, 1) := by decide +kernel
theorem dX11_lose_16 : decode cX11_lose 16 = .ok (.getfield 69, 3) := by decide +kernel
theorem dX11_lose_19 : decode cX11_lose 19 = .ok (.iload_n 1, 1) := by decide +kernel
theorem dX11_lose_20 : decode cX11_lose 20 = .ok (.iconst 1, 1) := by decide +kernel
theorem dX11_lose_21 : decode cX11_lose 21 = .ok (.bastore, 1) := by decide +kernel
theorem dX11_lose_22 : decode cX11_lose 22 = .ok (.iconst 0, 1) := by decide +kernel
theorem dX11_lose_23 : decode cX11_lose 23 = .ok (.ireturn, 1) := by decide +kernel
set_option maxRecDepth 20000 in
theorem ggX11_twice_X11_isUnderWay : GoodIn wsX11_twice wsX11_isUnderWay := goodIn_r _ [16, 2, 9, 17, 18, 19, 20, 21, 22, 23, 24, 25, 26, 27, 28, 29, 30, 31, 32, 33, 34, 35, 36, 37, 38, 39, 40, 41, 42, 43, 44, 45, 46, 47, 48, 49, 50, 51, 52, 53, 54, 55, 56, 57, 58, 59, 60, 61, 62, 63, 64, 65, 66, 67, 68, 69, 70, 71, 72, 73, 74] (by decide +kernel) (by decide +kernel)
set_option maxRecDepth 20000 in
theorem gX11_twice_X11_isUnderWay : GoodIn wsX11_twice (wsV RX11 308 RX11 yX11_isUnderWay wsX11_isUnderWay) := goodIn_app (goodIn_of _ (by decide +kernel)) ggX11_twice_X11_isUnderWay
theorem dX11_twice_0 : decode cX11_twice 0 = .ok (.aload_n 0, 1) := by decide +kernel
theorem dX11_twice_1 : decode cX11_twice 1 = .ok (.iconst 0, 1) := by decide +kernel
theorem dX11_twice_2 : decode cX11_twice 2 = .ok (.putfield 145, 3) := by decide +kernel
theorem dX11_twice_5 : decode cX11_twice 5 = .ok (.aload_n 0, 1) := by decide +kernel
theorem dX11_twice_6 : decode cX11_twice 6 = .ok (.iload_n 1, 1) := by decide +kernel
theorem dX11_twice_7 : decode cX11_twice 7 = .ok (.invokevirtual 308, 3) := by decide +kernel
theorem dX11_twice_10 : decode cX11_twice 10 = .ok (.ifCond .ne 5, 3) := by decide +kernel
theorem dX11_twice_13 : decode cX11_twice 13 = .ok (.iconst (-1), 1) := by decide +kernel
theorem dX11_twice_14 : decode cX11_twice 14 = .ok (.ireturn, 1) := by decide +kernel
theorem dX11_twice_15 : decode cX11_twice 15 = .ok (.aload_n 0, 1) := by decide +kernel
theorem dX11_twice_16 : decode cX11_twice 16 = .ok (.getfield 204, 3) := by decide +kernel
theorem dX11_twice_19 : decode cX11_twice 19 = .ok (.sipush 200, 3) := by decide +kernel
theorem dX11_twice_22 : decode cX11_twice 22 = .ok (.if_icmp .ne 6, 3) := by decide +kernel
theorem dX11_twice_25 : decode cX11_twice 25 = .ok (.bipush (-2), 2) := by decide +kernel
theorem dX11_twice_27 : decode cX11_twice 27 = .ok (.ireturn, 1) := by decide +kernel
theorem dX11_twice_28 : decode cX11_twice 28 = .ok (.aload_n 0, 1) := by decide +kernel
theorem dX11_twice_29 : decode cX11_twice 29 = .ok (.getfield 204, 3) := by decide +kernel
theorem dX11_twice_32 : decode cX11_twice 32 = .ok (.istore_n 2, 1) := by decide +kernel
theorem dX11_twice_33 : decode cX11_twice 33 = .ok (.aload_n 0, 1) := by decide +kernel
theorem dX11_twice_34 : decode cX11_twice 34 = .ok (.getfield 54, 3) := by decide +kernel
theorem dX11_twice_37 : decode cX11_twice 37 = .ok (.iload_n 2, 1) := by decide +kernel
theorem dX11_twice_38 : decode cX11_twice 38 = .ok (.aload_n 0, 1) := by decide +kernel
theorem dX11_twice_39 : decode cX11_twice 39 = .ok (.getfield 54, 3) := by decide +kernel
theorem dX11_twice_42 : decode cX11_twice 42 = .ok (.iload_n 1, 1) := by decide +kernel
theorem dX11_twice_43 : decode cX11_twice 43 = .ok (.iaload, 1) := by decide +kernel
theorem dX11_twice_44 : decode cX11_twice 44 = .ok (.iastore, 1) := by decide +kernel
theorem dX11_twice_45 : decode cX11_twice 45 = .ok (.aload_n 0, 1) := by decide +kernel
theorem dX11_twice_46 : decode cX11_twice 46 = .ok (.getfield 57, 3) := by decide +kernel
theorem dX11_twice_49 : decode cX11_twice 49 = .ok (.iload_n 2, 1) := by decide +kernel
theorem dX11_twice_50 : decode cX11_twice 50 = .ok (.aload_n 0, 1) := by decide +kernel
theorem dX11_twice_51 : decode cX11_twice 51 = .ok (.getfield 57, 3) := by decide +kernel
theorem dX11_twice_54 : decode cX11_twice 54 = .ok (.iload_n 1, 1) := by decide +kernel
theorem dX11_twice_55 : decode cX11_twice 55 = .ok (.iaload, 1) := by decide +kernel
theorem dX11_twice_56 : decode cX11_twice 56 = .ok (.iastore, 1) := by decide +kernel
theorem dX11_twice_57 : decode cX11_twice 57 = .ok (.aload_n 0, 1) := by decide +kernel
theorem dX11_twice_58 : decode cX11_twice 58 = .ok (.getfield 60, 3) := by decide +kernel
theorem dX11_twice_61 : decode cX11_twice 61 = .ok (.iload_n 2, 1) := by decide +kernel
theorem dX11_twice_62 : decode cX11_twice 62 = .ok (.aload_n 0, 1) := by decide +kernel
theorem dX11_twice_63 : decode cX11_twice 63 = .ok (.getfield 60, 3) := by decide +kernel
theorem dX11_twice_66 : decode cX11_twice 66 = .ok (.iload_n 1, 1) := by decide +kernel
theorem dX11_twice_67 : decode cX11_twice 67 = .ok (.iaload, 1) := by decide +kernel
theorem dX11_twice_68 : decode cX11_twice 68 = .ok (.iastore, 1) := by decide +kernel
theorem dX11_twice_69 : decode cX11_twice 69 = .ok (.aload_n 0, 1) := by decide +kernel
theorem dX11_twice_70 : decode cX11_twice 70 = .ok (.getfield 63, 3) := by decide +kernel
theorem dX11_twice_73 : decode cX11_twice 73 = .ok (.iload_n 2, 1) := by decide +kernel
theorem dX11_twice_74 : decode cX11_twice 74 = .ok (.aload_n 0, 1) := by decide +kernel
theorem dX11_twice_75 : decode cX11_twice 75 = .ok (.getfield 63, 3) := by decide +kernel
theorem dX11_twice_78 : decode cX11_twice 78 = .ok (.iload_n 1, 1) := by decide +kernel
theorem dX11_twice_79 : decode cX11_twice 79 = .ok (.iaload, 1) := by decide +kernel
theorem dX11_twice_80 : decode cX11_twice 80 = .ok (.iastore, 1) := by decide +kernel
theorem dX11_twice_81 : decode cX11_twice 81 = .ok (.aload_n 0, 1) := by decide +kernel
theorem dX11_twice_82 : decode cX11_twice 82 = .ok (.getfield 48, 3) := by decide +kernel
theorem dX11_twice_85 : decode cX11_twice 85 = .ok (.iload_n 2, 1) := by decide +kernel
theorem dX11_twice_86 : decode cX11_twice 86 = .ok (.aload_n 0, 1) := by decide +kernel
theorem dX11_twice_87 : decode cX11_twice 87 = .ok (.getfield 48, 3) := by decide +kernel
theorem dX11_twice_90 : decode cX11_twice 90 = .ok (.iload_n 1, 1) := by decide +kernel
theorem dX11_twice_91 : decode cX11_twice 91 = .ok (.iaload, 1) := by decide +kernel
theorem dX11_twice_92 : decode cX11_twice 92 = .ok (.iastore, 1) := by decide +kernel
theorem dX11_twice_93 : decode cX11_twice 93 = .ok (.aload_n 0, 1) := by decide +kernel
theorem dX11_twice_94 : decode cX11_twice 94 = .ok (.getfield 66, 3) := by decide +kernel
theorem dX11_twice_97 : decode cX11_twice 97 = .ok (.iload_n 2, 1) := by decide +kernel
theorem dX11_twice_98 : decode cX11_twice 98 = .ok (.iconst (-1), 1) := by decide +kernel
theorem dX11_twice_99 : decode cX11_twice 99 = .ok (.iastore, 1) := by decide +kernel
theorem dX11_twice_100 : decode cX11_twice 100 = .ok (.aload_n 0, 1) := by decide +kernel
theorem dX11_twice_101 : decode cX11_twice 101 = .ok (.getfield 69, 3) := by decide +kernel
theorem dX11_twice_104 : decode cX11_twice 104 = .ok (.iload_n 2, 1) := by decide +kernel
theorem dX11_twice_105 : decode cX11_twice 105 = .ok (.iconst 0, 1) := by decide +kernel
theorem dX11_twice_106 : decode cX11_twice 106 = .ok (.bastore, 1) := by decide +kernel
theorem dX11_twice_107 : decode cX11_twice 107 = .ok (.aload_n 0, 1) := by decide +kernel
theorem dX11_twice_108 : decode cX11_twice 108 = .ok (.getfield 72, 3) := by decide +kernel
theorem dX11_twice_111 : decode cX11_twice 111 = .ok (.iload_n 2, 1) := by decide +kernel
theorem dX11_twice_112 : decode cX11_twice 112 = .ok (.iconst 1, 1) := by decide +kernel
theorem dX11_twice_113 : decode cX11_twice 113 = .ok (.bastore, 1) := by decide +kernel
theorem dX11_twice_114 : decode cX11_twice 114 = .ok (.iconst 0, 1) := by decide +kernel
theorem dX11_twice_115 : decode cX11_twice 115 = .ok (.istore_n 3, 1) := by decide +kernel
theorem dX11_twice_116 : decode cX11_twice 116 = .ok (.iload_n 3, 1) := by decide +kernel
theorem dX11_twice_117 : decode cX11_twice 117 = .ok (.aload_n 0, 1) := by decide +kernel
theorem dX11_twice_118 : decode cX11_twice 118 = .ok (.getfield 48, 3) := by decide +kernel
theorem dX11_twice_121 : decode cX11_twice 121 = .ok (.iload_n 1, 1) := by decide +kernel
theorem dX11_twice_122 : decode cX11_twice 122 = .ok (.iaload, 1) := by decide +kernel
theorem dX11_twice_123 : decode cX11_twice 123 = .ok (.if_icmp .ge 31, 3) := by decide +kernel
theorem dX11_twice_126 : decode cX11_twice 126 = .ok (.aload_n 0, 1) := by decide +kernel
theorem dX11_twice_127 : decode cX11_twice 127 = .ok (.getfield 51, 3) := by decide +kernel
theorem dX11_twice_130 : decode cX11_twice 130 = .ok (.bipush 64, 2) := by decide +kernel
theorem dX11_twice_132 : decode cX11_twice 132 = .ok (.iload_n 2, 1) := by decide +kernel
theorem dX11_twice_133 : decode cX11_twice 133 = .ok (.imul, 1) := by decide +kernel
theorem dX11_twice_134 : decode cX11_twice 134 = .ok (.iload_n 3, 1) := by decide +kernel
theorem dX11_twice_135 : decode cX11_twice 135 = .ok (.iadd, 1) := by decide +kernel
theorem dX11_twice_136 : decode cX11_twice 136 = .ok (.aload_n 0, 1) := by decide +kernel
theorem dX11_twice_137 : decode cX11_twice 137 = .ok (.getfield 51, 3) := by decide +kernel
theorem dX11_twice_140 : decode cX11_twice 140 = .ok (.bipush 64, 2) := by decide +kernel
theorem dX11_twice_142 : decode cX11_twice 142 = .ok (.iload_n 1, 1) := by decide +kernel
theorem dX11_twice_143 : decode cX11_twice 143 = .ok (.imul, 1) := by decide +kernel
theorem dX11_twice_144 : decode cX11_twice 144 = .ok (.iload_n 3, 1) := by decide +kernel
theorem dX11_twice_145 : decode cX11_twice 145 = .ok (.iadd, 1) := by decide +kernel
theorem dX11_twice_146 : decode cX11_twice 146 = .ok (.iaload, 1) := by decide +kernel
theorem dX11_twice_147 : decode cX11_twice 147 = .ok (.iastore, 1) := by decide +kernel
theorem dX11_twice_148 : decode cX11_twice 148 = .ok (.iinc 3 1, 3) := by decide +kernel
theorem dX11_twice_151 : decode cX11_twice 151 = .ok (.goto (-35), 3) := by decide +kernel
theorem dX11_twice_154 : decode cX11_twice 154 = .ok (.aload_n 0, 1) := by decide +kernel
theorem dX11_twice_155 : decode cX11_twice 155 = .ok (.dup, 1) := by decide +kernel
theorem dX11_twice_156 : decode cX11_twice 156 = .ok (.getfield 204, 3) := by decide +kernel
theorem dX11_twice_159 : decode cX11_twice 159 = .ok (.iconst 1, 1) := by decide +kernel
theorem dX11_twice_160 : decode cX11_twice 160 = .ok (.iadd, 1) := by decide +kernel
theorem dX11_twice_161 : decode cX11_twice 161 = .ok (.putfield 204, 3) := by decide +kernel
theorem dX11_twice_164 : decode cX11_twice 164 = .ok (.iload_n 2, 1) := by decide +kernel
theorem dX11_twice_165 : decode cX11_twice 165 = .ok (.ireturn, 1) := by decide +kernel
set_option maxRecDepth 20000 in
theorem ggX11_bend_X11_isUnderWay : GoodIn wsX11_bend wsX11_isUnderWay := goodIn_r _ [9, 10, 11, 15, 16, 17, 18, 19, 20, 21, 22, 23, 24, 25, 26, 27, 28, 29, 30, 31, 32, 33, 34, 35, 36, 37, 38, 39, 40, 41, 42, 43, 44, 45, 46, 47, 48, 49, 50, 51, 52, 53, 54, 55, 56, 57, 58, 59, 60, 61, 62, 63, 64, 65, 66, 67, 68, 69, 70, 71, 72] (by decide +kernel) (by decide +kernel)
set_option maxRecDepth 20000 in
theorem gX11_bend_X11_isUnderWay : GoodIn wsX11_bend (wsV RX11 308 RX11 yX11_isUnderWay wsX11_isUnderWay) := goodIn_app (goodIn_of _ (by decide +kernel)) ggX11_bend_X11_isUnderWay
set_option maxRecDepth 20000 in
theorem ggX11_bend_X11_isIn : GoodIn wsX11_bend wsX11_isIn := goodIn_r _ [14] (by decide +kernel) (by decide +kernel)
set_option maxRecDepth 20000 in
theorem gX11_bend_X11_isIn : GoodIn wsX11_bend (va_wsS RX11 153 yX11_isIn wsX11_isIn) := goodIn_app (goodIn_of _ (by decide +kernel)) ggX11_bend_X11_isIn
theorem dX11_bend_0 : decode cX11_bend 0 = .ok (.aload_n 0, 1) := by decide +kernel
theorem dX11_bend_1 : decode cX11_bend 1 = .ok (.iconst 0, 1) := by decide +kernel
theorem dX11_bend_2 : decode cX11_bend 2 = .ok (.putfield 145, 3) := by decide +kernel
theorem dX11_bend_5 : decode cX11_bend 5 = .ok (.aload_n 0, 1) := by decide +kernel
theorem dX11_bend_6 : decode cX11_bend 6 = .ok (.iload_n 1, 1) := by decide +kernel
theorem dX11_bend_7 : decode cX11_bend 7 = .ok (.invokevirtual 308, 3) := by decide +kernel
theorem dX11_bend_10 : decode cX11_bend 10 = .ok (.ifCond .eq 29, 3) := by decide +kernel
theorem dX11_bend_13 : decode cX11_bend 13 = .ok (.iload_n 2, 1) := by decide +kernel
theorem dX11_bend_14 : decode cX11_bend 14 = .ok (.ifCond .lt 25, 3) := by decide +kernel
theorem dX11_bend_17 : decode cX11_bend 17 = .ok (.iload_n 2, 1) := by decide +kernel
theorem dX11_bend_18 : decode cX11_bend 18 = .ok (.aload_n 0, 1) := by decide +kernel
theorem dX11_bend_19 : decode cX11_bend 19 = .ok (.getfield 48, 3) := by decide +kernel
theorem dX11_bend_22 : decode cX11_bend 22 = .ok (.iload_n 1, 1) := by decide +kernel
theorem dX11_bend_23 : decode cX11_bend 23 = .ok (.iaload, 1) := by decide +kernel
theorem dX11_bend_24 : decode cX11_bend 24 = .ok (.if_icmp .ge 15, 3) := by decide +kernel
theorem dX11_bend_27 : decode cX11_bend 27 = .ok (.iload_n 3, 1) := by decide +kernel
theorem dX11_bend_28 : decode cX11_bend 28 = .ok (.i2l, 1) := by decide +kernel
theorem dX11_bend_29 : decode cX11_bend 29 = .ok (.lconst 1, 1) := by decide +kernel
theorem dX11_bend_30 : decode cX11_bend 30 = .ok (.ldc2_w 181, 3) := by decide +kernel
theorem dX11_bend_33 : decode cX11_bend 33 = .ok (.invokestatic 153, 3) := by decide +kernel
theorem dX11_bend_36 : decode cX11_bend 36 = .ok (.ifCond .ne 5, 3) := by decide +kernel
theorem dX11_bend_39 : decode cX11_bend 39 = .ok (.iconst (-1), 1) := by decide +kernel
theorem dX11_bend_40 : decode cX11_bend 40 = .ok (.ireturn, 1) := by decide +kernel
theorem dX11_bend_41 : decode cX11_bend 41 = .ok (.aload_n 0, 1) := by decide +kernel
theorem dX11_bend_42 : decode cX11_bend 42 = .ok (.getfield 51, 3) := by decide +kernel
theorem dX11_bend_45 : decode cX11_bend 45 = .ok (.bipush 64, 2) := by decide +kernel
theorem dX11_bend_47 : decode cX11_bend 47 = .ok (.iload_n 1, 1) := by decide +kernel
theorem dX11_bend_48 : decode cX11_bend 48 = .ok (.imul, 1) := by decide +kernel
theorem dX11_bend_49 : decode cX11_bend 49 = .ok (.iload_n 2, 1) := by decide +kernel
theorem dX11_bend_50 : decode cX11_bend 50 = .ok (.iadd, 1) := by decide +kernel
theorem dX11_bend_51 : decode cX11_bend 51 = .ok (.dup2, 1) := by decide +kernel
theorem dX11_bend_52 : decode cX11_bend 52 = .ok (.iaload, 1) := by decide +kernel
theorem dX11_bend_53 : decode cX11_bend 53 = .ok (.iload_n 3, 1) := by decide +kernel
theorem dX11_bend_54 : decode cX11_bend 54 = .ok (.ixor, 1) := by decide +kernel
theorem dX11_bend_55 : decode cX11_bend 55 = .ok (.iastore, 1) := by decide +kernel
theorem dX11_bend_56 : decode cX11_bend 56 = .ok (.aload_n 0, 1) := by decide +kernel
theorem dX11_bend_57 : decode cX11_bend 57 = .ok (.getfield 51, 3) := by decide +kernel
theorem dX11_bend_60 : decode cX11_bend 60 = .ok (.bipush 64, 2) := by decide +kernel
theorem dX11_bend_62 : decode cX11_bend 62 = .ok (.iload_n 1, 1) := by decide +kernel
theorem dX11_bend_63 : decode cX11_bend 63 = .ok (.imul, 1) := by decide +kernel
theorem dX11_bend_64 : decode cX11_bend 64 = .ok (.iload_n 2, 1) := by decide +kernel
theorem dX11_bend_65 : decode cX11_bend 65 = .ok (.iadd, 1) := by decide +kernel
theorem dX11_bend_66 : decode cX11_bend 66 = .ok (.iaload, 1) := by decide +kernel
theorem dX11_bend_67 : decode cX11_bend 67 = .ok (.ireturn, 1) := by decide +kernel
theorem dX11_octet_0 : decode cX11_octet 0 = .ok (.aload_n 0, 1) := by decide +kernel
theorem dX11_octet_1 : decode cX11_octet 1 = .ok (.iconst 0, 1) := by decide +kernel
theorem dX11_octet_2 : decode cX11_octet 2 = .ok (.putfield 145, 3) := by decide +kernel
theorem dX11_octet_5 : decode cX11_octet 5 = .ok (.iload_n 1, 1) := by decide +kernel
theorem dX11_octet_6 : decode cX11_octet 6 = .ok (.ifCond .lt 25, 3) := by decide +kernel
theorem dX11_octet_9 : decode cX11_octet 9 = .ok (.iload_n 1, 1) := by decide +kernel
theorem dX11_octet_10 : decode cX11_octet 10 = .ok (.aload_n 0, 1) := by decide +kernel
theorem dX11_octet_11 : decode cX11_octet 11 = .ok (.getfield 204, 3) := by decide +kernel
theorem dX11_octet_14 : decode cX11_octet 14 = .ok (.if_icmp .ge 17, 3) := by decide +kernel
theorem dX11_octet_17 : decode cX11_octet 17 = .ok (.iload_n 2, 1) := by decide +kernel
theorem dX11_octet_18 : decode cX11_octet 18 = .ok (.ifCond .lt 13, 3) := by decide +kernel
theorem dX11_octet_21 : decode cX11_octet 21 = .ok (.iload_n 2, 1) := by decide +kernel
theorem dX11_octet_22 : decode cX11_octet 22 = .ok (.aload_n 0, 1) := by decide +kernel
theorem dX11_octet_23 : decode cX11_octet 23 = .ok (.getfield 48, 3) := by decide +kernel
theorem dX11_octet_26 : decode cX11_octet 26 = .ok (.iload_n 1, 1) := by decide +kernel
theorem dX11_octet_27 : decode cX11_octet 27 = .ok (.iaload, 1) := by decide +kernel
theorem dX11_octet_28 : decode cX11_octet 28 = .ok (.if_icmp .lt 7, 3) := by decide +kernel
theorem dX11_octet_31 : decode cX11_octet 31 = .ok (.iconst (-1), 1) := by decide +kernel
theorem dX11_octet_32 : decode cX11_octet 32 = .ok (.goto 14, 3) := by decide +kernel
theorem dX11_octet_35 : decode cX11_octet 35 = .ok (.aload_n 0, 1) := by decide +kernel
theorem dX11_octet_36 : decode cX11_octet 36 = .ok (.getfield 51, 3) := by decide +kernel
theorem dX11_octet_39 : decode cX11_octet 39 = .ok (.bipush 64, 2) := by decide +kernel
theorem dX11_octet_41 : decode cX11_octet 41 = .ok (.iload_n 1, 1) := by decide +kernel
theorem dX11_octet_42 : decode cX11_octet 42 = .ok (.imul, 1) := by decide +kernel
theorem dX11_octet_43 : decode cX11_octet 43 = .ok (.iload_n 2, 1) := by decide +kernel
theorem dX11_octet_44 : decode cX11_octet 44 = .ok (.iadd, 1) := by decide +kernel
theorem dX11_octet_45 : decode cX11_octet 45 = .ok (.iaload, 1) := by decide +kernel
theorem dX11_octet_46 : decode cX11_octet 46 = .ok (.ireturn, 1) := by decide +kernel
theorem dX11_look_0 : decode cX11_look 0 = .ok (.aload_n 0, 1) := by decide +kernel
theorem dX11_look_1 : decode cX11_look 1 = .ok (.iconst 0, 1) := by decide +kernel
theorem dX11_look_2 : decode cX11_look 2 = .ok (.putfield 145, 3) := by decide +kernel
theorem dX11_look_5 : decode cX11_look 5 = .ok (.iload_n 1, 1) := by decide +kernel
theorem dX11_look_6 : decode cX11_look 6 = .ok (.ifCond .lt 11, 3) := by decide +kernel
theorem dX11_look_9 : decode cX11_look 9 = .ok (.iload_n 1, 1) := by decide +kernel
theorem dX11_look_10 : decode cX11_look 10 = .ok (.aload_n 0, 1) := by decide +kernel
theorem dX11_look_11 : decode cX11_look 11 = .ok (.getfield 204, 3) := by decide +kernel
theorem dX11_look_14 : decode cX11_look 14 = .ok (.if_icmp .lt 5, 3) := by decide +kernel
theorem dX11_look_17 : decode cX11_look 17 = .ok (.iconst (-1), 1) := by decide +kernel
theorem dX11_look_18 : decode cX11_look 18 = .ok (.ireturn, 1) := by decide +kernel
theorem dX11_look_19 : decode cX11_look 19 = .ok (.iload_n 2, 1) := by decide +kernel
theorem dX11_look_20 : decode cX11_look 20 = .ok (.tableswitch 101 0 6 #[44, 51, 58, 65, 72, 79, 86], 44) := by decide +kernel
theorem dX11_look_64 : decode cX11_look 64 = .ok (.aload_n 0, 1) := by decide +kernel
theorem dX11_look_65 : decode cX11_look 65 = .ok (.getfield 54, 3) := by decide +kernel
theorem dX11_look_68 : decode cX11_look 68 = .ok (.iload_n 1, 1) := by decide +kernel
theorem dX11_look_69 : decode cX11_look 69 = .ok (.iaload, 1) := by decide +kernel
theorem dX11_look_70 : decode cX11_look 70 = .ok (.ireturn, 1) := by decide +kernel
theorem dX11_look_71 : decode cX11_look 71 = .ok (.aload_n 0, 1) := by decide +kernel
theorem dX11_look_72 : decode cX11_look 72 = .ok (.getfield 57, 3) := by decide +kernel
theorem dX11_look_75 : decode cX11_look 75 = .ok (.iload_n 1, 1) := by decide +kernel
theorem dX11_look_76 : decode cX11_look 76 = .ok (.iaload, 1) := by decide +kernel
theorem dX11_look_77 : decode cX11_look 77 = .ok (.ireturn, 1) := by decide +kernel
theorem dX11_look_78 : decode cX11_look 78 = .ok (.aload_n 0, 1) := by decide +kernel
theorem dX11_look_79 : decode cX11_look 79 = .ok (.getfield 60, 3) := by decide +kernel
theorem dX11_look_82 : decode cX11_look 82 = .ok (.iload_n 1, 1) := by decide +kernel
theorem dX11_look_83 : decode cX11_look 83 = .ok (.iaload, 1) := by decide +kernel
theorem dX11_look_84 : decode cX11_look 84 = .ok (.ireturn, 1) := by decide +kernel
theorem dX11_look_85 : decode cX11_look 85 = .ok (.aload_n 0, 1) := by decide +kernel
theorem dX11_look_86 : decode cX11_look 86 = .ok (.getfield 48, 3) := by decide +kernel
theorem dX11_look_89 : decode cX11_look 89 = .ok (.iload_n 1, 1) := by decide +kernel
theorem dX11_look_90 : decode cX11_look 90 = .ok (.iaload, 1) := by decide +kernel
theorem dX11_look_91 : decode cX11_look 91 = .ok (.ireturn, 1) := by decide +kernel
theorem dX11_look_92 : decode cX11_look 92 = .ok (.aload_n 0, 1) := by decide +kernel
theorem dX11_look_93 : decode cX11_look 93 = .ok (.getfield 63, 3) := by decide +kernel
theorem dX11_look_96 : decode cX11_look 96 = .ok (.iload_n 1, 1) := by decide +kernel
theorem dX11_look_97 : decode cX11_look 97 = .ok (.iaload, 1) := by decide +kernel
theorem dX11_look_98 : decode cX11_look 98 = .ok (.ireturn, 1) := by decide +kernel
theorem dX11_look_99 : decode cX11_look 99 = .ok (.aload_n 0, 1) := by decide +kernel
theorem dX11_look_100 : decode cX11_look 100 = .ok (.getfield 66, 3) := by decide +kernel
theorem dX11_look_103 : decode cX11_look 103 = .ok (.iload_n 1, 1) := by decide +kernel
theorem dX11_look_104 : decode cX11_look 104 = .ok (.iaload, 1) := by decide +kernel
theorem dX11_look_105 : decode cX11_look 105 = .ok (.ireturn, 1) := by decide +kernel
theorem dX11_look_106 : decode cX11_look 106 = .ok (.aload_n 0, 1) := by decide +kernel
theorem dX11_look_107 : decode cX11_look 107 = .ok (.getfield 69, 3) := by decide +kernel
theorem dX11_look_110 : decode cX11_look 110 = .ok (.iload_n 1, 1) := by decide +kernel
theorem dX11_look_111 : decode cX11_look 111 = .ok (.baload, 1) := by decide +kernel
theorem dX11_look_112 : decode cX11_look 112 = .ok (.ifCond .eq 7, 3) := by decide +kernel
theorem dX11_look_115 : decode cX11_look 115 = .ok (.iconst 1, 1) := by decide +kernel
theorem dX11_look_116 : decode cX11_look 116 = .ok (.goto 4, 3) := by decide +kernel
theorem dX11_look_119 : decode cX11_look 119 = .ok (.iconst 0, 1) := by decide +kernel
theorem dX11_look_120 : decode cX11_look 120 = .ok (.ireturn, 1) := by decide +kernel
theorem dX11_look_121 : decode cX11_look 121 = .ok (.iconst (-1), 1) := by decide +kernel
theorem dX11_look_122 : decode cX11_look 122 = .ok (.ireturn, 1) := by decide +kernel
set_option maxRecDepth 20000 in
theorem ggX11_prove_X11_isField : GoodIn wsX11_prove wsX11_isField := goodIn_r _ [14, 15, 24, 25, 26, 27, 28, 29, 30, 31, 32, 33, 34, 35, 36, 37, 38, 39, 40, 41, 42, 43, 44, 45, 46, 47, 48, 49, 50, 51, 52, 53, 54, 55, 56, 57, 58, 59, 60, 61, 62, 63, 64, 65, 66, 67, 68, 69, 70, 71, 72, 73, 74, 75, 76, 77, 78, 79, 80, 81] (by decide +kernel) (by decide +kernel)
set_option maxRecDepth 20000 in
theorem gX11_prove_X11_isField : GoodIn wsX11_prove (wsV RX11 159 RX11 yX11_isField wsX11_isField) := goodIn_app (goodIn_of _ (by decide +kernel)) ggX11_prove_X11_isField
set_option maxRecDepth 20000 in
theorem ggX11_prove_X11_runs : GoodIn wsX11_prove wsX11_runs := goodIn_r _ [19, 20, 24, 25, 26, 27, 28, 29, 30, 31, 32, 33, 34, 35, 36, 37, 38, 39, 40, 41, 42, 43, 44, 45, 46, 47, 48, 49, 50, 51, 52, 53, 54, 55, 56, 57, 58, 59, 60, 61, 62, 63, 64, 65, 66, 67, 68, 69, 70, 71, 72, 73, 74, 75, 76, 77, 78, 79, 80, 81] (by decide +kernel) (by decide +kernel)
set_option maxRecDepth 20000 in
theorem gX11_prove_X11_runs : GoodIn wsX11_prove (wsV RX11 178 RX11 yX11_runs wsX11_runs) := goodIn_app (goodIn_of _ (by decide +kernel)) ggX11_prove_X11_runs
set_option maxRecDepth 20000 in
theorem ggX11_prove_X11_isIn : GoodIn wsX11_prove wsX11_isIn := goodIn_r _ [23] (by decide +kernel) (by decide +kernel)
set_option maxRecDepth 20000 in
theorem gX11_prove_X11_isIn : GoodIn wsX11_prove (va_wsS RX11 153 yX11_isIn wsX11_isIn) := goodIn_app (goodIn_of _ (by decide +kernel)) ggX11_prove_X11_isIn
theorem dX11_prove_0 : decode cX11_prove 0 = .ok (.aload_n 0, 1) := by decide +kernel
theorem dX11_prove_1 : decode cX11_prove 1 = .ok (.iconst 0, 1) := by decide +kernel
theorem dX11_prove_2 : decode cX11_prove 2 = .ok (.putfield 145, 3) := by decide +kernel
theorem dX11_prove_5 : decode cX11_prove 5 = .ok (.iload_n 1, 1) := by decide +kernel
theorem dX11_prove_6 : decode cX11_prove 6 = .ok (.ifCond .lt 58, 3) := by decide +kernel
theorem dX11_prove_9 : decode cX11_prove 9 = .ok (.iload_n 1, 1) := by decide +kernel
theorem dX11_prove_10 : decode cX11_prove 10 = .ok (.aload_n 0, 1) := by decide +kernel
theorem dX11_prove_11 : decode cX11_prove 11 = .ok (.getfield 204, 3) := by decide +kernel
theorem dX11_prove_14 : decode cX11_prove 14 = .ok (.if_icmp .ge 50, 3) := by decide +kernel
theorem dX11_prove_17 : decode cX11_prove 17 = .ok (.aload_n 0, 1) := by decide +kernel
theorem dX11_prove_18 : decode cX11_prove 18 = .ok (.getfield 72, 3) := by decide +kernel
theorem dX11_prove_21 : decode cX11_prove 21 = .ok (.iload_n 1, 1) := by decide +kernel
theorem dX11_prove_22 : decode cX11_prove 22 = .ok (.baload, 1) := by decide +kernel
theorem dX11_prove_23 : decode cX11_prove 23 = .ok (.ifCond .ne 41, 3) := by decide +kernel
theorem dX11_prove_26 : decode cX11_prove 26 = .ok (.aload_n 0, 1) := by decide +kernel
theorem dX11_prove_27 : decode cX11_prove 27 = .ok (.getfield 54, 3) := by decide +kernel
theorem dX11_prove_30 : decode cX11_prove 30 = .ok (.iload_n 1, 1) := by decide +kernel
theorem dX11_prove_31 : decode cX11_prove 31 = .ok (.iaload, 1) := by decide +kernel
theorem dX11_prove_32 : decode cX11_prove 32 = .ok (.iconst 2, 1) := by decide +kernel
theorem dX11_prove_33 : decode cX11_prove 33 = .ok (.if_icmp .ne 31, 3) := by decide +kernel
theorem dX11_prove_36 : decode cX11_prove 36 = .ok (.aload_n 0, 1) := by decide +kernel
theorem dX11_prove_37 : decode cX11_prove 37 = .ok (.iload_n 2, 1) := by decide +kernel
theorem dX11_prove_38 : decode cX11_prove 38 = .ok (.invokevirtual 159, 3) := by decide +kernel
theorem dX11_prove_41 : decode cX11_prove 41 = .ok (.ifCond .eq 23, 3) := by decide +kernel
theorem dX11_prove_44 : decode cX11_prove 44 = .ok (.aload_n 0, 1) := by decide +kernel
theorem dX11_prove_45 : decode cX11_prove 45 = .ok (.iload_n 2, 1) := by decide +kernel
theorem dX11_prove_46 : decode cX11_prove 46 = .ok (.invokevirtual 178, 3) := by decide +kernel
theorem dX11_prove_49 : decode cX11_prove 49 = .ok (.ifCond .eq 15, 3) := by decide +kernel
theorem dX11_prove_52 : decode cX11_prove 52 = .ok (.iload_n 3, 1) := by decide +kernel
theorem dX11_prove_53 : decode cX11_prove 53 = .ok (.i2l, 1) := by decide +kernel
theorem dX11_prove_54 : decode cX11_prove 54 = .ok (.lconst 0, 1) := by decide +kernel
theorem dX11_prove_55 : decode cX11_prove 55 = .ok (.ldc2_w 317, 3) := by decide +kernel
theorem dX11_prove_58 : decode cX11_prove 58 = .ok (.invokestatic 153, 3) := by decide +kernel
theorem dX11_prove_61 : decode cX11_prove 61 = .ok (.ifCond .ne 5, 3) := by decide +kernel
theorem dX11_prove_64 : decode cX11_prove 64 = .ok (.iconst (-1), 1) := by decide +kernel
theorem dX11_prove_65 : decode cX11_prove 65 = .ok (.ireturn, 1) := by decide +kernel
theorem dX11_prove_66 : decode cX11_prove 66 = .ok (.iload_n 3, 1) := by decide +kernel
theorem dX11_prove_67 : decode cX11_prove 67 = .ok (.ifCond .ne 17, 3) := by decide +kernel
theorem dX11_prove_70 : decode cX11_prove 70 = .ok (.aload_n 0, 1) := by decide +kernel
theorem dX11_prove_71 : decode cX11_prove 71 = .ok (.getfield 75, 3) := by decide +kernel
theorem dX11_prove_74 : decode cX11_prove 74 = .ok (.bipush 8, 2) := by decide +kernel
theorem dX11_prove_76 : decode cX11_prove 76 = .ok (.iload_n 1, 1) := by decide +kernel
theorem dX11_prove_77 : decode cX11_prove 77 = .ok (.imul, 1) := by decide +kernel
theorem dX11_prove_78 : decode cX11_prove 78 = .ok (.iload_n 2, 1) := by decide +kernel
theorem dX11_prove_79 : decode cX11_prove 79 = .ok (.iadd, 1) := by decide +kernel
theorem dX11_prove_80 : decode cX11_prove 80 = .ok (.iaload, 1) := by decide +kernel
theorem dX11_prove_81 : decode cX11_prove 81 = .ok (.goto 42, 3) := by decide +kernel
theorem dX11_prove_84 : decode cX11_prove 84 = .ok (.iload_n 3, 1) := by decide +kernel
theorem dX11_prove_85 : decode cX11_prove 85 = .ok (.iconst 1, 1) := by decide +kernel
theorem dX11_prove_86 : decode cX11_prove 86 = .ok (.if_icmp .ne 17, 3) := by decide +kernel
theorem dX11_prove_89 : decode cX11_prove 89 = .ok (.aload_n 0, 1) := by decide +kernel
theorem dX11_prove_90 : decode cX11_prove 90 = .ok (.getfield 78, 3) := by decide +kernel
theorem dX11_prove_93 : decode cX11_prove 93 = .ok (.bipush 8, 2) := by decide +kernel
theorem dX11_prove_95 : decode cX11_prove 95 = .ok (.iload_n 1, 1) := by decide +kernel
theorem dX11_prove_96 : decode cX11_prove 96 = .ok (.imul, 1) := by decide +kernel
theorem dX11_prove_97 : decode cX11_prove 97 = .ok (.iload_n 2, 1) := by decide +kernel
theorem dX11_prove_98 : decode cX11_prove 98 = .ok (.iadd, 1) := by decide +kernel
theorem dX11_prove_99 : decode cX11_prove 99 = .ok (.iaload, 1) := by decide +kernel
theorem dX11_prove_100 : decode cX11_prove 100 = .ok (.goto 23, 3) := by decide +kernel
theorem dX11_prove_103 : decode cX11_prove 103 = .ok (.iload_n 3, 1) := by decide +kernel
theorem dX11_prove_104 : decode cX11_prove 104 = .ok (.iconst 2, 1) := by decide +kernel
theorem dX11_prove_105 : decode cX11_prove 105 = .ok (.if_icmp .ne 12, 3) := by decide +kernel
theorem dX11_prove_108 : decode cX11_prove 108 = .ok (.aload_n 0, 1) := by decide +kernel
theorem dX11_prove_109 : decode cX11_prove 109 = .ok (.getfield 81, 3) := by decide +kernel
theorem dX11_prove_112 : decode cX11_prove 112 = .ok (.iload_n 1, 1) := by decide +kernel
theorem dX11_prove_113 : decode cX11_prove 113 = .ok (.iaload, 1) := by decide +kernel
theorem dX11_prove_114 : decode cX11_prove 114 = .ok (.goto 9, 3) := by decide +kernel
theorem dX11_prove_117 : decode cX11_prove 117 = .ok (.aload_n 0, 1) := by decide +kernel
theorem dX11_prove_118 : decode cX11_prove 118 = .ok (.getfield 84, 3) := by decide +kernel
theorem dX11_prove_121 : decode cX11_prove 121 = .ok (.iload_n 1, 1) := by decide +kernel
theorem dX11_prove_122 : decode cX11_prove 122 = .ok (.iaload, 1) := by decide +kernel
theorem dX11_prove_123 : decode cX11_prove 123 = .ok (.ireturn, 1) := by decide +kernel
set_option maxRecDepth 20000 in
theorem ggX11_got_X11_isField : GoodIn wsX11_got wsX11_isField := goodIn_r _ [10, 11, 12, 13, 14, 15, 16, 17, 18, 19, 20, 21, 22, 23, 24, 25, 26, 27, 28, 29, 30, 31, 32, 33, 34, 35, 36, 37, 38, 39, 40, 41, 42, 43, 44, 45, 46, 47, 48, 49, 50, 51, 52, 53, 54, 55, 56, 57, 58, 59, 60, 61, 62, 63, 64, 65, 66, 67, 68, 69] (by decide +kernel) (by decide +kernel)
set_option maxRecDepth 20000 in
theorem gX11_got_X11_isField : GoodIn wsX11_got (wsV RX11 159 RX11 yX11_isField wsX11_isField) := goodIn_app (goodIn_of _ (by decide +kernel)) ggX11_got_X11_isField
theorem dX11_got_0 : decode cX11_got 0 = .ok (.aload_n 0, 1) := by decide +kernel
theorem dX11_got_1 : decode cX11_got 1 = .ok (.iconst 0, 1) := by decide +kernel
theorem dX11_got_2 : decode cX11_got 2 = .ok (.putfield 145, 3) := by decide +kernel
theorem dX11_got_5 : decode cX11_got 5 = .ok (.aload_n 0, 1) := by decide +kernel
theorem dX11_got_6 : decode cX11_got 6 = .ok (.iload_n 1, 1) := by decide +kernel
theorem dX11_got_7 : decode cX11_got 7 = .ok (.invokevirtual 159, 3) := by decide +kernel
theorem dX11_got_10 : decode cX11_got 10 = .ok (.ifCond .ne 9, 3) := by decide +kernel
theorem dX11_got_13 : decode cX11_got 13 = .ok (.ldc2_w 169, 3) := by decide +kernel
theorem dX11_got_16 : decode cX11_got 16 = .ok (.goto 22, 3) := by decide +kernel
theorem dX11_got_19 : decode cX11_got 19 = .ok (.aload_n 0, 1) := by decide +kernel
theorem dX11_got_20 : decode cX11_got 20 = .ok (.getfield 305, 3) := by decide +kernel
theorem dX11_got_23 : decode cX11_got 23 = .ok (.ifCond .ne 9, 3) := by decide +kernel
theorem dX11_got_26 : decode cX11_got 26 = .ok (.ldc2_w 319, 3) := by decide +kernel
theorem dX11_got_29 : decode cX11_got 29 = .ok (.goto 9, 3) := by decide +kernel
theorem dX11_got_32 : decode cX11_got 32 = .ok (.aload_n 0, 1) := by decide +kernel
theorem dX11_got_33 : decode cX11_got 33 = .ok (.getfield 102, 3) := by decide +kernel
theorem dX11_got_36 : decode cX11_got 36 = .ok (.iload_n 1, 1) := by decide +kernel
theorem dX11_got_37 : decode cX11_got 37 = .ok (.laload, 1) := by decide +kernel
theorem dX11_got_38 : decode cX11_got 38 = .ok (.lreturn, 1) := by decide +kernel
set_option maxRecDepth 20000 in
theorem ggX11_way_X11_isField : GoodIn wsX11_way wsX11_isField := goodIn_r _ [8, 9, 10, 11, 12, 13, 14, 15, 16, 17, 18, 19, 20, 21, 22, 23, 24, 25, 26, 27, 28, 29, 30, 31, 32, 33, 34, 35, 36, 37, 38, 39, 40, 41, 42, 43, 44, 45, 46, 47, 48, 49, 50, 51, 52, 53, 54, 55, 56, 57, 58, 59, 60, 61, 62, 63, 64, 65, 66, 67] (by decide +kernel) (by decide +kernel)
set_option maxRecDepth 20000 in
theorem gX11_way_X11_isField : GoodIn wsX11_way (wsV RX11 159 RX11 yX11_isField wsX11_isField) := goodIn_app (goodIn_of _ (by decide +kernel)) ggX11_way_X11_isField
theorem dX11_way_0 : decode cX11_way 0 = .ok (.aload_n 0, 1) := by decide +kernel
theorem dX11_way_1 : decode cX11_way 1 = .ok (.iconst 0, 1) := by decide +kernel
theorem dX11_way_2 : decode cX11_way 2 = .ok (.putfield 145, 3) := by decide +kernel
theorem dX11_way_5 : decode cX11_way 5 = .ok (.aload_n 0, 1) := by decide +kernel
theorem dX11_way_6 : decode cX11_way 6 = .ok (.iload_n 1, 1) := by decide +kernel
theorem dX11_way_7 : decode cX11_way 7 = .ok (.invokevirtual 159, 3) := by decide +kernel
theorem dX11_way_10 : decode cX11_way 10 = .ok (.ifCond .ne 7, 3) := by decide +kernel
theorem dX11_way_13 : decode cX11_way 13 = .ok (.iconst (-1), 1) := by decide +kernel
theorem dX11_way_14 : decode cX11_way 14 = .ok (.goto 21, 3) := by decide +kernel
theorem dX11_way_17 : decode cX11_way 17 = .ok (.aload_n 0, 1) := by decide +kernel
theorem dX11_way_18 : decode cX11_way 18 = .ok (.getfield 305, 3) := by decide +kernel
theorem dX11_way_21 : decode cX11_way 21 = .ok (.ifCond .ne 8, 3) := by decide +kernel
theorem dX11_way_24 : decode cX11_way 24 = .ok (.bipush (-2), 2) := by decide +kernel
theorem dX11_way_26 : decode cX11_way 26 = .ok (.goto 9, 3) := by decide +kernel
theorem dX11_way_29 : decode cX11_way 29 = .ok (.aload_n 0, 1) := by decide +kernel
theorem dX11_way_30 : decode cX11_way 30 = .ok (.getfield 105, 3) := by decide +kernel
theorem dX11_way_33 : decode cX11_way 33 = .ok (.iload_n 1, 1) := by decide +kernel
theorem dX11_way_34 : decode cX11_way 34 = .ok (.iaload, 1) := by decide +kernel
theorem dX11_way_35 : decode cX11_way 35 = .ok (.ireturn, 1) := by decide +kernel
set_option maxRecDepth 20000 in
theorem ggX11_hung_X11_isIn : GoodIn wsX11_hung wsX11_isIn := goodIn_r _ [10] (by decide +kernel) (by decide +kernel)
set_option maxRecDepth 20000 in
theorem gX11_hung_X11_isIn : GoodIn wsX11_hung (va_wsS RX11 153 yX11_isIn wsX11_isIn) := goodIn_app (goodIn_of _ (by decide +kernel)) ggX11_hung_X11_isIn
theorem dX11_hung_0 : decode cX11_hung 0 = .ok (.aload_n 0, 1) := by decide +kernel
theorem dX11_hung_1 : decode cX11_hung 1 = .ok (.iconst 0, 1) := by decide +kernel
theorem dX11_hung_2 : decode cX11_hung 2 = .ok (.putfield 145, 3) := by decide +kernel
theorem dX11_hung_5 : decode cX11_hung 5 = .ok (.iload_n 1, 1) := by decide +kernel
theorem dX11_hung_6 : decode cX11_hung 6 = .ok (.i2l, 1) := by decide +kernel
