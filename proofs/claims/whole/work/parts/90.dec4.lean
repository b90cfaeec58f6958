theorem dX11_hung_7 : decode cX11_hung 7 = .ok (.lconst 0, 1) := by decide +kernel
theorem dX11_hung_8 : decode cX11_hung 8 = .ok (.ldc2_w 317, 3) := by decide +kernel
theorem dX11_hung_11 : decode cX11_hung 11 = .ok (.invokestatic 153, 3) := by decide +kernel
theorem dX11_hung_14 : decode cX11_hung 14 = .ok (.ifCond .ne 5, 3) := by decide +kernel
theorem dX11_hung_17 : decode cX11_hung 17 = .ok (.iconst (-1), 1) := by decide +kernel
theorem dX11_hung_18 : decode cX11_hung 18 = .ok (.ireturn, 1) := by decide +kernel
theorem dX11_hung_19 : decode cX11_hung 19 = .ok (.iload_n 1, 1) := by decide +kernel
theorem dX11_hung_20 : decode cX11_hung 20 = .ok (.iconst 3, 1) := by decide +kernel
theorem dX11_hung_21 : decode cX11_hung 21 = .ok (.if_icmp .ne 10, 3) := by decide +kernel
theorem dX11_hung_24 : decode cX11_hung 24 = .ok (.aload_n 0, 1) := by decide +kernel
theorem dX11_hung_25 : decode cX11_hung 25 = .ok (.getfield 305, 3) := by decide +kernel
theorem dX11_hung_28 : decode cX11_hung 28 = .ok (.goto 42, 3) := by decide +kernel
theorem dX11_hung_31 : decode cX11_hung 31 = .ok (.aload_n 0, 1) := by decide +kernel
theorem dX11_hung_32 : decode cX11_hung 32 = .ok (.getfield 305, 3) := by decide +kernel
theorem dX11_hung_35 : decode cX11_hung 35 = .ok (.ifCond .ne 8, 3) := by decide +kernel
theorem dX11_hung_38 : decode cX11_hung 38 = .ok (.bipush (-2), 2) := by decide +kernel
theorem dX11_hung_40 : decode cX11_hung 40 = .ok (.goto 30, 3) := by decide +kernel
theorem dX11_hung_43 : decode cX11_hung 43 = .ok (.iload_n 1, 1) := by decide +kernel
theorem dX11_hung_44 : decode cX11_hung 44 = .ok (.ifCond .ne 10, 3) := by decide +kernel
theorem dX11_hung_47 : decode cX11_hung 47 = .ok (.aload_n 0, 1) := by decide +kernel
theorem dX11_hung_48 : decode cX11_hung 48 = .ok (.getfield 299, 3) := by decide +kernel
theorem dX11_hung_51 : decode cX11_hung 51 = .ok (.goto 19, 3) := by decide +kernel
theorem dX11_hung_54 : decode cX11_hung 54 = .ok (.iload_n 1, 1) := by decide +kernel
theorem dX11_hung_55 : decode cX11_hung 55 = .ok (.iconst 1, 1) := by decide +kernel
theorem dX11_hung_56 : decode cX11_hung 56 = .ok (.if_icmp .ne 10, 3) := by decide +kernel
theorem dX11_hung_59 : decode cX11_hung 59 = .ok (.aload_n 0, 1) := by decide +kernel
theorem dX11_hung_60 : decode cX11_hung 60 = .ok (.getfield 302, 3) := by decide +kernel
theorem dX11_hung_63 : decode cX11_hung 63 = .ok (.goto 7, 3) := by decide +kernel
theorem dX11_hung_66 : decode cX11_hung 66 = .ok (.aload_n 0, 1) := by decide +kernel
theorem dX11_hung_67 : decode cX11_hung 67 = .ok (.getfield 296, 3) := by decide +kernel
theorem dX11_hung_70 : decode cX11_hung 70 = .ok (.ireturn, 1) := by decide +kernel
set_option maxRecDepth 20000 in
theorem ggX11_context_X11_isFlow : GoodIn wsX11_context wsX11_isFlow := goodIn_r _ [9] (by decide +kernel) (by decide +kernel)
set_option maxRecDepth 20000 in
theorem gX11_context_X11_isFlow : GoodIn wsX11_context (va_wsS RX11 175 yX11_isFlow wsX11_isFlow) := goodIn_app (goodIn_of _ (by decide +kernel)) ggX11_context_X11_isFlow
set_option maxRecDepth 20000 in
theorem ggX11_context_X11_isIn : GoodIn wsX11_context wsX11_isIn := goodIn_r _ [12] (by decide +kernel) (by decide +kernel)
set_option maxRecDepth 20000 in
theorem gX11_context_X11_isIn : GoodIn wsX11_context (va_wsS RX11 153 yX11_isIn wsX11_isIn) := goodIn_app (goodIn_of _ (by decide +kernel)) ggX11_context_X11_isIn
theorem dX11_context_0 : decode cX11_context 0 = .ok (.aload_n 0, 1) := by decide +kernel
theorem dX11_context_1 : decode cX11_context 1 = .ok (.iconst 0, 1) := by decide +kernel
theorem dX11_context_2 : decode cX11_context 2 = .ok (.putfield 145, 3) := by decide +kernel
theorem dX11_context_5 : decode cX11_context 5 = .ok (.iload_n 1, 1) := by decide +kernel
theorem dX11_context_6 : decode cX11_context 6 = .ok (.invokestatic 175, 3) := by decide +kernel
theorem dX11_context_9 : decode cX11_context 9 = .ok (.ifCond .eq 15, 3) := by decide +kernel
theorem dX11_context_12 : decode cX11_context 12 = .ok (.iload_n 2, 1) := by decide +kernel
theorem dX11_context_13 : decode cX11_context 13 = .ok (.i2l, 1) := by decide +kernel
theorem dX11_context_14 : decode cX11_context 14 = .ok (.lconst 0, 1) := by decide +kernel
theorem dX11_context_15 : decode cX11_context 15 = .ok (.ldc2_w 265, 3) := by decide +kernel
theorem dX11_context_18 : decode cX11_context 18 = .ok (.invokestatic 153, 3) := by decide +kernel
theorem dX11_context_21 : decode cX11_context 21 = .ok (.ifCond .ne 5, 3) := by decide +kernel
theorem dX11_context_24 : decode cX11_context 24 = .ok (.iconst (-1), 1) := by decide +kernel
theorem dX11_context_25 : decode cX11_context 25 = .ok (.ireturn, 1) := by decide +kernel
theorem dX11_context_26 : decode cX11_context 26 = .ok (.iload_n 2, 1) := by decide +kernel
theorem dX11_context_27 : decode cX11_context 27 = .ok (.ifCond .ne 20, 3) := by decide +kernel
theorem dX11_context_30 : decode cX11_context 30 = .ok (.aload_n 0, 1) := by decide +kernel
theorem dX11_context_31 : decode cX11_context 31 = .ok (.getfield 87, 3) := by decide +kernel
theorem dX11_context_34 : decode cX11_context 34 = .ok (.iload_n 1, 1) := by decide +kernel
theorem dX11_context_35 : decode cX11_context 35 = .ok (.baload, 1) := by decide +kernel
theorem dX11_context_36 : decode cX11_context 36 = .ok (.ifCond .eq 7, 3) := by decide +kernel
theorem dX11_context_39 : decode cX11_context 39 = .ok (.iconst 1, 1) := by decide +kernel
theorem dX11_context_40 : decode cX11_context 40 = .ok (.goto 41, 3) := by decide +kernel
theorem dX11_context_43 : decode cX11_context 43 = .ok (.iconst 0, 1) := by decide +kernel
theorem dX11_context_44 : decode cX11_context 44 = .ok (.goto 37, 3) := by decide +kernel
theorem dX11_context_47 : decode cX11_context 47 = .ok (.aload_n 0, 1) := by decide +kernel
theorem dX11_context_48 : decode cX11_context 48 = .ok (.getfield 87, 3) := by decide +kernel
theorem dX11_context_51 : decode cX11_context 51 = .ok (.iload_n 1, 1) := by decide +kernel
theorem dX11_context_52 : decode cX11_context 52 = .ok (.baload, 1) := by decide +kernel
theorem dX11_context_53 : decode cX11_context 53 = .ok (.ifCond .ne 8, 3) := by decide +kernel
theorem dX11_context_56 : decode cX11_context 56 = .ok (.bipush (-2), 2) := by decide +kernel
theorem dX11_context_58 : decode cX11_context 58 = .ok (.goto 23, 3) := by decide +kernel
theorem dX11_context_61 : decode cX11_context 61 = .ok (.iload_n 2, 1) := by decide +kernel
theorem dX11_context_62 : decode cX11_context 62 = .ok (.iconst 1, 1) := by decide +kernel
theorem dX11_context_63 : decode cX11_context 63 = .ok (.if_icmp .ne 12, 3) := by decide +kernel
theorem dX11_context_66 : decode cX11_context 66 = .ok (.aload_n 0, 1) := by decide +kernel
theorem dX11_context_67 : decode cX11_context 67 = .ok (.getfield 90, 3) := by decide +kernel
theorem dX11_context_70 : decode cX11_context 70 = .ok (.iload_n 1, 1) := by decide +kernel
theorem dX11_context_71 : decode cX11_context 71 = .ok (.iaload, 1) := by decide +kernel
theorem dX11_context_72 : decode cX11_context 72 = .ok (.goto 9, 3) := by decide +kernel
theorem dX11_context_75 : decode cX11_context 75 = .ok (.aload_n 0, 1) := by decide +kernel
theorem dX11_context_76 : decode cX11_context 76 = .ok (.getfield 93, 3) := by decide +kernel
theorem dX11_context_79 : decode cX11_context 79 = .ok (.iload_n 1, 1) := by decide +kernel
theorem dX11_context_80 : decode cX11_context 80 = .ok (.iaload, 1) := by decide +kernel
theorem dX11_context_81 : decode cX11_context 81 = .ok (.ireturn, 1) := by decide +kernel
set_option maxRecDepth 20000 in
theorem ggX11_known_X11_isFlow : GoodIn wsX11_known wsX11_isFlow := goodIn_r _ [10] (by decide +kernel) (by decide +kernel)
set_option maxRecDepth 20000 in
theorem gX11_known_X11_isFlow : GoodIn wsX11_known (va_wsS RX11 175 yX11_isFlow wsX11_isFlow) := goodIn_app (goodIn_of _ (by decide +kernel)) ggX11_known_X11_isFlow
set_option maxRecDepth 20000 in
theorem ggX11_known_X11_isField : GoodIn wsX11_known wsX11_isField := goodIn_r _ [14, 15, 16, 17, 18, 19, 20, 21, 22, 23, 24, 25, 26, 27, 28, 29, 30, 31, 32, 33, 34, 35, 36, 37, 38, 39, 40, 41, 42, 43, 44, 45, 46, 47, 48, 49, 50, 51, 52, 53, 54, 55, 56, 57, 58, 59, 60, 61, 62, 63, 64, 65, 66, 67, 68, 69, 70, 71, 72, 73] (by decide +kernel) (by decide +kernel)
set_option maxRecDepth 20000 in
theorem gX11_known_X11_isField : GoodIn wsX11_known (wsV RX11 159 RX11 yX11_isField wsX11_isField) := goodIn_app (goodIn_of _ (by decide +kernel)) ggX11_known_X11_isField
theorem dX11_known_0 : decode cX11_known 0 = .ok (.aload_n 0, 1) := by decide +kernel
theorem dX11_known_1 : decode cX11_known 1 = .ok (.iconst 0, 1) := by decide +kernel
theorem dX11_known_2 : decode cX11_known 2 = .ok (.putfield 145, 3) := by decide +kernel
theorem dX11_known_5 : decode cX11_known 5 = .ok (.iload_n 1, 1) := by decide +kernel
theorem dX11_known_6 : decode cX11_known 6 = .ok (.invokestatic 175, 3) := by decide +kernel
theorem dX11_known_9 : decode cX11_known 9 = .ok (.ifCond .eq 11, 3) := by decide +kernel
theorem dX11_known_12 : decode cX11_known 12 = .ok (.aload_n 0, 1) := by decide +kernel
theorem dX11_known_13 : decode cX11_known 13 = .ok (.iload_n 2, 1) := by decide +kernel
theorem dX11_known_14 : decode cX11_known 14 = .ok (.invokevirtual 159, 3) := by decide +kernel
theorem dX11_known_17 : decode cX11_known 17 = .ok (.ifCond .ne 7, 3) := by decide +kernel
theorem dX11_known_20 : decode cX11_known 20 = .ok (.ldc2_w 169, 3) := by decide +kernel
theorem dX11_known_23 : decode cX11_known 23 = .ok (.lreturn, 1) := by decide +kernel
theorem dX11_known_24 : decode cX11_known 24 = .ok (.aload_n 0, 1) := by decide +kernel
theorem dX11_known_25 : decode cX11_known 25 = .ok (.getfield 87, 3) := by decide +kernel
theorem dX11_known_28 : decode cX11_known 28 = .ok (.iload_n 1, 1) := by decide +kernel
theorem dX11_known_29 : decode cX11_known 29 = .ok (.baload, 1) := by decide +kernel
theorem dX11_known_30 : decode cX11_known 30 = .ok (.ifCond .ne 9, 3) := by decide +kernel
theorem dX11_known_33 : decode cX11_known 33 = .ok (.ldc2_w 319, 3) := by decide +kernel
theorem dX11_known_36 : decode cX11_known 36 = .ok (.goto 33, 3) := by decide +kernel
theorem dX11_known_39 : decode cX11_known 39 = .ok (.iload_n 3, 1) := by decide +kernel
theorem dX11_known_40 : decode cX11_known 40 = .ok (.ifCond .eq 18, 3) := by decide +kernel
theorem dX11_known_43 : decode cX11_known 43 = .ok (.aload_n 0, 1) := by decide +kernel
theorem dX11_known_44 : decode cX11_known 44 = .ok (.getfield 96, 3) := by decide +kernel
theorem dX11_known_47 : decode cX11_known 47 = .ok (.bipush 8, 2) := by decide +kernel
theorem dX11_known_49 : decode cX11_known 49 = .ok (.iload_n 1, 1) := by decide +kernel
theorem dX11_known_50 : decode cX11_known 50 = .ok (.imul, 1) := by decide +kernel
theorem dX11_known_51 : decode cX11_known 51 = .ok (.iload_n 2, 1) := by decide +kernel
theorem dX11_known_52 : decode cX11_known 52 = .ok (.iadd, 1) := by decide +kernel
theorem dX11_known_53 : decode cX11_known 53 = .ok (.iaload, 1) := by decide +kernel
theorem dX11_known_54 : decode cX11_known 54 = .ok (.i2l, 1) := by decide +kernel
theorem dX11_known_55 : decode cX11_known 55 = .ok (.goto 14, 3) := by decide +kernel
theorem dX11_known_58 : decode cX11_known 58 = .ok (.aload_n 0, 1) := by decide +kernel
theorem dX11_known_59 : decode cX11_known 59 = .ok (.getfield 99, 3) := by decide +kernel
theorem dX11_known_62 : decode cX11_known 62 = .ok (.bipush 8, 2) := by decide +kernel
theorem dX11_known_64 : decode cX11_known 64 = .ok (.iload_n 1, 1) := by decide +kernel
theorem dX11_known_65 : decode cX11_known 65 = .ok (.imul, 1) := by decide +kernel
theorem dX11_known_66 : decode cX11_known 66 = .ok (.iload_n 2, 1) := by decide +kernel
theorem dX11_known_67 : decode cX11_known 67 = .ok (.iadd, 1) := by decide +kernel
theorem dX11_known_68 : decode cX11_known 68 = .ok (.laload, 1) := by decide +kernel
theorem dX11_known_69 : decode cX11_known 69 = .ok (.lreturn, 1) := by decide +kernel
set_option maxRecDepth 20000 in
theorem ggX11_squeezer_X11_isFlow : GoodIn wsX11_squeezer wsX11_isFlow := goodIn_r _ [11] (by decide +kernel) (by decide +kernel)
set_option maxRecDepth 20000 in
theorem gX11_squeezer_X11_isFlow : GoodIn wsX11_squeezer (va_wsS RX11 175 yX11_isFlow wsX11_isFlow) := goodIn_app (goodIn_of _ (by decide +kernel)) ggX11_squeezer_X11_isFlow
set_option maxRecDepth 20000 in
theorem ggX11_squeezer_X11_isIn : GoodIn wsX11_squeezer wsX11_isIn := goodIn_r _ [14] (by decide +kernel) (by decide +kernel)
set_option maxRecDepth 20000 in
theorem gX11_squeezer_X11_isIn : GoodIn wsX11_squeezer (va_wsS RX11 153 yX11_isIn wsX11_isIn) := goodIn_app (goodIn_of _ (by decide +kernel)) ggX11_squeezer_X11_isIn
theorem dX11_squeezer_0 : decode cX11_squeezer 0 = .ok (.aload_n 0, 1) := by decide +kernel
theorem dX11_squeezer_1 : decode cX11_squeezer 1 = .ok (.iconst 0, 1) := by decide +kernel
theorem dX11_squeezer_2 : decode cX11_squeezer 2 = .ok (.putfield 145, 3) := by decide +kernel
theorem dX11_squeezer_5 : decode cX11_squeezer 5 = .ok (.iload_n 1, 1) := by decide +kernel
theorem dX11_squeezer_6 : decode cX11_squeezer 6 = .ok (.invokestatic 175, 3) := by decide +kernel
theorem dX11_squeezer_9 : decode cX11_squeezer 9 = .ok (.ifCond .eq 15, 3) := by decide +kernel
theorem dX11_squeezer_12 : decode cX11_squeezer 12 = .ok (.iload_n 2, 1) := by decide +kernel
theorem dX11_squeezer_13 : decode cX11_squeezer 13 = .ok (.i2l, 1) := by decide +kernel
theorem dX11_squeezer_14 : decode cX11_squeezer 14 = .ok (.lconst 0, 1) := by decide +kernel
theorem dX11_squeezer_15 : decode cX11_squeezer 15 = .ok (.ldc2_w 151, 3) := by decide +kernel
theorem dX11_squeezer_18 : decode cX11_squeezer 18 = .ok (.invokestatic 153, 3) := by decide +kernel
theorem dX11_squeezer_21 : decode cX11_squeezer 21 = .ok (.ifCond .ne 5, 3) := by decide +kernel
theorem dX11_squeezer_24 : decode cX11_squeezer 24 = .ok (.iconst (-1), 1) := by decide +kernel
theorem dX11_squeezer_25 : decode cX11_squeezer 25 = .ok (.ireturn, 1) := by decide +kernel
theorem dX11_squeezer_26 : decode cX11_squeezer 26 = .ok (.iload_n 2, 1) := by decide +kernel
theorem dX11_squeezer_27 : decode cX11_squeezer 27 = .ok (.tableswitch 74 0 3 #[29, 36, 43, 50], 29) := by decide +kernel
theorem dX11_squeezer_56 : decode cX11_squeezer 56 = .ok (.aload_n 0, 1) := by decide +kernel
theorem dX11_squeezer_57 : decode cX11_squeezer 57 = .ok (.getfield 26, 3) := by decide +kernel
theorem dX11_squeezer_60 : decode cX11_squeezer 60 = .ok (.iload_n 1, 1) := by decide +kernel
theorem dX11_squeezer_61 : decode cX11_squeezer 61 = .ok (.iaload, 1) := by decide +kernel
theorem dX11_squeezer_62 : decode cX11_squeezer 62 = .ok (.ireturn, 1) := by decide +kernel
theorem dX11_squeezer_63 : decode cX11_squeezer 63 = .ok (.aload_n 0, 1) := by decide +kernel
theorem dX11_squeezer_64 : decode cX11_squeezer 64 = .ok (.getfield 29, 3) := by decide +kernel
theorem dX11_squeezer_67 : decode cX11_squeezer 67 = .ok (.iload_n 1, 1) := by decide +kernel
theorem dX11_squeezer_68 : decode cX11_squeezer 68 = .ok (.iaload, 1) := by decide +kernel
theorem dX11_squeezer_69 : decode cX11_squeezer 69 = .ok (.ireturn, 1) := by decide +kernel
theorem dX11_squeezer_70 : decode cX11_squeezer 70 = .ok (.aload_n 0, 1) := by decide +kernel
theorem dX11_squeezer_71 : decode cX11_squeezer 71 = .ok (.getfield 39, 3) := by decide +kernel
theorem dX11_squeezer_74 : decode cX11_squeezer 74 = .ok (.iload_n 1, 1) := by decide +kernel
theorem dX11_squeezer_75 : decode cX11_squeezer 75 = .ok (.iaload, 1) := by decide +kernel
theorem dX11_squeezer_76 : decode cX11_squeezer 76 = .ok (.ireturn, 1) := by decide +kernel
theorem dX11_squeezer_77 : decode cX11_squeezer 77 = .ok (.aload_n 0, 1) := by decide +kernel
theorem dX11_squeezer_78 : decode cX11_squeezer 78 = .ok (.getfield 39, 3) := by decide +kernel
theorem dX11_squeezer_81 : decode cX11_squeezer 81 = .ok (.iload_n 1, 1) := by decide +kernel
theorem dX11_squeezer_82 : decode cX11_squeezer 82 = .ok (.iaload, 1) := by decide +kernel
theorem dX11_squeezer_83 : decode cX11_squeezer 83 = .ok (.ifCond .ne 8, 3) := by decide +kernel
theorem dX11_squeezer_86 : decode cX11_squeezer 86 = .ok (.bipush (-2), 2) := by decide +kernel
theorem dX11_squeezer_88 : decode cX11_squeezer 88 = .ok (.goto 12, 3) := by decide +kernel
theorem dX11_squeezer_91 : decode cX11_squeezer 91 = .ok (.aload_n 0, 1) := by decide +kernel
theorem dX11_squeezer_92 : decode cX11_squeezer 92 = .ok (.getfield 42, 3) := by decide +kernel
theorem dX11_squeezer_95 : decode cX11_squeezer 95 = .ok (.bipush 9, 2) := by decide +kernel
theorem dX11_squeezer_97 : decode cX11_squeezer 97 = .ok (.iload_n 1, 1) := by decide +kernel
theorem dX11_squeezer_98 : decode cX11_squeezer 98 = .ok (.imul, 1) := by decide +kernel
theorem dX11_squeezer_99 : decode cX11_squeezer 99 = .ok (.iaload, 1) := by decide +kernel
theorem dX11_squeezer_100 : decode cX11_squeezer 100 = .ok (.ireturn, 1) := by decide +kernel
theorem dX11_squeezer_101 : decode cX11_squeezer 101 = .ok (.aload_n 0, 1) := by decide +kernel
theorem dX11_squeezer_102 : decode cX11_squeezer 102 = .ok (.getfield 35, 3) := by decide +kernel
theorem dX11_squeezer_105 : decode cX11_squeezer 105 = .ok (.iload_n 1, 1) := by decide +kernel
theorem dX11_squeezer_106 : decode cX11_squeezer 106 = .ok (.baload, 1) := by decide +kernel
theorem dX11_squeezer_107 : decode cX11_squeezer 107 = .ok (.ifCond .eq 7, 3) := by decide +kernel
theorem dX11_squeezer_110 : decode cX11_squeezer 110 = .ok (.iconst 1, 1) := by decide +kernel
theorem dX11_squeezer_111 : decode cX11_squeezer 111 = .ok (.goto 4, 3) := by decide +kernel
theorem dX11_squeezer_114 : decode cX11_squeezer 114 = .ok (.iconst 0, 1) := by decide +kernel
theorem dX11_squeezer_115 : decode cX11_squeezer 115 = .ok (.ireturn, 1) := by decide +kernel
set_option maxRecDepth 20000 in
theorem ggX11_forget_X11_isFlow : GoodIn wsX11_forget wsX11_isFlow := goodIn_r _ [8] (by decide +kernel) (by decide +kernel)
set_option maxRecDepth 20000 in
theorem gX11_forget_X11_isFlow : GoodIn wsX11_forget (va_wsS RX11 175 yX11_isFlow wsX11_isFlow) := goodIn_app (goodIn_of _ (by decide +kernel)) ggX11_forget_X11_isFlow
set_option maxRecDepth 20000 in
theorem ggX11_forget_X11_isIn : GoodIn wsX11_forget wsX11_isIn := goodIn_r _ [11] (by decide +kernel) (by decide +kernel)
set_option maxRecDepth 20000 in
theorem gX11_forget_X11_isIn : GoodIn wsX11_forget (va_wsS RX11 153 yX11_isIn wsX11_isIn) := goodIn_app (goodIn_of _ (by decide +kernel)) ggX11_forget_X11_isIn
theorem dX11_forget_0 : decode cX11_forget 0 = .ok (.aload_n 0, 1) := by decide +kernel
theorem dX11_forget_1 : decode cX11_forget 1 = .ok (.iconst 0, 1) := by decide +kernel
theorem dX11_forget_2 : decode cX11_forget 2 = .ok (.putfield 145, 3) := by decide +kernel
theorem dX11_forget_5 : decode cX11_forget 5 = .ok (.iload_n 1, 1) := by decide +kernel
theorem dX11_forget_6 : decode cX11_forget 6 = .ok (.invokestatic 175, 3) := by decide +kernel
theorem dX11_forget_9 : decode cX11_forget 9 = .ok (.ifCond .eq 13, 3) := by decide +kernel
theorem dX11_forget_12 : decode cX11_forget 12 = .ok (.iload_n 2, 1) := by decide +kernel
theorem dX11_forget_13 : decode cX11_forget 13 = .ok (.i2l, 1) := by decide +kernel
theorem dX11_forget_14 : decode cX11_forget 14 = .ok (.lconst 0, 1) := by decide +kernel
theorem dX11_forget_15 : decode cX11_forget 15 = .ok (.lconst 1, 1) := by decide +kernel
theorem dX11_forget_16 : decode cX11_forget 16 = .ok (.invokestatic 153, 3) := by decide +kernel
theorem dX11_forget_19 : decode cX11_forget 19 = .ok (.ifCond .ne 5, 3) := by decide +kernel
theorem dX11_forget_22 : decode cX11_forget 22 = .ok (.iconst (-1), 1) := by decide +kernel
theorem dX11_forget_23 : decode cX11_forget 23 = .ok (.ireturn, 1) := by decide +kernel
theorem dX11_forget_24 : decode cX11_forget 24 = .ok (.iload_n 2, 1) := by decide +kernel
theorem dX11_forget_25 : decode cX11_forget 25 = .ok (.iconst 1, 1) := by decide +kernel
theorem dX11_forget_26 : decode cX11_forget 26 = .ok (.if_icmp .ne 12, 3) := by decide +kernel
theorem dX11_forget_29 : decode cX11_forget 29 = .ok (.aload_n 0, 1) := by decide +kernel
theorem dX11_forget_30 : decode cX11_forget 30 = .ok (.getfield 87, 3) := by decide +kernel
theorem dX11_forget_33 : decode cX11_forget 33 = .ok (.iload_n 1, 1) := by decide +kernel
theorem dX11_forget_34 : decode cX11_forget 34 = .ok (.baload, 1) := by decide +kernel
theorem dX11_forget_35 : decode cX11_forget 35 = .ok (.goto 17, 3) := by decide +kernel
theorem dX11_forget_38 : decode cX11_forget 38 = .ok (.aload_n 0, 1) := by decide +kernel
theorem dX11_forget_39 : decode cX11_forget 39 = .ok (.getfield 39, 3) := by decide +kernel
theorem dX11_forget_42 : decode cX11_forget 42 = .ok (.iload_n 1, 1) := by decide +kernel
theorem dX11_forget_43 : decode cX11_forget 43 = .ok (.iaload, 1) := by decide +kernel
theorem dX11_forget_44 : decode cX11_forget 44 = .ok (.ifCond .le 7, 3) := by decide +kernel
theorem dX11_forget_47 : decode cX11_forget 47 = .ok (.iconst 1, 1) := by decide +kernel
theorem dX11_forget_48 : decode cX11_forget 48 = .ok (.goto 4, 3) := by decide +kernel
theorem dX11_forget_51 : decode cX11_forget 51 = .ok (.iconst 0, 1) := by decide +kernel
theorem dX11_forget_52 : decode cX11_forget 52 = .ok (.istore_n 3, 1) := by decide +kernel
theorem dX11_forget_53 : decode cX11_forget 53 = .ok (.iload_n 2, 1) := by decide +kernel
theorem dX11_forget_54 : decode cX11_forget 54 = .ok (.iconst 1, 1) := by decide +kernel
theorem dX11_forget_55 : decode cX11_forget 55 = .ok (.if_icmp .ne 13, 3) := by decide +kernel
theorem dX11_forget_58 : decode cX11_forget 58 = .ok (.aload_n 0, 1) := by decide +kernel
theorem dX11_forget_59 : decode cX11_forget 59 = .ok (.getfield 87, 3) := by decide +kernel
theorem dX11_forget_62 : decode cX11_forget 62 = .ok (.iload_n 1, 1) := by decide +kernel
theorem dX11_forget_63 : decode cX11_forget 63 = .ok (.iconst 0, 1) := by decide +kernel
theorem dX11_forget_64 : decode cX11_forget 64 = .ok (.bastore, 1) := by decide +kernel
theorem dX11_forget_65 : decode cX11_forget 65 = .ok (.goto 17, 3) := by decide +kernel
theorem dX11_forget_68 : decode cX11_forget 68 = .ok (.aload_n 0, 1) := by decide +kernel
theorem dX11_forget_69 : decode cX11_forget 69 = .ok (.getfield 35, 3) := by decide +kernel
theorem dX11_forget_72 : decode cX11_forget 72 = .ok (.iload_n 1, 1) := by decide +kernel
theorem dX11_forget_73 : decode cX11_forget 73 = .ok (.iconst 1, 1) := by decide +kernel
theorem dX11_forget_74 : decode cX11_forget 74 = .ok (.bastore, 1) := by decide +kernel
theorem dX11_forget_75 : decode cX11_forget 75 = .ok (.aload_n 0, 1) := by decide +kernel
theorem dX11_forget_76 : decode cX11_forget 76 = .ok (.getfield 39, 3) := by decide +kernel
theorem dX11_forget_79 : decode cX11_forget 79 = .ok (.iload_n 1, 1) := by decide +kernel
theorem dX11_forget_80 : decode cX11_forget 80 = .ok (.iconst 0, 1) := by decide +kernel
theorem dX11_forget_81 : decode cX11_forget 81 = .ok (.iastore, 1) := by decide +kernel
theorem dX11_forget_82 : decode cX11_forget 82 = .ok (.iload_n 3, 1) := by decide +kernel
theorem dX11_forget_83 : decode cX11_forget 83 = .ok (.ifCond .eq 7, 3) := by decide +kernel
theorem dX11_forget_86 : decode cX11_forget 86 = .ok (.iconst 1, 1) := by decide +kernel
theorem dX11_forget_87 : decode cX11_forget 87 = .ok (.goto 4, 3) := by decide +kernel
theorem dX11_forget_90 : decode cX11_forget 90 = .ok (.iconst 0, 1) := by decide +kernel
theorem dX11_forget_91 : decode cX11_forget 91 = .ok (.ireturn, 1) := by decide +kernel
set_option maxRecDepth 20000 in
theorem ggX11_wholeBits_X11_runs : GoodIn wsX11_wholeBits wsX11_runs := goodIn_r _ [7, 8, 9, 10, 11, 12, 13, 14, 15, 16, 17, 18, 19, 20, 21, 22, 23, 24, 25, 26, 27, 28, 29, 30, 31, 32, 33, 34, 35, 36, 37, 38, 39, 40, 41, 42, 43, 44, 45, 46, 47, 48, 49, 50, 51, 52, 53, 54, 55, 56, 57, 58, 59, 60, 61, 62, 63, 64, 65, 66] (by decide +kernel) (by decide +kernel)
set_option maxRecDepth 20000 in
theorem gX11_wholeBits_X11_runs : GoodIn wsX11_wholeBits (wsV RX11 178 RX11 yX11_runs wsX11_runs) := goodIn_app (goodIn_of _ (by decide +kernel)) ggX11_wholeBits_X11_runs
theorem dX11_wholeBits_0 : decode cX11_wholeBits 0 = .ok (.bipush 26, 2) := by decide +kernel
theorem dX11_wholeBits_2 : decode cX11_wholeBits 2 = .ok (.istore_n 1, 1) := by decide +kernel
theorem dX11_wholeBits_3 : decode cX11_wholeBits 3 = .ok (.iconst 0, 1) := by decide +kernel
theorem dX11_wholeBits_4 : decode cX11_wholeBits 4 = .ok (.istore_n 2, 1) := by decide +kernel
theorem dX11_wholeBits_5 : decode cX11_wholeBits 5 = .ok (.iload_n 2, 1) := by decide +kernel
theorem dX11_wholeBits_6 : decode cX11_wholeBits 6 = .ok (.aload_n 0, 1) := by decide +kernel
theorem dX11_wholeBits_7 : decode cX11_wholeBits 7 = .ok (.getfield 148, 3) := by decide +kernel
theorem dX11_wholeBits_10 : decode cX11_wholeBits 10 = .ok (.if_icmp .ge 33, 3) := by decide +kernel
theorem dX11_wholeBits_13 : decode cX11_wholeBits 13 = .ok (.iload_n 1, 1) := by decide +kernel
theorem dX11_wholeBits_14 : decode cX11_wholeBits 14 = .ok (.aload_n 0, 1) := by decide +kernel
theorem dX11_wholeBits_15 : decode cX11_wholeBits 15 = .ok (.getfield 13, 3) := by decide +kernel
theorem dX11_wholeBits_18 : decode cX11_wholeBits 18 = .ok (.iload_n 2, 1) := by decide +kernel
theorem dX11_wholeBits_19 : decode cX11_wholeBits 19 = .ok (.iaload, 1) := by decide +kernel
theorem dX11_wholeBits_20 : decode cX11_wholeBits 20 = .ok (.aload_n 0, 1) := by decide +kernel
theorem dX11_wholeBits_21 : decode cX11_wholeBits 21 = .ok (.iload_n 2, 1) := by decide +kernel
theorem dX11_wholeBits_22 : decode cX11_wholeBits 22 = .ok (.invokevirtual 178, 3) := by decide +kernel
theorem dX11_wholeBits_25 : decode cX11_wholeBits 25 = .ok (.ifCond .eq 8, 3) := by decide +kernel
theorem dX11_wholeBits_28 : decode cX11_wholeBits 28 = .ok (.bipush 8, 2) := by decide +kernel
theorem dX11_wholeBits_30 : decode cX11_wholeBits 30 = .ok (.goto 4, 3) := by decide +kernel
theorem dX11_wholeBits_33 : decode cX11_wholeBits 33 = .ok (.iconst 0, 1) := by decide +kernel
theorem dX11_wholeBits_34 : decode cX11_wholeBits 34 = .ok (.iadd, 1) := by decide +kernel
theorem dX11_wholeBits_35 : decode cX11_wholeBits 35 = .ok (.iadd, 1) := by decide +kernel
theorem dX11_wholeBits_36 : decode cX11_wholeBits 36 = .ok (.istore_n 1, 1) := by decide +kernel
theorem dX11_wholeBits_37 : decode cX11_wholeBits 37 = .ok (.iinc 2 1, 3) := by decide +kernel
theorem dX11_wholeBits_40 : decode cX11_wholeBits 40 = .ok (.goto (-35), 3) := by decide +kernel
theorem dX11_wholeBits_43 : decode cX11_wholeBits 43 = .ok (.iload_n 1, 1) := by decide +kernel
theorem dX11_wholeBits_44 : decode cX11_wholeBits 44 = .ok (.ireturn, 1) := by decide +kernel
set_option maxRecDepth 20000 in
theorem ggX11_spent_X11_isFlow : GoodIn wsX11_spent wsX11_isFlow := goodIn_r _ [13] (by decide +kernel) (by decide +kernel)
set_option maxRecDepth 20000 in
theorem gX11_spent_X11_isFlow : GoodIn wsX11_spent (va_wsS RX11 175 yX11_isFlow wsX11_isFlow) := goodIn_app (goodIn_of _ (by decide +kernel)) ggX11_spent_X11_isFlow
set_option maxRecDepth 20000 in
theorem ggX11_spent_X11_isIn : GoodIn wsX11_spent wsX11_isIn := goodIn_r _ [16] (by decide +kernel) (by decide +kernel)
set_option maxRecDepth 20000 in
theorem gX11_spent_X11_isIn : GoodIn wsX11_spent (va_wsS RX11 153 yX11_isIn wsX11_isIn) := goodIn_app (goodIn_of _ (by decide +kernel)) ggX11_spent_X11_isIn
set_option maxRecDepth 20000 in
theorem ggX11_spent_X11_wholeBits : GoodIn wsX11_spent wsX11_wholeBits := goodIn_r _ [20, 21, 22, 23, 24, 25, 12, 26, 27, 28, 29, 30, 31, 32, 33, 34, 35, 36, 37, 38, 39, 40, 41, 42, 43, 44, 45, 46, 47, 48, 49, 50, 51, 52, 53, 54, 55, 56, 57, 58, 59, 60, 61, 62, 63, 64, 65, 66, 67, 68, 69, 70, 71, 72, 73, 74, 75, 76, 77, 78, 79, 80, 81, 82, 83, 84, 85] (by decide +kernel) (by decide +kernel)
set_option maxRecDepth 20000 in
theorem gX11_spent_X11_wholeBits : GoodIn wsX11_spent (wsV RX11 323 RX11 yX11_wholeBits wsX11_wholeBits) := goodIn_app (goodIn_of _ (by decide +kernel)) ggX11_spent_X11_wholeBits
theorem dX11_spent_0 : decode cX11_spent 0 = .ok (.aload_n 0, 1) := by decide +kernel
theorem dX11_spent_1 : decode cX11_spent 1 = .ok (.iconst 0, 1) := by decide +kernel
theorem dX11_spent_2 : decode cX11_spent 2 = .ok (.putfield 145, 3) := by decide +kernel
theorem dX11_spent_5 : decode cX11_spent 5 = .ok (.iload_n 1, 1) := by decide +kernel
theorem dX11_spent_6 : decode cX11_spent 6 = .ok (.invokestatic 175, 3) := by decide +kernel
theorem dX11_spent_9 : decode cX11_spent 9 = .ok (.ifCond .eq 27, 3) := by decide +kernel
theorem dX11_spent_12 : decode cX11_spent 12 = .ok (.iload_n 2, 1) := by decide +kernel
theorem dX11_spent_13 : decode cX11_spent 13 = .ok (.i2l, 1) := by decide +kernel
theorem dX11_spent_14 : decode cX11_spent 14 = .ok (.lconst 0, 1) := by decide +kernel
theorem dX11_spent_15 : decode cX11_spent 15 = .ok (.ldc2_w 321, 3) := by decide +kernel
theorem dX11_spent_18 : decode cX11_spent 18 = .ok (.invokestatic 153, 3) := by decide +kernel
theorem dX11_spent_21 : decode cX11_spent 21 = .ok (.ifCond .eq 15, 3) := by decide +kernel
theorem dX11_spent_24 : decode cX11_spent 24 = .ok (.iload_n 3, 1) := by decide +kernel
theorem dX11_spent_25 : decode cX11_spent 25 = .ok (.i2l, 1) := by decide +kernel
theorem dX11_spent_26 : decode cX11_spent 26 = .ok (.lconst 0, 1) := by decide +kernel
theorem dX11_spent_27 : decode cX11_spent 27 = .ok (.ldc2_w 265, 3) := by decide +kernel
theorem dX11_spent_30 : decode cX11_spent 30 = .ok (.invokestatic 153, 3) := by decide +kernel
theorem dX11_spent_33 : decode cX11_spent 33 = .ok (.ifCond .ne 7, 3) := by decide +kernel
theorem dX11_spent_36 : decode cX11_spent 36 = .ok (.ldc2_w 169, 3) := by decide +kernel
theorem dX11_spent_39 : decode cX11_spent 39 = .ok (.lreturn, 1) := by decide +kernel
theorem dX11_spent_40 : decode cX11_spent 40 = .ok (.lconst 0, 1) := by decide +kernel
theorem dX11_spent_41 : decode cX11_spent 41 = .ok (.lstore 4, 2) := by decide +kernel
theorem dX11_spent_43 : decode cX11_spent 43 = .ok (.iconst 0, 1) := by decide +kernel
theorem dX11_spent_44 : decode cX11_spent 44 = .ok (.istore 6, 2) := by decide +kernel
theorem dX11_spent_46 : decode cX11_spent 46 = .ok (.iload 6, 2) := by decide +kernel
theorem dX11_spent_48 : decode cX11_spent 48 = .ok (.aload_n 0, 1) := by decide +kernel
theorem dX11_spent_49 : decode cX11_spent 49 = .ok (.getfield 204, 3) := by decide +kernel
theorem dX11_spent_52 : decode cX11_spent 52 = .ok (.if_icmp .ge 92, 3) := by decide +kernel
theorem dX11_spent_55 : decode cX11_spent 55 = .ok (.aload_n 0, 1) := by decide +kernel
theorem dX11_spent_56 : decode cX11_spent 56 = .ok (.getfield 72, 3) := by decide +kernel
theorem dX11_spent_59 : decode cX11_spent 59 = .ok (.iload 6, 2) := by decide +kernel
theorem dX11_spent_61 : decode cX11_spent 61 = .ok (.baload, 1) := by decide +kernel
theorem dX11_spent_62 : decode cX11_spent 62 = .ok (.ifCond .ne 76, 3) := by decide +kernel
theorem dX11_spent_65 : decode cX11_spent 65 = .ok (.aload_n 0, 1) := by decide +kernel
theorem dX11_spent_66 : decode cX11_spent 66 = .ok (.getfield 57, 3) := by decide +kernel
theorem dX11_spent_69 : decode cX11_spent 69 = .ok (.iload 6, 2) := by decide +kernel
theorem dX11_spent_71 : decode cX11_spent 71 = .ok (.iaload, 1) := by decide +kernel
theorem dX11_spent_72 : decode cX11_spent 72 = .ok (.iload_n 1, 1) := by decide +kernel
theorem dX11_spent_73 : decode cX11_spent 73 = .ok (.if_icmp .ne 65, 3) := by decide +kernel
theorem dX11_spent_76 : decode cX11_spent 76 = .ok (.aload_n 0, 1) := by decide +kernel
theorem dX11_spent_77 : decode cX11_spent 77 = .ok (.getfield 54, 3) := by decide +kernel
theorem dX11_spent_80 : decode cX11_spent 80 = .ok (.iload 6, 2) := by decide +kernel
theorem dX11_spent_82 : decode cX11_spent 82 = .ok (.iaload, 1) := by decide +kernel
theorem dX11_spent_83 : decode cX11_spent 83 = .ok (.iload_n 2, 1) := by decide +kernel
theorem dX11_spent_84 : decode cX11_spent 84 = .ok (.if_icmp .ne 54, 3) := by decide +kernel
theorem dX11_spent_87 : decode cX11_spent 87 = .ok (.lload 4, 2) := by decide +kernel
theorem dX11_spent_89 : decode cX11_spent 89 = .ok (.iload_n 3, 1) := by decide +kernel
theorem dX11_spent_90 : decode cX11_spent 90 = .ok (.ifCond .ne 7, 3) := by decide +kernel
theorem dX11_spent_93 : decode cX11_spent 93 = .ok (.lconst 1, 1) := by decide +kernel
theorem dX11_spent_94 : decode cX11_spent 94 = .ok (.goto 41, 3) := by decide +kernel
theorem dX11_spent_97 : decode cX11_spent 97 = .ok (.iload_n 3, 1) := by decide +kernel
theorem dX11_spent_98 : decode cX11_spent 98 = .ok (.iconst 1, 1) := by decide +kernel
theorem dX11_spent_99 : decode cX11_spent 99 = .ok (.if_icmp .ne 14, 3) := by decide +kernel
theorem dX11_spent_102 : decode cX11_spent 102 = .ok (.aload_n 0, 1) := by decide +kernel
theorem dX11_spent_103 : decode cX11_spent 103 = .ok (.getfield 63, 3) := by decide +kernel
theorem dX11_spent_106 : decode cX11_spent 106 = .ok (.iload 6, 2) := by decide +kernel
theorem dX11_spent_108 : decode cX11_spent 108 = .ok (.iaload, 1) := by decide +kernel
theorem dX11_spent_109 : decode cX11_spent 109 = .ok (.i2l, 1) := by decide +kernel
theorem dX11_spent_110 : decode cX11_spent 110 = .ok (.goto 25, 3) := by decide +kernel
theorem dX11_spent_113 : decode cX11_spent 113 = .ok (.iload_n 2, 1) := by decide +kernel
theorem dX11_spent_114 : decode cX11_spent 114 = .ok (.iconst 3, 1) := by decide +kernel
theorem dX11_spent_115 : decode cX11_spent 115 = .ok (.if_icmp .ge 19, 3) := by decide +kernel
theorem dX11_spent_118 : decode cX11_spent 118 = .ok (.aload_n 0, 1) := by decide +kernel
theorem dX11_spent_119 : decode cX11_spent 119 = .ok (.invokevirtual 323, 3) := by decide +kernel
theorem dX11_spent_122 : decode cX11_spent 122 = .ok (.aload_n 0, 1) := by decide +kernel
theorem dX11_spent_123 : decode cX11_spent 123 = .ok (.getfield 63, 3) := by decide +kernel
theorem dX11_spent_126 : decode cX11_spent 126 = .ok (.iload 6, 2) := by decide +kernel
theorem dX11_spent_128 : decode cX11_spent 128 = .ok (.iaload, 1) := by decide +kernel
theorem dX11_spent_129 : decode cX11_spent 129 = .ok (.isub, 1) := by decide +kernel
theorem dX11_spent_130 : decode cX11_spent 130 = .ok (.i2l, 1) := by decide +kernel
theorem dX11_spent_131 : decode cX11_spent 131 = .ok (.goto 4, 3) := by decide +kernel
theorem dX11_spent_134 : decode cX11_spent 134 = .ok (.lconst 0, 1) := by decide +kernel
theorem dX11_spent_135 : decode cX11_spent 135 = .ok (.ladd, 1) := by decide +kernel
theorem dX11_spent_136 : decode cX11_spent 136 = .ok (.lstore 4, 2) := by decide +kernel
theorem dX11_spent_138 : decode cX11_spent 138 = .ok (.iinc 6 1, 3) := by decide +kernel
theorem dX11_spent_141 : decode cX11_spent 141 = .ok (.goto (-95), 3) := by decide +kernel
theorem dX11_spent_144 : decode cX11_spent 144 = .ok (.lload 4, 2) := by decide +kernel
theorem dX11_spent_146 : decode cX11_spent 146 = .ok (.lreturn, 1) := by decide +kernel
theorem dX11_isShelf_0 : decode cX11_isShelf 0 = .ok (.iload_n 0, 1) := by decide +kernel
theorem dX11_isShelf_1 : decode cX11_isShelf 1 = .ok (.ifCond .lt 13, 3) := by decide +kernel
theorem dX11_isShelf_4 : decode cX11_isShelf 4 = .ok (.iload_n 0, 1) := by decide +kernel
theorem dX11_isShelf_5 : decode cX11_isShelf 5 = .ok (.bipush 8, 2) := by decide +kernel
theorem dX11_isShelf_7 : decode cX11_isShelf 7 = .ok (.if_icmp .ge 7, 3) := by decide +kernel
theorem dX11_isShelf_10 : decode cX11_isShelf 10 = .ok (.iconst 1, 1) := by decide +kernel
theorem dX11_isShelf_11 : decode cX11_isShelf 11 = .ok (.goto 4, 3) := by decide +kernel
theorem dX11_isShelf_14 : decode cX11_isShelf 14 = .ok (.iconst 0, 1) := by decide +kernel
theorem dX11_isShelf_15 : decode cX11_isShelf 15 = .ok (.ireturn, 1) := by decide +kernel
set_option maxRecDepth 20000 in
theorem ggX11_canKeep_X11_isFlow : GoodIn wsX11_canKeep wsX11_isFlow := goodIn_r _ [6] (by decide +kernel) (by decide +kernel)
set_option maxRecDepth 20000 in
theorem gX11_canKeep_X11_isFlow : GoodIn wsX11_canKeep (va_wsS RX11 175 yX11_isFlow wsX11_isFlow) := goodIn_app (goodIn_of _ (by decide +kernel)) ggX11_canKeep_X11_isFlow
theorem dX11_canKeep_0 : decode cX11_canKeep 0 = .ok (.iload_n 1, 1) := by decide +kernel
theorem dX11_canKeep_1 : decode cX11_canKeep 1 = .ok (.iconst 1, 1) := by decide +kernel
theorem dX11_canKeep_2 : decode cX11_canKeep 2 = .ok (.if_icmp .eq 8, 3) := by decide +kernel
theorem dX11_canKeep_5 : decode cX11_canKeep 5 = .ok (.iload_n 1, 1) := by decide +kernel
theorem dX11_canKeep_6 : decode cX11_canKeep 6 = .ok (.iconst 2, 1) := by decide +kernel
theorem dX11_canKeep_7 : decode cX11_canKeep 7 = .ok (.if_icmp .ne 21, 3) := by decide +kernel
theorem dX11_canKeep_10 : decode cX11_canKeep 10 = .ok (.iload_n 2, 1) := by decide +kernel
theorem dX11_canKeep_11 : decode cX11_canKeep 11 = .ok (.ifCond .lt 15, 3) := by decide +kernel
theorem dX11_canKeep_14 : decode cX11_canKeep 14 = .ok (.iload_n 2, 1) := by decide +kernel
theorem dX11_canKeep_15 : decode cX11_canKeep 15 = .ok (.aload_n 0, 1) := by decide +kernel
theorem dX11_canKeep_16 : decode cX11_canKeep 16 = .ok (.getfield 204, 3) := by decide +kernel
theorem dX11_canKeep_19 : decode cX11_canKeep 19 = .ok (.if_icmp .ge 7, 3) := by decide +kernel
theorem dX11_canKeep_22 : decode cX11_canKeep 22 = .ok (.iconst 1, 1) := by decide +kernel
theorem dX11_canKeep_23 : decode cX11_canKeep 23 = .ok (.goto 4, 3) := by decide +kernel
theorem dX11_canKeep_26 : decode cX11_canKeep 26 = .ok (.iconst 0, 1) := by decide +kernel
theorem dX11_canKeep_27 : decode cX11_canKeep 27 = .ok (.ireturn, 1) := by decide +kernel
theorem dX11_canKeep_28 : decode cX11_canKeep 28 = .ok (.iload_n 1, 1) := by decide +kernel
theorem dX11_canKeep_29 : decode cX11_canKeep 29 = .ok (.ifCond .eq 24, 3) := by decide +kernel
theorem dX11_canKeep_32 : decode cX11_canKeep 32 = .ok (.iload_n 2, 1) := by decide +kernel
theorem dX11_canKeep_33 : decode cX11_canKeep 33 = .ok (.invokestatic 175, 3) := by decide +kernel
theorem dX11_canKeep_36 : decode cX11_canKeep 36 = .ok (.ifCond .eq 21, 3) := by decide +kernel
theorem dX11_canKeep_39 : decode cX11_canKeep 39 = .ok (.iload_n 1, 1) := by decide +kernel
theorem dX11_canKeep_40 : decode cX11_canKeep 40 = .ok (.iconst 3, 1) := by decide +kernel
theorem dX11_canKeep_41 : decode cX11_canKeep 41 = .ok (.if_icmp .eq 12, 3) := by decide +kernel
theorem dX11_canKeep_44 : decode cX11_canKeep 44 = .ok (.aload_n 0, 1) := by decide +kernel
theorem dX11_canKeep_45 : decode cX11_canKeep 45 = .ok (.getfield 87, 3) := by decide +kernel
theorem dX11_canKeep_48 : decode cX11_canKeep 48 = .ok (.iload_n 2, 1) := by decide +kernel
theorem dX11_canKeep_49 : decode cX11_canKeep 49 = .ok (.baload, 1) := by decide +kernel
theorem dX11_canKeep_50 : decode cX11_canKeep 50 = .ok (.ifCond .eq 7, 3) := by decide +kernel
theorem dX11_canKeep_53 : decode cX11_canKeep 53 = .ok (.iconst 1, 1) := by decide +kernel
theorem dX11_canKeep_54 : decode cX11_canKeep 54 = .ok (.goto 4, 3) := by decide +kernel
theorem dX11_canKeep_57 : decode cX11_canKeep 57 = .ok (.iconst 0, 1) := by decide +kernel
theorem dX11_canKeep_58 : decode cX11_canKeep 58 = .ok (.ireturn, 1) := by decide +kernel
set_option maxRecDepth 20000 in
theorem ggX11_keep_X11_isShelf : GoodIn wsX11_keep wsX11_isShelf := goodIn_r _ [17] (by decide +kernel) (by decide +kernel)
set_option maxRecDepth 20000 in
theorem gX11_keep_X11_isShelf : GoodIn wsX11_keep (va_wsS RX11 326 yX11_isShelf wsX11_isShelf) := goodIn_app (goodIn_of _ (by decide +kernel)) ggX11_keep_X11_isShelf
set_option maxRecDepth 20000 in
theorem ggX11_keep_X11_isIn : GoodIn wsX11_keep wsX11_isIn := goodIn_r _ [20] (by decide +kernel) (by decide +kernel)
set_option maxRecDepth 20000 in
theorem gX11_keep_X11_isIn : GoodIn wsX11_keep (va_wsS RX11 153 yX11_isIn wsX11_isIn) := goodIn_app (goodIn_of _ (by decide +kernel)) ggX11_keep_X11_isIn
set_option maxRecDepth 20000 in
theorem ggX11_keep_X11_canKeep : GoodIn wsX11_keep wsX11_canKeep := goodIn_r _ [24, 25, 26, 27, 28, 16, 29, 30, 31, 32, 33, 34, 35, 36, 37, 38, 39, 40, 41, 42, 43, 44, 45, 46, 47, 48, 49, 50, 51, 52, 53, 54, 55, 56, 57, 58, 59, 60, 61, 62, 63, 64, 65, 66, 67, 68, 69, 70, 71, 72, 73, 74, 75, 76, 77, 78, 79, 80, 81, 82, 83, 84, 85, 86, 87] (by decide +kernel) (by decide +kernel)
set_option maxRecDepth 20000 in
theorem gX11_keep_X11_canKeep : GoodIn wsX11_keep (wsV RX11 329 RX11 yX11_canKeep wsX11_canKeep) := goodIn_app (goodIn_of _ (by decide +kernel)) ggX11_keep_X11_canKeep
theorem dX11_keep_0 : decode cX11_keep 0 = .ok (.aload_n 0, 1) := by decide +kernel
theorem dX11_keep_1 : decode cX11_keep 1 = .ok (.iconst 0, 1) := by decide +kernel
theorem dX11_keep_2 : decode cX11_keep 2 = .ok (.putfield 145, 3) := by decide +kernel
theorem dX11_keep_5 : decode cX11_keep 5 = .ok (.iload_n 1, 1) := by decide +kernel
theorem dX11_keep_6 : decode cX11_keep 6 = .ok (.invokestatic 326, 3) := by decide +kernel
theorem dX11_keep_9 : decode cX11_keep 9 = .ok (.ifCond .eq 24, 3) := by decide +kernel
theorem dX11_keep_12 : decode cX11_keep 12 = .ok (.iload_n 2, 1) := by decide +kernel
theorem dX11_keep_13 : decode cX11_keep 13 = .ok (.i2l, 1) := by decide +kernel
theorem dX11_keep_14 : decode cX11_keep 14 = .ok (.lconst 0, 1) := by decide +kernel
theorem dX11_keep_15 : decode cX11_keep 15 = .ok (.ldc2_w 151, 3) := by decide +kernel
theorem dX11_keep_18 : decode cX11_keep 18 = .ok (.invokestatic 153, 3) := by decide +kernel
theorem dX11_keep_21 : decode cX11_keep 21 = .ok (.ifCond .eq 12, 3) := by decide +kernel
theorem dX11_keep_24 : decode cX11_keep 24 = .ok (.aload_n 0, 1) := by decide +kernel
theorem dX11_keep_25 : decode cX11_keep 25 = .ok (.iload_n 2, 1) := by decide +kernel
theorem dX11_keep_26 : decode cX11_keep 26 = .ok (.iload_n 3, 1) := by decide +kernel
theorem dX11_keep_27 : decode cX11_keep 27 = .ok (.invokevirtual 329, 3) := by decide +kernel
theorem dX11_keep_30 : decode cX11_keep 30 = .ok (.ifCond .ne 5, 3) := by decide +kernel
theorem dX11_keep_33 : decode cX11_keep 33 = .ok (.iconst (-1), 1) := by decide +kernel
theorem dX11_keep_34 : decode cX11_keep 34 = .ok (.ireturn, 1) := by decide +kernel
theorem dX11_keep_35 : decode cX11_keep 35 = .ok (.aload_n 0, 1) := by decide +kernel
theorem dX11_keep_36 : decode cX11_keep 36 = .ok (.getfield 126, 3) := by decide +kernel
theorem dX11_keep_39 : decode cX11_keep 39 = .ok (.iload_n 1, 1) := by decide +kernel
theorem dX11_keep_40 : decode cX11_keep 40 = .ok (.iload_n 2, 1) := by decide +kernel
theorem dX11_keep_41 : decode cX11_keep 41 = .ok (.iastore, 1) := by decide +kernel
theorem dX11_keep_42 : decode cX11_keep 42 = .ok (.aload_n 0, 1) := by decide +kernel
theorem dX11_keep_43 : decode cX11_keep 43 = .ok (.getfield 129, 3) := by decide +kernel
theorem dX11_keep_46 : decode cX11_keep 46 = .ok (.iload_n 1, 1) := by decide +kernel
theorem dX11_keep_47 : decode cX11_keep 47 = .ok (.iload_n 2, 1) := by decide +kernel
theorem dX11_keep_48 : decode cX11_keep 48 = .ok (.ifCond .ne 7, 3) := by decide +kernel
theorem dX11_keep_51 : decode cX11_keep 51 = .ok (.iconst 0, 1) := by decide +kernel
theorem dX11_keep_52 : decode cX11_keep 52 = .ok (.goto 35, 3) := by decide +kernel
theorem dX11_keep_55 : decode cX11_keep 55 = .ok (.iload_n 2, 1) := by decide +kernel
theorem dX11_keep_56 : decode cX11_keep 56 = .ok (.iconst 3, 1) := by decide +kernel
theorem dX11_keep_57 : decode cX11_keep 57 = .ok (.if_icmp .ge 12, 3) := by decide +kernel
theorem dX11_keep_60 : decode cX11_keep 60 = .ok (.aload_n 0, 1) := by decide +kernel
theorem dX11_keep_61 : decode cX11_keep 61 = .ok (.getfield 48, 3) := by decide +kernel
theorem dX11_keep_64 : decode cX11_keep 64 = .ok (.iload_n 3, 1) := by decide +kernel
theorem dX11_keep_65 : decode cX11_keep 65 = .ok (.iaload, 1) := by decide +kernel
theorem dX11_keep_66 : decode cX11_keep 66 = .ok (.goto 21, 3) := by decide +kernel
theorem dX11_keep_69 : decode cX11_keep 69 = .ok (.iload_n 2, 1) := by decide +kernel
theorem dX11_keep_70 : decode cX11_keep 70 = .ok (.iconst 3, 1) := by decide +kernel
theorem dX11_keep_71 : decode cX11_keep 71 = .ok (.if_icmp .ne 12, 3) := by decide +kernel
theorem dX11_keep_74 : decode cX11_keep 74 = .ok (.aload_n 0, 1) := by decide +kernel
theorem dX11_keep_75 : decode cX11_keep 75 = .ok (.getfield 39, 3) := by decide +kernel
theorem dX11_keep_78 : decode cX11_keep 78 = .ok (.iload_n 3, 1) := by decide +kernel
theorem dX11_keep_79 : decode cX11_keep 79 = .ok (.iaload, 1) := by decide +kernel
theorem dX11_keep_80 : decode cX11_keep 80 = .ok (.goto 7, 3) := by decide +kernel
theorem dX11_keep_83 : decode cX11_keep 83 = .ok (.aload_n 0, 1) := by decide +kernel
theorem dX11_keep_84 : decode cX11_keep 84 = .ok (.getfield 148, 3) := by decide +kernel
theorem dX11_keep_87 : decode cX11_keep 87 = .ok (.iastore, 1) := by decide +kernel
theorem dX11_keep_88 : decode cX11_keep 88 = .ok (.aload_n 0, 1) := by decide +kernel
theorem dX11_keep_89 : decode cX11_keep 89 = .ok (.getfield 132, 3) := by decide +kernel
theorem dX11_keep_92 : decode cX11_keep 92 = .ok (.iload_n 1, 1) := by decide +kernel
theorem dX11_keep_93 : decode cX11_keep 93 = .ok (.iload_n 2, 1) := by decide +kernel
theorem dX11_keep_94 : decode cX11_keep 94 = .ok (.iconst 1, 1) := by decide +kernel
theorem dX11_keep_95 : decode cX11_keep 95 = .ok (.if_icmp .ne 12, 3) := by decide +kernel
theorem dX11_keep_98 : decode cX11_keep 98 = .ok (.aload_n 0, 1) := by decide +kernel
theorem dX11_keep_99 : decode cX11_keep 99 = .ok (.getfield 54, 3) := by decide +kernel
theorem dX11_keep_102 : decode cX11_keep 102 = .ok (.iload_n 3, 1) := by decide +kernel
theorem dX11_keep_103 : decode cX11_keep 103 = .ok (.iaload, 1) := by decide +kernel
theorem dX11_keep_104 : decode cX11_keep 104 = .ok (.goto 4, 3) := by decide +kernel
theorem dX11_keep_107 : decode cX11_keep 107 = .ok (.iconst 0, 1) := by decide +kernel
theorem dX11_keep_108 : decode cX11_keep 108 = .ok (.iastore, 1) := by decide +kernel
theorem dX11_keep_109 : decode cX11_keep 109 = .ok (.iconst 0, 1) := by decide +kernel
theorem dX11_keep_110 : decode cX11_keep 110 = .ok (.istore 4, 2) := by decide +kernel
theorem dX11_keep_112 : decode cX11_keep 112 = .ok (.iload 4, 2) := by decide +kernel
theorem dX11_keep_114 : decode cX11_keep 114 = .ok (.aload_n 0, 1) := by decide +kernel
theorem dX11_keep_115 : decode cX11_keep 115 = .ok (.getfield 129, 3) := by decide +kernel
theorem dX11_keep_118 : decode cX11_keep 118 = .ok (.iload_n 1, 1) := by decide +kernel
theorem dX11_keep_119 : decode cX11_keep 119 = .ok (.iaload, 1) := by decide +kernel
theorem dX11_keep_120 : decode cX11_keep 120 = .ok (.if_icmp .ge 75, 3) := by decide +kernel
theorem dX11_keep_123 : decode cX11_keep 123 = .ok (.aload_n 0, 1) := by decide +kernel
theorem dX11_keep_124 : decode cX11_keep 124 = .ok (.getfield 135, 3) := by decide +kernel
theorem dX11_keep_127 : decode cX11_keep 127 = .ok (.bipush 64, 2) := by decide +kernel
theorem dX11_keep_129 : decode cX11_keep 129 = .ok (.iload_n 1, 1) := by decide +kernel
theorem dX11_keep_130 : decode cX11_keep 130 = .ok (.imul, 1) := by decide +kernel
theorem dX11_keep_131 : decode cX11_keep 131 = .ok (.iload 4, 2) := by decide +kernel
theorem dX11_keep_133 : decode cX11_keep 133 = .ok (.iadd, 1) := by decide +kernel
theorem dX11_keep_134 : decode cX11_keep 134 = .ok (.iload_n 2, 1) := by decide +kernel
theorem dX11_keep_135 : decode cX11_keep 135 = .ok (.iconst 3, 1) := by decide +kernel
theorem dX11_keep_136 : decode cX11_keep 136 = .ok (.if_icmp .ge 19, 3) := by decide +kernel
theorem dX11_keep_139 : decode cX11_keep 139 = .ok (.aload_n 0, 1) := by decide +kernel
theorem dX11_keep_140 : decode cX11_keep 140 = .ok (.getfield 51, 3) := by decide +kernel
theorem dX11_keep_143 : decode cX11_keep 143 = .ok (.bipush 64, 2) := by decide +kernel
theorem dX11_keep_145 : decode cX11_keep 145 = .ok (.iload_n 3, 1) := by decide +kernel
theorem dX11_keep_146 : decode cX11_keep 146 = .ok (.imul, 1) := by decide +kernel
theorem dX11_keep_147 : decode cX11_keep 147 = .ok (.iload 4, 2) := by decide +kernel
theorem dX11_keep_149 : decode cX11_keep 149 = .ok (.iadd, 1) := by decide +kernel
theorem dX11_keep_150 : decode cX11_keep 150 = .ok (.iaload, 1) := by decide +kernel
theorem dX11_keep_151 : decode cX11_keep 151 = .ok (.i2l, 1) := by decide +kernel
theorem dX11_keep_152 : decode cX11_keep 152 = .ok (.goto 36, 3) := by decide +kernel
theorem dX11_keep_155 : decode cX11_keep 155 = .ok (.iload_n 2, 1) := by decide +kernel
theorem dX11_keep_156 : decode cX11_keep 156 = .ok (.iconst 3, 1) := by decide +kernel
theorem dX11_keep_157 : decode cX11_keep 157 = .ok (.if_icmp .ne 19, 3) := by decide +kernel
theorem dX11_keep_160 : decode cX11_keep 160 = .ok (.aload_n 0, 1) := by decide +kernel
theorem dX11_keep_161 : decode cX11_keep 161 = .ok (.getfield 42, 3) := by decide +kernel
theorem dX11_keep_164 : decode cX11_keep 164 = .ok (.bipush 9, 2) := by decide +kernel
theorem dX11_keep_166 : decode cX11_keep 166 = .ok (.iload_n 3, 1) := by decide +kernel
theorem dX11_keep_167 : decode cX11_keep 167 = .ok (.imul, 1) := by decide +kernel
theorem dX11_keep_168 : decode cX11_keep 168 = .ok (.iload 4, 2) := by decide +kernel
theorem dX11_keep_170 : decode cX11_keep 170 = .ok (.iadd, 1) := by decide +kernel
theorem dX11_keep_171 : decode cX11_keep 171 = .ok (.iaload, 1) := by decide +kernel
theorem dX11_keep_172 : decode cX11_keep 172 = .ok (.i2l, 1) := by decide +kernel
theorem dX11_keep_173 : decode cX11_keep 173 = .ok (.goto 15, 3) := by decide +kernel
theorem dX11_keep_176 : decode cX11_keep 176 = .ok (.aload_n 0, 1) := by decide +kernel
theorem dX11_keep_177 : decode cX11_keep 177 = .ok (.getfield 99, 3) := by decide +kernel
theorem dX11_keep_180 : decode cX11_keep 180 = .ok (.bipush 8, 2) := by decide +kernel
theorem dX11_keep_182 : decode cX11_keep 182 = .ok (.iload_n 3, 1) := by decide +kernel
theorem dX11_keep_183 : decode cX11_keep 183 = .ok (.imul, 1) := by decide +kernel
theorem dX11_keep_184 : decode cX11_keep 184 = .ok (.iload 4, 2) := by decide +kernel
theorem dX11_keep_186 : decode cX11_keep 186 = .ok (.iadd, 1) := by decide +kernel
theorem dX11_keep_187 : decode cX11_keep 187 = .ok (.laload, 1) := by decide +kernel
theorem dX11_keep_188 : decode cX11_keep 188 = .ok (.lastore, 1) := by decide +kernel
theorem dX11_keep_189 : decode cX11_keep 189 = .ok (.iinc 4 1, 3) := by decide +kernel
theorem dX11_keep_192 : decode cX11_keep 192 = .ok (.goto (-80), 3) := by decide +kernel
theorem dX11_keep_195 : decode cX11_keep 195 = .ok (.iconst 0, 1) := by decide +kernel
theorem dX11_keep_196 : decode cX11_keep 196 = .ok (.ireturn, 1) := by decide +kernel
set_option maxRecDepth 20000 in
theorem ggX11_make_X11_isShelf : GoodIn wsX11_make wsX11_isShelf := goodIn_r _ [10] (by decide +kernel) (by decide +kernel)
set_option maxRecDepth 20000 in
theorem gX11_make_X11_isShelf : GoodIn wsX11_make (va_wsS RX11 326 yX11_isShelf wsX11_isShelf) := goodIn_app (goodIn_of _ (by decide +kernel)) ggX11_make_X11_isShelf
set_option maxRecDepth 20000 in
theorem ggX11_make_X11_isIn : GoodIn wsX11_make wsX11_isIn := goodIn_r _ [13] (by decide +kernel) (by decide +kernel)
set_option maxRecDepth 20000 in
theorem gX11_make_X11_isIn : GoodIn wsX11_make (va_wsS RX11 153 yX11_isIn wsX11_isIn) := goodIn_app (goodIn_of _ (by decide +kernel)) ggX11_make_X11_isIn
theorem dX11_make_0 : decode cX11_make 0 = .ok (.aload_n 0, 1) := by decide +kernel
theorem dX11_make_1 : decode cX11_make 1 = .ok (.iconst 0, 1) := by decide +kernel
theorem dX11_make_2 : decode cX11_make 2 = .ok (.putfield 145, 3) := by decide +kernel
theorem dX11_make_5 : decode cX11_make 5 = .ok (.iload_n 1, 1) := by decide +kernel
theorem dX11_make_6 : decode cX11_make 6 = .ok (.invokestatic 326, 3) := by decide +kernel
theorem dX11_make_9 : decode cX11_make 9 = .ok (.ifCond .eq 23, 3) := by decide +kernel
theorem dX11_make_12 : decode cX11_make 12 = .ok (.iload_n 2, 1) := by decide +kernel
theorem dX11_make_13 : decode cX11_make 13 = .ok (.i2l, 1) := by decide +kernel
theorem dX11_make_14 : decode cX11_make 14 = .ok (.ldc2_w 265, 3) := by decide +kernel
theorem dX11_make_17 : decode cX11_make 17 = .ok (.ldc2_w 151, 3) := by decide +kernel
theorem dX11_make_20 : decode cX11_make 20 = .ok (.invokestatic 153, 3) := by decide +kernel
theorem dX11_make_23 : decode cX11_make 23 = .ok (.ifCond .eq 9, 3) := by decide +kernel
theorem dX11_make_26 : decode cX11_make 26 = .ok (.iload_n 3, 1) := by decide +kernel
theorem dX11_make_27 : decode cX11_make 27 = .ok (.bipush 60, 2) := by decide +kernel
theorem dX11_make_29 : decode cX11_make 29 = .ok (.if_icmp .le 5, 3) := by decide +kernel
theorem dX11_make_32 : decode cX11_make 32 = .ok (.iconst (-1), 1) := by decide +kernel
theorem dX11_make_33 : decode cX11_make 33 = .ok (.ireturn, 1) := by decide +kernel
theorem dX11_make_34 : decode cX11_make 34 = .ok (.iload_n 3, 1) := by decide +kernel
theorem dX11_make_35 : decode cX11_make 35 = .ok (.ifCond .ge 6, 3) := by decide +kernel
theorem dX11_make_38 : decode cX11_make 38 = .ok (.bipush (-14), 2) := by decide +kernel
theorem dX11_make_40 : decode cX11_make 40 = .ok (.ireturn, 1) := by decide +kernel
theorem dX11_make_41 : decode cX11_make 41 = .ok (.aload_n 0, 1) := by decide +kernel
theorem dX11_make_42 : decode cX11_make 42 = .ok (.getfield 126, 3) := by decide +kernel
theorem dX11_make_45 : decode cX11_make 45 = .ok (.iload_n 1, 1) := by decide +kernel
theorem dX11_make_46 : decode cX11_make 46 = .ok (.iload_n 2, 1) := by decide +kernel
theorem dX11_make_47 : decode cX11_make 47 = .ok (.iastore, 1) := by decide +kernel
theorem dX11_make_48 : decode cX11_make 48 = .ok (.aload_n 0, 1) := by decide +kernel
theorem dX11_make_49 : decode cX11_make 49 = .ok (.getfield 129, 3) := by decide +kernel
theorem dX11_make_52 : decode cX11_make 52 = .ok (.iload_n 1, 1) := by decide +kernel
theorem dX11_make_53 : decode cX11_make 53 = .ok (.iload_n 3, 1) := by decide +kernel
theorem dX11_make_54 : decode cX11_make 54 = .ok (.iastore, 1) := by decide +kernel
theorem dX11_make_55 : decode cX11_make 55 = .ok (.iconst 0, 1) := by decide +kernel
theorem dX11_make_56 : decode cX11_make 56 = .ok (.istore 4, 2) := by decide +kernel
theorem dX11_make_58 : decode cX11_make 58 = .ok (.iload 4, 2) := by decide +kernel
theorem dX11_make_60 : decode cX11_make 60 = .ok (.iload_n 3, 1) := by decide +kernel
theorem dX11_make_61 : decode cX11_make 61 = .ok (.if_icmp .ge 22, 3) := by decide +kernel
theorem dX11_make_64 : decode cX11_make 64 = .ok (.aload_n 0, 1) := by decide +kernel
theorem dX11_make_65 : decode cX11_make 65 = .ok (.getfield 135, 3) := by decide +kernel
theorem dX11_make_68 : decode cX11_make 68 = .ok (.bipush 64, 2) := by decide +kernel
theorem dX11_make_70 : decode cX11_make 70 = .ok (.iload_n 1, 1) := by decide +kernel
theorem dX11_make_71 : decode cX11_make 71 = .ok (.imul, 1) := by decide +kernel
theorem dX11_make_72 : decode cX11_make 72 = .ok (.iload 4, 2) := by decide +kernel
theorem dX11_make_74 : decode cX11_make 74 = .ok (.iadd, 1) := by decide +kernel
theorem dX11_make_75 : decode cX11_make 75 = .ok (.lconst 0, 1) := by decide +kernel
theorem dX11_make_76 : decode cX11_make 76 = .ok (.lastore, 1) := by decide +kernel
theorem dX11_make_77 : decode cX11_make 77 = .ok (.iinc 4 1, 3) := by decide +kernel
theorem dX11_make_80 : decode cX11_make 80 = .ok (.goto (-22), 3) := by decide +kernel
theorem dX11_make_83 : decode cX11_make 83 = .ok (.iconst 0, 1) := by decide +kernel
theorem dX11_make_84 : decode cX11_make 84 = .ok (.ireturn, 1) := by decide +kernel
set_option maxRecDepth 20000 in
theorem ggX11_put_X11_isShelf : GoodIn wsX11_put wsX11_isShelf := goodIn_r _ [13] (by decide +kernel) (by decide +kernel)
set_option maxRecDepth 20000 in
theorem gX11_put_X11_isShelf : GoodIn wsX11_put (va_wsS RX11 326 yX11_isShelf wsX11_isShelf) := goodIn_app (goodIn_of _ (by decide +kernel)) ggX11_put_X11_isShelf
set_option maxRecDepth 20000 in
theorem ggX11_put_X11_isIn : GoodIn wsX11_put wsX11_isIn := goodIn_r _ [16] (by decide +kernel) (by decide +kernel)
set_option maxRecDepth 20000 in
theorem gX11_put_X11_isIn : GoodIn wsX11_put (va_wsS RX11 153 yX11_isIn wsX11_isIn) := goodIn_app (goodIn_of _ (by decide +kernel)) ggX11_put_X11_isIn
theorem dX11_put_0 : decode cX11_put 0 = .ok (.aload_n 0, 1) := by decide +kernel
theorem dX11_put_1 : decode cX11_put 1 = .ok (.iconst 0, 1) := by decide +kernel
theorem dX11_put_2 : decode cX11_put 2 = .ok (.putfield 145, 3) := by decide +kernel
theorem dX11_put_5 : decode cX11_put 5 = .ok (.iload_n 1, 1) := by decide +kernel
theorem dX11_put_6 : decode cX11_put 6 = .ok (.invokestatic 326, 3) := by decide +kernel
theorem dX11_put_9 : decode cX11_put 9 = .ok (.ifCond .eq 15, 3) := by decide +kernel
theorem dX11_put_12 : decode cX11_put 12 = .ok (.iload_n 3, 1) := by decide +kernel
theorem dX11_put_13 : decode cX11_put 13 = .ok (.i2l, 1) := by decide +kernel
theorem dX11_put_14 : decode cX11_put 14 = .ok (.lconst 0, 1) := by decide +kernel
theorem dX11_put_15 : decode cX11_put 15 = .ok (.ldc2_w 333, 3) := by decide +kernel
theorem dX11_put_18 : decode cX11_put 18 = .ok (.invokestatic 153, 3) := by decide +kernel
theorem dX11_put_21 : decode cX11_put 21 = .ok (.ifCond .ne 7, 3) := by decide +kernel
theorem dX11_put_24 : decode cX11_put 24 = .ok (.ldc2_w 169, 3) := by decide +kernel
theorem dX11_put_27 : decode cX11_put 27 = .ok (.lreturn, 1) := by decide +kernel
theorem dX11_put_28 : decode cX11_put 28 = .ok (.aload_n 0, 1) := by decide +kernel
theorem dX11_put_29 : decode cX11_put 29 = .ok (.getfield 126, 3) := by decide +kernel
theorem dX11_put_32 : decode cX11_put 32 = .ok (.iload_n 1, 1) := by decide +kernel
theorem dX11_put_33 : decode cX11_put 33 = .ok (.iaload, 1) := by decide +kernel
theorem dX11_put_34 : decode cX11_put 34 = .ok (.iconst 2, 1) := by decide +kernel
theorem dX11_put_35 : decode cX11_put 35 = .ok (.if_icmp .ge 22, 3) := by decide +kernel
theorem dX11_put_38 : decode cX11_put 38 = .ok (.aload_n 0, 1) := by decide +kernel
theorem dX11_put_39 : decode cX11_put 39 = .ok (.getfield 126, 3) := by decide +kernel
theorem dX11_put_42 : decode cX11_put 42 = .ok (.iload_n 1, 1) := by decide +kernel
theorem dX11_put_43 : decode cX11_put 43 = .ok (.iaload, 1) := by decide +kernel
theorem dX11_put_44 : decode cX11_put 44 = .ok (.ifCond .ne 9, 3) := by decide +kernel
theorem dX11_put_47 : decode cX11_put 47 = .ok (.ldc2_w 335, 3) := by decide +kernel
theorem dX11_put_50 : decode cX11_put 50 = .ok (.goto 6, 3) := by decide +kernel
theorem dX11_put_53 : decode cX11_put 53 = .ok (.ldc2_w 337, 3) := by decide +kernel
theorem dX11_put_56 : decode cX11_put 56 = .ok (.lreturn, 1) := by decide +kernel
theorem dX11_put_57 : decode cX11_put 57 = .ok (.iload_n 2, 1) := by decide +kernel
theorem dX11_put_58 : decode cX11_put 58 = .ok (.ifCond .lt 13, 3) := by decide +kernel
theorem dX11_put_61 : decode cX11_put 61 = .ok (.iload_n 2, 1) := by decide +kernel
theorem dX11_put_62 : decode cX11_put 62 = .ok (.aload_n 0, 1) := by decide +kernel
theorem dX11_put_63 : decode cX11_put 63 = .ok (.getfield 129, 3) := by decide +kernel
theorem dX11_put_66 : decode cX11_put 66 = .ok (.iload_n 1, 1) := by decide +kernel
theorem dX11_put_67 : decode cX11_put 67 = .ok (.iaload, 1) := by decide +kernel
theorem dX11_put_68 : decode cX11_put 68 = .ok (.if_icmp .lt 7, 3) := by decide +kernel
theorem dX11_put_71 : decode cX11_put 71 = .ok (.ldc2_w 339, 3) := by decide +kernel
theorem dX11_put_74 : decode cX11_put 74 = .ok (.lreturn, 1) := by decide +kernel
theorem dX11_put_75 : decode cX11_put 75 = .ok (.aload_n 0, 1) := by decide +kernel
theorem dX11_put_76 : decode cX11_put 76 = .ok (.getfield 135, 3) := by decide +kernel
theorem dX11_put_79 : decode cX11_put 79 = .ok (.bipush 64, 2) := by decide +kernel
theorem dX11_put_81 : decode cX11_put 81 = .ok (.iload_n 1, 1) := by decide +kernel
theorem dX11_put_82 : decode cX11_put 82 = .ok (.imul, 1) := by decide +kernel
theorem dX11_put_83 : decode cX11_put 83 = .ok (.iload_n 2, 1) := by decide +kernel
theorem dX11_put_84 : decode cX11_put 84 = .ok (.iadd, 1) := by decide +kernel
theorem dX11_put_85 : decode cX11_put 85 = .ok (.laload, 1) := by decide +kernel
theorem dX11_put_86 : decode cX11_put 86 = .ok (.lstore 4, 2) := by decide +kernel
theorem dX11_put_88 : decode cX11_put 88 = .ok (.aload_n 0, 1) := by decide +kernel
theorem dX11_put_89 : decode cX11_put 89 = .ok (.getfield 135, 3) := by decide +kernel
theorem dX11_put_92 : decode cX11_put 92 = .ok (.bipush 64, 2) := by decide +kernel
theorem dX11_put_94 : decode cX11_put 94 = .ok (.iload_n 1, 1) := by decide +kernel
theorem dX11_put_95 : decode cX11_put 95 = .ok (.imul, 1) := by decide +kernel
theorem dX11_put_96 : decode cX11_put 96 = .ok (.iload_n 2, 1) := by decide +kernel
theorem dX11_put_97 : decode cX11_put 97 = .ok (.iadd, 1) := by decide +kernel
theorem dX11_put_98 : decode cX11_put 98 = .ok (.iload_n 3, 1) := by decide +kernel
theorem dX11_put_99 : decode cX11_put 99 = .ok (.i2l, 1) := by decide +kernel
theorem dX11_put_100 : decode cX11_put 100 = .ok (.lastore, 1) := by decide +kernel
theorem dX11_put_101 : decode cX11_put 101 = .ok (.lload 4, 2) := by decide +kernel
theorem dX11_put_103 : decode cX11_put 103 = .ok (.lreturn, 1) := by decide +kernel
theorem dX11_hasPlaces_0 : decode cX11_hasPlaces 0 = .ok (.iload_n 3, 1) := by decide +kernel
theorem dX11_hasPlaces_1 : decode cX11_hasPlaces 1 = .ok (.ifCond .lt 33, 3) := by decide +kernel
theorem dX11_hasPlaces_4 : decode cX11_hasPlaces 4 = .ok (.iload_n 2, 1) := by decide +kernel
theorem dX11_hasPlaces_5 : decode cX11_hasPlaces 5 = .ok (.ifCond .lt 29, 3) := by decide +kernel
theorem dX11_hasPlaces_8 : decode cX11_hasPlaces 8 = .ok (.iload_n 2, 1) := by decide +kernel
theorem dX11_hasPlaces_9 : decode cX11_hasPlaces 9 = .ok (.aload_n 0, 1) := by decide +kernel
theorem dX11_hasPlaces_10 : decode cX11_hasPlaces 10 = .ok (.getfield 129, 3) := by decide +kernel
theorem dX11_hasPlaces_13 : decode cX11_hasPlaces 13 = .ok (.iload_n 1, 1) := by decide +kernel
theorem dX11_hasPlaces_14 : decode cX11_hasPlaces 14 = .ok (.iaload, 1) := by decide +kernel
theorem dX11_hasPlaces_15 : decode cX11_hasPlaces 15 = .ok (.if_icmp .gt 19, 3) := by decide +kernel
theorem dX11_hasPlaces_18 : decode cX11_hasPlaces 18 = .ok (.iload_n 3, 1) := by decide +kernel
theorem dX11_hasPlaces_19 : decode cX11_hasPlaces 19 = .ok (.aload_n 0, 1) := by decide +kernel
theorem dX11_hasPlaces_20 : decode cX11_hasPlaces 20 = .ok (.getfield 129, 3) := by decide +kernel
theorem dX11_hasPlaces_23 : decode cX11_hasPlaces 23 = .ok (.iload_n 1, 1) := by decide +kernel
theorem dX11_hasPlaces_24 : decode cX11_hasPlaces 24 = .ok (.iaload, 1) := by decide +kernel
theorem dX11_hasPlaces_25 : decode cX11_hasPlaces 25 = .ok (.iload_n 2, 1) := by decide +kernel
theorem dX11_hasPlaces_26 : decode cX11_hasPlaces 26 = .ok (.isub, 1) := by decide +kernel
theorem dX11_hasPlaces_27 : decode cX11_hasPlaces 27 = .ok (.if_icmp .gt 7, 3) := by decide +kernel
theorem dX11_hasPlaces_30 : decode cX11_hasPlaces 30 = .ok (.iconst 1, 1) := by decide +kernel
theorem dX11_hasPlaces_31 : decode cX11_hasPlaces 31 = .ok (.goto 4, 3) := by decide +kernel
theorem dX11_hasPlaces_34 : decode cX11_hasPlaces 34 = .ok (.iconst 0, 1) := by decide +kernel
theorem dX11_hasPlaces_35 : decode cX11_hasPlaces 35 = .ok (.ireturn, 1) := by decide +kernel
set_option maxRecDepth 20000 in
theorem ggX11_copy_X11_isShelf : GoodIn wsX11_copy wsX11_isShelf := goodIn_r _ [8] (by decide +kernel) (by decide +kernel)
set_option maxRecDepth 20000 in
theorem gX11_copy_X11_isShelf : GoodIn wsX11_copy (va_wsS RX11 326 yX11_isShelf wsX11_isShelf) := goodIn_app (goodIn_of _ (by decide +kernel)) ggX11_copy_X11_isShelf
set_option maxRecDepth 20000 in
theorem ggX11_copy_X11_hasPlaces : GoodIn wsX11_copy wsX11_hasPlaces := goodIn_r _ [12, 13, 14, 15, 16, 17, 18, 19, 20, 21, 22, 23, 24, 25, 26, 27, 28, 29, 30, 31, 32, 33, 34, 35, 36, 37, 38, 39, 40, 41, 42, 43, 44, 45, 46, 47, 48, 49, 50, 51, 52, 53, 54, 55, 56, 57, 58, 59, 60, 61, 62, 63, 64, 65, 66, 67, 68, 69, 70, 71] (by decide +kernel) (by decide +kernel)
set_option maxRecDepth 20000 in
theorem gX11_copy_X11_hasPlaces : GoodIn wsX11_copy (wsV RX11 341 RX11 yX11_hasPlaces wsX11_hasPlaces) := goodIn_app (goodIn_of _ (by decide +kernel)) ggX11_copy_X11_hasPlaces
theorem dX11_copy_0 : decode cX11_copy 0 = .ok (.aload_n 0, 1) := by decide +kernel
theorem dX11_copy_1 : decode cX11_copy 1 = .ok (.iconst 0, 1) := by decide +kernel
theorem dX11_copy_2 : decode cX11_copy 2 = .ok (.putfield 145, 3) := by decide +kernel
theorem dX11_copy_5 : decode cX11_copy 5 = .ok (.iload_n 1, 1) := by decide +kernel
theorem dX11_copy_6 : decode cX11_copy 6 = .ok (.invokestatic 326, 3) := by decide +kernel
theorem dX11_copy_9 : decode cX11_copy 9 = .ok (.ifCond .eq 10, 3) := by decide +kernel
theorem dX11_copy_12 : decode cX11_copy 12 = .ok (.iload_n 3, 1) := by decide +kernel
theorem dX11_copy_13 : decode cX11_copy 13 = .ok (.invokestatic 326, 3) := by decide +kernel
theorem dX11_copy_16 : decode cX11_copy 16 = .ok (.ifCond .ne 5, 3) := by decide +kernel
theorem dX11_copy_19 : decode cX11_copy 19 = .ok (.iconst (-1), 1) := by decide +kernel
theorem dX11_copy_20 : decode cX11_copy 20 = .ok (.ireturn, 1) := by decide +kernel
theorem dX11_copy_21 : decode cX11_copy 21 = .ok (.aload_n 0, 1) := by decide +kernel
theorem dX11_copy_22 : decode cX11_copy 22 = .ok (.getfield 126, 3) := by decide +kernel
theorem dX11_copy_25 : decode cX11_copy 25 = .ok (.iload_n 1, 1) := by decide +kernel
theorem dX11_copy_26 : decode cX11_copy 26 = .ok (.iaload, 1) := by decide +kernel
theorem dX11_copy_27 : decode cX11_copy 27 = .ok (.ifCond .eq 12, 3) := by decide +kernel
theorem dX11_copy_30 : decode cX11_copy 30 = .ok (.aload_n 0, 1) := by decide +kernel
theorem dX11_copy_31 : decode cX11_copy 31 = .ok (.getfield 126, 3) := by decide +kernel
theorem dX11_copy_34 : decode cX11_copy 34 = .ok (.iload_n 3, 1) := by decide +kernel
theorem dX11_copy_35 : decode cX11_copy 35 = .ok (.iaload, 1) := by decide +kernel
theorem dX11_copy_36 : decode cX11_copy 36 = .ok (.ifCond .ne 6, 3) := by decide +kernel
theorem dX11_copy_39 : decode cX11_copy 39 = .ok (.bipush (-11), 2) := by decide +kernel
theorem dX11_copy_41 : decode cX11_copy 41 = .ok (.ireturn, 1) := by decide +kernel
theorem dX11_copy_42 : decode cX11_copy 42 = .ok (.aload_n 0, 1) := by decide +kernel
theorem dX11_copy_43 : decode cX11_copy 43 = .ok (.getfield 126, 3) := by decide +kernel
theorem dX11_copy_46 : decode cX11_copy 46 = .ok (.iload_n 1, 1) := by decide +kernel
theorem dX11_copy_47 : decode cX11_copy 47 = .ok (.iaload, 1) := by decide +kernel
theorem dX11_copy_48 : decode cX11_copy 48 = .ok (.iconst 1, 1) := by decide +kernel
theorem dX11_copy_49 : decode cX11_copy 49 = .ok (.if_icmp .eq 18, 3) := by decide +kernel
theorem dX11_copy_52 : decode cX11_copy 52 = .ok (.aload_n 0, 1) := by decide +kernel
theorem dX11_copy_53 : decode cX11_copy 53 = .ok (.getfield 126, 3) := by decide +kernel
theorem dX11_copy_56 : decode cX11_copy 56 = .ok (.iload_n 1, 1) := by decide +kernel
theorem dX11_copy_57 : decode cX11_copy 57 = .ok (.iaload, 1) := by decide +kernel
theorem dX11_copy_58 : decode cX11_copy 58 = .ok (.aload_n 0, 1) := by decide +kernel
theorem dX11_copy_59 : decode cX11_copy 59 = .ok (.getfield 126, 3) := by decide +kernel
theorem dX11_copy_62 : decode cX11_copy 62 = .ok (.iload_n 3, 1) := by decide +kernel
theorem dX11_copy_63 : decode cX11_copy 63 = .ok (.iaload, 1) := by decide +kernel
theorem dX11_copy_64 : decode cX11_copy 64 = .ok (.if_icmp .eq 6, 3) := by decide +kernel
theorem dX11_copy_67 : decode cX11_copy 67 = .ok (.bipush (-12), 2) := by decide +kernel
theorem dX11_copy_69 : decode cX11_copy 69 = .ok (.ireturn, 1) := by decide +kernel
theorem dX11_copy_70 : decode cX11_copy 70 = .ok (.aload_n 0, 1) := by decide +kernel
theorem dX11_copy_71 : decode cX11_copy 71 = .ok (.iload_n 1, 1) := by decide +kernel
theorem dX11_copy_72 : decode cX11_copy 72 = .ok (.iload_n 2, 1) := by decide +kernel
theorem dX11_copy_73 : decode cX11_copy 73 = .ok (.iload 5, 2) := by decide +kernel
theorem dX11_copy_75 : decode cX11_copy 75 = .ok (.invokevirtual 341, 3) := by decide +kernel
theorem dX11_copy_78 : decode cX11_copy 78 = .ok (.ifCond .eq 15, 3) := by decide +kernel
theorem dX11_copy_81 : decode cX11_copy 81 = .ok (.aload_n 0, 1) := by decide +kernel
theorem dX11_copy_82 : decode cX11_copy 82 = .ok (.iload_n 3, 1) := by decide +kernel
theorem dX11_copy_83 : decode cX11_copy 83 = .ok (.iload 4, 2) := by decide +kernel
theorem dX11_copy_85 : decode cX11_copy 85 = .ok (.iload 5, 2) := by decide +kernel
theorem dX11_copy_87 : decode cX11_copy 87 = .ok (.invokevirtual 341, 3) := by decide +kernel
theorem dX11_copy_90 : decode cX11_copy 90 = .ok (.ifCond .ne 6, 3) := by decide +kernel
theorem dX11_copy_93 : decode cX11_copy 93 = .ok (.bipush (-13), 2) := by decide +kernel
theorem dX11_copy_95 : decode cX11_copy 95 = .ok (.ireturn, 1) := by decide +kernel
theorem dX11_copy_96 : decode cX11_copy 96 = .ok (.iconst 0, 1) := by decide +kernel
theorem dX11_copy_97 : decode cX11_copy 97 = .ok (.istore 6, 2) := by decide +kernel
theorem dX11_copy_99 : decode cX11_copy 99 = .ok (.iload 6, 2) := by decide +kernel
theorem dX11_copy_101 : decode cX11_copy 101 = .ok (.iload 5, 2) := by decide +kernel
theorem dX11_copy_103 : decode cX11_copy 103 = .ok (.if_icmp .ge 30, 3) := by decide +kernel
theorem dX11_copy_106 : decode cX11_copy 106 = .ok (.aload_n 0, 1) := by decide +kernel
theorem dX11_copy_107 : decode cX11_copy 107 = .ok (.getfield 138, 3) := by decide +kernel
theorem dX11_copy_110 : decode cX11_copy 110 = .ok (.iload 6, 2) := by decide +kernel
theorem dX11_copy_112 : decode cX11_copy 112 = .ok (.aload_n 0, 1) := by decide +kernel
theorem dX11_copy_113 : decode cX11_copy 113 = .ok (.getfield 135, 3) := by decide +kernel
theorem dX11_copy_116 : decode cX11_copy 116 = .ok (.bipush 64, 2) := by decide +kernel
theorem dX11_copy_118 : decode cX11_copy 118 = .ok (.iload_n 1, 1) := by decide +kernel
theorem dX11_copy_119 : decode cX11_copy 119 = .ok (.imul, 1) := by decide +kernel
theorem dX11_copy_120 : decode cX11_copy 120 = .ok (.iload_n 2, 1) := by decide +kernel
theorem dX11_copy_121 : decode cX11_copy 121 = .ok (.iadd, 1) := by decide +kernel
theorem dX11_copy_122 : decode cX11_copy 122 = .ok (.iload 6, 2) := by decide +kernel
theorem dX11_copy_124 : decode cX11_copy 124 = .ok (.iadd, 1) := by decide +kernel
theorem dX11_copy_125 : decode cX11_copy 125 = .ok (.laload, 1) := by decide +kernel
theorem dX11_copy_126 : decode cX11_copy 126 = .ok (.lastore, 1) := by decide +kernel
theorem dX11_copy_127 : decode cX11_copy 127 = .ok (.iinc 6 1, 3) := by decide +kernel
theorem dX11_copy_130 : decode cX11_copy 130 = .ok (.goto (-31), 3) := by decide +kernel
theorem dX11_copy_133 : decode cX11_copy 133 = .ok (.iconst 0, 1) := by decide +kernel
theorem dX11_copy_134 : decode cX11_copy 134 = .ok (.istore 6, 2) := by decide +kernel
theorem dX11_copy_136 : decode cX11_copy 136 = .ok (.iload 6, 2) := by decide +kernel
theorem dX11_copy_138 : decode cX11_copy 138 = .ok (.iload 5, 2) := by decide +kernel
theorem dX11_copy_140 : decode cX11_copy 140 = .ok (.if_icmp .ge 31, 3) := by decide +kernel
theorem dX11_copy_143 : decode cX11_copy 143 = .ok (.aload_n 0, 1) := by decide +kernel
theorem dX11_copy_144 : decode cX11_copy 144 = .ok (.getfield 135, 3) := by decide +kernel
theorem dX11_copy_147 : decode cX11_copy 147 = .ok (.bipush 64, 2) := by decide +kernel
theorem dX11_copy_149 : decode cX11_copy 149 = .ok (.iload_n 3, 1) := by decide +kernel
theorem dX11_copy_150 : decode cX11_copy 150 = .ok (.imul, 1) := by decide +kernel
theorem dX11_copy_151 : decode cX11_copy 151 = .ok (.iload 4, 2) := by decide +kernel
theorem dX11_copy_153 : decode cX11_copy 153 = .ok (.iadd, 1) := by decide +kernel
theorem dX11_copy_154 : decode cX11_copy 154 = .ok (.iload 6, 2) := by decide +kernel
theorem dX11_copy_156 : decode cX11_copy 156 = .ok (.iadd, 1) := by decide +kernel
theorem dX11_copy_157 : decode cX11_copy 157 = .ok (.aload_n 0, 1) := by decide +kernel
theorem dX11_copy_158 : decode cX11_copy 158 = .ok (.getfield 138, 3) := by decide +kernel
theorem dX11_copy_161 : decode cX11_copy 161 = .ok (.iload 6, 2) := by decide +kernel
theorem dX11_copy_163 : decode cX11_copy 163 = .ok (.laload, 1) := by decide +kernel
theorem dX11_copy_164 : decode cX11_copy 164 = .ok (.lastore, 1) := by decide +kernel
theorem dX11_copy_165 : decode cX11_copy 165 = .ok (.iinc 6 1, 3) := by decide +kernel
theorem dX11_copy_168 : decode cX11_copy 168 = .ok (.goto (-32), 3) := by decide +kernel
theorem dX11_copy_171 : decode cX11_copy 171 = .ok (.iload 5, 2) := by decide +kernel
theorem dX11_copy_173 : decode cX11_copy 173 = .ok (.ireturn, 1) := by decide +kernel
set_option maxRecDepth 20000 in
theorem ggX11_denied_X11_isShelf : GoodIn wsX11_denied wsX11_isShelf := goodIn_r _ [5] (by decide +kernel) (by decide +kernel)
set_option maxRecDepth 20000 in
theorem gX11_denied_X11_isShelf : GoodIn wsX11_denied (va_wsS RX11 326 yX11_isShelf wsX11_isShelf) := goodIn_app (goodIn_of _ (by decide +kernel)) ggX11_denied_X11_isShelf
theorem dX11_denied_0 : decode cX11_denied 0 = .ok (.iload_n 1, 1) := by decide +kernel
theorem dX11_denied_1 : decode cX11_denied 1 = .ok (.invokestatic 326, 3) := by decide +kernel
theorem dX11_denied_4 : decode cX11_denied 4 = .ok (.ifCond .ne 7, 3) := by decide +kernel
theorem dX11_denied_7 : decode cX11_denied 7 = .ok (.iconst (-1), 1) := by decide +kernel
theorem dX11_denied_8 : decode cX11_denied 8 = .ok (.goto 33, 3) := by decide +kernel
theorem dX11_denied_11 : decode cX11_denied 11 = .ok (.aload_n 0, 1) := by decide +kernel
theorem dX11_denied_12 : decode cX11_denied 12 = .ok (.getfield 126, 3) := by decide +kernel
theorem dX11_denied_15 : decode cX11_denied 15 = .ok (.iload_n 1, 1) := by decide +kernel
theorem dX11_denied_16 : decode cX11_denied 16 = .ok (.iaload, 1) := by decide +kernel
theorem dX11_denied_17 : decode cX11_denied 17 = .ok (.ifCond .ne 8, 3) := by decide +kernel
theorem dX11_denied_20 : decode cX11_denied 20 = .ok (.bipush (-11), 2) := by decide +kernel
theorem dX11_denied_22 : decode cX11_denied 22 = .ok (.goto 19, 3) := by decide +kernel
theorem dX11_denied_25 : decode cX11_denied 25 = .ok (.aload_n 0, 1) := by decide +kernel
theorem dX11_denied_26 : decode cX11_denied 26 = .ok (.getfield 126, 3) := by decide +kernel
theorem dX11_denied_29 : decode cX11_denied 29 = .ok (.iload_n 1, 1) := by decide +kernel
theorem dX11_denied_30 : decode cX11_denied 30 = .ok (.iaload, 1) := by decide +kernel
theorem dX11_denied_31 : decode cX11_denied 31 = .ok (.iconst 1, 1) := by decide +kernel
theorem dX11_denied_32 : decode cX11_denied 32 = .ok (.if_icmp .le 8, 3) := by decide +kernel
theorem dX11_denied_35 : decode cX11_denied 35 = .ok (.bipush (-12), 2) := by decide +kernel
theorem dX11_denied_37 : decode cX11_denied 37 = .ok (.goto 4, 3) := by decide +kernel
theorem dX11_denied_40 : decode cX11_denied 40 = .ok (.iconst 0, 1) := by decide +kernel
theorem dX11_denied_41 : decode cX11_denied 41 = .ok (.ireturn, 1) := by decide +kernel
set_option maxRecDepth 20000 in
theorem ggX11_worth_X11_denied : GoodIn wsX11_worth wsX11_denied := goodIn_r _ [8, 9, 10, 11, 7, 12, 13, 14, 15, 16, 17, 18, 19, 20, 21, 22, 23, 24, 25, 26, 27, 28, 29, 30, 31, 32, 33, 34, 35, 36, 37, 38, 39, 40, 41, 42, 43, 44, 45, 46, 47, 48, 49, 50, 51, 52, 53, 54, 55, 56, 57, 58, 59, 60, 61, 62, 63, 64, 65, 66, 67, 68, 69, 70] (by decide +kernel) (by decide +kernel)
set_option maxRecDepth 20000 in
theorem gX11_worth_X11_denied : GoodIn wsX11_worth (wsV RX11 344 RX11 yX11_denied wsX11_denied) := goodIn_app (goodIn_of _ (by decide +kernel)) ggX11_worth_X11_denied
theorem dX11_worth_0 : decode cX11_worth 0 = .ok (.aload_n 0, 1) := by decide +kernel
theorem dX11_worth_1 : decode cX11_worth 1 = .ok (.iconst 0, 1) := by decide +kernel
theorem dX11_worth_2 : decode cX11_worth 2 = .ok (.putfield 145, 3) := by decide +kernel
theorem dX11_worth_5 : decode cX11_worth 5 = .ok (.aload_n 0, 1) := by decide +kernel
theorem dX11_worth_6 : decode cX11_worth 6 = .ok (.iload_n 1, 1) := by decide +kernel
theorem dX11_worth_7 : decode cX11_worth 7 = .ok (.invokevirtual 344, 3) := by decide +kernel
theorem dX11_worth_10 : decode cX11_worth 10 = .ok (.istore_n 2, 1) := by decide +kernel
theorem dX11_worth_11 : decode cX11_worth 11 = .ok (.iload_n 2, 1) := by decide +kernel
theorem dX11_worth_12 : decode cX11_worth 12 = .ok (.ifCond .ge 5, 3) := by decide +kernel
theorem dX11_worth_15 : decode cX11_worth 15 = .ok (.iload_n 2, 1) := by decide +kernel
theorem dX11_worth_16 : decode cX11_worth 16 = .ok (.ireturn, 1) := by decide +kernel
theorem dX11_worth_17 : decode cX11_worth 17 = .ok (.aload_n 0, 1) := by decide +kernel
theorem dX11_worth_18 : decode cX11_worth 18 = .ok (.getfield 132, 3) := by decide +kernel
theorem dX11_worth_21 : decode cX11_worth 21 = .ok (.iload_n 1, 1) := by decide +kernel
theorem dX11_worth_22 : decode cX11_worth 22 = .ok (.iaload, 1) := by decide +kernel
theorem dX11_worth_23 : decode cX11_worth 23 = .ok (.istore_n 3, 1) := by decide +kernel
theorem dX11_worth_24 : decode cX11_worth 24 = .ok (.bipush 10, 2) := by decide +kernel
theorem dX11_worth_26 : decode cX11_worth 26 = .ok (.aload_n 0, 1) := by decide +kernel
theorem dX11_worth_27 : decode cX11_worth 27 = .ok (.getfield 129, 3) := by decide +kernel
theorem dX11_worth_30 : decode cX11_worth 30 = .ok (.iload_n 1, 1) := by decide +kernel
theorem dX11_worth_31 : decode cX11_worth 31 = .ok (.iaload, 1) := by decide +kernel
theorem dX11_worth_32 : decode cX11_worth 32 = .ok (.imul, 1) := by decide +kernel
theorem dX11_worth_33 : decode cX11_worth 33 = .ok (.iload_n 3, 1) := by decide +kernel
theorem dX11_worth_34 : decode cX11_worth 34 = .ok (.iadd, 1) := by decide +kernel
theorem dX11_worth_35 : decode cX11_worth 35 = .ok (.istore 4, 2) := by decide +kernel
theorem dX11_worth_37 : decode cX11_worth 37 = .ok (.iload_n 3, 1) := by decide +kernel
theorem dX11_worth_38 : decode cX11_worth 38 = .ok (.tableswitch 60 0 4 #[34, 37, 42, 49, 54], 34) := by decide +kernel
theorem dX11_worth_72 : decode cX11_worth 72 = .ok (.iload 4, 2) := by decide +kernel
theorem dX11_worth_74 : decode cX11_worth 74 = .ok (.ireturn, 1) := by decide +kernel
theorem dX11_worth_75 : decode cX11_worth 75 = .ok (.iload 4, 2) := by decide +kernel
theorem dX11_worth_77 : decode cX11_worth 77 = .ok (.iconst 3, 1) := by decide +kernel
theorem dX11_worth_78 : decode cX11_worth 78 = .ok (.iadd, 1) := by decide +kernel
theorem dX11_worth_79 : decode cX11_worth 79 = .ok (.ireturn, 1) := by decide +kernel
theorem dX11_worth_80 : decode cX11_worth 80 = .ok (.iconst 2, 1) := by decide +kernel
theorem dX11_worth_81 : decode cX11_worth 81 = .ok (.iload 4, 2) := by decide +kernel
theorem dX11_worth_83 : decode cX11_worth 83 = .ok (.iconst 3, 1) := by decide +kernel
theorem dX11_worth_84 : decode cX11_worth 84 = .ok (.iadd, 1) := by decide +kernel
theorem dX11_worth_85 : decode cX11_worth 85 = .ok (.imul, 1) := by decide +kernel
theorem dX11_worth_86 : decode cX11_worth 86 = .ok (.ireturn, 1) := by decide +kernel
theorem dX11_worth_87 : decode cX11_worth 87 = .ok (.iload 4, 2) := by decide +kernel
theorem dX11_worth_89 : decode cX11_worth 89 = .ok (.iconst 1, 1) := by decide +kernel
theorem dX11_worth_90 : decode cX11_worth 90 = .ok (.iadd, 1) := by decide +kernel
theorem dX11_worth_91 : decode cX11_worth 91 = .ok (.ireturn, 1) := by decide +kernel
theorem dX11_worth_92 : decode cX11_worth 92 = .ok (.iload 4, 2) := by decide +kernel
theorem dX11_worth_94 : decode cX11_worth 94 = .ok (.bipush 6, 2) := by decide +kernel
theorem dX11_worth_96 : decode cX11_worth 96 = .ok (.iadd, 1) := by decide +kernel
theorem dX11_worth_97 : decode cX11_worth 97 = .ok (.ireturn, 1) := by decide +kernel
theorem dX11_worth_98 : decode cX11_worth 98 = .ok (.iconst 3, 1) := by decide +kernel
theorem dX11_worth_99 : decode cX11_worth 99 = .ok (.iload 4, 2) := by decide +kernel
theorem dX11_worth_101 : decode cX11_worth 101 = .ok (.bipush 6, 2) := by decide +kernel
theorem dX11_worth_103 : decode cX11_worth 103 = .ok (.iadd, 1) := by decide +kernel
theorem dX11_worth_104 : decode cX11_worth 104 = .ok (.imul, 1) := by decide +kernel
theorem dX11_worth_105 : decode cX11_worth 105 = .ok (.ireturn, 1) := by decide +kernel
set_option maxRecDepth 20000 in
theorem ggX11_toss_X11_denied : GoodIn wsX11_toss wsX11_denied := goodIn_r _ [7, 8, 9, 10, 6, 11, 12, 13, 14, 15, 16, 17, 18, 19, 20, 21, 22, 23, 24, 25, 26, 27, 28, 29, 30, 31, 32, 33, 34, 35, 36, 37, 38, 39, 40, 41, 42, 43, 44, 45, 46, 47, 48, 49, 50, 51, 52, 53, 54, 55, 56, 57, 58, 59, 60, 61, 62, 63, 64, 65, 66, 67, 68, 69] (by decide +kernel) (by decide +kernel)
set_option maxRecDepth 20000 in
theorem gX11_toss_X11_denied : GoodIn wsX11_toss (wsV RX11 344 RX11 yX11_denied wsX11_denied) := goodIn_app (goodIn_of _ (by decide +kernel)) ggX11_toss_X11_denied
theorem dX11_toss_0 : decode cX11_toss 0 = .ok (.aload_n 0, 1) := by decide +kernel
theorem dX11_toss_1 : decode cX11_toss 1 = .ok (.iconst 0, 1) := by decide +kernel
theorem dX11_toss_2 : decode cX11_toss 2 = .ok (.putfield 145, 3) := by decide +kernel
theorem dX11_toss_5 : decode cX11_toss 5 = .ok (.aload_n 0, 1) := by decide +kernel
theorem dX11_toss_6 : decode cX11_toss 6 = .ok (.iload_n 1, 1) := by decide +kernel
theorem dX11_toss_7 : decode cX11_toss 7 = .ok (.invokevirtual 344, 3) := by decide +kernel
theorem dX11_toss_10 : decode cX11_toss 10 = .ok (.istore_n 2, 1) := by decide +kernel
theorem dX11_toss_11 : decode cX11_toss 11 = .ok (.iload_n 2, 1) := by decide +kernel
theorem dX11_toss_12 : decode cX11_toss 12 = .ok (.ifCond .ge 7, 3) := by decide +kernel
theorem dX11_toss_15 : decode cX11_toss 15 = .ok (.iload_n 2, 1) := by decide +kernel
theorem dX11_toss_16 : decode cX11_toss 16 = .ok (.goto 33, 3) := by decide +kernel
theorem dX11_toss_19 : decode cX11_toss 19 = .ok (.aload_n 0, 1) := by decide +kernel
theorem dX11_toss_20 : decode cX11_toss 20 = .ok (.getfield 132, 3) := by decide +kernel
theorem dX11_toss_23 : decode cX11_toss 23 = .ok (.iload_n 1, 1) := by decide +kernel
theorem dX11_toss_24 : decode cX11_toss 24 = .ok (.iaload, 1) := by decide +kernel
theorem dX11_toss_25 : decode cX11_toss 25 = .ok (.ifCond .eq 13, 3) := by decide +kernel
theorem dX11_toss_28 : decode cX11_toss 28 = .ok (.aload_n 0, 1) := by decide +kernel
theorem dX11_toss_29 : decode cX11_toss 29 = .ok (.getfield 132, 3) := by decide +kernel
theorem dX11_toss_32 : decode cX11_toss 32 = .ok (.iload_n 1, 1) := by decide +kernel
theorem dX11_toss_33 : decode cX11_toss 33 = .ok (.iaload, 1) := by decide +kernel
theorem dX11_toss_34 : decode cX11_toss 34 = .ok (.iconst 3, 1) := by decide +kernel
theorem dX11_toss_35 : decode cX11_toss 35 = .ok (.if_icmp .ne 8, 3) := by decide +kernel
theorem dX11_toss_38 : decode cX11_toss 38 = .ok (.bipush (-15), 2) := by decide +kernel
theorem dX11_toss_40 : decode cX11_toss 40 = .ok (.goto 9, 3) := by decide +kernel
theorem dX11_toss_43 : decode cX11_toss 43 = .ok (.aload_n 0, 1) := by decide +kernel
theorem dX11_toss_44 : decode cX11_toss 44 = .ok (.getfield 132, 3) := by decide +kernel
theorem dX11_toss_47 : decode cX11_toss 47 = .ok (.iload_n 1, 1) := by decide +kernel
theorem dX11_toss_48 : decode cX11_toss 48 = .ok (.iaload, 1) := by decide +kernel
theorem dX11_toss_49 : decode cX11_toss 49 = .ok (.ireturn, 1) := by decide +kernel
theorem dX11_count_0 : decode cX11_count 0 = .ok (.aload_n 0, 1) := by decide +kernel
theorem dX11_count_1 : decode cX11_count 1 = .ok (.iconst 0, 1) := by decide +kernel
theorem dX11_count_2 : decode cX11_count 2 = .ok (.putfield 145, 3) := by decide +kernel
theorem dX11_count_5 : decode cX11_count 5 = .ok (.iconst 0, 1) := by decide +kernel
theorem dX11_count_6 : decode cX11_count 6 = .ok (.istore_n 2, 1) := by decide +kernel
theorem dX11_count_7 : decode cX11_count 7 = .ok (.iconst 0, 1) := by decide +kernel
theorem dX11_count_8 : decode cX11_count 8 = .ok (.istore_n 3, 1) := by decide +kernel
theorem dX11_count_9 : decode cX11_count 9 = .ok (.iload_n 3, 1) := by decide +kernel
theorem dX11_count_10 : decode cX11_count 10 = .ok (.aload_n 0, 1) := by decide +kernel
theorem dX11_count_11 : decode cX11_count 11 = .ok (.getfield 204, 3) := by decide +kernel
theorem dX11_count_14 : decode cX11_count 14 = .ok (.if_icmp .ge 26, 3) := by decide +kernel
theorem dX11_count_17 : decode cX11_count 17 = .ok (.iload_n 2, 1) := by decide +kernel
theorem dX11_count_18 : decode cX11_count 18 = .ok (.aload_n 0, 1) := by decide +kernel
theorem dX11_count_19 : decode cX11_count 19 = .ok (.getfield 69, 3) := by decide +kernel
theorem dX11_count_22 : decode cX11_count 22 = .ok (.iload_n 3, 1) := by decide +kernel
theorem dX11_count_23 : decode cX11_count 23 = .ok (.baload, 1) := by decide +kernel
theorem dX11_count_24 : decode cX11_count 24 = .ok (.ifCond .eq 7, 3) := by decide +kernel
theorem dX11_count_27 : decode cX11_count 27 = .ok (.iconst 1, 1) := by decide +kernel
theorem dX11_count_28 : decode cX11_count 28 = .ok (.goto 4, 3) := by decide +kernel
theorem dX11_count_31 : decode cX11_count 31 = .ok (.iconst 0, 1) := by decide +kernel
theorem dX11_count_32 : decode cX11_count 32 = .ok (.iadd, 1) := by decide +kernel
theorem dX11_count_33 : decode cX11_count 33 = .ok (.istore_n 2, 1) := by decide +kernel
theorem dX11_count_34 : decode cX11_count 34 = .ok (.iinc 3 1, 3) := by decide +kernel
theorem dX11_count_37 : decode cX11_count 37 = .ok (.goto (-28), 3) := by decide +kernel
theorem dX11_count_40 : decode cX11_count 40 = .ok (.iload_n 1, 1) := by decide +kernel
theorem dX11_count_41 : decode cX11_count 41 = .ok (.ifCond .ne 10, 3) := by decide +kernel
theorem dX11_count_44 : decode cX11_count 44 = .ok (.aload_n 0, 1) := by decide +kernel
theorem dX11_count_45 : decode cX11_count 45 = .ok (.getfield 148, 3) := by decide +kernel
theorem dX11_count_48 : decode cX11_count 48 = .ok (.goto 37, 3) := by decide +kernel
theorem dX11_count_51 : decode cX11_count 51 = .ok (.iload_n 1, 1) := by decide +kernel
theorem dX11_count_52 : decode cX11_count 52 = .ok (.iconst 1, 1) := by decide +kernel
theorem dX11_count_53 : decode cX11_count 53 = .ok (.if_icmp .ne 10, 3) := by decide +kernel
theorem dX11_count_56 : decode cX11_count 56 = .ok (.aload_n 0, 1) := by decide +kernel
theorem dX11_count_57 : decode cX11_count 57 = .ok (.getfield 204, 3) := by decide +kernel
theorem dX11_count_60 : decode cX11_count 60 = .ok (.goto 25, 3) := by decide +kernel
theorem dX11_count_63 : decode cX11_count 63 = .ok (.iload_n 1, 1) := by decide +kernel
theorem dX11_count_64 : decode cX11_count 64 = .ok (.iconst 2, 1) := by decide +kernel
theorem dX11_count_65 : decode cX11_count 65 = .ok (.if_icmp .ne 10, 3) := by decide +kernel
theorem dX11_count_68 : decode cX11_count 68 = .ok (.aload_n 0, 1) := by decide +kernel
theorem dX11_count_69 : decode cX11_count 69 = .ok (.getfield 141, 3) := by decide +kernel
theorem dX11_count_72 : decode cX11_count 72 = .ok (.goto 13, 3) := by decide +kernel
theorem dX11_count_75 : decode cX11_count 75 = .ok (.iload_n 1, 1) := by decide +kernel
theorem dX11_count_76 : decode cX11_count 76 = .ok (.iconst 3, 1) := by decide +kernel
theorem dX11_count_77 : decode cX11_count 77 = .ok (.if_icmp .ne 7, 3) := by decide +kernel
theorem dX11_count_80 : decode cX11_count 80 = .ok (.iload_n 2, 1) := by decide +kernel
theorem dX11_count_81 : decode cX11_count 81 = .ok (.goto 4, 3) := by decide +kernel
theorem dX11_count_84 : decode cX11_count 84 = .ok (.iconst (-1), 1) := by decide +kernel
theorem dX11_count_85 : decode cX11_count 85 = .ok (.ireturn, 1) := by decide +kernel
theorem dJ9_floorMod_7cf53_0 : decode cJ9_floorMod_7cf53 0 = .ok (.iload_n 0, 1) := by decide +kernel
theorem dJ9_floorMod_7cf53_1 : decode cJ9_floorMod_7cf53 1 = .ok (.iload_n 1, 1) := by decide +kernel
theorem dJ9_floorMod_7cf53_2 : decode cJ9_floorMod_7cf53 2 = .ok (.irem, 1) := by decide +kernel
theorem dJ9_floorMod_7cf53_3 : decode cJ9_floorMod_7cf53 3 = .ok (.istore_n 2, 1) := by decide +kernel
theorem dJ9_floorMod_7cf53_4 : decode cJ9_floorMod_7cf53 4 = .ok (.iload_n 0, 1) := by decide +kernel
theorem dJ9_floorMod_7cf53_5 : decode cJ9_floorMod_7cf53 5 = .ok (.iload_n 1, 1) := by decide +kernel
theorem dJ9_floorMod_7cf53_6 : decode cJ9_floorMod_7cf53 6 = .ok (.ixor, 1) := by decide +kernel
theorem dJ9_floorMod_7cf53_7 : decode cJ9_floorMod_7cf53 7 = .ok (.ifCond .ge 11, 3) := by decide +kernel
theorem dJ9_floorMod_7cf53_10 : decode cJ9_floorMod_7cf53 10 = .ok (.iload_n 2, 1) := by decide +kernel
theorem dJ9_floorMod_7cf53_11 : decode cJ9_floorMod_7cf53 11 = .ok (.ifCond .eq 7, 3) := by decide +kernel
theorem dJ9_floorMod_7cf53_14 : decode cJ9_floorMod_7cf53 14 = .ok (.iload_n 2, 1) := by decide +kernel
theorem dJ9_floorMod_7cf53_15 : decode cJ9_floorMod_7cf53 15 = .ok (.iload_n 1, 1) := by decide +kernel
theorem dJ9_floorMod_7cf53_16 : decode cJ9_floorMod_7cf53 16 = .ok (.iadd, 1) := by decide +kernel
theorem dJ9_floorMod_7cf53_17 : decode cJ9_floorMod_7cf53 17 = .ok (.ireturn, 1) := by decide +kernel
theorem dJ9_floorMod_7cf53_18 : decode cJ9_floorMod_7cf53 18 = .ok (.iload_n 2, 1) := by decide +kernel
theorem dJ9_floorMod_7cf53_19 : decode cJ9_floorMod_7cf53 19 = .ok (.ireturn, 1) := by decide +kernel
theorem dJ9_max_7cf53_0 : decode cJ9_max_7cf53 0 = .ok (.iload_n 0, 1) := by decide +kernel
theorem dJ9_max_7cf53_1 : decode cJ9_max_7cf53 1 = .ok (.iload_n 1, 1) := by decide +kernel
theorem dJ9_max_7cf53_2 : decode cJ9_max_7cf53 2 = .ok (.if_icmp .lt 7, 3) := by decide +kernel
theorem dJ9_max_7cf53_5 : decode cJ9_max_7cf53 5 = .ok (.iload_n 0, 1) := by decide +kernel
theorem dJ9_max_7cf53_6 : decode cJ9_max_7cf53 6 = .ok (.goto 4, 3) := by decide +kernel
theorem dJ9_max_7cf53_9 : decode cJ9_max_7cf53 9 = .ok (.iload_n 1, 1) := by decide +kernel
theorem dJ9_max_7cf53_10 : decode cJ9_max_7cf53 10 = .ok (.ireturn, 1) := by decide +kernel
theorem dJ9_min_7cf53_0 : decode cJ9_min_7cf53 0 = .ok (.iload_n 0, 1) := by decide +kernel
theorem dJ9_min_7cf53_1 : decode cJ9_min_7cf53 1 = .ok (.iload_n 1, 1) := by decide +kernel
theorem dJ9_min_7cf53_2 : decode cJ9_min_7cf53 2 = .ok (.if_icmp .gt 7, 3) := by decide +kernel
theorem dJ9_min_7cf53_5 : decode cJ9_min_7cf53 5 = .ok (.iload_n 0, 1) := by decide +kernel
theorem dJ9_min_7cf53_6 : decode cJ9_min_7cf53 6 = .ok (.goto 4, 3) := by decide +kernel
theorem dJ9_min_7cf53_9 : decode cJ9_min_7cf53 9 = .ok (.iload_n 1, 1) := by decide +kernel
theorem dJ9_min_7cf53_10 : decode cJ9_min_7cf53 10 = .ok (.ireturn, 1) := by decide +kernel
theorem dJ7_fill_d0a16_0 : decode cJ7_fill_d0a16 0 = .ok (.iconst 0, 1) := by decide +kernel
theorem dJ7_fill_d0a16_1 : decode cJ7_fill_d0a16 1 = .ok (.istore_n 3, 1) := by decide +kernel
theorem dJ7_fill_d0a16_2 : decode cJ7_fill_d0a16 2 = .ok (.aload_n 0, 1) := by decide +kernel
theorem dJ7_fill_d0a16_3 : decode cJ7_fill_d0a16 3 = .ok (.arraylength, 1) := by decide +kernel
theorem dJ7_fill_d0a16_4 : decode cJ7_fill_d0a16 4 = .ok (.istore 4, 2) := by decide +kernel
theorem dJ7_fill_d0a16_6 : decode cJ7_fill_d0a16 6 = .ok (.iload_n 3, 1) := by decide +kernel
theorem dJ7_fill_d0a16_7 : decode cJ7_fill_d0a16 7 = .ok (.iload 4, 2) := by decide +kernel
theorem dJ7_fill_d0a16_9 : decode cJ7_fill_d0a16 9 = .ok (.if_icmp .ge 13, 3) := by decide +kernel
theorem dJ7_fill_d0a16_12 : decode cJ7_fill_d0a16 12 = .ok (.aload_n 0, 1) := by decide +kernel
theorem dJ7_fill_d0a16_13 : decode cJ7_fill_d0a16 13 = .ok (.iload_n 3, 1) := by decide +kernel
theorem dJ7_fill_d0a16_14 : decode cJ7_fill_d0a16 14 = .ok (.lload_n 1, 1) := by decide +kernel
theorem dJ7_fill_d0a16_15 : decode cJ7_fill_d0a16 15 = .ok (.lastore, 1) := by decide +kernel
theorem dJ7_fill_d0a16_16 : decode cJ7_fill_d0a16 16 = .ok (.iinc 3 1, 3) := by decide +kernel
theorem dJ7_fill_d0a16_19 : decode cJ7_fill_d0a16 19 = .ok (.goto (-13), 3) := by decide +kernel
theorem dJ7_fill_d0a16_22 : decode cJ7_fill_d0a16 22 = .ok (.return_, 1) := by decide +kernel
theorem dJ7_fill_53178_0 : decode cJ7_fill_53178 0 = .ok (.iconst 0, 1) := by decide +kernel
theorem dJ7_fill_53178_1 : decode cJ7_fill_53178 1 = .ok (.istore_n 2, 1) := by decide +kernel
theorem dJ7_fill_53178_2 : decode cJ7_fill_53178 2 = .ok (.aload_n 0, 1) := by decide +kernel
theorem dJ7_fill_53178_3 : decode cJ7_fill_53178 3 = .ok (.arraylength, 1) := by decide +kernel
theorem dJ7_fill_53178_4 : decode cJ7_fill_53178 4 = .ok (.istore_n 3, 1) := by decide +kernel
theorem dJ7_fill_53178_5 : decode cJ7_fill_53178 5 = .ok (.iload_n 2, 1) := by decide +kernel
theorem dJ7_fill_53178_6 : decode cJ7_fill_53178 6 = .ok (.iload_n 3, 1) := by decide +kernel
theorem dJ7_fill_53178_7 : decode cJ7_fill_53178 7 = .ok (.if_icmp .ge 13, 3) := by decide +kernel
theorem dJ7_fill_53178_10 : decode cJ7_fill_53178 10 = .ok (.aload_n 0, 1) := by decide +kernel
theorem dJ7_fill_53178_11 : decode cJ7_fill_53178 11 = .ok (.iload_n 2, 1) := by decide +kernel
theorem dJ7_fill_53178_12 : decode cJ7_fill_53178 12 = .ok (.iload_n 1, 1) := by decide +kernel
theorem dJ7_fill_53178_13 : decode cJ7_fill_53178 13 = .ok (.iastore, 1) := by decide +kernel
theorem dJ7_fill_53178_14 : decode cJ7_fill_53178 14 = .ok (.iinc 2 1, 3) := by decide +kernel
theorem dJ7_fill_53178_17 : decode cJ7_fill_53178 17 = .ok (.goto (-12), 3) := by decide +kernel
theorem dJ7_fill_53178_20 : decode cJ7_fill_53178 20 = .ok (.return_, 1) := by decide +kernel
theorem dJ7_copyOf_59c91_0 : decode cJ7_copyOf_59c91 0 = .ok (.iload_n 1, 1) := by decide +kernel
theorem dJ7_copyOf_59c91_1 : decode cJ7_copyOf_59c91 1 = .ok (.aload_n 0, 1) := by decide +kernel
theorem dJ7_copyOf_59c91_2 : decode cJ7_copyOf_59c91 2 = .ok (.arraylength, 1) := by decide +kernel
theorem dJ7_copyOf_59c91_3 : decode cJ7_copyOf_59c91 3 = .ok (.if_icmp .ne 11, 3) := by decide +kernel
theorem dJ7_copyOf_59c91_6 : decode cJ7_copyOf_59c91 6 = .ok (.aload_n 0, 1) := by decide +kernel
theorem dJ7_copyOf_59c91_7 : decode cJ7_copyOf_59c91 7 = .ok (.invokevirtual 316, 3) := by decide +kernel
theorem dJ7_copyOf_59c91_10 : decode cJ7_copyOf_59c91 10 = .ok (.checkcast 317, 3) := by decide +kernel
theorem dJ7_copyOf_59c91_13 : decode cJ7_copyOf_59c91 13 = .ok (.areturn, 1) := by decide +kernel
theorem dJ7_copyOf_59c91_14 : decode cJ7_copyOf_59c91 14 = .ok (.iload_n 1, 1) := by decide +kernel
theorem dJ7_copyOf_59c91_15 : decode cJ7_copyOf_59c91 15 = .ok (.newarray .int, 2) := by decide +kernel
theorem dJ7_copyOf_59c91_17 : decode cJ7_copyOf_59c91 17 = .ok (.astore_n 2, 1) := by decide +kernel
theorem dJ7_copyOf_59c91_18 : decode cJ7_copyOf_59c91 18 = .ok (.aload_n 0, 1) := by decide +kernel
theorem dJ7_copyOf_59c91_19 : decode cJ7_copyOf_59c91 19 = .ok (.iconst 0, 1) := by decide +kernel
theorem dJ7_copyOf_59c91_20 : decode cJ7_copyOf_59c91 20 = .ok (.aload_n 2, 1) := by decide +kernel
theorem dJ7_copyOf_59c91_21 : decode cJ7_copyOf_59c91 21 = .ok (.iconst 0, 1) := by decide +kernel
theorem dJ7_copyOf_59c91_22 : decode cJ7_copyOf_59c91 22 = .ok (.aload_n 0, 1) := by decide +kernel
theorem dJ7_copyOf_59c91_23 : decode cJ7_copyOf_59c91 23 = .ok (.arraylength, 1) := by decide +kernel
theorem dJ7_copyOf_59c91_24 : decode cJ7_copyOf_59c91 24 = .ok (.iload_n 1, 1) := by decide +kernel
theorem dJ7_copyOf_59c91_25 : decode cJ7_copyOf_59c91 25 = .ok (.invokestatic 304, 3) := by decide +kernel
theorem dJ7_copyOf_59c91_28 : decode cJ7_copyOf_59c91 28 = .ok (.invokestatic 150, 3) := by decide +kernel
theorem dJ7_copyOf_59c91_31 : decode cJ7_copyOf_59c91 31 = .ok (.aload_n 2, 1) := by decide +kernel
theorem dJ7_copyOf_59c91_32 : decode cJ7_copyOf_59c91 32 = .ok (.areturn, 1) := by decide +kernel
