theorem dX10_lose_13 : decode cX10_lose 13 = .ok (.iconst 1, 1) := by decide +kernel
theorem dX10_lose_14 : decode cX10_lose 14 = .ok (.putfield 188, 3) := by decide +kernel
theorem dX10_lose_17 : decode cX10_lose 17 = .ok (.aload_n 0, 1) := by decide +kernel
theorem dX10_lose_18 : decode cX10_lose 18 = .ok (.dup, 1) := by decide +kernel
theorem dX10_lose_19 : decode cX10_lose 19 = .ok (.getfield 191, 3) := by decide +kernel
theorem dX10_lose_22 : decode cX10_lose 22 = .ok (.iconst 1, 1) := by decide +kernel
theorem dX10_lose_23 : decode cX10_lose 23 = .ok (.iadd, 1) := by decide +kernel
theorem dX10_lose_24 : decode cX10_lose 24 = .ok (.putfield 191, 3) := by decide +kernel
theorem dX10_lose_27 : decode cX10_lose 27 = .ok (.iconst 0, 1) := by decide +kernel
theorem dX10_lose_28 : decode cX10_lose 28 = .ok (.ireturn, 1) := by decide +kernel
set_option maxRecDepth 20000 in
theorem ggX10_twice_X10_letterUnderWay : GoodIn wsX10_twice wsX10_letterUnderWay := goodIn_r _ [14, 15, 16, 17, 18, 13, 19, 20, 21, 61, 62, 63, 64, 65, 66, 67, 68, 69, 70, 71, 72, 73, 74, 75, 76, 77, 78, 79, 80, 81] (by decide +kernel) (by decide +kernel)
set_option maxRecDepth 20000 in
theorem gX10_twice_X10_letterUnderWay : GoodIn wsX10_twice (wsV RX10 174 RX10 yX10_letterUnderWay wsX10_letterUnderWay) := goodIn_app (goodIn_of _ (by decide +kernel)) ggX10_twice_X10_letterUnderWay
set_option maxRecDepth 20000 in
theorem ggX10_twice_X10_isLineFull : GoodIn wsX10_twice wsX10_isLineFull := goodIn_r _ [25, 20, 70, 71, 72, 73, 74, 75, 76, 77, 78, 79, 80, 81] (by decide +kernel) (by decide +kernel)
set_option maxRecDepth 20000 in
theorem gX10_twice_X10_isLineFull : GoodIn wsX10_twice (wsV RX10 123 RX10 yX10_isLineFull wsX10_isLineFull) := goodIn_app (goodIn_of _ (by decide +kernel)) ggX10_twice_X10_isLineFull
set_option maxRecDepth 20000 in
theorem ggX10_twice_J7_copyOf_59c91 : GoodIn wsX10_twice wsJ7_copyOf_59c91 := goodIn_r _ [29, 30, 31, 32, 33, 34, 35, 36, 37, 38, 39, 40, 41, 42, 43, 44] (by decide +kernel) (by decide +kernel)
set_option maxRecDepth 20000 in
theorem gX10_twice_J7_copyOf_59c91 : GoodIn wsX10_twice (va_wsS RX10 194 yJ7_copyOf_59c91 wsJ7_copyOf_59c91) := goodIn_app (goodIn_of _ (by decide +kernel)) ggX10_twice_J7_copyOf_59c91
set_option maxRecDepth 20000 in
theorem ggX10_twice_X4_init : GoodIn wsX10_twice wsX4_init := goodIn_r _ [47, 48, 49, 50, 51, 52, 53, 54, 55, 56, 61, 62, 63, 64, 65, 66, 67, 68, 69] (by decide +kernel) (by decide +kernel)
set_option maxRecDepth 20000 in
theorem gX10_twice_X4_init : GoodIn wsX10_twice (wsX4_init) := ggX10_twice_X4_init
set_option maxRecDepth 20000 in
theorem ggX10_twice_X10_add : GoodIn wsX10_twice wsX10_add := goodIn_r _ [60, 21, 20, 22, 23, 24, 13, 25, 70, 71, 72, 73, 74, 75, 76, 77, 78, 79, 80, 81] (by decide +kernel) (by decide +kernel)
set_option maxRecDepth 20000 in
theorem gX10_twice_X10_add : GoodIn wsX10_twice (wsV RX10 216 RX10 yX10_add wsX10_add) := goodIn_app (goodIn_of _ (by decide +kernel)) ggX10_twice_X10_add
theorem dX10_twice_0 : decode cX10_twice 0 = .ok (.aload_n 0, 1) := by decide +kernel
theorem dX10_twice_1 : decode cX10_twice 1 = .ok (.iload_n 1, 1) := by decide +kernel
theorem dX10_twice_2 : decode cX10_twice 2 = .ok (.invokevirtual 174, 3) := by decide +kernel
theorem dX10_twice_5 : decode cX10_twice 5 = .ok (.astore_n 2, 1) := by decide +kernel
theorem dX10_twice_6 : decode cX10_twice 6 = .ok (.aload_n 2, 1) := by decide +kernel
theorem dX10_twice_7 : decode cX10_twice 7 = .ok (.ifnonnull 5, 3) := by decide +kernel
theorem dX10_twice_10 : decode cX10_twice 10 = .ok (.iconst (-1), 1) := by decide +kernel
theorem dX10_twice_11 : decode cX10_twice 11 = .ok (.ireturn, 1) := by decide +kernel
theorem dX10_twice_12 : decode cX10_twice 12 = .ok (.aload_n 0, 1) := by decide +kernel
theorem dX10_twice_13 : decode cX10_twice 13 = .ok (.invokevirtual 123, 3) := by decide +kernel
theorem dX10_twice_16 : decode cX10_twice 16 = .ok (.ifCond .eq 6, 3) := by decide +kernel
theorem dX10_twice_19 : decode cX10_twice 19 = .ok (.bipush (-2), 2) := by decide +kernel
theorem dX10_twice_21 : decode cX10_twice 21 = .ok (.ireturn, 1) := by decide +kernel
theorem dX10_twice_22 : decode cX10_twice 22 = .ok (.aload_n 2, 1) := by decide +kernel
theorem dX10_twice_23 : decode cX10_twice 23 = .ok (.getfield 178, 3) := by decide +kernel
theorem dX10_twice_26 : decode cX10_twice 26 = .ok (.aload_n 2, 1) := by decide +kernel
theorem dX10_twice_27 : decode cX10_twice 27 = .ok (.getfield 178, 3) := by decide +kernel
theorem dX10_twice_30 : decode cX10_twice 30 = .ok (.arraylength, 1) := by decide +kernel
theorem dX10_twice_31 : decode cX10_twice 31 = .ok (.invokestatic 194, 3) := by decide +kernel
theorem dX10_twice_34 : decode cX10_twice 34 = .ok (.astore_n 3, 1) := by decide +kernel
theorem dX10_twice_35 : decode cX10_twice 35 = .ok (.new 47, 3) := by decide +kernel
theorem dX10_twice_38 : decode cX10_twice 38 = .ok (.dup, 1) := by decide +kernel
theorem dX10_twice_39 : decode cX10_twice 39 = .ok (.aload_n 2, 1) := by decide +kernel
theorem dX10_twice_40 : decode cX10_twice 40 = .ok (.getfield 200, 3) := by decide +kernel
theorem dX10_twice_43 : decode cX10_twice 43 = .ok (.aload_n 2, 1) := by decide +kernel
theorem dX10_twice_44 : decode cX10_twice 44 = .ok (.getfield 203, 3) := by decide +kernel
theorem dX10_twice_47 : decode cX10_twice 47 = .ok (.aload_n 2, 1) := by decide +kernel
theorem dX10_twice_48 : decode cX10_twice 48 = .ok (.getfield 206, 3) := by decide +kernel
theorem dX10_twice_51 : decode cX10_twice 51 = .ok (.aload_n 3, 1) := by decide +kernel
theorem dX10_twice_52 : decode cX10_twice 52 = .ok (.aload_n 2, 1) := by decide +kernel
theorem dX10_twice_53 : decode cX10_twice 53 = .ok (.getfield 207, 3) := by decide +kernel
theorem dX10_twice_56 : decode cX10_twice 56 = .ok (.invokespecial 210, 3) := by decide +kernel
theorem dX10_twice_59 : decode cX10_twice 59 = .ok (.astore 4, 2) := by decide +kernel
theorem dX10_twice_61 : decode cX10_twice 61 = .ok (.aload 4, 2) := by decide +kernel
theorem dX10_twice_63 : decode cX10_twice 63 = .ok (.iconst 1, 1) := by decide +kernel
theorem dX10_twice_64 : decode cX10_twice 64 = .ok (.putfield 213, 3) := by decide +kernel
theorem dX10_twice_67 : decode cX10_twice 67 = .ok (.aload_n 0, 1) := by decide +kernel
theorem dX10_twice_68 : decode cX10_twice 68 = .ok (.aload 4, 2) := by decide +kernel
theorem dX10_twice_70 : decode cX10_twice 70 = .ok (.invokevirtual 216, 3) := by decide +kernel
theorem dX10_twice_73 : decode cX10_twice 73 = .ok (.ireturn, 1) := by decide +kernel
set_option maxRecDepth 20000 in
theorem ggX10_bend_X10_letterUnderWay : GoodIn wsX10_bend wsX10_letterUnderWay := goodIn_r _ [6, 7, 8, 9, 10, 5, 11, 12, 13, 20, 21, 22, 23, 24, 25, 26, 27, 28, 29, 30, 31, 32, 33, 34, 35, 36, 37, 38, 39, 40] (by decide +kernel) (by decide +kernel)
set_option maxRecDepth 20000 in
theorem gX10_bend_X10_letterUnderWay : GoodIn wsX10_bend (wsV RX10 174 RX10 yX10_letterUnderWay wsX10_letterUnderWay) := goodIn_app (goodIn_of _ (by decide +kernel)) ggX10_bend_X10_letterUnderWay
set_option maxRecDepth 20000 in
theorem ggX10_bend_X4_hasByte : GoodIn wsX10_bend wsX4_hasByte := goodIn_r _ [18, 19, 20, 21, 22, 23, 24, 25, 26, 27, 28] (by decide +kernel) (by decide +kernel)
set_option maxRecDepth 20000 in
theorem gX10_bend_X4_hasByte : GoodIn wsX10_bend (wsV RX10 220 RX4 yX4_hasByte wsX4_hasByte) := goodIn_app (goodIn_of _ (by decide +kernel)) ggX10_bend_X4_hasByte
theorem dX10_bend_0 : decode cX10_bend 0 = .ok (.aload_n 0, 1) := by decide +kernel
theorem dX10_bend_1 : decode cX10_bend 1 = .ok (.iload_n 1, 1) := by decide +kernel
theorem dX10_bend_2 : decode cX10_bend 2 = .ok (.invokevirtual 174, 3) := by decide +kernel
theorem dX10_bend_5 : decode cX10_bend 5 = .ok (.astore 4, 2) := by decide +kernel
theorem dX10_bend_7 : decode cX10_bend 7 = .ok (.aload 4, 2) := by decide +kernel
theorem dX10_bend_9 : decode cX10_bend 9 = .ok (.ifnull 24, 3) := by decide +kernel
theorem dX10_bend_12 : decode cX10_bend 12 = .ok (.aload 4, 2) := by decide +kernel
theorem dX10_bend_14 : decode cX10_bend 14 = .ok (.iload_n 2, 1) := by decide +kernel
theorem dX10_bend_15 : decode cX10_bend 15 = .ok (.invokevirtual 220, 3) := by decide +kernel
theorem dX10_bend_18 : decode cX10_bend 18 = .ok (.ifCond .eq 15, 3) := by decide +kernel
theorem dX10_bend_21 : decode cX10_bend 21 = .ok (.iload_n 3, 1) := by decide +kernel
theorem dX10_bend_22 : decode cX10_bend 22 = .ok (.iconst 1, 1) := by decide +kernel
theorem dX10_bend_23 : decode cX10_bend 23 = .ok (.if_icmp .lt 10, 3) := by decide +kernel
theorem dX10_bend_26 : decode cX10_bend 26 = .ok (.iload_n 3, 1) := by decide +kernel
theorem dX10_bend_27 : decode cX10_bend 27 = .ok (.sipush 255, 3) := by decide +kernel
theorem dX10_bend_30 : decode cX10_bend 30 = .ok (.if_icmp .le 5, 3) := by decide +kernel
theorem dX10_bend_33 : decode cX10_bend 33 = .ok (.iconst (-1), 1) := by decide +kernel
theorem dX10_bend_34 : decode cX10_bend 34 = .ok (.ireturn, 1) := by decide +kernel
theorem dX10_bend_35 : decode cX10_bend 35 = .ok (.aload 4, 2) := by decide +kernel
theorem dX10_bend_37 : decode cX10_bend 37 = .ok (.getfield 178, 3) := by decide +kernel
theorem dX10_bend_40 : decode cX10_bend 40 = .ok (.iload_n 2, 1) := by decide +kernel
theorem dX10_bend_41 : decode cX10_bend 41 = .ok (.dup2, 1) := by decide +kernel
theorem dX10_bend_42 : decode cX10_bend 42 = .ok (.iaload, 1) := by decide +kernel
theorem dX10_bend_43 : decode cX10_bend 43 = .ok (.iload_n 3, 1) := by decide +kernel
theorem dX10_bend_44 : decode cX10_bend 44 = .ok (.ixor, 1) := by decide +kernel
theorem dX10_bend_45 : decode cX10_bend 45 = .ok (.iastore, 1) := by decide +kernel
theorem dX10_bend_46 : decode cX10_bend 46 = .ok (.aload 4, 2) := by decide +kernel
theorem dX10_bend_48 : decode cX10_bend 48 = .ok (.getfield 178, 3) := by decide +kernel
theorem dX10_bend_51 : decode cX10_bend 51 = .ok (.iload_n 2, 1) := by decide +kernel
theorem dX10_bend_52 : decode cX10_bend 52 = .ok (.iaload, 1) := by decide +kernel
theorem dX10_bend_53 : decode cX10_bend 53 = .ok (.ireturn, 1) := by decide +kernel
set_option maxRecDepth 20000 in
theorem ggX10_octet_X10_letterAt : GoodIn wsX10_octet wsX10_letterAt := goodIn_r _ [6, 7, 8, 24, 25, 26, 27, 28, 29, 30, 31, 32, 33, 34, 35] (by decide +kernel) (by decide +kernel)
set_option maxRecDepth 20000 in
theorem gX10_octet_X10_letterAt : GoodIn wsX10_octet (wsV RX10 223 RX10 yX10_letterAt wsX10_letterAt) := goodIn_app (goodIn_of _ (by decide +kernel)) ggX10_octet_X10_letterAt
set_option maxRecDepth 20000 in
theorem ggX10_octet_X4_hasByte : GoodIn wsX10_octet wsX4_hasByte := goodIn_r _ [13, 14, 15, 16, 17, 18, 19, 20, 21, 22, 23] (by decide +kernel) (by decide +kernel)
set_option maxRecDepth 20000 in
theorem gX10_octet_X4_hasByte : GoodIn wsX10_octet (wsV RX10 220 RX4 yX4_hasByte wsX4_hasByte) := goodIn_app (goodIn_of _ (by decide +kernel)) ggX10_octet_X4_hasByte
theorem dX10_octet_0 : decode cX10_octet 0 = .ok (.aload_n 0, 1) := by decide +kernel
theorem dX10_octet_1 : decode cX10_octet 1 = .ok (.iload_n 1, 1) := by decide +kernel
theorem dX10_octet_2 : decode cX10_octet 2 = .ok (.invokevirtual 223, 3) := by decide +kernel
theorem dX10_octet_5 : decode cX10_octet 5 = .ok (.astore_n 3, 1) := by decide +kernel
theorem dX10_octet_6 : decode cX10_octet 6 = .ok (.aload_n 3, 1) := by decide +kernel
theorem dX10_octet_7 : decode cX10_octet 7 = .ok (.ifnull 11, 3) := by decide +kernel
theorem dX10_octet_10 : decode cX10_octet 10 = .ok (.aload_n 3, 1) := by decide +kernel
theorem dX10_octet_11 : decode cX10_octet 11 = .ok (.iload_n 2, 1) := by decide +kernel
theorem dX10_octet_12 : decode cX10_octet 12 = .ok (.invokevirtual 220, 3) := by decide +kernel
theorem dX10_octet_15 : decode cX10_octet 15 = .ok (.ifCond .ne 5, 3) := by decide +kernel
theorem dX10_octet_18 : decode cX10_octet 18 = .ok (.iconst (-1), 1) := by decide +kernel
theorem dX10_octet_19 : decode cX10_octet 19 = .ok (.ireturn, 1) := by decide +kernel
theorem dX10_octet_20 : decode cX10_octet 20 = .ok (.aload_n 3, 1) := by decide +kernel
theorem dX10_octet_21 : decode cX10_octet 21 = .ok (.getfield 178, 3) := by decide +kernel
theorem dX10_octet_24 : decode cX10_octet 24 = .ok (.iload_n 2, 1) := by decide +kernel
theorem dX10_octet_25 : decode cX10_octet 25 = .ok (.iaload, 1) := by decide +kernel
theorem dX10_octet_26 : decode cX10_octet 26 = .ok (.ireturn, 1) := by decide +kernel
set_option maxRecDepth 20000 in
theorem ggX10_look_X10_letterAt : GoodIn wsX10_look wsX10_letterAt := goodIn_r _ [12, 13, 14, 24, 25, 26, 27, 28, 29, 30, 31, 32, 33, 34, 35] (by decide +kernel) (by decide +kernel)
set_option maxRecDepth 20000 in
theorem gX10_look_X10_letterAt : GoodIn wsX10_look (wsV RX10 223 RX10 yX10_letterAt wsX10_letterAt) := goodIn_app (goodIn_of _ (by decide +kernel)) ggX10_look_X10_letterAt
theorem dX10_look_0 : decode cX10_look 0 = .ok (.aload_n 0, 1) := by decide +kernel
theorem dX10_look_1 : decode cX10_look 1 = .ok (.iload_n 1, 1) := by decide +kernel
theorem dX10_look_2 : decode cX10_look 2 = .ok (.invokevirtual 223, 3) := by decide +kernel
theorem dX10_look_5 : decode cX10_look 5 = .ok (.astore_n 3, 1) := by decide +kernel
theorem dX10_look_6 : decode cX10_look 6 = .ok (.aload_n 3, 1) := by decide +kernel
theorem dX10_look_7 : decode cX10_look 7 = .ok (.ifnonnull 5, 3) := by decide +kernel
theorem dX10_look_10 : decode cX10_look 10 = .ok (.iconst (-1), 1) := by decide +kernel
theorem dX10_look_11 : decode cX10_look 11 = .ok (.ireturn, 1) := by decide +kernel
theorem dX10_look_12 : decode cX10_look 12 = .ok (.iload_n 2, 1) := by decide +kernel
theorem dX10_look_13 : decode cX10_look 13 = .ok (.tableswitch 87 0 6 #[43, 48, 53, 58, 64, 69, 74], 43) := by decide +kernel
theorem dX10_look_56 : decode cX10_look 56 = .ok (.aload_n 3, 1) := by decide +kernel
theorem dX10_look_57 : decode cX10_look 57 = .ok (.getfield 200, 3) := by decide +kernel
theorem dX10_look_60 : decode cX10_look 60 = .ok (.ireturn, 1) := by decide +kernel
theorem dX10_look_61 : decode cX10_look 61 = .ok (.aload_n 3, 1) := by decide +kernel
theorem dX10_look_62 : decode cX10_look 62 = .ok (.getfield 203, 3) := by decide +kernel
theorem dX10_look_65 : decode cX10_look 65 = .ok (.ireturn, 1) := by decide +kernel
theorem dX10_look_66 : decode cX10_look 66 = .ok (.aload_n 3, 1) := by decide +kernel
theorem dX10_look_67 : decode cX10_look 67 = .ok (.getfield 206, 3) := by decide +kernel
theorem dX10_look_70 : decode cX10_look 70 = .ok (.ireturn, 1) := by decide +kernel
theorem dX10_look_71 : decode cX10_look 71 = .ok (.aload_n 3, 1) := by decide +kernel
theorem dX10_look_72 : decode cX10_look 72 = .ok (.getfield 178, 3) := by decide +kernel
theorem dX10_look_75 : decode cX10_look 75 = .ok (.arraylength, 1) := by decide +kernel
theorem dX10_look_76 : decode cX10_look 76 = .ok (.ireturn, 1) := by decide +kernel
theorem dX10_look_77 : decode cX10_look 77 = .ok (.aload_n 3, 1) := by decide +kernel
theorem dX10_look_78 : decode cX10_look 78 = .ok (.getfield 207, 3) := by decide +kernel
theorem dX10_look_81 : decode cX10_look 81 = .ok (.ireturn, 1) := by decide +kernel
theorem dX10_look_82 : decode cX10_look 82 = .ok (.aload_n 3, 1) := by decide +kernel
theorem dX10_look_83 : decode cX10_look 83 = .ok (.getfield 185, 3) := by decide +kernel
theorem dX10_look_86 : decode cX10_look 86 = .ok (.ireturn, 1) := by decide +kernel
theorem dX10_look_87 : decode cX10_look 87 = .ok (.aload_n 3, 1) := by decide +kernel
theorem dX10_look_88 : decode cX10_look 88 = .ok (.getfield 188, 3) := by decide +kernel
theorem dX10_look_91 : decode cX10_look 91 = .ok (.ifCond .eq 7, 3) := by decide +kernel
theorem dX10_look_94 : decode cX10_look 94 = .ok (.iconst 1, 1) := by decide +kernel
theorem dX10_look_95 : decode cX10_look 95 = .ok (.goto 4, 3) := by decide +kernel
theorem dX10_look_98 : decode cX10_look 98 = .ok (.iconst 0, 1) := by decide +kernel
theorem dX10_look_99 : decode cX10_look 99 = .ok (.ireturn, 1) := by decide +kernel
theorem dX10_look_100 : decode cX10_look 100 = .ok (.iconst (-1), 1) := by decide +kernel
theorem dX10_look_101 : decode cX10_look 101 = .ok (.ireturn, 1) := by decide +kernel
set_option maxRecDepth 20000 in
theorem ggX10_prove_X10_letterAt : GoodIn wsX10_prove wsX10_letterAt := goodIn_r _ [11, 12, 13, 34, 35, 36, 37, 38, 39, 40, 41, 42, 43, 44, 45] (by decide +kernel) (by decide +kernel)
set_option maxRecDepth 20000 in
theorem gX10_prove_X10_letterAt : GoodIn wsX10_prove (wsV RX10 223 RX10 yX10_letterAt wsX10_letterAt) := goodIn_app (goodIn_of _ (by decide +kernel)) ggX10_prove_X10_letterAt
set_option maxRecDepth 20000 in
theorem ggX10_prove_X6_hasStride : GoodIn wsX10_prove wsX6_hasStride := goodIn_r _ [18, 19, 20, 21, 22, 17, 23, 24, 50, 51, 52, 53, 54] (by decide +kernel) (by decide +kernel)
set_option maxRecDepth 20000 in
theorem gX10_prove_X6_hasStride : GoodIn wsX10_prove (wsV RX10 112 RX6 yX6_hasStride wsX6_hasStride) := goodIn_app (goodIn_of _ (by decide +kernel)) ggX10_prove_X6_hasStride
theorem dX10_prove_0 : decode cX10_prove 0 = .ok (.aload_n 0, 1) := by decide +kernel
theorem dX10_prove_1 : decode cX10_prove 1 = .ok (.iload_n 1, 1) := by decide +kernel
theorem dX10_prove_2 : decode cX10_prove 2 = .ok (.invokevirtual 223, 3) := by decide +kernel
theorem dX10_prove_5 : decode cX10_prove 5 = .ok (.astore 4, 2) := by decide +kernel
theorem dX10_prove_7 : decode cX10_prove 7 = .ok (.aload 4, 2) := by decide +kernel
theorem dX10_prove_9 : decode cX10_prove 9 = .ok (.ifnull 22, 3) := by decide +kernel
theorem dX10_prove_12 : decode cX10_prove 12 = .ok (.aload 4, 2) := by decide +kernel
theorem dX10_prove_14 : decode cX10_prove 14 = .ok (.getfield 226, 3) := by decide +kernel
theorem dX10_prove_17 : decode cX10_prove 17 = .ok (.ifnull 14, 3) := by decide +kernel
theorem dX10_prove_20 : decode cX10_prove 20 = .ok (.aload_n 0, 1) := by decide +kernel
theorem dX10_prove_21 : decode cX10_prove 21 = .ok (.getfield 22, 3) := by decide +kernel
theorem dX10_prove_24 : decode cX10_prove 24 = .ok (.iload_n 2, 1) := by decide +kernel
theorem dX10_prove_25 : decode cX10_prove 25 = .ok (.invokevirtual 112, 3) := by decide +kernel
theorem dX10_prove_28 : decode cX10_prove 28 = .ok (.ifCond .ne 5, 3) := by decide +kernel
theorem dX10_prove_31 : decode cX10_prove 31 = .ok (.iconst (-1), 1) := by decide +kernel
theorem dX10_prove_32 : decode cX10_prove 32 = .ok (.ireturn, 1) := by decide +kernel
theorem dX10_prove_33 : decode cX10_prove 33 = .ok (.aload 4, 2) := by decide +kernel
theorem dX10_prove_35 : decode cX10_prove 35 = .ok (.getfield 226, 3) := by decide +kernel
theorem dX10_prove_38 : decode cX10_prove 38 = .ok (.astore 5, 2) := by decide +kernel
theorem dX10_prove_40 : decode cX10_prove 40 = .ok (.iload_n 3, 1) := by decide +kernel
theorem dX10_prove_41 : decode cX10_prove 41 = .ok (.tableswitch 59 0 3 #[31, 39, 47, 53], 31) := by decide +kernel
theorem dX10_prove_72 : decode cX10_prove 72 = .ok (.aload 5, 2) := by decide +kernel
theorem dX10_prove_74 : decode cX10_prove 74 = .ok (.getfield 230, 3) := by decide +kernel
theorem dX10_prove_77 : decode cX10_prove 77 = .ok (.iload_n 2, 1) := by decide +kernel
theorem dX10_prove_78 : decode cX10_prove 78 = .ok (.iaload, 1) := by decide +kernel
theorem dX10_prove_79 : decode cX10_prove 79 = .ok (.ireturn, 1) := by decide +kernel
theorem dX10_prove_80 : decode cX10_prove 80 = .ok (.aload 5, 2) := by decide +kernel
theorem dX10_prove_82 : decode cX10_prove 82 = .ok (.getfield 233, 3) := by decide +kernel
theorem dX10_prove_85 : decode cX10_prove 85 = .ok (.iload_n 2, 1) := by decide +kernel
theorem dX10_prove_86 : decode cX10_prove 86 = .ok (.iaload, 1) := by decide +kernel
theorem dX10_prove_87 : decode cX10_prove 87 = .ok (.ireturn, 1) := by decide +kernel
theorem dX10_prove_88 : decode cX10_prove 88 = .ok (.aload 5, 2) := by decide +kernel
theorem dX10_prove_90 : decode cX10_prove 90 = .ok (.getfield 236, 3) := by decide +kernel
theorem dX10_prove_93 : decode cX10_prove 93 = .ok (.ireturn, 1) := by decide +kernel
theorem dX10_prove_94 : decode cX10_prove 94 = .ok (.aload 5, 2) := by decide +kernel
theorem dX10_prove_96 : decode cX10_prove 96 = .ok (.getfield 239, 3) := by decide +kernel
theorem dX10_prove_99 : decode cX10_prove 99 = .ok (.ireturn, 1) := by decide +kernel
theorem dX10_prove_100 : decode cX10_prove 100 = .ok (.iconst (-1), 1) := by decide +kernel
theorem dX10_prove_101 : decode cX10_prove 101 = .ok (.ireturn, 1) := by decide +kernel
set_option maxRecDepth 20000 in
theorem ggX10_got_X6_has : GoodIn wsX10_got wsX6_has := goodIn_r _ [12, 13, 33, 34, 35, 36, 37] (by decide +kernel) (by decide +kernel)
set_option maxRecDepth 20000 in
theorem gX10_got_X6_has : GoodIn wsX10_got (wsV RX10 95 RX6 yX6_has wsX6_has) := goodIn_app (goodIn_of _ (by decide +kernel)) ggX10_got_X6_has
theorem dX10_got_0 : decode cX10_got 0 = .ok (.aload_n 0, 1) := by decide +kernel
theorem dX10_got_1 : decode cX10_got 1 = .ok (.getfield 22, 3) := by decide +kernel
theorem dX10_got_4 : decode cX10_got 4 = .ok (.iload_n 1, 1) := by decide +kernel
theorem dX10_got_5 : decode cX10_got 5 = .ok (.invokevirtual 95, 3) := by decide +kernel
theorem dX10_got_8 : decode cX10_got 8 = .ok (.ifCond .ne 7, 3) := by decide +kernel
theorem dX10_got_11 : decode cX10_got 11 = .ok (.ldc2_w 99, 3) := by decide +kernel
theorem dX10_got_14 : decode cX10_got 14 = .ok (.lreturn, 1) := by decide +kernel
theorem dX10_got_15 : decode cX10_got 15 = .ok (.aload_n 0, 1) := by decide +kernel
theorem dX10_got_16 : decode cX10_got 16 = .ok (.getfield 77, 3) := by decide +kernel
theorem dX10_got_19 : decode cX10_got 19 = .ok (.getfield 242, 3) := by decide +kernel
theorem dX10_got_22 : decode cX10_got 22 = .ok (.ifCond .ne 9, 3) := by decide +kernel
theorem dX10_got_25 : decode cX10_got 25 = .ok (.ldc2_w 245, 3) := by decide +kernel
theorem dX10_got_28 : decode cX10_got 28 = .ok (.goto 15, 3) := by decide +kernel
theorem dX10_got_31 : decode cX10_got 31 = .ok (.aload_n 0, 1) := by decide +kernel
theorem dX10_got_32 : decode cX10_got 32 = .ok (.getfield 77, 3) := by decide +kernel
theorem dX10_got_35 : decode cX10_got 35 = .ok (.getfield 247, 3) := by decide +kernel
theorem dX10_got_38 : decode cX10_got 38 = .ok (.getfield 101, 3) := by decide +kernel
theorem dX10_got_41 : decode cX10_got 41 = .ok (.iload_n 1, 1) := by decide +kernel
theorem dX10_got_42 : decode cX10_got 42 = .ok (.laload, 1) := by decide +kernel
theorem dX10_got_43 : decode cX10_got 43 = .ok (.lreturn, 1) := by decide +kernel
set_option maxRecDepth 20000 in
theorem ggX10_way_X6_has : GoodIn wsX10_way wsX6_has := goodIn_r _ [9, 10, 28, 29, 30, 31, 32] (by decide +kernel) (by decide +kernel)
set_option maxRecDepth 20000 in
theorem gX10_way_X6_has : GoodIn wsX10_way (wsV RX10 95 RX6 yX6_has wsX6_has) := goodIn_app (goodIn_of _ (by decide +kernel)) ggX10_way_X6_has
theorem dX10_way_0 : decode cX10_way 0 = .ok (.aload_n 0, 1) := by decide +kernel
theorem dX10_way_1 : decode cX10_way 1 = .ok (.getfield 22, 3) := by decide +kernel
theorem dX10_way_4 : decode cX10_way 4 = .ok (.iload_n 1, 1) := by decide +kernel
theorem dX10_way_5 : decode cX10_way 5 = .ok (.invokevirtual 95, 3) := by decide +kernel
theorem dX10_way_8 : decode cX10_way 8 = .ok (.ifCond .ne 5, 3) := by decide +kernel
theorem dX10_way_11 : decode cX10_way 11 = .ok (.iconst (-1), 1) := by decide +kernel
theorem dX10_way_12 : decode cX10_way 12 = .ok (.ireturn, 1) := by decide +kernel
theorem dX10_way_13 : decode cX10_way 13 = .ok (.aload_n 0, 1) := by decide +kernel
theorem dX10_way_14 : decode cX10_way 14 = .ok (.getfield 77, 3) := by decide +kernel
theorem dX10_way_17 : decode cX10_way 17 = .ok (.getfield 242, 3) := by decide +kernel
theorem dX10_way_20 : decode cX10_way 20 = .ok (.ifCond .ne 8, 3) := by decide +kernel
theorem dX10_way_23 : decode cX10_way 23 = .ok (.bipush (-2), 2) := by decide +kernel
theorem dX10_way_25 : decode cX10_way 25 = .ok (.goto 12, 3) := by decide +kernel
theorem dX10_way_28 : decode cX10_way 28 = .ok (.aload_n 0, 1) := by decide +kernel
theorem dX10_way_29 : decode cX10_way 29 = .ok (.getfield 77, 3) := by decide +kernel
theorem dX10_way_32 : decode cX10_way 32 = .ok (.getfield 248, 3) := by decide +kernel
theorem dX10_way_35 : decode cX10_way 35 = .ok (.iload_n 1, 1) := by decide +kernel
theorem dX10_way_36 : decode cX10_way 36 = .ok (.iaload, 1) := by decide +kernel
theorem dX10_way_37 : decode cX10_way 37 = .ok (.ireturn, 1) := by decide +kernel
theorem dX10_hung_0 : decode cX10_hung 0 = .ok (.iload_n 1, 1) := by decide +kernel
theorem dX10_hung_1 : decode cX10_hung 1 = .ok (.ifCond .lt 8, 3) := by decide +kernel
theorem dX10_hung_4 : decode cX10_hung 4 = .ok (.iload_n 1, 1) := by decide +kernel
theorem dX10_hung_5 : decode cX10_hung 5 = .ok (.iconst 3, 1) := by decide +kernel
theorem dX10_hung_6 : decode cX10_hung 6 = .ok (.if_icmp .le 5, 3) := by decide +kernel
theorem dX10_hung_9 : decode cX10_hung 9 = .ok (.iconst (-1), 1) := by decide +kernel
theorem dX10_hung_10 : decode cX10_hung 10 = .ok (.ireturn, 1) := by decide +kernel
theorem dX10_hung_11 : decode cX10_hung 11 = .ok (.iload_n 1, 1) := by decide +kernel
theorem dX10_hung_12 : decode cX10_hung 12 = .ok (.iconst 3, 1) := by decide +kernel
theorem dX10_hung_13 : decode cX10_hung 13 = .ok (.if_icmp .ne 11, 3) := by decide +kernel
theorem dX10_hung_16 : decode cX10_hung 16 = .ok (.aload_n 0, 1) := by decide +kernel
theorem dX10_hung_17 : decode cX10_hung 17 = .ok (.getfield 77, 3) := by decide +kernel
theorem dX10_hung_20 : decode cX10_hung 20 = .ok (.getfield 242, 3) := by decide +kernel
theorem dX10_hung_23 : decode cX10_hung 23 = .ok (.ireturn, 1) := by decide +kernel
theorem dX10_hung_24 : decode cX10_hung 24 = .ok (.aload_n 0, 1) := by decide +kernel
theorem dX10_hung_25 : decode cX10_hung 25 = .ok (.getfield 77, 3) := by decide +kernel
theorem dX10_hung_28 : decode cX10_hung 28 = .ok (.getfield 242, 3) := by decide +kernel
theorem dX10_hung_31 : decode cX10_hung 31 = .ok (.ifCond .ne 6, 3) := by decide +kernel
theorem dX10_hung_34 : decode cX10_hung 34 = .ok (.bipush (-2), 2) := by decide +kernel
theorem dX10_hung_36 : decode cX10_hung 36 = .ok (.ireturn, 1) := by decide +kernel
theorem dX10_hung_37 : decode cX10_hung 37 = .ok (.iload_n 1, 1) := by decide +kernel
theorem dX10_hung_38 : decode cX10_hung 38 = .ok (.lookupswitch 45 #[(0, 26), (1, 34)], 26) := by decide +kernel
theorem dX10_hung_64 : decode cX10_hung 64 = .ok (.aload_n 0, 1) := by decide +kernel
theorem dX10_hung_65 : decode cX10_hung 65 = .ok (.getfield 77, 3) := by decide +kernel
theorem dX10_hung_68 : decode cX10_hung 68 = .ok (.getfield 251, 3) := by decide +kernel
theorem dX10_hung_71 : decode cX10_hung 71 = .ok (.ireturn, 1) := by decide +kernel
theorem dX10_hung_72 : decode cX10_hung 72 = .ok (.aload_n 0, 1) := by decide +kernel
theorem dX10_hung_73 : decode cX10_hung 73 = .ok (.getfield 77, 3) := by decide +kernel
theorem dX10_hung_76 : decode cX10_hung 76 = .ok (.getfield 247, 3) := by decide +kernel
theorem dX10_hung_79 : decode cX10_hung 79 = .ok (.getfield 130, 3) := by decide +kernel
theorem dX10_hung_82 : decode cX10_hung 82 = .ok (.ireturn, 1) := by decide +kernel
theorem dX10_hung_83 : decode cX10_hung 83 = .ok (.aload_n 0, 1) := by decide +kernel
theorem dX10_hung_84 : decode cX10_hung 84 = .ok (.getfield 77, 3) := by decide +kernel
theorem dX10_hung_87 : decode cX10_hung 87 = .ok (.getfield 252, 3) := by decide +kernel
theorem dX10_hung_90 : decode cX10_hung 90 = .ok (.ireturn, 1) := by decide +kernel
set_option maxRecDepth 20000 in
theorem ggX10_context_X10_isFlow : GoodIn wsX10_context wsX10_isFlow := goodIn_r _ [9] (by decide +kernel) (by decide +kernel)
set_option maxRecDepth 20000 in
theorem gX10_context_X10_isFlow : GoodIn wsX10_context (va_wsS RX10 109 yX10_isFlow wsX10_isFlow) := goodIn_app (goodIn_of _ (by decide +kernel)) ggX10_context_X10_isFlow
theorem dX10_context_0 : decode cX10_context 0 = .ok (.iload_n 1, 1) := by decide +kernel
theorem dX10_context_1 : decode cX10_context 1 = .ok (.invokestatic 109, 3) := by decide +kernel
theorem dX10_context_4 : decode cX10_context 4 = .ok (.ifCond .eq 12, 3) := by decide +kernel
theorem dX10_context_7 : decode cX10_context 7 = .ok (.iload_n 2, 1) := by decide +kernel
theorem dX10_context_8 : decode cX10_context 8 = .ok (.ifCond .lt 8, 3) := by decide +kernel
theorem dX10_context_11 : decode cX10_context 11 = .ok (.iload_n 2, 1) := by decide +kernel
theorem dX10_context_12 : decode cX10_context 12 = .ok (.iconst 2, 1) := by decide +kernel
theorem dX10_context_13 : decode cX10_context 13 = .ok (.if_icmp .le 5, 3) := by decide +kernel
theorem dX10_context_16 : decode cX10_context 16 = .ok (.iconst (-1), 1) := by decide +kernel
theorem dX10_context_17 : decode cX10_context 17 = .ok (.ireturn, 1) := by decide +kernel
theorem dX10_context_18 : decode cX10_context 18 = .ok (.aload_n 0, 1) := by decide +kernel
theorem dX10_context_19 : decode cX10_context 19 = .ok (.getfield 41, 3) := by decide +kernel
theorem dX10_context_22 : decode cX10_context 22 = .ok (.iload_n 1, 1) := by decide +kernel
theorem dX10_context_23 : decode cX10_context 23 = .ok (.aaload, 1) := by decide +kernel
theorem dX10_context_24 : decode cX10_context 24 = .ok (.astore_n 3, 1) := by decide +kernel
theorem dX10_context_25 : decode cX10_context 25 = .ok (.iload_n 2, 1) := by decide +kernel
theorem dX10_context_26 : decode cX10_context 26 = .ok (.ifCond .ne 16, 3) := by decide +kernel
theorem dX10_context_29 : decode cX10_context 29 = .ok (.aload_n 3, 1) := by decide +kernel
theorem dX10_context_30 : decode cX10_context 30 = .ok (.getfield 164, 3) := by decide +kernel
theorem dX10_context_33 : decode cX10_context 33 = .ok (.ifCond .eq 7, 3) := by decide +kernel
theorem dX10_context_36 : decode cX10_context 36 = .ok (.iconst 1, 1) := by decide +kernel
theorem dX10_context_37 : decode cX10_context 37 = .ok (.goto 4, 3) := by decide +kernel
theorem dX10_context_40 : decode cX10_context 40 = .ok (.iconst 0, 1) := by decide +kernel
theorem dX10_context_41 : decode cX10_context 41 = .ok (.ireturn, 1) := by decide +kernel
theorem dX10_context_42 : decode cX10_context 42 = .ok (.aload_n 3, 1) := by decide +kernel
theorem dX10_context_43 : decode cX10_context 43 = .ok (.getfield 164, 3) := by decide +kernel
theorem dX10_context_46 : decode cX10_context 46 = .ok (.ifCond .ne 6, 3) := by decide +kernel
theorem dX10_context_49 : decode cX10_context 49 = .ok (.bipush (-2), 2) := by decide +kernel
theorem dX10_context_51 : decode cX10_context 51 = .ok (.ireturn, 1) := by decide +kernel
theorem dX10_context_52 : decode cX10_context 52 = .ok (.iload_n 2, 1) := by decide +kernel
theorem dX10_context_53 : decode cX10_context 53 = .ok (.iconst 1, 1) := by decide +kernel
theorem dX10_context_54 : decode cX10_context 54 = .ok (.if_icmp .ne 13, 3) := by decide +kernel
theorem dX10_context_57 : decode cX10_context 57 = .ok (.aload_n 3, 1) := by decide +kernel
theorem dX10_context_58 : decode cX10_context 58 = .ok (.getfield 167, 3) := by decide +kernel
theorem dX10_context_61 : decode cX10_context 61 = .ok (.getfield 130, 3) := by decide +kernel
theorem dX10_context_64 : decode cX10_context 64 = .ok (.goto 7, 3) := by decide +kernel
theorem dX10_context_67 : decode cX10_context 67 = .ok (.aload_n 3, 1) := by decide +kernel
theorem dX10_context_68 : decode cX10_context 68 = .ok (.getfield 255, 3) := by decide +kernel
theorem dX10_context_71 : decode cX10_context 71 = .ok (.ireturn, 1) := by decide +kernel
set_option maxRecDepth 20000 in
theorem ggX10_known_X10_isFlow : GoodIn wsX10_known wsX10_isFlow := goodIn_r _ [12] (by decide +kernel) (by decide +kernel)
set_option maxRecDepth 20000 in
theorem gX10_known_X10_isFlow : GoodIn wsX10_known (va_wsS RX10 109 yX10_isFlow wsX10_isFlow) := goodIn_app (goodIn_of _ (by decide +kernel)) ggX10_known_X10_isFlow
set_option maxRecDepth 20000 in
theorem ggX10_known_X6_has : GoodIn wsX10_known wsX6_has := goodIn_r _ [17, 18, 37, 38, 39, 40, 41] (by decide +kernel) (by decide +kernel)
set_option maxRecDepth 20000 in
theorem gX10_known_X6_has : GoodIn wsX10_known (wsV RX10 95 RX6 yX6_has wsX6_has) := goodIn_app (goodIn_of _ (by decide +kernel)) ggX10_known_X6_has
theorem dX10_known_0 : decode cX10_known 0 = .ok (.iload_n 1, 1) := by decide +kernel
theorem dX10_known_1 : decode cX10_known 1 = .ok (.invokestatic 109, 3) := by decide +kernel
theorem dX10_known_4 : decode cX10_known 4 = .ok (.ifCond .eq 14, 3) := by decide +kernel
theorem dX10_known_7 : decode cX10_known 7 = .ok (.aload_n 0, 1) := by decide +kernel
theorem dX10_known_8 : decode cX10_known 8 = .ok (.getfield 22, 3) := by decide +kernel
theorem dX10_known_11 : decode cX10_known 11 = .ok (.iload_n 2, 1) := by decide +kernel
theorem dX10_known_12 : decode cX10_known 12 = .ok (.invokevirtual 95, 3) := by decide +kernel
theorem dX10_known_15 : decode cX10_known 15 = .ok (.ifCond .ne 7, 3) := by decide +kernel
theorem dX10_known_18 : decode cX10_known 18 = .ok (.ldc2_w 99, 3) := by decide +kernel
theorem dX10_known_21 : decode cX10_known 21 = .ok (.lreturn, 1) := by decide +kernel
theorem dX10_known_22 : decode cX10_known 22 = .ok (.aload_n 0, 1) := by decide +kernel
theorem dX10_known_23 : decode cX10_known 23 = .ok (.getfield 41, 3) := by decide +kernel
theorem dX10_known_26 : decode cX10_known 26 = .ok (.iload_n 1, 1) := by decide +kernel
theorem dX10_known_27 : decode cX10_known 27 = .ok (.aaload, 1) := by decide +kernel
theorem dX10_known_28 : decode cX10_known 28 = .ok (.astore 4, 2) := by decide +kernel
theorem dX10_known_30 : decode cX10_known 30 = .ok (.aload 4, 2) := by decide +kernel
theorem dX10_known_32 : decode cX10_known 32 = .ok (.getfield 164, 3) := by decide +kernel
theorem dX10_known_35 : decode cX10_known 35 = .ok (.ifCond .ne 7, 3) := by decide +kernel
theorem dX10_known_38 : decode cX10_known 38 = .ok (.ldc2_w 245, 3) := by decide +kernel
theorem dX10_known_41 : decode cX10_known 41 = .ok (.lreturn, 1) := by decide +kernel
theorem dX10_known_42 : decode cX10_known 42 = .ok (.iload_n 3, 1) := by decide +kernel
theorem dX10_known_43 : decode cX10_known 43 = .ok (.ifCond .eq 14, 3) := by decide +kernel
theorem dX10_known_46 : decode cX10_known 46 = .ok (.aload 4, 2) := by decide +kernel
theorem dX10_known_48 : decode cX10_known 48 = .ok (.getfield 258, 3) := by decide +kernel
theorem dX10_known_51 : decode cX10_known 51 = .ok (.iload_n 2, 1) := by decide +kernel
theorem dX10_known_52 : decode cX10_known 52 = .ok (.iaload, 1) := by decide +kernel
theorem dX10_known_53 : decode cX10_known 53 = .ok (.i2l, 1) := by decide +kernel
theorem dX10_known_54 : decode cX10_known 54 = .ok (.goto 13, 3) := by decide +kernel
theorem dX10_known_57 : decode cX10_known 57 = .ok (.aload 4, 2) := by decide +kernel
theorem dX10_known_59 : decode cX10_known 59 = .ok (.getfield 167, 3) := by decide +kernel
theorem dX10_known_62 : decode cX10_known 62 = .ok (.getfield 101, 3) := by decide +kernel
theorem dX10_known_65 : decode cX10_known 65 = .ok (.iload_n 2, 1) := by decide +kernel
theorem dX10_known_66 : decode cX10_known 66 = .ok (.laload, 1) := by decide +kernel
theorem dX10_known_67 : decode cX10_known 67 = .ok (.lreturn, 1) := by decide +kernel
set_option maxRecDepth 20000 in
theorem ggX10_squeezer_X10_isFlow : GoodIn wsX10_squeezer wsX10_isFlow := goodIn_r _ [9] (by decide +kernel) (by decide +kernel)
set_option maxRecDepth 20000 in
theorem gX10_squeezer_X10_isFlow : GoodIn wsX10_squeezer (va_wsS RX10 109 yX10_isFlow wsX10_isFlow) := goodIn_app (goodIn_of _ (by decide +kernel)) ggX10_squeezer_X10_isFlow
set_option maxRecDepth 20000 in
theorem ggX10_squeezer_X9_oldestNumber : GoodIn wsX10_squeezer wsX9_oldestNumber := goodIn_r _ [14, 15, 16, 17, 18, 19, 13, 20, 21, 22, 23, 24, 25, 26, 39, 40, 41, 42, 43, 44, 45, 46, 47] (by decide +kernel) (by decide +kernel)
set_option maxRecDepth 20000 in
theorem gX10_squeezer_X9_oldestNumber : GoodIn wsX10_squeezer (wsV RX10 263 RX9 yX9_oldestNumber wsX9_oldestNumber) := goodIn_app (goodIn_of _ (by decide +kernel)) ggX10_squeezer_X9_oldestNumber
theorem dX10_squeezer_0 : decode cX10_squeezer 0 = .ok (.iload_n 1, 1) := by decide +kernel
theorem dX10_squeezer_1 : decode cX10_squeezer 1 = .ok (.invokestatic 109, 3) := by decide +kernel
theorem dX10_squeezer_4 : decode cX10_squeezer 4 = .ok (.ifCond .ne 5, 3) := by decide +kernel
theorem dX10_squeezer_7 : decode cX10_squeezer 7 = .ok (.iconst (-1), 1) := by decide +kernel
theorem dX10_squeezer_8 : decode cX10_squeezer 8 = .ok (.ireturn, 1) := by decide +kernel
theorem dX10_squeezer_9 : decode cX10_squeezer 9 = .ok (.aload_n 0, 1) := by decide +kernel
theorem dX10_squeezer_10 : decode cX10_squeezer 10 = .ok (.getfield 35, 3) := by decide +kernel
theorem dX10_squeezer_13 : decode cX10_squeezer 13 = .ok (.iload_n 1, 1) := by decide +kernel
theorem dX10_squeezer_14 : decode cX10_squeezer 14 = .ok (.aaload, 1) := by decide +kernel
theorem dX10_squeezer_15 : decode cX10_squeezer 15 = .ok (.astore_n 3, 1) := by decide +kernel
theorem dX10_squeezer_16 : decode cX10_squeezer 16 = .ok (.iload_n 2, 1) := by decide +kernel
theorem dX10_squeezer_17 : decode cX10_squeezer 17 = .ok (.tableswitch 68 0 4 #[35, 40, 45, 50, 55], 35) := by decide +kernel
theorem dX10_squeezer_52 : decode cX10_squeezer 52 = .ok (.aload_n 3, 1) := by decide +kernel
theorem dX10_squeezer_53 : decode cX10_squeezer 53 = .ok (.getfield 127, 3) := by decide +kernel
theorem dX10_squeezer_56 : decode cX10_squeezer 56 = .ok (.ireturn, 1) := by decide +kernel
theorem dX10_squeezer_57 : decode cX10_squeezer 57 = .ok (.aload_n 3, 1) := by decide +kernel
theorem dX10_squeezer_58 : decode cX10_squeezer 58 = .ok (.getfield 259, 3) := by decide +kernel
theorem dX10_squeezer_61 : decode cX10_squeezer 61 = .ok (.ireturn, 1) := by decide +kernel
theorem dX10_squeezer_62 : decode cX10_squeezer 62 = .ok (.aload_n 3, 1) := by decide +kernel
theorem dX10_squeezer_63 : decode cX10_squeezer 63 = .ok (.getfield 260, 3) := by decide +kernel
theorem dX10_squeezer_66 : decode cX10_squeezer 66 = .ok (.ireturn, 1) := by decide +kernel
theorem dX10_squeezer_67 : decode cX10_squeezer 67 = .ok (.aload_n 3, 1) := by decide +kernel
theorem dX10_squeezer_68 : decode cX10_squeezer 68 = .ok (.invokevirtual 263, 3) := by decide +kernel
theorem dX10_squeezer_71 : decode cX10_squeezer 71 = .ok (.ireturn, 1) := by decide +kernel
theorem dX10_squeezer_72 : decode cX10_squeezer 72 = .ok (.aload_n 3, 1) := by decide +kernel
theorem dX10_squeezer_73 : decode cX10_squeezer 73 = .ok (.getfield 119, 3) := by decide +kernel
theorem dX10_squeezer_76 : decode cX10_squeezer 76 = .ok (.ifCond .eq 7, 3) := by decide +kernel
theorem dX10_squeezer_79 : decode cX10_squeezer 79 = .ok (.iconst 1, 1) := by decide +kernel
theorem dX10_squeezer_80 : decode cX10_squeezer 80 = .ok (.goto 4, 3) := by decide +kernel
theorem dX10_squeezer_83 : decode cX10_squeezer 83 = .ok (.iconst 0, 1) := by decide +kernel
theorem dX10_squeezer_84 : decode cX10_squeezer 84 = .ok (.ireturn, 1) := by decide +kernel
theorem dX10_squeezer_85 : decode cX10_squeezer 85 = .ok (.iconst (-1), 1) := by decide +kernel
theorem dX10_squeezer_86 : decode cX10_squeezer 86 = .ok (.ireturn, 1) := by decide +kernel
set_option maxRecDepth 20000 in
theorem ggX10_forget_X10_isFlow : GoodIn wsX10_forget wsX10_isFlow := goodIn_r _ [9] (by decide +kernel) (by decide +kernel)
set_option maxRecDepth 20000 in
theorem gX10_forget_X10_isFlow : GoodIn wsX10_forget (va_wsS RX10 109 yX10_isFlow wsX10_isFlow) := goodIn_app (goodIn_of _ (by decide +kernel)) ggX10_forget_X10_isFlow
theorem dX10_forget_0 : decode cX10_forget 0 = .ok (.iload_n 1, 1) := by decide +kernel
theorem dX10_forget_1 : decode cX10_forget 1 = .ok (.invokestatic 109, 3) := by decide +kernel
theorem dX10_forget_4 : decode cX10_forget 4 = .ok (.ifCond .eq 12, 3) := by decide +kernel
theorem dX10_forget_7 : decode cX10_forget 7 = .ok (.iload_n 2, 1) := by decide +kernel
theorem dX10_forget_8 : decode cX10_forget 8 = .ok (.ifCond .lt 8, 3) := by decide +kernel
theorem dX10_forget_11 : decode cX10_forget 11 = .ok (.iload_n 2, 1) := by decide +kernel
theorem dX10_forget_12 : decode cX10_forget 12 = .ok (.iconst 1, 1) := by decide +kernel
theorem dX10_forget_13 : decode cX10_forget 13 = .ok (.if_icmp .le 5, 3) := by decide +kernel
theorem dX10_forget_16 : decode cX10_forget 16 = .ok (.iconst (-1), 1) := by decide +kernel
theorem dX10_forget_17 : decode cX10_forget 17 = .ok (.ireturn, 1) := by decide +kernel
theorem dX10_forget_18 : decode cX10_forget 18 = .ok (.iload_n 2, 1) := by decide +kernel
theorem dX10_forget_19 : decode cX10_forget 19 = .ok (.iconst 1, 1) := by decide +kernel
theorem dX10_forget_20 : decode cX10_forget 20 = .ok (.if_icmp .ne 26, 3) := by decide +kernel
theorem dX10_forget_23 : decode cX10_forget 23 = .ok (.aload_n 0, 1) := by decide +kernel
theorem dX10_forget_24 : decode cX10_forget 24 = .ok (.getfield 41, 3) := by decide +kernel
theorem dX10_forget_27 : decode cX10_forget 27 = .ok (.iload_n 1, 1) := by decide +kernel
theorem dX10_forget_28 : decode cX10_forget 28 = .ok (.aaload, 1) := by decide +kernel
theorem dX10_forget_29 : decode cX10_forget 29 = .ok (.getfield 164, 3) := by decide +kernel
theorem dX10_forget_32 : decode cX10_forget 32 = .ok (.istore_n 3, 1) := by decide +kernel
theorem dX10_forget_33 : decode cX10_forget 33 = .ok (.aload_n 0, 1) := by decide +kernel
theorem dX10_forget_34 : decode cX10_forget 34 = .ok (.getfield 41, 3) := by decide +kernel
theorem dX10_forget_37 : decode cX10_forget 37 = .ok (.iload_n 1, 1) := by decide +kernel
theorem dX10_forget_38 : decode cX10_forget 38 = .ok (.aaload, 1) := by decide +kernel
theorem dX10_forget_39 : decode cX10_forget 39 = .ok (.iconst 0, 1) := by decide +kernel
theorem dX10_forget_40 : decode cX10_forget 40 = .ok (.putfield 164, 3) := by decide +kernel
theorem dX10_forget_43 : decode cX10_forget 43 = .ok (.goto 41, 3) := by decide +kernel
theorem dX10_forget_46 : decode cX10_forget 46 = .ok (.aload_n 0, 1) := by decide +kernel
theorem dX10_forget_47 : decode cX10_forget 47 = .ok (.getfield 35, 3) := by decide +kernel
theorem dX10_forget_50 : decode cX10_forget 50 = .ok (.iload_n 1, 1) := by decide +kernel
theorem dX10_forget_51 : decode cX10_forget 51 = .ok (.aaload, 1) := by decide +kernel
theorem dX10_forget_52 : decode cX10_forget 52 = .ok (.getfield 260, 3) := by decide +kernel
theorem dX10_forget_55 : decode cX10_forget 55 = .ok (.ifCond .le 7, 3) := by decide +kernel
theorem dX10_forget_58 : decode cX10_forget 58 = .ok (.iconst 1, 1) := by decide +kernel
theorem dX10_forget_59 : decode cX10_forget 59 = .ok (.goto 4, 3) := by decide +kernel
theorem dX10_forget_62 : decode cX10_forget 62 = .ok (.iconst 0, 1) := by decide +kernel
theorem dX10_forget_63 : decode cX10_forget 63 = .ok (.istore_n 3, 1) := by decide +kernel
theorem dX10_forget_64 : decode cX10_forget 64 = .ok (.aload_n 0, 1) := by decide +kernel
theorem dX10_forget_65 : decode cX10_forget 65 = .ok (.getfield 35, 3) := by decide +kernel
theorem dX10_forget_68 : decode cX10_forget 68 = .ok (.iload_n 1, 1) := by decide +kernel
theorem dX10_forget_69 : decode cX10_forget 69 = .ok (.aaload, 1) := by decide +kernel
theorem dX10_forget_70 : decode cX10_forget 70 = .ok (.iconst 0, 1) := by decide +kernel
theorem dX10_forget_71 : decode cX10_forget 71 = .ok (.putfield 260, 3) := by decide +kernel
theorem dX10_forget_74 : decode cX10_forget 74 = .ok (.aload_n 0, 1) := by decide +kernel
theorem dX10_forget_75 : decode cX10_forget 75 = .ok (.getfield 35, 3) := by decide +kernel
theorem dX10_forget_78 : decode cX10_forget 78 = .ok (.iload_n 1, 1) := by decide +kernel
theorem dX10_forget_79 : decode cX10_forget 79 = .ok (.aaload, 1) := by decide +kernel
theorem dX10_forget_80 : decode cX10_forget 80 = .ok (.iconst 1, 1) := by decide +kernel
theorem dX10_forget_81 : decode cX10_forget 81 = .ok (.putfield 119, 3) := by decide +kernel
theorem dX10_forget_84 : decode cX10_forget 84 = .ok (.iload_n 3, 1) := by decide +kernel
theorem dX10_forget_85 : decode cX10_forget 85 = .ok (.ifCond .eq 7, 3) := by decide +kernel
theorem dX10_forget_88 : decode cX10_forget 88 = .ok (.iconst 1, 1) := by decide +kernel
theorem dX10_forget_89 : decode cX10_forget 89 = .ok (.goto 4, 3) := by decide +kernel
theorem dX10_forget_92 : decode cX10_forget 92 = .ok (.iconst 0, 1) := by decide +kernel
theorem dX10_forget_93 : decode cX10_forget 93 = .ok (.ireturn, 1) := by decide +kernel
set_option maxRecDepth 20000 in
theorem ggX10_spent_X10_isFlow : GoodIn wsX10_spent wsX10_isFlow := goodIn_r _ [12] (by decide +kernel) (by decide +kernel)
set_option maxRecDepth 20000 in
theorem gX10_spent_X10_isFlow : GoodIn wsX10_spent (va_wsS RX10 109 yX10_isFlow wsX10_isFlow) := goodIn_app (goodIn_of _ (by decide +kernel)) ggX10_spent_X10_isFlow
set_option maxRecDepth 20000 in
theorem ggX10_spent_X6_wholeBits : GoodIn wsX10_spent wsX6_wholeBits := goodIn_r _ [17, 18, 19, 20, 21, 22, 16, 23, 24, 25, 26, 27, 28, 50, 51, 52, 53, 54] (by decide +kernel) (by decide +kernel)
set_option maxRecDepth 20000 in
theorem gX10_spent_X6_wholeBits : GoodIn wsX10_spent (wsV RX10 267 RX6 yX6_wholeBits wsX6_wholeBits) := goodIn_app (goodIn_of _ (by decide +kernel)) ggX10_spent_X6_wholeBits
theorem dX10_spent_0 : decode cX10_spent 0 = .ok (.iload_n 1, 1) := by decide +kernel
theorem dX10_spent_1 : decode cX10_spent 1 = .ok (.invokestatic 109, 3) := by decide +kernel
theorem dX10_spent_4 : decode cX10_spent 4 = .ok (.ifCond .eq 21, 3) := by decide +kernel
theorem dX10_spent_7 : decode cX10_spent 7 = .ok (.iload_n 2, 1) := by decide +kernel
theorem dX10_spent_8 : decode cX10_spent 8 = .ok (.ifCond .lt 17, 3) := by decide +kernel
theorem dX10_spent_11 : decode cX10_spent 11 = .ok (.iload_n 2, 1) := by decide +kernel
theorem dX10_spent_12 : decode cX10_spent 12 = .ok (.iconst 5, 1) := by decide +kernel
theorem dX10_spent_13 : decode cX10_spent 13 = .ok (.if_icmp .gt 12, 3) := by decide +kernel
theorem dX10_spent_16 : decode cX10_spent 16 = .ok (.iload_n 3, 1) := by decide +kernel
theorem dX10_spent_17 : decode cX10_spent 17 = .ok (.ifCond .lt 8, 3) := by decide +kernel
theorem dX10_spent_20 : decode cX10_spent 20 = .ok (.iload_n 3, 1) := by decide +kernel
theorem dX10_spent_21 : decode cX10_spent 21 = .ok (.iconst 2, 1) := by decide +kernel
theorem dX10_spent_22 : decode cX10_spent 22 = .ok (.if_icmp .le 7, 3) := by decide +kernel
theorem dX10_spent_25 : decode cX10_spent 25 = .ok (.ldc2_w 99, 3) := by decide +kernel
theorem dX10_spent_28 : decode cX10_spent 28 = .ok (.lreturn, 1) := by decide +kernel
theorem dX10_spent_29 : decode cX10_spent 29 = .ok (.lconst 0, 1) := by decide +kernel
theorem dX10_spent_30 : decode cX10_spent 30 = .ok (.lstore 4, 2) := by decide +kernel
theorem dX10_spent_32 : decode cX10_spent 32 = .ok (.lconst 0, 1) := by decide +kernel
theorem dX10_spent_33 : decode cX10_spent 33 = .ok (.lstore 6, 2) := by decide +kernel
theorem dX10_spent_35 : decode cX10_spent 35 = .ok (.iconst 0, 1) := by decide +kernel
theorem dX10_spent_36 : decode cX10_spent 36 = .ok (.istore 8, 2) := by decide +kernel
theorem dX10_spent_38 : decode cX10_spent 38 = .ok (.iload 8, 2) := by decide +kernel
theorem dX10_spent_40 : decode cX10_spent 40 = .ok (.aload_n 0, 1) := by decide +kernel
theorem dX10_spent_41 : decode cX10_spent 41 = .ok (.getfield 88, 3) := by decide +kernel
theorem dX10_spent_44 : decode cX10_spent 44 = .ok (.if_icmp .ge 66, 3) := by decide +kernel
theorem dX10_spent_47 : decode cX10_spent 47 = .ok (.aload_n 0, 1) := by decide +kernel
theorem dX10_spent_48 : decode cX10_spent 48 = .ok (.getfield 49, 3) := by decide +kernel
theorem dX10_spent_51 : decode cX10_spent 51 = .ok (.iload 8, 2) := by decide +kernel
theorem dX10_spent_53 : decode cX10_spent 53 = .ok (.aaload, 1) := by decide +kernel
theorem dX10_spent_54 : decode cX10_spent 54 = .ok (.astore 9, 2) := by decide +kernel
theorem dX10_spent_56 : decode cX10_spent 56 = .ok (.aload 9, 2) := by decide +kernel
theorem dX10_spent_58 : decode cX10_spent 58 = .ok (.ifnull 46, 3) := by decide +kernel
theorem dX10_spent_61 : decode cX10_spent 61 = .ok (.aload 9, 2) := by decide +kernel
theorem dX10_spent_63 : decode cX10_spent 63 = .ok (.getfield 213, 3) := by decide +kernel
theorem dX10_spent_66 : decode cX10_spent 66 = .ok (.ifCond .ne 38, 3) := by decide +kernel
theorem dX10_spent_69 : decode cX10_spent 69 = .ok (.aload 9, 2) := by decide +kernel
theorem dX10_spent_71 : decode cX10_spent 71 = .ok (.getfield 200, 3) := by decide +kernel
theorem dX10_spent_74 : decode cX10_spent 74 = .ok (.iload_n 2, 1) := by decide +kernel
theorem dX10_spent_75 : decode cX10_spent 75 = .ok (.if_icmp .ne 29, 3) := by decide +kernel
theorem dX10_spent_78 : decode cX10_spent 78 = .ok (.aload 9, 2) := by decide +kernel
theorem dX10_spent_80 : decode cX10_spent 80 = .ok (.getfield 203, 3) := by decide +kernel
theorem dX10_spent_83 : decode cX10_spent 83 = .ok (.iload_n 1, 1) := by decide +kernel
theorem dX10_spent_84 : decode cX10_spent 84 = .ok (.if_icmp .ne 20, 3) := by decide +kernel
theorem dX10_spent_87 : decode cX10_spent 87 = .ok (.lload 4, 2) := by decide +kernel
theorem dX10_spent_89 : decode cX10_spent 89 = .ok (.lconst 1, 1) := by decide +kernel
theorem dX10_spent_90 : decode cX10_spent 90 = .ok (.ladd, 1) := by decide +kernel
theorem dX10_spent_91 : decode cX10_spent 91 = .ok (.lstore 4, 2) := by decide +kernel
theorem dX10_spent_93 : decode cX10_spent 93 = .ok (.lload 6, 2) := by decide +kernel
theorem dX10_spent_95 : decode cX10_spent 95 = .ok (.aload 9, 2) := by decide +kernel
theorem dX10_spent_97 : decode cX10_spent 97 = .ok (.getfield 207, 3) := by decide +kernel
theorem dX10_spent_100 : decode cX10_spent 100 = .ok (.i2l, 1) := by decide +kernel
theorem dX10_spent_101 : decode cX10_spent 101 = .ok (.ladd, 1) := by decide +kernel
theorem dX10_spent_102 : decode cX10_spent 102 = .ok (.lstore 6, 2) := by decide +kernel
theorem dX10_spent_104 : decode cX10_spent 104 = .ok (.iinc 8 1, 3) := by decide +kernel
theorem dX10_spent_107 : decode cX10_spent 107 = .ok (.goto (-69), 3) := by decide +kernel
theorem dX10_spent_110 : decode cX10_spent 110 = .ok (.iload_n 3, 1) := by decide +kernel
theorem dX10_spent_111 : decode cX10_spent 111 = .ok (.ifCond .ne 6, 3) := by decide +kernel
theorem dX10_spent_114 : decode cX10_spent 114 = .ok (.lload 4, 2) := by decide +kernel
theorem dX10_spent_116 : decode cX10_spent 116 = .ok (.lreturn, 1) := by decide +kernel
theorem dX10_spent_117 : decode cX10_spent 117 = .ok (.iload_n 3, 1) := by decide +kernel
theorem dX10_spent_118 : decode cX10_spent 118 = .ok (.iconst 1, 1) := by decide +kernel
theorem dX10_spent_119 : decode cX10_spent 119 = .ok (.if_icmp .ne 6, 3) := by decide +kernel
theorem dX10_spent_122 : decode cX10_spent 122 = .ok (.lload 6, 2) := by decide +kernel
theorem dX10_spent_124 : decode cX10_spent 124 = .ok (.lreturn, 1) := by decide +kernel
theorem dX10_spent_125 : decode cX10_spent 125 = .ok (.iload_n 2, 1) := by decide +kernel
theorem dX10_spent_126 : decode cX10_spent 126 = .ok (.iconst 2, 1) := by decide +kernel
theorem dX10_spent_127 : decode cX10_spent 127 = .ok (.if_icmp .le 7, 3) := by decide +kernel
theorem dX10_spent_130 : decode cX10_spent 130 = .ok (.lconst 0, 1) := by decide +kernel
theorem dX10_spent_131 : decode cX10_spent 131 = .ok (.goto 17, 3) := by decide +kernel
theorem dX10_spent_134 : decode cX10_spent 134 = .ok (.lload 4, 2) := by decide +kernel
theorem dX10_spent_136 : decode cX10_spent 136 = .ok (.aload_n 0, 1) := by decide +kernel
theorem dX10_spent_137 : decode cX10_spent 137 = .ok (.getfield 22, 3) := by decide +kernel
theorem dX10_spent_140 : decode cX10_spent 140 = .ok (.invokevirtual 267, 3) := by decide +kernel
theorem dX10_spent_143 : decode cX10_spent 143 = .ok (.i2l, 1) := by decide +kernel
theorem dX10_spent_144 : decode cX10_spent 144 = .ok (.lmul, 1) := by decide +kernel
theorem dX10_spent_145 : decode cX10_spent 145 = .ok (.lload 6, 2) := by decide +kernel
theorem dX10_spent_147 : decode cX10_spent 147 = .ok (.lsub, 1) := by decide +kernel
theorem dX10_spent_148 : decode cX10_spent 148 = .ok (.lreturn, 1) := by decide +kernel
set_option maxRecDepth 20000 in
theorem ggX10_keep_X10_isShelf : GoodIn wsX10_keep wsX10_isShelf := goodIn_r _ [6] (by decide +kernel) (by decide +kernel)
set_option maxRecDepth 20000 in
theorem gX10_keep_X10_isShelf : GoodIn wsX10_keep (va_wsS RX10 270 yX10_isShelf wsX10_isShelf) := goodIn_app (goodIn_of _ (by decide +kernel)) ggX10_keep_X10_isShelf
set_option maxRecDepth 20000 in
theorem ggX10_keep_X10_letterAt : GoodIn wsX10_keep wsX10_letterAt := goodIn_r _ [10, 11, 12, 77, 78, 79, 80, 81, 82, 83, 84, 85, 86, 87, 88] (by decide +kernel) (by decide +kernel)
set_option maxRecDepth 20000 in
theorem gX10_keep_X10_letterAt : GoodIn wsX10_keep (wsV RX10 223 RX10 yX10_letterAt wsX10_letterAt) := goodIn_app (goodIn_of _ (by decide +kernel)) ggX10_keep_X10_letterAt
set_option maxRecDepth 20000 in
theorem ggX10_keep_X10_keepLetter : GoodIn wsX10_keep wsX10_keepLetter := goodIn_r _ [15, 16, 17, 18, 19, 20, 21, 22, 23, 24, 25, 26, 27, 28, 29, 30, 31, 32, 33, 34, 35, 36, 37, 38, 39, 40, 41, 42, 43, 44, 45, 94, 95, 96, 97, 98, 99, 100, 101, 102, 89, 90, 91, 92, 93] (by decide +kernel) (by decide +kernel)
set_option maxRecDepth 20000 in
theorem gX10_keep_X10_keepLetter : GoodIn wsX10_keep (va_wsS RX10 276 yX10_keepLetter wsX10_keepLetter) := goodIn_app (goodIn_of _ (by decide +kernel)) ggX10_keep_X10_keepLetter
set_option maxRecDepth 20000 in
theorem ggX10_keep_X10_keepReferences : GoodIn wsX10_keep wsX10_keepReferences := goodIn_r _ [49, 50, 51, 17, 18, 52, 53, 54, 5, 55, 29, 30, 31, 22, 32, 24, 33, 34, 35, 36, 37, 38, 39, 40, 41, 42, 43, 44, 45, 56, 57, 58, 59, 60, 61, 62, 63, 64, 65, 66, 77, 78, 79, 80, 81, 82, 83, 84, 85, 86, 87, 88, 103, 104, 105, 106, 107, 108, 109, 89, 90, 91, 92, 93, 110, 111] (by decide +kernel) (by decide +kernel)
set_option maxRecDepth 20000 in
theorem gX10_keep_X10_keepReferences : GoodIn wsX10_keep (wsV RX10 280 RX10 yX10_keepReferences wsX10_keepReferences) := goodIn_app (goodIn_of _ (by decide +kernel)) ggX10_keep_X10_keepReferences
set_option maxRecDepth 20000 in
theorem ggX10_keep_X10_keepContext : GoodIn wsX10_keep wsX10_keepContext := goodIn_r _ [70, 71, 72, 73, 74, 17, 18, 75, 76, 53, 54, 5, 55, 29, 30, 31, 22, 32, 24, 33, 34, 35, 36, 37, 38, 39, 40, 41, 42, 43, 44, 45, 77, 78, 79, 80, 81, 82, 83, 84, 85, 86, 87, 88, 112, 113, 114, 115, 116, 117, 118, 119, 120, 89, 90, 91, 92, 93, 110, 111] (by decide +kernel) (by decide +kernel)
set_option maxRecDepth 20000 in
theorem gX10_keep_X10_keepContext : GoodIn wsX10_keep (wsV RX10 284 RX10 yX10_keepContext wsX10_keepContext) := goodIn_app (goodIn_of _ (by decide +kernel)) ggX10_keep_X10_keepContext
theorem dX10_keep_0 : decode cX10_keep 0 = .ok (.iload_n 1, 1) := by decide +kernel
theorem dX10_keep_1 : decode cX10_keep 1 = .ok (.invokestatic 270, 3) := by decide +kernel
theorem dX10_keep_4 : decode cX10_keep 4 = .ok (.ifCond .ne 5, 3) := by decide +kernel
theorem dX10_keep_7 : decode cX10_keep 7 = .ok (.iconst (-1), 1) := by decide +kernel
theorem dX10_keep_8 : decode cX10_keep 8 = .ok (.ireturn, 1) := by decide +kernel
theorem dX10_keep_9 : decode cX10_keep 9 = .ok (.aload_n 0, 1) := by decide +kernel
theorem dX10_keep_10 : decode cX10_keep 10 = .ok (.getfield 55, 3) := by decide +kernel
theorem dX10_keep_13 : decode cX10_keep 13 = .ok (.iload_n 1, 1) := by decide +kernel
theorem dX10_keep_14 : decode cX10_keep 14 = .ok (.aaload, 1) := by decide +kernel
theorem dX10_keep_15 : decode cX10_keep 15 = .ok (.astore 4, 2) := by decide +kernel
theorem dX10_keep_17 : decode cX10_keep 17 = .ok (.iload_n 2, 1) := by decide +kernel
theorem dX10_keep_18 : decode cX10_keep 18 = .ok (.tableswitch 70 0 4 #[34, 42, 42, 54, 62], 34) := by decide +kernel
theorem dX10_keep_52 : decode cX10_keep 52 = .ok (.aload 4, 2) := by decide +kernel
theorem dX10_keep_54 : decode cX10_keep 54 = .ok (.iconst 0, 1) := by decide +kernel
theorem dX10_keep_55 : decode cX10_keep 55 = .ok (.putfield 273, 3) := by decide +kernel
theorem dX10_keep_58 : decode cX10_keep 58 = .ok (.iconst 0, 1) := by decide +kernel
theorem dX10_keep_59 : decode cX10_keep 59 = .ok (.ireturn, 1) := by decide +kernel
theorem dX10_keep_60 : decode cX10_keep 60 = .ok (.aload 4, 2) := by decide +kernel
theorem dX10_keep_62 : decode cX10_keep 62 = .ok (.iload_n 2, 1) := by decide +kernel
theorem dX10_keep_63 : decode cX10_keep 63 = .ok (.aload_n 0, 1) := by decide +kernel
theorem dX10_keep_64 : decode cX10_keep 64 = .ok (.iload_n 3, 1) := by decide +kernel
theorem dX10_keep_65 : decode cX10_keep 65 = .ok (.invokevirtual 223, 3) := by decide +kernel
theorem dX10_keep_68 : decode cX10_keep 68 = .ok (.invokestatic 276, 3) := by decide +kernel
theorem dX10_keep_71 : decode cX10_keep 71 = .ok (.ireturn, 1) := by decide +kernel
theorem dX10_keep_72 : decode cX10_keep 72 = .ok (.aload_n 0, 1) := by decide +kernel
theorem dX10_keep_73 : decode cX10_keep 73 = .ok (.aload 4, 2) := by decide +kernel
theorem dX10_keep_75 : decode cX10_keep 75 = .ok (.iload_n 3, 1) := by decide +kernel
theorem dX10_keep_76 : decode cX10_keep 76 = .ok (.invokevirtual 280, 3) := by decide +kernel
theorem dX10_keep_79 : decode cX10_keep 79 = .ok (.ireturn, 1) := by decide +kernel
theorem dX10_keep_80 : decode cX10_keep 80 = .ok (.aload_n 0, 1) := by decide +kernel
theorem dX10_keep_81 : decode cX10_keep 81 = .ok (.aload 4, 2) := by decide +kernel
theorem dX10_keep_83 : decode cX10_keep 83 = .ok (.iload_n 3, 1) := by decide +kernel
theorem dX10_keep_84 : decode cX10_keep 84 = .ok (.invokevirtual 284, 3) := by decide +kernel
theorem dX10_keep_87 : decode cX10_keep 87 = .ok (.ireturn, 1) := by decide +kernel
theorem dX10_keep_88 : decode cX10_keep 88 = .ok (.iconst (-1), 1) := by decide +kernel
theorem dX10_keep_89 : decode cX10_keep 89 = .ok (.ireturn, 1) := by decide +kernel
set_option maxRecDepth 20000 in
theorem ggX10_make_X10_isShelf : GoodIn wsX10_make wsX10_isShelf := goodIn_r _ [5] (by decide +kernel) (by decide +kernel)
set_option maxRecDepth 20000 in
theorem gX10_make_X10_isShelf : GoodIn wsX10_make (va_wsS RX10 270 yX10_isShelf wsX10_isShelf) := goodIn_app (goodIn_of _ (by decide +kernel)) ggX10_make_X10_isShelf
set_option maxRecDepth 20000 in
theorem ggX10_make_X8_holdRow : GoodIn wsX10_make wsX8_holdRow := goodIn_r _ [10, 11, 12, 13, 14, 15, 16, 17, 18, 19, 20, 21, 22, 23, 24, 37, 38, 39, 40, 41] (by decide +kernel) (by decide +kernel)
set_option maxRecDepth 20000 in
theorem gX10_make_X8_holdRow : GoodIn wsX10_make (wsV RX10 287 RX8 yX8_holdRow wsX8_holdRow) := goodIn_app (goodIn_of _ (by decide +kernel)) ggX10_make_X8_holdRow
theorem dX10_make_0 : decode cX10_make 0 = .ok (.iload_n 1, 1) := by decide +kernel
theorem dX10_make_1 : decode cX10_make 1 = .ok (.invokestatic 270, 3) := by decide +kernel
theorem dX10_make_4 : decode cX10_make 4 = .ok (.ifCond .eq 19, 3) := by decide +kernel
theorem dX10_make_7 : decode cX10_make 7 = .ok (.iload_n 2, 1) := by decide +kernel
theorem dX10_make_8 : decode cX10_make 8 = .ok (.iconst 2, 1) := by decide +kernel
theorem dX10_make_9 : decode cX10_make 9 = .ok (.if_icmp .lt 14, 3) := by decide +kernel
theorem dX10_make_12 : decode cX10_make 12 = .ok (.iload_n 2, 1) := by decide +kernel
theorem dX10_make_13 : decode cX10_make 13 = .ok (.iconst 4, 1) := by decide +kernel
theorem dX10_make_14 : decode cX10_make 14 = .ok (.if_icmp .gt 9, 3) := by decide +kernel
theorem dX10_make_17 : decode cX10_make 17 = .ok (.iload_n 3, 1) := by decide +kernel
theorem dX10_make_18 : decode cX10_make 18 = .ok (.bipush 60, 2) := by decide +kernel
theorem dX10_make_20 : decode cX10_make 20 = .ok (.if_icmp .le 5, 3) := by decide +kernel
theorem dX10_make_23 : decode cX10_make 23 = .ok (.iconst (-1), 1) := by decide +kernel
theorem dX10_make_24 : decode cX10_make 24 = .ok (.ireturn, 1) := by decide +kernel
theorem dX10_make_25 : decode cX10_make 25 = .ok (.iload_n 3, 1) := by decide +kernel
theorem dX10_make_26 : decode cX10_make 26 = .ok (.ifCond .ge 6, 3) := by decide +kernel
theorem dX10_make_29 : decode cX10_make 29 = .ok (.bipush (-14), 2) := by decide +kernel
theorem dX10_make_31 : decode cX10_make 31 = .ok (.ireturn, 1) := by decide +kernel
theorem dX10_make_32 : decode cX10_make 32 = .ok (.aload_n 0, 1) := by decide +kernel
theorem dX10_make_33 : decode cX10_make 33 = .ok (.getfield 55, 3) := by decide +kernel
theorem dX10_make_36 : decode cX10_make 36 = .ok (.iload_n 1, 1) := by decide +kernel
theorem dX10_make_37 : decode cX10_make 37 = .ok (.aaload, 1) := by decide +kernel
theorem dX10_make_38 : decode cX10_make 38 = .ok (.iload_n 2, 1) := by decide +kernel
theorem dX10_make_39 : decode cX10_make 39 = .ok (.iload_n 3, 1) := by decide +kernel
theorem dX10_make_40 : decode cX10_make 40 = .ok (.invokevirtual 287, 3) := by decide +kernel
theorem dX10_make_43 : decode cX10_make 43 = .ok (.iconst 0, 1) := by decide +kernel
theorem dX10_make_44 : decode cX10_make 44 = .ok (.ireturn, 1) := by decide +kernel
set_option maxRecDepth 20000 in
theorem ggX10_put_X10_isShelf : GoodIn wsX10_put wsX10_isShelf := goodIn_r _ [11] (by decide +kernel) (by decide +kernel)
set_option maxRecDepth 20000 in
theorem gX10_put_X10_isShelf : GoodIn wsX10_put (va_wsS RX10 270 yX10_isShelf wsX10_isShelf) := goodIn_app (goodIn_of _ (by decide +kernel)) ggX10_put_X10_isShelf
set_option maxRecDepth 20000 in
theorem ggX10_put_X8_hasPlaces : GoodIn wsX10_put wsX8_hasPlaces := goodIn_r _ [16, 17, 30, 31, 32, 33, 34] (by decide +kernel) (by decide +kernel)
set_option maxRecDepth 20000 in
theorem gX10_put_X8_hasPlaces : GoodIn wsX10_put (wsV RX10 295 RX8 yX8_hasPlaces wsX8_hasPlaces) := goodIn_app (goodIn_of _ (by decide +kernel)) ggX10_put_X8_hasPlaces
theorem dX10_put_0 : decode cX10_put 0 = .ok (.iload_n 1, 1) := by decide +kernel
theorem dX10_put_1 : decode cX10_put 1 = .ok (.invokestatic 270, 3) := by decide +kernel
theorem dX10_put_4 : decode cX10_put 4 = .ok (.ifCond .eq 14, 3) := by decide +kernel
theorem dX10_put_7 : decode cX10_put 7 = .ok (.iload_n 3, 1) := by decide +kernel
theorem dX10_put_8 : decode cX10_put 8 = .ok (.ifCond .lt 10, 3) := by decide +kernel
theorem dX10_put_11 : decode cX10_put 11 = .ok (.iload_n 3, 1) := by decide +kernel
theorem dX10_put_12 : decode cX10_put 12 = .ok (.sipush 30000, 3) := by decide +kernel
theorem dX10_put_15 : decode cX10_put 15 = .ok (.if_icmp .le 7, 3) := by decide +kernel
theorem dX10_put_18 : decode cX10_put 18 = .ok (.ldc2_w 99, 3) := by decide +kernel
theorem dX10_put_21 : decode cX10_put 21 = .ok (.lreturn, 1) := by decide +kernel
theorem dX10_put_22 : decode cX10_put 22 = .ok (.aload_n 0, 1) := by decide +kernel
theorem dX10_put_23 : decode cX10_put 23 = .ok (.getfield 55, 3) := by decide +kernel
theorem dX10_put_26 : decode cX10_put 26 = .ok (.iload_n 1, 1) := by decide +kernel
theorem dX10_put_27 : decode cX10_put 27 = .ok (.aaload, 1) := by decide +kernel
theorem dX10_put_28 : decode cX10_put 28 = .ok (.astore 4, 2) := by decide +kernel
theorem dX10_put_30 : decode cX10_put 30 = .ok (.aload 4, 2) := by decide +kernel
theorem dX10_put_32 : decode cX10_put 32 = .ok (.getfield 273, 3) := by decide +kernel
theorem dX10_put_35 : decode cX10_put 35 = .ok (.ifCond .ne 7, 3) := by decide +kernel
theorem dX10_put_38 : decode cX10_put 38 = .ok (.ldc2_w 291, 3) := by decide +kernel
theorem dX10_put_41 : decode cX10_put 41 = .ok (.lreturn, 1) := by decide +kernel
theorem dX10_put_42 : decode cX10_put 42 = .ok (.aload 4, 2) := by decide +kernel
theorem dX10_put_44 : decode cX10_put 44 = .ok (.getfield 273, 3) := by decide +kernel
theorem dX10_put_47 : decode cX10_put 47 = .ok (.iconst 1, 1) := by decide +kernel
theorem dX10_put_48 : decode cX10_put 48 = .ok (.if_icmp .ne 7, 3) := by decide +kernel
theorem dX10_put_51 : decode cX10_put 51 = .ok (.ldc2_w 293, 3) := by decide +kernel
theorem dX10_put_54 : decode cX10_put 54 = .ok (.lreturn, 1) := by decide +kernel
theorem dX10_put_55 : decode cX10_put 55 = .ok (.aload 4, 2) := by decide +kernel
theorem dX10_put_57 : decode cX10_put 57 = .ok (.iload_n 2, 1) := by decide +kernel
theorem dX10_put_58 : decode cX10_put 58 = .ok (.iconst 1, 1) := by decide +kernel
theorem dX10_put_59 : decode cX10_put 59 = .ok (.invokevirtual 295, 3) := by decide +kernel
theorem dX10_put_62 : decode cX10_put 62 = .ok (.ifCond .ne 7, 3) := by decide +kernel
theorem dX10_put_65 : decode cX10_put 65 = .ok (.ldc2_w 299, 3) := by decide +kernel
theorem dX10_put_68 : decode cX10_put 68 = .ok (.lreturn, 1) := by decide +kernel
theorem dX10_put_69 : decode cX10_put 69 = .ok (.aload 4, 2) := by decide +kernel
theorem dX10_put_71 : decode cX10_put 71 = .ok (.getfield 301, 3) := by decide +kernel
theorem dX10_put_74 : decode cX10_put 74 = .ok (.iload_n 2, 1) := by decide +kernel
theorem dX10_put_75 : decode cX10_put 75 = .ok (.laload, 1) := by decide +kernel
theorem dX10_put_76 : decode cX10_put 76 = .ok (.lstore 5, 2) := by decide +kernel
theorem dX10_put_78 : decode cX10_put 78 = .ok (.aload 4, 2) := by decide +kernel
theorem dX10_put_80 : decode cX10_put 80 = .ok (.getfield 301, 3) := by decide +kernel
theorem dX10_put_83 : decode cX10_put 83 = .ok (.iload_n 2, 1) := by decide +kernel
theorem dX10_put_84 : decode cX10_put 84 = .ok (.iload_n 3, 1) := by decide +kernel
theorem dX10_put_85 : decode cX10_put 85 = .ok (.i2l, 1) := by decide +kernel
theorem dX10_put_86 : decode cX10_put 86 = .ok (.lastore, 1) := by decide +kernel
theorem dX10_put_87 : decode cX10_put 87 = .ok (.lload 5, 2) := by decide +kernel
theorem dX10_put_89 : decode cX10_put 89 = .ok (.lreturn, 1) := by decide +kernel
set_option maxRecDepth 20000 in
theorem ggX10_copy_X10_isShelf : GoodIn wsX10_copy wsX10_isShelf := goodIn_r _ [11] (by decide +kernel) (by decide +kernel)
set_option maxRecDepth 20000 in
theorem gX10_copy_X10_isShelf : GoodIn wsX10_copy (va_wsS RX10 270 yX10_isShelf wsX10_isShelf) := goodIn_app (goodIn_of _ (by decide +kernel)) ggX10_copy_X10_isShelf
set_option maxRecDepth 20000 in
theorem ggX10_copy_X8_hasPlaces : GoodIn wsX10_copy wsX8_hasPlaces := goodIn_r _ [16, 17, 30, 31, 32, 33, 34] (by decide +kernel) (by decide +kernel)
set_option maxRecDepth 20000 in
theorem gX10_copy_X8_hasPlaces : GoodIn wsX10_copy (wsV RX10 295 RX8 yX8_hasPlaces wsX8_hasPlaces) := goodIn_app (goodIn_of _ (by decide +kernel)) ggX10_copy_X8_hasPlaces
theorem dX10_copy_0 : decode cX10_copy 0 = .ok (.iload_n 1, 1) := by decide +kernel
theorem dX10_copy_1 : decode cX10_copy 1 = .ok (.invokestatic 270, 3) := by decide +kernel
theorem dX10_copy_4 : decode cX10_copy 4 = .ok (.ifCond .eq 10, 3) := by decide +kernel
theorem dX10_copy_7 : decode cX10_copy 7 = .ok (.iload_n 3, 1) := by decide +kernel
theorem dX10_copy_8 : decode cX10_copy 8 = .ok (.invokestatic 270, 3) := by decide +kernel
theorem dX10_copy_11 : decode cX10_copy 11 = .ok (.ifCond .ne 5, 3) := by decide +kernel
theorem dX10_copy_14 : decode cX10_copy 14 = .ok (.iconst (-1), 1) := by decide +kernel
theorem dX10_copy_15 : decode cX10_copy 15 = .ok (.ireturn, 1) := by decide +kernel
theorem dX10_copy_16 : decode cX10_copy 16 = .ok (.aload_n 0, 1) := by decide +kernel
theorem dX10_copy_17 : decode cX10_copy 17 = .ok (.getfield 55, 3) := by decide +kernel
theorem dX10_copy_20 : decode cX10_copy 20 = .ok (.iload_n 1, 1) := by decide +kernel
theorem dX10_copy_21 : decode cX10_copy 21 = .ok (.aaload, 1) := by decide +kernel
theorem dX10_copy_22 : decode cX10_copy 22 = .ok (.astore 6, 2) := by decide +kernel
theorem dX10_copy_24 : decode cX10_copy 24 = .ok (.aload_n 0, 1) := by decide +kernel
theorem dX10_copy_25 : decode cX10_copy 25 = .ok (.getfield 55, 3) := by decide +kernel
theorem dX10_copy_28 : decode cX10_copy 28 = .ok (.iload_n 3, 1) := by decide +kernel
theorem dX10_copy_29 : decode cX10_copy 29 = .ok (.aaload, 1) := by decide +kernel
theorem dX10_copy_30 : decode cX10_copy 30 = .ok (.astore 7, 2) := by decide +kernel
theorem dX10_copy_32 : decode cX10_copy 32 = .ok (.aload 6, 2) := by decide +kernel
theorem dX10_copy_34 : decode cX10_copy 34 = .ok (.getfield 273, 3) := by decide +kernel
theorem dX10_copy_37 : decode cX10_copy 37 = .ok (.ifCond .eq 11, 3) := by decide +kernel
theorem dX10_copy_40 : decode cX10_copy 40 = .ok (.aload 7, 2) := by decide +kernel
theorem dX10_copy_42 : decode cX10_copy 42 = .ok (.getfield 273, 3) := by decide +kernel
theorem dX10_copy_45 : decode cX10_copy 45 = .ok (.ifCond .ne 6, 3) := by decide +kernel
theorem dX10_copy_48 : decode cX10_copy 48 = .ok (.bipush (-11), 2) := by decide +kernel
theorem dX10_copy_50 : decode cX10_copy 50 = .ok (.ireturn, 1) := by decide +kernel
theorem dX10_copy_51 : decode cX10_copy 51 = .ok (.aload 6, 2) := by decide +kernel
theorem dX10_copy_53 : decode cX10_copy 53 = .ok (.getfield 273, 3) := by decide +kernel
theorem dX10_copy_56 : decode cX10_copy 56 = .ok (.iconst 1, 1) := by decide +kernel
theorem dX10_copy_57 : decode cX10_copy 57 = .ok (.if_icmp .eq 16, 3) := by decide +kernel
theorem dX10_copy_60 : decode cX10_copy 60 = .ok (.aload 6, 2) := by decide +kernel
theorem dX10_copy_62 : decode cX10_copy 62 = .ok (.getfield 273, 3) := by decide +kernel
theorem dX10_copy_65 : decode cX10_copy 65 = .ok (.aload 7, 2) := by decide +kernel
theorem dX10_copy_67 : decode cX10_copy 67 = .ok (.getfield 273, 3) := by decide +kernel
theorem dX10_copy_70 : decode cX10_copy 70 = .ok (.if_icmp .eq 6, 3) := by decide +kernel
theorem dX10_copy_73 : decode cX10_copy 73 = .ok (.bipush (-12), 2) := by decide +kernel
theorem dX10_copy_75 : decode cX10_copy 75 = .ok (.ireturn, 1) := by decide +kernel
theorem dX10_copy_76 : decode cX10_copy 76 = .ok (.aload 6, 2) := by decide +kernel
theorem dX10_copy_78 : decode cX10_copy 78 = .ok (.iload_n 2, 1) := by decide +kernel
theorem dX10_copy_79 : decode cX10_copy 79 = .ok (.iload 5, 2) := by decide +kernel
theorem dX10_copy_81 : decode cX10_copy 81 = .ok (.invokevirtual 295, 3) := by decide +kernel
theorem dX10_copy_84 : decode cX10_copy 84 = .ok (.ifCond .eq 15, 3) := by decide +kernel
theorem dX10_copy_87 : decode cX10_copy 87 = .ok (.aload 7, 2) := by decide +kernel
theorem dX10_copy_89 : decode cX10_copy 89 = .ok (.iload 4, 2) := by decide +kernel
theorem dX10_copy_91 : decode cX10_copy 91 = .ok (.iload 5, 2) := by decide +kernel
theorem dX10_copy_93 : decode cX10_copy 93 = .ok (.invokevirtual 295, 3) := by decide +kernel
theorem dX10_copy_96 : decode cX10_copy 96 = .ok (.ifCond .ne 6, 3) := by decide +kernel
theorem dX10_copy_99 : decode cX10_copy 99 = .ok (.bipush (-13), 2) := by decide +kernel
theorem dX10_copy_101 : decode cX10_copy 101 = .ok (.ireturn, 1) := by decide +kernel
theorem dX10_copy_102 : decode cX10_copy 102 = .ok (.aload 6, 2) := by decide +kernel
theorem dX10_copy_104 : decode cX10_copy 104 = .ok (.getfield 301, 3) := by decide +kernel
theorem dX10_copy_107 : decode cX10_copy 107 = .ok (.iload_n 2, 1) := by decide +kernel
theorem dX10_copy_108 : decode cX10_copy 108 = .ok (.aload 7, 2) := by decide +kernel
theorem dX10_copy_110 : decode cX10_copy 110 = .ok (.getfield 301, 3) := by decide +kernel
theorem dX10_copy_113 : decode cX10_copy 113 = .ok (.iload 4, 2) := by decide +kernel
theorem dX10_copy_115 : decode cX10_copy 115 = .ok (.iload 5, 2) := by decide +kernel
theorem dX10_copy_117 : decode cX10_copy 117 = .ok (.invokestatic 304, 3) := by decide +kernel
theorem dX10_copy_120 : decode cX10_copy 120 = .ok (.iload 5, 2) := by decide +kernel
theorem dX10_copy_122 : decode cX10_copy 122 = .ok (.ireturn, 1) := by decide +kernel
set_option maxRecDepth 20000 in
theorem ggX10_worth_X10_refusalOfLetterOn : GoodIn wsX10_worth wsX10_refusalOfLetterOn := goodIn_r _ [8, 1, 9, 10, 11, 7, 12, 13, 14, 15, 16, 17, 18, 19, 20, 21, 22, 23, 24, 25, 26, 27, 28, 29] (by decide +kernel) (by decide +kernel)
set_option maxRecDepth 20000 in
theorem gX10_worth_X10_refusalOfLetterOn : GoodIn wsX10_worth (wsV RX10 310 RX10 yX10_refusalOfLetterOn wsX10_refusalOfLetterOn) := goodIn_app (goodIn_of _ (by decide +kernel)) ggX10_worth_X10_refusalOfLetterOn
theorem dX10_worth_0 : decode cX10_worth 0 = .ok (.aload_n 0, 1) := by decide +kernel
theorem dX10_worth_1 : decode cX10_worth 1 = .ok (.iload_n 1, 1) := by decide +kernel
theorem dX10_worth_2 : decode cX10_worth 2 = .ok (.invokevirtual 310, 3) := by decide +kernel
theorem dX10_worth_5 : decode cX10_worth 5 = .ok (.istore_n 2, 1) := by decide +kernel
theorem dX10_worth_6 : decode cX10_worth 6 = .ok (.iload_n 2, 1) := by decide +kernel
theorem dX10_worth_7 : decode cX10_worth 7 = .ok (.ifCond .eq 5, 3) := by decide +kernel
theorem dX10_worth_10 : decode cX10_worth 10 = .ok (.iload_n 2, 1) := by decide +kernel
theorem dX10_worth_11 : decode cX10_worth 11 = .ok (.ireturn, 1) := by decide +kernel
theorem dX10_worth_12 : decode cX10_worth 12 = .ok (.aload_n 0, 1) := by decide +kernel
theorem dX10_worth_13 : decode cX10_worth 13 = .ok (.getfield 55, 3) := by decide +kernel
theorem dX10_worth_16 : decode cX10_worth 16 = .ok (.iload_n 1, 1) := by decide +kernel
theorem dX10_worth_17 : decode cX10_worth 17 = .ok (.aaload, 1) := by decide +kernel
theorem dX10_worth_18 : decode cX10_worth 18 = .ok (.getfield 314, 3) := by decide +kernel
theorem dX10_worth_21 : decode cX10_worth 21 = .ok (.istore_n 3, 1) := by decide +kernel
theorem dX10_worth_22 : decode cX10_worth 22 = .ok (.aload_n 0, 1) := by decide +kernel
theorem dX10_worth_23 : decode cX10_worth 23 = .ok (.getfield 55, 3) := by decide +kernel
theorem dX10_worth_26 : decode cX10_worth 26 = .ok (.iload_n 1, 1) := by decide +kernel
theorem dX10_worth_27 : decode cX10_worth 27 = .ok (.aaload, 1) := by decide +kernel
theorem dX10_worth_28 : decode cX10_worth 28 = .ok (.getfield 317, 3) := by decide +kernel
theorem dX10_worth_31 : decode cX10_worth 31 = .ok (.bipush 10, 2) := by decide +kernel
theorem dX10_worth_33 : decode cX10_worth 33 = .ok (.imul, 1) := by decide +kernel
theorem dX10_worth_34 : decode cX10_worth 34 = .ok (.iload_n 3, 1) := by decide +kernel
theorem dX10_worth_35 : decode cX10_worth 35 = .ok (.iadd, 1) := by decide +kernel
theorem dX10_worth_36 : decode cX10_worth 36 = .ok (.istore 4, 2) := by decide +kernel
theorem dX10_worth_38 : decode cX10_worth 38 = .ok (.iload_n 3, 1) := by decide +kernel
theorem dX10_worth_39 : decode cX10_worth 39 = .ok (.tableswitch 66 1 5 #[33, 38, 45, 50, 57], 33) := by decide +kernel
theorem dX10_worth_72 : decode cX10_worth 72 = .ok (.iload 4, 2) := by decide +kernel
theorem dX10_worth_74 : decode cX10_worth 74 = .ok (.iconst 3, 1) := by decide +kernel
theorem dX10_worth_75 : decode cX10_worth 75 = .ok (.iadd, 1) := by decide +kernel
theorem dX10_worth_76 : decode cX10_worth 76 = .ok (.ireturn, 1) := by decide +kernel
theorem dX10_worth_77 : decode cX10_worth 77 = .ok (.iload 4, 2) := by decide +kernel
theorem dX10_worth_79 : decode cX10_worth 79 = .ok (.iconst 3, 1) := by decide +kernel
theorem dX10_worth_80 : decode cX10_worth 80 = .ok (.iadd, 1) := by decide +kernel
theorem dX10_worth_81 : decode cX10_worth 81 = .ok (.iconst 2, 1) := by decide +kernel
theorem dX10_worth_82 : decode cX10_worth 82 = .ok (.imul, 1) := by decide +kernel
theorem dX10_worth_83 : decode cX10_worth 83 = .ok (.ireturn, 1) := by decide +kernel
theorem dX10_worth_84 : decode cX10_worth 84 = .ok (.iload 4, 2) := by decide +kernel
theorem dX10_worth_86 : decode cX10_worth 86 = .ok (.iconst 1, 1) := by decide +kernel
theorem dX10_worth_87 : decode cX10_worth 87 = .ok (.iadd, 1) := by decide +kernel
theorem dX10_worth_88 : decode cX10_worth 88 = .ok (.ireturn, 1) := by decide +kernel
theorem dX10_worth_89 : decode cX10_worth 89 = .ok (.iload 4, 2) := by decide +kernel
theorem dX10_worth_91 : decode cX10_worth 91 = .ok (.iconst 1, 1) := by decide +kernel
theorem dX10_worth_92 : decode cX10_worth 92 = .ok (.iadd, 1) := by decide +kernel
theorem dX10_worth_93 : decode cX10_worth 93 = .ok (.iconst 5, 1) := by decide +kernel
theorem dX10_worth_94 : decode cX10_worth 94 = .ok (.iadd, 1) := by decide +kernel
theorem dX10_worth_95 : decode cX10_worth 95 = .ok (.ireturn, 1) := by decide +kernel
theorem dX10_worth_96 : decode cX10_worth 96 = .ok (.iload 4, 2) := by decide +kernel
theorem dX10_worth_98 : decode cX10_worth 98 = .ok (.iconst 1, 1) := by decide +kernel
theorem dX10_worth_99 : decode cX10_worth 99 = .ok (.iadd, 1) := by decide +kernel
theorem dX10_worth_100 : decode cX10_worth 100 = .ok (.iconst 5, 1) := by decide +kernel
theorem dX10_worth_101 : decode cX10_worth 101 = .ok (.iadd, 1) := by decide +kernel
theorem dX10_worth_102 : decode cX10_worth 102 = .ok (.iconst 3, 1) := by decide +kernel
theorem dX10_worth_103 : decode cX10_worth 103 = .ok (.imul, 1) := by decide +kernel
theorem dX10_worth_104 : decode cX10_worth 104 = .ok (.ireturn, 1) := by decide +kernel
theorem dX10_worth_105 : decode cX10_worth 105 = .ok (.iload 4, 2) := by decide +kernel
theorem dX10_worth_107 : decode cX10_worth 107 = .ok (.ireturn, 1) := by decide +kernel
set_option maxRecDepth 20000 in
theorem ggX10_toss_X10_refusalOfLetterOn : GoodIn wsX10_toss wsX10_refusalOfLetterOn := goodIn_r _ [7, 1, 8, 9, 10, 6, 11, 12, 13, 14, 15, 16, 17, 18, 19, 20, 21, 22, 23, 24, 25, 26, 27, 28] (by decide +kernel) (by decide +kernel)
set_option maxRecDepth 20000 in
theorem gX10_toss_X10_refusalOfLetterOn : GoodIn wsX10_toss (wsV RX10 310 RX10 yX10_refusalOfLetterOn wsX10_refusalOfLetterOn) := goodIn_app (goodIn_of _ (by decide +kernel)) ggX10_toss_X10_refusalOfLetterOn
theorem dX10_toss_0 : decode cX10_toss 0 = .ok (.aload_n 0, 1) := by decide +kernel
theorem dX10_toss_1 : decode cX10_toss 1 = .ok (.iload_n 1, 1) := by decide +kernel
theorem dX10_toss_2 : decode cX10_toss 2 = .ok (.invokevirtual 310, 3) := by decide +kernel
theorem dX10_toss_5 : decode cX10_toss 5 = .ok (.istore_n 2, 1) := by decide +kernel
theorem dX10_toss_6 : decode cX10_toss 6 = .ok (.iload_n 2, 1) := by decide +kernel
theorem dX10_toss_7 : decode cX10_toss 7 = .ok (.ifCond .eq 5, 3) := by decide +kernel
theorem dX10_toss_10 : decode cX10_toss 10 = .ok (.iload_n 2, 1) := by decide +kernel
theorem dX10_toss_11 : decode cX10_toss 11 = .ok (.ireturn, 1) := by decide +kernel
theorem dX10_toss_12 : decode cX10_toss 12 = .ok (.aload_n 0, 1) := by decide +kernel
theorem dX10_toss_13 : decode cX10_toss 13 = .ok (.getfield 55, 3) := by decide +kernel
theorem dX10_toss_16 : decode cX10_toss 16 = .ok (.iload_n 1, 1) := by decide +kernel
theorem dX10_toss_17 : decode cX10_toss 17 = .ok (.aaload, 1) := by decide +kernel
theorem dX10_toss_18 : decode cX10_toss 18 = .ok (.getfield 314, 3) := by decide +kernel
theorem dX10_toss_21 : decode cX10_toss 21 = .ok (.istore_n 3, 1) := by decide +kernel
theorem dX10_toss_22 : decode cX10_toss 22 = .ok (.iload_n 3, 1) := by decide +kernel
theorem dX10_toss_23 : decode cX10_toss 23 = .ok (.ifCond .eq 8, 3) := by decide +kernel
theorem dX10_toss_26 : decode cX10_toss 26 = .ok (.iload_n 3, 1) := by decide +kernel
theorem dX10_toss_27 : decode cX10_toss 27 = .ok (.iconst 3, 1) := by decide +kernel
theorem dX10_toss_28 : decode cX10_toss 28 = .ok (.if_icmp .ne 8, 3) := by decide +kernel
theorem dX10_toss_31 : decode cX10_toss 31 = .ok (.bipush (-15), 2) := by decide +kernel
theorem dX10_toss_33 : decode cX10_toss 33 = .ok (.goto 4, 3) := by decide +kernel
theorem dX10_toss_36 : decode cX10_toss 36 = .ok (.iload_n 3, 1) := by decide +kernel
theorem dX10_toss_37 : decode cX10_toss 37 = .ok (.ireturn, 1) := by decide +kernel
theorem dX10_count_0 : decode cX10_count 0 = .ok (.iload_n 1, 1) := by decide +kernel
theorem dX10_count_1 : decode cX10_count 1 = .ok (.tableswitch 54 0 3 #[31, 39, 44, 49], 31) := by decide +kernel
theorem dX10_count_32 : decode cX10_count 32 = .ok (.aload_n 0, 1) := by decide +kernel
theorem dX10_count_33 : decode cX10_count 33 = .ok (.getfield 22, 3) := by decide +kernel
theorem dX10_count_36 : decode cX10_count 36 = .ok (.getfield 85, 3) := by decide +kernel
theorem dX10_count_39 : decode cX10_count 39 = .ok (.ireturn, 1) := by decide +kernel
theorem dX10_count_40 : decode cX10_count 40 = .ok (.aload_n 0, 1) := by decide +kernel
theorem dX10_count_41 : decode cX10_count 41 = .ok (.getfield 88, 3) := by decide +kernel
theorem dX10_count_44 : decode cX10_count 44 = .ok (.ireturn, 1) := by decide +kernel
theorem dX10_count_45 : decode cX10_count 45 = .ok (.aload_n 0, 1) := by decide +kernel
theorem dX10_count_46 : decode cX10_count 46 = .ok (.getfield 15, 3) := by decide +kernel
theorem dX10_count_49 : decode cX10_count 49 = .ok (.ireturn, 1) := by decide +kernel
theorem dX10_count_50 : decode cX10_count 50 = .ok (.aload_n 0, 1) := by decide +kernel
theorem dX10_count_51 : decode cX10_count 51 = .ok (.getfield 191, 3) := by decide +kernel
theorem dX10_count_54 : decode cX10_count 54 = .ok (.ireturn, 1) := by decide +kernel
theorem dX10_count_55 : decode cX10_count 55 = .ok (.iconst (-1), 1) := by decide +kernel
theorem dX10_count_56 : decode cX10_count 56 = .ok (.ireturn, 1) := by decide +kernel
theorem dX10_isFlow_0 : decode cX10_isFlow 0 = .ok (.iload_n 0, 1) := by decide +kernel
theorem dX10_isFlow_1 : decode cX10_isFlow 1 = .ok (.ifCond .lt 13, 3) := by decide +kernel
theorem dX10_isFlow_4 : decode cX10_isFlow 4 = .ok (.iload_n 0, 1) := by decide +kernel
theorem dX10_isFlow_5 : decode cX10_isFlow 5 = .ok (.bipush 8, 2) := by decide +kernel
theorem dX10_isFlow_7 : decode cX10_isFlow 7 = .ok (.if_icmp .ge 7, 3) := by decide +kernel
theorem dX10_isFlow_10 : decode cX10_isFlow 10 = .ok (.iconst 1, 1) := by decide +kernel
theorem dX10_isFlow_11 : decode cX10_isFlow 11 = .ok (.goto 4, 3) := by decide +kernel
theorem dX10_isFlow_14 : decode cX10_isFlow 14 = .ok (.iconst 0, 1) := by decide +kernel
theorem dX10_isFlow_15 : decode cX10_isFlow 15 = .ok (.ireturn, 1) := by decide +kernel
theorem dX10_isShelf_0 : decode cX10_isShelf 0 = .ok (.iload_n 0, 1) := by decide +kernel
theorem dX10_isShelf_1 : decode cX10_isShelf 1 = .ok (.ifCond .lt 13, 3) := by decide +kernel
theorem dX10_isShelf_4 : decode cX10_isShelf 4 = .ok (.iload_n 0, 1) := by decide +kernel
theorem dX10_isShelf_5 : decode cX10_isShelf 5 = .ok (.bipush 8, 2) := by decide +kernel
theorem dX10_isShelf_7 : decode cX10_isShelf 7 = .ok (.if_icmp .ge 7, 3) := by decide +kernel
theorem dX10_isShelf_10 : decode cX10_isShelf 10 = .ok (.iconst 1, 1) := by decide +kernel
theorem dX10_isShelf_11 : decode cX10_isShelf 11 = .ok (.goto 4, 3) := by decide +kernel
theorem dX10_isShelf_14 : decode cX10_isShelf 14 = .ok (.iconst 0, 1) := by decide +kernel
theorem dX10_isShelf_15 : decode cX10_isShelf 15 = .ok (.ireturn, 1) := by decide +kernel
theorem dX10_isLineFull_0 : decode cX10_isLineFull 0 = .ok (.aload_n 0, 1) := by decide +kernel
theorem dX10_isLineFull_1 : decode cX10_isLineFull 1 = .ok (.getfield 88, 3) := by decide +kernel
theorem dX10_isLineFull_4 : decode cX10_isLineFull 4 = .ok (.sipush 200, 3) := by decide +kernel
theorem dX10_isLineFull_7 : decode cX10_isLineFull 7 = .ok (.if_icmp .lt 7, 3) := by decide +kernel
theorem dX10_isLineFull_10 : decode cX10_isLineFull 10 = .ok (.iconst 1, 1) := by decide +kernel
theorem dX10_isLineFull_11 : decode cX10_isLineFull 11 = .ok (.goto 4, 3) := by decide +kernel
theorem dX10_isLineFull_14 : decode cX10_isLineFull 14 = .ok (.iconst 0, 1) := by decide +kernel
theorem dX10_isLineFull_15 : decode cX10_isLineFull 15 = .ok (.ireturn, 1) := by decide +kernel
theorem dX10_letterAt_0 : decode cX10_letterAt 0 = .ok (.iload_n 1, 1) := by decide +kernel
theorem dX10_letterAt_1 : decode cX10_letterAt 1 = .ok (.ifCond .lt 20, 3) := by decide +kernel
theorem dX10_letterAt_4 : decode cX10_letterAt 4 = .ok (.iload_n 1, 1) := by decide +kernel
theorem dX10_letterAt_5 : decode cX10_letterAt 5 = .ok (.aload_n 0, 1) := by decide +kernel
theorem dX10_letterAt_6 : decode cX10_letterAt 6 = .ok (.getfield 88, 3) := by decide +kernel
theorem dX10_letterAt_9 : decode cX10_letterAt 9 = .ok (.if_icmp .ge 12, 3) := by decide +kernel
theorem dX10_letterAt_12 : decode cX10_letterAt 12 = .ok (.aload_n 0, 1) := by decide +kernel
theorem dX10_letterAt_13 : decode cX10_letterAt 13 = .ok (.getfield 49, 3) := by decide +kernel
theorem dX10_letterAt_16 : decode cX10_letterAt 16 = .ok (.iload_n 1, 1) := by decide +kernel
theorem dX10_letterAt_17 : decode cX10_letterAt 17 = .ok (.aaload, 1) := by decide +kernel
theorem dX10_letterAt_18 : decode cX10_letterAt 18 = .ok (.goto 4, 3) := by decide +kernel
theorem dX10_letterAt_21 : decode cX10_letterAt 21 = .ok (.aconst_null, 1) := by decide +kernel
theorem dX10_letterAt_22 : decode cX10_letterAt 22 = .ok (.areturn, 1) := by decide +kernel
set_option maxRecDepth 20000 in
theorem ggX10_letterUnderWay_X10_letterAt : GoodIn wsX10_letterUnderWay wsX10_letterAt := goodIn_r _ [6, 7, 8, 18, 19, 20, 21, 22, 23, 24, 25, 26, 27, 28, 29] (by decide +kernel) (by decide +kernel)
set_option maxRecDepth 20000 in
theorem gX10_letterUnderWay_X10_letterAt : GoodIn wsX10_letterUnderWay (wsV RX10 223 RX10 yX10_letterAt wsX10_letterAt) := goodIn_app (goodIn_of _ (by decide +kernel)) ggX10_letterUnderWay_X10_letterAt
theorem dX10_letterUnderWay_0 : decode cX10_letterUnderWay 0 = .ok (.aload_n 0, 1) := by decide +kernel
theorem dX10_letterUnderWay_1 : decode cX10_letterUnderWay 1 = .ok (.iload_n 1, 1) := by decide +kernel
theorem dX10_letterUnderWay_2 : decode cX10_letterUnderWay 2 = .ok (.invokevirtual 223, 3) := by decide +kernel
theorem dX10_letterUnderWay_5 : decode cX10_letterUnderWay 5 = .ok (.astore_n 2, 1) := by decide +kernel
theorem dX10_letterUnderWay_6 : decode cX10_letterUnderWay 6 = .ok (.aload_n 2, 1) := by decide +kernel
theorem dX10_letterUnderWay_7 : decode cX10_letterUnderWay 7 = .ok (.ifnull 10, 3) := by decide +kernel
theorem dX10_letterUnderWay_10 : decode cX10_letterUnderWay 10 = .ok (.aload_n 2, 1) := by decide +kernel
theorem dX10_letterUnderWay_11 : decode cX10_letterUnderWay 11 = .ok (.getfield 188, 3) := by decide +kernel
theorem dX10_letterUnderWay_14 : decode cX10_letterUnderWay 14 = .ok (.ifCond .eq 7, 3) := by decide +kernel
theorem dX10_letterUnderWay_17 : decode cX10_letterUnderWay 17 = .ok (.aconst_null, 1) := by decide +kernel
theorem dX10_letterUnderWay_18 : decode cX10_letterUnderWay 18 = .ok (.goto 4, 3) := by decide +kernel
theorem dX10_letterUnderWay_21 : decode cX10_letterUnderWay 21 = .ok (.aload_n 2, 1) := by decide +kernel
theorem dX10_letterUnderWay_22 : decode cX10_letterUnderWay 22 = .ok (.areturn, 1) := by decide +kernel
set_option maxRecDepth 20000 in
theorem ggX10_addAnswer_X5_begin : GoodIn wsX10_addAnswer wsX5_begin := goodIn_r _ [6, 7, 8, 9, 10, 11, 12, 13, 14, 15, 5, 16, 17, 18, 19, 91, 92] (by decide +kernel) (by decide +kernel)
set_option maxRecDepth 20000 in
theorem gX10_addAnswer_X5_begin : GoodIn wsX10_addAnswer (wsV RX10 135 RX5 yX5_begin wsX5_begin) := goodIn_app (goodIn_of _ (by decide +kernel)) ggX10_addAnswer_X5_begin
set_option maxRecDepth 20000 in
theorem ggX10_addAnswer_X10_addWritten : GoodIn wsX10_addAnswer wsX10_addWritten := goodIn_r _ [23, 1, 24, 25, 26, 27, 28, 29, 30, 31, 18, 32, 33, 34, 35, 5, 36, 8, 7, 17, 19, 37, 38, 11, 39, 40, 41, 42, 43, 44, 45, 46, 47, 48, 49, 50, 51, 52, 53, 54, 55, 56, 57, 58, 59, 60, 61, 62, 63, 64, 65, 66, 67, 68, 69, 70, 71, 72, 73, 74, 75, 76, 77, 78, 79, 80, 81, 82, 83, 84, 85, 86, 87, 88, 89, 90, 93, 94, 95, 96, 97, 98, 99, 100, 101, 91, 92] (by decide +kernel) (by decide +kernel)
set_option maxRecDepth 20000 in
theorem gX10_addAnswer_X10_addWritten : GoodIn wsX10_addAnswer (wsV RX10 160 RX10 yX10_addWritten wsX10_addWritten) := goodIn_app (goodIn_of _ (by decide +kernel)) ggX10_addAnswer_X10_addWritten
theorem dX10_addAnswer_0 : decode cX10_addAnswer 0 = .ok (.aload_n 0, 1) := by decide +kernel
theorem dX10_addAnswer_1 : decode cX10_addAnswer 1 = .ok (.getfield 63, 3) := by decide +kernel
theorem dX10_addAnswer_4 : decode cX10_addAnswer 4 = .ok (.iload_n 1, 1) := by decide +kernel
theorem dX10_addAnswer_5 : decode cX10_addAnswer 5 = .ok (.iload_n 2, 1) := by decide +kernel
theorem dX10_addAnswer_6 : decode cX10_addAnswer 6 = .ok (.iload_n 3, 1) := by decide +kernel
theorem dX10_addAnswer_7 : decode cX10_addAnswer 7 = .ok (.invokevirtual 135, 3) := by decide +kernel
theorem dX10_addAnswer_10 : decode cX10_addAnswer 10 = .ok (.aload_n 0, 1) := by decide +kernel
theorem dX10_addAnswer_11 : decode cX10_addAnswer 11 = .ok (.iload_n 1, 1) := by decide +kernel
theorem dX10_addAnswer_12 : decode cX10_addAnswer 12 = .ok (.iload_n 2, 1) := by decide +kernel
theorem dX10_addAnswer_13 : decode cX10_addAnswer 13 = .ok (.iload_n 3, 1) := by decide +kernel
theorem dX10_addAnswer_14 : decode cX10_addAnswer 14 = .ok (.aconst_null, 1) := by decide +kernel
theorem dX10_addAnswer_15 : decode cX10_addAnswer 15 = .ok (.invokevirtual 160, 3) := by decide +kernel
theorem dX10_addAnswer_18 : decode cX10_addAnswer 18 = .ok (.ireturn, 1) := by decide +kernel
set_option maxRecDepth 20000 in
theorem ggX10_addWritten_X10_endsInCheck : GoodIn wsX10_addWritten wsX10_endsInCheck := goodIn_r _ [11] (by decide +kernel) (by decide +kernel)
set_option maxRecDepth 20000 in
theorem gX10_addWritten_X10_endsInCheck : GoodIn wsX10_addWritten (va_wsS RX10 320 yX10_endsInCheck wsX10_endsInCheck) := goodIn_app (goodIn_of _ (by decide +kernel)) ggX10_addWritten_X10_endsInCheck
set_option maxRecDepth 20000 in
theorem ggX10_addWritten_X5_finished : GoodIn wsX10_addWritten wsX5_finished := goodIn_r _ [16, 17, 18, 19, 10, 20, 21, 22, 23, 24, 25, 26, 27, 28, 29, 30, 31, 32, 33, 34, 35, 36, 37, 38, 39, 40, 41, 85, 86] (by decide +kernel) (by decide +kernel)
set_option maxRecDepth 20000 in
theorem gX10_addWritten_X5_finished : GoodIn wsX10_addWritten (wsV RX10 323 RX5 yX5_finished wsX5_finished) := goodIn_app (goodIn_of _ (by decide +kernel)) ggX10_addWritten_X5_finished
set_option maxRecDepth 20000 in
theorem ggX10_addWritten_X4_init : GoodIn wsX10_addWritten wsX4_init := goodIn_r _ [44, 45, 46, 47, 48, 49, 50, 51, 52, 53, 76, 77, 78, 79, 80, 81, 82, 83, 84] (by decide +kernel) (by decide +kernel)
set_option maxRecDepth 20000 in
theorem gX10_addWritten_X4_init : GoodIn wsX10_addWritten (wsX4_init) := ggX10_addWritten_X4_init
set_option maxRecDepth 20000 in
theorem ggX10_addWritten_X10_add : GoodIn wsX10_addWritten wsX10_add := goodIn_r _ [57, 58, 59, 60, 61, 62, 10, 63, 64, 65, 66, 67, 68, 69, 70, 71, 72, 73, 74, 75] (by decide +kernel) (by decide +kernel)
set_option maxRecDepth 20000 in
theorem gX10_addWritten_X10_add : GoodIn wsX10_addWritten (wsV RX10 216 RX10 yX10_add wsX10_add) := goodIn_app (goodIn_of _ (by decide +kernel)) ggX10_addWritten_X10_add
theorem dX10_addWritten_0 : decode cX10_addWritten 0 = .ok (.aload_n 0, 1) := by decide +kernel
theorem dX10_addWritten_1 : decode cX10_addWritten 1 = .ok (.getfield 63, 3) := by decide +kernel
theorem dX10_addWritten_4 : decode cX10_addWritten 4 = .ok (.iload_n 1, 1) := by decide +kernel
theorem dX10_addWritten_5 : decode cX10_addWritten 5 = .ok (.invokestatic 320, 3) := by decide +kernel
theorem dX10_addWritten_8 : decode cX10_addWritten 8 = .ok (.invokevirtual 323, 3) := by decide +kernel
theorem dX10_addWritten_11 : decode cX10_addWritten 11 = .ok (.astore 5, 2) := by decide +kernel
theorem dX10_addWritten_13 : decode cX10_addWritten 13 = .ok (.new 47, 3) := by decide +kernel
theorem dX10_addWritten_16 : decode cX10_addWritten 16 = .ok (.dup, 1) := by decide +kernel
theorem dX10_addWritten_17 : decode cX10_addWritten 17 = .ok (.iload_n 1, 1) := by decide +kernel
theorem dX10_addWritten_18 : decode cX10_addWritten 18 = .ok (.iload_n 2, 1) := by decide +kernel
theorem dX10_addWritten_19 : decode cX10_addWritten 19 = .ok (.iload_n 3, 1) := by decide +kernel
theorem dX10_addWritten_20 : decode cX10_addWritten 20 = .ok (.ldc_w 327, 3) := by decide +kernel
theorem dX10_addWritten_23 : decode cX10_addWritten 23 = .ok (.irem, 1) := by decide +kernel
theorem dX10_addWritten_24 : decode cX10_addWritten 24 = .ok (.aload 5, 2) := by decide +kernel
theorem dX10_addWritten_26 : decode cX10_addWritten 26 = .ok (.aload_n 0, 1) := by decide +kernel
theorem dX10_addWritten_27 : decode cX10_addWritten 27 = .ok (.getfield 63, 3) := by decide +kernel
theorem dX10_addWritten_30 : decode cX10_addWritten 30 = .ok (.getfield 328, 3) := by decide +kernel
theorem dX10_addWritten_33 : decode cX10_addWritten 33 = .ok (.invokespecial 210, 3) := by decide +kernel
theorem dX10_addWritten_36 : decode cX10_addWritten 36 = .ok (.astore 6, 2) := by decide +kernel
theorem dX10_addWritten_38 : decode cX10_addWritten 38 = .ok (.aload 6, 2) := by decide +kernel
theorem dX10_addWritten_40 : decode cX10_addWritten 40 = .ok (.aload 4, 2) := by decide +kernel
theorem dX10_addWritten_42 : decode cX10_addWritten 42 = .ok (.putfield 226, 3) := by decide +kernel
theorem dX10_addWritten_45 : decode cX10_addWritten 45 = .ok (.aload_n 0, 1) := by decide +kernel
theorem dX10_addWritten_46 : decode cX10_addWritten 46 = .ok (.aload 6, 2) := by decide +kernel
theorem dX10_addWritten_48 : decode cX10_addWritten 48 = .ok (.invokevirtual 216, 3) := by decide +kernel
theorem dX10_addWritten_51 : decode cX10_addWritten 51 = .ok (.ireturn, 1) := by decide +kernel
set_option maxRecDepth 20000 in
theorem ggX10_add_X10_isLineFull : GoodIn wsX10_add wsX10_isLineFull := goodIn_r _ [7, 2, 8, 9, 10, 11, 12, 13, 14, 15, 16, 17, 18, 19] (by decide +kernel) (by decide +kernel)
set_option maxRecDepth 20000 in
theorem gX10_add_X10_isLineFull : GoodIn wsX10_add (wsV RX10 123 RX10 yX10_isLineFull wsX10_isLineFull) := goodIn_app (goodIn_of _ (by decide +kernel)) ggX10_add_X10_isLineFull
theorem dX10_add_0 : decode cX10_add 0 = .ok (.aload_n 0, 1) := by decide +kernel
theorem dX10_add_1 : decode cX10_add 1 = .ok (.invokevirtual 123, 3) := by decide +kernel
theorem dX10_add_4 : decode cX10_add 4 = .ok (.ifCond .eq 6, 3) := by decide +kernel
theorem dX10_add_7 : decode cX10_add 7 = .ok (.bipush (-2), 2) := by decide +kernel
theorem dX10_add_9 : decode cX10_add 9 = .ok (.ireturn, 1) := by decide +kernel
theorem dX10_add_10 : decode cX10_add 10 = .ok (.aload_n 0, 1) := by decide +kernel
theorem dX10_add_11 : decode cX10_add 11 = .ok (.getfield 49, 3) := by decide +kernel
theorem dX10_add_14 : decode cX10_add 14 = .ok (.aload_n 0, 1) := by decide +kernel
theorem dX10_add_15 : decode cX10_add 15 = .ok (.getfield 88, 3) := by decide +kernel
theorem dX10_add_18 : decode cX10_add 18 = .ok (.aload_n 1, 1) := by decide +kernel
theorem dX10_add_19 : decode cX10_add 19 = .ok (.aastore, 1) := by decide +kernel
theorem dX10_add_20 : decode cX10_add 20 = .ok (.aload_n 0, 1) := by decide +kernel
theorem dX10_add_21 : decode cX10_add 21 = .ok (.dup, 1) := by decide +kernel
theorem dX10_add_22 : decode cX10_add 22 = .ok (.getfield 88, 3) := by decide +kernel
theorem dX10_add_25 : decode cX10_add 25 = .ok (.iconst 1, 1) := by decide +kernel
theorem dX10_add_26 : decode cX10_add 26 = .ok (.iadd, 1) := by decide +kernel
theorem dX10_add_27 : decode cX10_add 27 = .ok (.putfield 88, 3) := by decide +kernel
theorem dX10_add_30 : decode cX10_add 30 = .ok (.aload_n 0, 1) := by decide +kernel
theorem dX10_add_31 : decode cX10_add 31 = .ok (.getfield 88, 3) := by decide +kernel
theorem dX10_add_34 : decode cX10_add 34 = .ok (.iconst 1, 1) := by decide +kernel
theorem dX10_add_35 : decode cX10_add 35 = .ok (.isub, 1) := by decide +kernel
theorem dX10_add_36 : decode cX10_add 36 = .ok (.ireturn, 1) := by decide +kernel
set_option maxRecDepth 20000 in
theorem ggX10_outcomeOf_X0_parse : GoodIn wsX10_outcomeOf wsX0_parse := goodIn_r _ [13, 14, 15, 16, 17, 18, 19, 20, 21, 22, 23, 24, 25, 26, 12, 27, 28, 29, 30, 31, 32, 33, 34, 35, 36, 37, 38, 39, 40, 41, 42, 43, 44, 45, 46, 47, 48, 49, 50, 51, 52, 53, 54, 55, 56, 57, 58, 59, 60, 61, 62, 63, 185, 186, 187, 188, 189, 190, 191, 192, 193, 194, 195, 196, 197, 198, 199, 200, 201, 202, 203] (by decide +kernel) (by decide +kernel)
set_option maxRecDepth 20000 in
theorem gX10_outcomeOf_X0_parse : GoodIn wsX10_outcomeOf (wsV RX10 329 RX0 yX0_parse wsX0_parse) := goodIn_app (goodIn_of _ (by decide +kernel)) ggX10_outcomeOf_X0_parse
set_option maxRecDepth 20000 in
theorem ggX10_outcomeOf_X10_isFlow : GoodIn wsX10_outcomeOf wsX10_isFlow := goodIn_r _ [66] (by decide +kernel) (by decide +kernel)
set_option maxRecDepth 20000 in
theorem gX10_outcomeOf_X10_isFlow : GoodIn wsX10_outcomeOf (va_wsS RX10 109 yX10_isFlow wsX10_isFlow) := goodIn_app (goodIn_of _ (by decide +kernel)) ggX10_outcomeOf_X10_isFlow
set_option maxRecDepth 20000 in
theorem ggX10_outcomeOf_X9_heed : GoodIn wsX10_outcomeOf wsX9_heed := goodIn_r _ [71, 72, 73, 74, 75, 76, 77, 78, 70, 79, 80, 81, 82, 83, 84, 85, 86, 87, 88, 89, 204, 205, 206, 207, 208, 209, 210, 197, 198] (by decide +kernel) (by decide +kernel)
set_option maxRecDepth 20000 in
theorem gX10_outcomeOf_X9_heed : GoodIn wsX10_outcomeOf (wsV RX10 336 RX9 yX9_heed wsX9_heed) := goodIn_app (goodIn_of _ (by decide +kernel)) ggX10_outcomeOf_X9_heed
set_option maxRecDepth 20000 in
theorem ggX10_outcomeOf_X10_open : GoodIn wsX10_outcomeOf wsX10_open := goodIn_r _ [93, 1, 4, 94, 95, 96, 6, 7, 97, 98, 2, 99, 100, 101, 102, 103, 12, 104, 22, 41, 39, 105, 106, 19, 40, 107, 108, 109, 110, 45, 111, 112, 47, 113, 114, 115, 116, 117, 118, 119, 120, 121, 54, 122, 123, 124, 125, 126, 127, 128, 129, 130, 131, 52, 132, 133, 134, 135, 136, 137, 138, 139, 140, 141, 142, 143, 144, 145, 146, 147, 148, 149, 150, 151, 152, 153, 154, 155, 156, 157, 158, 159, 160, 161, 162, 163, 164, 165, 166, 167, 168, 169, 170, 171, 172, 173, 174, 175, 176, 177, 178, 179, 180, 181, 182, 183, 184, 185, 186, 187, 188, 189, 190, 191, 192, 193, 194, 195, 196, 211, 212, 213, 214, 197, 198, 199, 200, 201, 202, 203, 215, 216, 217, 218, 219] (by decide +kernel) (by decide +kernel)
set_option maxRecDepth 20000 in
theorem gX10_outcomeOf_X10_open : GoodIn wsX10_outcomeOf (wsV RX10 339 RX10 yX10_open wsX10_open) := goodIn_app (goodIn_of _ (by decide +kernel)) ggX10_outcomeOf_X10_open
theorem dX10_outcomeOf_0 : decode cX10_outcomeOf 0 = .ok (.aload_n 0, 1) := by decide +kernel
theorem dX10_outcomeOf_1 : decode cX10_outcomeOf 1 = .ok (.getfield 70, 3) := by decide +kernel
theorem dX10_outcomeOf_4 : decode cX10_outcomeOf 4 = .ok (.aload_n 0, 1) := by decide +kernel
theorem dX10_outcomeOf_5 : decode cX10_outcomeOf 5 = .ok (.getfield 22, 3) := by decide +kernel
theorem dX10_outcomeOf_8 : decode cX10_outcomeOf 8 = .ok (.aload_n 1, 1) := by decide +kernel
theorem dX10_outcomeOf_9 : decode cX10_outcomeOf 9 = .ok (.invokevirtual 329, 3) := by decide +kernel
theorem dX10_outcomeOf_12 : decode cX10_outcomeOf 12 = .ok (.ifCond .eq 16, 3) := by decide +kernel
theorem dX10_outcomeOf_15 : decode cX10_outcomeOf 15 = .ok (.aload_n 0, 1) := by decide +kernel
theorem dX10_outcomeOf_16 : decode cX10_outcomeOf 16 = .ok (.getfield 70, 3) := by decide +kernel
theorem dX10_outcomeOf_19 : decode cX10_outcomeOf 19 = .ok (.getfield 333, 3) := by decide +kernel
theorem dX10_outcomeOf_22 : decode cX10_outcomeOf 22 = .ok (.invokestatic 109, 3) := by decide +kernel
theorem dX10_outcomeOf_25 : decode cX10_outcomeOf 25 = .ok (.ifCond .ne 5, 3) := by decide +kernel
theorem dX10_outcomeOf_28 : decode cX10_outcomeOf 28 = .ok (.iconst 5, 1) := by decide +kernel
theorem dX10_outcomeOf_29 : decode cX10_outcomeOf 29 = .ok (.ireturn, 1) := by decide +kernel
theorem dX10_outcomeOf_30 : decode cX10_outcomeOf 30 = .ok (.aload_n 0, 1) := by decide +kernel
theorem dX10_outcomeOf_31 : decode cX10_outcomeOf 31 = .ok (.getfield 70, 3) := by decide +kernel
theorem dX10_outcomeOf_34 : decode cX10_outcomeOf 34 = .ok (.getfield 334, 3) := by decide +kernel
theorem dX10_outcomeOf_37 : decode cX10_outcomeOf 37 = .ok (.iconst 2, 1) := by decide +kernel
theorem dX10_outcomeOf_38 : decode cX10_outcomeOf 38 = .ok (.if_icmp .le 36, 3) := by decide +kernel
theorem dX10_outcomeOf_41 : decode cX10_outcomeOf 41 = .ok (.aload_n 0, 1) := by decide +kernel
theorem dX10_outcomeOf_42 : decode cX10_outcomeOf 42 = .ok (.getfield 35, 3) := by decide +kernel
theorem dX10_outcomeOf_45 : decode cX10_outcomeOf 45 = .ok (.aload_n 0, 1) := by decide +kernel
theorem dX10_outcomeOf_46 : decode cX10_outcomeOf 46 = .ok (.getfield 70, 3) := by decide +kernel
theorem dX10_outcomeOf_49 : decode cX10_outcomeOf 49 = .ok (.getfield 333, 3) := by decide +kernel
theorem dX10_outcomeOf_52 : decode cX10_outcomeOf 52 = .ok (.aaload, 1) := by decide +kernel
theorem dX10_outcomeOf_53 : decode cX10_outcomeOf 53 = .ok (.aload_n 0, 1) := by decide +kernel
theorem dX10_outcomeOf_54 : decode cX10_outcomeOf 54 = .ok (.getfield 70, 3) := by decide +kernel
theorem dX10_outcomeOf_57 : decode cX10_outcomeOf 57 = .ok (.getfield 334, 3) := by decide +kernel
theorem dX10_outcomeOf_60 : decode cX10_outcomeOf 60 = .ok (.aload_n 0, 1) := by decide +kernel
theorem dX10_outcomeOf_61 : decode cX10_outcomeOf 61 = .ok (.getfield 70, 3) := by decide +kernel
theorem dX10_outcomeOf_64 : decode cX10_outcomeOf 64 = .ok (.getfield 335, 3) := by decide +kernel
theorem dX10_outcomeOf_67 : decode cX10_outcomeOf 67 = .ok (.getfield 130, 3) := by decide +kernel
theorem dX10_outcomeOf_70 : decode cX10_outcomeOf 70 = .ok (.invokevirtual 336, 3) := by decide +kernel
theorem dX10_outcomeOf_73 : decode cX10_outcomeOf 73 = .ok (.ireturn, 1) := by decide +kernel
theorem dX10_outcomeOf_74 : decode cX10_outcomeOf 74 = .ok (.aload_n 0, 1) := by decide +kernel
theorem dX10_outcomeOf_75 : decode cX10_outcomeOf 75 = .ok (.aload_n 0, 1) := by decide +kernel
theorem dX10_outcomeOf_76 : decode cX10_outcomeOf 76 = .ok (.getfield 41, 3) := by decide +kernel
theorem dX10_outcomeOf_79 : decode cX10_outcomeOf 79 = .ok (.aload_n 0, 1) := by decide +kernel
theorem dX10_outcomeOf_80 : decode cX10_outcomeOf 80 = .ok (.getfield 70, 3) := by decide +kernel
theorem dX10_outcomeOf_83 : decode cX10_outcomeOf 83 = .ok (.getfield 333, 3) := by decide +kernel
theorem dX10_outcomeOf_86 : decode cX10_outcomeOf 86 = .ok (.aaload, 1) := by decide +kernel
theorem dX10_outcomeOf_87 : decode cX10_outcomeOf 87 = .ok (.invokevirtual 339, 3) := by decide +kernel
theorem dX10_outcomeOf_90 : decode cX10_outcomeOf 90 = .ok (.ireturn, 1) := by decide +kernel
set_option maxRecDepth 20000 in
theorem ggX10_open_X0_rebuild : GoodIn wsX10_open wsX0_rebuild := goodIn_r _ [17, 18, 19, 20, 21, 22, 23, 24, 25, 26, 27, 28, 29, 30, 31, 32, 33, 34, 35, 36, 37, 38, 39, 40, 41, 42, 43, 44, 45, 46, 47, 125, 126, 127, 128, 129, 107, 108, 109, 110, 111, 112, 113, 114, 115, 116, 117, 118, 119, 120, 121, 122, 123, 124] (by decide +kernel) (by decide +kernel)
set_option maxRecDepth 20000 in
theorem gX10_open_X0_rebuild : GoodIn wsX10_open (wsV RX10 344 RX0 yX0_rebuild wsX0_rebuild) := goodIn_app (goodIn_of _ (by decide +kernel)) ggX10_open_X0_rebuild
set_option maxRecDepth 20000 in
theorem ggX10_open_X6_sumOf : GoodIn wsX10_open wsX6_sumOf := goodIn_r _ [51, 52, 53, 54, 33, 41, 42, 43, 125, 126, 127, 128, 129, 123, 124] (by decide +kernel) (by decide +kernel)
set_option maxRecDepth 20000 in
theorem gX10_open_X6_sumOf : GoodIn wsX10_open (wsV RX10 348 RX6 yX6_sumOf wsX6_sumOf) := goodIn_app (goodIn_of _ (by decide +kernel)) ggX10_open_X6_sumOf
set_option maxRecDepth 20000 in
theorem ggX10_open_X2_accept : GoodIn wsX10_open wsX2_accept := goodIn_r _ [59, 60, 61, 62, 63, 64, 65, 66, 67, 68, 69, 70, 71, 72, 73, 74, 75, 76, 77, 78, 79, 130, 131, 132, 133, 134, 107, 108, 109, 110, 111, 112, 113, 114, 115, 116, 117, 118, 123, 124] (by decide +kernel) (by decide +kernel)
set_option maxRecDepth 20000 in
theorem gX10_open_X2_accept : GoodIn wsX10_open (wsV RX10 355 RX2 yX2_accept wsX2_accept) := goodIn_app (goodIn_of _ (by decide +kernel)) ggX10_open_X2_accept
set_option maxRecDepth 20000 in
theorem ggX10_open_X1_accept : GoodIn wsX10_open wsX1_accept := goodIn_r _ [84, 85, 86, 87, 88, 89, 90, 91, 92, 93, 65, 66, 67, 94, 73, 74, 75, 76, 77, 78, 79, 119, 120, 121, 122, 107, 108, 109, 110, 111, 112, 113, 114, 115, 116, 117, 118, 123, 124] (by decide +kernel) (by decide +kernel)
set_option maxRecDepth 20000 in
theorem gX10_open_X1_accept : GoodIn wsX10_open (wsV RX10 359 RX1 yX1_accept wsX1_accept) := goodIn_app (goodIn_of _ (by decide +kernel)) ggX10_open_X1_accept
theorem dX10_open_0 : decode cX10_open 0 = .ok (.aload_n 0, 1) := by decide +kernel
theorem dX10_open_1 : decode cX10_open 1 = .ok (.getfield 70, 3) := by decide +kernel
theorem dX10_open_4 : decode cX10_open 4 = .ok (.getfield 334, 3) := by decide +kernel
theorem dX10_open_7 : decode cX10_open 7 = .ok (.ifCond .ne 7, 3) := by decide +kernel
theorem dX10_open_10 : decode cX10_open 10 = .ok (.iconst 1, 1) := by decide +kernel
theorem dX10_open_11 : decode cX10_open 11 = .ok (.goto 4, 3) := by decide +kernel
theorem dX10_open_14 : decode cX10_open 14 = .ok (.iconst 0, 1) := by decide +kernel
theorem dX10_open_15 : decode cX10_open 15 = .ok (.istore_n 2, 1) := by decide +kernel
theorem dX10_open_16 : decode cX10_open 16 = .ok (.iload_n 2, 1) := by decide +kernel
theorem dX10_open_17 : decode cX10_open 17 = .ok (.ifCond .ne 26, 3) := by decide +kernel
theorem dX10_open_20 : decode cX10_open 20 = .ok (.aload_n 1, 1) := by decide +kernel
theorem dX10_open_21 : decode cX10_open 21 = .ok (.getfield 164, 3) := by decide +kernel
theorem dX10_open_24 : decode cX10_open 24 = .ok (.ifCond .eq 17, 3) := by decide +kernel
theorem dX10_open_27 : decode cX10_open 27 = .ok (.aload_n 1, 1) := by decide +kernel
theorem dX10_open_28 : decode cX10_open 28 = .ok (.getfield 255, 3) := by decide +kernel
theorem dX10_open_31 : decode cX10_open 31 = .ok (.aload_n 0, 1) := by decide +kernel
theorem dX10_open_32 : decode cX10_open 32 = .ok (.getfield 70, 3) := by decide +kernel
theorem dX10_open_35 : decode cX10_open 35 = .ok (.getfield 343, 3) := by decide +kernel
theorem dX10_open_38 : decode cX10_open 38 = .ok (.if_icmp .eq 5, 3) := by decide +kernel
theorem dX10_open_41 : decode cX10_open 41 = .ok (.iconst 3, 1) := by decide +kernel
theorem dX10_open_42 : decode cX10_open 42 = .ok (.ireturn, 1) := by decide +kernel
theorem dX10_open_43 : decode cX10_open 43 = .ok (.aload_n 0, 1) := by decide +kernel
theorem dX10_open_44 : decode cX10_open 44 = .ok (.getfield 70, 3) := by decide +kernel
theorem dX10_open_47 : decode cX10_open 47 = .ok (.getfield 335, 3) := by decide +kernel
theorem dX10_open_50 : decode cX10_open 50 = .ok (.getfield 130, 3) := by decide +kernel
theorem dX10_open_53 : decode cX10_open 53 = .ok (.aload_n 1, 1) := by decide +kernel
theorem dX10_open_54 : decode cX10_open 54 = .ok (.getfield 167, 3) := by decide +kernel
theorem dX10_open_57 : decode cX10_open 57 = .ok (.getfield 130, 3) := by decide +kernel
theorem dX10_open_60 : decode cX10_open 60 = .ok (.isub, 1) := by decide +kernel
theorem dX10_open_61 : decode cX10_open 61 = .ok (.istore_n 3, 1) := by decide +kernel
theorem dX10_open_62 : decode cX10_open 62 = .ok (.aload_n 1, 1) := by decide +kernel
theorem dX10_open_63 : decode cX10_open 63 = .ok (.getfield 164, 3) := by decide +kernel
theorem dX10_open_66 : decode cX10_open 66 = .ok (.ifCond .eq 9, 3) := by decide +kernel
theorem dX10_open_69 : decode cX10_open 69 = .ok (.iload_n 3, 1) := by decide +kernel
theorem dX10_open_70 : decode cX10_open 70 = .ok (.ifCond .gt 5, 3) := by decide +kernel
theorem dX10_open_73 : decode cX10_open 73 = .ok (.iconst 1, 1) := by decide +kernel
theorem dX10_open_74 : decode cX10_open 74 = .ok (.ireturn, 1) := by decide +kernel
theorem dX10_open_75 : decode cX10_open 75 = .ok (.iload_n 2, 1) := by decide +kernel
theorem dX10_open_76 : decode cX10_open 76 = .ok (.ifCond .ne 13, 3) := by decide +kernel
theorem dX10_open_79 : decode cX10_open 79 = .ok (.iload_n 3, 1) := by decide +kernel
theorem dX10_open_80 : decode cX10_open 80 = .ok (.aload_n 0, 1) := by decide +kernel
theorem dX10_open_81 : decode cX10_open 81 = .ok (.getfield 15, 3) := by decide +kernel
theorem dX10_open_84 : decode cX10_open 84 = .ok (.if_icmp .le 5, 3) := by decide +kernel
theorem dX10_open_87 : decode cX10_open 87 = .ok (.iconst 2, 1) := by decide +kernel
theorem dX10_open_88 : decode cX10_open 88 = .ok (.ireturn, 1) := by decide +kernel
theorem dX10_open_89 : decode cX10_open 89 = .ok (.aload_n 0, 1) := by decide +kernel
theorem dX10_open_90 : decode cX10_open 90 = .ok (.getfield 70, 3) := by decide +kernel
theorem dX10_open_93 : decode cX10_open 93 = .ok (.aload_n 0, 1) := by decide +kernel
theorem dX10_open_94 : decode cX10_open 94 = .ok (.getfield 22, 3) := by decide +kernel
theorem dX10_open_97 : decode cX10_open 97 = .ok (.aload_n 1, 1) := by decide +kernel
theorem dX10_open_98 : decode cX10_open 98 = .ok (.invokevirtual 344, 3) := by decide +kernel
theorem dX10_open_101 : decode cX10_open 101 = .ok (.iload_n 2, 1) := by decide +kernel
theorem dX10_open_102 : decode cX10_open 102 = .ok (.ifCond .ne 29, 3) := by decide +kernel
theorem dX10_open_105 : decode cX10_open 105 = .ok (.aload_n 0, 1) := by decide +kernel
theorem dX10_open_106 : decode cX10_open 106 = .ok (.getfield 22, 3) := by decide +kernel
theorem dX10_open_109 : decode cX10_open 109 = .ok (.aload_n 0, 1) := by decide +kernel
theorem dX10_open_110 : decode cX10_open 110 = .ok (.getfield 70, 3) := by decide +kernel
theorem dX10_open_113 : decode cX10_open 113 = .ok (.getfield 335, 3) := by decide +kernel
theorem dX10_open_116 : decode cX10_open 116 = .ok (.invokevirtual 348, 3) := by decide +kernel
theorem dX10_open_119 : decode cX10_open 119 = .ok (.aload_n 0, 1) := by decide +kernel
theorem dX10_open_120 : decode cX10_open 120 = .ok (.getfield 70, 3) := by decide +kernel
theorem dX10_open_123 : decode cX10_open 123 = .ok (.getfield 352, 3) := by decide +kernel
theorem dX10_open_126 : decode cX10_open 126 = .ok (.if_icmp .eq 5, 3) := by decide +kernel
theorem dX10_open_129 : decode cX10_open 129 = .ok (.iconst 4, 1) := by decide +kernel
theorem dX10_open_130 : decode cX10_open 130 = .ok (.ireturn, 1) := by decide +kernel
theorem dX10_open_131 : decode cX10_open 131 = .ok (.aload_n 0, 1) := by decide +kernel
theorem dX10_open_132 : decode cX10_open 132 = .ok (.getfield 77, 3) := by decide +kernel
theorem dX10_open_135 : decode cX10_open 135 = .ok (.aload_n 0, 1) := by decide +kernel
theorem dX10_open_136 : decode cX10_open 136 = .ok (.getfield 70, 3) := by decide +kernel
theorem dX10_open_139 : decode cX10_open 139 = .ok (.iload_n 2, 1) := by decide +kernel
theorem dX10_open_140 : decode cX10_open 140 = .ok (.ifCond .eq 7, 3) := by decide +kernel
theorem dX10_open_143 : decode cX10_open 143 = .ok (.iconst (-1), 1) := by decide +kernel
theorem dX10_open_144 : decode cX10_open 144 = .ok (.goto 10, 3) := by decide +kernel
theorem dX10_open_147 : decode cX10_open 147 = .ok (.aload_n 1, 1) := by decide +kernel
theorem dX10_open_148 : decode cX10_open 148 = .ok (.getfield 167, 3) := by decide +kernel
theorem dX10_open_151 : decode cX10_open 151 = .ok (.getfield 130, 3) := by decide +kernel
theorem dX10_open_154 : decode cX10_open 154 = .ok (.invokevirtual 355, 3) := by decide +kernel
theorem dX10_open_157 : decode cX10_open 157 = .ok (.aload_n 1, 1) := by decide +kernel
theorem dX10_open_158 : decode cX10_open 158 = .ok (.aload_n 0, 1) := by decide +kernel
theorem dX10_open_159 : decode cX10_open 159 = .ok (.getfield 70, 3) := by decide +kernel
theorem dX10_open_162 : decode cX10_open 162 = .ok (.invokevirtual 359, 3) := by decide +kernel
theorem dX10_open_165 : decode cX10_open 165 = .ok (.iconst 0, 1) := by decide +kernel
theorem dX10_open_166 : decode cX10_open 166 = .ok (.ireturn, 1) := by decide +kernel
set_option maxRecDepth 20000 in
theorem ggX10_keepLetter_X8_holdLetter : GoodIn wsX10_keepLetter wsX8_holdLetter := goodIn_r _ [8, 9, 10, 11, 12, 13, 40, 41, 42, 43, 44, 31, 32, 33, 34, 35, 36, 37, 38, 39] (by decide +kernel) (by decide +kernel)
set_option maxRecDepth 20000 in
theorem gX10_keepLetter_X8_holdLetter : GoodIn wsX10_keepLetter (wsV RX10 362 RX8 yX8_holdLetter wsX8_holdLetter) := goodIn_app (goodIn_of _ (by decide +kernel)) ggX10_keepLetter_X8_holdLetter
set_option maxRecDepth 20000 in
theorem ggX10_keepLetter_X8_holdRow : GoodIn wsX10_keepLetter wsX8_holdRow := goodIn_r _ [17, 9, 18, 19, 20, 21, 22, 23, 24, 25, 26, 27, 28, 29, 30, 40, 41, 42, 43, 44] (by decide +kernel) (by decide +kernel)
set_option maxRecDepth 20000 in
theorem gX10_keepLetter_X8_holdRow : GoodIn wsX10_keepLetter (wsV RX10 287 RX8 yX8_holdRow wsX8_holdRow) := goodIn_app (goodIn_of _ (by decide +kernel)) ggX10_keepLetter_X8_holdRow
theorem dX10_keepLetter_0 : decode cX10_keepLetter 0 = .ok (.aload_n 2, 1) := by decide +kernel
theorem dX10_keepLetter_1 : decode cX10_keepLetter 1 = .ok (.ifnonnull 5, 3) := by decide +kernel
theorem dX10_keepLetter_4 : decode cX10_keepLetter 4 = .ok (.iconst (-1), 1) := by decide +kernel
theorem dX10_keepLetter_5 : decode cX10_keepLetter 5 = .ok (.ireturn, 1) := by decide +kernel
theorem dX10_keepLetter_6 : decode cX10_keepLetter 6 = .ok (.iload_n 1, 1) := by decide +kernel
theorem dX10_keepLetter_7 : decode cX10_keepLetter 7 = .ok (.iconst 1, 1) := by decide +kernel
theorem dX10_keepLetter_8 : decode cX10_keepLetter 8 = .ok (.if_icmp .ne 10, 3) := by decide +kernel
theorem dX10_keepLetter_11 : decode cX10_keepLetter 11 = .ok (.aload_n 0, 1) := by decide +kernel
theorem dX10_keepLetter_12 : decode cX10_keepLetter 12 = .ok (.aload_n 2, 1) := by decide +kernel
theorem dX10_keepLetter_13 : decode cX10_keepLetter 13 = .ok (.invokevirtual 362, 3) := by decide +kernel
theorem dX10_keepLetter_16 : decode cX10_keepLetter 16 = .ok (.iconst 0, 1) := by decide +kernel
theorem dX10_keepLetter_17 : decode cX10_keepLetter 17 = .ok (.ireturn, 1) := by decide +kernel
theorem dX10_keepLetter_18 : decode cX10_keepLetter 18 = .ok (.aload_n 0, 1) := by decide +kernel
theorem dX10_keepLetter_19 : decode cX10_keepLetter 19 = .ok (.iconst 2, 1) := by decide +kernel
theorem dX10_keepLetter_20 : decode cX10_keepLetter 20 = .ok (.aload_n 2, 1) := by decide +kernel
theorem dX10_keepLetter_21 : decode cX10_keepLetter 21 = .ok (.getfield 178, 3) := by decide +kernel
theorem dX10_keepLetter_24 : decode cX10_keepLetter 24 = .ok (.arraylength, 1) := by decide +kernel
theorem dX10_keepLetter_25 : decode cX10_keepLetter 25 = .ok (.invokevirtual 287, 3) := by decide +kernel
theorem dX10_keepLetter_28 : decode cX10_keepLetter 28 = .ok (.iconst 0, 1) := by decide +kernel
theorem dX10_keepLetter_29 : decode cX10_keepLetter 29 = .ok (.istore_n 3, 1) := by decide +kernel
theorem dX10_keepLetter_30 : decode cX10_keepLetter 30 = .ok (.iload_n 3, 1) := by decide +kernel
theorem dX10_keepLetter_31 : decode cX10_keepLetter 31 = .ok (.aload_n 0, 1) := by decide +kernel
theorem dX10_keepLetter_32 : decode cX10_keepLetter 32 = .ok (.getfield 366, 3) := by decide +kernel
theorem dX10_keepLetter_35 : decode cX10_keepLetter 35 = .ok (.if_icmp .ge 22, 3) := by decide +kernel
theorem dX10_keepLetter_38 : decode cX10_keepLetter 38 = .ok (.aload_n 0, 1) := by decide +kernel
theorem dX10_keepLetter_39 : decode cX10_keepLetter 39 = .ok (.getfield 301, 3) := by decide +kernel
theorem dX10_keepLetter_42 : decode cX10_keepLetter 42 = .ok (.iload_n 3, 1) := by decide +kernel
theorem dX10_keepLetter_43 : decode cX10_keepLetter 43 = .ok (.aload_n 2, 1) := by decide +kernel
theorem dX10_keepLetter_44 : decode cX10_keepLetter 44 = .ok (.getfield 178, 3) := by decide +kernel
theorem dX10_keepLetter_47 : decode cX10_keepLetter 47 = .ok (.iload_n 3, 1) := by decide +kernel
theorem dX10_keepLetter_48 : decode cX10_keepLetter 48 = .ok (.iaload, 1) := by decide +kernel
theorem dX10_keepLetter_49 : decode cX10_keepLetter 49 = .ok (.i2l, 1) := by decide +kernel
theorem dX10_keepLetter_50 : decode cX10_keepLetter 50 = .ok (.lastore, 1) := by decide +kernel
theorem dX10_keepLetter_51 : decode cX10_keepLetter 51 = .ok (.iinc 3 1, 3) := by decide +kernel
theorem dX10_keepLetter_54 : decode cX10_keepLetter 54 = .ok (.goto (-24), 3) := by decide +kernel
theorem dX10_keepLetter_57 : decode cX10_keepLetter 57 = .ok (.iconst 0, 1) := by decide +kernel
theorem dX10_keepLetter_58 : decode cX10_keepLetter 58 = .ok (.ireturn, 1) := by decide +kernel
set_option maxRecDepth 20000 in
theorem ggX10_keepReferences_X10_isFlow : GoodIn wsX10_keepReferences wsX10_isFlow := goodIn_r _ [9] (by decide +kernel) (by decide +kernel)
set_option maxRecDepth 20000 in
theorem gX10_keepReferences_X10_isFlow : GoodIn wsX10_keepReferences (va_wsS RX10 109 yX10_isFlow wsX10_isFlow) := goodIn_app (goodIn_of _ (by decide +kernel)) ggX10_keepReferences_X10_isFlow
set_option maxRecDepth 20000 in
theorem ggX10_keepReferences_X8_holdRow : GoodIn wsX10_keepReferences wsX8_holdRow := goodIn_r _ [14, 15, 16, 17, 18, 19, 20, 21, 22, 23, 24, 25, 26, 27, 28, 59, 60, 61, 62, 63] (by decide +kernel) (by decide +kernel)
set_option maxRecDepth 20000 in
theorem gX10_keepReferences_X8_holdRow : GoodIn wsX10_keepReferences (wsV RX10 287 RX8 yX8_holdRow wsX8_holdRow) := goodIn_app (goodIn_of _ (by decide +kernel)) ggX10_keepReferences_X8_holdRow
set_option maxRecDepth 20000 in
theorem ggX10_keepReferences_X9_reference : GoodIn wsX10_keepReferences wsX9_reference := goodIn_r _ [33, 34, 35, 36, 37, 38, 39, 52, 53, 54, 55, 56, 57, 58] (by decide +kernel) (by decide +kernel)
set_option maxRecDepth 20000 in
theorem gX10_keepReferences_X9_reference : GoodIn wsX10_keepReferences (wsV RX10 367 RX9 yX9_reference wsX9_reference) := goodIn_app (goodIn_of _ (by decide +kernel)) ggX10_keepReferences_X9_reference
theorem dX10_keepReferences_0 : decode cX10_keepReferences 0 = .ok (.iload_n 2, 1) := by decide +kernel
theorem dX10_keepReferences_1 : decode cX10_keepReferences 1 = .ok (.invokestatic 109, 3) := by decide +kernel
theorem dX10_keepReferences_4 : decode cX10_keepReferences 4 = .ok (.ifCond .ne 5, 3) := by decide +kernel
theorem dX10_keepReferences_7 : decode cX10_keepReferences 7 = .ok (.iconst (-1), 1) := by decide +kernel
theorem dX10_keepReferences_8 : decode cX10_keepReferences 8 = .ok (.ireturn, 1) := by decide +kernel
theorem dX10_keepReferences_9 : decode cX10_keepReferences 9 = .ok (.aload_n 0, 1) := by decide +kernel
theorem dX10_keepReferences_10 : decode cX10_keepReferences 10 = .ok (.getfield 35, 3) := by decide +kernel
theorem dX10_keepReferences_13 : decode cX10_keepReferences 13 = .ok (.iload_n 2, 1) := by decide +kernel
theorem dX10_keepReferences_14 : decode cX10_keepReferences 14 = .ok (.aaload, 1) := by decide +kernel
theorem dX10_keepReferences_15 : decode cX10_keepReferences 15 = .ok (.astore_n 3, 1) := by decide +kernel
theorem dX10_keepReferences_16 : decode cX10_keepReferences 16 = .ok (.aload_n 1, 1) := by decide +kernel
theorem dX10_keepReferences_17 : decode cX10_keepReferences 17 = .ok (.iconst 3, 1) := by decide +kernel
theorem dX10_keepReferences_18 : decode cX10_keepReferences 18 = .ok (.aload_n 3, 1) := by decide +kernel
theorem dX10_keepReferences_19 : decode cX10_keepReferences 19 = .ok (.getfield 260, 3) := by decide +kernel
theorem dX10_keepReferences_22 : decode cX10_keepReferences 22 = .ok (.invokevirtual 287, 3) := by decide +kernel
theorem dX10_keepReferences_25 : decode cX10_keepReferences 25 = .ok (.iconst 0, 1) := by decide +kernel
theorem dX10_keepReferences_26 : decode cX10_keepReferences 26 = .ok (.istore 4, 2) := by decide +kernel
theorem dX10_keepReferences_28 : decode cX10_keepReferences 28 = .ok (.iload 4, 2) := by decide +kernel
theorem dX10_keepReferences_30 : decode cX10_keepReferences 30 = .ok (.aload_n 1, 1) := by decide +kernel
theorem dX10_keepReferences_31 : decode cX10_keepReferences 31 = .ok (.getfield 366, 3) := by decide +kernel
theorem dX10_keepReferences_34 : decode cX10_keepReferences 34 = .ok (.if_icmp .ge 26, 3) := by decide +kernel
theorem dX10_keepReferences_37 : decode cX10_keepReferences 37 = .ok (.aload_n 1, 1) := by decide +kernel
theorem dX10_keepReferences_38 : decode cX10_keepReferences 38 = .ok (.getfield 301, 3) := by decide +kernel
theorem dX10_keepReferences_41 : decode cX10_keepReferences 41 = .ok (.iload 4, 2) := by decide +kernel
theorem dX10_keepReferences_43 : decode cX10_keepReferences 43 = .ok (.aload_n 3, 1) := by decide +kernel
theorem dX10_keepReferences_44 : decode cX10_keepReferences 44 = .ok (.iload 4, 2) := by decide +kernel
theorem dX10_keepReferences_46 : decode cX10_keepReferences 46 = .ok (.invokevirtual 367, 3) := by decide +kernel
theorem dX10_keepReferences_49 : decode cX10_keepReferences 49 = .ok (.getfield 130, 3) := by decide +kernel
theorem dX10_keepReferences_52 : decode cX10_keepReferences 52 = .ok (.i2l, 1) := by decide +kernel
theorem dX10_keepReferences_53 : decode cX10_keepReferences 53 = .ok (.lastore, 1) := by decide +kernel
theorem dX10_keepReferences_54 : decode cX10_keepReferences 54 = .ok (.iinc 4 1, 3) := by decide +kernel
theorem dX10_keepReferences_57 : decode cX10_keepReferences 57 = .ok (.goto (-29), 3) := by decide +kernel
theorem dX10_keepReferences_60 : decode cX10_keepReferences 60 = .ok (.iconst 0, 1) := by decide +kernel
theorem dX10_keepReferences_61 : decode cX10_keepReferences 61 = .ok (.ireturn, 1) := by decide +kernel
set_option maxRecDepth 20000 in
theorem ggX10_keepContext_X10_isFlow : GoodIn wsX10_keepContext wsX10_isFlow := goodIn_r _ [12] (by decide +kernel) (by decide +kernel)
set_option maxRecDepth 20000 in
theorem gX10_keepContext_X10_isFlow : GoodIn wsX10_keepContext (va_wsS RX10 109 yX10_isFlow wsX10_isFlow) := goodIn_app (goodIn_of _ (by decide +kernel)) ggX10_keepContext_X10_isFlow
set_option maxRecDepth 20000 in
theorem ggX10_keepContext_X8_holdRow : GoodIn wsX10_keepContext wsX8_holdRow := goodIn_r _ [17, 18, 19, 20, 21, 22, 23, 24, 25, 26, 27, 28, 29, 30, 31, 53, 54, 55, 56, 57] (by decide +kernel) (by decide +kernel)
set_option maxRecDepth 20000 in
theorem gX10_keepContext_X8_holdRow : GoodIn wsX10_keepContext (wsV RX10 287 RX8 yX8_holdRow wsX8_holdRow) := goodIn_app (goodIn_of _ (by decide +kernel)) ggX10_keepContext_X8_holdRow
theorem dX10_keepContext_0 : decode cX10_keepContext 0 = .ok (.iload_n 2, 1) := by decide +kernel
theorem dX10_keepContext_1 : decode cX10_keepContext 1 = .ok (.invokestatic 109, 3) := by decide +kernel
theorem dX10_keepContext_4 : decode cX10_keepContext 4 = .ok (.ifCond .eq 15, 3) := by decide +kernel
theorem dX10_keepContext_7 : decode cX10_keepContext 7 = .ok (.aload_n 0, 1) := by decide +kernel
theorem dX10_keepContext_8 : decode cX10_keepContext 8 = .ok (.getfield 41, 3) := by decide +kernel
theorem dX10_keepContext_11 : decode cX10_keepContext 11 = .ok (.iload_n 2, 1) := by decide +kernel
theorem dX10_keepContext_12 : decode cX10_keepContext 12 = .ok (.aaload, 1) := by decide +kernel
theorem dX10_keepContext_13 : decode cX10_keepContext 13 = .ok (.getfield 164, 3) := by decide +kernel
theorem dX10_keepContext_16 : decode cX10_keepContext 16 = .ok (.ifCond .ne 5, 3) := by decide +kernel
theorem dX10_keepContext_19 : decode cX10_keepContext 19 = .ok (.iconst (-1), 1) := by decide +kernel
theorem dX10_keepContext_20 : decode cX10_keepContext 20 = .ok (.ireturn, 1) := by decide +kernel
theorem dX10_keepContext_21 : decode cX10_keepContext 21 = .ok (.aload_n 1, 1) := by decide +kernel
theorem dX10_keepContext_22 : decode cX10_keepContext 22 = .ok (.iconst 4, 1) := by decide +kernel
theorem dX10_keepContext_23 : decode cX10_keepContext 23 = .ok (.aload_n 0, 1) := by decide +kernel
theorem dX10_keepContext_24 : decode cX10_keepContext 24 = .ok (.getfield 22, 3) := by decide +kernel
theorem dX10_keepContext_27 : decode cX10_keepContext 27 = .ok (.getfield 85, 3) := by decide +kernel
theorem dX10_keepContext_30 : decode cX10_keepContext 30 = .ok (.invokevirtual 287, 3) := by decide +kernel
theorem dX10_keepContext_33 : decode cX10_keepContext 33 = .ok (.iconst 0, 1) := by decide +kernel
theorem dX10_keepContext_34 : decode cX10_keepContext 34 = .ok (.istore_n 3, 1) := by decide +kernel
theorem dX10_keepContext_35 : decode cX10_keepContext 35 = .ok (.iload_n 3, 1) := by decide +kernel
theorem dX10_keepContext_36 : decode cX10_keepContext 36 = .ok (.aload_n 1, 1) := by decide +kernel
theorem dX10_keepContext_37 : decode cX10_keepContext 37 = .ok (.getfield 366, 3) := by decide +kernel
theorem dX10_keepContext_40 : decode cX10_keepContext 40 = .ok (.if_icmp .ge 29, 3) := by decide +kernel
theorem dX10_keepContext_43 : decode cX10_keepContext 43 = .ok (.aload_n 1, 1) := by decide +kernel
theorem dX10_keepContext_44 : decode cX10_keepContext 44 = .ok (.getfield 301, 3) := by decide +kernel
theorem dX10_keepContext_47 : decode cX10_keepContext 47 = .ok (.iload_n 3, 1) := by decide +kernel
theorem dX10_keepContext_48 : decode cX10_keepContext 48 = .ok (.aload_n 0, 1) := by decide +kernel
theorem dX10_keepContext_49 : decode cX10_keepContext 49 = .ok (.getfield 41, 3) := by decide +kernel
theorem dX10_keepContext_52 : decode cX10_keepContext 52 = .ok (.iload_n 2, 1) := by decide +kernel
theorem dX10_keepContext_53 : decode cX10_keepContext 53 = .ok (.aaload, 1) := by decide +kernel
theorem dX10_keepContext_54 : decode cX10_keepContext 54 = .ok (.getfield 167, 3) := by decide +kernel
theorem dX10_keepContext_57 : decode cX10_keepContext 57 = .ok (.getfield 101, 3) := by decide +kernel
theorem dX10_keepContext_60 : decode cX10_keepContext 60 = .ok (.iload_n 3, 1) := by decide +kernel
theorem dX10_keepContext_61 : decode cX10_keepContext 61 = .ok (.laload, 1) := by decide +kernel
theorem dX10_keepContext_62 : decode cX10_keepContext 62 = .ok (.lastore, 1) := by decide +kernel
theorem dX10_keepContext_63 : decode cX10_keepContext 63 = .ok (.iinc 3 1, 3) := by decide +kernel
theorem dX10_keepContext_66 : decode cX10_keepContext 66 = .ok (.goto (-31), 3) := by decide +kernel
theorem dX10_keepContext_69 : decode cX10_keepContext 69 = .ok (.iconst 0, 1) := by decide +kernel
theorem dX10_keepContext_70 : decode cX10_keepContext 70 = .ok (.ireturn, 1) := by decide +kernel
set_option maxRecDepth 20000 in
theorem ggX10_refusalOfLetterOn_X10_isShelf : GoodIn wsX10_refusalOfLetterOn wsX10_isShelf := goodIn_r _ [6] (by decide +kernel) (by decide +kernel)
set_option maxRecDepth 20000 in
theorem gX10_refusalOfLetterOn_X10_isShelf : GoodIn wsX10_refusalOfLetterOn (va_wsS RX10 270 yX10_isShelf wsX10_isShelf) := goodIn_app (goodIn_of _ (by decide +kernel)) ggX10_refusalOfLetterOn_X10_isShelf
theorem dX10_refusalOfLetterOn_0 : decode cX10_refusalOfLetterOn 0 = .ok (.iload_n 1, 1) := by decide +kernel
theorem dX10_refusalOfLetterOn_1 : decode cX10_refusalOfLetterOn 1 = .ok (.invokestatic 270, 3) := by decide +kernel
theorem dX10_refusalOfLetterOn_4 : decode cX10_refusalOfLetterOn 4 = .ok (.ifCond .ne 5, 3) := by decide +kernel
theorem dX10_refusalOfLetterOn_7 : decode cX10_refusalOfLetterOn 7 = .ok (.iconst (-1), 1) := by decide +kernel
theorem dX10_refusalOfLetterOn_8 : decode cX10_refusalOfLetterOn 8 = .ok (.ireturn, 1) := by decide +kernel
theorem dX10_refusalOfLetterOn_9 : decode cX10_refusalOfLetterOn 9 = .ok (.aload_n 0, 1) := by decide +kernel
theorem dX10_refusalOfLetterOn_10 : decode cX10_refusalOfLetterOn 10 = .ok (.getfield 55, 3) := by decide +kernel
theorem dX10_refusalOfLetterOn_13 : decode cX10_refusalOfLetterOn 13 = .ok (.iload_n 1, 1) := by decide +kernel
theorem dX10_refusalOfLetterOn_14 : decode cX10_refusalOfLetterOn 14 = .ok (.aaload, 1) := by decide +kernel
theorem dX10_refusalOfLetterOn_15 : decode cX10_refusalOfLetterOn 15 = .ok (.getfield 273, 3) := by decide +kernel
theorem dX10_refusalOfLetterOn_18 : decode cX10_refusalOfLetterOn 18 = .ok (.ifCond .ne 6, 3) := by decide +kernel
theorem dX10_refusalOfLetterOn_21 : decode cX10_refusalOfLetterOn 21 = .ok (.bipush (-11), 2) := by decide +kernel
theorem dX10_refusalOfLetterOn_23 : decode cX10_refusalOfLetterOn 23 = .ok (.ireturn, 1) := by decide +kernel
theorem dX10_refusalOfLetterOn_24 : decode cX10_refusalOfLetterOn 24 = .ok (.aload_n 0, 1) := by decide +kernel
theorem dX10_refusalOfLetterOn_25 : decode cX10_refusalOfLetterOn 25 = .ok (.getfield 55, 3) := by decide +kernel
theorem dX10_refusalOfLetterOn_28 : decode cX10_refusalOfLetterOn 28 = .ok (.iload_n 1, 1) := by decide +kernel
theorem dX10_refusalOfLetterOn_29 : decode cX10_refusalOfLetterOn 29 = .ok (.aaload, 1) := by decide +kernel
theorem dX10_refusalOfLetterOn_30 : decode cX10_refusalOfLetterOn 30 = .ok (.getfield 273, 3) := by decide +kernel
theorem dX10_refusalOfLetterOn_33 : decode cX10_refusalOfLetterOn 33 = .ok (.iconst 1, 1) := by decide +kernel
theorem dX10_refusalOfLetterOn_34 : decode cX10_refusalOfLetterOn 34 = .ok (.if_icmp .ne 7, 3) := by decide +kernel
theorem dX10_refusalOfLetterOn_37 : decode cX10_refusalOfLetterOn 37 = .ok (.iconst 0, 1) := by decide +kernel
theorem dX10_refusalOfLetterOn_38 : decode cX10_refusalOfLetterOn 38 = .ok (.goto 5, 3) := by decide +kernel
theorem dX10_refusalOfLetterOn_41 : decode cX10_refusalOfLetterOn 41 = .ok (.bipush (-12), 2) := by decide +kernel
theorem dX10_refusalOfLetterOn_43 : decode cX10_refusalOfLetterOn 43 = .ok (.ireturn, 1) := by decide +kernel
theorem dX10_endsInCheck_0 : decode cX10_endsInCheck 0 = .ok (.iload_n 0, 1) := by decide +kernel
theorem dX10_endsInCheck_1 : decode cX10_endsInCheck 1 = .ok (.iconst 1, 1) := by decide +kernel
theorem dX10_endsInCheck_2 : decode cX10_endsInCheck 2 = .ok (.if_icmp .eq 12, 3) := by decide +kernel
theorem dX10_endsInCheck_5 : decode cX10_endsInCheck 5 = .ok (.iload_n 0, 1) := by decide +kernel
theorem dX10_endsInCheck_6 : decode cX10_endsInCheck 6 = .ok (.iconst 2, 1) := by decide +kernel
theorem dX10_endsInCheck_7 : decode cX10_endsInCheck 7 = .ok (.if_icmp .eq 7, 3) := by decide +kernel
theorem dX10_endsInCheck_10 : decode cX10_endsInCheck 10 = .ok (.iconst 1, 1) := by decide +kernel
theorem dX10_endsInCheck_11 : decode cX10_endsInCheck 11 = .ok (.goto 4, 3) := by decide +kernel
theorem dX10_endsInCheck_14 : decode cX10_endsInCheck 14 = .ok (.iconst 0, 1) := by decide +kernel
theorem dX10_endsInCheck_15 : decode cX10_endsInCheck 15 = .ok (.ireturn, 1) := by decide +kernel
theorem dX10_checkOf_0 : decode cX10_checkOf 0 = .ok (.iconst 0, 1) := by decide +kernel
theorem dX10_checkOf_1 : decode cX10_checkOf 1 = .ok (.istore_n 2, 1) := by decide +kernel
theorem dX10_checkOf_2 : decode cX10_checkOf 2 = .ok (.iconst 0, 1) := by decide +kernel
theorem dX10_checkOf_3 : decode cX10_checkOf 3 = .ok (.istore_n 3, 1) := by decide +kernel
theorem dX10_checkOf_4 : decode cX10_checkOf 4 = .ok (.iload_n 3, 1) := by decide +kernel
theorem dX10_checkOf_5 : decode cX10_checkOf 5 = .ok (.iload_n 1, 1) := by decide +kernel
theorem dX10_checkOf_6 : decode cX10_checkOf 6 = .ok (.if_icmp .ge 21, 3) := by decide +kernel
theorem dX10_checkOf_9 : decode cX10_checkOf 9 = .ok (.iload_n 3, 1) := by decide +kernel
theorem dX10_checkOf_10 : decode cX10_checkOf 10 = .ok (.aload_n 0, 1) := by decide +kernel
theorem dX10_checkOf_11 : decode cX10_checkOf 11 = .ok (.arraylength, 1) := by decide +kernel
theorem dX10_checkOf_12 : decode cX10_checkOf 12 = .ok (.if_icmp .ge 15, 3) := by decide +kernel
theorem dX10_checkOf_15 : decode cX10_checkOf 15 = .ok (.iload_n 2, 1) := by decide +kernel
theorem dX10_checkOf_16 : decode cX10_checkOf 16 = .ok (.aload_n 0, 1) := by decide +kernel
theorem dX10_checkOf_17 : decode cX10_checkOf 17 = .ok (.iload_n 3, 1) := by decide +kernel
theorem dX10_checkOf_18 : decode cX10_checkOf 18 = .ok (.iaload, 1) := by decide +kernel
theorem dX10_checkOf_19 : decode cX10_checkOf 19 = .ok (.iadd, 1) := by decide +kernel
theorem dX10_checkOf_20 : decode cX10_checkOf 20 = .ok (.istore_n 2, 1) := by decide +kernel
theorem dX10_checkOf_21 : decode cX10_checkOf 21 = .ok (.iinc 3 1, 3) := by decide +kernel
theorem dX10_checkOf_24 : decode cX10_checkOf 24 = .ok (.goto (-20), 3) := by decide +kernel
theorem dX10_checkOf_27 : decode cX10_checkOf 27 = .ok (.sipush 255, 3) := by decide +kernel
theorem dX10_checkOf_30 : decode cX10_checkOf 30 = .ok (.iload_n 2, 1) := by decide +kernel
theorem dX10_checkOf_31 : decode cX10_checkOf 31 = .ok (.sipush 255, 3) := by decide +kernel
theorem dX10_checkOf_34 : decode cX10_checkOf 34 = .ok (.iand, 1) := by decide +kernel
theorem dX10_checkOf_35 : decode cX10_checkOf 35 = .ok (.isub, 1) := by decide +kernel
theorem dX10_checkOf_36 : decode cX10_checkOf 36 = .ok (.ireturn, 1) := by decide +kernel
theorem dX10_wholeBytes_0 : decode cX10_wholeBytes 0 = .ok (.iload_n 0, 1) := by decide +kernel
theorem dX10_wholeBytes_1 : decode cX10_wholeBytes 1 = .ok (.bipush 7, 2) := by decide +kernel
theorem dX10_wholeBytes_3 : decode cX10_wholeBytes 3 = .ok (.iadd, 1) := by decide +kernel
theorem dX10_wholeBytes_4 : decode cX10_wholeBytes 4 = .ok (.iconst 3, 1) := by decide +kernel
theorem dX10_wholeBytes_5 : decode cX10_wholeBytes 5 = .ok (.ishr, 1) := by decide +kernel
theorem dX10_wholeBytes_6 : decode cX10_wholeBytes 6 = .ok (.ireturn, 1) := by decide +kernel
theorem dX10_lowest_0 : decode cX10_lowest 0 = .ok (.lload_n 0, 1) := by decide +kernel
theorem dX10_lowest_1 : decode cX10_lowest 1 = .ok (.lconst 1, 1) := by decide +kernel
theorem dX10_lowest_2 : decode cX10_lowest 2 = .ok (.iload_n 2, 1) := by decide +kernel
theorem dX10_lowest_3 : decode cX10_lowest 3 = .ok (.lshl, 1) := by decide +kernel
theorem dX10_lowest_4 : decode cX10_lowest 4 = .ok (.lconst 1, 1) := by decide +kernel
theorem dX10_lowest_5 : decode cX10_lowest 5 = .ok (.lsub, 1) := by decide +kernel
theorem dX10_lowest_6 : decode cX10_lowest 6 = .ok (.land, 1) := by decide +kernel
theorem dX10_lowest_7 : decode cX10_lowest 7 = .ok (.lreturn, 1) := by decide +kernel
theorem dX11_init_0 : decode cX11_init 0 = .ok (.aload_n 0, 1) := by decide +kernel
theorem dX11_init_1 : decode cX11_init 1 = .ok (.invokespecial 1, 3) := by decide +kernel
theorem dX11_init_4 : decode cX11_init 4 = .ok (.aload_n 0, 1) := by decide +kernel
theorem dX11_init_5 : decode cX11_init 5 = .ok (.bipush 8, 2) := by decide +kernel
theorem dX11_init_7 : decode cX11_init 7 = .ok (.newarray .int, 2) := by decide +kernel
theorem dX11_init_9 : decode cX11_init 9 = .ok (.putfield 7, 3) := by decide +kernel
theorem dX11_init_12 : decode cX11_init 12 = .ok (.aload_n 0, 1) := by decide +kernel
theorem dX11_init_13 : decode cX11_init 13 = .ok (.bipush 8, 2) := by decide +kernel
theorem dX11_init_15 : decode cX11_init 15 = .ok (.newarray .int, 2) := by decide +kernel
theorem dX11_init_17 : decode cX11_init 17 = .ok (.putfield 13, 3) := by decide +kernel
theorem dX11_init_20 : decode cX11_init 20 = .ok (.aload_n 0, 1) := by decide +kernel
theorem dX11_init_21 : decode cX11_init 21 = .ok (.bipush 8, 2) := by decide +kernel
theorem dX11_init_23 : decode cX11_init 23 = .ok (.newarray .int, 2) := by decide +kernel
theorem dX11_init_25 : decode cX11_init 25 = .ok (.putfield 16, 3) := by decide +kernel
theorem dX11_init_28 : decode cX11_init 28 = .ok (.aload_n 0, 1) := by decide +kernel
theorem dX11_init_29 : decode cX11_init 29 = .ok (.bipush 8, 2) := by decide +kernel
theorem dX11_init_31 : decode cX11_init 31 = .ok (.newarray .long, 2) := by decide +kernel
theorem dX11_init_33 : decode cX11_init 33 = .ok (.putfield 19, 3) := by decide +kernel
theorem dX11_init_36 : decode cX11_init 36 = .ok (.aload_n 0, 1) := by decide +kernel
theorem dX11_init_37 : decode cX11_init 37 = .ok (.bipush 8, 2) := by decide +kernel
theorem dX11_init_39 : decode cX11_init 39 = .ok (.newarray .long, 2) := by decide +kernel
theorem dX11_init_41 : decode cX11_init 41 = .ok (.putfield 23, 3) := by decide +kernel
theorem dX11_init_44 : decode cX11_init 44 = .ok (.aload_n 0, 1) := by decide +kernel
theorem dX11_init_45 : decode cX11_init 45 = .ok (.bipush 8, 2) := by decide +kernel
theorem dX11_init_47 : decode cX11_init 47 = .ok (.newarray .int, 2) := by decide +kernel
theorem dX11_init_49 : decode cX11_init 49 = .ok (.putfield 26, 3) := by decide +kernel
theorem dX11_init_52 : decode cX11_init 52 = .ok (.aload_n 0, 1) := by decide +kernel
theorem dX11_init_53 : decode cX11_init 53 = .ok (.bipush 8, 2) := by decide +kernel
theorem dX11_init_55 : decode cX11_init 55 = .ok (.newarray .int, 2) := by decide +kernel
theorem dX11_init_57 : decode cX11_init 57 = .ok (.putfield 29, 3) := by decide +kernel
theorem dX11_init_60 : decode cX11_init 60 = .ok (.aload_n 0, 1) := by decide +kernel
theorem dX11_init_61 : decode cX11_init 61 = .ok (.bipush 64, 2) := by decide +kernel
theorem dX11_init_63 : decode cX11_init 63 = .ok (.newarray .int, 2) := by decide +kernel
theorem dX11_init_65 : decode cX11_init 65 = .ok (.putfield 32, 3) := by decide +kernel
theorem dX11_init_68 : decode cX11_init 68 = .ok (.aload_n 0, 1) := by decide +kernel
theorem dX11_init_69 : decode cX11_init 69 = .ok (.bipush 8, 2) := by decide +kernel
theorem dX11_init_71 : decode cX11_init 71 = .ok (.newarray .boolean, 2) := by decide +kernel
theorem dX11_init_73 : decode cX11_init 73 = .ok (.putfield 35, 3) := by decide +kernel
theorem dX11_init_76 : decode cX11_init 76 = .ok (.aload_n 0, 1) := by decide +kernel
theorem dX11_init_77 : decode cX11_init 77 = .ok (.bipush 8, 2) := by decide +kernel
theorem dX11_init_79 : decode cX11_init 79 = .ok (.newarray .int, 2) := by decide +kernel
theorem dX11_init_81 : decode cX11_init 81 = .ok (.putfield 39, 3) := by decide +kernel
theorem dX11_init_84 : decode cX11_init 84 = .ok (.aload_n 0, 1) := by decide +kernel
theorem dX11_init_85 : decode cX11_init 85 = .ok (.bipush 72, 2) := by decide +kernel
theorem dX11_init_87 : decode cX11_init 87 = .ok (.newarray .int, 2) := by decide +kernel
theorem dX11_init_89 : decode cX11_init 89 = .ok (.putfield 42, 3) := by decide +kernel
theorem dX11_init_92 : decode cX11_init 92 = .ok (.aload_n 0, 1) := by decide +kernel
theorem dX11_init_93 : decode cX11_init 93 = .ok (.sipush 576, 3) := by decide +kernel
theorem dX11_init_96 : decode cX11_init 96 = .ok (.newarray .long, 2) := by decide +kernel
theorem dX11_init_98 : decode cX11_init 98 = .ok (.putfield 45, 3) := by decide +kernel
theorem dX11_init_101 : decode cX11_init 101 = .ok (.aload_n 0, 1) := by decide +kernel
theorem dX11_init_102 : decode cX11_init 102 = .ok (.sipush 200, 3) := by decide +kernel
theorem dX11_init_105 : decode cX11_init 105 = .ok (.newarray .int, 2) := by decide +kernel
theorem dX11_init_107 : decode cX11_init 107 = .ok (.putfield 48, 3) := by decide +kernel
theorem dX11_init_110 : decode cX11_init 110 = .ok (.aload_n 0, 1) := by decide +kernel
theorem dX11_init_111 : decode cX11_init 111 = .ok (.sipush 12800, 3) := by decide +kernel
theorem dX11_init_114 : decode cX11_init 114 = .ok (.newarray .int, 2) := by decide +kernel
theorem dX11_init_116 : decode cX11_init 116 = .ok (.putfield 51, 3) := by decide +kernel
theorem dX11_init_119 : decode cX11_init 119 = .ok (.aload_n 0, 1) := by decide +kernel
theorem dX11_init_120 : decode cX11_init 120 = .ok (.sipush 200, 3) := by decide +kernel
theorem dX11_init_123 : decode cX11_init 123 = .ok (.newarray .int, 2) := by decide +kernel
theorem dX11_init_125 : decode cX11_init 125 = .ok (.putfield 54, 3) := by decide +kernel
theorem dX11_init_128 : decode cX11_init 128 = .ok (.aload_n 0, 1) := by decide +kernel
theorem dX11_init_129 : decode cX11_init 129 = .ok (.sipush 200, 3) := by decide +kernel
theorem dX11_init_132 : decode cX11_init 132 = .ok (.newarray .int, 2) := by decide +kernel
theorem dX11_init_134 : decode cX11_init 134 = .ok (.putfield 57, 3) := by decide +kernel
theorem dX11_init_137 : decode cX11_init 137 = .ok (.aload_n 0, 1) := by decide +kernel
theorem dX11_init_138 : decode cX11_init 138 = .ok (.sipush 200, 3) := by decide +kernel
theorem dX11_init_141 : decode cX11_init 141 = .ok (.newarray .int, 2) := by decide +kernel
theorem dX11_init_143 : decode cX11_init 143 = .ok (.putfield 60, 3) := by decide +kernel
theorem dX11_init_146 : decode cX11_init 146 = .ok (.aload_n 0, 1) := by decide +kernel
theorem dX11_init_147 : decode cX11_init 147 = .ok (.sipush 200, 3) := by decide +kernel
theorem dX11_init_150 : decode cX11_init 150 = .ok (.newarray .int, 2) := by decide +kernel
theorem dX11_init_152 : decode cX11_init 152 = .ok (.putfield 63, 3) := by decide +kernel
theorem dX11_init_155 : decode cX11_init 155 = .ok (.aload_n 0, 1) := by decide +kernel
theorem dX11_init_156 : decode cX11_init 156 = .ok (.sipush 200, 3) := by decide +kernel
theorem dX11_init_159 : decode cX11_init 159 = .ok (.newarray .int, 2) := by decide +kernel
theorem dX11_init_161 : decode cX11_init 161 = .ok (.putfield 66, 3) := by decide +kernel
theorem dX11_init_164 : decode cX11_init 164 = .ok (.aload_n 0, 1) := by decide +kernel
theorem dX11_init_165 : decode cX11_init 165 = .ok (.sipush 200, 3) := by decide +kernel
theorem dX11_init_168 : decode cX11_init 168 = .ok (.newarray .boolean, 2) := by decide +kernel
theorem dX11_init_170 : decode cX11_init 170 = .ok (.putfield 69, 3) := by decide +kernel
theorem dX11_init_173 : decode cX11_init 173 = .ok (.aload_n 0, 1) := by decide +kernel
theorem dX11_init_174 : decode cX11_init 174 = .ok (.sipush 200, 3) := by decide +kernel
theorem dX11_init_177 : decode cX11_init 177 = .ok (.newarray .boolean, 2) := by decide +kernel
theorem dX11_init_179 : decode cX11_init 179 = .ok (.putfield 72, 3) := by decide +kernel
theorem dX11_init_182 : decode cX11_init 182 = .ok (.aload_n 0, 1) := by decide +kernel
theorem dX11_init_183 : decode cX11_init 183 = .ok (.sipush 1600, 3) := by decide +kernel
theorem dX11_init_186 : decode cX11_init 186 = .ok (.newarray .int, 2) := by decide +kernel
theorem dX11_init_188 : decode cX11_init 188 = .ok (.putfield 75, 3) := by decide +kernel
theorem dX11_init_191 : decode cX11_init 191 = .ok (.aload_n 0, 1) := by decide +kernel
theorem dX11_init_192 : decode cX11_init 192 = .ok (.sipush 1600, 3) := by decide +kernel
theorem dX11_init_195 : decode cX11_init 195 = .ok (.newarray .int, 2) := by decide +kernel
theorem dX11_init_197 : decode cX11_init 197 = .ok (.putfield 78, 3) := by decide +kernel
theorem dX11_init_200 : decode cX11_init 200 = .ok (.aload_n 0, 1) := by decide +kernel
theorem dX11_init_201 : decode cX11_init 201 = .ok (.sipush 200, 3) := by decide +kernel
theorem dX11_init_204 : decode cX11_init 204 = .ok (.newarray .int, 2) := by decide +kernel
theorem dX11_init_206 : decode cX11_init 206 = .ok (.putfield 81, 3) := by decide +kernel
theorem dX11_init_209 : decode cX11_init 209 = .ok (.aload_n 0, 1) := by decide +kernel
theorem dX11_init_210 : decode cX11_init 210 = .ok (.sipush 200, 3) := by decide +kernel
theorem dX11_init_213 : decode cX11_init 213 = .ok (.newarray .int, 2) := by decide +kernel
theorem dX11_init_215 : decode cX11_init 215 = .ok (.putfield 84, 3) := by decide +kernel
theorem dX11_init_218 : decode cX11_init 218 = .ok (.aload_n 0, 1) := by decide +kernel
theorem dX11_init_219 : decode cX11_init 219 = .ok (.bipush 8, 2) := by decide +kernel
theorem dX11_init_221 : decode cX11_init 221 = .ok (.newarray .boolean, 2) := by decide +kernel
theorem dX11_init_223 : decode cX11_init 223 = .ok (.putfield 87, 3) := by decide +kernel
theorem dX11_init_226 : decode cX11_init 226 = .ok (.aload_n 0, 1) := by decide +kernel
theorem dX11_init_227 : decode cX11_init 227 = .ok (.bipush 8, 2) := by decide +kernel
theorem dX11_init_229 : decode cX11_init 229 = .ok (.newarray .int, 2) := by decide +kernel
theorem dX11_init_231 : decode cX11_init 231 = .ok (.putfield 90, 3) := by decide +kernel
theorem dX11_init_234 : decode cX11_init 234 = .ok (.aload_n 0, 1) := by decide +kernel
theorem dX11_init_235 : decode cX11_init 235 = .ok (.bipush 8, 2) := by decide +kernel
theorem dX11_init_237 : decode cX11_init 237 = .ok (.newarray .int, 2) := by decide +kernel
theorem dX11_init_239 : decode cX11_init 239 = .ok (.putfield 93, 3) := by decide +kernel
theorem dX11_init_242 : decode cX11_init 242 = .ok (.aload_n 0, 1) := by decide +kernel
theorem dX11_init_243 : decode cX11_init 243 = .ok (.bipush 64, 2) := by decide +kernel
theorem dX11_init_245 : decode cX11_init 245 = .ok (.newarray .int, 2) := by decide +kernel
theorem dX11_init_247 : decode cX11_init 247 = .ok (.putfield 96, 3) := by decide +kernel
theorem dX11_init_250 : decode cX11_init 250 = .ok (.aload_n 0, 1) := by decide +kernel
theorem dX11_init_251 : decode cX11_init 251 = .ok (.bipush 64, 2) := by decide +kernel
theorem dX11_init_253 : decode cX11_init 253 = .ok (.newarray .long, 2) := by decide +kernel
theorem dX11_init_255 : decode cX11_init 255 = .ok (.putfield 99, 3) := by decide +kernel
theorem dX11_init_258 : decode cX11_init 258 = .ok (.aload_n 0, 1) := by decide +kernel
theorem dX11_init_259 : decode cX11_init 259 = .ok (.bipush 8, 2) := by decide +kernel
theorem dX11_init_261 : decode cX11_init 261 = .ok (.newarray .long, 2) := by decide +kernel
theorem dX11_init_263 : decode cX11_init 263 = .ok (.putfield 102, 3) := by decide +kernel
theorem dX11_init_266 : decode cX11_init 266 = .ok (.aload_n 0, 1) := by decide +kernel
theorem dX11_init_267 : decode cX11_init 267 = .ok (.bipush 8, 2) := by decide +kernel
theorem dX11_init_269 : decode cX11_init 269 = .ok (.newarray .int, 2) := by decide +kernel
theorem dX11_init_271 : decode cX11_init 271 = .ok (.putfield 105, 3) := by decide +kernel
theorem dX11_init_274 : decode cX11_init 274 = .ok (.aload_n 0, 1) := by decide +kernel
theorem dX11_init_275 : decode cX11_init 275 = .ok (.sipush 600, 3) := by decide +kernel
theorem dX11_init_278 : decode cX11_init 278 = .ok (.newarray .int, 2) := by decide +kernel
theorem dX11_init_280 : decode cX11_init 280 = .ok (.putfield 108, 3) := by decide +kernel
theorem dX11_init_283 : decode cX11_init 283 = .ok (.aload_n 0, 1) := by decide +kernel
theorem dX11_init_284 : decode cX11_init 284 = .ok (.bipush 8, 2) := by decide +kernel
theorem dX11_init_286 : decode cX11_init 286 = .ok (.newarray .int, 2) := by decide +kernel
theorem dX11_init_288 : decode cX11_init 288 = .ok (.putfield 111, 3) := by decide +kernel
theorem dX11_init_291 : decode cX11_init 291 = .ok (.aload_n 0, 1) := by decide +kernel
theorem dX11_init_292 : decode cX11_init 292 = .ok (.bipush 8, 2) := by decide +kernel
theorem dX11_init_294 : decode cX11_init 294 = .ok (.newarray .int, 2) := by decide +kernel
theorem dX11_init_296 : decode cX11_init 296 = .ok (.putfield 114, 3) := by decide +kernel
theorem dX11_init_299 : decode cX11_init 299 = .ok (.aload_n 0, 1) := by decide +kernel
theorem dX11_init_300 : decode cX11_init 300 = .ok (.bipush 8, 2) := by decide +kernel
theorem dX11_init_302 : decode cX11_init 302 = .ok (.newarray .long, 2) := by decide +kernel
theorem dX11_init_304 : decode cX11_init 304 = .ok (.putfield 117, 3) := by decide +kernel
theorem dX11_init_307 : decode cX11_init 307 = .ok (.aload_n 0, 1) := by decide +kernel
theorem dX11_init_308 : decode cX11_init 308 = .ok (.bipush 8, 2) := by decide +kernel
theorem dX11_init_310 : decode cX11_init 310 = .ok (.newarray .int, 2) := by decide +kernel
theorem dX11_init_312 : decode cX11_init 312 = .ok (.putfield 120, 3) := by decide +kernel
theorem dX11_init_315 : decode cX11_init 315 = .ok (.aload_n 0, 1) := by decide +kernel
theorem dX11_init_316 : decode cX11_init 316 = .ok (.bipush 8, 2) := by decide +kernel
theorem dX11_init_318 : decode cX11_init 318 = .ok (.newarray .long, 2) := by decide +kernel
theorem dX11_init_320 : decode cX11_init 320 = .ok (.putfield 123, 3) := by decide +kernel
theorem dX11_init_323 : decode cX11_init 323 = .ok (.aload_n 0, 1) := by decide +kernel
theorem dX11_init_324 : decode cX11_init 324 = .ok (.bipush 8, 2) := by decide +kernel
theorem dX11_init_326 : decode cX11_init 326 = .ok (.newarray .int, 2) := by decide +kernel
theorem dX11_init_328 : decode cX11_init 328 = .ok (.putfield 126, 3) := by decide +kernel
theorem dX11_init_331 : decode cX11_init 331 = .ok (.aload_n 0, 1) := by decide +kernel
theorem dX11_init_332 : decode cX11_init 332 = .ok (.bipush 8, 2) := by decide +kernel
theorem dX11_init_334 : decode cX11_init 334 = .ok (.newarray .int, 2) := by decide +kernel
theorem dX11_init_336 : decode cX11_init 336 = .ok (.putfield 129, 3) := by decide +kernel
theorem dX11_init_339 : decode cX11_init 339 = .ok (.aload_n 0, 1) := by decide +kernel
theorem dX11_init_340 : decode cX11_init 340 = .ok (.bipush 8, 2) := by decide +kernel
theorem dX11_init_342 : decode cX11_init 342 = .ok (.newarray .int, 2) := by decide +kernel
theorem dX11_init_344 : decode cX11_init 344 = .ok (.putfield 132, 3) := by decide +kernel
theorem dX11_init_347 : decode cX11_init 347 = .ok (.aload_n 0, 1) := by decide +kernel
theorem dX11_init_348 : decode cX11_init 348 = .ok (.sipush 512, 3) := by decide +kernel
theorem dX11_init_351 : decode cX11_init 351 = .ok (.newarray .long, 2) := by decide +kernel
theorem dX11_init_353 : decode cX11_init 353 = .ok (.putfield 135, 3) := by decide +kernel
theorem dX11_init_356 : decode cX11_init 356 = .ok (.aload_n 0, 1) := by decide +kernel
theorem dX11_init_357 : decode cX11_init 357 = .ok (.bipush 64, 2) := by decide +kernel
theorem dX11_init_359 : decode cX11_init 359 = .ok (.newarray .long, 2) := by decide +kernel
theorem dX11_init_361 : decode cX11_init 361 = .ok (.putfield 138, 3) := by decide +kernel
theorem dX11_init_364 : decode cX11_init 364 = .ok (.aload_n 0, 1) := by decide +kernel
theorem dX11_init_365 : decode cX11_init 365 = .ok (.iconst 1, 1) := by decide +kernel
theorem dX11_init_366 : decode cX11_init 366 = .ok (.iload_n 1, 1) := by decide +kernel
theorem dX11_init_367 : decode cX11_init 367 = .ok (.bipush 8, 2) := by decide +kernel
theorem dX11_init_369 : decode cX11_init 369 = .ok (.irem, 1) := by decide +kernel
theorem dX11_init_370 : decode cX11_init 370 = .ok (.bipush 8, 2) := by decide +kernel
theorem dX11_init_372 : decode cX11_init 372 = .ok (.iadd, 1) := by decide +kernel
theorem dX11_init_373 : decode cX11_init 373 = .ok (.bipush 8, 2) := by decide +kernel
theorem dX11_init_375 : decode cX11_init 375 = .ok (.irem, 1) := by decide +kernel
theorem dX11_init_376 : decode cX11_init 376 = .ok (.iadd, 1) := by decide +kernel
theorem dX11_init_377 : decode cX11_init 377 = .ok (.putfield 141, 3) := by decide +kernel
theorem dX11_init_380 : decode cX11_init 380 = .ok (.iconst 0, 1) := by decide +kernel
theorem dX11_init_381 : decode cX11_init 381 = .ok (.istore_n 2, 1) := by decide +kernel
theorem dX11_init_382 : decode cX11_init 382 = .ok (.iload_n 2, 1) := by decide +kernel
theorem dX11_init_383 : decode cX11_init 383 = .ok (.bipush 64, 2) := by decide +kernel
theorem dX11_init_385 : decode cX11_init 385 = .ok (.if_icmp .ge 23, 3) := by decide +kernel
theorem dX11_init_388 : decode cX11_init 388 = .ok (.aload_n 0, 1) := by decide +kernel
theorem dX11_init_389 : decode cX11_init 389 = .ok (.getfield 32, 3) := by decide +kernel
theorem dX11_init_392 : decode cX11_init 392 = .ok (.iload_n 2, 1) := by decide +kernel
theorem dX11_init_393 : decode cX11_init 393 = .ok (.iconst 1, 1) := by decide +kernel
theorem dX11_init_394 : decode cX11_init 394 = .ok (.iastore, 1) := by decide +kernel
theorem dX11_init_395 : decode cX11_init 395 = .ok (.aload_n 0, 1) := by decide +kernel
theorem dX11_init_396 : decode cX11_init 396 = .ok (.getfield 96, 3) := by decide +kernel
theorem dX11_init_399 : decode cX11_init 399 = .ok (.iload_n 2, 1) := by decide +kernel
theorem dX11_init_400 : decode cX11_init 400 = .ok (.iconst 1, 1) := by decide +kernel
theorem dX11_init_401 : decode cX11_init 401 = .ok (.iastore, 1) := by decide +kernel
theorem dX11_init_402 : decode cX11_init 402 = .ok (.iinc 2 1, 3) := by decide +kernel
theorem dX11_init_405 : decode cX11_init 405 = .ok (.goto (-23), 3) := by decide +kernel
theorem dX11_init_408 : decode cX11_init 408 = .ok (.iconst 0, 1) := by decide +kernel
theorem dX11_init_409 : decode cX11_init 409 = .ok (.istore_n 2, 1) := by decide +kernel
theorem dX11_init_410 : decode cX11_init 410 = .ok (.iload_n 2, 1) := by decide +kernel
theorem dX11_init_411 : decode cX11_init 411 = .ok (.bipush 8, 2) := by decide +kernel
theorem dX11_init_413 : decode cX11_init 413 = .ok (.if_icmp .ge 16, 3) := by decide +kernel
theorem dX11_init_416 : decode cX11_init 416 = .ok (.aload_n 0, 1) := by decide +kernel
theorem dX11_init_417 : decode cX11_init 417 = .ok (.getfield 35, 3) := by decide +kernel
theorem dX11_init_420 : decode cX11_init 420 = .ok (.iload_n 2, 1) := by decide +kernel
theorem dX11_init_421 : decode cX11_init 421 = .ok (.iconst 1, 1) := by decide +kernel
theorem dX11_init_422 : decode cX11_init 422 = .ok (.bastore, 1) := by decide +kernel
theorem dX11_init_423 : decode cX11_init 423 = .ok (.iinc 2 1, 3) := by decide +kernel
theorem dX11_init_426 : decode cX11_init 426 = .ok (.goto (-16), 3) := by decide +kernel
theorem dX11_init_429 : decode cX11_init 429 = .ok (.return_, 1) := by decide +kernel
theorem dX11_isIn_0 : decode cX11_isIn 0 = .ok (.lload_n 0, 1) := by decide +kernel
theorem dX11_isIn_1 : decode cX11_isIn 1 = .ok (.lload_n 2, 1) := by decide +kernel
theorem dX11_isIn_2 : decode cX11_isIn 2 = .ok (.lcmp, 1) := by decide +kernel
theorem dX11_isIn_3 : decode cX11_isIn 3 = .ok (.ifCond .lt 14, 3) := by decide +kernel
theorem dX11_isIn_6 : decode cX11_isIn 6 = .ok (.lload_n 0, 1) := by decide +kernel
theorem dX11_isIn_7 : decode cX11_isIn 7 = .ok (.lload 4, 2) := by decide +kernel
theorem dX11_isIn_9 : decode cX11_isIn 9 = .ok (.lcmp, 1) := by decide +kernel
theorem dX11_isIn_10 : decode cX11_isIn 10 = .ok (.ifCond .gt 7, 3) := by decide +kernel
theorem dX11_isIn_13 : decode cX11_isIn 13 = .ok (.iconst 1, 1) := by decide +kernel
theorem dX11_isIn_14 : decode cX11_isIn 14 = .ok (.goto 4, 3) := by decide +kernel
theorem dX11_isIn_17 : decode cX11_isIn 17 = .ok (.iconst 0, 1) := by decide +kernel
theorem dX11_isIn_18 : decode cX11_isIn 18 = .ok (.ireturn, 1) := by decide +kernel
theorem dX11_isField_0 : decode cX11_isField 0 = .ok (.iload_n 1, 1) := by decide +kernel
theorem dX11_isField_1 : decode cX11_isField 1 = .ok (.ifCond .lt 15, 3) := by decide +kernel
theorem dX11_isField_4 : decode cX11_isField 4 = .ok (.iload_n 1, 1) := by decide +kernel
theorem dX11_isField_5 : decode cX11_isField 5 = .ok (.aload_n 0, 1) := by decide +kernel
theorem dX11_isField_6 : decode cX11_isField 6 = .ok (.getfield 148, 3) := by decide +kernel
theorem dX11_isField_9 : decode cX11_isField 9 = .ok (.if_icmp .ge 7, 3) := by decide +kernel
theorem dX11_isField_12 : decode cX11_isField 12 = .ok (.iconst 1, 1) := by decide +kernel
theorem dX11_isField_13 : decode cX11_isField 13 = .ok (.goto 4, 3) := by decide +kernel
theorem dX11_isField_16 : decode cX11_isField 16 = .ok (.iconst 0, 1) := by decide +kernel
theorem dX11_isField_17 : decode cX11_isField 17 = .ok (.ireturn, 1) := by decide +kernel
theorem dX11_isFlow_0 : decode cX11_isFlow 0 = .ok (.iload_n 0, 1) := by decide +kernel
theorem dX11_isFlow_1 : decode cX11_isFlow 1 = .ok (.ifCond .lt 13, 3) := by decide +kernel
theorem dX11_isFlow_4 : decode cX11_isFlow 4 = .ok (.iload_n 0, 1) := by decide +kernel
theorem dX11_isFlow_5 : decode cX11_isFlow 5 = .ok (.bipush 8, 2) := by decide +kernel
theorem dX11_isFlow_7 : decode cX11_isFlow 7 = .ok (.if_icmp .ge 7, 3) := by decide +kernel
theorem dX11_isFlow_10 : decode cX11_isFlow 10 = .ok (.iconst 1, 1) := by decide +kernel
theorem dX11_isFlow_11 : decode cX11_isFlow 11 = .ok (.goto 4, 3) := by decide +kernel
theorem dX11_isFlow_14 : decode cX11_isFlow 14 = .ok (.iconst 0, 1) := by decide +kernel
theorem dX11_isFlow_15 : decode cX11_isFlow 15 = .ok (.ireturn, 1) := by decide +kernel
theorem dX11_cut_0 : decode cX11_cut 0 = .ok (.lload_n 2, 1) := by decide +kernel
theorem dX11_cut_1 : decode cX11_cut 1 = .ok (.lconst 1, 1) := by decide +kernel
theorem dX11_cut_2 : decode cX11_cut 2 = .ok (.aload_n 0, 1) := by decide +kernel
theorem dX11_cut_3 : decode cX11_cut 3 = .ok (.getfield 13, 3) := by decide +kernel
theorem dX11_cut_6 : decode cX11_cut 6 = .ok (.iload_n 1, 1) := by decide +kernel
theorem dX11_cut_7 : decode cX11_cut 7 = .ok (.iaload, 1) := by decide +kernel
theorem dX11_cut_8 : decode cX11_cut 8 = .ok (.lshl, 1) := by decide +kernel
theorem dX11_cut_9 : decode cX11_cut 9 = .ok (.lconst 1, 1) := by decide +kernel
theorem dX11_cut_10 : decode cX11_cut 10 = .ok (.lsub, 1) := by decide +kernel
theorem dX11_cut_11 : decode cX11_cut 11 = .ok (.land, 1) := by decide +kernel
theorem dX11_cut_12 : decode cX11_cut 12 = .ok (.lreturn, 1) := by decide +kernel
theorem dX11_runs_0 : decode cX11_runs 0 = .ok (.aload_n 0, 1) := by decide +kernel
theorem dX11_runs_1 : decode cX11_runs 1 = .ok (.getfield 7, 3) := by decide +kernel
theorem dX11_runs_4 : decode cX11_runs 4 = .ok (.iload_n 1, 1) := by decide +kernel
theorem dX11_runs_5 : decode cX11_runs 5 = .ok (.iaload, 1) := by decide +kernel
theorem dX11_runs_6 : decode cX11_runs 6 = .ok (.iconst 2, 1) := by decide +kernel
theorem dX11_runs_7 : decode cX11_runs 7 = .ok (.if_icmp .eq 13, 3) := by decide +kernel
theorem dX11_runs_10 : decode cX11_runs 10 = .ok (.aload_n 0, 1) := by decide +kernel
theorem dX11_runs_11 : decode cX11_runs 11 = .ok (.getfield 7, 3) := by decide +kernel
theorem dX11_runs_14 : decode cX11_runs 14 = .ok (.iload_n 1, 1) := by decide +kernel
theorem dX11_runs_15 : decode cX11_runs 15 = .ok (.iaload, 1) := by decide +kernel
theorem dX11_runs_16 : decode cX11_runs 16 = .ok (.iconst 3, 1) := by decide +kernel
theorem dX11_runs_17 : decode cX11_runs 17 = .ok (.if_icmp .ne 7, 3) := by decide +kernel
theorem dX11_runs_20 : decode cX11_runs 20 = .ok (.iconst 1, 1) := by decide +kernel
theorem dX11_runs_21 : decode cX11_runs 21 = .ok (.goto 4, 3) := by decide +kernel
theorem dX11_runs_24 : decode cX11_runs 24 = .ok (.iconst 0, 1) := by decide +kernel
theorem dX11_runs_25 : decode cX11_runs 25 = .ok (.ireturn, 1) := by decide +kernel
set_option maxRecDepth 20000 in
theorem ggX11_field_X11_isIn : GoodIn wsX11_field wsX11_isIn := goodIn_r _ [15] (by decide +kernel) (by decide +kernel)
set_option maxRecDepth 20000 in
theorem gX11_field_X11_isIn : GoodIn wsX11_field (va_wsS RX11 153 yX11_isIn wsX11_isIn) := goodIn_app (goodIn_of _ (by decide +kernel)) ggX11_field_X11_isIn
set_option maxRecDepth 20000 in
theorem ggX11_field_X11_isField : GoodIn wsX11_field wsX11_isField := goodIn_r _ [19, 5, 20, 21, 22, 23, 24, 25, 26, 27, 28, 29, 30, 31, 32, 33, 34, 35, 36, 37, 38, 39, 40, 41, 42, 43, 44, 45, 46, 47, 48, 49, 50, 51, 52, 53, 54, 55, 56, 57, 58, 59, 60, 61, 62, 63, 64, 65, 66, 67, 68, 69, 70, 71, 72, 73, 74, 75, 76, 77] (by decide +kernel) (by decide +kernel)
set_option maxRecDepth 20000 in
theorem gX11_field_X11_isField : GoodIn wsX11_field (wsV RX11 159 RX11 yX11_isField wsX11_isField) := goodIn_app (goodIn_of _ (by decide +kernel)) ggX11_field_X11_isField
theorem dX11_field_0 : decode cX11_field 0 = .ok (.aload_n 0, 1) := by decide +kernel
theorem dX11_field_1 : decode cX11_field 1 = .ok (.iconst 0, 1) := by decide +kernel
theorem dX11_field_2 : decode cX11_field 2 = .ok (.putfield 145, 3) := by decide +kernel
theorem dX11_field_5 : decode cX11_field 5 = .ok (.iload_n 1, 1) := by decide +kernel
theorem dX11_field_6 : decode cX11_field 6 = .ok (.i2l, 1) := by decide +kernel
theorem dX11_field_7 : decode cX11_field 7 = .ok (.lconst 0, 1) := by decide +kernel
theorem dX11_field_8 : decode cX11_field 8 = .ok (.ldc2_w 151, 3) := by decide +kernel
theorem dX11_field_11 : decode cX11_field 11 = .ok (.invokestatic 153, 3) := by decide +kernel
theorem dX11_field_14 : decode cX11_field 14 = .ok (.ifCond .eq 50, 3) := by decide +kernel
theorem dX11_field_17 : decode cX11_field 17 = .ok (.iload_n 2, 1) := by decide +kernel
theorem dX11_field_18 : decode cX11_field 18 = .ok (.i2l, 1) := by decide +kernel
theorem dX11_field_19 : decode cX11_field 19 = .ok (.lconst 1, 1) := by decide +kernel
theorem dX11_field_20 : decode cX11_field 20 = .ok (.ldc2_w 157, 3) := by decide +kernel
theorem dX11_field_23 : decode cX11_field 23 = .ok (.invokestatic 153, 3) := by decide +kernel
theorem dX11_field_26 : decode cX11_field 26 = .ok (.ifCond .eq 38, 3) := by decide +kernel
theorem dX11_field_29 : decode cX11_field 29 = .ok (.iload_n 1, 1) := by decide +kernel
theorem dX11_field_30 : decode cX11_field 30 = .ok (.iconst 1, 1) := by decide +kernel
theorem dX11_field_31 : decode cX11_field 31 = .ok (.if_icmp .ne 11, 3) := by decide +kernel
theorem dX11_field_34 : decode cX11_field 34 = .ok (.aload_n 0, 1) := by decide +kernel
theorem dX11_field_35 : decode cX11_field 35 = .ok (.iload_n 3, 1) := by decide +kernel
theorem dX11_field_36 : decode cX11_field 36 = .ok (.invokevirtual 159, 3) := by decide +kernel
theorem dX11_field_39 : decode cX11_field 39 = .ok (.ifCond .eq 25, 3) := by decide +kernel
theorem dX11_field_42 : decode cX11_field 42 = .ok (.iload_n 1, 1) := by decide +kernel
theorem dX11_field_43 : decode cX11_field 43 = .ok (.iconst 3, 1) := by decide +kernel
theorem dX11_field_44 : decode cX11_field 44 = .ok (.if_icmp .ne 16, 3) := by decide +kernel
theorem dX11_field_47 : decode cX11_field 47 = .ok (.iload 4, 2) := by decide +kernel
theorem dX11_field_49 : decode cX11_field 49 = .ok (.i2l, 1) := by decide +kernel
theorem dX11_field_50 : decode cX11_field 50 = .ok (.lconst 1, 1) := by decide +kernel
theorem dX11_field_51 : decode cX11_field 51 = .ok (.ldc2_w 163, 3) := by decide +kernel
theorem dX11_field_54 : decode cX11_field 54 = .ok (.invokestatic 153, 3) := by decide +kernel
theorem dX11_field_57 : decode cX11_field 57 = .ok (.ifCond .eq 7, 3) := by decide +kernel
theorem dX11_field_60 : decode cX11_field 60 = .ok (.iconst 1, 1) := by decide +kernel
theorem dX11_field_61 : decode cX11_field 61 = .ok (.goto 4, 3) := by decide +kernel
theorem dX11_field_64 : decode cX11_field 64 = .ok (.iconst 0, 1) := by decide +kernel
theorem dX11_field_65 : decode cX11_field 65 = .ok (.istore 5, 2) := by decide +kernel
theorem dX11_field_67 : decode cX11_field 67 = .ok (.iload 5, 2) := by decide +kernel
theorem dX11_field_69 : decode cX11_field 69 = .ok (.ifCond .ne 5, 3) := by decide +kernel
theorem dX11_field_72 : decode cX11_field 72 = .ok (.iconst (-1), 1) := by decide +kernel
theorem dX11_field_73 : decode cX11_field 73 = .ok (.ireturn, 1) := by decide +kernel
theorem dX11_field_74 : decode cX11_field 74 = .ok (.aload_n 0, 1) := by decide +kernel
theorem dX11_field_75 : decode cX11_field 75 = .ok (.getfield 148, 3) := by decide +kernel
theorem dX11_field_78 : decode cX11_field 78 = .ok (.bipush 8, 2) := by decide +kernel
theorem dX11_field_80 : decode cX11_field 80 = .ok (.if_icmp .ne 6, 3) := by decide +kernel
theorem dX11_field_83 : decode cX11_field 83 = .ok (.bipush (-2), 2) := by decide +kernel
theorem dX11_field_85 : decode cX11_field 85 = .ok (.ireturn, 1) := by decide +kernel
theorem dX11_field_86 : decode cX11_field 86 = .ok (.aload_n 0, 1) := by decide +kernel
theorem dX11_field_87 : decode cX11_field 87 = .ok (.getfield 165, 3) := by decide +kernel
theorem dX11_field_90 : decode cX11_field 90 = .ok (.ifCond .eq 6, 3) := by decide +kernel
theorem dX11_field_93 : decode cX11_field 93 = .ok (.bipush (-3), 2) := by decide +kernel
theorem dX11_field_95 : decode cX11_field 95 = .ok (.ireturn, 1) := by decide +kernel
theorem dX11_field_96 : decode cX11_field 96 = .ok (.aload_n 0, 1) := by decide +kernel
theorem dX11_field_97 : decode cX11_field 97 = .ok (.getfield 7, 3) := by decide +kernel
theorem dX11_field_100 : decode cX11_field 100 = .ok (.aload_n 0, 1) := by decide +kernel
theorem dX11_field_101 : decode cX11_field 101 = .ok (.getfield 148, 3) := by decide +kernel
theorem dX11_field_104 : decode cX11_field 104 = .ok (.iload_n 1, 1) := by decide +kernel
theorem dX11_field_105 : decode cX11_field 105 = .ok (.iastore, 1) := by decide +kernel
theorem dX11_field_106 : decode cX11_field 106 = .ok (.aload_n 0, 1) := by decide +kernel
theorem dX11_field_107 : decode cX11_field 107 = .ok (.getfield 13, 3) := by decide +kernel
theorem dX11_field_110 : decode cX11_field 110 = .ok (.aload_n 0, 1) := by decide +kernel
theorem dX11_field_111 : decode cX11_field 111 = .ok (.getfield 148, 3) := by decide +kernel
theorem dX11_field_114 : decode cX11_field 114 = .ok (.iload_n 2, 1) := by decide +kernel
theorem dX11_field_115 : decode cX11_field 115 = .ok (.iastore, 1) := by decide +kernel
theorem dX11_field_116 : decode cX11_field 116 = .ok (.aload_n 0, 1) := by decide +kernel
theorem dX11_field_117 : decode cX11_field 117 = .ok (.getfield 16, 3) := by decide +kernel
theorem dX11_field_120 : decode cX11_field 120 = .ok (.aload_n 0, 1) := by decide +kernel
theorem dX11_field_121 : decode cX11_field 121 = .ok (.getfield 148, 3) := by decide +kernel
theorem dX11_field_124 : decode cX11_field 124 = .ok (.iload_n 3, 1) := by decide +kernel
theorem dX11_field_125 : decode cX11_field 125 = .ok (.iastore, 1) := by decide +kernel
theorem dX11_field_126 : decode cX11_field 126 = .ok (.aload_n 0, 1) := by decide +kernel
theorem dX11_field_127 : decode cX11_field 127 = .ok (.getfield 19, 3) := by decide +kernel
theorem dX11_field_130 : decode cX11_field 130 = .ok (.aload_n 0, 1) := by decide +kernel
theorem dX11_field_131 : decode cX11_field 131 = .ok (.getfield 148, 3) := by decide +kernel
theorem dX11_field_134 : decode cX11_field 134 = .ok (.iload 4, 2) := by decide +kernel
theorem dX11_field_136 : decode cX11_field 136 = .ok (.i2l, 1) := by decide +kernel
theorem dX11_field_137 : decode cX11_field 137 = .ok (.lastore, 1) := by decide +kernel
theorem dX11_field_138 : decode cX11_field 138 = .ok (.aload_n 0, 1) := by decide +kernel
theorem dX11_field_139 : decode cX11_field 139 = .ok (.getfield 23, 3) := by decide +kernel
theorem dX11_field_142 : decode cX11_field 142 = .ok (.aload_n 0, 1) := by decide +kernel
theorem dX11_field_143 : decode cX11_field 143 = .ok (.getfield 148, 3) := by decide +kernel
theorem dX11_field_146 : decode cX11_field 146 = .ok (.lconst 0, 1) := by decide +kernel
theorem dX11_field_147 : decode cX11_field 147 = .ok (.lastore, 1) := by decide +kernel
theorem dX11_field_148 : decode cX11_field 148 = .ok (.aload_n 0, 1) := by decide +kernel
theorem dX11_field_149 : decode cX11_field 149 = .ok (.dup, 1) := by decide +kernel
theorem dX11_field_150 : decode cX11_field 150 = .ok (.getfield 148, 3) := by decide +kernel
theorem dX11_field_153 : decode cX11_field 153 = .ok (.iconst 1, 1) := by decide +kernel
theorem dX11_field_154 : decode cX11_field 154 = .ok (.iadd, 1) := by decide +kernel
theorem dX11_field_155 : decode cX11_field 155 = .ok (.putfield 148, 3) := by decide +kernel
theorem dX11_field_158 : decode cX11_field 158 = .ok (.aload_n 0, 1) := by decide +kernel
theorem dX11_field_159 : decode cX11_field 159 = .ok (.getfield 148, 3) := by decide +kernel
theorem dX11_field_162 : decode cX11_field 162 = .ok (.iconst 1, 1) := by decide +kernel
theorem dX11_field_163 : decode cX11_field 163 = .ok (.isub, 1) := by decide +kernel
theorem dX11_field_164 : decode cX11_field 164 = .ok (.ireturn, 1) := by decide +kernel
set_option maxRecDepth 20000 in
theorem ggX11_set_X11_isField : GoodIn wsX11_set wsX11_isField := goodIn_r _ [8, 9, 15, 16, 17, 18, 19, 20, 21, 22, 23, 24, 25, 26, 27, 28, 29, 30, 31, 32, 33, 34, 35, 36, 37, 38, 39, 40, 41, 42, 43, 44, 45, 46, 47, 48, 49, 50, 51, 52, 53, 54, 55, 56, 57, 58, 59, 60, 61, 62, 63, 64, 65, 66, 67, 68, 69, 70, 71, 72] (by decide +kernel) (by decide +kernel)
set_option maxRecDepth 20000 in
theorem gX11_set_X11_isField : GoodIn wsX11_set (wsV RX11 159 RX11 yX11_isField wsX11_isField) := goodIn_app (goodIn_of _ (by decide +kernel)) ggX11_set_X11_isField
set_option maxRecDepth 20000 in
theorem ggX11_set_X11_cut : GoodIn wsX11_set wsX11_cut := goodIn_r _ [13, 14, 15, 16, 17, 18, 19, 20, 21, 22, 23, 24, 25, 26, 27, 28, 29, 30, 31, 32, 33, 34, 35, 36, 37, 38, 39, 40, 41, 42, 43, 44, 45, 46, 47, 48, 49, 50, 51, 52, 53, 54, 55, 56, 57, 58, 59, 60, 61, 62, 63, 64, 65, 66, 67, 68, 69, 70, 71, 72] (by decide +kernel) (by decide +kernel)
set_option maxRecDepth 20000 in
theorem gX11_set_X11_cut : GoodIn wsX11_set (wsV RX11 171 RX11 yX11_cut wsX11_cut) := goodIn_app (goodIn_of _ (by decide +kernel)) ggX11_set_X11_cut
theorem dX11_set_0 : decode cX11_set 0 = .ok (.aload_n 0, 1) := by decide +kernel
theorem dX11_set_1 : decode cX11_set 1 = .ok (.iconst 0, 1) := by decide +kernel
theorem dX11_set_2 : decode cX11_set 2 = .ok (.putfield 145, 3) := by decide +kernel
theorem dX11_set_5 : decode cX11_set 5 = .ok (.aload_n 0, 1) := by decide +kernel
theorem dX11_set_6 : decode cX11_set 6 = .ok (.iload_n 1, 1) := by decide +kernel
theorem dX11_set_7 : decode cX11_set 7 = .ok (.invokevirtual 159, 3) := by decide +kernel
theorem dX11_set_10 : decode cX11_set 10 = .ok (.ifCond .ne 7, 3) := by decide +kernel
theorem dX11_set_13 : decode cX11_set 13 = .ok (.ldc2_w 169, 3) := by decide +kernel
theorem dX11_set_16 : decode cX11_set 16 = .ok (.lreturn, 1) := by decide +kernel
theorem dX11_set_17 : decode cX11_set 17 = .ok (.aload_n 0, 1) := by decide +kernel
theorem dX11_set_18 : decode cX11_set 18 = .ok (.getfield 23, 3) := by decide +kernel
theorem dX11_set_21 : decode cX11_set 21 = .ok (.iload_n 1, 1) := by decide +kernel
theorem dX11_set_22 : decode cX11_set 22 = .ok (.laload, 1) := by decide +kernel
theorem dX11_set_23 : decode cX11_set 23 = .ok (.lstore 4, 2) := by decide +kernel
theorem dX11_set_25 : decode cX11_set 25 = .ok (.aload_n 0, 1) := by decide +kernel
theorem dX11_set_26 : decode cX11_set 26 = .ok (.getfield 23, 3) := by decide +kernel
theorem dX11_set_29 : decode cX11_set 29 = .ok (.iload_n 1, 1) := by decide +kernel
theorem dX11_set_30 : decode cX11_set 30 = .ok (.aload_n 0, 1) := by decide +kernel
theorem dX11_set_31 : decode cX11_set 31 = .ok (.iload_n 1, 1) := by decide +kernel
theorem dX11_set_32 : decode cX11_set 32 = .ok (.lload_n 2, 1) := by decide +kernel
theorem dX11_set_33 : decode cX11_set 33 = .ok (.invokevirtual 171, 3) := by decide +kernel
theorem dX11_set_36 : decode cX11_set 36 = .ok (.lastore, 1) := by decide +kernel
theorem dX11_set_37 : decode cX11_set 37 = .ok (.lload 4, 2) := by decide +kernel
theorem dX11_set_39 : decode cX11_set 39 = .ok (.lreturn, 1) := by decide +kernel
set_option maxRecDepth 20000 in
theorem ggX11_stride_X11_isFlow : GoodIn wsX11_stride wsX11_isFlow := goodIn_r _ [8] (by decide +kernel) (by decide +kernel)
set_option maxRecDepth 20000 in
theorem gX11_stride_X11_isFlow : GoodIn wsX11_stride (va_wsS RX11 175 yX11_isFlow wsX11_isFlow) := goodIn_app (goodIn_of _ (by decide +kernel)) ggX11_stride_X11_isFlow
set_option maxRecDepth 20000 in
theorem ggX11_stride_X11_isField : GoodIn wsX11_stride wsX11_isField := goodIn_r _ [12, 13, 22, 23, 24, 25, 26, 27, 28, 29, 30, 31, 32, 33, 34, 35, 36, 37, 38, 39, 40, 41, 42, 43, 44, 45, 46, 47, 48, 49, 50, 51, 52, 53, 54, 55, 56, 57, 58, 59, 60, 61, 62, 63, 64, 65, 66, 67, 68, 69, 70, 71, 72, 73, 74, 75, 76, 77, 78, 79] (by decide +kernel) (by decide +kernel)
set_option maxRecDepth 20000 in
theorem gX11_stride_X11_isField : GoodIn wsX11_stride (wsV RX11 159 RX11 yX11_isField wsX11_isField) := goodIn_app (goodIn_of _ (by decide +kernel)) ggX11_stride_X11_isField
set_option maxRecDepth 20000 in
theorem ggX11_stride_X11_runs : GoodIn wsX11_stride wsX11_runs := goodIn_r _ [17, 18, 22, 23, 24, 25, 26, 27, 28, 29, 30, 31, 32, 33, 34, 35, 36, 37, 38, 39, 40, 41, 42, 43, 44, 45, 46, 47, 48, 49, 50, 51, 52, 53, 54, 55, 56, 57, 58, 59, 60, 61, 62, 63, 64, 65, 66, 67, 68, 69, 70, 71, 72, 73, 74, 75, 76, 77, 78, 79] (by decide +kernel) (by decide +kernel)
set_option maxRecDepth 20000 in
theorem gX11_stride_X11_runs : GoodIn wsX11_stride (wsV RX11 178 RX11 yX11_runs wsX11_runs) := goodIn_app (goodIn_of _ (by decide +kernel)) ggX11_stride_X11_runs
set_option maxRecDepth 20000 in
theorem ggX11_stride_X11_isIn : GoodIn wsX11_stride wsX11_isIn := goodIn_r _ [21] (by decide +kernel) (by decide +kernel)
set_option maxRecDepth 20000 in
theorem gX11_stride_X11_isIn : GoodIn wsX11_stride (va_wsS RX11 153 yX11_isIn wsX11_isIn) := goodIn_app (goodIn_of _ (by decide +kernel)) ggX11_stride_X11_isIn
theorem dX11_stride_0 : decode cX11_stride 0 = .ok (.aload_n 0, 1) := by decide +kernel
theorem dX11_stride_1 : decode cX11_stride 1 = .ok (.iconst 0, 1) := by decide +kernel
theorem dX11_stride_2 : decode cX11_stride 2 = .ok (.putfield 145, 3) := by decide +kernel
theorem dX11_stride_5 : decode cX11_stride 5 = .ok (.iload_n 1, 1) := by decide +kernel
theorem dX11_stride_6 : decode cX11_stride 6 = .ok (.invokestatic 175, 3) := by decide +kernel
theorem dX11_stride_9 : decode cX11_stride 9 = .ok (.ifCond .eq 31, 3) := by decide +kernel
theorem dX11_stride_12 : decode cX11_stride 12 = .ok (.aload_n 0, 1) := by decide +kernel
theorem dX11_stride_13 : decode cX11_stride 13 = .ok (.iload_n 2, 1) := by decide +kernel
theorem dX11_stride_14 : decode cX11_stride 14 = .ok (.invokevirtual 159, 3) := by decide +kernel
theorem dX11_stride_17 : decode cX11_stride 17 = .ok (.ifCond .eq 23, 3) := by decide +kernel
theorem dX11_stride_20 : decode cX11_stride 20 = .ok (.aload_n 0, 1) := by decide +kernel
theorem dX11_stride_21 : decode cX11_stride 21 = .ok (.iload_n 2, 1) := by decide +kernel
theorem dX11_stride_22 : decode cX11_stride 22 = .ok (.invokevirtual 178, 3) := by decide +kernel
theorem dX11_stride_25 : decode cX11_stride 25 = .ok (.ifCond .eq 15, 3) := by decide +kernel
theorem dX11_stride_28 : decode cX11_stride 28 = .ok (.iload_n 3, 1) := by decide +kernel
theorem dX11_stride_29 : decode cX11_stride 29 = .ok (.i2l, 1) := by decide +kernel
theorem dX11_stride_30 : decode cX11_stride 30 = .ok (.lconst 0, 1) := by decide +kernel
theorem dX11_stride_31 : decode cX11_stride 31 = .ok (.ldc2_w 181, 3) := by decide +kernel
theorem dX11_stride_34 : decode cX11_stride 34 = .ok (.invokestatic 153, 3) := by decide +kernel
theorem dX11_stride_37 : decode cX11_stride 37 = .ok (.ifCond .ne 5, 3) := by decide +kernel
theorem dX11_stride_40 : decode cX11_stride 40 = .ok (.iconst (-1), 1) := by decide +kernel
theorem dX11_stride_41 : decode cX11_stride 41 = .ok (.ireturn, 1) := by decide +kernel
theorem dX11_stride_42 : decode cX11_stride 42 = .ok (.aload_n 0, 1) := by decide +kernel
theorem dX11_stride_43 : decode cX11_stride 43 = .ok (.getfield 32, 3) := by decide +kernel
theorem dX11_stride_46 : decode cX11_stride 46 = .ok (.bipush 8, 2) := by decide +kernel
theorem dX11_stride_48 : decode cX11_stride 48 = .ok (.iload_n 1, 1) := by decide +kernel
theorem dX11_stride_49 : decode cX11_stride 49 = .ok (.imul, 1) := by decide +kernel
theorem dX11_stride_50 : decode cX11_stride 50 = .ok (.iload_n 2, 1) := by decide +kernel
theorem dX11_stride_51 : decode cX11_stride 51 = .ok (.iadd, 1) := by decide +kernel
theorem dX11_stride_52 : decode cX11_stride 52 = .ok (.iaload, 1) := by decide +kernel
theorem dX11_stride_53 : decode cX11_stride 53 = .ok (.istore 4, 2) := by decide +kernel
theorem dX11_stride_55 : decode cX11_stride 55 = .ok (.aload_n 0, 1) := by decide +kernel
theorem dX11_stride_56 : decode cX11_stride 56 = .ok (.getfield 32, 3) := by decide +kernel
theorem dX11_stride_59 : decode cX11_stride 59 = .ok (.bipush 8, 2) := by decide +kernel
theorem dX11_stride_61 : decode cX11_stride 61 = .ok (.iload_n 1, 1) := by decide +kernel
theorem dX11_stride_62 : decode cX11_stride 62 = .ok (.imul, 1) := by decide +kernel
theorem dX11_stride_63 : decode cX11_stride 63 = .ok (.iload_n 2, 1) := by decide +kernel
theorem dX11_stride_64 : decode cX11_stride 64 = .ok (.iadd, 1) := by decide +kernel
theorem dX11_stride_65 : decode cX11_stride 65 = .ok (.iload_n 3, 1) := by decide +kernel
theorem dX11_stride_66 : decode cX11_stride 66 = .ok (.iastore, 1) := by decide +kernel
theorem dX11_stride_67 : decode cX11_stride 67 = .ok (.aload_n 0, 1) := by decide +kernel
theorem dX11_stride_68 : decode cX11_stride 68 = .ok (.getfield 35, 3) := by decide +kernel
theorem dX11_stride_71 : decode cX11_stride 71 = .ok (.iload_n 1, 1) := by decide +kernel
theorem dX11_stride_72 : decode cX11_stride 72 = .ok (.iconst 1, 1) := by decide +kernel
theorem dX11_stride_73 : decode cX11_stride 73 = .ok (.bastore, 1) := by decide +kernel
theorem dX11_stride_74 : decode cX11_stride 74 = .ok (.iload 4, 2) := by decide +kernel
theorem dX11_stride_76 : decode cX11_stride 76 = .ok (.ireturn, 1) := by decide +kernel
set_option maxRecDepth 20000 in
theorem ggX11_onwards_X11_cut : GoodIn wsX11_onwards wsX11_cut := goodIn_r _ [7, 8, 9, 10, 11, 12, 13, 14, 15, 16, 17, 18, 19, 20, 21, 22, 23, 24, 25, 26, 27, 28, 29, 30, 31, 32, 33, 34, 35, 36, 37, 38, 39, 40, 41, 42, 43, 44, 45, 46, 47, 48, 49, 50, 51, 52, 53, 54, 55, 56, 57, 58, 59, 60, 61, 62, 63, 64, 65, 66] (by decide +kernel) (by decide +kernel)
set_option maxRecDepth 20000 in
theorem gX11_onwards_X11_cut : GoodIn wsX11_onwards (wsV RX11 171 RX11 yX11_cut wsX11_cut) := goodIn_app (goodIn_of _ (by decide +kernel)) ggX11_onwards_X11_cut
theorem dX11_onwards_0 : decode cX11_onwards 0 = .ok (.aload_n 0, 1) := by decide +kernel
theorem dX11_onwards_1 : decode cX11_onwards 1 = .ok (.getfield 7, 3) := by decide +kernel
theorem dX11_onwards_4 : decode cX11_onwards 4 = .ok (.iload_n 1, 1) := by decide +kernel
theorem dX11_onwards_5 : decode cX11_onwards 5 = .ok (.iaload, 1) := by decide +kernel
theorem dX11_onwards_6 : decode cX11_onwards 6 = .ok (.iconst 4, 1) := by decide +kernel
theorem dX11_onwards_7 : decode cX11_onwards 7 = .ok (.if_icmp .ne 5, 3) := by decide +kernel
theorem dX11_onwards_10 : decode cX11_onwards 10 = .ok (.lconst 0, 1) := by decide +kernel
theorem dX11_onwards_11 : decode cX11_onwards 11 = .ok (.lreturn, 1) := by decide +kernel
theorem dX11_onwards_12 : decode cX11_onwards 12 = .ok (.aload_n 0, 1) := by decide +kernel
theorem dX11_onwards_13 : decode cX11_onwards 13 = .ok (.getfield 7, 3) := by decide +kernel
theorem dX11_onwards_16 : decode cX11_onwards 16 = .ok (.iload_n 1, 1) := by decide +kernel
theorem dX11_onwards_17 : decode cX11_onwards 17 = .ok (.iaload, 1) := by decide +kernel
theorem dX11_onwards_18 : decode cX11_onwards 18 = .ok (.iconst 2, 1) := by decide +kernel
theorem dX11_onwards_19 : decode cX11_onwards 19 = .ok (.if_icmp .ge 5, 3) := by decide +kernel
theorem dX11_onwards_22 : decode cX11_onwards 22 = .ok (.lload_n 2, 1) := by decide +kernel
theorem dX11_onwards_23 : decode cX11_onwards 23 = .ok (.lreturn, 1) := by decide +kernel
theorem dX11_onwards_24 : decode cX11_onwards 24 = .ok (.aload_n 0, 1) := by decide +kernel
theorem dX11_onwards_25 : decode cX11_onwards 25 = .ok (.iload_n 1, 1) := by decide +kernel
theorem dX11_onwards_26 : decode cX11_onwards 26 = .ok (.lload_n 2, 1) := by decide +kernel
theorem dX11_onwards_27 : decode cX11_onwards 27 = .ok (.iload 4, 2) := by decide +kernel
theorem dX11_onwards_29 : decode cX11_onwards 29 = .ok (.i2l, 1) := by decide +kernel
theorem dX11_onwards_30 : decode cX11_onwards 30 = .ok (.iload 5, 2) := by decide +kernel
theorem dX11_onwards_32 : decode cX11_onwards 32 = .ok (.i2l, 1) := by decide +kernel
theorem dX11_onwards_33 : decode cX11_onwards 33 = .ok (.lmul, 1) := by decide +kernel
theorem dX11_onwards_34 : decode cX11_onwards 34 = .ok (.aload_n 0, 1) := by decide +kernel
theorem dX11_onwards_35 : decode cX11_onwards 35 = .ok (.getfield 7, 3) := by decide +kernel
theorem dX11_onwards_38 : decode cX11_onwards 38 = .ok (.iload_n 1, 1) := by decide +kernel
theorem dX11_onwards_39 : decode cX11_onwards 39 = .ok (.iaload, 1) := by decide +kernel
theorem dX11_onwards_40 : decode cX11_onwards 40 = .ok (.iconst 3, 1) := by decide +kernel
theorem dX11_onwards_41 : decode cX11_onwards 41 = .ok (.if_icmp .ne 12, 3) := by decide +kernel
theorem dX11_onwards_44 : decode cX11_onwards 44 = .ok (.aload_n 0, 1) := by decide +kernel
theorem dX11_onwards_45 : decode cX11_onwards 45 = .ok (.getfield 19, 3) := by decide +kernel
theorem dX11_onwards_48 : decode cX11_onwards 48 = .ok (.iload_n 1, 1) := by decide +kernel
theorem dX11_onwards_49 : decode cX11_onwards 49 = .ok (.laload, 1) := by decide +kernel
theorem dX11_onwards_50 : decode cX11_onwards 50 = .ok (.goto 4, 3) := by decide +kernel
theorem dX11_onwards_53 : decode cX11_onwards 53 = .ok (.lconst 1, 1) := by decide +kernel
theorem dX11_onwards_54 : decode cX11_onwards 54 = .ok (.lmul, 1) := by decide +kernel
theorem dX11_onwards_55 : decode cX11_onwards 55 = .ok (.ladd, 1) := by decide +kernel
theorem dX11_onwards_56 : decode cX11_onwards 56 = .ok (.invokevirtual 171, 3) := by decide +kernel
theorem dX11_onwards_59 : decode cX11_onwards 59 = .ok (.lreturn, 1) := by decide +kernel
set_option maxRecDepth 20000 in
theorem ggX11_given_X11_cut : GoodIn wsX11_given wsX11_cut := goodIn_r _ [12, 13, 18, 19, 20, 21, 22, 23, 24, 25, 26, 27, 28, 29, 30, 31, 32, 33, 34, 35, 36, 37, 38, 39, 40, 41, 42, 43, 44, 45, 46, 47, 48, 49, 50, 51, 52, 53, 54, 55, 56, 57, 58, 59, 60, 61, 62, 63, 64, 65, 66, 67, 68, 69, 70, 71, 72, 73, 74, 75] (by decide +kernel) (by decide +kernel)
set_option maxRecDepth 20000 in
theorem gX11_given_X11_cut : GoodIn wsX11_given (wsV RX11 171 RX11 yX11_cut wsX11_cut) := goodIn_app (goodIn_of _ (by decide +kernel)) ggX11_given_X11_cut
set_option maxRecDepth 20000 in
theorem ggX11_given_X11_onwards : GoodIn wsX11_given wsX11_onwards := goodIn_r _ [17, 1, 4, 8, 9, 10, 11, 12, 13, 18, 19, 20, 21, 22, 23, 24, 25, 26, 27, 28, 29, 30, 31, 32, 33, 34, 35, 36, 37, 38, 39, 40, 41, 42, 43, 44, 45, 46, 47, 48, 49, 50, 51, 52, 53, 54, 55, 56, 57, 58, 59, 60, 61, 62, 63, 64, 65, 66, 67, 68, 69, 70, 71, 72, 73, 74, 75] (by decide +kernel) (by decide +kernel)
set_option maxRecDepth 20000 in
theorem gX11_given_X11_onwards : GoodIn wsX11_given (wsV RX11 183 RX11 yX11_onwards wsX11_onwards) := goodIn_app (goodIn_of _ (by decide +kernel)) ggX11_given_X11_onwards
theorem dX11_given_0 : decode cX11_given 0 = .ok (.aload_n 0, 1) := by decide +kernel
theorem dX11_given_1 : decode cX11_given 1 = .ok (.getfield 7, 3) := by decide +kernel
theorem dX11_given_4 : decode cX11_given 4 = .ok (.iload_n 3, 1) := by decide +kernel
theorem dX11_given_5 : decode cX11_given 5 = .ok (.iaload, 1) := by decide +kernel
theorem dX11_given_6 : decode cX11_given 6 = .ok (.iconst 1, 1) := by decide +kernel
theorem dX11_given_7 : decode cX11_given 7 = .ok (.if_icmp .ne 27, 3) := by decide +kernel
theorem dX11_given_10 : decode cX11_given 10 = .ok (.aload_n 0, 1) := by decide +kernel
theorem dX11_given_11 : decode cX11_given 11 = .ok (.iload_n 3, 1) := by decide +kernel
theorem dX11_given_12 : decode cX11_given 12 = .ok (.aload_n 0, 1) := by decide +kernel
theorem dX11_given_13 : decode cX11_given 13 = .ok (.getfield 23, 3) := by decide +kernel
theorem dX11_given_16 : decode cX11_given 16 = .ok (.aload_n 0, 1) := by decide +kernel
theorem dX11_given_17 : decode cX11_given 17 = .ok (.getfield 16, 3) := by decide +kernel
theorem dX11_given_20 : decode cX11_given 20 = .ok (.iload_n 3, 1) := by decide +kernel
theorem dX11_given_21 : decode cX11_given 21 = .ok (.iaload, 1) := by decide +kernel
theorem dX11_given_22 : decode cX11_given 22 = .ok (.laload, 1) := by decide +kernel
theorem dX11_given_23 : decode cX11_given 23 = .ok (.aload_n 0, 1) := by decide +kernel
theorem dX11_given_24 : decode cX11_given 24 = .ok (.getfield 19, 3) := by decide +kernel
theorem dX11_given_27 : decode cX11_given 27 = .ok (.iload_n 3, 1) := by decide +kernel
theorem dX11_given_28 : decode cX11_given 28 = .ok (.laload, 1) := by decide +kernel
theorem dX11_given_29 : decode cX11_given 29 = .ok (.ladd, 1) := by decide +kernel
theorem dX11_given_30 : decode cX11_given 30 = .ok (.invokevirtual 171, 3) := by decide +kernel
theorem dX11_given_33 : decode cX11_given 33 = .ok (.lreturn, 1) := by decide +kernel
theorem dX11_given_34 : decode cX11_given 34 = .ok (.bipush 9, 2) := by decide +kernel
theorem dX11_given_36 : decode cX11_given 36 = .ok (.iload_n 1, 1) := by decide +kernel
theorem dX11_given_37 : decode cX11_given 37 = .ok (.imul, 1) := by decide +kernel
theorem dX11_given_38 : decode cX11_given 38 = .ok (.iload_n 2, 1) := by decide +kernel
theorem dX11_given_39 : decode cX11_given 39 = .ok (.iadd, 1) := by decide +kernel
theorem dX11_given_40 : decode cX11_given 40 = .ok (.istore 5, 2) := by decide +kernel
theorem dX11_given_42 : decode cX11_given 42 = .ok (.aload_n 0, 1) := by decide +kernel
theorem dX11_given_43 : decode cX11_given 43 = .ok (.iload_n 3, 1) := by decide +kernel
theorem dX11_given_44 : decode cX11_given 44 = .ok (.aload_n 0, 1) := by decide +kernel
theorem dX11_given_45 : decode cX11_given 45 = .ok (.getfield 45, 3) := by decide +kernel
theorem dX11_given_48 : decode cX11_given 48 = .ok (.bipush 8, 2) := by decide +kernel
theorem dX11_given_50 : decode cX11_given 50 = .ok (.iload 5, 2) := by decide +kernel
theorem dX11_given_52 : decode cX11_given 52 = .ok (.imul, 1) := by decide +kernel
theorem dX11_given_53 : decode cX11_given 53 = .ok (.iload_n 3, 1) := by decide +kernel
theorem dX11_given_54 : decode cX11_given 54 = .ok (.iadd, 1) := by decide +kernel
theorem dX11_given_55 : decode cX11_given 55 = .ok (.laload, 1) := by decide +kernel
theorem dX11_given_56 : decode cX11_given 56 = .ok (.iload 4, 2) := by decide +kernel
theorem dX11_given_58 : decode cX11_given 58 = .ok (.aload_n 0, 1) := by decide +kernel
theorem dX11_given_59 : decode cX11_given 59 = .ok (.getfield 42, 3) := by decide +kernel
theorem dX11_given_62 : decode cX11_given 62 = .ok (.iload 5, 2) := by decide +kernel
theorem dX11_given_64 : decode cX11_given 64 = .ok (.iaload, 1) := by decide +kernel
theorem dX11_given_65 : decode cX11_given 65 = .ok (.isub, 1) := by decide +kernel
theorem dX11_given_66 : decode cX11_given 66 = .ok (.aload_n 0, 1) := by decide +kernel
theorem dX11_given_67 : decode cX11_given 67 = .ok (.getfield 32, 3) := by decide +kernel
theorem dX11_given_70 : decode cX11_given 70 = .ok (.bipush 8, 2) := by decide +kernel
theorem dX11_given_72 : decode cX11_given 72 = .ok (.iload_n 1, 1) := by decide +kernel
theorem dX11_given_73 : decode cX11_given 73 = .ok (.imul, 1) := by decide +kernel
theorem dX11_given_74 : decode cX11_given 74 = .ok (.iload_n 3, 1) := by decide +kernel
theorem dX11_given_75 : decode cX11_given 75 = .ok (.iadd, 1) := by decide +kernel
theorem dX11_given_76 : decode cX11_given 76 = .ok (.iaload, 1) := by decide +kernel
theorem dX11_given_77 : decode cX11_given 77 = .ok (.invokevirtual 183, 3) := by decide +kernel
theorem dX11_given_80 : decode cX11_given 80 = .ok (.lreturn, 1) := by decide +kernel
set_option maxRecDepth 20000 in
theorem ggX11_finds_X11_cut : GoodIn wsX11_finds wsX11_cut := goodIn_r _ [5, 6, 7, 8, 9, 10, 11, 12, 13, 14, 15, 16, 17, 18, 19, 20, 21, 22, 23, 24, 25, 26, 27, 28, 29, 30, 31, 32, 33, 34, 35, 36, 37, 38, 39, 40, 41, 42, 43, 44, 45, 46, 47, 48, 49, 50, 51, 52, 53, 54, 55, 56, 57, 58, 59, 60, 61, 62, 63, 64] (by decide +kernel) (by decide +kernel)
set_option maxRecDepth 20000 in
theorem gX11_finds_X11_cut : GoodIn wsX11_finds (wsV RX11 171 RX11 yX11_cut wsX11_cut) := goodIn_app (goodIn_of _ (by decide +kernel)) ggX11_finds_X11_cut
theorem dX11_finds_0 : decode cX11_finds 0 = .ok (.iload 6, 2) := by decide +kernel
theorem dX11_finds_2 : decode cX11_finds 2 = .ok (.ifCond .ne 18, 3) := by decide +kernel
theorem dX11_finds_5 : decode cX11_finds 5 = .ok (.lload_n 2, 1) := by decide +kernel
theorem dX11_finds_6 : decode cX11_finds 6 = .ok (.lload 4, 2) := by decide +kernel
theorem dX11_finds_8 : decode cX11_finds 8 = .ok (.lcmp, 1) := by decide +kernel
theorem dX11_finds_9 : decode cX11_finds 9 = .ok (.ifCond .ne 7, 3) := by decide +kernel
theorem dX11_finds_12 : decode cX11_finds 12 = .ok (.iconst 1, 1) := by decide +kernel
theorem dX11_finds_13 : decode cX11_finds 13 = .ok (.goto 36, 3) := by decide +kernel
theorem dX11_finds_16 : decode cX11_finds 16 = .ok (.iconst 0, 1) := by decide +kernel
theorem dX11_finds_17 : decode cX11_finds 17 = .ok (.goto 32, 3) := by decide +kernel
theorem dX11_finds_20 : decode cX11_finds 20 = .ok (.aload_n 0, 1) := by decide +kernel
theorem dX11_finds_21 : decode cX11_finds 21 = .ok (.iload_n 1, 1) := by decide +kernel
theorem dX11_finds_22 : decode cX11_finds 22 = .ok (.lload 4, 2) := by decide +kernel
theorem dX11_finds_24 : decode cX11_finds 24 = .ok (.lload_n 2, 1) := by decide +kernel
theorem dX11_finds_25 : decode cX11_finds 25 = .ok (.lsub, 1) := by decide +kernel
theorem dX11_finds_26 : decode cX11_finds 26 = .ok (.lconst 1, 1) := by decide +kernel
theorem dX11_finds_27 : decode cX11_finds 27 = .ok (.iload 6, 2) := by decide +kernel
theorem dX11_finds_29 : decode cX11_finds 29 = .ok (.iconst 1, 1) := by decide +kernel
theorem dX11_finds_30 : decode cX11_finds 30 = .ok (.isub, 1) := by decide +kernel
theorem dX11_finds_31 : decode cX11_finds 31 = .ok (.lshl, 1) := by decide +kernel
theorem dX11_finds_32 : decode cX11_finds 32 = .ok (.ladd, 1) := by decide +kernel
theorem dX11_finds_33 : decode cX11_finds 33 = .ok (.invokevirtual 171, 3) := by decide +kernel
theorem dX11_finds_36 : decode cX11_finds 36 = .ok (.lconst 1, 1) := by decide +kernel
theorem dX11_finds_37 : decode cX11_finds 37 = .ok (.iload 6, 2) := by decide +kernel
theorem dX11_finds_39 : decode cX11_finds 39 = .ok (.lshl, 1) := by decide +kernel
theorem dX11_finds_40 : decode cX11_finds 40 = .ok (.lcmp, 1) := by decide +kernel
theorem dX11_finds_41 : decode cX11_finds 41 = .ok (.ifCond .ge 7, 3) := by decide +kernel
theorem dX11_finds_44 : decode cX11_finds 44 = .ok (.iconst 1, 1) := by decide +kernel
theorem dX11_finds_45 : decode cX11_finds 45 = .ok (.goto 4, 3) := by decide +kernel
theorem dX11_finds_48 : decode cX11_finds 48 = .ok (.iconst 0, 1) := by decide +kernel
theorem dX11_finds_49 : decode cX11_finds 49 = .ok (.ireturn, 1) := by decide +kernel
set_option maxRecDepth 20000 in
theorem ggX11_giveAll_X11_given : GoodIn wsX11_giveAll wsX11_given := goodIn_r _ [7, 8, 2, 9, 10, 11, 12, 13, 14, 15, 16, 6, 17, 18, 19, 20, 21, 22, 23, 24, 25, 26, 27, 28, 29, 30, 31, 32, 33, 34, 35, 36, 37, 38, 39, 40, 41, 42, 43, 44, 45, 46, 47, 48, 49, 50, 51, 52, 53, 54, 55, 56, 57, 58, 59, 60, 61, 62, 63, 64, 65, 66, 67, 68, 69, 70, 71, 72, 73, 74, 75, 76, 77, 78, 79, 80] (by decide +kernel) (by decide +kernel)
set_option maxRecDepth 20000 in
theorem gX11_giveAll_X11_given : GoodIn wsX11_giveAll (wsV RX11 187 RX11 yX11_given wsX11_given) := goodIn_app (goodIn_of _ (by decide +kernel)) ggX11_giveAll_X11_given
theorem dX11_giveAll_0 : decode cX11_giveAll 0 = .ok (.iconst 1, 1) := by decide +kernel
theorem dX11_giveAll_1 : decode cX11_giveAll 1 = .ok (.istore 4, 2) := by decide +kernel
theorem dX11_giveAll_3 : decode cX11_giveAll 3 = .ok (.iconst 0, 1) := by decide +kernel
theorem dX11_giveAll_4 : decode cX11_giveAll 4 = .ok (.istore 5, 2) := by decide +kernel
theorem dX11_giveAll_6 : decode cX11_giveAll 6 = .ok (.iload 5, 2) := by decide +kernel
theorem dX11_giveAll_8 : decode cX11_giveAll 8 = .ok (.aload_n 0, 1) := by decide +kernel
theorem dX11_giveAll_9 : decode cX11_giveAll 9 = .ok (.getfield 39, 3) := by decide +kernel
theorem dX11_giveAll_12 : decode cX11_giveAll 12 = .ok (.iload_n 1, 1) := by decide +kernel
theorem dX11_giveAll_13 : decode cX11_giveAll 13 = .ok (.iaload, 1) := by decide +kernel
theorem dX11_giveAll_14 : decode cX11_giveAll 14 = .ok (.if_icmp .ge 40, 3) := by decide +kernel
theorem dX11_giveAll_17 : decode cX11_giveAll 17 = .ok (.iload 4, 2) := by decide +kernel
theorem dX11_giveAll_19 : decode cX11_giveAll 19 = .ok (.ifCond .eq 26, 3) := by decide +kernel
theorem dX11_giveAll_22 : decode cX11_giveAll 22 = .ok (.aload_n 0, 1) := by decide +kernel
theorem dX11_giveAll_23 : decode cX11_giveAll 23 = .ok (.iload_n 1, 1) := by decide +kernel
theorem dX11_giveAll_24 : decode cX11_giveAll 24 = .ok (.iload 5, 2) := by decide +kernel
theorem dX11_giveAll_26 : decode cX11_giveAll 26 = .ok (.iload_n 2, 1) := by decide +kernel
theorem dX11_giveAll_27 : decode cX11_giveAll 27 = .ok (.iload_n 3, 1) := by decide +kernel
theorem dX11_giveAll_28 : decode cX11_giveAll 28 = .ok (.invokevirtual 187, 3) := by decide +kernel
theorem dX11_giveAll_31 : decode cX11_giveAll 31 = .ok (.aload_n 0, 1) := by decide +kernel
theorem dX11_giveAll_32 : decode cX11_giveAll 32 = .ok (.getfield 23, 3) := by decide +kernel
theorem dX11_giveAll_35 : decode cX11_giveAll 35 = .ok (.iload_n 2, 1) := by decide +kernel
theorem dX11_giveAll_36 : decode cX11_giveAll 36 = .ok (.laload, 1) := by decide +kernel
theorem dX11_giveAll_37 : decode cX11_giveAll 37 = .ok (.lcmp, 1) := by decide +kernel
theorem dX11_giveAll_38 : decode cX11_giveAll 38 = .ok (.ifCond .ne 7, 3) := by decide +kernel
theorem dX11_giveAll_41 : decode cX11_giveAll 41 = .ok (.iconst 1, 1) := by decide +kernel
theorem dX11_giveAll_42 : decode cX11_giveAll 42 = .ok (.goto 4, 3) := by decide +kernel
theorem dX11_giveAll_45 : decode cX11_giveAll 45 = .ok (.iconst 0, 1) := by decide +kernel
theorem dX11_giveAll_46 : decode cX11_giveAll 46 = .ok (.istore 4, 2) := by decide +kernel
theorem dX11_giveAll_48 : decode cX11_giveAll 48 = .ok (.iinc 5 1, 3) := by decide +kernel
theorem dX11_giveAll_51 : decode cX11_giveAll 51 = .ok (.goto (-45), 3) := by decide +kernel
theorem dX11_giveAll_54 : decode cX11_giveAll 54 = .ok (.iload 4, 2) := by decide +kernel
theorem dX11_giveAll_56 : decode cX11_giveAll 56 = .ok (.ireturn, 1) := by decide +kernel
set_option maxRecDepth 20000 in
theorem ggX11_serves_X11_given : GoodIn wsX11_serves wsX11_given := goodIn_r _ [7, 8, 2, 9, 10, 11, 12, 13, 14, 15, 16, 6, 17, 18, 19, 20, 21, 22, 27, 28, 29, 30, 31, 32, 33, 34, 35, 36, 37, 38, 39, 40, 41, 42, 43, 44, 45, 46, 47, 48, 49, 50, 51, 52, 53, 54, 55, 56, 57, 58, 59, 60, 61, 62, 63, 64, 65, 66, 67, 68, 69, 70, 71, 72, 73, 74, 75, 76, 77, 78, 79, 80, 81, 82, 83, 84] (by decide +kernel) (by decide +kernel)
set_option maxRecDepth 20000 in
theorem gX11_serves_X11_given : GoodIn wsX11_serves (wsV RX11 187 RX11 yX11_given wsX11_given) := goodIn_app (goodIn_of _ (by decide +kernel)) ggX11_serves_X11_given
set_option maxRecDepth 20000 in
theorem ggX11_serves_X11_finds : GoodIn wsX11_serves wsX11_finds := goodIn_r _ [26, 14, 15, 16, 6, 17, 18, 27, 28, 29, 30, 31, 32, 33, 34, 35, 36, 37, 38, 39, 40, 41, 42, 43, 44, 45, 46, 47, 48, 49, 50, 51, 52, 53, 54, 55, 56, 57, 58, 59, 60, 61, 62, 63, 64, 65, 66, 67, 68, 69, 70, 71, 72, 73, 74, 75, 76, 77, 78, 79, 80, 81, 82, 83, 84] (by decide +kernel) (by decide +kernel)
set_option maxRecDepth 20000 in
theorem gX11_serves_X11_finds : GoodIn wsX11_serves (wsV RX11 191 RX11 yX11_finds wsX11_finds) := goodIn_app (goodIn_of _ (by decide +kernel)) ggX11_serves_X11_finds
theorem dX11_serves_0 : decode cX11_serves 0 = .ok (.iconst 1, 1) := by decide +kernel
theorem dX11_serves_1 : decode cX11_serves 1 = .ok (.istore 5, 2) := by decide +kernel
theorem dX11_serves_3 : decode cX11_serves 3 = .ok (.iconst 0, 1) := by decide +kernel
theorem dX11_serves_4 : decode cX11_serves 4 = .ok (.istore 6, 2) := by decide +kernel
theorem dX11_serves_6 : decode cX11_serves 6 = .ok (.iload 6, 2) := by decide +kernel
theorem dX11_serves_8 : decode cX11_serves 8 = .ok (.aload_n 0, 1) := by decide +kernel
theorem dX11_serves_9 : decode cX11_serves 9 = .ok (.getfield 39, 3) := by decide +kernel
theorem dX11_serves_12 : decode cX11_serves 12 = .ok (.iload_n 1, 1) := by decide +kernel
theorem dX11_serves_13 : decode cX11_serves 13 = .ok (.iaload, 1) := by decide +kernel
theorem dX11_serves_14 : decode cX11_serves 14 = .ok (.if_icmp .ge 46, 3) := by decide +kernel
theorem dX11_serves_17 : decode cX11_serves 17 = .ok (.iload 5, 2) := by decide +kernel
theorem dX11_serves_19 : decode cX11_serves 19 = .ok (.ifCond .eq 32, 3) := by decide +kernel
theorem dX11_serves_22 : decode cX11_serves 22 = .ok (.aload_n 0, 1) := by decide +kernel
theorem dX11_serves_23 : decode cX11_serves 23 = .ok (.iload_n 2, 1) := by decide +kernel
theorem dX11_serves_24 : decode cX11_serves 24 = .ok (.aload_n 0, 1) := by decide +kernel
theorem dX11_serves_25 : decode cX11_serves 25 = .ok (.iload_n 1, 1) := by decide +kernel
theorem dX11_serves_26 : decode cX11_serves 26 = .ok (.iload 6, 2) := by decide +kernel
theorem dX11_serves_28 : decode cX11_serves 28 = .ok (.iload_n 2, 1) := by decide +kernel
theorem dX11_serves_29 : decode cX11_serves 29 = .ok (.iload_n 3, 1) := by decide +kernel
theorem dX11_serves_30 : decode cX11_serves 30 = .ok (.invokevirtual 187, 3) := by decide +kernel
theorem dX11_serves_33 : decode cX11_serves 33 = .ok (.aload_n 0, 1) := by decide +kernel
theorem dX11_serves_34 : decode cX11_serves 34 = .ok (.getfield 23, 3) := by decide +kernel
theorem dX11_serves_37 : decode cX11_serves 37 = .ok (.iload_n 2, 1) := by decide +kernel
theorem dX11_serves_38 : decode cX11_serves 38 = .ok (.laload, 1) := by decide +kernel
theorem dX11_serves_39 : decode cX11_serves 39 = .ok (.iload 4, 2) := by decide +kernel
theorem dX11_serves_41 : decode cX11_serves 41 = .ok (.invokevirtual 191, 3) := by decide +kernel
theorem dX11_serves_44 : decode cX11_serves 44 = .ok (.ifCond .eq 7, 3) := by decide +kernel
theorem dX11_serves_47 : decode cX11_serves 47 = .ok (.iconst 1, 1) := by decide +kernel
theorem dX11_serves_48 : decode cX11_serves 48 = .ok (.goto 4, 3) := by decide +kernel
theorem dX11_serves_51 : decode cX11_serves 51 = .ok (.iconst 0, 1) := by decide +kernel
theorem dX11_serves_52 : decode cX11_serves 52 = .ok (.istore 5, 2) := by decide +kernel
theorem dX11_serves_54 : decode cX11_serves 54 = .ok (.iinc 6 1, 3) := by decide +kernel
theorem dX11_serves_57 : decode cX11_serves 57 = .ok (.goto (-51), 3) := by decide +kernel
theorem dX11_serves_60 : decode cX11_serves 60 = .ok (.iload 5, 2) := by decide +kernel
theorem dX11_serves_62 : decode cX11_serves 62 = .ok (.ireturn, 1) := by decide +kernel
theorem dX11_say_0 : decode cX11_say 0 = .ok (.iload_n 3, 1) := by decide +kernel
theorem dX11_say_1 : decode cX11_say 1 = .ok (.iconst 1, 1) := by decide +kernel
theorem dX11_say_2 : decode cX11_say 2 = .ok (.isub, 1) := by decide +kernel
theorem dX11_say_3 : decode cX11_say 3 = .ok (.istore 4, 2) := by decide +kernel
theorem dX11_say_5 : decode cX11_say 5 = .ok (.iload 4, 2) := by decide +kernel
theorem dX11_say_7 : decode cX11_say 7 = .ok (.ifCond .lt 35, 3) := by decide +kernel
theorem dX11_say_10 : decode cX11_say 10 = .ok (.aload_n 0, 1) := by decide +kernel
theorem dX11_say_11 : decode cX11_say 11 = .ok (.getfield 108, 3) := by decide +kernel
theorem dX11_say_14 : decode cX11_say 14 = .ok (.aload_n 0, 1) := by decide +kernel
theorem dX11_say_15 : decode cX11_say 15 = .ok (.getfield 195, 3) := by decide +kernel
theorem dX11_say_18 : decode cX11_say 18 = .ok (.lload_n 1, 1) := by decide +kernel
theorem dX11_say_19 : decode cX11_say 19 = .ok (.iload 4, 2) := by decide +kernel
theorem dX11_say_21 : decode cX11_say 21 = .ok (.lshr, 1) := by decide +kernel
theorem dX11_say_22 : decode cX11_say 22 = .ok (.lconst 1, 1) := by decide +kernel
theorem dX11_say_23 : decode cX11_say 23 = .ok (.land, 1) := by decide +kernel
theorem dX11_say_24 : decode cX11_say 24 = .ok (.l2i, 1) := by decide +kernel
theorem dX11_say_25 : decode cX11_say 25 = .ok (.iastore, 1) := by decide +kernel
theorem dX11_say_26 : decode cX11_say 26 = .ok (.aload_n 0, 1) := by decide +kernel
theorem dX11_say_27 : decode cX11_say 27 = .ok (.dup, 1) := by decide +kernel
theorem dX11_say_28 : decode cX11_say 28 = .ok (.getfield 195, 3) := by decide +kernel
theorem dX11_say_31 : decode cX11_say 31 = .ok (.iconst 1, 1) := by decide +kernel
theorem dX11_say_32 : decode cX11_say 32 = .ok (.iadd, 1) := by decide +kernel
theorem dX11_say_33 : decode cX11_say 33 = .ok (.putfield 195, 3) := by decide +kernel
theorem dX11_say_36 : decode cX11_say 36 = .ok (.iinc 4 (-1), 3) := by decide +kernel
theorem dX11_say_39 : decode cX11_say 39 = .ok (.goto (-34), 3) := by decide +kernel
theorem dX11_say_42 : decode cX11_say 42 = .ok (.return_, 1) := by decide +kernel
theorem dX11_sumOf_0 : decode cX11_sumOf 0 = .ok (.ldc2_w 198, 3) := by decide +kernel
theorem dX11_sumOf_3 : decode cX11_sumOf 3 = .ok (.lload_n 1, 1) := by decide +kernel
theorem dX11_sumOf_4 : decode cX11_sumOf 4 = .ok (.lmul, 1) := by decide +kernel
theorem dX11_sumOf_5 : decode cX11_sumOf 5 = .ok (.lload_n 3, 1) := by decide +kernel
theorem dX11_sumOf_6 : decode cX11_sumOf 6 = .ok (.ladd, 1) := by decide +kernel
theorem dX11_sumOf_7 : decode cX11_sumOf 7 = .ok (.ldc2_w 181, 3) := by decide +kernel
theorem dX11_sumOf_10 : decode cX11_sumOf 10 = .ok (.land, 1) := by decide +kernel
theorem dX11_sumOf_11 : decode cX11_sumOf 11 = .ok (.l2i, 1) := by decide +kernel
theorem dX11_sumOf_12 : decode cX11_sumOf 12 = .ok (.ireturn, 1) := by decide +kernel
set_option maxRecDepth 20000 in
theorem ggX11_draftSum_X11_sumOf : GoodIn wsX11_draftSum wsX11_sumOf := goodIn_r _ [7, 8, 9] (by decide +kernel) (by decide +kernel)
set_option maxRecDepth 20000 in
theorem gX11_draftSum_X11_sumOf : GoodIn wsX11_draftSum (wsV RX11 200 RX11 yX11_sumOf wsX11_sumOf) := goodIn_app (goodIn_of _ (by decide +kernel)) ggX11_draftSum_X11_sumOf
theorem dX11_draftSum_0 : decode cX11_draftSum 0 = .ok (.bipush 17, 2) := by decide +kernel
theorem dX11_draftSum_2 : decode cX11_draftSum 2 = .ok (.istore_n 1, 1) := by decide +kernel
theorem dX11_draftSum_3 : decode cX11_draftSum 3 = .ok (.iconst 0, 1) := by decide +kernel
theorem dX11_draftSum_4 : decode cX11_draftSum 4 = .ok (.istore_n 2, 1) := by decide +kernel
theorem dX11_draftSum_5 : decode cX11_draftSum 5 = .ok (.iload_n 2, 1) := by decide +kernel
theorem dX11_draftSum_6 : decode cX11_draftSum 6 = .ok (.aload_n 0, 1) := by decide +kernel
theorem dX11_draftSum_7 : decode cX11_draftSum 7 = .ok (.getfield 148, 3) := by decide +kernel
theorem dX11_draftSum_10 : decode cX11_draftSum 10 = .ok (.if_icmp .ge 22, 3) := by decide +kernel
theorem dX11_draftSum_13 : decode cX11_draftSum 13 = .ok (.aload_n 0, 1) := by decide +kernel
theorem dX11_draftSum_14 : decode cX11_draftSum 14 = .ok (.iload_n 1, 1) := by decide +kernel
theorem dX11_draftSum_15 : decode cX11_draftSum 15 = .ok (.i2l, 1) := by decide +kernel
theorem dX11_draftSum_16 : decode cX11_draftSum 16 = .ok (.aload_n 0, 1) := by decide +kernel
theorem dX11_draftSum_17 : decode cX11_draftSum 17 = .ok (.getfield 23, 3) := by decide +kernel
theorem dX11_draftSum_20 : decode cX11_draftSum 20 = .ok (.iload_n 2, 1) := by decide +kernel
theorem dX11_draftSum_21 : decode cX11_draftSum 21 = .ok (.laload, 1) := by decide +kernel
theorem dX11_draftSum_22 : decode cX11_draftSum 22 = .ok (.invokevirtual 200, 3) := by decide +kernel
theorem dX11_draftSum_25 : decode cX11_draftSum 25 = .ok (.istore_n 1, 1) := by decide +kernel
theorem dX11_draftSum_26 : decode cX11_draftSum 26 = .ok (.iinc 2 1, 3) := by decide +kernel
theorem dX11_draftSum_29 : decode cX11_draftSum 29 = .ok (.goto (-24), 3) := by decide +kernel
