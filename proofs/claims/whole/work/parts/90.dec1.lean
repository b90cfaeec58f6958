set_option maxRecDepth 20000 in
theorem ggX0_init_X3_init : GoodIn wsX0_init wsX3_init := goodIn_r _ [16, 17, 2, 3, 12, 18, 19, 20] (by decide +kernel) (by decide +kernel)
set_option maxRecDepth 20000 in
theorem gX0_init_X3_init_n11 : GoodIn wsX0_init (wsX3_init) := ggX0_init_X3_init
theorem dX0_init_0 : decode cX0_init 0 = .ok (.aload_n 0, 1) := by decide +kernel
theorem dX0_init_1 : decode cX0_init 1 = .ok (.invokespecial 3, 3) := by decide +kernel
theorem dX0_init_4 : decode cX0_init 4 = .ok (.aload_n 0, 1) := by decide +kernel
theorem dX0_init_5 : decode cX0_init 5 = .ok (.new 9, 3) := by decide +kernel
theorem dX0_init_8 : decode cX0_init 8 = .ok (.dup, 1) := by decide +kernel
theorem dX0_init_9 : decode cX0_init 9 = .ok (.invokespecial 11, 3) := by decide +kernel
theorem dX0_init_12 : decode cX0_init 12 = .ok (.putfield 12, 3) := by decide +kernel
theorem dX0_init_15 : decode cX0_init 15 = .ok (.aload_n 0, 1) := by decide +kernel
theorem dX0_init_16 : decode cX0_init 16 = .ok (.bipush 8, 2) := by decide +kernel
theorem dX0_init_18 : decode cX0_init 18 = .ok (.newarray .int, 2) := by decide +kernel
theorem dX0_init_20 : decode cX0_init 20 = .ok (.putfield 18, 3) := by decide +kernel
theorem dX0_init_23 : decode cX0_init 23 = .ok (.aload_n 0, 1) := by decide +kernel
theorem dX0_init_24 : decode cX0_init 24 = .ok (.bipush 8, 2) := by decide +kernel
theorem dX0_init_26 : decode cX0_init 26 = .ok (.newarray .int, 2) := by decide +kernel
theorem dX0_init_28 : decode cX0_init 28 = .ok (.putfield 22, 3) := by decide +kernel
theorem dX0_init_31 : decode cX0_init 31 = .ok (.aload_n 0, 1) := by decide +kernel
theorem dX0_init_32 : decode cX0_init 32 = .ok (.bipush 8, 2) := by decide +kernel
theorem dX0_init_34 : decode cX0_init 34 = .ok (.newarray .int, 2) := by decide +kernel
theorem dX0_init_36 : decode cX0_init 36 = .ok (.putfield 25, 3) := by decide +kernel
theorem dX0_init_39 : decode cX0_init 39 = .ok (.aload_n 0, 1) := by decide +kernel
theorem dX0_init_40 : decode cX0_init 40 = .ok (.bipush 8, 2) := by decide +kernel
theorem dX0_init_42 : decode cX0_init 42 = .ok (.newarray .long, 2) := by decide +kernel
theorem dX0_init_44 : decode cX0_init 44 = .ok (.putfield 28, 3) := by decide +kernel
theorem dX0_init_47 : decode cX0_init 47 = .ok (.aload_n 0, 1) := by decide +kernel
theorem dX0_init_48 : decode cX0_init 48 = .ok (.iconst 0, 1) := by decide +kernel
theorem dX0_init_49 : decode cX0_init 49 = .ok (.newarray .int, 2) := by decide +kernel
theorem dX0_init_51 : decode cX0_init 51 = .ok (.putfield 32, 3) := by decide +kernel
theorem dX0_init_54 : decode cX0_init 54 = .ok (.return_, 1) := by decide +kernel
set_option maxRecDepth 20000 in
theorem ggX0_parse_X0_read : GoodIn wsX0_parse wsX0_read := goodIn_r _ [15, 3, 2, 1, 52, 53, 54, 55, 56, 57, 58, 59, 60, 61, 62, 63] (by decide +kernel) (by decide +kernel)
set_option maxRecDepth 20000 in
theorem gX0_parse_X0_read : GoodIn wsX0_parse (wsV RX0 43 RX0 yX0_read wsX0_read) := goodIn_app (goodIn_of _ (by decide +kernel)) ggX0_parse_X0_read
set_option maxRecDepth 20000 in
theorem ggX0_parse_X0_readField : GoodIn wsX0_parse wsX0_readField := goodIn_r _ [19, 20, 4, 21, 22, 3, 23, 24, 25, 14, 26, 27, 28, 29, 11, 12, 13, 15, 2, 1, 30, 31, 32, 33, 34, 35, 36, 37, 38, 39, 40, 66, 67, 68, 69, 70, 52, 53, 54, 55, 56, 57, 58, 59, 60, 61, 62, 63] (by decide +kernel) (by decide +kernel)
set_option maxRecDepth 20000 in
theorem gX0_parse_X0_readField : GoodIn wsX0_parse (wsV RX0 64 RX0 yX0_readField wsX0_readField) := goodIn_app (goodIn_of _ (by decide +kernel)) ggX0_parse_X0_readField
set_option maxRecDepth 20000 in
theorem ggX0_parse_X10_endsInCheck : GoodIn wsX0_parse wsX10_endsInCheck := goodIn_r _ [43] (by decide +kernel) (by decide +kernel)
set_option maxRecDepth 20000 in
theorem gX0_parse_X10_endsInCheck_n68 : GoodIn wsX0_parse (wsX10_endsInCheck) := ggX0_parse_X10_endsInCheck
set_option maxRecDepth 20000 in
theorem ggX0_parse_X0_isEndRight : GoodIn wsX0_parse wsX0_isEndRight := goodIn_r _ [47, 2, 4, 1, 48, 42, 49, 41, 43, 11, 12, 13, 14, 15, 3, 50, 51, 52, 53, 54, 55, 56, 57, 58, 59, 60, 61, 62, 63] (by decide +kernel) (by decide +kernel)
set_option maxRecDepth 20000 in
theorem gX0_parse_X0_isEndRight : GoodIn wsX0_parse (wsV RX0 75 RX0 yX0_isEndRight wsX0_isEndRight) := goodIn_app (goodIn_of _ (by decide +kernel)) ggX0_parse_X0_isEndRight
theorem dX0_parse_0 : decode cX0_parse 0 = .ok (.aload_n 0, 1) := by decide +kernel
theorem dX0_parse_1 : decode cX0_parse 1 = .ok (.aload_n 2, 1) := by decide +kernel
theorem dX0_parse_2 : decode cX0_parse 2 = .ok (.putfield 32, 3) := by decide +kernel
theorem dX0_parse_5 : decode cX0_parse 5 = .ok (.aload_n 0, 1) := by decide +kernel
theorem dX0_parse_6 : decode cX0_parse 6 = .ok (.iconst 0, 1) := by decide +kernel
theorem dX0_parse_7 : decode cX0_parse 7 = .ok (.putfield 35, 3) := by decide +kernel
theorem dX0_parse_10 : decode cX0_parse 10 = .ok (.aload_n 0, 1) := by decide +kernel
theorem dX0_parse_11 : decode cX0_parse 11 = .ok (.iconst 0, 1) := by decide +kernel
theorem dX0_parse_12 : decode cX0_parse 12 = .ok (.putfield 39, 3) := by decide +kernel
theorem dX0_parse_15 : decode cX0_parse 15 = .ok (.aload_n 0, 1) := by decide +kernel
theorem dX0_parse_16 : decode cX0_parse 16 = .ok (.aload_n 0, 1) := by decide +kernel
theorem dX0_parse_17 : decode cX0_parse 17 = .ok (.iconst 3, 1) := by decide +kernel
theorem dX0_parse_18 : decode cX0_parse 18 = .ok (.invokevirtual 43, 3) := by decide +kernel
theorem dX0_parse_21 : decode cX0_parse 21 = .ok (.l2i, 1) := by decide +kernel
theorem dX0_parse_22 : decode cX0_parse 22 = .ok (.putfield 47, 3) := by decide +kernel
theorem dX0_parse_25 : decode cX0_parse 25 = .ok (.aload_n 0, 1) := by decide +kernel
theorem dX0_parse_26 : decode cX0_parse 26 = .ok (.aload_n 0, 1) := by decide +kernel
theorem dX0_parse_27 : decode cX0_parse 27 = .ok (.iconst 3, 1) := by decide +kernel
theorem dX0_parse_28 : decode cX0_parse 28 = .ok (.invokevirtual 43, 3) := by decide +kernel
theorem dX0_parse_31 : decode cX0_parse 31 = .ok (.l2i, 1) := by decide +kernel
theorem dX0_parse_32 : decode cX0_parse 32 = .ok (.putfield 50, 3) := by decide +kernel
theorem dX0_parse_35 : decode cX0_parse 35 = .ok (.aload_n 0, 1) := by decide +kernel
theorem dX0_parse_36 : decode cX0_parse 36 = .ok (.getfield 12, 3) := by decide +kernel
theorem dX0_parse_39 : decode cX0_parse 39 = .ok (.aload_n 0, 1) := by decide +kernel
theorem dX0_parse_40 : decode cX0_parse 40 = .ok (.bipush 16, 2) := by decide +kernel
theorem dX0_parse_42 : decode cX0_parse 42 = .ok (.invokevirtual 43, 3) := by decide +kernel
theorem dX0_parse_45 : decode cX0_parse 45 = .ok (.l2i, 1) := by decide +kernel
theorem dX0_parse_46 : decode cX0_parse 46 = .ok (.putfield 53, 3) := by decide +kernel
theorem dX0_parse_49 : decode cX0_parse 49 = .ok (.aload_n 0, 1) := by decide +kernel
theorem dX0_parse_50 : decode cX0_parse 50 = .ok (.getfield 47, 3) := by decide +kernel
theorem dX0_parse_53 : decode cX0_parse 53 = .ok (.iconst 5, 1) := by decide +kernel
theorem dX0_parse_54 : decode cX0_parse 54 = .ok (.if_icmp .le 5, 3) := by decide +kernel
theorem dX0_parse_57 : decode cX0_parse 57 = .ok (.iconst 0, 1) := by decide +kernel
theorem dX0_parse_58 : decode cX0_parse 58 = .ok (.ireturn, 1) := by decide +kernel
theorem dX0_parse_59 : decode cX0_parse 59 = .ok (.aload_n 0, 1) := by decide +kernel
theorem dX0_parse_60 : decode cX0_parse 60 = .ok (.getfield 47, 3) := by decide +kernel
theorem dX0_parse_63 : decode cX0_parse 63 = .ok (.iconst 2, 1) := by decide +kernel
theorem dX0_parse_64 : decode cX0_parse 64 = .ok (.if_icmp .gt 35, 3) := by decide +kernel
theorem dX0_parse_67 : decode cX0_parse 67 = .ok (.aload_n 0, 1) := by decide +kernel
theorem dX0_parse_68 : decode cX0_parse 68 = .ok (.aload_n 0, 1) := by decide +kernel
theorem dX0_parse_69 : decode cX0_parse 69 = .ok (.iconst 4, 1) := by decide +kernel
theorem dX0_parse_70 : decode cX0_parse 70 = .ok (.invokevirtual 43, 3) := by decide +kernel
theorem dX0_parse_73 : decode cX0_parse 73 = .ok (.l2i, 1) := by decide +kernel
theorem dX0_parse_74 : decode cX0_parse 74 = .ok (.putfield 56, 3) := by decide +kernel
theorem dX0_parse_77 : decode cX0_parse 77 = .ok (.iconst 0, 1) := by decide +kernel
theorem dX0_parse_78 : decode cX0_parse 78 = .ok (.istore_n 3, 1) := by decide +kernel
theorem dX0_parse_79 : decode cX0_parse 79 = .ok (.iload_n 3, 1) := by decide +kernel
theorem dX0_parse_80 : decode cX0_parse 80 = .ok (.aload_n 1, 1) := by decide +kernel
theorem dX0_parse_81 : decode cX0_parse 81 = .ok (.getfield 59, 3) := by decide +kernel
theorem dX0_parse_84 : decode cX0_parse 84 = .ok (.if_icmp .ge 15, 3) := by decide +kernel
theorem dX0_parse_87 : decode cX0_parse 87 = .ok (.aload_n 0, 1) := by decide +kernel
theorem dX0_parse_88 : decode cX0_parse 88 = .ok (.aload_n 1, 1) := by decide +kernel
theorem dX0_parse_89 : decode cX0_parse 89 = .ok (.iload_n 3, 1) := by decide +kernel
theorem dX0_parse_90 : decode cX0_parse 90 = .ok (.invokevirtual 64, 3) := by decide +kernel
theorem dX0_parse_93 : decode cX0_parse 93 = .ok (.iinc 3 1, 3) := by decide +kernel
theorem dX0_parse_96 : decode cX0_parse 96 = .ok (.goto (-17), 3) := by decide +kernel
theorem dX0_parse_99 : decode cX0_parse 99 = .ok (.aload_n 0, 1) := by decide +kernel
theorem dX0_parse_100 : decode cX0_parse 100 = .ok (.getfield 47, 3) := by decide +kernel
theorem dX0_parse_103 : decode cX0_parse 103 = .ok (.invokestatic 68, 3) := by decide +kernel
theorem dX0_parse_106 : decode cX0_parse 106 = .ok (.ifCond .ne 14, 3) := by decide +kernel
theorem dX0_parse_109 : decode cX0_parse 109 = .ok (.aload_n 0, 1) := by decide +kernel
theorem dX0_parse_110 : decode cX0_parse 110 = .ok (.aload_n 0, 1) := by decide +kernel
theorem dX0_parse_111 : decode cX0_parse 111 = .ok (.bipush 8, 2) := by decide +kernel
theorem dX0_parse_113 : decode cX0_parse 113 = .ok (.invokevirtual 43, 3) := by decide +kernel
theorem dX0_parse_116 : decode cX0_parse 116 = .ok (.l2i, 1) := by decide +kernel
theorem dX0_parse_117 : decode cX0_parse 117 = .ok (.putfield 72, 3) := by decide +kernel
theorem dX0_parse_120 : decode cX0_parse 120 = .ok (.aload_n 0, 1) := by decide +kernel
theorem dX0_parse_121 : decode cX0_parse 121 = .ok (.getfield 39, 3) := by decide +kernel
theorem dX0_parse_124 : decode cX0_parse 124 = .ok (.ifCond .ne 14, 3) := by decide +kernel
theorem dX0_parse_127 : decode cX0_parse 127 = .ok (.aload_n 0, 1) := by decide +kernel
theorem dX0_parse_128 : decode cX0_parse 128 = .ok (.invokevirtual 75, 3) := by decide +kernel
theorem dX0_parse_131 : decode cX0_parse 131 = .ok (.ifCond .eq 7, 3) := by decide +kernel
theorem dX0_parse_134 : decode cX0_parse 134 = .ok (.iconst 1, 1) := by decide +kernel
theorem dX0_parse_135 : decode cX0_parse 135 = .ok (.goto 4, 3) := by decide +kernel
theorem dX0_parse_138 : decode cX0_parse 138 = .ok (.iconst 0, 1) := by decide +kernel
theorem dX0_parse_139 : decode cX0_parse 139 = .ok (.ireturn, 1) := by decide +kernel
set_option maxRecDepth 20000 in
theorem ggX0_rebuild_X6_given : GoodIn wsX0_rebuild wsX6_given := goodIn_r _ [13, 14, 15, 16, 17, 18, 19, 20, 21, 12, 22, 23, 24, 25, 26, 52, 53, 31, 32, 33, 34, 35] (by decide +kernel) (by decide +kernel)
set_option maxRecDepth 20000 in
theorem gX0_rebuild_X6_given : GoodIn wsX0_rebuild (wsV RX0 83 RX6 yX6_given wsX6_given) := goodIn_app (goodIn_of _ (by decide +kernel)) ggX0_rebuild_X6_given
set_option maxRecDepth 20000 in
theorem ggX0_rebuild_X6_found : GoodIn wsX0_rebuild wsX6_found := goodIn_r _ [30, 24, 25, 26, 19, 20, 21, 12, 22, 23, 31, 32, 33, 34, 35] (by decide +kernel) (by decide +kernel)
set_option maxRecDepth 20000 in
theorem gX0_rebuild_X6_found : GoodIn wsX0_rebuild (wsV RX0 87 RX6 yX6_found wsX6_found) := goodIn_app (goodIn_of _ (by decide +kernel)) ggX0_rebuild_X6_found
theorem dX0_rebuild_0 : decode cX0_rebuild 0 = .ok (.iconst 0, 1) := by decide +kernel
theorem dX0_rebuild_1 : decode cX0_rebuild 1 = .ok (.istore_n 3, 1) := by decide +kernel
theorem dX0_rebuild_2 : decode cX0_rebuild 2 = .ok (.iload_n 3, 1) := by decide +kernel
theorem dX0_rebuild_3 : decode cX0_rebuild 3 = .ok (.aload_n 1, 1) := by decide +kernel
theorem dX0_rebuild_4 : decode cX0_rebuild 4 = .ok (.getfield 59, 3) := by decide +kernel
theorem dX0_rebuild_7 : decode cX0_rebuild 7 = .ok (.if_icmp .ge 89, 3) := by decide +kernel
theorem dX0_rebuild_10 : decode cX0_rebuild 10 = .ok (.aload_n 0, 1) := by decide +kernel
theorem dX0_rebuild_11 : decode cX0_rebuild 11 = .ok (.getfield 28, 3) := by decide +kernel
theorem dX0_rebuild_14 : decode cX0_rebuild 14 = .ok (.iload_n 3, 1) := by decide +kernel
theorem dX0_rebuild_15 : decode cX0_rebuild 15 = .ok (.laload, 1) := by decide +kernel
theorem dX0_rebuild_16 : decode cX0_rebuild 16 = .ok (.lstore 4, 2) := by decide +kernel
theorem dX0_rebuild_18 : decode cX0_rebuild 18 = .ok (.aload_n 0, 1) := by decide +kernel
theorem dX0_rebuild_19 : decode cX0_rebuild 19 = .ok (.getfield 22, 3) := by decide +kernel
theorem dX0_rebuild_22 : decode cX0_rebuild 22 = .ok (.iload_n 3, 1) := by decide +kernel
theorem dX0_rebuild_23 : decode cX0_rebuild 23 = .ok (.iaload, 1) := by decide +kernel
theorem dX0_rebuild_24 : decode cX0_rebuild 24 = .ok (.iconst 2, 1) := by decide +kernel
theorem dX0_rebuild_25 : decode cX0_rebuild 25 = .ok (.if_icmp .eq 54, 3) := by decide +kernel
theorem dX0_rebuild_28 : decode cX0_rebuild 28 = .ok (.aload_n 1, 1) := by decide +kernel
theorem dX0_rebuild_29 : decode cX0_rebuild 29 = .ok (.iload_n 3, 1) := by decide +kernel
theorem dX0_rebuild_30 : decode cX0_rebuild 30 = .ok (.aload_n 2, 1) := by decide +kernel
theorem dX0_rebuild_31 : decode cX0_rebuild 31 = .ok (.getfield 79, 3) := by decide +kernel
theorem dX0_rebuild_34 : decode cX0_rebuild 34 = .ok (.aload_n 2, 1) := by decide +kernel
theorem dX0_rebuild_35 : decode cX0_rebuild 35 = .ok (.getfield 82, 3) := by decide +kernel
theorem dX0_rebuild_38 : decode cX0_rebuild 38 = .ok (.aload_n 0, 1) := by decide +kernel
theorem dX0_rebuild_39 : decode cX0_rebuild 39 = .ok (.getfield 12, 3) := by decide +kernel
theorem dX0_rebuild_42 : decode cX0_rebuild 42 = .ok (.invokevirtual 83, 3) := by decide +kernel
theorem dX0_rebuild_45 : decode cX0_rebuild 45 = .ok (.lstore 6, 2) := by decide +kernel
theorem dX0_rebuild_47 : decode cX0_rebuild 47 = .ok (.aload_n 0, 1) := by decide +kernel
theorem dX0_rebuild_48 : decode cX0_rebuild 48 = .ok (.getfield 22, 3) := by decide +kernel
theorem dX0_rebuild_51 : decode cX0_rebuild 51 = .ok (.iload_n 3, 1) := by decide +kernel
theorem dX0_rebuild_52 : decode cX0_rebuild 52 = .ok (.iaload, 1) := by decide +kernel
theorem dX0_rebuild_53 : decode cX0_rebuild 53 = .ok (.iconst 1, 1) := by decide +kernel
theorem dX0_rebuild_54 : decode cX0_rebuild 54 = .ok (.if_icmp .ne 21, 3) := by decide +kernel
theorem dX0_rebuild_57 : decode cX0_rebuild 57 = .ok (.aload_n 1, 1) := by decide +kernel
theorem dX0_rebuild_58 : decode cX0_rebuild 58 = .ok (.iload_n 3, 1) := by decide +kernel
theorem dX0_rebuild_59 : decode cX0_rebuild 59 = .ok (.lload 6, 2) := by decide +kernel
theorem dX0_rebuild_61 : decode cX0_rebuild 61 = .ok (.aload_n 0, 1) := by decide +kernel
theorem dX0_rebuild_62 : decode cX0_rebuild 62 = .ok (.getfield 25, 3) := by decide +kernel
theorem dX0_rebuild_65 : decode cX0_rebuild 65 = .ok (.iload_n 3, 1) := by decide +kernel
theorem dX0_rebuild_66 : decode cX0_rebuild 66 = .ok (.iaload, 1) := by decide +kernel
theorem dX0_rebuild_67 : decode cX0_rebuild 67 = .ok (.lload 4, 2) := by decide +kernel
theorem dX0_rebuild_69 : decode cX0_rebuild 69 = .ok (.invokevirtual 87, 3) := by decide +kernel
theorem dX0_rebuild_72 : decode cX0_rebuild 72 = .ok (.goto 5, 3) := by decide +kernel
theorem dX0_rebuild_75 : decode cX0_rebuild 75 = .ok (.lload 6, 2) := by decide +kernel
theorem dX0_rebuild_77 : decode cX0_rebuild 77 = .ok (.lstore 4, 2) := by decide +kernel
theorem dX0_rebuild_79 : decode cX0_rebuild 79 = .ok (.aload_n 0, 1) := by decide +kernel
theorem dX0_rebuild_80 : decode cX0_rebuild 80 = .ok (.getfield 12, 3) := by decide +kernel
theorem dX0_rebuild_83 : decode cX0_rebuild 83 = .ok (.getfield 91, 3) := by decide +kernel
theorem dX0_rebuild_86 : decode cX0_rebuild 86 = .ok (.iload_n 3, 1) := by decide +kernel
theorem dX0_rebuild_87 : decode cX0_rebuild 87 = .ok (.lload 4, 2) := by decide +kernel
theorem dX0_rebuild_89 : decode cX0_rebuild 89 = .ok (.lastore, 1) := by decide +kernel
theorem dX0_rebuild_90 : decode cX0_rebuild 90 = .ok (.iinc 3 1, 3) := by decide +kernel
theorem dX0_rebuild_93 : decode cX0_rebuild 93 = .ok (.goto (-91), 3) := by decide +kernel
theorem dX0_rebuild_96 : decode cX0_rebuild 96 = .ok (.return_, 1) := by decide +kernel
set_option maxRecDepth 20000 in
theorem ggX0_readField_X0_readValue : GoodIn wsX0_readField wsX0_readValue := goodIn_r _ [10, 11, 12, 13, 14, 15, 16, 9, 17, 5, 18, 19, 36, 37, 38, 39, 40, 41, 42, 43, 44, 45, 46, 47] (by decide +kernel) (by decide +kernel)
set_option maxRecDepth 20000 in
theorem gX0_readField_X0_readValue : GoodIn wsX0_readField (wsV RX0 100 RX0 yX0_readValue wsX0_readValue) := goodIn_app (goodIn_of _ (by decide +kernel)) ggX0_readField_X0_readValue
set_option maxRecDepth 20000 in
theorem ggX0_readField_X6_hasStride : GoodIn wsX0_readField wsX6_hasStride := goodIn_r _ [24, 25, 26, 27, 28, 23, 29, 30, 31, 32, 33, 34, 35] (by decide +kernel) (by decide +kernel)
set_option maxRecDepth 20000 in
theorem gX0_readField_X6_hasStride : GoodIn wsX0_readField (wsV RX0 104 RX6 yX6_hasStride wsX6_hasStride) := goodIn_app (goodIn_of _ (by decide +kernel)) ggX0_readField_X6_hasStride
set_option maxRecDepth 20000 in
theorem ggX0_readField_X0_read : GoodIn wsX0_readField wsX0_read := goodIn_r _ [17, 5, 18, 19, 36, 37, 38, 39, 40, 41, 42, 43, 44, 45, 46, 47] (by decide +kernel) (by decide +kernel)
set_option maxRecDepth 20000 in
theorem gX0_readField_X0_read : GoodIn wsX0_readField (wsV RX0 43 RX0 yX0_read wsX0_read) := goodIn_app (goodIn_of _ (by decide +kernel)) ggX0_readField_X0_read
theorem dX0_readField_0 : decode cX0_readField 0 = .ok (.aload_n 1, 1) := by decide +kernel
theorem dX0_readField_1 : decode cX0_readField 1 = .ok (.getfield 94, 3) := by decide +kernel
theorem dX0_readField_4 : decode cX0_readField 4 = .ok (.iload_n 2, 1) := by decide +kernel
theorem dX0_readField_5 : decode cX0_readField 5 = .ok (.iaload, 1) := by decide +kernel
theorem dX0_readField_6 : decode cX0_readField 6 = .ok (.iconst 4, 1) := by decide +kernel
theorem dX0_readField_7 : decode cX0_readField 7 = .ok (.if_icmp .ne 7, 3) := by decide +kernel
theorem dX0_readField_10 : decode cX0_readField 10 = .ok (.iconst 1, 1) := by decide +kernel
theorem dX0_readField_11 : decode cX0_readField 11 = .ok (.goto 4, 3) := by decide +kernel
theorem dX0_readField_14 : decode cX0_readField 14 = .ok (.iconst 0, 1) := by decide +kernel
theorem dX0_readField_15 : decode cX0_readField 15 = .ok (.istore_n 3, 1) := by decide +kernel
theorem dX0_readField_16 : decode cX0_readField 16 = .ok (.aload_n 0, 1) := by decide +kernel
theorem dX0_readField_17 : decode cX0_readField 17 = .ok (.getfield 47, 3) := by decide +kernel
theorem dX0_readField_20 : decode cX0_readField 20 = .ok (.ifCond .eq 7, 3) := by decide +kernel
theorem dX0_readField_23 : decode cX0_readField 23 = .ok (.iload_n 3, 1) := by decide +kernel
theorem dX0_readField_24 : decode cX0_readField 24 = .ok (.ifCond .eq 43, 3) := by decide +kernel
theorem dX0_readField_27 : decode cX0_readField 27 = .ok (.aload_n 0, 1) := by decide +kernel
theorem dX0_readField_28 : decode cX0_readField 28 = .ok (.iload_n 2, 1) := by decide +kernel
theorem dX0_readField_29 : decode cX0_readField 29 = .ok (.iconst 2, 1) := by decide +kernel
theorem dX0_readField_30 : decode cX0_readField 30 = .ok (.aload_n 1, 1) := by decide +kernel
theorem dX0_readField_31 : decode cX0_readField 31 = .ok (.getfield 97, 3) := by decide +kernel
theorem dX0_readField_34 : decode cX0_readField 34 = .ok (.iload_n 2, 1) := by decide +kernel
theorem dX0_readField_35 : decode cX0_readField 35 = .ok (.iaload, 1) := by decide +kernel
theorem dX0_readField_36 : decode cX0_readField 36 = .ok (.invokevirtual 100, 3) := by decide +kernel
theorem dX0_readField_39 : decode cX0_readField 39 = .ok (.aload_n 0, 1) := by decide +kernel
theorem dX0_readField_40 : decode cX0_readField 40 = .ok (.getfield 18, 3) := by decide +kernel
theorem dX0_readField_43 : decode cX0_readField 43 = .ok (.iload_n 2, 1) := by decide +kernel
theorem dX0_readField_44 : decode cX0_readField 44 = .ok (.aload_n 1, 1) := by decide +kernel
theorem dX0_readField_45 : decode cX0_readField 45 = .ok (.iload_n 2, 1) := by decide +kernel
theorem dX0_readField_46 : decode cX0_readField 46 = .ok (.invokevirtual 104, 3) := by decide +kernel
theorem dX0_readField_49 : decode cX0_readField 49 = .ok (.ifCond .eq 13, 3) := by decide +kernel
theorem dX0_readField_52 : decode cX0_readField 52 = .ok (.aload_n 0, 1) := by decide +kernel
theorem dX0_readField_53 : decode cX0_readField 53 = .ok (.bipush 8, 2) := by decide +kernel
theorem dX0_readField_55 : decode cX0_readField 55 = .ok (.invokevirtual 43, 3) := by decide +kernel
theorem dX0_readField_58 : decode cX0_readField 58 = .ok (.l2i, 1) := by decide +kernel
theorem dX0_readField_59 : decode cX0_readField 59 = .ok (.goto 4, 3) := by decide +kernel
theorem dX0_readField_62 : decode cX0_readField 62 = .ok (.iconst 1, 1) := by decide +kernel
theorem dX0_readField_63 : decode cX0_readField 63 = .ok (.iastore, 1) := by decide +kernel
theorem dX0_readField_64 : decode cX0_readField 64 = .ok (.goto 123, 3) := by decide +kernel
theorem dX0_readField_67 : decode cX0_readField 67 = .ok (.aload_n 0, 1) := by decide +kernel
theorem dX0_readField_68 : decode cX0_readField 68 = .ok (.getfield 47, 3) := by decide +kernel
theorem dX0_readField_71 : decode cX0_readField 71 = .ok (.iconst 1, 1) := by decide +kernel
theorem dX0_readField_72 : decode cX0_readField 72 = .ok (.if_icmp .ne 53, 3) := by decide +kernel
theorem dX0_readField_75 : decode cX0_readField 75 = .ok (.aload_n 0, 1) := by decide +kernel
theorem dX0_readField_76 : decode cX0_readField 76 = .ok (.iconst 1, 1) := by decide +kernel
theorem dX0_readField_77 : decode cX0_readField 77 = .ok (.invokevirtual 43, 3) := by decide +kernel
theorem dX0_readField_80 : decode cX0_readField 80 = .ok (.lconst 1, 1) := by decide +kernel
theorem dX0_readField_81 : decode cX0_readField 81 = .ok (.lcmp, 1) := by decide +kernel
theorem dX0_readField_82 : decode cX0_readField 82 = .ok (.ifCond .ne 7, 3) := by decide +kernel
theorem dX0_readField_85 : decode cX0_readField 85 = .ok (.iconst 1, 1) := by decide +kernel
theorem dX0_readField_86 : decode cX0_readField 86 = .ok (.goto 4, 3) := by decide +kernel
theorem dX0_readField_89 : decode cX0_readField 89 = .ok (.iconst 0, 1) := by decide +kernel
theorem dX0_readField_90 : decode cX0_readField 90 = .ok (.istore 4, 2) := by decide +kernel
theorem dX0_readField_92 : decode cX0_readField 92 = .ok (.aload_n 0, 1) := by decide +kernel
theorem dX0_readField_93 : decode cX0_readField 93 = .ok (.iload_n 2, 1) := by decide +kernel
theorem dX0_readField_94 : decode cX0_readField 94 = .ok (.iload 4, 2) := by decide +kernel
theorem dX0_readField_96 : decode cX0_readField 96 = .ok (.ifCond .eq 7, 3) := by decide +kernel
theorem dX0_readField_99 : decode cX0_readField 99 = .ok (.iconst 2, 1) := by decide +kernel
theorem dX0_readField_100 : decode cX0_readField 100 = .ok (.goto 4, 3) := by decide +kernel
theorem dX0_readField_103 : decode cX0_readField 103 = .ok (.iconst 0, 1) := by decide +kernel
theorem dX0_readField_104 : decode cX0_readField 104 = .ok (.iload 4, 2) := by decide +kernel
theorem dX0_readField_106 : decode cX0_readField 106 = .ok (.ifCond .eq 12, 3) := by decide +kernel
theorem dX0_readField_109 : decode cX0_readField 109 = .ok (.aload_n 1, 1) := by decide +kernel
theorem dX0_readField_110 : decode cX0_readField 110 = .ok (.getfield 97, 3) := by decide +kernel
theorem dX0_readField_113 : decode cX0_readField 113 = .ok (.iload_n 2, 1) := by decide +kernel
theorem dX0_readField_114 : decode cX0_readField 114 = .ok (.iaload, 1) := by decide +kernel
theorem dX0_readField_115 : decode cX0_readField 115 = .ok (.goto 4, 3) := by decide +kernel
theorem dX0_readField_118 : decode cX0_readField 118 = .ok (.iconst 0, 1) := by decide +kernel
theorem dX0_readField_119 : decode cX0_readField 119 = .ok (.invokevirtual 100, 3) := by decide +kernel
theorem dX0_readField_122 : decode cX0_readField 122 = .ok (.goto 65, 3) := by decide +kernel
theorem dX0_readField_125 : decode cX0_readField 125 = .ok (.aload_n 1, 1) := by decide +kernel
theorem dX0_readField_126 : decode cX0_readField 126 = .ok (.iload_n 2, 1) := by decide +kernel
theorem dX0_readField_127 : decode cX0_readField 127 = .ok (.invokevirtual 104, 3) := by decide +kernel
theorem dX0_readField_130 : decode cX0_readField 130 = .ok (.ifCond .eq 50, 3) := by decide +kernel
theorem dX0_readField_133 : decode cX0_readField 133 = .ok (.aload_n 0, 1) := by decide +kernel
theorem dX0_readField_134 : decode cX0_readField 134 = .ok (.bipush 6, 2) := by decide +kernel
theorem dX0_readField_136 : decode cX0_readField 136 = .ok (.invokevirtual 43, 3) := by decide +kernel
theorem dX0_readField_139 : decode cX0_readField 139 = .ok (.l2i, 1) := by decide +kernel
theorem dX0_readField_140 : decode cX0_readField 140 = .ok (.istore 4, 2) := by decide +kernel
theorem dX0_readField_142 : decode cX0_readField 142 = .ok (.aload_n 0, 1) := by decide +kernel
theorem dX0_readField_143 : decode cX0_readField 143 = .ok (.aload_n 0, 1) := by decide +kernel
theorem dX0_readField_144 : decode cX0_readField 144 = .ok (.getfield 39, 3) := by decide +kernel
theorem dX0_readField_147 : decode cX0_readField 147 = .ok (.ifCond .ne 14, 3) := by decide +kernel
theorem dX0_readField_150 : decode cX0_readField 150 = .ok (.iload 4, 2) := by decide +kernel
theorem dX0_readField_152 : decode cX0_readField 152 = .ok (.aload_n 1, 1) := by decide +kernel
theorem dX0_readField_153 : decode cX0_readField 153 = .ok (.getfield 97, 3) := by decide +kernel
theorem dX0_readField_156 : decode cX0_readField 156 = .ok (.iload_n 2, 1) := by decide +kernel
theorem dX0_readField_157 : decode cX0_readField 157 = .ok (.iaload, 1) := by decide +kernel
theorem dX0_readField_158 : decode cX0_readField 158 = .ok (.if_icmp .le 7, 3) := by decide +kernel
theorem dX0_readField_161 : decode cX0_readField 161 = .ok (.iconst 1, 1) := by decide +kernel
theorem dX0_readField_162 : decode cX0_readField 162 = .ok (.goto 4, 3) := by decide +kernel
theorem dX0_readField_165 : decode cX0_readField 165 = .ok (.iconst 0, 1) := by decide +kernel
theorem dX0_readField_166 : decode cX0_readField 166 = .ok (.putfield 39, 3) := by decide +kernel
theorem dX0_readField_169 : decode cX0_readField 169 = .ok (.aload_n 0, 1) := by decide +kernel
theorem dX0_readField_170 : decode cX0_readField 170 = .ok (.iload_n 2, 1) := by decide +kernel
theorem dX0_readField_171 : decode cX0_readField 171 = .ok (.iconst 1, 1) := by decide +kernel
theorem dX0_readField_172 : decode cX0_readField 172 = .ok (.iload 4, 2) := by decide +kernel
theorem dX0_readField_174 : decode cX0_readField 174 = .ok (.invokevirtual 100, 3) := by decide +kernel
theorem dX0_readField_177 : decode cX0_readField 177 = .ok (.goto 10, 3) := by decide +kernel
theorem dX0_readField_180 : decode cX0_readField 180 = .ok (.aload_n 0, 1) := by decide +kernel
theorem dX0_readField_181 : decode cX0_readField 181 = .ok (.iload_n 2, 1) := by decide +kernel
theorem dX0_readField_182 : decode cX0_readField 182 = .ok (.iconst 0, 1) := by decide +kernel
theorem dX0_readField_183 : decode cX0_readField 183 = .ok (.iconst 0, 1) := by decide +kernel
theorem dX0_readField_184 : decode cX0_readField 184 = .ok (.invokevirtual 100, 3) := by decide +kernel
theorem dX0_readField_187 : decode cX0_readField 187 = .ok (.return_, 1) := by decide +kernel
set_option maxRecDepth 20000 in
theorem ggX0_readValue_X0_read : GoodIn wsX0_readValue wsX0_read := goodIn_r _ [8, 9, 10, 11, 12, 13, 14, 15, 16, 17, 18, 19, 20, 21, 22, 23] (by decide +kernel) (by decide +kernel)
set_option maxRecDepth 20000 in
theorem gX0_readValue_X0_read : GoodIn wsX0_readValue (wsV RX0 43 RX0 yX0_read wsX0_read) := goodIn_app (goodIn_of _ (by decide +kernel)) ggX0_readValue_X0_read
theorem dX0_readValue_0 : decode cX0_readValue 0 = .ok (.aload_n 0, 1) := by decide +kernel
theorem dX0_readValue_1 : decode cX0_readValue 1 = .ok (.getfield 22, 3) := by decide +kernel
theorem dX0_readValue_4 : decode cX0_readValue 4 = .ok (.iload_n 1, 1) := by decide +kernel
theorem dX0_readValue_5 : decode cX0_readValue 5 = .ok (.iload_n 2, 1) := by decide +kernel
theorem dX0_readValue_6 : decode cX0_readValue 6 = .ok (.iastore, 1) := by decide +kernel
theorem dX0_readValue_7 : decode cX0_readValue 7 = .ok (.aload_n 0, 1) := by decide +kernel
theorem dX0_readValue_8 : decode cX0_readValue 8 = .ok (.getfield 25, 3) := by decide +kernel
theorem dX0_readValue_11 : decode cX0_readValue 11 = .ok (.iload_n 1, 1) := by decide +kernel
theorem dX0_readValue_12 : decode cX0_readValue 12 = .ok (.iload_n 3, 1) := by decide +kernel
theorem dX0_readValue_13 : decode cX0_readValue 13 = .ok (.iastore, 1) := by decide +kernel
theorem dX0_readValue_14 : decode cX0_readValue 14 = .ok (.aload_n 0, 1) := by decide +kernel
theorem dX0_readValue_15 : decode cX0_readValue 15 = .ok (.getfield 28, 3) := by decide +kernel
theorem dX0_readValue_18 : decode cX0_readValue 18 = .ok (.iload_n 1, 1) := by decide +kernel
theorem dX0_readValue_19 : decode cX0_readValue 19 = .ok (.aload_n 0, 1) := by decide +kernel
theorem dX0_readValue_20 : decode cX0_readValue 20 = .ok (.iload_n 3, 1) := by decide +kernel
theorem dX0_readValue_21 : decode cX0_readValue 21 = .ok (.invokevirtual 43, 3) := by decide +kernel
theorem dX0_readValue_24 : decode cX0_readValue 24 = .ok (.lastore, 1) := by decide +kernel
theorem dX0_readValue_25 : decode cX0_readValue 25 = .ok (.return_, 1) := by decide +kernel
theorem dX0_read_0 : decode cX0_read 0 = .ok (.aload_n 0, 1) := by decide +kernel
theorem dX0_read_1 : decode cX0_read 1 = .ok (.getfield 39, 3) := by decide +kernel
theorem dX0_read_4 : decode cX0_read 4 = .ok (.ifCond .ne 20, 3) := by decide +kernel
theorem dX0_read_7 : decode cX0_read 7 = .ok (.aload_n 0, 1) := by decide +kernel
theorem dX0_read_8 : decode cX0_read 8 = .ok (.getfield 35, 3) := by decide +kernel
theorem dX0_read_11 : decode cX0_read 11 = .ok (.iload_n 1, 1) := by decide +kernel
theorem dX0_read_12 : decode cX0_read 12 = .ok (.iadd, 1) := by decide +kernel
theorem dX0_read_13 : decode cX0_read 13 = .ok (.aload_n 0, 1) := by decide +kernel
theorem dX0_read_14 : decode cX0_read 14 = .ok (.getfield 32, 3) := by decide +kernel
theorem dX0_read_17 : decode cX0_read 17 = .ok (.arraylength, 1) := by decide +kernel
theorem dX0_read_18 : decode cX0_read 18 = .ok (.bipush 8, 2) := by decide +kernel
theorem dX0_read_20 : decode cX0_read 20 = .ok (.imul, 1) := by decide +kernel
theorem dX0_read_21 : decode cX0_read 21 = .ok (.if_icmp .le 10, 3) := by decide +kernel
theorem dX0_read_24 : decode cX0_read 24 = .ok (.aload_n 0, 1) := by decide +kernel
theorem dX0_read_25 : decode cX0_read 25 = .ok (.iconst 1, 1) := by decide +kernel
theorem dX0_read_26 : decode cX0_read 26 = .ok (.putfield 39, 3) := by decide +kernel
theorem dX0_read_29 : decode cX0_read 29 = .ok (.lconst 0, 1) := by decide +kernel
theorem dX0_read_30 : decode cX0_read 30 = .ok (.lreturn, 1) := by decide +kernel
theorem dX0_read_31 : decode cX0_read 31 = .ok (.lconst 0, 1) := by decide +kernel
theorem dX0_read_32 : decode cX0_read 32 = .ok (.lstore_n 2, 1) := by decide +kernel
theorem dX0_read_33 : decode cX0_read 33 = .ok (.iconst 0, 1) := by decide +kernel
theorem dX0_read_34 : decode cX0_read 34 = .ok (.istore 4, 2) := by decide +kernel
theorem dX0_read_36 : decode cX0_read 36 = .ok (.iload 4, 2) := by decide +kernel
theorem dX0_read_38 : decode cX0_read 38 = .ok (.iload_n 1, 1) := by decide +kernel
theorem dX0_read_39 : decode cX0_read 39 = .ok (.if_icmp .ge 49, 3) := by decide +kernel
theorem dX0_read_42 : decode cX0_read 42 = .ok (.lload_n 2, 1) := by decide +kernel
theorem dX0_read_43 : decode cX0_read 43 = .ok (.iconst 1, 1) := by decide +kernel
theorem dX0_read_44 : decode cX0_read 44 = .ok (.lshl, 1) := by decide +kernel
theorem dX0_read_45 : decode cX0_read 45 = .ok (.aload_n 0, 1) := by decide +kernel
theorem dX0_read_46 : decode cX0_read 46 = .ok (.getfield 32, 3) := by decide +kernel
theorem dX0_read_49 : decode cX0_read 49 = .ok (.aload_n 0, 1) := by decide +kernel
theorem dX0_read_50 : decode cX0_read 50 = .ok (.getfield 35, 3) := by decide +kernel
theorem dX0_read_53 : decode cX0_read 53 = .ok (.iconst 3, 1) := by decide +kernel
theorem dX0_read_54 : decode cX0_read 54 = .ok (.ishr, 1) := by decide +kernel
theorem dX0_read_55 : decode cX0_read 55 = .ok (.iaload, 1) := by decide +kernel
theorem dX0_read_56 : decode cX0_read 56 = .ok (.bipush 7, 2) := by decide +kernel
theorem dX0_read_58 : decode cX0_read 58 = .ok (.aload_n 0, 1) := by decide +kernel
theorem dX0_read_59 : decode cX0_read 59 = .ok (.getfield 35, 3) := by decide +kernel
theorem dX0_read_62 : decode cX0_read 62 = .ok (.bipush 7, 2) := by decide +kernel
theorem dX0_read_64 : decode cX0_read 64 = .ok (.iand, 1) := by decide +kernel
theorem dX0_read_65 : decode cX0_read 65 = .ok (.isub, 1) := by decide +kernel
theorem dX0_read_66 : decode cX0_read 66 = .ok (.ishr, 1) := by decide +kernel
theorem dX0_read_67 : decode cX0_read 67 = .ok (.iconst 1, 1) := by decide +kernel
theorem dX0_read_68 : decode cX0_read 68 = .ok (.iand, 1) := by decide +kernel
theorem dX0_read_69 : decode cX0_read 69 = .ok (.i2l, 1) := by decide +kernel
theorem dX0_read_70 : decode cX0_read 70 = .ok (.lor, 1) := by decide +kernel
theorem dX0_read_71 : decode cX0_read 71 = .ok (.lstore_n 2, 1) := by decide +kernel
theorem dX0_read_72 : decode cX0_read 72 = .ok (.aload_n 0, 1) := by decide +kernel
theorem dX0_read_73 : decode cX0_read 73 = .ok (.dup, 1) := by decide +kernel
theorem dX0_read_74 : decode cX0_read 74 = .ok (.getfield 35, 3) := by decide +kernel
theorem dX0_read_77 : decode cX0_read 77 = .ok (.iconst 1, 1) := by decide +kernel
theorem dX0_read_78 : decode cX0_read 78 = .ok (.iadd, 1) := by decide +kernel
theorem dX0_read_79 : decode cX0_read 79 = .ok (.putfield 35, 3) := by decide +kernel
theorem dX0_read_82 : decode cX0_read 82 = .ok (.iinc 4 1, 3) := by decide +kernel
theorem dX0_read_85 : decode cX0_read 85 = .ok (.goto (-49), 3) := by decide +kernel
theorem dX0_read_88 : decode cX0_read 88 = .ok (.lload_n 2, 1) := by decide +kernel
theorem dX0_read_89 : decode cX0_read 89 = .ok (.lreturn, 1) := by decide +kernel
set_option maxRecDepth 20000 in
theorem ggX0_isEndRight_X10_wholeBytes : GoodIn wsX0_isEndRight wsX10_wholeBytes := goodIn_r _ [6] (by decide +kernel) (by decide +kernel)
set_option maxRecDepth 20000 in
theorem gX0_isEndRight_X10_wholeBytes_n107 : GoodIn wsX0_isEndRight (wsX10_wholeBytes) := ggX0_isEndRight_X10_wholeBytes
set_option maxRecDepth 20000 in
theorem ggX0_isEndRight_X10_endsInCheck : GoodIn wsX0_isEndRight wsX10_endsInCheck := goodIn_r _ [8] (by decide +kernel) (by decide +kernel)
set_option maxRecDepth 20000 in
theorem gX0_isEndRight_X10_endsInCheck_n68 : GoodIn wsX0_isEndRight (wsX10_endsInCheck) := ggX0_isEndRight_X10_endsInCheck
set_option maxRecDepth 20000 in
theorem ggX0_isEndRight_X0_read : GoodIn wsX0_isEndRight wsX0_read := goodIn_r _ [13, 14, 1, 3, 17, 18, 19, 20, 21, 22, 23, 24, 25, 26, 27, 28] (by decide +kernel) (by decide +kernel)
set_option maxRecDepth 20000 in
theorem gX0_isEndRight_X0_read : GoodIn wsX0_isEndRight (wsV RX0 43 RX0 yX0_read wsX0_read) := goodIn_app (goodIn_of _ (by decide +kernel)) ggX0_isEndRight_X0_read
set_option maxRecDepth 20000 in
theorem ggX0_isEndRight_X10_checkOf : GoodIn wsX0_isEndRight wsX10_checkOf := goodIn_r _ [16] (by decide +kernel) (by decide +kernel)
set_option maxRecDepth 20000 in
theorem gX0_isEndRight_X10_checkOf_n111 : GoodIn wsX0_isEndRight (wsX10_checkOf) := ggX0_isEndRight_X10_checkOf
theorem dX0_isEndRight_0 : decode cX0_isEndRight 0 = .ok (.aload_n 0, 1) := by decide +kernel
theorem dX0_isEndRight_1 : decode cX0_isEndRight 1 = .ok (.getfield 35, 3) := by decide +kernel
theorem dX0_isEndRight_4 : decode cX0_isEndRight 4 = .ok (.invokestatic 107, 3) := by decide +kernel
theorem dX0_isEndRight_7 : decode cX0_isEndRight 7 = .ok (.istore_n 1, 1) := by decide +kernel
theorem dX0_isEndRight_8 : decode cX0_isEndRight 8 = .ok (.aload_n 0, 1) := by decide +kernel
theorem dX0_isEndRight_9 : decode cX0_isEndRight 9 = .ok (.getfield 47, 3) := by decide +kernel
theorem dX0_isEndRight_12 : decode cX0_isEndRight 12 = .ok (.invokestatic 68, 3) := by decide +kernel
theorem dX0_isEndRight_15 : decode cX0_isEndRight 15 = .ok (.istore_n 2, 1) := by decide +kernel
theorem dX0_isEndRight_16 : decode cX0_isEndRight 16 = .ok (.aload_n 0, 1) := by decide +kernel
theorem dX0_isEndRight_17 : decode cX0_isEndRight 17 = .ok (.getfield 32, 3) := by decide +kernel
theorem dX0_isEndRight_20 : decode cX0_isEndRight 20 = .ok (.arraylength, 1) := by decide +kernel
theorem dX0_isEndRight_21 : decode cX0_isEndRight 21 = .ok (.iload_n 1, 1) := by decide +kernel
theorem dX0_isEndRight_22 : decode cX0_isEndRight 22 = .ok (.iload_n 2, 1) := by decide +kernel
theorem dX0_isEndRight_23 : decode cX0_isEndRight 23 = .ok (.ifCond .eq 7, 3) := by decide +kernel
theorem dX0_isEndRight_26 : decode cX0_isEndRight 26 = .ok (.iconst 1, 1) := by decide +kernel
theorem dX0_isEndRight_27 : decode cX0_isEndRight 27 = .ok (.goto 4, 3) := by decide +kernel
theorem dX0_isEndRight_30 : decode cX0_isEndRight 30 = .ok (.iconst 0, 1) := by decide +kernel
theorem dX0_isEndRight_31 : decode cX0_isEndRight 31 = .ok (.iadd, 1) := by decide +kernel
theorem dX0_isEndRight_32 : decode cX0_isEndRight 32 = .ok (.if_icmp .eq 5, 3) := by decide +kernel
theorem dX0_isEndRight_35 : decode cX0_isEndRight 35 = .ok (.iconst 0, 1) := by decide +kernel
theorem dX0_isEndRight_36 : decode cX0_isEndRight 36 = .ok (.ireturn, 1) := by decide +kernel
theorem dX0_isEndRight_37 : decode cX0_isEndRight 37 = .ok (.aload_n 0, 1) := by decide +kernel
theorem dX0_isEndRight_38 : decode cX0_isEndRight 38 = .ok (.iload_n 1, 1) := by decide +kernel
theorem dX0_isEndRight_39 : decode cX0_isEndRight 39 = .ok (.bipush 8, 2) := by decide +kernel
theorem dX0_isEndRight_41 : decode cX0_isEndRight 41 = .ok (.imul, 1) := by decide +kernel
theorem dX0_isEndRight_42 : decode cX0_isEndRight 42 = .ok (.aload_n 0, 1) := by decide +kernel
theorem dX0_isEndRight_43 : decode cX0_isEndRight 43 = .ok (.getfield 35, 3) := by decide +kernel
theorem dX0_isEndRight_46 : decode cX0_isEndRight 46 = .ok (.isub, 1) := by decide +kernel
theorem dX0_isEndRight_47 : decode cX0_isEndRight 47 = .ok (.invokevirtual 43, 3) := by decide +kernel
theorem dX0_isEndRight_50 : decode cX0_isEndRight 50 = .ok (.lconst 0, 1) := by decide +kernel
theorem dX0_isEndRight_51 : decode cX0_isEndRight 51 = .ok (.lcmp, 1) := by decide +kernel
theorem dX0_isEndRight_52 : decode cX0_isEndRight 52 = .ok (.ifCond .eq 5, 3) := by decide +kernel
theorem dX0_isEndRight_55 : decode cX0_isEndRight 55 = .ok (.iconst 0, 1) := by decide +kernel
theorem dX0_isEndRight_56 : decode cX0_isEndRight 56 = .ok (.ireturn, 1) := by decide +kernel
theorem dX0_isEndRight_57 : decode cX0_isEndRight 57 = .ok (.iload_n 2, 1) := by decide +kernel
theorem dX0_isEndRight_58 : decode cX0_isEndRight 58 = .ok (.ifCond .eq 20, 3) := by decide +kernel
theorem dX0_isEndRight_61 : decode cX0_isEndRight 61 = .ok (.aload_n 0, 1) := by decide +kernel
theorem dX0_isEndRight_62 : decode cX0_isEndRight 62 = .ok (.getfield 32, 3) := by decide +kernel
theorem dX0_isEndRight_65 : decode cX0_isEndRight 65 = .ok (.iload_n 1, 1) := by decide +kernel
theorem dX0_isEndRight_66 : decode cX0_isEndRight 66 = .ok (.iaload, 1) := by decide +kernel
theorem dX0_isEndRight_67 : decode cX0_isEndRight 67 = .ok (.aload_n 0, 1) := by decide +kernel
theorem dX0_isEndRight_68 : decode cX0_isEndRight 68 = .ok (.getfield 32, 3) := by decide +kernel
theorem dX0_isEndRight_71 : decode cX0_isEndRight 71 = .ok (.iload_n 1, 1) := by decide +kernel
theorem dX0_isEndRight_72 : decode cX0_isEndRight 72 = .ok (.invokestatic 111, 3) := by decide +kernel
theorem dX0_isEndRight_75 : decode cX0_isEndRight 75 = .ok (.if_icmp .ne 7, 3) := by decide +kernel
theorem dX0_isEndRight_78 : decode cX0_isEndRight 78 = .ok (.iconst 1, 1) := by decide +kernel
theorem dX0_isEndRight_79 : decode cX0_isEndRight 79 = .ok (.goto 4, 3) := by decide +kernel
theorem dX0_isEndRight_82 : decode cX0_isEndRight 82 = .ok (.iconst 0, 1) := by decide +kernel
theorem dX0_isEndRight_83 : decode cX0_isEndRight 83 = .ok (.ireturn, 1) := by decide +kernel
set_option maxRecDepth 20000 in
theorem ggX1_init_X3_init : GoodIn wsX1_init wsX3_init := goodIn_r _ [11, 12, 2, 3, 13, 14, 15, 16] (by decide +kernel) (by decide +kernel)
set_option maxRecDepth 20000 in
theorem gX1_init_X3_init_n11 : GoodIn wsX1_init (wsX3_init) := ggX1_init_X3_init
theorem dX1_init_0 : decode cX1_init 0 = .ok (.aload_n 0, 1) := by decide +kernel
theorem dX1_init_1 : decode cX1_init 1 = .ok (.invokespecial 3, 3) := by decide +kernel
theorem dX1_init_4 : decode cX1_init 4 = .ok (.aload_n 0, 1) := by decide +kernel
theorem dX1_init_5 : decode cX1_init 5 = .ok (.new 9, 3) := by decide +kernel
theorem dX1_init_8 : decode cX1_init 8 = .ok (.dup, 1) := by decide +kernel
theorem dX1_init_9 : decode cX1_init 9 = .ok (.invokespecial 11, 3) := by decide +kernel
theorem dX1_init_12 : decode cX1_init 12 = .ok (.putfield 12, 3) := by decide +kernel
theorem dX1_init_15 : decode cX1_init 15 = .ok (.aload_n 0, 1) := by decide +kernel
theorem dX1_init_16 : decode cX1_init 16 = .ok (.bipush 8, 2) := by decide +kernel
theorem dX1_init_18 : decode cX1_init 18 = .ok (.newarray .int, 2) := by decide +kernel
theorem dX1_init_20 : decode cX1_init 20 = .ok (.putfield 18, 3) := by decide +kernel
theorem dX1_init_23 : decode cX1_init 23 = .ok (.return_, 1) := by decide +kernel
set_option maxRecDepth 20000 in
theorem ggX1_accept_X3_become : GoodIn wsX1_accept wsX3_become := goodIn_r _ [17, 18, 19, 10, 11, 12, 20, 37, 38] (by decide +kernel) (by decide +kernel)
set_option maxRecDepth 20000 in
theorem gX1_accept_X3_become : GoodIn wsX1_accept (wsV RX1 25 RX3 yX3_become wsX3_become) := goodIn_app (goodIn_of _ (by decide +kernel)) ggX1_accept_X3_become
theorem dX1_accept_0 : decode cX1_accept 0 = .ok (.aload_n 0, 1) := by decide +kernel
theorem dX1_accept_1 : decode cX1_accept 1 = .ok (.getfield 12, 3) := by decide +kernel
theorem dX1_accept_4 : decode cX1_accept 4 = .ok (.aload_n 1, 1) := by decide +kernel
theorem dX1_accept_5 : decode cX1_accept 5 = .ok (.getfield 22, 3) := by decide +kernel
theorem dX1_accept_8 : decode cX1_accept 8 = .ok (.invokevirtual 25, 3) := by decide +kernel
theorem dX1_accept_11 : decode cX1_accept 11 = .ok (.aload_n 0, 1) := by decide +kernel
theorem dX1_accept_12 : decode cX1_accept 12 = .ok (.iconst 1, 1) := by decide +kernel
theorem dX1_accept_13 : decode cX1_accept 13 = .ok (.putfield 29, 3) := by decide +kernel
theorem dX1_accept_16 : decode cX1_accept 16 = .ok (.aload_n 1, 1) := by decide +kernel
theorem dX1_accept_17 : decode cX1_accept 17 = .ok (.getfield 33, 3) := by decide +kernel
theorem dX1_accept_20 : decode cX1_accept 20 = .ok (.ifCond .ne 26, 3) := by decide +kernel
theorem dX1_accept_23 : decode cX1_accept 23 = .ok (.aload_n 0, 1) := by decide +kernel
theorem dX1_accept_24 : decode cX1_accept 24 = .ok (.aload_n 1, 1) := by decide +kernel
theorem dX1_accept_25 : decode cX1_accept 25 = .ok (.getfield 37, 3) := by decide +kernel
theorem dX1_accept_28 : decode cX1_accept 28 = .ok (.putfield 40, 3) := by decide +kernel
theorem dX1_accept_31 : decode cX1_accept 31 = .ok (.aload_n 1, 1) := by decide +kernel
theorem dX1_accept_32 : decode cX1_accept 32 = .ok (.getfield 41, 3) := by decide +kernel
theorem dX1_accept_35 : decode cX1_accept 35 = .ok (.iconst 0, 1) := by decide +kernel
theorem dX1_accept_36 : decode cX1_accept 36 = .ok (.aload_n 0, 1) := by decide +kernel
theorem dX1_accept_37 : decode cX1_accept 37 = .ok (.getfield 18, 3) := by decide +kernel
theorem dX1_accept_40 : decode cX1_accept 40 = .ok (.iconst 0, 1) := by decide +kernel
theorem dX1_accept_41 : decode cX1_accept 41 = .ok (.bipush 8, 2) := by decide +kernel
theorem dX1_accept_43 : decode cX1_accept 43 = .ok (.invokestatic 42, 3) := by decide +kernel
theorem dX1_accept_46 : decode cX1_accept 46 = .ok (.return_, 1) := by decide +kernel
set_option maxRecDepth 20000 in
theorem ggX2_init_X3_init : GoodIn wsX2_init wsX3_init := goodIn_r _ [11, 12, 2, 3, 13, 14, 15, 16] (by decide +kernel) (by decide +kernel)
set_option maxRecDepth 20000 in
theorem gX2_init_X3_init_n11 : GoodIn wsX2_init (wsX3_init) := ggX2_init_X3_init
theorem dX2_init_0 : decode cX2_init 0 = .ok (.aload_n 0, 1) := by decide +kernel
theorem dX2_init_1 : decode cX2_init 1 = .ok (.invokespecial 3, 3) := by decide +kernel
theorem dX2_init_4 : decode cX2_init 4 = .ok (.aload_n 0, 1) := by decide +kernel
theorem dX2_init_5 : decode cX2_init 5 = .ok (.new 9, 3) := by decide +kernel
theorem dX2_init_8 : decode cX2_init 8 = .ok (.dup, 1) := by decide +kernel
theorem dX2_init_9 : decode cX2_init 9 = .ok (.invokespecial 11, 3) := by decide +kernel
theorem dX2_init_12 : decode cX2_init 12 = .ok (.putfield 12, 3) := by decide +kernel
theorem dX2_init_15 : decode cX2_init 15 = .ok (.aload_n 0, 1) := by decide +kernel
theorem dX2_init_16 : decode cX2_init 16 = .ok (.bipush 8, 2) := by decide +kernel
theorem dX2_init_18 : decode cX2_init 18 = .ok (.newarray .int, 2) := by decide +kernel
theorem dX2_init_20 : decode cX2_init 20 = .ok (.putfield 18, 3) := by decide +kernel
theorem dX2_init_23 : decode cX2_init 23 = .ok (.return_, 1) := by decide +kernel
set_option maxRecDepth 20000 in
theorem ggX2_accept_X3_become : GoodIn wsX2_accept wsX3_become := goodIn_r _ [17, 18, 19, 6, 7, 8, 20, 38, 39] (by decide +kernel) (by decide +kernel)
set_option maxRecDepth 20000 in
theorem gX2_accept_X3_become : GoodIn wsX2_accept (wsV RX2 25 RX3 yX3_become wsX3_become) := goodIn_app (goodIn_of _ (by decide +kernel)) ggX2_accept_X3_become
theorem dX2_accept_0 : decode cX2_accept 0 = .ok (.aload_n 0, 1) := by decide +kernel
theorem dX2_accept_1 : decode cX2_accept 1 = .ok (.getfield 12, 3) := by decide +kernel
theorem dX2_accept_4 : decode cX2_accept 4 = .ok (.aload_n 1, 1) := by decide +kernel
theorem dX2_accept_5 : decode cX2_accept 5 = .ok (.getfield 22, 3) := by decide +kernel
theorem dX2_accept_8 : decode cX2_accept 8 = .ok (.invokevirtual 25, 3) := by decide +kernel
theorem dX2_accept_11 : decode cX2_accept 11 = .ok (.aload_n 1, 1) := by decide +kernel
theorem dX2_accept_12 : decode cX2_accept 12 = .ok (.getfield 29, 3) := by decide +kernel
theorem dX2_accept_15 : decode cX2_accept 15 = .ok (.iconst 0, 1) := by decide +kernel
theorem dX2_accept_16 : decode cX2_accept 16 = .ok (.aload_n 0, 1) := by decide +kernel
theorem dX2_accept_17 : decode cX2_accept 17 = .ok (.getfield 18, 3) := by decide +kernel
theorem dX2_accept_20 : decode cX2_accept 20 = .ok (.iconst 0, 1) := by decide +kernel
theorem dX2_accept_21 : decode cX2_accept 21 = .ok (.bipush 8, 2) := by decide +kernel
theorem dX2_accept_23 : decode cX2_accept 23 = .ok (.invokestatic 30, 3) := by decide +kernel
theorem dX2_accept_26 : decode cX2_accept 26 = .ok (.aload_n 0, 1) := by decide +kernel
theorem dX2_accept_27 : decode cX2_accept 27 = .ok (.aload_n 1, 1) := by decide +kernel
theorem dX2_accept_28 : decode cX2_accept 28 = .ok (.getfield 36, 3) := by decide +kernel
theorem dX2_accept_31 : decode cX2_accept 31 = .ok (.putfield 40, 3) := by decide +kernel
theorem dX2_accept_34 : decode cX2_accept 34 = .ok (.aload_n 0, 1) := by decide +kernel
theorem dX2_accept_35 : decode cX2_accept 35 = .ok (.iload_n 2, 1) := by decide +kernel
theorem dX2_accept_36 : decode cX2_accept 36 = .ok (.putfield 41, 3) := by decide +kernel
theorem dX2_accept_39 : decode cX2_accept 39 = .ok (.aload_n 0, 1) := by decide +kernel
theorem dX2_accept_40 : decode cX2_accept 40 = .ok (.dup, 1) := by decide +kernel
theorem dX2_accept_41 : decode cX2_accept 41 = .ok (.getfield 44, 3) := by decide +kernel
theorem dX2_accept_44 : decode cX2_accept 44 = .ok (.iconst 1, 1) := by decide +kernel
theorem dX2_accept_45 : decode cX2_accept 45 = .ok (.iadd, 1) := by decide +kernel
theorem dX2_accept_46 : decode cX2_accept 46 = .ok (.putfield 44, 3) := by decide +kernel
theorem dX2_accept_49 : decode cX2_accept 49 = .ok (.return_, 1) := by decide +kernel
theorem dX3_init_0 : decode cX3_init 0 = .ok (.aload_n 0, 1) := by decide +kernel
theorem dX3_init_1 : decode cX3_init 1 = .ok (.invokespecial 3, 3) := by decide +kernel
theorem dX3_init_4 : decode cX3_init 4 = .ok (.aload_n 0, 1) := by decide +kernel
theorem dX3_init_5 : decode cX3_init 5 = .ok (.bipush 8, 2) := by decide +kernel
theorem dX3_init_7 : decode cX3_init 7 = .ok (.newarray .long, 2) := by decide +kernel
theorem dX3_init_9 : decode cX3_init 9 = .ok (.putfield 9, 3) := by decide +kernel
theorem dX3_init_12 : decode cX3_init 12 = .ok (.return_, 1) := by decide +kernel
theorem dX3_become_0 : decode cX3_become 0 = .ok (.aload_n 1, 1) := by decide +kernel
theorem dX3_become_1 : decode cX3_become 1 = .ok (.getfield 9, 3) := by decide +kernel
theorem dX3_become_4 : decode cX3_become 4 = .ok (.iconst 0, 1) := by decide +kernel
theorem dX3_become_5 : decode cX3_become 5 = .ok (.aload_n 0, 1) := by decide +kernel
theorem dX3_become_6 : decode cX3_become 6 = .ok (.getfield 9, 3) := by decide +kernel
theorem dX3_become_9 : decode cX3_become 9 = .ok (.iconst 0, 1) := by decide +kernel
theorem dX3_become_10 : decode cX3_become 10 = .ok (.bipush 8, 2) := by decide +kernel
theorem dX3_become_12 : decode cX3_become 12 = .ok (.invokestatic 15, 3) := by decide +kernel
theorem dX3_become_15 : decode cX3_become 15 = .ok (.aload_n 0, 1) := by decide +kernel
theorem dX3_become_16 : decode cX3_become 16 = .ok (.aload_n 1, 1) := by decide +kernel
theorem dX3_become_17 : decode cX3_become 17 = .ok (.getfield 21, 3) := by decide +kernel
theorem dX3_become_20 : decode cX3_become 20 = .ok (.putfield 21, 3) := by decide +kernel
theorem dX3_become_23 : decode cX3_become 23 = .ok (.return_, 1) := by decide +kernel
theorem dX4_init_0 : decode cX4_init 0 = .ok (.aload_n 0, 1) := by decide +kernel
theorem dX4_init_1 : decode cX4_init 1 = .ok (.invokespecial 1, 3) := by decide +kernel
theorem dX4_init_4 : decode cX4_init 4 = .ok (.aload_n 0, 1) := by decide +kernel
theorem dX4_init_5 : decode cX4_init 5 = .ok (.iconst (-1), 1) := by decide +kernel
theorem dX4_init_6 : decode cX4_init 6 = .ok (.putfield 7, 3) := by decide +kernel
theorem dX4_init_9 : decode cX4_init 9 = .ok (.aload_n 0, 1) := by decide +kernel
theorem dX4_init_10 : decode cX4_init 10 = .ok (.iload_n 1, 1) := by decide +kernel
theorem dX4_init_11 : decode cX4_init 11 = .ok (.putfield 13, 3) := by decide +kernel
theorem dX4_init_14 : decode cX4_init 14 = .ok (.aload_n 0, 1) := by decide +kernel
theorem dX4_init_15 : decode cX4_init 15 = .ok (.iload_n 2, 1) := by decide +kernel
theorem dX4_init_16 : decode cX4_init 16 = .ok (.putfield 16, 3) := by decide +kernel
theorem dX4_init_19 : decode cX4_init 19 = .ok (.aload_n 0, 1) := by decide +kernel
theorem dX4_init_20 : decode cX4_init 20 = .ok (.iload_n 3, 1) := by decide +kernel
theorem dX4_init_21 : decode cX4_init 21 = .ok (.putfield 19, 3) := by decide +kernel
theorem dX4_init_24 : decode cX4_init 24 = .ok (.aload_n 0, 1) := by decide +kernel
theorem dX4_init_25 : decode cX4_init 25 = .ok (.aload 4, 2) := by decide +kernel
theorem dX4_init_27 : decode cX4_init 27 = .ok (.putfield 22, 3) := by decide +kernel
theorem dX4_init_30 : decode cX4_init 30 = .ok (.aload_n 0, 1) := by decide +kernel
theorem dX4_init_31 : decode cX4_init 31 = .ok (.iload 5, 2) := by decide +kernel
theorem dX4_init_33 : decode cX4_init 33 = .ok (.putfield 26, 3) := by decide +kernel
theorem dX4_init_36 : decode cX4_init 36 = .ok (.return_, 1) := by decide +kernel
theorem dX4_hasByte_0 : decode cX4_hasByte 0 = .ok (.iload_n 1, 1) := by decide +kernel
theorem dX4_hasByte_1 : decode cX4_hasByte 1 = .ok (.ifCond .lt 16, 3) := by decide +kernel
theorem dX4_hasByte_4 : decode cX4_hasByte 4 = .ok (.iload_n 1, 1) := by decide +kernel
theorem dX4_hasByte_5 : decode cX4_hasByte 5 = .ok (.aload_n 0, 1) := by decide +kernel
theorem dX4_hasByte_6 : decode cX4_hasByte 6 = .ok (.getfield 22, 3) := by decide +kernel
theorem dX4_hasByte_9 : decode cX4_hasByte 9 = .ok (.arraylength, 1) := by decide +kernel
theorem dX4_hasByte_10 : decode cX4_hasByte 10 = .ok (.if_icmp .ge 7, 3) := by decide +kernel
theorem dX4_hasByte_13 : decode cX4_hasByte 13 = .ok (.iconst 1, 1) := by decide +kernel
theorem dX4_hasByte_14 : decode cX4_hasByte 14 = .ok (.goto 4, 3) := by decide +kernel
theorem dX4_hasByte_17 : decode cX4_hasByte 17 = .ok (.iconst 0, 1) := by decide +kernel
theorem dX4_hasByte_18 : decode cX4_hasByte 18 = .ok (.ireturn, 1) := by decide +kernel
theorem dX5_init_0 : decode cX5_init 0 = .ok (.aload_n 0, 1) := by decide +kernel
theorem dX5_init_1 : decode cX5_init 1 = .ok (.invokespecial 3, 3) := by decide +kernel
theorem dX5_init_4 : decode cX5_init 4 = .ok (.aload_n 0, 1) := by decide +kernel
theorem dX5_init_5 : decode cX5_init 5 = .ok (.bipush 60, 2) := by decide +kernel
theorem dX5_init_7 : decode cX5_init 7 = .ok (.newarray .int, 2) := by decide +kernel
theorem dX5_init_9 : decode cX5_init 9 = .ok (.putfield 9, 3) := by decide +kernel
theorem dX5_init_12 : decode cX5_init 12 = .ok (.return_, 1) := by decide +kernel
set_option maxRecDepth 20000 in
theorem ggX5_begin_J7_fill_53178 : GoodIn wsX5_begin wsJ7_fill_53178 := goodIn_r _ [6] (by decide +kernel) (by decide +kernel)
set_option maxRecDepth 20000 in
theorem gX5_begin_J7_fill_53178 : GoodIn wsX5_begin (va_wsS RX5 15 yJ7_fill_53178 wsJ7_fill_53178) := goodIn_app (goodIn_of _ (by decide +kernel)) ggX5_begin_J7_fill_53178
set_option maxRecDepth 20000 in
theorem ggX5_begin_X5_write : GoodIn wsX5_begin wsX5_write := goodIn_r _ [11, 2, 1, 12, 13, 14, 15, 16] (by decide +kernel) (by decide +kernel)
set_option maxRecDepth 20000 in
theorem gX5_begin_X5_write : GoodIn wsX5_begin (wsV RX5 25 RX5 yX5_write wsX5_write) := goodIn_app (goodIn_of _ (by decide +kernel)) ggX5_begin_X5_write
theorem dX5_begin_0 : decode cX5_begin 0 = .ok (.aload_n 0, 1) := by decide +kernel
theorem dX5_begin_1 : decode cX5_begin 1 = .ok (.getfield 9, 3) := by decide +kernel
theorem dX5_begin_4 : decode cX5_begin 4 = .ok (.iconst 0, 1) := by decide +kernel
theorem dX5_begin_5 : decode cX5_begin 5 = .ok (.invokestatic 15, 3) := by decide +kernel
theorem dX5_begin_8 : decode cX5_begin 8 = .ok (.aload_n 0, 1) := by decide +kernel
theorem dX5_begin_9 : decode cX5_begin 9 = .ok (.iconst 0, 1) := by decide +kernel
theorem dX5_begin_10 : decode cX5_begin 10 = .ok (.putfield 21, 3) := by decide +kernel
theorem dX5_begin_13 : decode cX5_begin 13 = .ok (.aload_n 0, 1) := by decide +kernel
theorem dX5_begin_14 : decode cX5_begin 14 = .ok (.iload_n 1, 1) := by decide +kernel
theorem dX5_begin_15 : decode cX5_begin 15 = .ok (.i2l, 1) := by decide +kernel
theorem dX5_begin_16 : decode cX5_begin 16 = .ok (.iconst 3, 1) := by decide +kernel
theorem dX5_begin_17 : decode cX5_begin 17 = .ok (.invokevirtual 25, 3) := by decide +kernel
theorem dX5_begin_20 : decode cX5_begin 20 = .ok (.aload_n 0, 1) := by decide +kernel
theorem dX5_begin_21 : decode cX5_begin 21 = .ok (.iload_n 2, 1) := by decide +kernel
theorem dX5_begin_22 : decode cX5_begin 22 = .ok (.i2l, 1) := by decide +kernel
theorem dX5_begin_23 : decode cX5_begin 23 = .ok (.iconst 3, 1) := by decide +kernel
theorem dX5_begin_24 : decode cX5_begin 24 = .ok (.invokevirtual 25, 3) := by decide +kernel
theorem dX5_begin_27 : decode cX5_begin 27 = .ok (.aload_n 0, 1) := by decide +kernel
theorem dX5_begin_28 : decode cX5_begin 28 = .ok (.iload_n 3, 1) := by decide +kernel
theorem dX5_begin_29 : decode cX5_begin 29 = .ok (.i2l, 1) := by decide +kernel
theorem dX5_begin_30 : decode cX5_begin 30 = .ok (.bipush 16, 2) := by decide +kernel
theorem dX5_begin_32 : decode cX5_begin 32 = .ok (.invokevirtual 25, 3) := by decide +kernel
theorem dX5_begin_35 : decode cX5_begin 35 = .ok (.return_, 1) := by decide +kernel
set_option maxRecDepth 20000 in
theorem ggX5_write_X10_wholeBytes : GoodIn wsX5_write wsX10_wholeBytes := goodIn_r _ [5] (by decide +kernel) (by decide +kernel)
set_option maxRecDepth 20000 in
theorem gX5_write_X10_wholeBytes_n29 : GoodIn wsX5_write (wsX10_wholeBytes) := ggX5_write_X10_wholeBytes
theorem dX5_write_0 : decode cX5_write 0 = .ok (.iload_n 3, 1) := by decide +kernel
theorem dX5_write_1 : decode cX5_write 1 = .ok (.iconst 1, 1) := by decide +kernel
theorem dX5_write_2 : decode cX5_write 2 = .ok (.isub, 1) := by decide +kernel
theorem dX5_write_3 : decode cX5_write 3 = .ok (.istore 4, 2) := by decide +kernel
theorem dX5_write_5 : decode cX5_write 5 = .ok (.iload 4, 2) := by decide +kernel
theorem dX5_write_7 : decode cX5_write 7 = .ok (.ifCond .lt 72, 3) := by decide +kernel
theorem dX5_write_10 : decode cX5_write 10 = .ok (.aload_n 0, 1) := by decide +kernel
theorem dX5_write_11 : decode cX5_write 11 = .ok (.getfield 21, 3) := by decide +kernel
theorem dX5_write_14 : decode cX5_write 14 = .ok (.iconst 1, 1) := by decide +kernel
theorem dX5_write_15 : decode cX5_write 15 = .ok (.iadd, 1) := by decide +kernel
theorem dX5_write_16 : decode cX5_write 16 = .ok (.invokestatic 29, 3) := by decide +kernel
theorem dX5_write_19 : decode cX5_write 19 = .ok (.aload_n 0, 1) := by decide +kernel
theorem dX5_write_20 : decode cX5_write 20 = .ok (.getfield 9, 3) := by decide +kernel
theorem dX5_write_23 : decode cX5_write 23 = .ok (.arraylength, 1) := by decide +kernel
theorem dX5_write_24 : decode cX5_write 24 = .ok (.if_icmp .gt 55, 3) := by decide +kernel
theorem dX5_write_27 : decode cX5_write 27 = .ok (.lload_n 1, 1) := by decide +kernel
theorem dX5_write_28 : decode cX5_write 28 = .ok (.iload 4, 2) := by decide +kernel
theorem dX5_write_30 : decode cX5_write 30 = .ok (.lshr, 1) := by decide +kernel
theorem dX5_write_31 : decode cX5_write 31 = .ok (.l2i, 1) := by decide +kernel
theorem dX5_write_32 : decode cX5_write 32 = .ok (.iconst 1, 1) := by decide +kernel
theorem dX5_write_33 : decode cX5_write 33 = .ok (.iand, 1) := by decide +kernel
theorem dX5_write_34 : decode cX5_write 34 = .ok (.istore 5, 2) := by decide +kernel
theorem dX5_write_36 : decode cX5_write 36 = .ok (.aload_n 0, 1) := by decide +kernel
theorem dX5_write_37 : decode cX5_write 37 = .ok (.getfield 9, 3) := by decide +kernel
theorem dX5_write_40 : decode cX5_write 40 = .ok (.aload_n 0, 1) := by decide +kernel
theorem dX5_write_41 : decode cX5_write 41 = .ok (.getfield 21, 3) := by decide +kernel
theorem dX5_write_44 : decode cX5_write 44 = .ok (.iconst 3, 1) := by decide +kernel
theorem dX5_write_45 : decode cX5_write 45 = .ok (.ishr, 1) := by decide +kernel
theorem dX5_write_46 : decode cX5_write 46 = .ok (.dup2, 1) := by decide +kernel
theorem dX5_write_47 : decode cX5_write 47 = .ok (.iaload, 1) := by decide +kernel
theorem dX5_write_48 : decode cX5_write 48 = .ok (.iload 5, 2) := by decide +kernel
theorem dX5_write_50 : decode cX5_write 50 = .ok (.bipush 7, 2) := by decide +kernel
theorem dX5_write_52 : decode cX5_write 52 = .ok (.aload_n 0, 1) := by decide +kernel
theorem dX5_write_53 : decode cX5_write 53 = .ok (.getfield 21, 3) := by decide +kernel
theorem dX5_write_56 : decode cX5_write 56 = .ok (.bipush 7, 2) := by decide +kernel
theorem dX5_write_58 : decode cX5_write 58 = .ok (.iand, 1) := by decide +kernel
theorem dX5_write_59 : decode cX5_write 59 = .ok (.isub, 1) := by decide +kernel
theorem dX5_write_60 : decode cX5_write 60 = .ok (.ishl, 1) := by decide +kernel
theorem dX5_write_61 : decode cX5_write 61 = .ok (.ior, 1) := by decide +kernel
theorem dX5_write_62 : decode cX5_write 62 = .ok (.iastore, 1) := by decide +kernel
theorem dX5_write_63 : decode cX5_write 63 = .ok (.aload_n 0, 1) := by decide +kernel
theorem dX5_write_64 : decode cX5_write 64 = .ok (.dup, 1) := by decide +kernel
theorem dX5_write_65 : decode cX5_write 65 = .ok (.getfield 21, 3) := by decide +kernel
theorem dX5_write_68 : decode cX5_write 68 = .ok (.iconst 1, 1) := by decide +kernel
theorem dX5_write_69 : decode cX5_write 69 = .ok (.iadd, 1) := by decide +kernel
theorem dX5_write_70 : decode cX5_write 70 = .ok (.putfield 21, 3) := by decide +kernel
theorem dX5_write_73 : decode cX5_write 73 = .ok (.iinc 4 (-1), 3) := by decide +kernel
theorem dX5_write_76 : decode cX5_write 76 = .ok (.goto (-71), 3) := by decide +kernel
theorem dX5_write_79 : decode cX5_write 79 = .ok (.return_, 1) := by decide +kernel
set_option maxRecDepth 20000 in
theorem ggX5_finished_X10_wholeBytes : GoodIn wsX5_finished wsX10_wholeBytes := goodIn_r _ [5] (by decide +kernel) (by decide +kernel)
set_option maxRecDepth 20000 in
theorem gX5_finished_X10_wholeBytes_n29 : GoodIn wsX5_finished (wsX10_wholeBytes) := ggX5_finished_X10_wholeBytes
set_option maxRecDepth 20000 in
theorem ggX5_finished_J7_copyOf_59c91 : GoodIn wsX5_finished wsJ7_copyOf_59c91 := goodIn_r _ [9, 10, 11, 12, 13, 14, 15, 16, 17, 18, 19, 20, 21, 22, 23, 24] (by decide +kernel) (by decide +kernel)
set_option maxRecDepth 20000 in
theorem gX5_finished_J7_copyOf_59c91 : GoodIn wsX5_finished (va_wsS RX5 33 yJ7_copyOf_59c91 wsJ7_copyOf_59c91) := goodIn_app (goodIn_of _ (by decide +kernel)) ggX5_finished_J7_copyOf_59c91
set_option maxRecDepth 20000 in
theorem ggX5_finished_X10_checkOf : GoodIn wsX5_finished wsX10_checkOf := goodIn_r _ [26] (by decide +kernel) (by decide +kernel)
set_option maxRecDepth 20000 in
theorem gX5_finished_X10_checkOf_n37 : GoodIn wsX5_finished (wsX10_checkOf) := ggX5_finished_X10_checkOf
theorem dX5_finished_0 : decode cX5_finished 0 = .ok (.aload_n 0, 1) := by decide +kernel
theorem dX5_finished_1 : decode cX5_finished 1 = .ok (.getfield 21, 3) := by decide +kernel
theorem dX5_finished_4 : decode cX5_finished 4 = .ok (.invokestatic 29, 3) := by decide +kernel
theorem dX5_finished_7 : decode cX5_finished 7 = .ok (.istore_n 2, 1) := by decide +kernel
theorem dX5_finished_8 : decode cX5_finished 8 = .ok (.iload_n 1, 1) := by decide +kernel
theorem dX5_finished_9 : decode cX5_finished 9 = .ok (.ifCond .ne 12, 3) := by decide +kernel
theorem dX5_finished_12 : decode cX5_finished 12 = .ok (.aload_n 0, 1) := by decide +kernel
theorem dX5_finished_13 : decode cX5_finished 13 = .ok (.getfield 9, 3) := by decide +kernel
theorem dX5_finished_16 : decode cX5_finished 16 = .ok (.iload_n 2, 1) := by decide +kernel
theorem dX5_finished_17 : decode cX5_finished 17 = .ok (.invokestatic 33, 3) := by decide +kernel
theorem dX5_finished_20 : decode cX5_finished 20 = .ok (.areturn, 1) := by decide +kernel
theorem dX5_finished_21 : decode cX5_finished 21 = .ok (.aload_n 0, 1) := by decide +kernel
theorem dX5_finished_22 : decode cX5_finished 22 = .ok (.getfield 9, 3) := by decide +kernel
theorem dX5_finished_25 : decode cX5_finished 25 = .ok (.iload_n 2, 1) := by decide +kernel
theorem dX5_finished_26 : decode cX5_finished 26 = .ok (.iconst 1, 1) := by decide +kernel
theorem dX5_finished_27 : decode cX5_finished 27 = .ok (.iadd, 1) := by decide +kernel
theorem dX5_finished_28 : decode cX5_finished 28 = .ok (.invokestatic 33, 3) := by decide +kernel
theorem dX5_finished_31 : decode cX5_finished 31 = .ok (.astore_n 3, 1) := by decide +kernel
theorem dX5_finished_32 : decode cX5_finished 32 = .ok (.aload_n 3, 1) := by decide +kernel
theorem dX5_finished_33 : decode cX5_finished 33 = .ok (.iload_n 2, 1) := by decide +kernel
theorem dX5_finished_34 : decode cX5_finished 34 = .ok (.aload_n 3, 1) := by decide +kernel
theorem dX5_finished_35 : decode cX5_finished 35 = .ok (.iload_n 2, 1) := by decide +kernel
theorem dX5_finished_36 : decode cX5_finished 36 = .ok (.invokestatic 37, 3) := by decide +kernel
theorem dX5_finished_39 : decode cX5_finished 39 = .ok (.iastore, 1) := by decide +kernel
theorem dX5_finished_40 : decode cX5_finished 40 = .ok (.aload_n 3, 1) := by decide +kernel
theorem dX5_finished_41 : decode cX5_finished 41 = .ok (.areturn, 1) := by decide +kernel
theorem dX6_init_0 : decode cX6_init 0 = .ok (.aload_n 0, 1) := by decide +kernel
theorem dX6_init_1 : decode cX6_init 1 = .ok (.invokespecial 3, 3) := by decide +kernel
theorem dX6_init_4 : decode cX6_init 4 = .ok (.aload_n 0, 1) := by decide +kernel
theorem dX6_init_5 : decode cX6_init 5 = .ok (.bipush 8, 2) := by decide +kernel
theorem dX6_init_7 : decode cX6_init 7 = .ok (.newarray .int, 2) := by decide +kernel
theorem dX6_init_9 : decode cX6_init 9 = .ok (.putfield 9, 3) := by decide +kernel
theorem dX6_init_12 : decode cX6_init 12 = .ok (.aload_n 0, 1) := by decide +kernel
theorem dX6_init_13 : decode cX6_init 13 = .ok (.bipush 8, 2) := by decide +kernel
theorem dX6_init_15 : decode cX6_init 15 = .ok (.newarray .int, 2) := by decide +kernel
theorem dX6_init_17 : decode cX6_init 17 = .ok (.putfield 15, 3) := by decide +kernel
theorem dX6_init_20 : decode cX6_init 20 = .ok (.aload_n 0, 1) := by decide +kernel
theorem dX6_init_21 : decode cX6_init 21 = .ok (.bipush 8, 2) := by decide +kernel
theorem dX6_init_23 : decode cX6_init 23 = .ok (.newarray .int, 2) := by decide +kernel
theorem dX6_init_25 : decode cX6_init 25 = .ok (.putfield 18, 3) := by decide +kernel
theorem dX6_init_28 : decode cX6_init 28 = .ok (.aload_n 0, 1) := by decide +kernel
theorem dX6_init_29 : decode cX6_init 29 = .ok (.bipush 8, 2) := by decide +kernel
theorem dX6_init_31 : decode cX6_init 31 = .ok (.newarray .int, 2) := by decide +kernel
theorem dX6_init_33 : decode cX6_init 33 = .ok (.putfield 21, 3) := by decide +kernel
theorem dX6_init_36 : decode cX6_init 36 = .ok (.return_, 1) := by decide +kernel
set_option maxRecDepth 20000 in
theorem ggX6_allows_X6_has : GoodIn wsX6_allows wsX6_has := goodIn_r _ [5, 6, 7, 8, 9, 10, 11] (by decide +kernel) (by decide +kernel)
set_option maxRecDepth 20000 in
theorem gX6_allows_X6_has : GoodIn wsX6_allows (wsV RX6 24 RX6 yX6_has wsX6_has) := goodIn_app (goodIn_of _ (by decide +kernel)) ggX6_allows_X6_has
theorem dX6_allows_0 : decode cX6_allows 0 = .ok (.iload_n 1, 1) := by decide +kernel
theorem dX6_allows_1 : decode cX6_allows 1 = .ok (.ifCond .lt 19, 3) := by decide +kernel
theorem dX6_allows_4 : decode cX6_allows 4 = .ok (.iload_n 1, 1) := by decide +kernel
theorem dX6_allows_5 : decode cX6_allows 5 = .ok (.iconst 4, 1) := by decide +kernel
theorem dX6_allows_6 : decode cX6_allows 6 = .ok (.if_icmp .gt 14, 3) := by decide +kernel
theorem dX6_allows_9 : decode cX6_allows 9 = .ok (.iload_n 2, 1) := by decide +kernel
theorem dX6_allows_10 : decode cX6_allows 10 = .ok (.iconst 1, 1) := by decide +kernel
theorem dX6_allows_11 : decode cX6_allows 11 = .ok (.if_icmp .lt 9, 3) := by decide +kernel
theorem dX6_allows_14 : decode cX6_allows 14 = .ok (.iload_n 2, 1) := by decide +kernel
theorem dX6_allows_15 : decode cX6_allows 15 = .ok (.bipush 32, 2) := by decide +kernel
theorem dX6_allows_17 : decode cX6_allows 17 = .ok (.if_icmp .le 5, 3) := by decide +kernel
theorem dX6_allows_20 : decode cX6_allows 20 = .ok (.iconst 0, 1) := by decide +kernel
theorem dX6_allows_21 : decode cX6_allows 21 = .ok (.ireturn, 1) := by decide +kernel
theorem dX6_allows_22 : decode cX6_allows 22 = .ok (.iload_n 1, 1) := by decide +kernel
theorem dX6_allows_23 : decode cX6_allows 23 = .ok (.iconst 1, 1) := by decide +kernel
theorem dX6_allows_24 : decode cX6_allows 24 = .ok (.if_icmp .ne 9, 3) := by decide +kernel
theorem dX6_allows_27 : decode cX6_allows 27 = .ok (.aload_n 0, 1) := by decide +kernel
theorem dX6_allows_28 : decode cX6_allows 28 = .ok (.iload_n 3, 1) := by decide +kernel
theorem dX6_allows_29 : decode cX6_allows 29 = .ok (.invokevirtual 24, 3) := by decide +kernel
theorem dX6_allows_32 : decode cX6_allows 32 = .ok (.ireturn, 1) := by decide +kernel
theorem dX6_allows_33 : decode cX6_allows 33 = .ok (.iload_n 1, 1) := by decide +kernel
theorem dX6_allows_34 : decode cX6_allows 34 = .ok (.iconst 3, 1) := by decide +kernel
theorem dX6_allows_35 : decode cX6_allows 35 = .ok (.if_icmp .ne 17, 3) := by decide +kernel
theorem dX6_allows_38 : decode cX6_allows 38 = .ok (.iload 4, 2) := by decide +kernel
theorem dX6_allows_40 : decode cX6_allows 40 = .ok (.iconst 1, 1) := by decide +kernel
theorem dX6_allows_41 : decode cX6_allows 41 = .ok (.if_icmp .lt 15, 3) := by decide +kernel
theorem dX6_allows_44 : decode cX6_allows 44 = .ok (.iload 4, 2) := by decide +kernel
theorem dX6_allows_46 : decode cX6_allows 46 = .ok (.sipush 1000, 3) := by decide +kernel
theorem dX6_allows_49 : decode cX6_allows 49 = .ok (.if_icmp .gt 7, 3) := by decide +kernel
theorem dX6_allows_52 : decode cX6_allows 52 = .ok (.iconst 1, 1) := by decide +kernel
theorem dX6_allows_53 : decode cX6_allows 53 = .ok (.goto 4, 3) := by decide +kernel
theorem dX6_allows_56 : decode cX6_allows 56 = .ok (.iconst 0, 1) := by decide +kernel
theorem dX6_allows_57 : decode cX6_allows 57 = .ok (.ireturn, 1) := by decide +kernel
theorem dX6_append_0 : decode cX6_append 0 = .ok (.aload_n 0, 1) := by decide +kernel
theorem dX6_append_1 : decode cX6_append 1 = .ok (.getfield 28, 3) := by decide +kernel
theorem dX6_append_4 : decode cX6_append 4 = .ok (.bipush 8, 2) := by decide +kernel
theorem dX6_append_6 : decode cX6_append 6 = .ok (.if_icmp .lt 6, 3) := by decide +kernel
theorem dX6_append_9 : decode cX6_append 9 = .ok (.bipush (-2), 2) := by decide +kernel
theorem dX6_append_11 : decode cX6_append 11 = .ok (.ireturn, 1) := by decide +kernel
theorem dX6_append_12 : decode cX6_append 12 = .ok (.aload_n 0, 1) := by decide +kernel
theorem dX6_append_13 : decode cX6_append 13 = .ok (.getfield 9, 3) := by decide +kernel
theorem dX6_append_16 : decode cX6_append 16 = .ok (.aload_n 0, 1) := by decide +kernel
theorem dX6_append_17 : decode cX6_append 17 = .ok (.getfield 28, 3) := by decide +kernel
theorem dX6_append_20 : decode cX6_append 20 = .ok (.iload_n 1, 1) := by decide +kernel
theorem dX6_append_21 : decode cX6_append 21 = .ok (.iastore, 1) := by decide +kernel
theorem dX6_append_22 : decode cX6_append 22 = .ok (.aload_n 0, 1) := by decide +kernel
theorem dX6_append_23 : decode cX6_append 23 = .ok (.getfield 15, 3) := by decide +kernel
theorem dX6_append_26 : decode cX6_append 26 = .ok (.aload_n 0, 1) := by decide +kernel
theorem dX6_append_27 : decode cX6_append 27 = .ok (.getfield 28, 3) := by decide +kernel
theorem dX6_append_30 : decode cX6_append 30 = .ok (.iload_n 2, 1) := by decide +kernel
theorem dX6_append_31 : decode cX6_append 31 = .ok (.iastore, 1) := by decide +kernel
theorem dX6_append_32 : decode cX6_append 32 = .ok (.aload_n 0, 1) := by decide +kernel
theorem dX6_append_33 : decode cX6_append 33 = .ok (.getfield 18, 3) := by decide +kernel
theorem dX6_append_36 : decode cX6_append 36 = .ok (.aload_n 0, 1) := by decide +kernel
theorem dX6_append_37 : decode cX6_append 37 = .ok (.getfield 28, 3) := by decide +kernel
theorem dX6_append_40 : decode cX6_append 40 = .ok (.iload_n 1, 1) := by decide +kernel
theorem dX6_append_41 : decode cX6_append 41 = .ok (.iconst 1, 1) := by decide +kernel
theorem dX6_append_42 : decode cX6_append 42 = .ok (.if_icmp .ne 7, 3) := by decide +kernel
theorem dX6_append_45 : decode cX6_append 45 = .ok (.iload_n 3, 1) := by decide +kernel
theorem dX6_append_46 : decode cX6_append 46 = .ok (.goto 4, 3) := by decide +kernel
theorem dX6_append_49 : decode cX6_append 49 = .ok (.iconst 0, 1) := by decide +kernel
theorem dX6_append_50 : decode cX6_append 50 = .ok (.iastore, 1) := by decide +kernel
theorem dX6_append_51 : decode cX6_append 51 = .ok (.aload_n 0, 1) := by decide +kernel
theorem dX6_append_52 : decode cX6_append 52 = .ok (.getfield 21, 3) := by decide +kernel
theorem dX6_append_55 : decode cX6_append 55 = .ok (.aload_n 0, 1) := by decide +kernel
theorem dX6_append_56 : decode cX6_append 56 = .ok (.getfield 28, 3) := by decide +kernel
theorem dX6_append_59 : decode cX6_append 59 = .ok (.iload 4, 2) := by decide +kernel
theorem dX6_append_61 : decode cX6_append 61 = .ok (.iastore, 1) := by decide +kernel
theorem dX6_append_62 : decode cX6_append 62 = .ok (.aload_n 0, 1) := by decide +kernel
theorem dX6_append_63 : decode cX6_append 63 = .ok (.dup, 1) := by decide +kernel
theorem dX6_append_64 : decode cX6_append 64 = .ok (.getfield 28, 3) := by decide +kernel
theorem dX6_append_67 : decode cX6_append 67 = .ok (.iconst 1, 1) := by decide +kernel
theorem dX6_append_68 : decode cX6_append 68 = .ok (.iadd, 1) := by decide +kernel
theorem dX6_append_69 : decode cX6_append 69 = .ok (.putfield 28, 3) := by decide +kernel
theorem dX6_append_72 : decode cX6_append 72 = .ok (.aload_n 0, 1) := by decide +kernel
theorem dX6_append_73 : decode cX6_append 73 = .ok (.getfield 28, 3) := by decide +kernel
theorem dX6_append_76 : decode cX6_append 76 = .ok (.iconst 1, 1) := by decide +kernel
theorem dX6_append_77 : decode cX6_append 77 = .ok (.isub, 1) := by decide +kernel
theorem dX6_append_78 : decode cX6_append 78 = .ok (.ireturn, 1) := by decide +kernel
theorem dX6_has_0 : decode cX6_has 0 = .ok (.iload_n 1, 1) := by decide +kernel
theorem dX6_has_1 : decode cX6_has 1 = .ok (.ifCond .lt 15, 3) := by decide +kernel
theorem dX6_has_4 : decode cX6_has 4 = .ok (.iload_n 1, 1) := by decide +kernel
theorem dX6_has_5 : decode cX6_has 5 = .ok (.aload_n 0, 1) := by decide +kernel
theorem dX6_has_6 : decode cX6_has 6 = .ok (.getfield 28, 3) := by decide +kernel
theorem dX6_has_9 : decode cX6_has 9 = .ok (.if_icmp .ge 7, 3) := by decide +kernel
theorem dX6_has_12 : decode cX6_has 12 = .ok (.iconst 1, 1) := by decide +kernel
theorem dX6_has_13 : decode cX6_has 13 = .ok (.goto 4, 3) := by decide +kernel
theorem dX6_has_16 : decode cX6_has 16 = .ok (.iconst 0, 1) := by decide +kernel
theorem dX6_has_17 : decode cX6_has 17 = .ok (.ireturn, 1) := by decide +kernel
set_option maxRecDepth 20000 in
theorem ggX6_hasStride_X6_has : GoodIn wsX6_hasStride wsX6_has := goodIn_r _ [6, 7, 8, 9, 10, 11, 12] (by decide +kernel) (by decide +kernel)
set_option maxRecDepth 20000 in
theorem gX6_hasStride_X6_has : GoodIn wsX6_hasStride (wsV RX6 24 RX6 yX6_has wsX6_has) := goodIn_app (goodIn_of _ (by decide +kernel)) ggX6_hasStride_X6_has
theorem dX6_hasStride_0 : decode cX6_hasStride 0 = .ok (.aload_n 0, 1) := by decide +kernel
theorem dX6_hasStride_1 : decode cX6_hasStride 1 = .ok (.iload_n 1, 1) := by decide +kernel
theorem dX6_hasStride_2 : decode cX6_hasStride 2 = .ok (.invokevirtual 24, 3) := by decide +kernel
theorem dX6_hasStride_5 : decode cX6_hasStride 5 = .ok (.ifCond .eq 27, 3) := by decide +kernel
theorem dX6_hasStride_8 : decode cX6_hasStride 8 = .ok (.aload_n 0, 1) := by decide +kernel
theorem dX6_hasStride_9 : decode cX6_hasStride 9 = .ok (.getfield 9, 3) := by decide +kernel
theorem dX6_hasStride_12 : decode cX6_hasStride 12 = .ok (.iload_n 1, 1) := by decide +kernel
theorem dX6_hasStride_13 : decode cX6_hasStride 13 = .ok (.iaload, 1) := by decide +kernel
theorem dX6_hasStride_14 : decode cX6_hasStride 14 = .ok (.iconst 2, 1) := by decide +kernel
theorem dX6_hasStride_15 : decode cX6_hasStride 15 = .ok (.if_icmp .eq 13, 3) := by decide +kernel
theorem dX6_hasStride_18 : decode cX6_hasStride 18 = .ok (.aload_n 0, 1) := by decide +kernel
theorem dX6_hasStride_19 : decode cX6_hasStride 19 = .ok (.getfield 9, 3) := by decide +kernel
theorem dX6_hasStride_22 : decode cX6_hasStride 22 = .ok (.iload_n 1, 1) := by decide +kernel
theorem dX6_hasStride_23 : decode cX6_hasStride 23 = .ok (.iaload, 1) := by decide +kernel
theorem dX6_hasStride_24 : decode cX6_hasStride 24 = .ok (.iconst 3, 1) := by decide +kernel
theorem dX6_hasStride_25 : decode cX6_hasStride 25 = .ok (.if_icmp .ne 7, 3) := by decide +kernel
theorem dX6_hasStride_28 : decode cX6_hasStride 28 = .ok (.iconst 1, 1) := by decide +kernel
theorem dX6_hasStride_29 : decode cX6_hasStride 29 = .ok (.goto 4, 3) := by decide +kernel
theorem dX6_hasStride_32 : decode cX6_hasStride 32 = .ok (.iconst 0, 1) := by decide +kernel
theorem dX6_hasStride_33 : decode cX6_hasStride 33 = .ok (.ireturn, 1) := by decide +kernel
set_option maxRecDepth 20000 in
theorem ggX6_lowBits_X10_lowest : GoodIn wsX6_lowBits wsX10_lowest := goodIn_r _ [4] (by decide +kernel) (by decide +kernel)
set_option maxRecDepth 20000 in
theorem gX6_lowBits_X10_lowest_n32 : GoodIn wsX6_lowBits (wsX10_lowest) := ggX6_lowBits_X10_lowest
theorem dX6_lowBits_0 : decode cX6_lowBits 0 = .ok (.lload_n 2, 1) := by decide +kernel
theorem dX6_lowBits_1 : decode cX6_lowBits 1 = .ok (.aload_n 0, 1) := by decide +kernel
theorem dX6_lowBits_2 : decode cX6_lowBits 2 = .ok (.getfield 15, 3) := by decide +kernel
theorem dX6_lowBits_5 : decode cX6_lowBits 5 = .ok (.iload_n 1, 1) := by decide +kernel
theorem dX6_lowBits_6 : decode cX6_lowBits 6 = .ok (.iaload, 1) := by decide +kernel
theorem dX6_lowBits_7 : decode cX6_lowBits 7 = .ok (.invokestatic 32, 3) := by decide +kernel
theorem dX6_lowBits_10 : decode cX6_lowBits 10 = .ok (.lreturn, 1) := by decide +kernel
set_option maxRecDepth 20000 in
theorem ggX6_wholeBits_X6_hasStride : GoodIn wsX6_wholeBits wsX6_hasStride := goodIn_r _ [7, 8, 9, 10, 11, 6, 12, 1, 13, 14, 15, 16, 17] (by decide +kernel) (by decide +kernel)
set_option maxRecDepth 20000 in
theorem gX6_wholeBits_X6_hasStride : GoodIn wsX6_wholeBits (wsV RX6 36 RX6 yX6_hasStride wsX6_hasStride) := goodIn_app (goodIn_of _ (by decide +kernel)) ggX6_wholeBits_X6_hasStride
theorem dX6_wholeBits_0 : decode cX6_wholeBits 0 = .ok (.bipush 26, 2) := by decide +kernel
theorem dX6_wholeBits_2 : decode cX6_wholeBits 2 = .ok (.istore_n 1, 1) := by decide +kernel
theorem dX6_wholeBits_3 : decode cX6_wholeBits 3 = .ok (.iconst 0, 1) := by decide +kernel
theorem dX6_wholeBits_4 : decode cX6_wholeBits 4 = .ok (.istore_n 2, 1) := by decide +kernel
theorem dX6_wholeBits_5 : decode cX6_wholeBits 5 = .ok (.iload_n 2, 1) := by decide +kernel
theorem dX6_wholeBits_6 : decode cX6_wholeBits 6 = .ok (.aload_n 0, 1) := by decide +kernel
theorem dX6_wholeBits_7 : decode cX6_wholeBits 7 = .ok (.getfield 28, 3) := by decide +kernel
theorem dX6_wholeBits_10 : decode cX6_wholeBits 10 = .ok (.if_icmp .ge 33, 3) := by decide +kernel
theorem dX6_wholeBits_13 : decode cX6_wholeBits 13 = .ok (.iload_n 1, 1) := by decide +kernel
theorem dX6_wholeBits_14 : decode cX6_wholeBits 14 = .ok (.aload_n 0, 1) := by decide +kernel
theorem dX6_wholeBits_15 : decode cX6_wholeBits 15 = .ok (.getfield 15, 3) := by decide +kernel
theorem dX6_wholeBits_18 : decode cX6_wholeBits 18 = .ok (.iload_n 2, 1) := by decide +kernel
theorem dX6_wholeBits_19 : decode cX6_wholeBits 19 = .ok (.iaload, 1) := by decide +kernel
theorem dX6_wholeBits_20 : decode cX6_wholeBits 20 = .ok (.aload_n 0, 1) := by decide +kernel
theorem dX6_wholeBits_21 : decode cX6_wholeBits 21 = .ok (.iload_n 2, 1) := by decide +kernel
theorem dX6_wholeBits_22 : decode cX6_wholeBits 22 = .ok (.invokevirtual 36, 3) := by decide +kernel
theorem dX6_wholeBits_25 : decode cX6_wholeBits 25 = .ok (.ifCond .eq 8, 3) := by decide +kernel
theorem dX6_wholeBits_28 : decode cX6_wholeBits 28 = .ok (.bipush 8, 2) := by decide +kernel
theorem dX6_wholeBits_30 : decode cX6_wholeBits 30 = .ok (.goto 4, 3) := by decide +kernel
theorem dX6_wholeBits_33 : decode cX6_wholeBits 33 = .ok (.iconst 0, 1) := by decide +kernel
theorem dX6_wholeBits_34 : decode cX6_wholeBits 34 = .ok (.iadd, 1) := by decide +kernel
theorem dX6_wholeBits_35 : decode cX6_wholeBits 35 = .ok (.iadd, 1) := by decide +kernel
theorem dX6_wholeBits_36 : decode cX6_wholeBits 36 = .ok (.istore_n 1, 1) := by decide +kernel
theorem dX6_wholeBits_37 : decode cX6_wholeBits 37 = .ok (.iinc 2 1, 3) := by decide +kernel
theorem dX6_wholeBits_40 : decode cX6_wholeBits 40 = .ok (.goto (-35), 3) := by decide +kernel
theorem dX6_wholeBits_43 : decode cX6_wholeBits 43 = .ok (.iload_n 1, 1) := by decide +kernel
theorem dX6_wholeBits_44 : decode cX6_wholeBits 44 = .ok (.ireturn, 1) := by decide +kernel
set_option maxRecDepth 20000 in
theorem ggX6_sumOf_X10_lowest : GoodIn wsX6_sumOf wsX10_lowest := goodIn_r _ [7] (by decide +kernel) (by decide +kernel)
set_option maxRecDepth 20000 in
theorem gX6_sumOf_X10_lowest_n32 : GoodIn wsX6_sumOf (wsX10_lowest) := ggX6_sumOf_X10_lowest
theorem dX6_sumOf_0 : decode cX6_sumOf 0 = .ok (.ldc2_w 39, 3) := by decide +kernel
theorem dX6_sumOf_3 : decode cX6_sumOf 3 = .ok (.lstore_n 2, 1) := by decide +kernel
theorem dX6_sumOf_4 : decode cX6_sumOf 4 = .ok (.iconst 0, 1) := by decide +kernel
theorem dX6_sumOf_5 : decode cX6_sumOf 5 = .ok (.istore 4, 2) := by decide +kernel
theorem dX6_sumOf_7 : decode cX6_sumOf 7 = .ok (.iload 4, 2) := by decide +kernel
theorem dX6_sumOf_9 : decode cX6_sumOf 9 = .ok (.aload_n 0, 1) := by decide +kernel
theorem dX6_sumOf_10 : decode cX6_sumOf 10 = .ok (.getfield 28, 3) := by decide +kernel
theorem dX6_sumOf_13 : decode cX6_sumOf 13 = .ok (.if_icmp .ge 28, 3) := by decide +kernel
theorem dX6_sumOf_16 : decode cX6_sumOf 16 = .ok (.lload_n 2, 1) := by decide +kernel
theorem dX6_sumOf_17 : decode cX6_sumOf 17 = .ok (.ldc2_w 41, 3) := by decide +kernel
theorem dX6_sumOf_20 : decode cX6_sumOf 20 = .ok (.lmul, 1) := by decide +kernel
theorem dX6_sumOf_21 : decode cX6_sumOf 21 = .ok (.aload_n 1, 1) := by decide +kernel
theorem dX6_sumOf_22 : decode cX6_sumOf 22 = .ok (.getfield 43, 3) := by decide +kernel
theorem dX6_sumOf_25 : decode cX6_sumOf 25 = .ok (.iload 4, 2) := by decide +kernel
theorem dX6_sumOf_27 : decode cX6_sumOf 27 = .ok (.laload, 1) := by decide +kernel
theorem dX6_sumOf_28 : decode cX6_sumOf 28 = .ok (.ladd, 1) := by decide +kernel
theorem dX6_sumOf_29 : decode cX6_sumOf 29 = .ok (.bipush 8, 2) := by decide +kernel
theorem dX6_sumOf_31 : decode cX6_sumOf 31 = .ok (.invokestatic 32, 3) := by decide +kernel
theorem dX6_sumOf_34 : decode cX6_sumOf 34 = .ok (.lstore_n 2, 1) := by decide +kernel
theorem dX6_sumOf_35 : decode cX6_sumOf 35 = .ok (.iinc 4 1, 3) := by decide +kernel
theorem dX6_sumOf_38 : decode cX6_sumOf 38 = .ok (.goto (-31), 3) := by decide +kernel
theorem dX6_sumOf_41 : decode cX6_sumOf 41 = .ok (.lload_n 2, 1) := by decide +kernel
theorem dX6_sumOf_42 : decode cX6_sumOf 42 = .ok (.l2i, 1) := by decide +kernel
theorem dX6_sumOf_43 : decode cX6_sumOf 43 = .ok (.ireturn, 1) := by decide +kernel
set_option maxRecDepth 20000 in
theorem ggX6_given_X6_lowBits : GoodIn wsX6_given wsX6_lowBits := goodIn_r _ [10, 11, 12, 13, 14, 17, 18, 19, 20, 21] (by decide +kernel) (by decide +kernel)
set_option maxRecDepth 20000 in
theorem gX6_given_X6_lowBits : GoodIn wsX6_given (wsV RX6 52 RX6 yX6_lowBits wsX6_lowBits) := goodIn_app (goodIn_of _ (by decide +kernel)) ggX6_given_X6_lowBits
theorem dX6_given_0 : decode cX6_given 0 = .ok (.aload 4, 2) := by decide +kernel
theorem dX6_given_2 : decode cX6_given 2 = .ok (.getfield 49, 3) := by decide +kernel
theorem dX6_given_5 : decode cX6_given 5 = .ok (.aload_n 2, 1) := by decide +kernel
theorem dX6_given_6 : decode cX6_given 6 = .ok (.getfield 49, 3) := by decide +kernel
theorem dX6_given_9 : decode cX6_given 9 = .ok (.isub, 1) := by decide +kernel
theorem dX6_given_10 : decode cX6_given 10 = .ok (.i2l, 1) := by decide +kernel
theorem dX6_given_11 : decode cX6_given 11 = .ok (.aload_n 3, 1) := by decide +kernel
theorem dX6_given_12 : decode cX6_given 12 = .ok (.iload_n 1, 1) := by decide +kernel
theorem dX6_given_13 : decode cX6_given 13 = .ok (.iaload, 1) := by decide +kernel
theorem dX6_given_14 : decode cX6_given 14 = .ok (.i2l, 1) := by decide +kernel
theorem dX6_given_15 : decode cX6_given 15 = .ok (.lmul, 1) := by decide +kernel
theorem dX6_given_16 : decode cX6_given 16 = .ok (.lstore 5, 2) := by decide +kernel
theorem dX6_given_18 : decode cX6_given 18 = .ok (.aload_n 0, 1) := by decide +kernel
theorem dX6_given_19 : decode cX6_given 19 = .ok (.getfield 9, 3) := by decide +kernel
theorem dX6_given_22 : decode cX6_given 22 = .ok (.iload_n 1, 1) := by decide +kernel
theorem dX6_given_23 : decode cX6_given 23 = .ok (.iaload, 1) := by decide +kernel
theorem dX6_given_24 : decode cX6_given 24 = .ok (.tableswitch 103 0 3 #[32, 39, 65, 80], 32) := by decide +kernel
theorem dX6_given_56 : decode cX6_given 56 = .ok (.aload_n 2, 1) := by decide +kernel
theorem dX6_given_57 : decode cX6_given 57 = .ok (.getfield 43, 3) := by decide +kernel
theorem dX6_given_60 : decode cX6_given 60 = .ok (.iload_n 1, 1) := by decide +kernel
theorem dX6_given_61 : decode cX6_given 61 = .ok (.laload, 1) := by decide +kernel
theorem dX6_given_62 : decode cX6_given 62 = .ok (.lreturn, 1) := by decide +kernel
theorem dX6_given_63 : decode cX6_given 63 = .ok (.aload_n 0, 1) := by decide +kernel
theorem dX6_given_64 : decode cX6_given 64 = .ok (.iload_n 1, 1) := by decide +kernel
theorem dX6_given_65 : decode cX6_given 65 = .ok (.aload 4, 2) := by decide +kernel
theorem dX6_given_67 : decode cX6_given 67 = .ok (.getfield 43, 3) := by decide +kernel
theorem dX6_given_70 : decode cX6_given 70 = .ok (.aload_n 0, 1) := by decide +kernel
theorem dX6_given_71 : decode cX6_given 71 = .ok (.getfield 18, 3) := by decide +kernel
theorem dX6_given_74 : decode cX6_given 74 = .ok (.iload_n 1, 1) := by decide +kernel
theorem dX6_given_75 : decode cX6_given 75 = .ok (.iaload, 1) := by decide +kernel
theorem dX6_given_76 : decode cX6_given 76 = .ok (.laload, 1) := by decide +kernel
theorem dX6_given_77 : decode cX6_given 77 = .ok (.aload_n 0, 1) := by decide +kernel
theorem dX6_given_78 : decode cX6_given 78 = .ok (.getfield 21, 3) := by decide +kernel
theorem dX6_given_81 : decode cX6_given 81 = .ok (.iload_n 1, 1) := by decide +kernel
theorem dX6_given_82 : decode cX6_given 82 = .ok (.iaload, 1) := by decide +kernel
theorem dX6_given_83 : decode cX6_given 83 = .ok (.i2l, 1) := by decide +kernel
theorem dX6_given_84 : decode cX6_given 84 = .ok (.ladd, 1) := by decide +kernel
theorem dX6_given_85 : decode cX6_given 85 = .ok (.invokevirtual 52, 3) := by decide +kernel
theorem dX6_given_88 : decode cX6_given 88 = .ok (.lreturn, 1) := by decide +kernel
theorem dX6_given_89 : decode cX6_given 89 = .ok (.aload_n 0, 1) := by decide +kernel
theorem dX6_given_90 : decode cX6_given 90 = .ok (.iload_n 1, 1) := by decide +kernel
theorem dX6_given_91 : decode cX6_given 91 = .ok (.aload_n 2, 1) := by decide +kernel
theorem dX6_given_92 : decode cX6_given 92 = .ok (.getfield 43, 3) := by decide +kernel
theorem dX6_given_95 : decode cX6_given 95 = .ok (.iload_n 1, 1) := by decide +kernel
theorem dX6_given_96 : decode cX6_given 96 = .ok (.laload, 1) := by decide +kernel
theorem dX6_given_97 : decode cX6_given 97 = .ok (.lload 5, 2) := by decide +kernel
theorem dX6_given_99 : decode cX6_given 99 = .ok (.ladd, 1) := by decide +kernel
theorem dX6_given_100 : decode cX6_given 100 = .ok (.invokevirtual 52, 3) := by decide +kernel
theorem dX6_given_103 : decode cX6_given 103 = .ok (.lreturn, 1) := by decide +kernel
theorem dX6_given_104 : decode cX6_given 104 = .ok (.aload_n 0, 1) := by decide +kernel
theorem dX6_given_105 : decode cX6_given 105 = .ok (.iload_n 1, 1) := by decide +kernel
theorem dX6_given_106 : decode cX6_given 106 = .ok (.aload_n 2, 1) := by decide +kernel
theorem dX6_given_107 : decode cX6_given 107 = .ok (.getfield 43, 3) := by decide +kernel
theorem dX6_given_110 : decode cX6_given 110 = .ok (.iload_n 1, 1) := by decide +kernel
theorem dX6_given_111 : decode cX6_given 111 = .ok (.laload, 1) := by decide +kernel
theorem dX6_given_112 : decode cX6_given 112 = .ok (.lload 5, 2) := by decide +kernel
theorem dX6_given_114 : decode cX6_given 114 = .ok (.aload_n 0, 1) := by decide +kernel
theorem dX6_given_115 : decode cX6_given 115 = .ok (.getfield 21, 3) := by decide +kernel
theorem dX6_given_118 : decode cX6_given 118 = .ok (.iload_n 1, 1) := by decide +kernel
theorem dX6_given_119 : decode cX6_given 119 = .ok (.iaload, 1) := by decide +kernel
theorem dX6_given_120 : decode cX6_given 120 = .ok (.i2l, 1) := by decide +kernel
theorem dX6_given_121 : decode cX6_given 121 = .ok (.lmul, 1) := by decide +kernel
theorem dX6_given_122 : decode cX6_given 122 = .ok (.ladd, 1) := by decide +kernel
theorem dX6_given_123 : decode cX6_given 123 = .ok (.invokevirtual 52, 3) := by decide +kernel
theorem dX6_given_126 : decode cX6_given 126 = .ok (.lreturn, 1) := by decide +kernel
theorem dX6_given_127 : decode cX6_given 127 = .ok (.lconst 0, 1) := by decide +kernel
theorem dX6_given_128 : decode cX6_given 128 = .ok (.lreturn, 1) := by decide +kernel
set_option maxRecDepth 20000 in
theorem ggX6_found_X10_lowest : GoodIn wsX6_found wsX10_lowest := goodIn_r _ [3] (by decide +kernel) (by decide +kernel)
set_option maxRecDepth 20000 in
theorem gX6_found_X10_lowest_n32 : GoodIn wsX6_found (wsX10_lowest) := ggX6_found_X10_lowest
set_option maxRecDepth 20000 in
theorem ggX6_found_X6_lowBits : GoodIn wsX6_found wsX6_lowBits := goodIn_r _ [8, 9, 1, 2, 3, 10, 11, 12, 13, 14] (by decide +kernel) (by decide +kernel)
set_option maxRecDepth 20000 in
theorem gX6_found_X6_lowBits : GoodIn wsX6_found (wsV RX6 52 RX6 yX6_lowBits wsX6_lowBits) := goodIn_app (goodIn_of _ (by decide +kernel)) ggX6_found_X6_lowBits
theorem dX6_found_0 : decode cX6_found 0 = .ok (.iload 4, 2) := by decide +kernel
theorem dX6_found_2 : decode cX6_found 2 = .ok (.iconst 1, 1) := by decide +kernel
theorem dX6_found_3 : decode cX6_found 3 = .ok (.if_icmp .ge 5, 3) := by decide +kernel
theorem dX6_found_6 : decode cX6_found 6 = .ok (.lload_n 2, 1) := by decide +kernel
theorem dX6_found_7 : decode cX6_found 7 = .ok (.lreturn, 1) := by decide +kernel
theorem dX6_found_8 : decode cX6_found 8 = .ok (.lload_n 2, 1) := by decide +kernel
theorem dX6_found_9 : decode cX6_found 9 = .ok (.lconst 1, 1) := by decide +kernel
theorem dX6_found_10 : decode cX6_found 10 = .ok (.iload 4, 2) := by decide +kernel
theorem dX6_found_12 : decode cX6_found 12 = .ok (.iconst 1, 1) := by decide +kernel
theorem dX6_found_13 : decode cX6_found 13 = .ok (.isub, 1) := by decide +kernel
theorem dX6_found_14 : decode cX6_found 14 = .ok (.lshl, 1) := by decide +kernel
theorem dX6_found_15 : decode cX6_found 15 = .ok (.lsub, 1) := by decide +kernel
theorem dX6_found_16 : decode cX6_found 16 = .ok (.lstore 7, 2) := by decide +kernel
theorem dX6_found_18 : decode cX6_found 18 = .ok (.aload_n 0, 1) := by decide +kernel
theorem dX6_found_19 : decode cX6_found 19 = .ok (.iload_n 1, 1) := by decide +kernel
theorem dX6_found_20 : decode cX6_found 20 = .ok (.lload 7, 2) := by decide +kernel
theorem dX6_found_22 : decode cX6_found 22 = .ok (.lload 5, 2) := by decide +kernel
theorem dX6_found_24 : decode cX6_found 24 = .ok (.lload 7, 2) := by decide +kernel
theorem dX6_found_26 : decode cX6_found 26 = .ok (.lsub, 1) := by decide +kernel
theorem dX6_found_27 : decode cX6_found 27 = .ok (.iload 4, 2) := by decide +kernel
theorem dX6_found_29 : decode cX6_found 29 = .ok (.invokestatic 32, 3) := by decide +kernel
theorem dX6_found_32 : decode cX6_found 32 = .ok (.ladd, 1) := by decide +kernel
theorem dX6_found_33 : decode cX6_found 33 = .ok (.invokevirtual 52, 3) := by decide +kernel
theorem dX6_found_36 : decode cX6_found 36 = .ok (.lreturn, 1) := by decide +kernel
theorem dX7_init_0 : decode cX7_init 0 = .ok (.aload_n 0, 1) := by decide +kernel
theorem dX7_init_1 : decode cX7_init 1 = .ok (.invokespecial 3, 3) := by decide +kernel
theorem dX7_init_4 : decode cX7_init 4 = .ok (.aload_n 0, 1) := by decide +kernel
theorem dX7_init_5 : decode cX7_init 5 = .ok (.bipush 8, 2) := by decide +kernel
theorem dX7_init_7 : decode cX7_init 7 = .ok (.newarray .int, 2) := by decide +kernel
theorem dX7_init_9 : decode cX7_init 9 = .ok (.putfield 9, 3) := by decide +kernel
theorem dX7_init_12 : decode cX7_init 12 = .ok (.aload_n 0, 1) := by decide +kernel
theorem dX7_init_13 : decode cX7_init 13 = .ok (.bipush 8, 2) := by decide +kernel
theorem dX7_init_15 : decode cX7_init 15 = .ok (.newarray .int, 2) := by decide +kernel
theorem dX7_init_17 : decode cX7_init 17 = .ok (.putfield 15, 3) := by decide +kernel
theorem dX7_init_20 : decode cX7_init 20 = .ok (.return_, 1) := by decide +kernel
theorem dX8_init_0 : decode cX8_init 0 = .ok (.aload_n 0, 1) := by decide +kernel
theorem dX8_init_1 : decode cX8_init 1 = .ok (.invokespecial 3, 3) := by decide +kernel
theorem dX8_init_4 : decode cX8_init 4 = .ok (.aload_n 0, 1) := by decide +kernel
theorem dX8_init_5 : decode cX8_init 5 = .ok (.bipush 60, 2) := by decide +kernel
theorem dX8_init_7 : decode cX8_init 7 = .ok (.newarray .long, 2) := by decide +kernel
theorem dX8_init_9 : decode cX8_init 9 = .ok (.putfield 9, 3) := by decide +kernel
theorem dX8_init_12 : decode cX8_init 12 = .ok (.return_, 1) := by decide +kernel
theorem dX8_holdLetter_0 : decode cX8_holdLetter 0 = .ok (.aload_n 0, 1) := by decide +kernel
theorem dX8_holdLetter_1 : decode cX8_holdLetter 1 = .ok (.iconst 1, 1) := by decide +kernel
theorem dX8_holdLetter_2 : decode cX8_holdLetter 2 = .ok (.putfield 15, 3) := by decide +kernel
theorem dX8_holdLetter_5 : decode cX8_holdLetter 5 = .ok (.aload_n 0, 1) := by decide +kernel
theorem dX8_holdLetter_6 : decode cX8_holdLetter 6 = .ok (.aload_n 1, 1) := by decide +kernel
theorem dX8_holdLetter_7 : decode cX8_holdLetter 7 = .ok (.getfield 19, 3) := by decide +kernel
theorem dX8_holdLetter_10 : decode cX8_holdLetter 10 = .ok (.putfield 24, 3) := by decide +kernel
theorem dX8_holdLetter_13 : decode cX8_holdLetter 13 = .ok (.aload_n 0, 1) := by decide +kernel
theorem dX8_holdLetter_14 : decode cX8_holdLetter 14 = .ok (.aload_n 1, 1) := by decide +kernel
theorem dX8_holdLetter_15 : decode cX8_holdLetter 15 = .ok (.getfield 27, 3) := by decide +kernel
theorem dX8_holdLetter_18 : decode cX8_holdLetter 18 = .ok (.arraylength, 1) := by decide +kernel
theorem dX8_holdLetter_19 : decode cX8_holdLetter 19 = .ok (.putfield 31, 3) := by decide +kernel
theorem dX8_holdLetter_22 : decode cX8_holdLetter 22 = .ok (.return_, 1) := by decide +kernel
set_option maxRecDepth 20000 in
theorem ggX8_holdRow_J7_fill_d0a16 : GoodIn wsX8_holdRow wsJ7_fill_d0a16 := goodIn_r _ [14] (by decide +kernel) (by decide +kernel)
set_option maxRecDepth 20000 in
theorem gX8_holdRow_J7_fill_d0a16 : GoodIn wsX8_holdRow (va_wsS RX8 46 yJ7_fill_d0a16 wsJ7_fill_d0a16) := goodIn_app (goodIn_of _ (by decide +kernel)) ggX8_holdRow_J7_fill_d0a16
theorem dX8_holdRow_0 : decode cX8_holdRow 0 = .ok (.aload_n 0, 1) := by decide +kernel
theorem dX8_holdRow_1 : decode cX8_holdRow 1 = .ok (.iload_n 1, 1) := by decide +kernel
theorem dX8_holdRow_2 : decode cX8_holdRow 2 = .ok (.putfield 15, 3) := by decide +kernel
theorem dX8_holdRow_5 : decode cX8_holdRow 5 = .ok (.aload_n 0, 1) := by decide +kernel
theorem dX8_holdRow_6 : decode cX8_holdRow 6 = .ok (.iconst 0, 1) := by decide +kernel
theorem dX8_holdRow_7 : decode cX8_holdRow 7 = .ok (.iload_n 2, 1) := by decide +kernel
theorem dX8_holdRow_8 : decode cX8_holdRow 8 = .ok (.bipush 60, 2) := by decide +kernel
theorem dX8_holdRow_10 : decode cX8_holdRow 10 = .ok (.invokestatic 34, 3) := by decide +kernel
theorem dX8_holdRow_13 : decode cX8_holdRow 13 = .ok (.invokestatic 40, 3) := by decide +kernel
theorem dX8_holdRow_16 : decode cX8_holdRow 16 = .ok (.putfield 43, 3) := by decide +kernel
theorem dX8_holdRow_19 : decode cX8_holdRow 19 = .ok (.aload_n 0, 1) := by decide +kernel
theorem dX8_holdRow_20 : decode cX8_holdRow 20 = .ok (.getfield 9, 3) := by decide +kernel
theorem dX8_holdRow_23 : decode cX8_holdRow 23 = .ok (.lconst 0, 1) := by decide +kernel
theorem dX8_holdRow_24 : decode cX8_holdRow 24 = .ok (.invokestatic 46, 3) := by decide +kernel
theorem dX8_holdRow_27 : decode cX8_holdRow 27 = .ok (.return_, 1) := by decide +kernel
theorem dX8_hasPlaces_0 : decode cX8_hasPlaces 0 = .ok (.iload_n 1, 1) := by decide +kernel
theorem dX8_hasPlaces_1 : decode cX8_hasPlaces 1 = .ok (.ifCond .lt 21, 3) := by decide +kernel
theorem dX8_hasPlaces_4 : decode cX8_hasPlaces 4 = .ok (.iload_n 2, 1) := by decide +kernel
theorem dX8_hasPlaces_5 : decode cX8_hasPlaces 5 = .ok (.ifCond .lt 17, 3) := by decide +kernel
theorem dX8_hasPlaces_8 : decode cX8_hasPlaces 8 = .ok (.iload_n 1, 1) := by decide +kernel
theorem dX8_hasPlaces_9 : decode cX8_hasPlaces 9 = .ok (.aload_n 0, 1) := by decide +kernel
theorem dX8_hasPlaces_10 : decode cX8_hasPlaces 10 = .ok (.getfield 43, 3) := by decide +kernel
theorem dX8_hasPlaces_13 : decode cX8_hasPlaces 13 = .ok (.iload_n 2, 1) := by decide +kernel
theorem dX8_hasPlaces_14 : decode cX8_hasPlaces 14 = .ok (.isub, 1) := by decide +kernel
theorem dX8_hasPlaces_15 : decode cX8_hasPlaces 15 = .ok (.if_icmp .gt 7, 3) := by decide +kernel
theorem dX8_hasPlaces_18 : decode cX8_hasPlaces 18 = .ok (.iconst 1, 1) := by decide +kernel
theorem dX8_hasPlaces_19 : decode cX8_hasPlaces 19 = .ok (.goto 4, 3) := by decide +kernel
theorem dX8_hasPlaces_22 : decode cX8_hasPlaces 22 = .ok (.iconst 0, 1) := by decide +kernel
theorem dX8_hasPlaces_23 : decode cX8_hasPlaces 23 = .ok (.ireturn, 1) := by decide +kernel
set_option maxRecDepth 20000 in
theorem ggX9_init_J7_fill_53178 : GoodIn wsX9_init wsJ7_fill_53178 := goodIn_r _ [14] (by decide +kernel) (by decide +kernel)
set_option maxRecDepth 20000 in
theorem gX9_init_J7_fill_53178 : GoodIn wsX9_init (va_wsS RX9 25 yJ7_fill_53178 wsJ7_fill_53178) := goodIn_app (goodIn_of _ (by decide +kernel)) ggX9_init_J7_fill_53178
set_option maxRecDepth 20000 in
theorem ggX9_init_X3_init : GoodIn wsX9_init wsX3_init := goodIn_r _ [16, 17, 2, 3, 18, 19, 27, 28] (by decide +kernel) (by decide +kernel)
set_option maxRecDepth 20000 in
theorem gX9_init_X3_init_n31 : GoodIn wsX9_init (wsX3_init) := ggX9_init_X3_init
theorem dX9_init_0 : decode cX9_init 0 = .ok (.aload_n 0, 1) := by decide +kernel
theorem dX9_init_1 : decode cX9_init 1 = .ok (.invokespecial 3, 3) := by decide +kernel
theorem dX9_init_4 : decode cX9_init 4 = .ok (.aload_n 0, 1) := by decide +kernel
theorem dX9_init_5 : decode cX9_init 5 = .ok (.bipush 8, 2) := by decide +kernel
theorem dX9_init_7 : decode cX9_init 7 = .ok (.newarray .int, 2) := by decide +kernel
theorem dX9_init_9 : decode cX9_init 9 = .ok (.putfield 9, 3) := by decide +kernel
theorem dX9_init_12 : decode cX9_init 12 = .ok (.aload_n 0, 1) := by decide +kernel
theorem dX9_init_13 : decode cX9_init 13 = .ok (.iconst 1, 1) := by decide +kernel
theorem dX9_init_14 : decode cX9_init 14 = .ok (.putfield 15, 3) := by decide +kernel
theorem dX9_init_17 : decode cX9_init 17 = .ok (.aload_n 0, 1) := by decide +kernel
theorem dX9_init_18 : decode cX9_init 18 = .ok (.bipush 8, 2) := by decide +kernel
theorem dX9_init_20 : decode cX9_init 20 = .ok (.anewarray 19, 3) := by decide +kernel
theorem dX9_init_23 : decode cX9_init 23 = .ok (.putfield 21, 3) := by decide +kernel
theorem dX9_init_26 : decode cX9_init 26 = .ok (.aload_n 0, 1) := by decide +kernel
theorem dX9_init_27 : decode cX9_init 27 = .ok (.getfield 9, 3) := by decide +kernel
theorem dX9_init_30 : decode cX9_init 30 = .ok (.iconst 1, 1) := by decide +kernel
theorem dX9_init_31 : decode cX9_init 31 = .ok (.invokestatic 25, 3) := by decide +kernel
theorem dX9_init_34 : decode cX9_init 34 = .ok (.iconst 0, 1) := by decide +kernel
theorem dX9_init_35 : decode cX9_init 35 = .ok (.istore_n 1, 1) := by decide +kernel
theorem dX9_init_36 : decode cX9_init 36 = .ok (.iload_n 1, 1) := by decide +kernel
theorem dX9_init_37 : decode cX9_init 37 = .ok (.bipush 8, 2) := by decide +kernel
theorem dX9_init_39 : decode cX9_init 39 = .ok (.if_icmp .ge 22, 3) := by decide +kernel
theorem dX9_init_42 : decode cX9_init 42 = .ok (.aload_n 0, 1) := by decide +kernel
theorem dX9_init_43 : decode cX9_init 43 = .ok (.getfield 21, 3) := by decide +kernel
theorem dX9_init_46 : decode cX9_init 46 = .ok (.iload_n 1, 1) := by decide +kernel
theorem dX9_init_47 : decode cX9_init 47 = .ok (.new 19, 3) := by decide +kernel
theorem dX9_init_50 : decode cX9_init 50 = .ok (.dup, 1) := by decide +kernel
theorem dX9_init_51 : decode cX9_init 51 = .ok (.invokespecial 31, 3) := by decide +kernel
theorem dX9_init_54 : decode cX9_init 54 = .ok (.aastore, 1) := by decide +kernel
theorem dX9_init_55 : decode cX9_init 55 = .ok (.iinc 1 1, 3) := by decide +kernel
theorem dX9_init_58 : decode cX9_init 58 = .ok (.goto (-22), 3) := by decide +kernel
theorem dX9_init_61 : decode cX9_init 61 = .ok (.return_, 1) := by decide +kernel
set_option maxRecDepth 20000 in
theorem ggX9_reference_J9_floorMod_7cf53 : GoodIn wsX9_reference wsJ9_floorMod_7cf53 := goodIn_r _ [6] (by decide +kernel) (by decide +kernel)
set_option maxRecDepth 20000 in
theorem gX9_reference_J9_floorMod_7cf53 : GoodIn wsX9_reference (va_wsS RX9 36 yJ9_floorMod_7cf53 wsJ9_floorMod_7cf53) := goodIn_app (goodIn_of _ (by decide +kernel)) ggX9_reference_J9_floorMod_7cf53
theorem dX9_reference_0 : decode cX9_reference 0 = .ok (.aload_n 0, 1) := by decide +kernel
theorem dX9_reference_1 : decode cX9_reference 1 = .ok (.getfield 21, 3) := by decide +kernel
theorem dX9_reference_4 : decode cX9_reference 4 = .ok (.aload_n 0, 1) := by decide +kernel
theorem dX9_reference_5 : decode cX9_reference 5 = .ok (.getfield 32, 3) := by decide +kernel
theorem dX9_reference_8 : decode cX9_reference 8 = .ok (.iload_n 1, 1) := by decide +kernel
theorem dX9_reference_9 : decode cX9_reference 9 = .ok (.iadd, 1) := by decide +kernel
theorem dX9_reference_10 : decode cX9_reference 10 = .ok (.bipush 8, 2) := by decide +kernel
theorem dX9_reference_12 : decode cX9_reference 12 = .ok (.invokestatic 36, 3) := by decide +kernel
theorem dX9_reference_15 : decode cX9_reference 15 = .ok (.aaload, 1) := by decide +kernel
theorem dX9_reference_16 : decode cX9_reference 16 = .ok (.areturn, 1) := by decide +kernel
set_option maxRecDepth 20000 in
theorem ggX9_oldestNumber_X9_reference : GoodIn wsX9_oldestNumber wsX9_reference := goodIn_r _ [7, 8, 9, 10, 11, 12, 13, 14, 15, 16, 17, 18, 19, 20] (by decide +kernel) (by decide +kernel)
set_option maxRecDepth 20000 in
theorem gX9_oldestNumber_X9_reference : GoodIn wsX9_oldestNumber (wsV RX9 45 RX9 yX9_reference wsX9_reference) := goodIn_app (goodIn_of _ (by decide +kernel)) ggX9_oldestNumber_X9_reference
theorem dX9_oldestNumber_0 : decode cX9_oldestNumber 0 = .ok (.aload_n 0, 1) := by decide +kernel
theorem dX9_oldestNumber_1 : decode cX9_oldestNumber 1 = .ok (.getfield 42, 3) := by decide +kernel
theorem dX9_oldestNumber_4 : decode cX9_oldestNumber 4 = .ok (.ifCond .ne 8, 3) := by decide +kernel
theorem dX9_oldestNumber_7 : decode cX9_oldestNumber 7 = .ok (.bipush (-2), 2) := by decide +kernel
theorem dX9_oldestNumber_9 : decode cX9_oldestNumber 9 = .ok (.goto 11, 3) := by decide +kernel
theorem dX9_oldestNumber_12 : decode cX9_oldestNumber 12 = .ok (.aload_n 0, 1) := by decide +kernel
theorem dX9_oldestNumber_13 : decode cX9_oldestNumber 13 = .ok (.iconst 0, 1) := by decide +kernel
theorem dX9_oldestNumber_14 : decode cX9_oldestNumber 14 = .ok (.invokevirtual 45, 3) := by decide +kernel
theorem dX9_oldestNumber_17 : decode cX9_oldestNumber 17 = .ok (.getfield 49, 3) := by decide +kernel
theorem dX9_oldestNumber_20 : decode cX9_oldestNumber 20 = .ok (.ireturn, 1) := by decide +kernel
set_option maxRecDepth 20000 in
theorem ggX9_kindFor_X9_isGivenByAll : GoodIn wsX9_kindFor wsX9_isGivenByAll := goodIn_r _ [9, 10, 11, 12, 8, 13, 14, 2, 15, 16, 17, 18, 19, 20, 21, 22, 23, 24, 25, 26, 27, 28, 29, 30, 31, 32, 33, 34, 35, 36, 37, 38, 39, 40, 41, 42, 43, 44, 45, 46, 47, 48, 61, 62, 49, 50, 51, 52, 53, 54, 55, 56, 57, 58, 59, 60] (by decide +kernel) (by decide +kernel)
set_option maxRecDepth 20000 in
theorem gX9_kindFor_X9_isGivenByAll : GoodIn wsX9_kindFor (wsV RX9 60 RX9 yX9_isGivenByAll wsX9_isGivenByAll) := goodIn_app (goodIn_of _ (by decide +kernel)) ggX9_kindFor_X9_isGivenByAll
theorem dX9_kindFor_0 : decode cX9_kindFor 0 = .ok (.iload_n 3, 1) := by decide +kernel
theorem dX9_kindFor_1 : decode cX9_kindFor 1 = .ok (.ifCond .ne 17, 3) := by decide +kernel
theorem dX9_kindFor_4 : decode cX9_kindFor 4 = .ok (.aload_n 0, 1) := by decide +kernel
theorem dX9_kindFor_5 : decode cX9_kindFor 5 = .ok (.getfield 15, 3) := by decide +kernel
theorem dX9_kindFor_8 : decode cX9_kindFor 8 = .ok (.ifCond .ne 10, 3) := by decide +kernel
theorem dX9_kindFor_11 : decode cX9_kindFor 11 = .ok (.aload_n 0, 1) := by decide +kernel
theorem dX9_kindFor_12 : decode cX9_kindFor 12 = .ok (.getfield 42, 3) := by decide +kernel
theorem dX9_kindFor_15 : decode cX9_kindFor 15 = .ok (.ifCond .ne 5, 3) := by decide +kernel
theorem dX9_kindFor_18 : decode cX9_kindFor 18 = .ok (.iconst 0, 1) := by decide +kernel
theorem dX9_kindFor_19 : decode cX9_kindFor 19 = .ok (.ireturn, 1) := by decide +kernel
theorem dX9_kindFor_20 : decode cX9_kindFor 20 = .ok (.iconst 0, 1) := by decide +kernel
theorem dX9_kindFor_21 : decode cX9_kindFor 21 = .ok (.istore 4, 2) := by decide +kernel
theorem dX9_kindFor_23 : decode cX9_kindFor 23 = .ok (.iload 4, 2) := by decide +kernel
theorem dX9_kindFor_25 : decode cX9_kindFor 25 = .ok (.aload_n 1, 1) := by decide +kernel
theorem dX9_kindFor_26 : decode cX9_kindFor 26 = .ok (.getfield 52, 3) := by decide +kernel
theorem dX9_kindFor_29 : decode cX9_kindFor 29 = .ok (.if_icmp .ge 55, 3) := by decide +kernel
theorem dX9_kindFor_32 : decode cX9_kindFor 32 = .ok (.aload_n 1, 1) := by decide +kernel
theorem dX9_kindFor_33 : decode cX9_kindFor 33 = .ok (.getfield 57, 3) := by decide +kernel
theorem dX9_kindFor_36 : decode cX9_kindFor 36 = .ok (.iload 4, 2) := by decide +kernel
theorem dX9_kindFor_38 : decode cX9_kindFor 38 = .ok (.iaload, 1) := by decide +kernel
theorem dX9_kindFor_39 : decode cX9_kindFor 39 = .ok (.ifCond .eq 14, 3) := by decide +kernel
theorem dX9_kindFor_42 : decode cX9_kindFor 42 = .ok (.aload_n 1, 1) := by decide +kernel
theorem dX9_kindFor_43 : decode cX9_kindFor 43 = .ok (.getfield 57, 3) := by decide +kernel
theorem dX9_kindFor_46 : decode cX9_kindFor 46 = .ok (.iload 4, 2) := by decide +kernel
theorem dX9_kindFor_48 : decode cX9_kindFor 48 = .ok (.iaload, 1) := by decide +kernel
theorem dX9_kindFor_49 : decode cX9_kindFor 49 = .ok (.iconst 1, 1) := by decide +kernel
theorem dX9_kindFor_50 : decode cX9_kindFor 50 = .ok (.if_icmp .ne 7, 3) := by decide +kernel
theorem dX9_kindFor_53 : decode cX9_kindFor 53 = .ok (.iconst 1, 1) := by decide +kernel
theorem dX9_kindFor_54 : decode cX9_kindFor 54 = .ok (.goto 4, 3) := by decide +kernel
theorem dX9_kindFor_57 : decode cX9_kindFor 57 = .ok (.iconst 0, 1) := by decide +kernel
theorem dX9_kindFor_58 : decode cX9_kindFor 58 = .ok (.istore 5, 2) := by decide +kernel
theorem dX9_kindFor_60 : decode cX9_kindFor 60 = .ok (.iload 5, 2) := by decide +kernel
theorem dX9_kindFor_62 : decode cX9_kindFor 62 = .ok (.ifCond .eq 16, 3) := by decide +kernel
theorem dX9_kindFor_65 : decode cX9_kindFor 65 = .ok (.aload_n 0, 1) := by decide +kernel
theorem dX9_kindFor_66 : decode cX9_kindFor 66 = .ok (.aload_n 1, 1) := by decide +kernel
theorem dX9_kindFor_67 : decode cX9_kindFor 67 = .ok (.aload_n 2, 1) := by decide +kernel
theorem dX9_kindFor_68 : decode cX9_kindFor 68 = .ok (.iload 4, 2) := by decide +kernel
theorem dX9_kindFor_70 : decode cX9_kindFor 70 = .ok (.invokevirtual 60, 3) := by decide +kernel
theorem dX9_kindFor_73 : decode cX9_kindFor 73 = .ok (.ifCond .ne 5, 3) := by decide +kernel
theorem dX9_kindFor_76 : decode cX9_kindFor 76 = .ok (.iconst 1, 1) := by decide +kernel
theorem dX9_kindFor_77 : decode cX9_kindFor 77 = .ok (.ireturn, 1) := by decide +kernel
theorem dX9_kindFor_78 : decode cX9_kindFor 78 = .ok (.iinc 4 1, 3) := by decide +kernel
theorem dX9_kindFor_81 : decode cX9_kindFor 81 = .ok (.goto (-58), 3) := by decide +kernel
theorem dX9_kindFor_84 : decode cX9_kindFor 84 = .ok (.iconst 2, 1) := by decide +kernel
theorem dX9_kindFor_85 : decode cX9_kindFor 85 = .ok (.ireturn, 1) := by decide +kernel
theorem dX9_beginRound_0 : decode cX9_beginRound 0 = .ok (.aload_n 0, 1) := by decide +kernel
theorem dX9_beginRound_1 : decode cX9_beginRound 1 = .ok (.aload_n 0, 1) := by decide +kernel
theorem dX9_beginRound_2 : decode cX9_beginRound 2 = .ok (.getfield 64, 3) := by decide +kernel
theorem dX9_beginRound_5 : decode cX9_beginRound 5 = .ok (.iconst 1, 1) := by decide +kernel
theorem dX9_beginRound_6 : decode cX9_beginRound 6 = .ok (.iadd, 1) := by decide +kernel
theorem dX9_beginRound_7 : decode cX9_beginRound 7 = .ok (.bipush 16, 2) := by decide +kernel
theorem dX9_beginRound_9 : decode cX9_beginRound 9 = .ok (.irem, 1) := by decide +kernel
theorem dX9_beginRound_10 : decode cX9_beginRound 10 = .ok (.putfield 64, 3) := by decide +kernel
theorem dX9_beginRound_13 : decode cX9_beginRound 13 = .ok (.aload_n 0, 1) := by decide +kernel
theorem dX9_beginRound_14 : decode cX9_beginRound 14 = .ok (.iconst 0, 1) := by decide +kernel
theorem dX9_beginRound_15 : decode cX9_beginRound 15 = .ok (.putfield 42, 3) := by decide +kernel
theorem dX9_beginRound_18 : decode cX9_beginRound 18 = .ok (.aload_n 0, 1) := by decide +kernel
theorem dX9_beginRound_19 : decode cX9_beginRound 19 = .ok (.iconst 0, 1) := by decide +kernel
theorem dX9_beginRound_20 : decode cX9_beginRound 20 = .ok (.putfield 15, 3) := by decide +kernel
theorem dX9_beginRound_23 : decode cX9_beginRound 23 = .ok (.return_, 1) := by decide +kernel
set_option maxRecDepth 20000 in
theorem ggX9_writeWhole_X5_write : GoodIn wsX9_writeWhole wsX5_write := goodIn_r _ [10, 11, 12, 13, 14, 15, 41, 42] (by decide +kernel) (by decide +kernel)
set_option maxRecDepth 20000 in
theorem gX9_writeWhole_X5_write : GoodIn wsX9_writeWhole (wsV RX9 67 RX5 yX5_write wsX5_write) := goodIn_app (goodIn_of _ (by decide +kernel)) ggX9_writeWhole_X5_write
set_option maxRecDepth 20000 in
theorem ggX9_writeWhole_X6_hasStride : GoodIn wsX9_writeWhole wsX6_hasStride := goodIn_r _ [20, 21, 22, 23, 24, 19, 25, 26, 34, 35, 36, 37, 38] (by decide +kernel) (by decide +kernel)
set_option maxRecDepth 20000 in
theorem gX9_writeWhole_X6_hasStride : GoodIn wsX9_writeWhole (wsV RX9 80 RX6 yX6_hasStride wsX6_hasStride) := goodIn_app (goodIn_of _ (by decide +kernel)) ggX9_writeWhole_X6_hasStride
theorem dX9_writeWhole_0 : decode cX9_writeWhole 0 = .ok (.aload_n 3, 1) := by decide +kernel
theorem dX9_writeWhole_1 : decode cX9_writeWhole 1 = .ok (.aload_n 0, 1) := by decide +kernel
theorem dX9_writeWhole_2 : decode cX9_writeWhole 2 = .ok (.getfield 64, 3) := by decide +kernel
theorem dX9_writeWhole_5 : decode cX9_writeWhole 5 = .ok (.i2l, 1) := by decide +kernel
theorem dX9_writeWhole_6 : decode cX9_writeWhole 6 = .ok (.iconst 4, 1) := by decide +kernel
theorem dX9_writeWhole_7 : decode cX9_writeWhole 7 = .ok (.invokevirtual 67, 3) := by decide +kernel
theorem dX9_writeWhole_10 : decode cX9_writeWhole 10 = .ok (.iconst 0, 1) := by decide +kernel
theorem dX9_writeWhole_11 : decode cX9_writeWhole 11 = .ok (.istore 4, 2) := by decide +kernel
theorem dX9_writeWhole_13 : decode cX9_writeWhole 13 = .ok (.iload 4, 2) := by decide +kernel
theorem dX9_writeWhole_15 : decode cX9_writeWhole 15 = .ok (.aload_n 1, 1) := by decide +kernel
theorem dX9_writeWhole_16 : decode cX9_writeWhole 16 = .ok (.getfield 52, 3) := by decide +kernel
theorem dX9_writeWhole_19 : decode cX9_writeWhole 19 = .ok (.if_icmp .ge 50, 3) := by decide +kernel
theorem dX9_writeWhole_22 : decode cX9_writeWhole 22 = .ok (.aload_n 3, 1) := by decide +kernel
theorem dX9_writeWhole_23 : decode cX9_writeWhole 23 = .ok (.aload_n 2, 1) := by decide +kernel
theorem dX9_writeWhole_24 : decode cX9_writeWhole 24 = .ok (.getfield 73, 3) := by decide +kernel
theorem dX9_writeWhole_27 : decode cX9_writeWhole 27 = .ok (.iload 4, 2) := by decide +kernel
theorem dX9_writeWhole_29 : decode cX9_writeWhole 29 = .ok (.laload, 1) := by decide +kernel
theorem dX9_writeWhole_30 : decode cX9_writeWhole 30 = .ok (.aload_n 1, 1) := by decide +kernel
theorem dX9_writeWhole_31 : decode cX9_writeWhole 31 = .ok (.getfield 77, 3) := by decide +kernel
theorem dX9_writeWhole_34 : decode cX9_writeWhole 34 = .ok (.iload 4, 2) := by decide +kernel
theorem dX9_writeWhole_36 : decode cX9_writeWhole 36 = .ok (.iaload, 1) := by decide +kernel
theorem dX9_writeWhole_37 : decode cX9_writeWhole 37 = .ok (.invokevirtual 67, 3) := by decide +kernel
theorem dX9_writeWhole_40 : decode cX9_writeWhole 40 = .ok (.aload_n 1, 1) := by decide +kernel
theorem dX9_writeWhole_41 : decode cX9_writeWhole 41 = .ok (.iload 4, 2) := by decide +kernel
theorem dX9_writeWhole_43 : decode cX9_writeWhole 43 = .ok (.invokevirtual 80, 3) := by decide +kernel
theorem dX9_writeWhole_46 : decode cX9_writeWhole 46 = .ok (.ifCond .eq 17, 3) := by decide +kernel
theorem dX9_writeWhole_49 : decode cX9_writeWhole 49 = .ok (.aload_n 3, 1) := by decide +kernel
theorem dX9_writeWhole_50 : decode cX9_writeWhole 50 = .ok (.aload_n 0, 1) := by decide +kernel
theorem dX9_writeWhole_51 : decode cX9_writeWhole 51 = .ok (.getfield 9, 3) := by decide +kernel
theorem dX9_writeWhole_54 : decode cX9_writeWhole 54 = .ok (.iload 4, 2) := by decide +kernel
theorem dX9_writeWhole_56 : decode cX9_writeWhole 56 = .ok (.iaload, 1) := by decide +kernel
theorem dX9_writeWhole_57 : decode cX9_writeWhole 57 = .ok (.i2l, 1) := by decide +kernel
theorem dX9_writeWhole_58 : decode cX9_writeWhole 58 = .ok (.bipush 8, 2) := by decide +kernel
theorem dX9_writeWhole_60 : decode cX9_writeWhole 60 = .ok (.invokevirtual 67, 3) := by decide +kernel
theorem dX9_writeWhole_63 : decode cX9_writeWhole 63 = .ok (.iinc 4 1, 3) := by decide +kernel
theorem dX9_writeWhole_66 : decode cX9_writeWhole 66 = .ok (.goto (-53), 3) := by decide +kernel
theorem dX9_writeWhole_69 : decode cX9_writeWhole 69 = .ok (.return_, 1) := by decide +kernel
set_option maxRecDepth 20000 in
theorem ggX9_writePart_X5_write : GoodIn wsX9_writePart wsX5_write := goodIn_r _ [10, 11, 12, 13, 14, 15, 80, 81] (by decide +kernel) (by decide +kernel)
set_option maxRecDepth 20000 in
theorem gX9_writePart_X5_write : GoodIn wsX9_writePart (wsV RX9 67 RX5 yX5_write wsX5_write) := goodIn_app (goodIn_of _ (by decide +kernel)) ggX9_writePart_X5_write
set_option maxRecDepth 20000 in
theorem ggX9_writePart_X9_isGivenByAll : GoodIn wsX9_writePart wsX9_isGivenByAll := goodIn_r _ [20, 21, 22, 23, 19, 24, 4, 25, 26, 27, 28, 29, 30, 31, 32, 33, 34, 35, 36, 37, 38, 39, 40, 41, 42, 43, 44, 45, 46, 47, 48, 49, 50, 51, 52, 53, 14, 54, 55, 56, 57, 58, 78, 79, 66, 67, 68, 69, 70, 71, 72, 73, 74, 75, 76, 77] (by decide +kernel) (by decide +kernel)
set_option maxRecDepth 20000 in
theorem gX9_writePart_X9_isGivenByAll : GoodIn wsX9_writePart (wsV RX9 60 RX9 yX9_isGivenByAll wsX9_isGivenByAll) := goodIn_app (goodIn_of _ (by decide +kernel)) ggX9_writePart_X9_isGivenByAll
set_option maxRecDepth 20000 in
theorem ggX9_writePart_X6_sumOf : GoodIn wsX9_writePart wsX6_sumOf := goodIn_r _ [62, 63, 64, 65, 45, 53, 14, 54, 73, 74, 75, 76, 77, 78, 79] (by decide +kernel) (by decide +kernel)
set_option maxRecDepth 20000 in
theorem gX9_writePart_X6_sumOf : GoodIn wsX9_writePart (wsV RX9 84 RX6 yX6_sumOf wsX6_sumOf) := goodIn_app (goodIn_of _ (by decide +kernel)) ggX9_writePart_X6_sumOf
theorem dX9_writePart_0 : decode cX9_writePart 0 = .ok (.aload_n 3, 1) := by decide +kernel
theorem dX9_writePart_1 : decode cX9_writePart 1 = .ok (.aload_n 0, 1) := by decide +kernel
theorem dX9_writePart_2 : decode cX9_writePart 2 = .ok (.getfield 64, 3) := by decide +kernel
theorem dX9_writePart_5 : decode cX9_writePart 5 = .ok (.i2l, 1) := by decide +kernel
theorem dX9_writePart_6 : decode cX9_writePart 6 = .ok (.iconst 4, 1) := by decide +kernel
theorem dX9_writePart_7 : decode cX9_writePart 7 = .ok (.invokevirtual 67, 3) := by decide +kernel
theorem dX9_writePart_10 : decode cX9_writePart 10 = .ok (.iconst 0, 1) := by decide +kernel
theorem dX9_writePart_11 : decode cX9_writePart 11 = .ok (.istore 4, 2) := by decide +kernel
theorem dX9_writePart_13 : decode cX9_writePart 13 = .ok (.iload 4, 2) := by decide +kernel
theorem dX9_writePart_15 : decode cX9_writePart 15 = .ok (.aload_n 1, 1) := by decide +kernel
theorem dX9_writePart_16 : decode cX9_writePart 16 = .ok (.getfield 52, 3) := by decide +kernel
theorem dX9_writePart_19 : decode cX9_writePart 19 = .ok (.if_icmp .ge 93, 3) := by decide +kernel
theorem dX9_writePart_22 : decode cX9_writePart 22 = .ok (.aload_n 1, 1) := by decide +kernel
theorem dX9_writePart_23 : decode cX9_writePart 23 = .ok (.getfield 57, 3) := by decide +kernel
theorem dX9_writePart_26 : decode cX9_writePart 26 = .ok (.iload 4, 2) := by decide +kernel
theorem dX9_writePart_28 : decode cX9_writePart 28 = .ok (.iaload, 1) := by decide +kernel
theorem dX9_writePart_29 : decode cX9_writePart 29 = .ok (.iconst 4, 1) := by decide +kernel
theorem dX9_writePart_30 : decode cX9_writePart 30 = .ok (.if_icmp .ne 7, 3) := by decide +kernel
theorem dX9_writePart_33 : decode cX9_writePart 33 = .ok (.iconst 1, 1) := by decide +kernel
theorem dX9_writePart_34 : decode cX9_writePart 34 = .ok (.goto 4, 3) := by decide +kernel
theorem dX9_writePart_37 : decode cX9_writePart 37 = .ok (.iconst 0, 1) := by decide +kernel
theorem dX9_writePart_38 : decode cX9_writePart 38 = .ok (.istore 5, 2) := by decide +kernel
theorem dX9_writePart_40 : decode cX9_writePart 40 = .ok (.iload 5, 2) := by decide +kernel
theorem dX9_writePart_42 : decode cX9_writePart 42 = .ok (.ifCond .ne 14, 3) := by decide +kernel
theorem dX9_writePart_45 : decode cX9_writePart 45 = .ok (.aload_n 0, 1) := by decide +kernel
theorem dX9_writePart_46 : decode cX9_writePart 46 = .ok (.aload_n 1, 1) := by decide +kernel
theorem dX9_writePart_47 : decode cX9_writePart 47 = .ok (.aload_n 2, 1) := by decide +kernel
theorem dX9_writePart_48 : decode cX9_writePart 48 = .ok (.iload 4, 2) := by decide +kernel
theorem dX9_writePart_50 : decode cX9_writePart 50 = .ok (.invokevirtual 60, 3) := by decide +kernel
theorem dX9_writePart_53 : decode cX9_writePart 53 = .ok (.ifCond .ne 7, 3) := by decide +kernel
theorem dX9_writePart_56 : decode cX9_writePart 56 = .ok (.iconst 1, 1) := by decide +kernel
theorem dX9_writePart_57 : decode cX9_writePart 57 = .ok (.goto 4, 3) := by decide +kernel
theorem dX9_writePart_60 : decode cX9_writePart 60 = .ok (.iconst 0, 1) := by decide +kernel
theorem dX9_writePart_61 : decode cX9_writePart 61 = .ok (.istore 6, 2) := by decide +kernel
theorem dX9_writePart_63 : decode cX9_writePart 63 = .ok (.iload 5, 2) := by decide +kernel
theorem dX9_writePart_65 : decode cX9_writePart 65 = .ok (.ifCond .ne 18, 3) := by decide +kernel
theorem dX9_writePart_68 : decode cX9_writePart 68 = .ok (.aload_n 3, 1) := by decide +kernel
theorem dX9_writePart_69 : decode cX9_writePart 69 = .ok (.iload 6, 2) := by decide +kernel
theorem dX9_writePart_71 : decode cX9_writePart 71 = .ok (.ifCond .eq 7, 3) := by decide +kernel
theorem dX9_writePart_74 : decode cX9_writePart 74 = .ok (.lconst 1, 1) := by decide +kernel
theorem dX9_writePart_75 : decode cX9_writePart 75 = .ok (.goto 4, 3) := by decide +kernel
theorem dX9_writePart_78 : decode cX9_writePart 78 = .ok (.lconst 0, 1) := by decide +kernel
theorem dX9_writePart_79 : decode cX9_writePart 79 = .ok (.iconst 1, 1) := by decide +kernel
theorem dX9_writePart_80 : decode cX9_writePart 80 = .ok (.invokevirtual 67, 3) := by decide +kernel
theorem dX9_writePart_83 : decode cX9_writePart 83 = .ok (.iload 6, 2) := by decide +kernel
theorem dX9_writePart_85 : decode cX9_writePart 85 = .ok (.ifCond .eq 21, 3) := by decide +kernel
theorem dX9_writePart_88 : decode cX9_writePart 88 = .ok (.aload_n 3, 1) := by decide +kernel
theorem dX9_writePart_89 : decode cX9_writePart 89 = .ok (.aload_n 2, 1) := by decide +kernel
theorem dX9_writePart_90 : decode cX9_writePart 90 = .ok (.getfield 73, 3) := by decide +kernel
theorem dX9_writePart_93 : decode cX9_writePart 93 = .ok (.iload 4, 2) := by decide +kernel
theorem dX9_writePart_95 : decode cX9_writePart 95 = .ok (.laload, 1) := by decide +kernel
theorem dX9_writePart_96 : decode cX9_writePart 96 = .ok (.aload_n 1, 1) := by decide +kernel
theorem dX9_writePart_97 : decode cX9_writePart 97 = .ok (.getfield 77, 3) := by decide +kernel
theorem dX9_writePart_100 : decode cX9_writePart 100 = .ok (.iload 4, 2) := by decide +kernel
theorem dX9_writePart_102 : decode cX9_writePart 102 = .ok (.iaload, 1) := by decide +kernel
theorem dX9_writePart_103 : decode cX9_writePart 103 = .ok (.invokevirtual 67, 3) := by decide +kernel
theorem dX9_writePart_106 : decode cX9_writePart 106 = .ok (.iinc 4 1, 3) := by decide +kernel
theorem dX9_writePart_109 : decode cX9_writePart 109 = .ok (.goto (-96), 3) := by decide +kernel
theorem dX9_writePart_112 : decode cX9_writePart 112 = .ok (.aload_n 3, 1) := by decide +kernel
theorem dX9_writePart_113 : decode cX9_writePart 113 = .ok (.aload_n 1, 1) := by decide +kernel
theorem dX9_writePart_114 : decode cX9_writePart 114 = .ok (.aload_n 2, 1) := by decide +kernel
theorem dX9_writePart_115 : decode cX9_writePart 115 = .ok (.invokevirtual 84, 3) := by decide +kernel
theorem dX9_writePart_118 : decode cX9_writePart 118 = .ok (.i2l, 1) := by decide +kernel
theorem dX9_writePart_119 : decode cX9_writePart 119 = .ok (.bipush 8, 2) := by decide +kernel
theorem dX9_writePart_121 : decode cX9_writePart 121 = .ok (.invokevirtual 67, 3) := by decide +kernel
theorem dX9_writePart_124 : decode cX9_writePart 124 = .ok (.return_, 1) := by decide +kernel
set_option maxRecDepth 20000 in
theorem ggX9_writeShort_X9_oldestNumber : GoodIn wsX9_writeShort wsX9_oldestNumber := goodIn_r _ [14, 1, 15, 16, 17, 18, 13, 19, 20, 21, 22, 23, 24, 25, 82, 83, 84, 85, 86, 87, 88, 98, 99] (by decide +kernel) (by decide +kernel)
set_option maxRecDepth 20000 in
theorem gX9_writeShort_X9_oldestNumber : GoodIn wsX9_writeShort (wsV RX9 93 RX9 yX9_oldestNumber wsX9_oldestNumber) := goodIn_app (goodIn_of _ (by decide +kernel)) ggX9_writeShort_X9_oldestNumber
set_option maxRecDepth 20000 in
theorem ggX9_writeShort_X5_write : GoodIn wsX9_writeShort wsX5_write := goodIn_r _ [30, 31, 32, 33, 34, 35, 100, 101] (by decide +kernel) (by decide +kernel)
set_option maxRecDepth 20000 in
theorem gX9_writeShort_X5_write : GoodIn wsX9_writeShort (wsV RX9 67 RX5 yX5_write wsX5_write) := goodIn_app (goodIn_of _ (by decide +kernel)) ggX9_writeShort_X5_write
set_option maxRecDepth 20000 in
theorem ggX9_writeShort_X6_hasStride : GoodIn wsX9_writeShort wsX6_hasStride := goodIn_r _ [40, 41, 42, 43, 44, 39, 45, 46, 93, 94, 95, 96, 97] (by decide +kernel) (by decide +kernel)
set_option maxRecDepth 20000 in
theorem gX9_writeShort_X6_hasStride : GoodIn wsX9_writeShort (wsV RX9 80 RX6 yX6_hasStride wsX6_hasStride) := goodIn_app (goodIn_of _ (by decide +kernel)) ggX9_writeShort_X6_hasStride
set_option maxRecDepth 20000 in
theorem ggX9_writeShort_X9_findLeast : GoodIn wsX9_writeShort wsX9_findLeast := goodIn_r _ [50, 9, 6, 51, 52, 53, 54, 13, 55, 7, 1, 56, 15, 16, 17, 18, 19, 20, 21, 22, 23, 24, 25, 57, 58, 59, 39, 60, 61, 41, 62, 63, 64, 65, 66, 67, 68, 69, 70, 34, 71, 72, 73, 74, 75, 93, 94, 95, 96, 97, 89, 90, 91, 92, 98, 99, 82, 83, 84, 85, 86, 87, 88] (by decide +kernel) (by decide +kernel)
set_option maxRecDepth 20000 in
theorem gX9_writeShort_X9_findLeast : GoodIn wsX9_writeShort (wsV RX9 100 RX9 yX9_findLeast wsX9_findLeast) := goodIn_app (goodIn_of _ (by decide +kernel)) ggX9_writeShort_X9_findLeast
set_option maxRecDepth 20000 in
theorem ggX9_writeShort_X6_sumOf : GoodIn wsX9_writeShort wsX6_sumOf := goodIn_r _ [79, 80, 46, 81, 62, 70, 34, 71, 93, 94, 95, 96, 97, 98, 99] (by decide +kernel) (by decide +kernel)
set_option maxRecDepth 20000 in
theorem gX9_writeShort_X6_sumOf : GoodIn wsX9_writeShort (wsV RX9 84 RX6 yX6_sumOf wsX6_sumOf) := goodIn_app (goodIn_of _ (by decide +kernel)) ggX9_writeShort_X6_sumOf
theorem dX9_writeShort_0 : decode cX9_writeShort 0 = .ok (.aload 4, 2) := by decide +kernel
theorem dX9_writeShort_2 : decode cX9_writeShort 2 = .ok (.aload_n 0, 1) := by decide +kernel
theorem dX9_writeShort_3 : decode cX9_writeShort 3 = .ok (.getfield 42, 3) := by decide +kernel
theorem dX9_writeShort_6 : decode cX9_writeShort 6 = .ok (.putfield 88, 3) := by decide +kernel
theorem dX9_writeShort_9 : decode cX9_writeShort 9 = .ok (.aload 4, 2) := by decide +kernel
theorem dX9_writeShort_11 : decode cX9_writeShort 11 = .ok (.aload_n 0, 1) := by decide +kernel
theorem dX9_writeShort_12 : decode cX9_writeShort 12 = .ok (.invokevirtual 93, 3) := by decide +kernel
theorem dX9_writeShort_15 : decode cX9_writeShort 15 = .ok (.putfield 97, 3) := by decide +kernel
theorem dX9_writeShort_18 : decode cX9_writeShort 18 = .ok (.aload_n 3, 1) := by decide +kernel
theorem dX9_writeShort_19 : decode cX9_writeShort 19 = .ok (.aload_n 0, 1) := by decide +kernel
theorem dX9_writeShort_20 : decode cX9_writeShort 20 = .ok (.getfield 64, 3) := by decide +kernel
theorem dX9_writeShort_23 : decode cX9_writeShort 23 = .ok (.i2l, 1) := by decide +kernel
theorem dX9_writeShort_24 : decode cX9_writeShort 24 = .ok (.iconst 4, 1) := by decide +kernel
theorem dX9_writeShort_25 : decode cX9_writeShort 25 = .ok (.invokevirtual 67, 3) := by decide +kernel
theorem dX9_writeShort_28 : decode cX9_writeShort 28 = .ok (.iconst 0, 1) := by decide +kernel
theorem dX9_writeShort_29 : decode cX9_writeShort 29 = .ok (.istore 5, 2) := by decide +kernel
theorem dX9_writeShort_31 : decode cX9_writeShort 31 = .ok (.iload 5, 2) := by decide +kernel
theorem dX9_writeShort_33 : decode cX9_writeShort 33 = .ok (.aload_n 1, 1) := by decide +kernel
theorem dX9_writeShort_34 : decode cX9_writeShort 34 = .ok (.getfield 52, 3) := by decide +kernel
theorem dX9_writeShort_37 : decode cX9_writeShort 37 = .ok (.if_icmp .ge 94, 3) := by decide +kernel
theorem dX9_writeShort_40 : decode cX9_writeShort 40 = .ok (.aload_n 1, 1) := by decide +kernel
theorem dX9_writeShort_41 : decode cX9_writeShort 41 = .ok (.iload 5, 2) := by decide +kernel
theorem dX9_writeShort_43 : decode cX9_writeShort 43 = .ok (.invokevirtual 80, 3) := by decide +kernel
theorem dX9_writeShort_46 : decode cX9_writeShort 46 = .ok (.ifCond .eq 50, 3) := by decide +kernel
theorem dX9_writeShort_49 : decode cX9_writeShort 49 = .ok (.aload_n 0, 1) := by decide +kernel
theorem dX9_writeShort_50 : decode cX9_writeShort 50 = .ok (.aload_n 1, 1) := by decide +kernel
theorem dX9_writeShort_51 : decode cX9_writeShort 51 = .ok (.aload_n 2, 1) := by decide +kernel
theorem dX9_writeShort_52 : decode cX9_writeShort 52 = .ok (.iload 5, 2) := by decide +kernel
theorem dX9_writeShort_54 : decode cX9_writeShort 54 = .ok (.aload 4, 2) := by decide +kernel
theorem dX9_writeShort_56 : decode cX9_writeShort 56 = .ok (.invokevirtual 100, 3) := by decide +kernel
theorem dX9_writeShort_59 : decode cX9_writeShort 59 = .ok (.aload_n 3, 1) := by decide +kernel
theorem dX9_writeShort_60 : decode cX9_writeShort 60 = .ok (.aload 4, 2) := by decide +kernel
theorem dX9_writeShort_62 : decode cX9_writeShort 62 = .ok (.getfield 104, 3) := by decide +kernel
theorem dX9_writeShort_65 : decode cX9_writeShort 65 = .ok (.iload 5, 2) := by decide +kernel
theorem dX9_writeShort_67 : decode cX9_writeShort 67 = .ok (.iaload, 1) := by decide +kernel
theorem dX9_writeShort_68 : decode cX9_writeShort 68 = .ok (.i2l, 1) := by decide +kernel
theorem dX9_writeShort_69 : decode cX9_writeShort 69 = .ok (.bipush 6, 2) := by decide +kernel
theorem dX9_writeShort_71 : decode cX9_writeShort 71 = .ok (.invokevirtual 67, 3) := by decide +kernel
theorem dX9_writeShort_74 : decode cX9_writeShort 74 = .ok (.aload_n 3, 1) := by decide +kernel
theorem dX9_writeShort_75 : decode cX9_writeShort 75 = .ok (.aload_n 2, 1) := by decide +kernel
theorem dX9_writeShort_76 : decode cX9_writeShort 76 = .ok (.getfield 73, 3) := by decide +kernel
theorem dX9_writeShort_79 : decode cX9_writeShort 79 = .ok (.iload 5, 2) := by decide +kernel
theorem dX9_writeShort_81 : decode cX9_writeShort 81 = .ok (.laload, 1) := by decide +kernel
theorem dX9_writeShort_82 : decode cX9_writeShort 82 = .ok (.aload 4, 2) := by decide +kernel
theorem dX9_writeShort_84 : decode cX9_writeShort 84 = .ok (.getfield 104, 3) := by decide +kernel
theorem dX9_writeShort_87 : decode cX9_writeShort 87 = .ok (.iload 5, 2) := by decide +kernel
theorem dX9_writeShort_89 : decode cX9_writeShort 89 = .ok (.iaload, 1) := by decide +kernel
theorem dX9_writeShort_90 : decode cX9_writeShort 90 = .ok (.invokevirtual 67, 3) := by decide +kernel
theorem dX9_writeShort_93 : decode cX9_writeShort 93 = .ok (.goto 32, 3) := by decide +kernel
theorem dX9_writeShort_96 : decode cX9_writeShort 96 = .ok (.aload_n 1, 1) := by decide +kernel
theorem dX9_writeShort_97 : decode cX9_writeShort 97 = .ok (.getfield 57, 3) := by decide +kernel
theorem dX9_writeShort_100 : decode cX9_writeShort 100 = .ok (.iload 5, 2) := by decide +kernel
theorem dX9_writeShort_102 : decode cX9_writeShort 102 = .ok (.iaload, 1) := by decide +kernel
theorem dX9_writeShort_103 : decode cX9_writeShort 103 = .ok (.iconst 4, 1) := by decide +kernel
theorem dX9_writeShort_104 : decode cX9_writeShort 104 = .ok (.if_icmp .ne 21, 3) := by decide +kernel
theorem dX9_writeShort_107 : decode cX9_writeShort 107 = .ok (.aload_n 3, 1) := by decide +kernel
theorem dX9_writeShort_108 : decode cX9_writeShort 108 = .ok (.aload_n 2, 1) := by decide +kernel
theorem dX9_writeShort_109 : decode cX9_writeShort 109 = .ok (.getfield 73, 3) := by decide +kernel
theorem dX9_writeShort_112 : decode cX9_writeShort 112 = .ok (.iload 5, 2) := by decide +kernel
theorem dX9_writeShort_114 : decode cX9_writeShort 114 = .ok (.laload, 1) := by decide +kernel
theorem dX9_writeShort_115 : decode cX9_writeShort 115 = .ok (.aload_n 1, 1) := by decide +kernel
theorem dX9_writeShort_116 : decode cX9_writeShort 116 = .ok (.getfield 77, 3) := by decide +kernel
theorem dX9_writeShort_119 : decode cX9_writeShort 119 = .ok (.iload 5, 2) := by decide +kernel
theorem dX9_writeShort_121 : decode cX9_writeShort 121 = .ok (.iaload, 1) := by decide +kernel
theorem dX9_writeShort_122 : decode cX9_writeShort 122 = .ok (.invokevirtual 67, 3) := by decide +kernel
theorem dX9_writeShort_125 : decode cX9_writeShort 125 = .ok (.iinc 5 1, 3) := by decide +kernel
theorem dX9_writeShort_128 : decode cX9_writeShort 128 = .ok (.goto (-97), 3) := by decide +kernel
theorem dX9_writeShort_131 : decode cX9_writeShort 131 = .ok (.aload_n 3, 1) := by decide +kernel
theorem dX9_writeShort_132 : decode cX9_writeShort 132 = .ok (.aload_n 1, 1) := by decide +kernel
theorem dX9_writeShort_133 : decode cX9_writeShort 133 = .ok (.aload_n 2, 1) := by decide +kernel
theorem dX9_writeShort_134 : decode cX9_writeShort 134 = .ok (.invokevirtual 84, 3) := by decide +kernel
theorem dX9_writeShort_137 : decode cX9_writeShort 137 = .ok (.i2l, 1) := by decide +kernel
theorem dX9_writeShort_138 : decode cX9_writeShort 138 = .ok (.bipush 8, 2) := by decide +kernel
theorem dX9_writeShort_140 : decode cX9_writeShort 140 = .ok (.invokevirtual 67, 3) := by decide +kernel
theorem dX9_writeShort_143 : decode cX9_writeShort 143 = .ok (.return_, 1) := by decide +kernel
set_option maxRecDepth 20000 in
theorem ggX9_remember_X9_dropOldest : GoodIn wsX9_remember wsX9_dropOldest := goodIn_r _ [7, 8, 1, 9, 10, 11, 12, 29, 30, 31, 32, 33, 34, 35] (by decide +kernel) (by decide +kernel)
set_option maxRecDepth 20000 in
theorem gX9_remember_X9_dropOldest : GoodIn wsX9_remember (wsV RX9 107 RX9 yX9_dropOldest wsX9_dropOldest) := goodIn_app (goodIn_of _ (by decide +kernel)) ggX9_remember_X9_dropOldest
set_option maxRecDepth 20000 in
theorem ggX9_remember_X9_reference : GoodIn wsX9_remember wsX9_reference := goodIn_r _ [16, 17, 8, 9, 10, 11, 12, 29, 30, 31, 32, 33, 34, 35] (by decide +kernel) (by decide +kernel)
set_option maxRecDepth 20000 in
theorem gX9_remember_X9_reference : GoodIn wsX9_remember (wsV RX9 45 RX9 yX9_reference wsX9_reference) := goodIn_app (goodIn_of _ (by decide +kernel)) ggX9_remember_X9_reference
set_option maxRecDepth 20000 in
theorem ggX9_remember_X3_become : GoodIn wsX9_remember wsX3_become := goodIn_r _ [22, 23, 24, 25, 26, 27, 28, 36, 37] (by decide +kernel) (by decide +kernel)
set_option maxRecDepth 20000 in
theorem gX9_remember_X3_become : GoodIn wsX9_remember (wsV RX9 111 RX3 yX3_become wsX3_become) := goodIn_app (goodIn_of _ (by decide +kernel)) ggX9_remember_X3_become
theorem dX9_remember_0 : decode cX9_remember 0 = .ok (.aload_n 0, 1) := by decide +kernel
theorem dX9_remember_1 : decode cX9_remember 1 = .ok (.getfield 42, 3) := by decide +kernel
theorem dX9_remember_4 : decode cX9_remember 4 = .ok (.iload_n 2, 1) := by decide +kernel
theorem dX9_remember_5 : decode cX9_remember 5 = .ok (.if_icmp .lt 15, 3) := by decide +kernel
theorem dX9_remember_8 : decode cX9_remember 8 = .ok (.aload_n 0, 1) := by decide +kernel
theorem dX9_remember_9 : decode cX9_remember 9 = .ok (.aload_n 0, 1) := by decide +kernel
theorem dX9_remember_10 : decode cX9_remember 10 = .ok (.getfield 42, 3) := by decide +kernel
theorem dX9_remember_13 : decode cX9_remember 13 = .ok (.iload_n 2, 1) := by decide +kernel
theorem dX9_remember_14 : decode cX9_remember 14 = .ok (.isub, 1) := by decide +kernel
theorem dX9_remember_15 : decode cX9_remember 15 = .ok (.iconst 1, 1) := by decide +kernel
theorem dX9_remember_16 : decode cX9_remember 16 = .ok (.iadd, 1) := by decide +kernel
theorem dX9_remember_17 : decode cX9_remember 17 = .ok (.invokevirtual 107, 3) := by decide +kernel
theorem dX9_remember_20 : decode cX9_remember 20 = .ok (.aload_n 0, 1) := by decide +kernel
theorem dX9_remember_21 : decode cX9_remember 21 = .ok (.aload_n 0, 1) := by decide +kernel
theorem dX9_remember_22 : decode cX9_remember 22 = .ok (.getfield 42, 3) := by decide +kernel
theorem dX9_remember_25 : decode cX9_remember 25 = .ok (.invokevirtual 45, 3) := by decide +kernel
theorem dX9_remember_28 : decode cX9_remember 28 = .ok (.aload_n 1, 1) := by decide +kernel
theorem dX9_remember_29 : decode cX9_remember 29 = .ok (.invokevirtual 111, 3) := by decide +kernel
theorem dX9_remember_32 : decode cX9_remember 32 = .ok (.aload_n 0, 1) := by decide +kernel
theorem dX9_remember_33 : decode cX9_remember 33 = .ok (.dup, 1) := by decide +kernel
theorem dX9_remember_34 : decode cX9_remember 34 = .ok (.getfield 42, 3) := by decide +kernel
theorem dX9_remember_37 : decode cX9_remember 37 = .ok (.iconst 1, 1) := by decide +kernel
theorem dX9_remember_38 : decode cX9_remember 38 = .ok (.iadd, 1) := by decide +kernel
theorem dX9_remember_39 : decode cX9_remember 39 = .ok (.putfield 42, 3) := by decide +kernel
theorem dX9_remember_42 : decode cX9_remember 42 = .ok (.aload_n 0, 1) := by decide +kernel
theorem dX9_remember_43 : decode cX9_remember 43 = .ok (.dup, 1) := by decide +kernel
theorem dX9_remember_44 : decode cX9_remember 44 = .ok (.getfield 115, 3) := by decide +kernel
theorem dX9_remember_47 : decode cX9_remember 47 = .ok (.iconst 1, 1) := by decide +kernel
theorem dX9_remember_48 : decode cX9_remember 48 = .ok (.iadd, 1) := by decide +kernel
theorem dX9_remember_49 : decode cX9_remember 49 = .ok (.putfield 115, 3) := by decide +kernel
theorem dX9_remember_52 : decode cX9_remember 52 = .ok (.return_, 1) := by decide +kernel
set_option maxRecDepth 20000 in
theorem ggX9_heed_X9_reference : GoodIn wsX9_heed wsX9_reference := goodIn_r _ [9, 10, 11, 12, 13, 14, 15, 20, 21, 22, 23, 24, 25, 26] (by decide +kernel) (by decide +kernel)
set_option maxRecDepth 20000 in
theorem gX9_heed_X9_reference : GoodIn wsX9_heed (wsV RX9 45 RX9 yX9_reference wsX9_reference) := goodIn_app (goodIn_of _ (by decide +kernel)) ggX9_heed_X9_reference
set_option maxRecDepth 20000 in
theorem ggX9_heed_X9_dropOldest : GoodIn wsX9_heed wsX9_dropOldest := goodIn_r _ [19, 11, 2, 12, 13, 14, 15, 20, 21, 22, 23, 24, 25, 26] (by decide +kernel) (by decide +kernel)
set_option maxRecDepth 20000 in
theorem gX9_heed_X9_dropOldest : GoodIn wsX9_heed (wsV RX9 107 RX9 yX9_dropOldest wsX9_dropOldest) := goodIn_app (goodIn_of _ (by decide +kernel)) ggX9_heed_X9_dropOldest
theorem dX9_heed_0 : decode cX9_heed 0 = .ok (.iload_n 1, 1) := by decide +kernel
theorem dX9_heed_1 : decode cX9_heed 1 = .ok (.iconst 3, 1) := by decide +kernel
theorem dX9_heed_2 : decode cX9_heed 2 = .ok (.if_icmp .eq 25, 3) := by decide +kernel
theorem dX9_heed_5 : decode cX9_heed 5 = .ok (.aload_n 0, 1) := by decide +kernel
theorem dX9_heed_6 : decode cX9_heed 6 = .ok (.getfield 15, 3) := by decide +kernel
theorem dX9_heed_9 : decode cX9_heed 9 = .ok (.istore_n 3, 1) := by decide +kernel
theorem dX9_heed_10 : decode cX9_heed 10 = .ok (.aload_n 0, 1) := by decide +kernel
theorem dX9_heed_11 : decode cX9_heed 11 = .ok (.iconst 1, 1) := by decide +kernel
theorem dX9_heed_12 : decode cX9_heed 12 = .ok (.putfield 15, 3) := by decide +kernel
theorem dX9_heed_15 : decode cX9_heed 15 = .ok (.iload_n 3, 1) := by decide +kernel
theorem dX9_heed_16 : decode cX9_heed 16 = .ok (.ifCond .eq 8, 3) := by decide +kernel
theorem dX9_heed_19 : decode cX9_heed 19 = .ok (.bipush 7, 2) := by decide +kernel
theorem dX9_heed_21 : decode cX9_heed 21 = .ok (.goto 5, 3) := by decide +kernel
theorem dX9_heed_24 : decode cX9_heed 24 = .ok (.bipush 6, 2) := by decide +kernel
theorem dX9_heed_26 : decode cX9_heed 26 = .ok (.ireturn, 1) := by decide +kernel
theorem dX9_heed_27 : decode cX9_heed 27 = .ok (.iconst 0, 1) := by decide +kernel
theorem dX9_heed_28 : decode cX9_heed 28 = .ok (.istore_n 3, 1) := by decide +kernel
theorem dX9_heed_29 : decode cX9_heed 29 = .ok (.iload_n 3, 1) := by decide +kernel
theorem dX9_heed_30 : decode cX9_heed 30 = .ok (.aload_n 0, 1) := by decide +kernel
theorem dX9_heed_31 : decode cX9_heed 31 = .ok (.getfield 42, 3) := by decide +kernel
theorem dX9_heed_34 : decode cX9_heed 34 = .ok (.if_icmp .ge 32, 3) := by decide +kernel
theorem dX9_heed_37 : decode cX9_heed 37 = .ok (.aload_n 0, 1) := by decide +kernel
theorem dX9_heed_38 : decode cX9_heed 38 = .ok (.iload_n 3, 1) := by decide +kernel
theorem dX9_heed_39 : decode cX9_heed 39 = .ok (.invokevirtual 45, 3) := by decide +kernel
theorem dX9_heed_42 : decode cX9_heed 42 = .ok (.getfield 49, 3) := by decide +kernel
theorem dX9_heed_45 : decode cX9_heed 45 = .ok (.ldc 116, 2) := by decide +kernel
theorem dX9_heed_47 : decode cX9_heed 47 = .ok (.irem, 1) := by decide +kernel
theorem dX9_heed_48 : decode cX9_heed 48 = .ok (.iload_n 2, 1) := by decide +kernel
theorem dX9_heed_49 : decode cX9_heed 49 = .ok (.if_icmp .ne 11, 3) := by decide +kernel
theorem dX9_heed_52 : decode cX9_heed 52 = .ok (.aload_n 0, 1) := by decide +kernel
theorem dX9_heed_53 : decode cX9_heed 53 = .ok (.iload_n 3, 1) := by decide +kernel
theorem dX9_heed_54 : decode cX9_heed 54 = .ok (.invokevirtual 107, 3) := by decide +kernel
theorem dX9_heed_57 : decode cX9_heed 57 = .ok (.bipush 6, 2) := by decide +kernel
theorem dX9_heed_59 : decode cX9_heed 59 = .ok (.ireturn, 1) := by decide +kernel
theorem dX9_heed_60 : decode cX9_heed 60 = .ok (.iinc 3 1, 3) := by decide +kernel
theorem dX9_heed_63 : decode cX9_heed 63 = .ok (.goto (-34), 3) := by decide +kernel
theorem dX9_heed_66 : decode cX9_heed 66 = .ok (.bipush 7, 2) := by decide +kernel
theorem dX9_heed_68 : decode cX9_heed 68 = .ok (.ireturn, 1) := by decide +kernel
set_option maxRecDepth 20000 in
theorem ggX9_dropOldest_J9_floorMod_7cf53 : GoodIn wsX9_dropOldest wsJ9_floorMod_7cf53 := goodIn_r _ [6] (by decide +kernel) (by decide +kernel)
set_option maxRecDepth 20000 in
theorem gX9_dropOldest_J9_floorMod_7cf53 : GoodIn wsX9_dropOldest (va_wsS RX9 36 yJ9_floorMod_7cf53 wsJ9_floorMod_7cf53) := goodIn_app (goodIn_of _ (by decide +kernel)) ggX9_dropOldest_J9_floorMod_7cf53
theorem dX9_dropOldest_0 : decode cX9_dropOldest 0 = .ok (.aload_n 0, 1) := by decide +kernel
theorem dX9_dropOldest_1 : decode cX9_dropOldest 1 = .ok (.aload_n 0, 1) := by decide +kernel
theorem dX9_dropOldest_2 : decode cX9_dropOldest 2 = .ok (.getfield 32, 3) := by decide +kernel
theorem dX9_dropOldest_5 : decode cX9_dropOldest 5 = .ok (.iload_n 1, 1) := by decide +kernel
theorem dX9_dropOldest_6 : decode cX9_dropOldest 6 = .ok (.iadd, 1) := by decide +kernel
theorem dX9_dropOldest_7 : decode cX9_dropOldest 7 = .ok (.bipush 8, 2) := by decide +kernel
theorem dX9_dropOldest_9 : decode cX9_dropOldest 9 = .ok (.invokestatic 36, 3) := by decide +kernel
theorem dX9_dropOldest_12 : decode cX9_dropOldest 12 = .ok (.putfield 32, 3) := by decide +kernel
theorem dX9_dropOldest_15 : decode cX9_dropOldest 15 = .ok (.aload_n 0, 1) := by decide +kernel
theorem dX9_dropOldest_16 : decode cX9_dropOldest 16 = .ok (.dup, 1) := by decide +kernel
theorem dX9_dropOldest_17 : decode cX9_dropOldest 17 = .ok (.getfield 42, 3) := by decide +kernel
theorem dX9_dropOldest_20 : decode cX9_dropOldest 20 = .ok (.iload_n 1, 1) := by decide +kernel
theorem dX9_dropOldest_21 : decode cX9_dropOldest 21 = .ok (.isub, 1) := by decide +kernel
theorem dX9_dropOldest_22 : decode cX9_dropOldest 22 = .ok (.putfield 42, 3) := by decide +kernel
theorem dX9_dropOldest_25 : decode cX9_dropOldest 25 = .ok (.return_, 1) := by decide +kernel
set_option maxRecDepth 20000 in
theorem ggX9_isGivenByAll_X9_oldestMiss : GoodIn wsX9_isGivenByAll wsX9_oldestMiss := goodIn_r _ [5, 6, 7, 8, 9, 10, 11, 12, 4, 13, 14, 15, 16, 17, 18, 19, 20, 21, 22, 23, 24, 25, 26, 27, 28, 29, 30, 31, 32, 33, 34, 35, 36, 37, 38, 39, 40, 41, 42, 43, 44, 45, 46, 47, 48, 49, 50, 51, 52, 53, 54, 55] (by decide +kernel) (by decide +kernel)
set_option maxRecDepth 20000 in
theorem gX9_isGivenByAll_X9_oldestMiss : GoodIn wsX9_isGivenByAll (wsV RX9 117 RX9 yX9_oldestMiss wsX9_oldestMiss) := goodIn_app (goodIn_of _ (by decide +kernel)) ggX9_isGivenByAll_X9_oldestMiss
theorem dX9_isGivenByAll_0 : decode cX9_isGivenByAll 0 = .ok (.aload_n 0, 1) := by decide +kernel
theorem dX9_isGivenByAll_1 : decode cX9_isGivenByAll 1 = .ok (.aload_n 1, 1) := by decide +kernel
theorem dX9_isGivenByAll_2 : decode cX9_isGivenByAll 2 = .ok (.aload_n 2, 1) := by decide +kernel
theorem dX9_isGivenByAll_3 : decode cX9_isGivenByAll 3 = .ok (.iload_n 3, 1) := by decide +kernel
theorem dX9_isGivenByAll_4 : decode cX9_isGivenByAll 4 = .ok (.iconst 0, 1) := by decide +kernel
theorem dX9_isGivenByAll_5 : decode cX9_isGivenByAll 5 = .ok (.invokevirtual 117, 3) := by decide +kernel
theorem dX9_isGivenByAll_8 : decode cX9_isGivenByAll 8 = .ok (.bipush (-2), 2) := by decide +kernel
theorem dX9_isGivenByAll_10 : decode cX9_isGivenByAll 10 = .ok (.if_icmp .ne 7, 3) := by decide +kernel
theorem dX9_isGivenByAll_13 : decode cX9_isGivenByAll 13 = .ok (.iconst 1, 1) := by decide +kernel
theorem dX9_isGivenByAll_14 : decode cX9_isGivenByAll 14 = .ok (.goto 4, 3) := by decide +kernel
theorem dX9_isGivenByAll_17 : decode cX9_isGivenByAll 17 = .ok (.iconst 0, 1) := by decide +kernel
theorem dX9_isGivenByAll_18 : decode cX9_isGivenByAll 18 = .ok (.ireturn, 1) := by decide +kernel
set_option maxRecDepth 20000 in
theorem ggX9_oldestMiss_X9_reference : GoodIn wsX9_oldestMiss wsX9_reference := goodIn_r _ [9, 10, 11, 12, 13, 14, 15, 40, 41, 42, 43, 44, 45, 46] (by decide +kernel) (by decide +kernel)
set_option maxRecDepth 20000 in
theorem gX9_oldestMiss_X9_reference : GoodIn wsX9_oldestMiss (wsV RX9 45 RX9 yX9_reference wsX9_reference) := goodIn_app (goodIn_of _ (by decide +kernel)) ggX9_oldestMiss_X9_reference
set_option maxRecDepth 20000 in
theorem ggX9_oldestMiss_X6_given : GoodIn wsX9_oldestMiss wsX6_given := goodIn_r _ [20, 21, 22, 23, 24, 25, 26, 27, 28, 19, 29, 30, 31, 32, 33, 38, 39, 47, 48, 49, 50, 51] (by decide +kernel) (by decide +kernel)
set_option maxRecDepth 20000 in
theorem gX9_oldestMiss_X6_given : GoodIn wsX9_oldestMiss (wsV RX9 121 RX6 yX6_given wsX6_given) := goodIn_app (goodIn_of _ (by decide +kernel)) ggX9_oldestMiss_X6_given
set_option maxRecDepth 20000 in
theorem ggX9_oldestMiss_X6_found : GoodIn wsX9_oldestMiss wsX6_found := goodIn_r _ [37, 31, 32, 33, 26, 27, 28, 19, 29, 30, 47, 48, 49, 50, 51] (by decide +kernel) (by decide +kernel)
set_option maxRecDepth 20000 in
theorem gX9_oldestMiss_X6_found : GoodIn wsX9_oldestMiss (wsV RX9 125 RX6 yX6_found wsX6_found) := goodIn_app (goodIn_of _ (by decide +kernel)) ggX9_oldestMiss_X6_found
theorem dX9_oldestMiss_0 : decode cX9_oldestMiss 0 = .ok (.aload_n 2, 1) := by decide +kernel
theorem dX9_oldestMiss_1 : decode cX9_oldestMiss 1 = .ok (.getfield 73, 3) := by decide +kernel
theorem dX9_oldestMiss_4 : decode cX9_oldestMiss 4 = .ok (.iload_n 3, 1) := by decide +kernel
theorem dX9_oldestMiss_5 : decode cX9_oldestMiss 5 = .ok (.laload, 1) := by decide +kernel
theorem dX9_oldestMiss_6 : decode cX9_oldestMiss 6 = .ok (.lstore 5, 2) := by decide +kernel
theorem dX9_oldestMiss_8 : decode cX9_oldestMiss 8 = .ok (.iconst 0, 1) := by decide +kernel
theorem dX9_oldestMiss_9 : decode cX9_oldestMiss 9 = .ok (.istore 7, 2) := by decide +kernel
theorem dX9_oldestMiss_11 : decode cX9_oldestMiss 11 = .ok (.iload 7, 2) := by decide +kernel
theorem dX9_oldestMiss_13 : decode cX9_oldestMiss 13 = .ok (.aload_n 0, 1) := by decide +kernel
theorem dX9_oldestMiss_14 : decode cX9_oldestMiss 14 = .ok (.getfield 42, 3) := by decide +kernel
theorem dX9_oldestMiss_17 : decode cX9_oldestMiss 17 = .ok (.if_icmp .ge 54, 3) := by decide +kernel
theorem dX9_oldestMiss_20 : decode cX9_oldestMiss 20 = .ok (.aload_n 1, 1) := by decide +kernel
theorem dX9_oldestMiss_21 : decode cX9_oldestMiss 21 = .ok (.iload_n 3, 1) := by decide +kernel
theorem dX9_oldestMiss_22 : decode cX9_oldestMiss 22 = .ok (.aload_n 0, 1) := by decide +kernel
theorem dX9_oldestMiss_23 : decode cX9_oldestMiss 23 = .ok (.iload 7, 2) := by decide +kernel
theorem dX9_oldestMiss_25 : decode cX9_oldestMiss 25 = .ok (.invokevirtual 45, 3) := by decide +kernel
theorem dX9_oldestMiss_28 : decode cX9_oldestMiss 28 = .ok (.aload_n 0, 1) := by decide +kernel
theorem dX9_oldestMiss_29 : decode cX9_oldestMiss 29 = .ok (.getfield 9, 3) := by decide +kernel
theorem dX9_oldestMiss_32 : decode cX9_oldestMiss 32 = .ok (.aload_n 2, 1) := by decide +kernel
theorem dX9_oldestMiss_33 : decode cX9_oldestMiss 33 = .ok (.invokevirtual 121, 3) := by decide +kernel
theorem dX9_oldestMiss_36 : decode cX9_oldestMiss 36 = .ok (.lstore 8, 2) := by decide +kernel
theorem dX9_oldestMiss_38 : decode cX9_oldestMiss 38 = .ok (.aload_n 1, 1) := by decide +kernel
theorem dX9_oldestMiss_39 : decode cX9_oldestMiss 39 = .ok (.iload_n 3, 1) := by decide +kernel
theorem dX9_oldestMiss_40 : decode cX9_oldestMiss 40 = .ok (.lload 8, 2) := by decide +kernel
theorem dX9_oldestMiss_42 : decode cX9_oldestMiss 42 = .ok (.iload 4, 2) := by decide +kernel
theorem dX9_oldestMiss_44 : decode cX9_oldestMiss 44 = .ok (.lload 5, 2) := by decide +kernel
theorem dX9_oldestMiss_46 : decode cX9_oldestMiss 46 = .ok (.invokevirtual 125, 3) := by decide +kernel
theorem dX9_oldestMiss_49 : decode cX9_oldestMiss 49 = .ok (.lload 5, 2) := by decide +kernel
theorem dX9_oldestMiss_51 : decode cX9_oldestMiss 51 = .ok (.lcmp, 1) := by decide +kernel
theorem dX9_oldestMiss_52 : decode cX9_oldestMiss 52 = .ok (.ifCond .eq 13, 3) := by decide +kernel
theorem dX9_oldestMiss_55 : decode cX9_oldestMiss 55 = .ok (.aload_n 0, 1) := by decide +kernel
theorem dX9_oldestMiss_56 : decode cX9_oldestMiss 56 = .ok (.iload 7, 2) := by decide +kernel
theorem dX9_oldestMiss_58 : decode cX9_oldestMiss 58 = .ok (.invokevirtual 45, 3) := by decide +kernel
theorem dX9_oldestMiss_61 : decode cX9_oldestMiss 61 = .ok (.getfield 49, 3) := by decide +kernel
theorem dX9_oldestMiss_64 : decode cX9_oldestMiss 64 = .ok (.ireturn, 1) := by decide +kernel
theorem dX9_oldestMiss_65 : decode cX9_oldestMiss 65 = .ok (.iinc 7 1, 3) := by decide +kernel
theorem dX9_oldestMiss_68 : decode cX9_oldestMiss 68 = .ok (.goto (-57), 3) := by decide +kernel
theorem dX9_oldestMiss_71 : decode cX9_oldestMiss 71 = .ok (.bipush (-2), 2) := by decide +kernel
theorem dX9_oldestMiss_73 : decode cX9_oldestMiss 73 = .ok (.ireturn, 1) := by decide +kernel
set_option maxRecDepth 20000 in
theorem ggX9_findLeast_X9_oldestMiss : GoodIn wsX9_findLeast wsX9_oldestMiss := goodIn_r _ [8, 9, 10, 11, 12, 13, 14, 15, 7, 16, 17, 18, 19, 20, 21, 22, 23, 24, 25, 26, 27, 28, 29, 30, 31, 32, 33, 34, 35, 36, 37, 38, 39, 40, 41, 42, 43, 44, 54, 55, 56, 57, 58, 59, 60, 61, 62, 45, 46, 47, 48, 49] (by decide +kernel) (by decide +kernel)
set_option maxRecDepth 20000 in
theorem gX9_findLeast_X9_oldestMiss : GoodIn wsX9_findLeast (wsV RX9 117 RX9 yX9_oldestMiss wsX9_oldestMiss) := goodIn_app (goodIn_of _ (by decide +kernel)) ggX9_findLeast_X9_oldestMiss
theorem dX9_findLeast_0 : decode cX9_findLeast 0 = .ok (.bipush (-2), 2) := by decide +kernel
theorem dX9_findLeast_2 : decode cX9_findLeast 2 = .ok (.istore 5, 2) := by decide +kernel
theorem dX9_findLeast_4 : decode cX9_findLeast 4 = .ok (.iconst 0, 1) := by decide +kernel
theorem dX9_findLeast_5 : decode cX9_findLeast 5 = .ok (.istore 6, 2) := by decide +kernel
theorem dX9_findLeast_7 : decode cX9_findLeast 7 = .ok (.iload 6, 2) := by decide +kernel
theorem dX9_findLeast_9 : decode cX9_findLeast 9 = .ok (.aload_n 1, 1) := by decide +kernel
theorem dX9_findLeast_10 : decode cX9_findLeast 10 = .ok (.getfield 77, 3) := by decide +kernel
theorem dX9_findLeast_13 : decode cX9_findLeast 13 = .ok (.iload_n 3, 1) := by decide +kernel
theorem dX9_findLeast_14 : decode cX9_findLeast 14 = .ok (.iaload, 1) := by decide +kernel
theorem dX9_findLeast_15 : decode cX9_findLeast 15 = .ok (.if_icmp .gt 46, 3) := by decide +kernel
theorem dX9_findLeast_18 : decode cX9_findLeast 18 = .ok (.aload 4, 2) := by decide +kernel
theorem dX9_findLeast_20 : decode cX9_findLeast 20 = .ok (.getfield 104, 3) := by decide +kernel
theorem dX9_findLeast_23 : decode cX9_findLeast 23 = .ok (.iload_n 3, 1) := by decide +kernel
theorem dX9_findLeast_24 : decode cX9_findLeast 24 = .ok (.iload 6, 2) := by decide +kernel
theorem dX9_findLeast_26 : decode cX9_findLeast 26 = .ok (.iastore, 1) := by decide +kernel
theorem dX9_findLeast_27 : decode cX9_findLeast 27 = .ok (.aload 4, 2) := by decide +kernel
theorem dX9_findLeast_29 : decode cX9_findLeast 29 = .ok (.getfield 129, 3) := by decide +kernel
theorem dX9_findLeast_32 : decode cX9_findLeast 32 = .ok (.iload_n 3, 1) := by decide +kernel
theorem dX9_findLeast_33 : decode cX9_findLeast 33 = .ok (.iload 5, 2) := by decide +kernel
theorem dX9_findLeast_35 : decode cX9_findLeast 35 = .ok (.iastore, 1) := by decide +kernel
theorem dX9_findLeast_36 : decode cX9_findLeast 36 = .ok (.aload_n 0, 1) := by decide +kernel
theorem dX9_findLeast_37 : decode cX9_findLeast 37 = .ok (.aload_n 1, 1) := by decide +kernel
theorem dX9_findLeast_38 : decode cX9_findLeast 38 = .ok (.aload_n 2, 1) := by decide +kernel
theorem dX9_findLeast_39 : decode cX9_findLeast 39 = .ok (.iload_n 3, 1) := by decide +kernel
theorem dX9_findLeast_40 : decode cX9_findLeast 40 = .ok (.iload 6, 2) := by decide +kernel
theorem dX9_findLeast_42 : decode cX9_findLeast 42 = .ok (.invokevirtual 117, 3) := by decide +kernel
theorem dX9_findLeast_45 : decode cX9_findLeast 45 = .ok (.istore 5, 2) := by decide +kernel
theorem dX9_findLeast_47 : decode cX9_findLeast 47 = .ok (.iload 5, 2) := by decide +kernel
theorem dX9_findLeast_49 : decode cX9_findLeast 49 = .ok (.bipush (-2), 2) := by decide +kernel
theorem dX9_findLeast_51 : decode cX9_findLeast 51 = .ok (.if_icmp .ne 4, 3) := by decide +kernel
theorem dX9_findLeast_54 : decode cX9_findLeast 54 = .ok (.return_, 1) := by decide +kernel
theorem dX9_findLeast_55 : decode cX9_findLeast 55 = .ok (.iinc 6 1, 3) := by decide +kernel
theorem dX9_findLeast_58 : decode cX9_findLeast 58 = .ok (.goto (-51), 3) := by decide +kernel
theorem dX9_findLeast_61 : decode cX9_findLeast 61 = .ok (.return_, 1) := by decide +kernel
set_option maxRecDepth 20000 in
theorem ggX10_init_J9_floorMod_7cf53 : GoodIn wsX10_init wsJ9_floorMod_7cf53 := goodIn_r _ [42] (by decide +kernel) (by decide +kernel)
set_option maxRecDepth 20000 in
theorem gX10_init_J9_floorMod_7cf53 : GoodIn wsX10_init (va_wsS RX10 9 yJ9_floorMod_7cf53 wsJ9_floorMod_7cf53) := goodIn_app (goodIn_of _ (by decide +kernel)) ggX10_init_J9_floorMod_7cf53
set_option maxRecDepth 20000 in
theorem ggX10_init_X6_init : GoodIn wsX10_init wsX6_init := goodIn_r _ [44, 45, 2, 3, 46, 47, 48, 49, 50, 110, 111, 112, 113, 114] (by decide +kernel) (by decide +kernel)
set_option maxRecDepth 20000 in
theorem gX10_init_X6_init_n21 : GoodIn wsX10_init (wsX6_init) := ggX10_init_X6_init
set_option maxRecDepth 20000 in
theorem ggX10_init_X3_init : GoodIn wsX10_init wsX3_init := goodIn_r _ [52, 53, 2, 3, 54, 55, 115, 116] (by decide +kernel) (by decide +kernel)
set_option maxRecDepth 20000 in
theorem gX10_init_X3_init_n28 : GoodIn wsX10_init (wsX3_init) := ggX10_init_X3_init
set_option maxRecDepth 20000 in
theorem ggX10_init_X9_init : GoodIn wsX10_init wsX9_init := goodIn_r _ [58, 59, 2, 3, 46, 60, 61, 62, 63, 10, 11, 64, 65, 66, 67, 51, 52, 53, 54, 55, 117, 118, 119, 120, 121, 122, 123, 115, 116] (by decide +kernel) (by decide +kernel)
set_option maxRecDepth 20000 in
theorem gX10_init_X9_init : GoodIn wsX10_init (wsX9_init) := ggX10_init_X9_init
set_option maxRecDepth 20000 in
theorem ggX10_init_X1_init : GoodIn wsX10_init wsX1_init := goodIn_r _ [69, 70, 2, 3, 71, 10, 11, 72, 46, 73, 51, 52, 53, 54, 55, 115, 116, 124, 125, 126, 127] (by decide +kernel) (by decide +kernel)
set_option maxRecDepth 20000 in
theorem gX10_init_X1_init_n46 : GoodIn wsX10_init (wsX1_init) := ggX10_init_X1_init
set_option maxRecDepth 20000 in
theorem ggX10_init_X8_init : GoodIn wsX10_init wsX8_init := goodIn_r _ [75, 76, 2, 3, 54, 77, 128, 129, 130, 131, 132] (by decide +kernel) (by decide +kernel)
set_option maxRecDepth 20000 in
theorem gX10_init_X8_init_n59 : GoodIn wsX10_init (wsX8_init) := ggX10_init_X8_init
set_option maxRecDepth 20000 in
theorem ggX10_init_X5_init : GoodIn wsX10_init wsX5_init := goodIn_r _ [79, 80, 2, 3, 46, 81, 133, 134] (by decide +kernel) (by decide +kernel)
set_option maxRecDepth 20000 in
theorem gX10_init_X5_init_n62 : GoodIn wsX10_init (wsX5_init) := ggX10_init_X5_init
set_option maxRecDepth 20000 in
theorem ggX10_init_X0_init : GoodIn wsX10_init wsX0_init := goodIn_r _ [83, 84, 2, 3, 85, 10, 11, 86, 46, 87, 88, 89, 54, 90, 91, 51, 52, 53, 55, 115, 116, 135, 136, 137, 138, 139, 140, 141, 142, 143, 144, 145, 146] (by decide +kernel) (by decide +kernel)
set_option maxRecDepth 20000 in
theorem gX10_init_X0_init_n69 : GoodIn wsX10_init (wsX0_init) := ggX10_init_X0_init
set_option maxRecDepth 20000 in
theorem ggX10_init_X2_init : GoodIn wsX10_init wsX2_init := goodIn_r _ [93, 94, 2, 3, 95, 10, 11, 96, 46, 97, 51, 52, 53, 54, 55, 115, 116, 147, 148, 149, 150, 151] (by decide +kernel) (by decide +kernel)
set_option maxRecDepth 20000 in
theorem gX10_init_X2_init_n76 : GoodIn wsX10_init (wsX2_init) := ggX10_init_X2_init
theorem dX10_init_0 : decode cX10_init 0 = .ok (.aload_n 0, 1) := by decide +kernel
theorem dX10_init_1 : decode cX10_init 1 = .ok (.invokespecial 1, 3) := by decide +kernel
theorem dX10_init_4 : decode cX10_init 4 = .ok (.aload_n 0, 1) := by decide +kernel
theorem dX10_init_5 : decode cX10_init 5 = .ok (.iconst 1, 1) := by decide +kernel
theorem dX10_init_6 : decode cX10_init 6 = .ok (.iload_n 1, 1) := by decide +kernel
theorem dX10_init_7 : decode cX10_init 7 = .ok (.bipush 8, 2) := by decide +kernel
theorem dX10_init_9 : decode cX10_init 9 = .ok (.invokestatic 9, 3) := by decide +kernel
theorem dX10_init_12 : decode cX10_init 12 = .ok (.iadd, 1) := by decide +kernel
theorem dX10_init_13 : decode cX10_init 13 = .ok (.putfield 15, 3) := by decide +kernel
theorem dX10_init_16 : decode cX10_init 16 = .ok (.aload_n 0, 1) := by decide +kernel
theorem dX10_init_17 : decode cX10_init 17 = .ok (.new 19, 3) := by decide +kernel
theorem dX10_init_20 : decode cX10_init 20 = .ok (.dup, 1) := by decide +kernel
theorem dX10_init_21 : decode cX10_init 21 = .ok (.invokespecial 21, 3) := by decide +kernel
theorem dX10_init_24 : decode cX10_init 24 = .ok (.putfield 22, 3) := by decide +kernel
theorem dX10_init_27 : decode cX10_init 27 = .ok (.aload_n 0, 1) := by decide +kernel
theorem dX10_init_28 : decode cX10_init 28 = .ok (.new 26, 3) := by decide +kernel
theorem dX10_init_31 : decode cX10_init 31 = .ok (.dup, 1) := by decide +kernel
theorem dX10_init_32 : decode cX10_init 32 = .ok (.invokespecial 28, 3) := by decide +kernel
theorem dX10_init_35 : decode cX10_init 35 = .ok (.putfield 29, 3) := by decide +kernel
theorem dX10_init_38 : decode cX10_init 38 = .ok (.aload_n 0, 1) := by decide +kernel
theorem dX10_init_39 : decode cX10_init 39 = .ok (.bipush 8, 2) := by decide +kernel
theorem dX10_init_41 : decode cX10_init 41 = .ok (.anewarray 33, 3) := by decide +kernel
theorem dX10_init_44 : decode cX10_init 44 = .ok (.putfield 35, 3) := by decide +kernel
theorem dX10_init_47 : decode cX10_init 47 = .ok (.aload_n 0, 1) := by decide +kernel
theorem dX10_init_48 : decode cX10_init 48 = .ok (.bipush 8, 2) := by decide +kernel
theorem dX10_init_50 : decode cX10_init 50 = .ok (.anewarray 39, 3) := by decide +kernel
theorem dX10_init_53 : decode cX10_init 53 = .ok (.putfield 41, 3) := by decide +kernel
theorem dX10_init_56 : decode cX10_init 56 = .ok (.iconst 0, 1) := by decide +kernel
theorem dX10_init_57 : decode cX10_init 57 = .ok (.istore_n 2, 1) := by decide +kernel
theorem dX10_init_58 : decode cX10_init 58 = .ok (.iload_n 2, 1) := by decide +kernel
theorem dX10_init_59 : decode cX10_init 59 = .ok (.bipush 8, 2) := by decide +kernel
theorem dX10_init_61 : decode cX10_init 61 = .ok (.if_icmp .ge 35, 3) := by decide +kernel
theorem dX10_init_64 : decode cX10_init 64 = .ok (.aload_n 0, 1) := by decide +kernel
theorem dX10_init_65 : decode cX10_init 65 = .ok (.getfield 35, 3) := by decide +kernel
theorem dX10_init_68 : decode cX10_init 68 = .ok (.iload_n 2, 1) := by decide +kernel
theorem dX10_init_69 : decode cX10_init 69 = .ok (.new 33, 3) := by decide +kernel
theorem dX10_init_72 : decode cX10_init 72 = .ok (.dup, 1) := by decide +kernel
theorem dX10_init_73 : decode cX10_init 73 = .ok (.invokespecial 45, 3) := by decide +kernel
theorem dX10_init_76 : decode cX10_init 76 = .ok (.aastore, 1) := by decide +kernel
theorem dX10_init_77 : decode cX10_init 77 = .ok (.aload_n 0, 1) := by decide +kernel
theorem dX10_init_78 : decode cX10_init 78 = .ok (.getfield 41, 3) := by decide +kernel
theorem dX10_init_81 : decode cX10_init 81 = .ok (.iload_n 2, 1) := by decide +kernel
theorem dX10_init_82 : decode cX10_init 82 = .ok (.new 39, 3) := by decide +kernel
theorem dX10_init_85 : decode cX10_init 85 = .ok (.dup, 1) := by decide +kernel
theorem dX10_init_86 : decode cX10_init 86 = .ok (.invokespecial 46, 3) := by decide +kernel
theorem dX10_init_89 : decode cX10_init 89 = .ok (.aastore, 1) := by decide +kernel
theorem dX10_init_90 : decode cX10_init 90 = .ok (.iinc 2 1, 3) := by decide +kernel
theorem dX10_init_93 : decode cX10_init 93 = .ok (.goto (-35), 3) := by decide +kernel
theorem dX10_init_96 : decode cX10_init 96 = .ok (.aload_n 0, 1) := by decide +kernel
theorem dX10_init_97 : decode cX10_init 97 = .ok (.sipush 200, 3) := by decide +kernel
theorem dX10_init_100 : decode cX10_init 100 = .ok (.anewarray 47, 3) := by decide +kernel
theorem dX10_init_103 : decode cX10_init 103 = .ok (.putfield 49, 3) := by decide +kernel
theorem dX10_init_106 : decode cX10_init 106 = .ok (.aload_n 0, 1) := by decide +kernel
theorem dX10_init_107 : decode cX10_init 107 = .ok (.bipush 8, 2) := by decide +kernel
theorem dX10_init_109 : decode cX10_init 109 = .ok (.anewarray 53, 3) := by decide +kernel
theorem dX10_init_112 : decode cX10_init 112 = .ok (.putfield 55, 3) := by decide +kernel
theorem dX10_init_115 : decode cX10_init 115 = .ok (.iconst 0, 1) := by decide +kernel
theorem dX10_init_116 : decode cX10_init 116 = .ok (.istore_n 2, 1) := by decide +kernel
theorem dX10_init_117 : decode cX10_init 117 = .ok (.iload_n 2, 1) := by decide +kernel
theorem dX10_init_118 : decode cX10_init 118 = .ok (.bipush 8, 2) := by decide +kernel
theorem dX10_init_120 : decode cX10_init 120 = .ok (.if_icmp .ge 22, 3) := by decide +kernel
theorem dX10_init_123 : decode cX10_init 123 = .ok (.aload_n 0, 1) := by decide +kernel
theorem dX10_init_124 : decode cX10_init 124 = .ok (.getfield 55, 3) := by decide +kernel
theorem dX10_init_127 : decode cX10_init 127 = .ok (.iload_n 2, 1) := by decide +kernel
theorem dX10_init_128 : decode cX10_init 128 = .ok (.new 53, 3) := by decide +kernel
theorem dX10_init_131 : decode cX10_init 131 = .ok (.dup, 1) := by decide +kernel
theorem dX10_init_132 : decode cX10_init 132 = .ok (.invokespecial 59, 3) := by decide +kernel
theorem dX10_init_135 : decode cX10_init 135 = .ok (.aastore, 1) := by decide +kernel
theorem dX10_init_136 : decode cX10_init 136 = .ok (.iinc 2 1, 3) := by decide +kernel
theorem dX10_init_139 : decode cX10_init 139 = .ok (.goto (-22), 3) := by decide +kernel
theorem dX10_init_142 : decode cX10_init 142 = .ok (.aload_n 0, 1) := by decide +kernel
theorem dX10_init_143 : decode cX10_init 143 = .ok (.new 60, 3) := by decide +kernel
theorem dX10_init_146 : decode cX10_init 146 = .ok (.dup, 1) := by decide +kernel
theorem dX10_init_147 : decode cX10_init 147 = .ok (.invokespecial 62, 3) := by decide +kernel
theorem dX10_init_150 : decode cX10_init 150 = .ok (.putfield 63, 3) := by decide +kernel
theorem dX10_init_153 : decode cX10_init 153 = .ok (.aload_n 0, 1) := by decide +kernel
theorem dX10_init_154 : decode cX10_init 154 = .ok (.new 67, 3) := by decide +kernel
theorem dX10_init_157 : decode cX10_init 157 = .ok (.dup, 1) := by decide +kernel
theorem dX10_init_158 : decode cX10_init 158 = .ok (.invokespecial 69, 3) := by decide +kernel
theorem dX10_init_161 : decode cX10_init 161 = .ok (.putfield 70, 3) := by decide +kernel
theorem dX10_init_164 : decode cX10_init 164 = .ok (.aload_n 0, 1) := by decide +kernel
theorem dX10_init_165 : decode cX10_init 165 = .ok (.new 74, 3) := by decide +kernel
theorem dX10_init_168 : decode cX10_init 168 = .ok (.dup, 1) := by decide +kernel
theorem dX10_init_169 : decode cX10_init 169 = .ok (.invokespecial 76, 3) := by decide +kernel
theorem dX10_init_172 : decode cX10_init 172 = .ok (.putfield 77, 3) := by decide +kernel
theorem dX10_init_175 : decode cX10_init 175 = .ok (.return_, 1) := by decide +kernel
set_option maxRecDepth 20000 in
theorem ggX10_field_X6_allows : GoodIn wsX10_field wsX6_allows := goodIn_r _ [8, 9, 10, 11, 7, 12, 13, 34, 35, 36, 37, 38] (by decide +kernel) (by decide +kernel)
set_option maxRecDepth 20000 in
theorem gX10_field_X6_allows : GoodIn wsX10_field (wsV RX10 81 RX6 yX6_allows wsX6_allows) := goodIn_app (goodIn_of _ (by decide +kernel)) ggX10_field_X6_allows
set_option maxRecDepth 20000 in
theorem ggX10_field_X6_append : GoodIn wsX10_field wsX6_append := goodIn_r _ [17, 13, 18, 19, 20, 21, 34, 35, 36, 37, 38] (by decide +kernel) (by decide +kernel)
set_option maxRecDepth 20000 in
theorem gX10_field_X6_append : GoodIn wsX10_field (wsV RX10 91 RX6 yX6_append wsX6_append) := goodIn_app (goodIn_of _ (by decide +kernel)) ggX10_field_X6_append
theorem dX10_field_0 : decode cX10_field 0 = .ok (.aload_n 0, 1) := by decide +kernel
theorem dX10_field_1 : decode cX10_field 1 = .ok (.getfield 22, 3) := by decide +kernel
theorem dX10_field_4 : decode cX10_field 4 = .ok (.iload_n 1, 1) := by decide +kernel
theorem dX10_field_5 : decode cX10_field 5 = .ok (.iload_n 2, 1) := by decide +kernel
theorem dX10_field_6 : decode cX10_field 6 = .ok (.iload_n 3, 1) := by decide +kernel
theorem dX10_field_7 : decode cX10_field 7 = .ok (.iload 4, 2) := by decide +kernel
theorem dX10_field_9 : decode cX10_field 9 = .ok (.invokevirtual 81, 3) := by decide +kernel
theorem dX10_field_12 : decode cX10_field 12 = .ok (.ifCond .ne 5, 3) := by decide +kernel
theorem dX10_field_15 : decode cX10_field 15 = .ok (.iconst (-1), 1) := by decide +kernel
theorem dX10_field_16 : decode cX10_field 16 = .ok (.ireturn, 1) := by decide +kernel
theorem dX10_field_17 : decode cX10_field 17 = .ok (.aload_n 0, 1) := by decide +kernel
theorem dX10_field_18 : decode cX10_field 18 = .ok (.getfield 22, 3) := by decide +kernel
theorem dX10_field_21 : decode cX10_field 21 = .ok (.getfield 85, 3) := by decide +kernel
theorem dX10_field_24 : decode cX10_field 24 = .ok (.bipush 8, 2) := by decide +kernel
theorem dX10_field_26 : decode cX10_field 26 = .ok (.if_icmp .lt 6, 3) := by decide +kernel
theorem dX10_field_29 : decode cX10_field 29 = .ok (.bipush (-2), 2) := by decide +kernel
theorem dX10_field_31 : decode cX10_field 31 = .ok (.ireturn, 1) := by decide +kernel
theorem dX10_field_32 : decode cX10_field 32 = .ok (.aload_n 0, 1) := by decide +kernel
theorem dX10_field_33 : decode cX10_field 33 = .ok (.getfield 88, 3) := by decide +kernel
theorem dX10_field_36 : decode cX10_field 36 = .ok (.ifCond .le 6, 3) := by decide +kernel
theorem dX10_field_39 : decode cX10_field 39 = .ok (.bipush (-3), 2) := by decide +kernel
theorem dX10_field_41 : decode cX10_field 41 = .ok (.ireturn, 1) := by decide +kernel
theorem dX10_field_42 : decode cX10_field 42 = .ok (.aload_n 0, 1) := by decide +kernel
theorem dX10_field_43 : decode cX10_field 43 = .ok (.getfield 22, 3) := by decide +kernel
theorem dX10_field_46 : decode cX10_field 46 = .ok (.iload_n 1, 1) := by decide +kernel
theorem dX10_field_47 : decode cX10_field 47 = .ok (.iload_n 2, 1) := by decide +kernel
theorem dX10_field_48 : decode cX10_field 48 = .ok (.iload_n 3, 1) := by decide +kernel
theorem dX10_field_49 : decode cX10_field 49 = .ok (.iload 4, 2) := by decide +kernel
theorem dX10_field_51 : decode cX10_field 51 = .ok (.invokevirtual 91, 3) := by decide +kernel
theorem dX10_field_54 : decode cX10_field 54 = .ok (.ireturn, 1) := by decide +kernel
set_option maxRecDepth 20000 in
theorem ggX10_set_X6_has : GoodIn wsX10_set wsX6_has := goodIn_r _ [9, 10, 33, 34, 35, 36, 37] (by decide +kernel) (by decide +kernel)
set_option maxRecDepth 20000 in
theorem gX10_set_X6_has : GoodIn wsX10_set (wsV RX10 95 RX6 yX6_has wsX6_has) := goodIn_app (goodIn_of _ (by decide +kernel)) ggX10_set_X6_has
set_option maxRecDepth 20000 in
theorem ggX10_set_X6_lowBits : GoodIn wsX10_set wsX6_lowBits := goodIn_r _ [14, 15, 16, 17, 18, 33, 34, 35, 36, 37] (by decide +kernel) (by decide +kernel)
set_option maxRecDepth 20000 in
theorem gX10_set_X6_lowBits : GoodIn wsX10_set (wsV RX10 105 RX6 yX6_lowBits wsX6_lowBits) := goodIn_app (goodIn_of _ (by decide +kernel)) ggX10_set_X6_lowBits
theorem dX10_set_0 : decode cX10_set 0 = .ok (.aload_n 0, 1) := by decide +kernel
theorem dX10_set_1 : decode cX10_set 1 = .ok (.getfield 22, 3) := by decide +kernel
theorem dX10_set_4 : decode cX10_set 4 = .ok (.iload_n 1, 1) := by decide +kernel
theorem dX10_set_5 : decode cX10_set 5 = .ok (.invokevirtual 95, 3) := by decide +kernel
theorem dX10_set_8 : decode cX10_set 8 = .ok (.ifCond .ne 7, 3) := by decide +kernel
theorem dX10_set_11 : decode cX10_set 11 = .ok (.ldc2_w 99, 3) := by decide +kernel
theorem dX10_set_14 : decode cX10_set 14 = .ok (.lreturn, 1) := by decide +kernel
theorem dX10_set_15 : decode cX10_set 15 = .ok (.aload_n 0, 1) := by decide +kernel
theorem dX10_set_16 : decode cX10_set 16 = .ok (.getfield 29, 3) := by decide +kernel
theorem dX10_set_19 : decode cX10_set 19 = .ok (.getfield 101, 3) := by decide +kernel
theorem dX10_set_22 : decode cX10_set 22 = .ok (.iload_n 1, 1) := by decide +kernel
theorem dX10_set_23 : decode cX10_set 23 = .ok (.laload, 1) := by decide +kernel
theorem dX10_set_24 : decode cX10_set 24 = .ok (.lstore 4, 2) := by decide +kernel
theorem dX10_set_26 : decode cX10_set 26 = .ok (.aload_n 0, 1) := by decide +kernel
theorem dX10_set_27 : decode cX10_set 27 = .ok (.getfield 29, 3) := by decide +kernel
theorem dX10_set_30 : decode cX10_set 30 = .ok (.getfield 101, 3) := by decide +kernel
theorem dX10_set_33 : decode cX10_set 33 = .ok (.iload_n 1, 1) := by decide +kernel
theorem dX10_set_34 : decode cX10_set 34 = .ok (.aload_n 0, 1) := by decide +kernel
theorem dX10_set_35 : decode cX10_set 35 = .ok (.getfield 22, 3) := by decide +kernel
theorem dX10_set_38 : decode cX10_set 38 = .ok (.iload_n 1, 1) := by decide +kernel
theorem dX10_set_39 : decode cX10_set 39 = .ok (.lload_n 2, 1) := by decide +kernel
theorem dX10_set_40 : decode cX10_set 40 = .ok (.invokevirtual 105, 3) := by decide +kernel
theorem dX10_set_43 : decode cX10_set 43 = .ok (.lastore, 1) := by decide +kernel
theorem dX10_set_44 : decode cX10_set 44 = .ok (.lload 4, 2) := by decide +kernel
theorem dX10_set_46 : decode cX10_set 46 = .ok (.lreturn, 1) := by decide +kernel
set_option maxRecDepth 20000 in
theorem ggX10_stride_X10_isFlow : GoodIn wsX10_stride wsX10_isFlow := goodIn_r _ [8] (by decide +kernel) (by decide +kernel)
set_option maxRecDepth 20000 in
theorem gX10_stride_X10_isFlow : GoodIn wsX10_stride (va_wsS RX10 109 yX10_isFlow wsX10_isFlow) := goodIn_app (goodIn_of _ (by decide +kernel)) ggX10_stride_X10_isFlow
set_option maxRecDepth 20000 in
theorem ggX10_stride_X6_hasStride : GoodIn wsX10_stride wsX6_hasStride := goodIn_r _ [13, 14, 15, 16, 17, 12, 18, 19, 39, 40, 41, 42, 43] (by decide +kernel) (by decide +kernel)
set_option maxRecDepth 20000 in
theorem gX10_stride_X6_hasStride : GoodIn wsX10_stride (wsV RX10 112 RX6 yX6_hasStride wsX6_hasStride) := goodIn_app (goodIn_of _ (by decide +kernel)) ggX10_stride_X6_hasStride
theorem dX10_stride_0 : decode cX10_stride 0 = .ok (.iload_n 1, 1) := by decide +kernel
theorem dX10_stride_1 : decode cX10_stride 1 = .ok (.invokestatic 109, 3) := by decide +kernel
theorem dX10_stride_4 : decode cX10_stride 4 = .ok (.ifCond .eq 25, 3) := by decide +kernel
theorem dX10_stride_7 : decode cX10_stride 7 = .ok (.aload_n 0, 1) := by decide +kernel
theorem dX10_stride_8 : decode cX10_stride 8 = .ok (.getfield 22, 3) := by decide +kernel
theorem dX10_stride_11 : decode cX10_stride 11 = .ok (.iload_n 2, 1) := by decide +kernel
theorem dX10_stride_12 : decode cX10_stride 12 = .ok (.invokevirtual 112, 3) := by decide +kernel
theorem dX10_stride_15 : decode cX10_stride 15 = .ok (.ifCond .eq 14, 3) := by decide +kernel
theorem dX10_stride_18 : decode cX10_stride 18 = .ok (.iload_n 3, 1) := by decide +kernel
theorem dX10_stride_19 : decode cX10_stride 19 = .ok (.ifCond .lt 10, 3) := by decide +kernel
theorem dX10_stride_22 : decode cX10_stride 22 = .ok (.iload_n 3, 1) := by decide +kernel
theorem dX10_stride_23 : decode cX10_stride 23 = .ok (.sipush 255, 3) := by decide +kernel
theorem dX10_stride_26 : decode cX10_stride 26 = .ok (.if_icmp .le 5, 3) := by decide +kernel
theorem dX10_stride_29 : decode cX10_stride 29 = .ok (.iconst (-1), 1) := by decide +kernel
theorem dX10_stride_30 : decode cX10_stride 30 = .ok (.ireturn, 1) := by decide +kernel
theorem dX10_stride_31 : decode cX10_stride 31 = .ok (.aload_n 0, 1) := by decide +kernel
theorem dX10_stride_32 : decode cX10_stride 32 = .ok (.getfield 35, 3) := by decide +kernel
theorem dX10_stride_35 : decode cX10_stride 35 = .ok (.iload_n 1, 1) := by decide +kernel
theorem dX10_stride_36 : decode cX10_stride 36 = .ok (.aaload, 1) := by decide +kernel
theorem dX10_stride_37 : decode cX10_stride 37 = .ok (.astore 4, 2) := by decide +kernel
theorem dX10_stride_39 : decode cX10_stride 39 = .ok (.aload 4, 2) := by decide +kernel
theorem dX10_stride_41 : decode cX10_stride 41 = .ok (.getfield 115, 3) := by decide +kernel
theorem dX10_stride_44 : decode cX10_stride 44 = .ok (.iload_n 2, 1) := by decide +kernel
theorem dX10_stride_45 : decode cX10_stride 45 = .ok (.iaload, 1) := by decide +kernel
theorem dX10_stride_46 : decode cX10_stride 46 = .ok (.istore 5, 2) := by decide +kernel
theorem dX10_stride_48 : decode cX10_stride 48 = .ok (.aload 4, 2) := by decide +kernel
theorem dX10_stride_50 : decode cX10_stride 50 = .ok (.getfield 115, 3) := by decide +kernel
theorem dX10_stride_53 : decode cX10_stride 53 = .ok (.iload_n 2, 1) := by decide +kernel
theorem dX10_stride_54 : decode cX10_stride 54 = .ok (.iload_n 3, 1) := by decide +kernel
theorem dX10_stride_55 : decode cX10_stride 55 = .ok (.iastore, 1) := by decide +kernel
theorem dX10_stride_56 : decode cX10_stride 56 = .ok (.aload 4, 2) := by decide +kernel
theorem dX10_stride_58 : decode cX10_stride 58 = .ok (.iconst 1, 1) := by decide +kernel
theorem dX10_stride_59 : decode cX10_stride 59 = .ok (.putfield 119, 3) := by decide +kernel
theorem dX10_stride_62 : decode cX10_stride 62 = .ok (.iload 5, 2) := by decide +kernel
theorem dX10_stride_64 : decode cX10_stride 64 = .ok (.ireturn, 1) := by decide +kernel
set_option maxRecDepth 20000 in
theorem ggX10_send_X10_isFlow : GoodIn wsX10_send wsX10_isFlow := goodIn_r _ [15] (by decide +kernel) (by decide +kernel)
set_option maxRecDepth 20000 in
theorem gX10_send_X10_isFlow : GoodIn wsX10_send (va_wsS RX10 109 yX10_isFlow wsX10_isFlow) := goodIn_app (goodIn_of _ (by decide +kernel)) ggX10_send_X10_isFlow
set_option maxRecDepth 20000 in
theorem ggX10_send_X10_isLineFull : GoodIn wsX10_send wsX10_isLineFull := goodIn_r _ [19, 20, 211, 212, 213, 214, 215, 216, 217, 218, 219, 220, 221, 222] (by decide +kernel) (by decide +kernel)
set_option maxRecDepth 20000 in
theorem gX10_send_X10_isLineFull : GoodIn wsX10_send (wsV RX10 123 RX10 yX10_isLineFull wsX10_isLineFull) := goodIn_app (goodIn_of _ (by decide +kernel)) ggX10_send_X10_isLineFull
set_option maxRecDepth 20000 in
theorem ggX10_send_X9_kindFor : GoodIn wsX10_send wsX9_kindFor := goodIn_r _ [25, 26, 27, 28, 29, 30, 31, 32, 24, 33, 34, 35, 36, 37, 38, 39, 40, 41, 42, 43, 44, 45, 46, 47, 48, 49, 50, 51, 52, 53, 54, 55, 56, 57, 58, 59, 60, 61, 62, 63, 64, 65, 66, 14, 67, 68, 69, 70, 71, 228, 229, 230, 231, 232, 233, 234, 223, 224, 225, 226, 227, 235, 236] (by decide +kernel) (by decide +kernel)
set_option maxRecDepth 20000 in
theorem gX10_send_X9_kindFor : GoodIn wsX10_send (wsV RX10 131 RX9 yX9_kindFor wsX9_kindFor) := goodIn_app (goodIn_of _ (by decide +kernel)) ggX10_send_X9_kindFor
set_option maxRecDepth 20000 in
theorem ggX10_send_X5_begin : GoodIn wsX10_send wsX5_begin := goodIn_r _ [76, 77, 78, 79, 80, 81, 82, 83, 84, 85, 75, 86, 87, 14, 88, 241, 242] (by decide +kernel) (by decide +kernel)
set_option maxRecDepth 20000 in
theorem gX10_send_X5_begin : GoodIn wsX10_send (wsV RX10 135 RX5 yX5_begin wsX5_begin) := goodIn_app (goodIn_of _ (by decide +kernel)) ggX10_send_X5_begin
set_option maxRecDepth 20000 in
theorem ggX10_send_X9_beginRound : GoodIn wsX10_send wsX9_beginRound := goodIn_r _ [92, 93, 27, 26, 228, 229, 230, 231, 232, 233, 234] (by decide +kernel) (by decide +kernel)
set_option maxRecDepth 20000 in
theorem gX10_send_X9_beginRound : GoodIn wsX10_send (wsV RX10 139 RX9 yX9_beginRound wsX9_beginRound) := goodIn_app (goodIn_of _ (by decide +kernel)) ggX10_send_X9_beginRound
set_option maxRecDepth 20000 in
theorem ggX10_send_X9_writeWhole : GoodIn wsX10_send wsX9_writeWhole := goodIn_r _ [97, 93, 28, 38, 98, 39, 99, 84, 85, 75, 86, 78, 77, 87, 14, 88, 100, 101, 102, 54, 103, 57, 104, 105, 106, 107, 108, 228, 229, 230, 231, 232, 233, 234, 223, 224, 225, 226, 227, 235, 236, 241, 242] (by decide +kernel) (by decide +kernel)
set_option maxRecDepth 20000 in
theorem gX10_send_X9_writeWhole : GoodIn wsX10_send (wsV RX10 142 RX9 yX9_writeWhole wsX9_writeWhole) := goodIn_app (goodIn_of _ (by decide +kernel)) ggX10_send_X9_writeWhole
set_option maxRecDepth 20000 in
theorem ggX10_send_X9_writePart : GoodIn wsX10_send wsX9_writePart := goodIn_r _ [112, 93, 28, 29, 38, 98, 99, 84, 85, 75, 86, 78, 77, 87, 14, 88, 30, 31, 32, 24, 33, 34, 35, 36, 37, 27, 39, 40, 41, 42, 43, 44, 45, 46, 47, 48, 49, 50, 51, 52, 53, 54, 55, 56, 57, 58, 59, 60, 61, 62, 63, 64, 65, 66, 67, 68, 69, 70, 71, 113, 114, 115, 116, 117, 108, 118, 228, 229, 230, 231, 232, 233, 234, 223, 224, 225, 226, 227, 235, 236, 241, 242] (by decide +kernel) (by decide +kernel)
set_option maxRecDepth 20000 in
theorem gX10_send_X9_writePart : GoodIn wsX10_send (wsV RX10 146 RX9 yX9_writePart wsX9_writePart) := goodIn_app (goodIn_of _ (by decide +kernel)) ggX10_send_X9_writePart
set_option maxRecDepth 20000 in
theorem ggX10_send_X7_init : GoodIn wsX10_send wsX7_init := goodIn_r _ [120, 121, 122, 123, 124, 125, 126, 237, 238, 239, 240] (by decide +kernel) (by decide +kernel)
set_option maxRecDepth 20000 in
theorem gX10_send_X7_init_n151 : GoodIn wsX10_send (wsX7_init) := ggX10_send_X7_init
set_option maxRecDepth 20000 in
theorem ggX10_send_X9_writeShort : GoodIn wsX10_send wsX9_writeShort := goodIn_r _ [130, 27, 131, 132, 93, 28, 133, 38, 29, 98, 134, 135, 136, 24, 137, 40, 41, 42, 43, 44, 45, 46, 47, 48, 49, 50, 99, 84, 85, 75, 86, 78, 77, 87, 14, 88, 100, 101, 102, 54, 103, 57, 104, 105, 106, 107, 108, 138, 139, 140, 141, 142, 34, 35, 36, 37, 39, 51, 52, 53, 55, 56, 58, 59, 60, 61, 62, 63, 64, 65, 66, 67, 68, 69, 70, 71, 113, 114, 115, 116, 117, 118, 228, 229, 230, 231, 232, 233, 234, 237, 238, 239, 240, 223, 224, 225, 226, 227, 235, 236, 241, 242] (by decide +kernel) (by decide +kernel)
set_option maxRecDepth 20000 in
theorem gX10_send_X9_writeShort : GoodIn wsX10_send (wsV RX10 152 RX9 yX9_writeShort wsX9_writeShort) := goodIn_app (goodIn_of _ (by decide +kernel)) ggX10_send_X9_writeShort
set_option maxRecDepth 20000 in
theorem ggX10_send_X9_remember : GoodIn wsX10_send wsX9_remember := goodIn_r _ [146, 27, 147, 148, 149, 150, 24, 151, 46, 47, 48, 49, 50, 41, 42, 43, 44, 45, 152, 153, 154, 155, 156, 157, 158, 159, 160, 161, 162, 228, 229, 230, 231, 232, 233, 234, 235, 236] (by decide +kernel) (by decide +kernel)
set_option maxRecDepth 20000 in
theorem gX10_send_X9_remember : GoodIn wsX10_send (wsV RX10 156 RX9 yX9_remember wsX9_remember) := goodIn_app (goodIn_of _ (by decide +kernel)) ggX10_send_X9_remember
set_option maxRecDepth 20000 in
theorem ggX10_send_X10_addWritten : GoodIn wsX10_send wsX10_addWritten := goodIn_r _ [166, 7, 167, 168, 169, 170, 171, 172, 173, 174, 14, 175, 176, 177, 178, 75, 179, 78, 77, 87, 88, 180, 181, 81, 182, 183, 184, 185, 186, 187, 188, 124, 189, 190, 191, 192, 193, 159, 160, 161, 194, 195, 196, 197, 198, 199, 122, 123, 200, 201, 202, 203, 204, 205, 206, 207, 208, 209, 210, 20, 16, 17, 18, 19, 211, 212, 213, 214, 215, 216, 217, 218, 219, 220, 221, 222, 243, 244, 245, 246, 247, 248, 249, 250, 251, 241, 242] (by decide +kernel) (by decide +kernel)
set_option maxRecDepth 20000 in
theorem gX10_send_X10_addWritten : GoodIn wsX10_send (wsV RX10 160 RX10 yX10_addWritten wsX10_addWritten) := goodIn_app (goodIn_of _ (by decide +kernel)) ggX10_send_X10_addWritten
theorem dX10_send_0 : decode cX10_send 0 = .ok (.iload_n 1, 1) := by decide +kernel
theorem dX10_send_1 : decode cX10_send 1 = .ok (.invokestatic 109, 3) := by decide +kernel
theorem dX10_send_4 : decode cX10_send 4 = .ok (.ifCond .ne 5, 3) := by decide +kernel
theorem dX10_send_7 : decode cX10_send 7 = .ok (.iconst (-1), 1) := by decide +kernel
theorem dX10_send_8 : decode cX10_send 8 = .ok (.ireturn, 1) := by decide +kernel
theorem dX10_send_9 : decode cX10_send 9 = .ok (.aload_n 0, 1) := by decide +kernel
theorem dX10_send_10 : decode cX10_send 10 = .ok (.invokevirtual 123, 3) := by decide +kernel
theorem dX10_send_13 : decode cX10_send 13 = .ok (.ifCond .eq 6, 3) := by decide +kernel
theorem dX10_send_16 : decode cX10_send 16 = .ok (.bipush (-2), 2) := by decide +kernel
theorem dX10_send_18 : decode cX10_send 18 = .ok (.ireturn, 1) := by decide +kernel
theorem dX10_send_19 : decode cX10_send 19 = .ok (.aload_n 0, 1) := by decide +kernel
theorem dX10_send_20 : decode cX10_send 20 = .ok (.getfield 22, 3) := by decide +kernel
theorem dX10_send_23 : decode cX10_send 23 = .ok (.getfield 85, 3) := by decide +kernel
theorem dX10_send_26 : decode cX10_send 26 = .ok (.ifCond .ne 6, 3) := by decide +kernel
theorem dX10_send_29 : decode cX10_send 29 = .ok (.bipush (-3), 2) := by decide +kernel
theorem dX10_send_31 : decode cX10_send 31 = .ok (.ireturn, 1) := by decide +kernel
theorem dX10_send_32 : decode cX10_send 32 = .ok (.aload_n 0, 1) := by decide +kernel
theorem dX10_send_33 : decode cX10_send 33 = .ok (.getfield 35, 3) := by decide +kernel
theorem dX10_send_36 : decode cX10_send 36 = .ok (.iload_n 1, 1) := by decide +kernel
theorem dX10_send_37 : decode cX10_send 37 = .ok (.aaload, 1) := by decide +kernel
theorem dX10_send_38 : decode cX10_send 38 = .ok (.astore_n 3, 1) := by decide +kernel
theorem dX10_send_39 : decode cX10_send 39 = .ok (.aload_n 0, 1) := by decide +kernel
theorem dX10_send_40 : decode cX10_send 40 = .ok (.getfield 29, 3) := by decide +kernel
theorem dX10_send_43 : decode cX10_send 43 = .ok (.aload_n 3, 1) := by decide +kernel
theorem dX10_send_44 : decode cX10_send 44 = .ok (.getfield 127, 3) := by decide +kernel
theorem dX10_send_47 : decode cX10_send 47 = .ok (.putfield 130, 3) := by decide +kernel
theorem dX10_send_50 : decode cX10_send 50 = .ok (.aload_n 3, 1) := by decide +kernel
theorem dX10_send_51 : decode cX10_send 51 = .ok (.aload_n 0, 1) := by decide +kernel
theorem dX10_send_52 : decode cX10_send 52 = .ok (.getfield 22, 3) := by decide +kernel
theorem dX10_send_55 : decode cX10_send 55 = .ok (.aload_n 0, 1) := by decide +kernel
theorem dX10_send_56 : decode cX10_send 56 = .ok (.getfield 29, 3) := by decide +kernel
theorem dX10_send_59 : decode cX10_send 59 = .ok (.iload_n 2, 1) := by decide +kernel
theorem dX10_send_60 : decode cX10_send 60 = .ok (.invokevirtual 131, 3) := by decide +kernel
theorem dX10_send_63 : decode cX10_send 63 = .ok (.istore 4, 2) := by decide +kernel
theorem dX10_send_65 : decode cX10_send 65 = .ok (.aload_n 0, 1) := by decide +kernel
theorem dX10_send_66 : decode cX10_send 66 = .ok (.getfield 63, 3) := by decide +kernel
theorem dX10_send_69 : decode cX10_send 69 = .ok (.iload 4, 2) := by decide +kernel
theorem dX10_send_71 : decode cX10_send 71 = .ok (.iload_n 1, 1) := by decide +kernel
theorem dX10_send_72 : decode cX10_send 72 = .ok (.aload_n 0, 1) := by decide +kernel
theorem dX10_send_73 : decode cX10_send 73 = .ok (.getfield 29, 3) := by decide +kernel
theorem dX10_send_76 : decode cX10_send 76 = .ok (.getfield 130, 3) := by decide +kernel
theorem dX10_send_79 : decode cX10_send 79 = .ok (.invokevirtual 135, 3) := by decide +kernel
theorem dX10_send_82 : decode cX10_send 82 = .ok (.aconst_null, 1) := by decide +kernel
theorem dX10_send_83 : decode cX10_send 83 = .ok (.astore 5, 2) := by decide +kernel
theorem dX10_send_85 : decode cX10_send 85 = .ok (.iload 4, 2) := by decide +kernel
theorem dX10_send_87 : decode cX10_send 87 = .ok (.ifCond .ne 26, 3) := by decide +kernel
theorem dX10_send_90 : decode cX10_send 90 = .ok (.aload_n 3, 1) := by decide +kernel
theorem dX10_send_91 : decode cX10_send 91 = .ok (.invokevirtual 139, 3) := by decide +kernel
theorem dX10_send_94 : decode cX10_send 94 = .ok (.aload_n 3, 1) := by decide +kernel
theorem dX10_send_95 : decode cX10_send 95 = .ok (.aload_n 0, 1) := by decide +kernel
theorem dX10_send_96 : decode cX10_send 96 = .ok (.getfield 22, 3) := by decide +kernel
theorem dX10_send_99 : decode cX10_send 99 = .ok (.aload_n 0, 1) := by decide +kernel
theorem dX10_send_100 : decode cX10_send 100 = .ok (.getfield 29, 3) := by decide +kernel
theorem dX10_send_103 : decode cX10_send 103 = .ok (.aload_n 0, 1) := by decide +kernel
theorem dX10_send_104 : decode cX10_send 104 = .ok (.getfield 63, 3) := by decide +kernel
theorem dX10_send_107 : decode cX10_send 107 = .ok (.invokevirtual 142, 3) := by decide +kernel
theorem dX10_send_110 : decode cX10_send 110 = .ok (.goto 55, 3) := by decide +kernel
theorem dX10_send_113 : decode cX10_send 113 = .ok (.iload 4, 2) := by decide +kernel
theorem dX10_send_115 : decode cX10_send 115 = .ok (.iconst 1, 1) := by decide +kernel
theorem dX10_send_116 : decode cX10_send 116 = .ok (.if_icmp .ne 22, 3) := by decide +kernel
theorem dX10_send_119 : decode cX10_send 119 = .ok (.aload_n 3, 1) := by decide +kernel
theorem dX10_send_120 : decode cX10_send 120 = .ok (.aload_n 0, 1) := by decide +kernel
theorem dX10_send_121 : decode cX10_send 121 = .ok (.getfield 22, 3) := by decide +kernel
theorem dX10_send_124 : decode cX10_send 124 = .ok (.aload_n 0, 1) := by decide +kernel
theorem dX10_send_125 : decode cX10_send 125 = .ok (.getfield 29, 3) := by decide +kernel
theorem dX10_send_128 : decode cX10_send 128 = .ok (.aload_n 0, 1) := by decide +kernel
theorem dX10_send_129 : decode cX10_send 129 = .ok (.getfield 63, 3) := by decide +kernel
theorem dX10_send_132 : decode cX10_send 132 = .ok (.invokevirtual 146, 3) := by decide +kernel
theorem dX10_send_135 : decode cX10_send 135 = .ok (.goto 30, 3) := by decide +kernel
theorem dX10_send_138 : decode cX10_send 138 = .ok (.new 149, 3) := by decide +kernel
theorem dX10_send_141 : decode cX10_send 141 = .ok (.dup, 1) := by decide +kernel
theorem dX10_send_142 : decode cX10_send 142 = .ok (.invokespecial 151, 3) := by decide +kernel
theorem dX10_send_145 : decode cX10_send 145 = .ok (.astore 5, 2) := by decide +kernel
theorem dX10_send_147 : decode cX10_send 147 = .ok (.aload_n 3, 1) := by decide +kernel
theorem dX10_send_148 : decode cX10_send 148 = .ok (.aload_n 0, 1) := by decide +kernel
theorem dX10_send_149 : decode cX10_send 149 = .ok (.getfield 22, 3) := by decide +kernel
theorem dX10_send_152 : decode cX10_send 152 = .ok (.aload_n 0, 1) := by decide +kernel
theorem dX10_send_153 : decode cX10_send 153 = .ok (.getfield 29, 3) := by decide +kernel
theorem dX10_send_156 : decode cX10_send 156 = .ok (.aload_n 0, 1) := by decide +kernel
theorem dX10_send_157 : decode cX10_send 157 = .ok (.getfield 63, 3) := by decide +kernel
theorem dX10_send_160 : decode cX10_send 160 = .ok (.aload 5, 2) := by decide +kernel
theorem dX10_send_162 : decode cX10_send 162 = .ok (.invokevirtual 152, 3) := by decide +kernel
theorem dX10_send_165 : decode cX10_send 165 = .ok (.aload_n 3, 1) := by decide +kernel
theorem dX10_send_166 : decode cX10_send 166 = .ok (.aload_n 0, 1) := by decide +kernel
theorem dX10_send_167 : decode cX10_send 167 = .ok (.getfield 29, 3) := by decide +kernel
theorem dX10_send_170 : decode cX10_send 170 = .ok (.aload_n 0, 1) := by decide +kernel
theorem dX10_send_171 : decode cX10_send 171 = .ok (.getfield 15, 3) := by decide +kernel
theorem dX10_send_174 : decode cX10_send 174 = .ok (.invokevirtual 156, 3) := by decide +kernel
theorem dX10_send_177 : decode cX10_send 177 = .ok (.aload_n 0, 1) := by decide +kernel
theorem dX10_send_178 : decode cX10_send 178 = .ok (.iload 4, 2) := by decide +kernel
theorem dX10_send_180 : decode cX10_send 180 = .ok (.iload_n 1, 1) := by decide +kernel
theorem dX10_send_181 : decode cX10_send 181 = .ok (.aload_n 0, 1) := by decide +kernel
theorem dX10_send_182 : decode cX10_send 182 = .ok (.getfield 29, 3) := by decide +kernel
theorem dX10_send_185 : decode cX10_send 185 = .ok (.getfield 130, 3) := by decide +kernel
theorem dX10_send_188 : decode cX10_send 188 = .ok (.aload 5, 2) := by decide +kernel
theorem dX10_send_190 : decode cX10_send 190 = .ok (.invokevirtual 160, 3) := by decide +kernel
theorem dX10_send_193 : decode cX10_send 193 = .ok (.ireturn, 1) := by decide +kernel
set_option maxRecDepth 20000 in
theorem ggX10_ack_X10_isFlow : GoodIn wsX10_ack wsX10_isFlow := goodIn_r _ [8] (by decide +kernel) (by decide +kernel)
set_option maxRecDepth 20000 in
theorem gX10_ack_X10_isFlow : GoodIn wsX10_ack (va_wsS RX10 109 yX10_isFlow wsX10_isFlow) := goodIn_app (goodIn_of _ (by decide +kernel)) ggX10_ack_X10_isFlow
set_option maxRecDepth 20000 in
theorem ggX10_ack_X10_isLineFull : GoodIn wsX10_ack wsX10_isLineFull := goodIn_r _ [12, 13, 90, 91, 92, 93, 94, 95, 96, 97, 98, 99, 100, 101] (by decide +kernel) (by decide +kernel)
set_option maxRecDepth 20000 in
theorem gX10_ack_X10_isLineFull : GoodIn wsX10_ack (wsV RX10 123 RX10 yX10_isLineFull wsX10_isLineFull) := goodIn_app (goodIn_of _ (by decide +kernel)) ggX10_ack_X10_isLineFull
set_option maxRecDepth 20000 in
theorem ggX10_ack_X10_addAnswer : GoodIn wsX10_ack wsX10_addAnswer := goodIn_r _ [17, 18, 19, 20, 21, 22, 23, 24, 25, 26, 27, 28, 29, 30, 31, 32, 33, 34, 7, 35, 36, 37, 38, 39, 40, 41, 42, 43, 44, 45, 46, 47, 48, 49, 50, 51, 52, 53, 54, 55, 56, 57, 58, 59, 60, 61, 62, 63, 64, 65, 66, 67, 68, 69, 70, 71, 72, 73, 74, 75, 76, 77, 78, 79, 80, 81, 82, 83, 84, 85, 86, 87, 88, 89, 13, 9, 10, 11, 12, 90, 91, 92, 93, 94, 95, 96, 97, 98, 99, 100, 101, 108, 109, 110, 111, 112, 113, 114, 115, 116, 117, 118] (by decide +kernel) (by decide +kernel)
set_option maxRecDepth 20000 in
theorem gX10_ack_X10_addAnswer : GoodIn wsX10_ack (wsV RX10 170 RX10 yX10_addAnswer wsX10_addAnswer) := goodIn_app (goodIn_of _ (by decide +kernel)) ggX10_ack_X10_addAnswer
theorem dX10_ack_0 : decode cX10_ack 0 = .ok (.iload_n 1, 1) := by decide +kernel
theorem dX10_ack_1 : decode cX10_ack 1 = .ok (.invokestatic 109, 3) := by decide +kernel
theorem dX10_ack_4 : decode cX10_ack 4 = .ok (.ifCond .ne 5, 3) := by decide +kernel
theorem dX10_ack_7 : decode cX10_ack 7 = .ok (.iconst (-1), 1) := by decide +kernel
theorem dX10_ack_8 : decode cX10_ack 8 = .ok (.ireturn, 1) := by decide +kernel
theorem dX10_ack_9 : decode cX10_ack 9 = .ok (.aload_n 0, 1) := by decide +kernel
theorem dX10_ack_10 : decode cX10_ack 10 = .ok (.invokevirtual 123, 3) := by decide +kernel
theorem dX10_ack_13 : decode cX10_ack 13 = .ok (.ifCond .eq 6, 3) := by decide +kernel
theorem dX10_ack_16 : decode cX10_ack 16 = .ok (.bipush (-2), 2) := by decide +kernel
theorem dX10_ack_18 : decode cX10_ack 18 = .ok (.ireturn, 1) := by decide +kernel
theorem dX10_ack_19 : decode cX10_ack 19 = .ok (.aload_n 0, 1) := by decide +kernel
theorem dX10_ack_20 : decode cX10_ack 20 = .ok (.getfield 41, 3) := by decide +kernel
theorem dX10_ack_23 : decode cX10_ack 23 = .ok (.iload_n 1, 1) := by decide +kernel
theorem dX10_ack_24 : decode cX10_ack 24 = .ok (.aaload, 1) := by decide +kernel
theorem dX10_ack_25 : decode cX10_ack 25 = .ok (.getfield 164, 3) := by decide +kernel
theorem dX10_ack_28 : decode cX10_ack 28 = .ok (.ifCond .ne 6, 3) := by decide +kernel
theorem dX10_ack_31 : decode cX10_ack 31 = .ok (.bipush (-3), 2) := by decide +kernel
theorem dX10_ack_33 : decode cX10_ack 33 = .ok (.ireturn, 1) := by decide +kernel
theorem dX10_ack_34 : decode cX10_ack 34 = .ok (.aload_n 0, 1) := by decide +kernel
theorem dX10_ack_35 : decode cX10_ack 35 = .ok (.iconst 3, 1) := by decide +kernel
theorem dX10_ack_36 : decode cX10_ack 36 = .ok (.iload_n 1, 1) := by decide +kernel
theorem dX10_ack_37 : decode cX10_ack 37 = .ok (.aload_n 0, 1) := by decide +kernel
theorem dX10_ack_38 : decode cX10_ack 38 = .ok (.getfield 41, 3) := by decide +kernel
theorem dX10_ack_41 : decode cX10_ack 41 = .ok (.iload_n 1, 1) := by decide +kernel
theorem dX10_ack_42 : decode cX10_ack 42 = .ok (.aaload, 1) := by decide +kernel
theorem dX10_ack_43 : decode cX10_ack 43 = .ok (.getfield 167, 3) := by decide +kernel
theorem dX10_ack_46 : decode cX10_ack 46 = .ok (.getfield 130, 3) := by decide +kernel
theorem dX10_ack_49 : decode cX10_ack 49 = .ok (.invokevirtual 170, 3) := by decide +kernel
theorem dX10_ack_52 : decode cX10_ack 52 = .ok (.ireturn, 1) := by decide +kernel
set_option maxRecDepth 20000 in
theorem ggX10_nack_X10_isFlow : GoodIn wsX10_nack wsX10_isFlow := goodIn_r _ [8] (by decide +kernel) (by decide +kernel)
set_option maxRecDepth 20000 in
theorem gX10_nack_X10_isFlow : GoodIn wsX10_nack (va_wsS RX10 109 yX10_isFlow wsX10_isFlow) := goodIn_app (goodIn_of _ (by decide +kernel)) ggX10_nack_X10_isFlow
set_option maxRecDepth 20000 in
theorem ggX10_nack_X10_isLineFull : GoodIn wsX10_nack wsX10_isLineFull := goodIn_r _ [12, 13, 90, 91, 92, 93, 94, 95, 96, 97, 98, 99, 100, 101] (by decide +kernel) (by decide +kernel)
set_option maxRecDepth 20000 in
theorem gX10_nack_X10_isLineFull : GoodIn wsX10_nack (wsV RX10 123 RX10 yX10_isLineFull wsX10_isLineFull) := goodIn_app (goodIn_of _ (by decide +kernel)) ggX10_nack_X10_isLineFull
set_option maxRecDepth 20000 in
theorem ggX10_nack_X10_addAnswer : GoodIn wsX10_nack wsX10_addAnswer := goodIn_r _ [17, 18, 19, 20, 21, 22, 23, 24, 25, 26, 27, 28, 29, 30, 31, 32, 33, 34, 7, 35, 36, 37, 38, 39, 40, 41, 42, 43, 44, 45, 46, 47, 48, 49, 50, 51, 52, 53, 54, 55, 56, 57, 58, 59, 60, 61, 62, 63, 64, 65, 66, 67, 68, 69, 70, 71, 72, 73, 74, 75, 76, 77, 78, 79, 80, 81, 82, 83, 84, 85, 86, 87, 88, 89, 13, 9, 10, 11, 12, 90, 91, 92, 93, 94, 95, 96, 97, 98, 99, 100, 101, 108, 109, 110, 111, 112, 113, 114, 115, 116, 117, 118] (by decide +kernel) (by decide +kernel)
set_option maxRecDepth 20000 in
theorem gX10_nack_X10_addAnswer : GoodIn wsX10_nack (wsV RX10 170 RX10 yX10_addAnswer wsX10_addAnswer) := goodIn_app (goodIn_of _ (by decide +kernel)) ggX10_nack_X10_addAnswer
theorem dX10_nack_0 : decode cX10_nack 0 = .ok (.iload_n 1, 1) := by decide +kernel
theorem dX10_nack_1 : decode cX10_nack 1 = .ok (.invokestatic 109, 3) := by decide +kernel
theorem dX10_nack_4 : decode cX10_nack 4 = .ok (.ifCond .ne 5, 3) := by decide +kernel
theorem dX10_nack_7 : decode cX10_nack 7 = .ok (.iconst (-1), 1) := by decide +kernel
theorem dX10_nack_8 : decode cX10_nack 8 = .ok (.ireturn, 1) := by decide +kernel
theorem dX10_nack_9 : decode cX10_nack 9 = .ok (.aload_n 0, 1) := by decide +kernel
theorem dX10_nack_10 : decode cX10_nack 10 = .ok (.invokevirtual 123, 3) := by decide +kernel
theorem dX10_nack_13 : decode cX10_nack 13 = .ok (.ifCond .eq 6, 3) := by decide +kernel
theorem dX10_nack_16 : decode cX10_nack 16 = .ok (.bipush (-2), 2) := by decide +kernel
theorem dX10_nack_18 : decode cX10_nack 18 = .ok (.ireturn, 1) := by decide +kernel
theorem dX10_nack_19 : decode cX10_nack 19 = .ok (.aload_n 0, 1) := by decide +kernel
theorem dX10_nack_20 : decode cX10_nack 20 = .ok (.getfield 41, 3) := by decide +kernel
theorem dX10_nack_23 : decode cX10_nack 23 = .ok (.iload_n 1, 1) := by decide +kernel
theorem dX10_nack_24 : decode cX10_nack 24 = .ok (.aaload, 1) := by decide +kernel
theorem dX10_nack_25 : decode cX10_nack 25 = .ok (.getfield 164, 3) := by decide +kernel
theorem dX10_nack_28 : decode cX10_nack 28 = .ok (.ifCond .ne 11, 3) := by decide +kernel
theorem dX10_nack_31 : decode cX10_nack 31 = .ok (.aload_n 0, 1) := by decide +kernel
theorem dX10_nack_32 : decode cX10_nack 32 = .ok (.iconst 5, 1) := by decide +kernel
theorem dX10_nack_33 : decode cX10_nack 33 = .ok (.iload_n 1, 1) := by decide +kernel
theorem dX10_nack_34 : decode cX10_nack 34 = .ok (.iconst 0, 1) := by decide +kernel
theorem dX10_nack_35 : decode cX10_nack 35 = .ok (.invokevirtual 170, 3) := by decide +kernel
theorem dX10_nack_38 : decode cX10_nack 38 = .ok (.ireturn, 1) := by decide +kernel
theorem dX10_nack_39 : decode cX10_nack 39 = .ok (.aload_n 0, 1) := by decide +kernel
theorem dX10_nack_40 : decode cX10_nack 40 = .ok (.iconst 4, 1) := by decide +kernel
theorem dX10_nack_41 : decode cX10_nack 41 = .ok (.iload_n 1, 1) := by decide +kernel
theorem dX10_nack_42 : decode cX10_nack 42 = .ok (.aload_n 0, 1) := by decide +kernel
theorem dX10_nack_43 : decode cX10_nack 43 = .ok (.getfield 41, 3) := by decide +kernel
theorem dX10_nack_46 : decode cX10_nack 46 = .ok (.iload_n 1, 1) := by decide +kernel
theorem dX10_nack_47 : decode cX10_nack 47 = .ok (.aaload, 1) := by decide +kernel
theorem dX10_nack_48 : decode cX10_nack 48 = .ok (.getfield 167, 3) := by decide +kernel
theorem dX10_nack_51 : decode cX10_nack 51 = .ok (.getfield 130, 3) := by decide +kernel
theorem dX10_nack_54 : decode cX10_nack 54 = .ok (.iconst 1, 1) := by decide +kernel
theorem dX10_nack_55 : decode cX10_nack 55 = .ok (.iadd, 1) := by decide +kernel
theorem dX10_nack_56 : decode cX10_nack 56 = .ok (.invokevirtual 170, 3) := by decide +kernel
theorem dX10_nack_59 : decode cX10_nack 59 = .ok (.ireturn, 1) := by decide +kernel
set_option maxRecDepth 20000 in
theorem ggX10_deliver_X10_letterUnderWay : GoodIn wsX10_deliver wsX10_letterUnderWay := goodIn_r _ [7, 8, 9, 10, 11, 6, 12, 13, 14, 190, 191, 192, 193, 194, 195, 196, 197, 198, 199, 200, 201, 202, 203, 204, 205, 206, 207, 208, 209, 210] (by decide +kernel) (by decide +kernel)
set_option maxRecDepth 20000 in
theorem gX10_deliver_X10_letterUnderWay : GoodIn wsX10_deliver (wsV RX10 174 RX10 yX10_letterUnderWay wsX10_letterUnderWay) := goodIn_app (goodIn_of _ (by decide +kernel)) ggX10_deliver_X10_letterUnderWay
set_option maxRecDepth 20000 in
theorem ggX10_deliver_X10_outcomeOf : GoodIn wsX10_deliver wsX10_outcomeOf := goodIn_r _ [18, 19, 20, 21, 22, 23, 24, 25, 26, 27, 28, 29, 30, 31, 32, 33, 34, 35, 36, 37, 38, 39, 40, 41, 42, 43, 44, 45, 46, 47, 48, 49, 50, 51, 52, 53, 54, 55, 56, 57, 58, 59, 60, 61, 62, 63, 64, 65, 66, 67, 68, 69, 70, 71, 6, 72, 73, 74, 75, 76, 77, 78, 79, 80, 81, 82, 83, 84, 85, 86, 87, 88, 89, 90, 91, 92, 93, 94, 95, 96, 97, 98, 99, 100, 101, 102, 103, 104, 105, 106, 107, 108, 109, 110, 111, 112, 113, 114, 115, 116, 117, 118, 119, 120, 121, 122, 123, 124, 125, 126, 127, 128, 129, 130, 131, 132, 133, 134, 135, 136, 137, 138, 139, 140, 141, 142, 143, 144, 145, 146, 147, 148, 149, 150, 151, 152, 153, 154, 155, 156, 157, 158, 159, 160, 161, 162, 163, 164, 165, 166, 167, 168, 169, 170, 171, 172, 173, 174, 175, 176, 177, 178, 179, 180, 181, 182, 183, 184, 185, 186, 187, 188, 189, 199, 200, 201, 202, 203, 204, 205, 206, 207, 208, 209, 210, 211, 212, 213, 214, 215, 216, 217, 218, 219, 220, 221, 222, 223, 224, 225, 226, 227, 228, 229, 230, 231, 232, 233, 234, 235, 236, 237, 238, 239, 240, 241, 242, 243, 244, 245] (by decide +kernel) (by decide +kernel)
set_option maxRecDepth 20000 in
theorem gX10_deliver_X10_outcomeOf : GoodIn wsX10_deliver (wsV RX10 181 RX10 yX10_outcomeOf wsX10_outcomeOf) := goodIn_app (goodIn_of _ (by decide +kernel)) ggX10_deliver_X10_outcomeOf
theorem dX10_deliver_0 : decode cX10_deliver 0 = .ok (.aload_n 0, 1) := by decide +kernel
theorem dX10_deliver_1 : decode cX10_deliver 1 = .ok (.iload_n 1, 1) := by decide +kernel
theorem dX10_deliver_2 : decode cX10_deliver 2 = .ok (.invokevirtual 174, 3) := by decide +kernel
theorem dX10_deliver_5 : decode cX10_deliver 5 = .ok (.astore_n 2, 1) := by decide +kernel
theorem dX10_deliver_6 : decode cX10_deliver 6 = .ok (.aload_n 2, 1) := by decide +kernel
theorem dX10_deliver_7 : decode cX10_deliver 7 = .ok (.ifnonnull 5, 3) := by decide +kernel
theorem dX10_deliver_10 : decode cX10_deliver 10 = .ok (.iconst (-1), 1) := by decide +kernel
theorem dX10_deliver_11 : decode cX10_deliver 11 = .ok (.ireturn, 1) := by decide +kernel
theorem dX10_deliver_12 : decode cX10_deliver 12 = .ok (.aload_n 2, 1) := by decide +kernel
theorem dX10_deliver_13 : decode cX10_deliver 13 = .ok (.aload_n 0, 1) := by decide +kernel
theorem dX10_deliver_14 : decode cX10_deliver 14 = .ok (.aload_n 2, 1) := by decide +kernel
theorem dX10_deliver_15 : decode cX10_deliver 15 = .ok (.getfield 178, 3) := by decide +kernel
theorem dX10_deliver_18 : decode cX10_deliver 18 = .ok (.invokevirtual 181, 3) := by decide +kernel
theorem dX10_deliver_21 : decode cX10_deliver 21 = .ok (.putfield 185, 3) := by decide +kernel
theorem dX10_deliver_24 : decode cX10_deliver 24 = .ok (.aload_n 2, 1) := by decide +kernel
theorem dX10_deliver_25 : decode cX10_deliver 25 = .ok (.getfield 185, 3) := by decide +kernel
theorem dX10_deliver_28 : decode cX10_deliver 28 = .ok (.ireturn, 1) := by decide +kernel
set_option maxRecDepth 20000 in
theorem ggX10_lose_X10_letterUnderWay : GoodIn wsX10_lose wsX10_letterUnderWay := goodIn_r _ [7, 1, 8, 9, 10, 6, 11, 12, 13, 14, 15, 16, 17, 18, 19, 20, 21, 22, 23, 24, 25, 26, 27, 28, 29, 30, 31, 32, 33, 34] (by decide +kernel) (by decide +kernel)
set_option maxRecDepth 20000 in
theorem gX10_lose_X10_letterUnderWay : GoodIn wsX10_lose (wsV RX10 174 RX10 yX10_letterUnderWay wsX10_letterUnderWay) := goodIn_app (goodIn_of _ (by decide +kernel)) ggX10_lose_X10_letterUnderWay
theorem dX10_lose_0 : decode cX10_lose 0 = .ok (.aload_n 0, 1) := by decide +kernel
theorem dX10_lose_1 : decode cX10_lose 1 = .ok (.iload_n 1, 1) := by decide +kernel
theorem dX10_lose_2 : decode cX10_lose 2 = .ok (.invokevirtual 174, 3) := by decide +kernel
theorem dX10_lose_5 : decode cX10_lose 5 = .ok (.astore_n 2, 1) := by decide +kernel
theorem dX10_lose_6 : decode cX10_lose 6 = .ok (.aload_n 2, 1) := by decide +kernel
theorem dX10_lose_7 : decode cX10_lose 7 = .ok (.ifnonnull 5, 3) := by decide +kernel
theorem dX10_lose_10 : decode cX10_lose 10 = .ok (.iconst (-1), 1) := by decide +kernel
theorem dX10_lose_11 : decode cX10_lose 11 = .ok (.ireturn, 1) := by decide +kernel
theorem dX10_lose_12 : decode cX10_lose 12 = .ok (.aload_n 2, 1) := by decide +kernel
