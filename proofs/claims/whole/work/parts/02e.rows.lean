set_option maxRecDepth 20000 in
theorem ggX5_init_X4_init : GoodIn wsX5_init wsX4_init := goodIn_r _ [33, 34, 2, 3, 29, 35, 36, 37, 38, 4, 39, 40, 41, 42, 43, 44, 45, 108, 109, 110, 111, 112, 113, 114, 115] (by decide +kernel) (by decide +kernel)
set_option maxRecDepth 20000 in
theorem gX5_init_X4_init : GoodIn wsX5_init (wsX4_init) := ggX5_init_X4_init
set_option maxRecDepth 20000 in
theorem ggX5_init_X0_init : GoodIn wsX5_init wsX0_init := goodIn_r _ [48, 49, 2, 3, 29, 50, 51, 52, 53, 54, 55, 56, 57, 58, 59, 116, 117, 118, 119, 120, 121, 122, 123, 124] (by decide +kernel) (by decide +kernel)
set_option maxRecDepth 20000 in
theorem gX5_init_X0_init : GoodIn wsX5_init (wsX0_init) := ggX5_init_X0_init
set_option maxRecDepth 20000 in
theorem ggX5_init_X3_init : GoodIn wsX5_init wsX3_init := goodIn_r _ [61, 62, 2, 3, 29, 63, 64, 65, 66, 67, 68, 125, 126, 127, 128, 129, 130] (by decide +kernel) (by decide +kernel)
set_option maxRecDepth 20000 in
theorem gX5_init_X3_init_n42 : GoodIn wsX5_init (wsX3_init) := ggX5_init_X3_init
set_option maxRecDepth 20000 in
theorem ggX5_init_X2_init : GoodIn wsX5_init wsX2_init := goodIn_r _ [71, 72, 2, 3, 29, 73, 74, 75, 76, 77, 78, 79, 80, 81, 82, 131, 132, 133, 134, 135, 136, 137, 138, 139, 140] (by decide +kernel) (by decide +kernel)
set_option maxRecDepth 20000 in
theorem gX5_init_X2_init : GoodIn wsX5_init (wsX2_init) := ggX5_init_X2_init
set_option maxRecDepth 20000 in
theorem ggX5_init_X1_init : GoodIn wsX5_init wsX1_init := goodIn_r _ [85, 86, 2, 3, 87, 29, 88, 89, 90, 91, 92, 93, 94, 95, 96, 97, 141, 142, 143, 144, 145, 146, 147, 148, 149, 150] (by decide +kernel) (by decide +kernel)
set_option maxRecDepth 20000 in
theorem gX5_init_X1_init : GoodIn wsX5_init (wsX1_init) := ggX5_init_X1_init
theorem dX5_init_0 : decode cX5_init 0 = .ok (.aload_n 0, 1) := by decide +kernel
theorem dX5_init_1 : decode cX5_init 1 = .ok (.invokespecial 1, 3) := by decide +kernel
theorem dX5_init_4 : decode cX5_init 4 = .ok (.aload_n 0, 1) := by decide +kernel
theorem dX5_init_5 : decode cX5_init 5 = .ok (.sipush 2000, 3) := by decide +kernel
theorem dX5_init_8 : decode cX5_init 8 = .ok (.newarray .byte, 2) := by decide +kernel
theorem dX5_init_10 : decode cX5_init 10 = .ok (.putfield 9, 3) := by decide +kernel
theorem dX5_init_13 : decode cX5_init 13 = .ok (.aload_n 0, 1) := by decide +kernel
theorem dX5_init_14 : decode cX5_init 14 = .ok (.iconst 0, 1) := by decide +kernel
theorem dX5_init_15 : decode cX5_init 15 = .ok (.putfield 13, 3) := by decide +kernel
theorem dX5_init_18 : decode cX5_init 18 = .ok (.aload_n 0, 1) := by decide +kernel
theorem dX5_init_19 : decode cX5_init 19 = .ok (.iconst (-1), 1) := by decide +kernel
theorem dX5_init_20 : decode cX5_init 20 = .ok (.putfield 17, 3) := by decide +kernel
theorem dX5_init_23 : decode cX5_init 23 = .ok (.aload_n 0, 1) := by decide +kernel
theorem dX5_init_24 : decode cX5_init 24 = .ok (.new 20, 3) := by decide +kernel
theorem dX5_init_27 : decode cX5_init 27 = .ok (.dup, 1) := by decide +kernel
theorem dX5_init_28 : decode cX5_init 28 = .ok (.invokespecial 22, 3) := by decide +kernel
theorem dX5_init_31 : decode cX5_init 31 = .ok (.putfield 23, 3) := by decide +kernel
theorem dX5_init_34 : decode cX5_init 34 = .ok (.aload_n 0, 1) := by decide +kernel
theorem dX5_init_35 : decode cX5_init 35 = .ok (.new 27, 3) := by decide +kernel
theorem dX5_init_38 : decode cX5_init 38 = .ok (.dup, 1) := by decide +kernel
theorem dX5_init_39 : decode cX5_init 39 = .ok (.aload_n 0, 1) := by decide +kernel
theorem dX5_init_40 : decode cX5_init 40 = .ok (.getfield 23, 3) := by decide +kernel
theorem dX5_init_43 : decode cX5_init 43 = .ok (.invokespecial 29, 3) := by decide +kernel
theorem dX5_init_46 : decode cX5_init 46 = .ok (.putfield 32, 3) := by decide +kernel
theorem dX5_init_49 : decode cX5_init 49 = .ok (.aload_n 0, 1) := by decide +kernel
theorem dX5_init_50 : decode cX5_init 50 = .ok (.bipush 6, 2) := by decide +kernel
theorem dX5_init_52 : decode cX5_init 52 = .ok (.anewarray 36, 3) := by decide +kernel
theorem dX5_init_55 : decode cX5_init 55 = .ok (.putfield 38, 3) := by decide +kernel
theorem dX5_init_58 : decode cX5_init 58 = .ok (.aload_n 0, 1) := by decide +kernel
theorem dX5_init_59 : decode cX5_init 59 = .ok (.new 36, 3) := by decide +kernel
theorem dX5_init_62 : decode cX5_init 62 = .ok (.dup, 1) := by decide +kernel
theorem dX5_init_63 : decode cX5_init 63 = .ok (.invokespecial 42, 3) := by decide +kernel
theorem dX5_init_66 : decode cX5_init 66 = .ok (.putfield 43, 3) := by decide +kernel
theorem dX5_init_69 : decode cX5_init 69 = .ok (.aload_n 0, 1) := by decide +kernel
theorem dX5_init_70 : decode cX5_init 70 = .ok (.new 47, 3) := by decide +kernel
theorem dX5_init_73 : decode cX5_init 73 = .ok (.dup, 1) := by decide +kernel
theorem dX5_init_74 : decode cX5_init 74 = .ok (.aload_n 0, 1) := by decide +kernel
theorem dX5_init_75 : decode cX5_init 75 = .ok (.getfield 9, 3) := by decide +kernel
theorem dX5_init_78 : decode cX5_init 78 = .ok (.invokespecial 49, 3) := by decide +kernel
theorem dX5_init_81 : decode cX5_init 81 = .ok (.putfield 52, 3) := by decide +kernel
theorem dX5_init_84 : decode cX5_init 84 = .ok (.aload_n 0, 1) := by decide +kernel
theorem dX5_init_85 : decode cX5_init 85 = .ok (.new 56, 3) := by decide +kernel
theorem dX5_init_88 : decode cX5_init 88 = .ok (.dup, 1) := by decide +kernel
theorem dX5_init_89 : decode cX5_init 89 = .ok (.aload_n 0, 1) := by decide +kernel
theorem dX5_init_90 : decode cX5_init 90 = .ok (.getfield 23, 3) := by decide +kernel
theorem dX5_init_93 : decode cX5_init 93 = .ok (.aload_n 0, 1) := by decide +kernel
theorem dX5_init_94 : decode cX5_init 94 = .ok (.getfield 32, 3) := by decide +kernel
theorem dX5_init_97 : decode cX5_init 97 = .ok (.aload_n 0, 1) := by decide +kernel
theorem dX5_init_98 : decode cX5_init 98 = .ok (.getfield 38, 3) := by decide +kernel
theorem dX5_init_101 : decode cX5_init 101 = .ok (.invokespecial 58, 3) := by decide +kernel
theorem dX5_init_104 : decode cX5_init 104 = .ok (.putfield 61, 3) := by decide +kernel
theorem dX5_init_107 : decode cX5_init 107 = .ok (.aload_n 0, 1) := by decide +kernel
theorem dX5_init_108 : decode cX5_init 108 = .ok (.bipush 15, 2) := by decide +kernel
theorem dX5_init_110 : decode cX5_init 110 = .ok (.newarray .int, 2) := by decide +kernel
theorem dX5_init_112 : decode cX5_init 112 = .ok (.putfield 65, 3) := by decide +kernel
theorem dX5_init_115 : decode cX5_init 115 = .ok (.iconst 0, 1) := by decide +kernel
theorem dX5_init_116 : decode cX5_init 116 = .ok (.istore_n 1, 1) := by decide +kernel
theorem dX5_init_117 : decode cX5_init 117 = .ok (.iload_n 1, 1) := by decide +kernel
theorem dX5_init_118 : decode cX5_init 118 = .ok (.bipush 6, 2) := by decide +kernel
theorem dX5_init_120 : decode cX5_init 120 = .ok (.if_icmp .ge 22, 3) := by decide +kernel
theorem dX5_init_123 : decode cX5_init 123 = .ok (.aload_n 0, 1) := by decide +kernel
theorem dX5_init_124 : decode cX5_init 124 = .ok (.getfield 38, 3) := by decide +kernel
theorem dX5_init_127 : decode cX5_init 127 = .ok (.iload_n 1, 1) := by decide +kernel
theorem dX5_init_128 : decode cX5_init 128 = .ok (.new 36, 3) := by decide +kernel
theorem dX5_init_131 : decode cX5_init 131 = .ok (.dup, 1) := by decide +kernel
theorem dX5_init_132 : decode cX5_init 132 = .ok (.invokespecial 42, 3) := by decide +kernel
theorem dX5_init_135 : decode cX5_init 135 = .ok (.aastore, 1) := by decide +kernel
theorem dX5_init_136 : decode cX5_init 136 = .ok (.iinc 1 1, 3) := by decide +kernel
theorem dX5_init_139 : decode cX5_init 139 = .ok (.goto (-22), 3) := by decide +kernel
theorem dX5_init_142 : decode cX5_init 142 = .ok (.return_, 1) := by decide +kernel
set_option maxRecDepth 20000 in
theorem ggX5_feed_X5_putBytes : GoodIn wsX5_feed wsX5_putBytes := goodIn_r _ [6, 1, 7, 8, 9, 10, 11, 12, 13, 14, 15, 16, 17] (by decide +kernel) (by decide +kernel)
set_option maxRecDepth 20000 in
theorem gX5_feed_X5_putBytes : GoodIn wsX5_feed (wsV RX5 69 RX5 yX5_putBytes wsX5_putBytes) := goodIn_app (goodIn_of _ (by decide +kernel)) ggX5_feed_X5_putBytes
theorem dX5_feed_0 : decode cX5_feed 0 = .ok (.aload_n 0, 1) := by decide +kernel
theorem dX5_feed_1 : decode cX5_feed 1 = .ok (.getfield 13, 3) := by decide +kernel
theorem dX5_feed_4 : decode cX5_feed 4 = .ok (.bipush 20, 2) := by decide +kernel
theorem dX5_feed_6 : decode cX5_feed 6 = .ok (.iadd, 1) := by decide +kernel
theorem dX5_feed_7 : decode cX5_feed 7 = .ok (.sipush 2000, 3) := by decide +kernel
theorem dX5_feed_10 : decode cX5_feed 10 = .ok (.if_icmp .le 5, 3) := by decide +kernel
theorem dX5_feed_13 : decode cX5_feed 13 = .ok (.iconst (-1), 1) := by decide +kernel
theorem dX5_feed_14 : decode cX5_feed 14 = .ok (.ireturn, 1) := by decide +kernel
theorem dX5_feed_15 : decode cX5_feed 15 = .ok (.aload_n 0, 1) := by decide +kernel
theorem dX5_feed_16 : decode cX5_feed 16 = .ok (.iload_n 1, 1) := by decide +kernel
theorem dX5_feed_17 : decode cX5_feed 17 = .ok (.invokevirtual 69, 3) := by decide +kernel
theorem dX5_feed_20 : decode cX5_feed 20 = .ok (.aload_n 0, 1) := by decide +kernel
theorem dX5_feed_21 : decode cX5_feed 21 = .ok (.iload_n 2, 1) := by decide +kernel
theorem dX5_feed_22 : decode cX5_feed 22 = .ok (.invokevirtual 69, 3) := by decide +kernel
theorem dX5_feed_25 : decode cX5_feed 25 = .ok (.aload_n 0, 1) := by decide +kernel
theorem dX5_feed_26 : decode cX5_feed 26 = .ok (.iload_n 3, 1) := by decide +kernel
theorem dX5_feed_27 : decode cX5_feed 27 = .ok (.invokevirtual 69, 3) := by decide +kernel
theorem dX5_feed_30 : decode cX5_feed 30 = .ok (.aload_n 0, 1) := by decide +kernel
theorem dX5_feed_31 : decode cX5_feed 31 = .ok (.iload 4, 2) := by decide +kernel
theorem dX5_feed_33 : decode cX5_feed 33 = .ok (.invokevirtual 69, 3) := by decide +kernel
theorem dX5_feed_36 : decode cX5_feed 36 = .ok (.aload_n 0, 1) := by decide +kernel
theorem dX5_feed_37 : decode cX5_feed 37 = .ok (.iload 5, 2) := by decide +kernel
theorem dX5_feed_39 : decode cX5_feed 39 = .ok (.invokevirtual 69, 3) := by decide +kernel
theorem dX5_feed_42 : decode cX5_feed 42 = .ok (.aload_n 0, 1) := by decide +kernel
theorem dX5_feed_43 : decode cX5_feed 43 = .ok (.getfield 13, 3) := by decide +kernel
theorem dX5_feed_46 : decode cX5_feed 46 = .ok (.ireturn, 1) := by decide +kernel
theorem dX5_back_0 : decode cX5_back 0 = .ok (.iload_n 1, 1) := by decide +kernel
theorem dX5_back_1 : decode cX5_back 1 = .ok (.ifCond .lt 11, 3) := by decide +kernel
theorem dX5_back_4 : decode cX5_back 4 = .ok (.iload_n 1, 1) := by decide +kernel
theorem dX5_back_5 : decode cX5_back 5 = .ok (.aload_n 0, 1) := by decide +kernel
theorem dX5_back_6 : decode cX5_back 6 = .ok (.getfield 13, 3) := by decide +kernel
theorem dX5_back_9 : decode cX5_back 9 = .ok (.if_icmp .le 5, 3) := by decide +kernel
theorem dX5_back_12 : decode cX5_back 12 = .ok (.iconst (-1), 1) := by decide +kernel
theorem dX5_back_13 : decode cX5_back 13 = .ok (.ireturn, 1) := by decide +kernel
theorem dX5_back_14 : decode cX5_back 14 = .ok (.aload_n 0, 1) := by decide +kernel
theorem dX5_back_15 : decode cX5_back 15 = .ok (.dup, 1) := by decide +kernel
theorem dX5_back_16 : decode cX5_back 16 = .ok (.getfield 13, 3) := by decide +kernel
theorem dX5_back_19 : decode cX5_back 19 = .ok (.iload_n 1, 1) := by decide +kernel
theorem dX5_back_20 : decode cX5_back 20 = .ok (.isub, 1) := by decide +kernel
theorem dX5_back_21 : decode cX5_back 21 = .ok (.putfield 13, 3) := by decide +kernel
theorem dX5_back_24 : decode cX5_back 24 = .ok (.aload_n 0, 1) := by decide +kernel
theorem dX5_back_25 : decode cX5_back 25 = .ok (.getfield 13, 3) := by decide +kernel
theorem dX5_back_28 : decode cX5_back 28 = .ok (.ireturn, 1) := by decide +kernel
set_option maxRecDepth 20000 in
theorem ggX5_read_X4_isLand : GoodIn wsX5_read wsX4_isLand := goodIn_r _ [12, 13, 210, 211, 212, 213, 214, 215, 216, 217] (by decide +kernel) (by decide +kernel)
set_option maxRecDepth 20000 in
theorem gX5_read_X4_isLand : GoodIn wsX5_read (wsV RX5 73 RX4 yX4_isLand wsX4_isLand) := goodIn_app (goodIn_of _ (by decide +kernel)) ggX5_read_X4_isLand
set_option maxRecDepth 20000 in
theorem ggX5_read_X2_readInto : GoodIn wsX5_read wsX2_readInto := goodIn_r _ [18, 19, 20, 21, 22, 23, 24, 25, 26, 27, 28, 29, 30, 31, 32, 33, 34, 35, 36, 37, 38, 39, 17, 40, 41, 42, 43, 44, 45, 46, 47, 48, 49, 50, 51, 52, 53, 54, 55, 56, 57, 58, 59, 60, 61, 62, 63, 64, 65, 66, 67, 68, 69, 70, 71, 72, 73, 74, 75, 76, 77, 78, 79, 80, 81, 82, 83, 84, 85, 86, 87, 88, 89, 90, 91, 92, 93, 94, 95, 96, 97, 98, 99, 100, 101, 102, 103, 104, 105, 106, 107, 108, 109, 110, 111, 112, 113, 114, 115, 116, 117, 118, 119, 120, 121, 122, 123, 124, 125, 126, 127, 128, 129, 130, 131, 132, 133, 134, 135, 136, 137, 138, 139, 140, 141, 142, 143, 144, 145, 146, 147, 148, 149, 150, 151, 152, 153, 154, 155, 156, 157, 158, 159, 160, 161, 162, 163, 164, 165, 166, 167, 168, 169, 170, 171, 172, 173, 174, 175, 176, 177, 178, 179, 180, 200, 201, 202, 203, 204, 205, 206, 207, 208, 209, 218, 219, 220, 221, 222, 223] (by decide +kernel) (by decide +kernel)
set_option maxRecDepth 20000 in
theorem gX5_read_X2_readInto : GoodIn wsX5_read (wsV RX5 77 RX2 yX2_readInto wsX2_readInto) := goodIn_app (goodIn_of _ (by decide +kernel)) ggX5_read_X2_readInto
set_option maxRecDepth 20000 in
theorem ggX5_read_X5_forgetAnswers : GoodIn wsX5_read wsX5_forgetAnswers := goodIn_r _ [185, 186, 187, 188, 189, 190, 191, 192, 193, 194, 195, 196, 197, 198, 199, 224, 225, 226, 227, 228, 229, 230, 231, 232, 233, 234, 235, 236, 237, 238, 239, 240, 241, 242] (by decide +kernel) (by decide +kernel)
set_option maxRecDepth 20000 in
theorem gX5_read_X5_forgetAnswers : GoodIn wsX5_read (wsV RX5 84 RX5 yX5_forgetAnswers wsX5_forgetAnswers) := goodIn_app (goodIn_of _ (by decide +kernel)) ggX5_read_X5_forgetAnswers
theorem dX5_read_0 : decode cX5_read 0 = .ok (.aload_n 0, 1) := by decide +kernel
theorem dX5_read_1 : decode cX5_read 1 = .ok (.getfield 23, 3) := by decide +kernel
theorem dX5_read_4 : decode cX5_read 4 = .ok (.iload_n 1, 1) := by decide +kernel
theorem dX5_read_5 : decode cX5_read 5 = .ok (.invokevirtual 73, 3) := by decide +kernel
theorem dX5_read_8 : decode cX5_read 8 = .ok (.ifCond .ne 5, 3) := by decide +kernel
theorem dX5_read_11 : decode cX5_read 11 = .ok (.iconst (-1), 1) := by decide +kernel
theorem dX5_read_12 : decode cX5_read 12 = .ok (.ireturn, 1) := by decide +kernel
theorem dX5_read_13 : decode cX5_read 13 = .ok (.aload_n 0, 1) := by decide +kernel
theorem dX5_read_14 : decode cX5_read 14 = .ok (.getfield 52, 3) := by decide +kernel
theorem dX5_read_17 : decode cX5_read 17 = .ok (.aload_n 0, 1) := by decide +kernel
theorem dX5_read_18 : decode cX5_read 18 = .ok (.getfield 43, 3) := by decide +kernel
theorem dX5_read_21 : decode cX5_read 21 = .ok (.aload_n 0, 1) := by decide +kernel
theorem dX5_read_22 : decode cX5_read 22 = .ok (.getfield 13, 3) := by decide +kernel
theorem dX5_read_25 : decode cX5_read 25 = .ok (.invokevirtual 77, 3) := by decide +kernel
theorem dX5_read_28 : decode cX5_read 28 = .ok (.istore_n 2, 1) := by decide +kernel
theorem dX5_read_29 : decode cX5_read 29 = .ok (.aload_n 0, 1) := by decide +kernel
theorem dX5_read_30 : decode cX5_read 30 = .ok (.iconst 0, 1) := by decide +kernel
theorem dX5_read_31 : decode cX5_read 31 = .ok (.putfield 13, 3) := by decide +kernel
theorem dX5_read_34 : decode cX5_read 34 = .ok (.iload_n 2, 1) := by decide +kernel
theorem dX5_read_35 : decode cX5_read 35 = .ok (.ifCond .eq 16, 3) := by decide +kernel
theorem dX5_read_38 : decode cX5_read 38 = .ok (.aload_n 0, 1) := by decide +kernel
theorem dX5_read_39 : decode cX5_read 39 = .ok (.aload_n 0, 1) := by decide +kernel
theorem dX5_read_40 : decode cX5_read 40 = .ok (.getfield 52, 3) := by decide +kernel
theorem dX5_read_43 : decode cX5_read 43 = .ok (.getfield 81, 3) := by decide +kernel
theorem dX5_read_46 : decode cX5_read 46 = .ok (.putfield 17, 3) := by decide +kernel
theorem dX5_read_49 : decode cX5_read 49 = .ok (.iload_n 2, 1) := by decide +kernel
theorem dX5_read_50 : decode cX5_read 50 = .ok (.ireturn, 1) := by decide +kernel
theorem dX5_read_51 : decode cX5_read 51 = .ok (.aload_n 0, 1) := by decide +kernel
theorem dX5_read_52 : decode cX5_read 52 = .ok (.iconst (-1), 1) := by decide +kernel
theorem dX5_read_53 : decode cX5_read 53 = .ok (.putfield 17, 3) := by decide +kernel
theorem dX5_read_56 : decode cX5_read 56 = .ok (.aload_n 0, 1) := by decide +kernel
theorem dX5_read_57 : decode cX5_read 57 = .ok (.getfield 38, 3) := by decide +kernel
theorem dX5_read_60 : decode cX5_read 60 = .ok (.iload_n 1, 1) := by decide +kernel
theorem dX5_read_61 : decode cX5_read 61 = .ok (.aaload, 1) := by decide +kernel
theorem dX5_read_62 : decode cX5_read 62 = .ok (.astore_n 3, 1) := by decide +kernel
theorem dX5_read_63 : decode cX5_read 63 = .ok (.aload_n 0, 1) := by decide +kernel
theorem dX5_read_64 : decode cX5_read 64 = .ok (.getfield 38, 3) := by decide +kernel
theorem dX5_read_67 : decode cX5_read 67 = .ok (.iload_n 1, 1) := by decide +kernel
theorem dX5_read_68 : decode cX5_read 68 = .ok (.aload_n 0, 1) := by decide +kernel
theorem dX5_read_69 : decode cX5_read 69 = .ok (.getfield 43, 3) := by decide +kernel
theorem dX5_read_72 : decode cX5_read 72 = .ok (.aastore, 1) := by decide +kernel
theorem dX5_read_73 : decode cX5_read 73 = .ok (.aload_n 0, 1) := by decide +kernel
theorem dX5_read_74 : decode cX5_read 74 = .ok (.aload_n 3, 1) := by decide +kernel
theorem dX5_read_75 : decode cX5_read 75 = .ok (.putfield 43, 3) := by decide +kernel
theorem dX5_read_78 : decode cX5_read 78 = .ok (.aload_n 0, 1) := by decide +kernel
theorem dX5_read_79 : decode cX5_read 79 = .ok (.invokevirtual 84, 3) := by decide +kernel
theorem dX5_read_82 : decode cX5_read 82 = .ok (.iconst 0, 1) := by decide +kernel
theorem dX5_read_83 : decode cX5_read 83 = .ok (.ireturn, 1) := by decide +kernel
theorem dX5_place_0 : decode cX5_place 0 = .ok (.aload_n 0, 1) := by decide +kernel
theorem dX5_place_1 : decode cX5_place 1 = .ok (.getfield 17, 3) := by decide +kernel
theorem dX5_place_4 : decode cX5_place 4 = .ok (.ireturn, 1) := by decide +kernel
set_option maxRecDepth 20000 in
theorem ggX5_moon_X5_forgetAnswers : GoodIn wsX5_moon wsX5_forgetAnswers := goodIn_r _ [8, 9, 10, 11, 12, 13, 14, 15, 16, 17, 18, 19, 20, 21, 22, 31, 32, 33, 34, 35, 36, 37, 38, 39, 40, 41, 42, 43, 44, 45, 46, 47, 48, 49] (by decide +kernel) (by decide +kernel)
set_option maxRecDepth 20000 in
theorem gX5_moon_X5_forgetAnswers : GoodIn wsX5_moon (wsV RX5 84 RX5 yX5_forgetAnswers wsX5_forgetAnswers) := goodIn_app (goodIn_of _ (by decide +kernel)) ggX5_moon_X5_forgetAnswers
theorem dX5_moon_0 : decode cX5_moon 0 = .ok (.aload_n 0, 1) := by decide +kernel
theorem dX5_moon_1 : decode cX5_moon 1 = .ok (.getfield 23, 3) := by decide +kernel
theorem dX5_moon_4 : decode cX5_moon 4 = .ok (.getfield 87, 3) := by decide +kernel
theorem dX5_moon_7 : decode cX5_moon 7 = .ok (.istore_n 2, 1) := by decide +kernel
theorem dX5_moon_8 : decode cX5_moon 8 = .ok (.iload_n 2, 1) := by decide +kernel
theorem dX5_moon_9 : decode cX5_moon 9 = .ok (.bipush 14, 2) := by decide +kernel
theorem dX5_moon_11 : decode cX5_moon 11 = .ok (.if_icmp .ge 14, 3) := by decide +kernel
theorem dX5_moon_14 : decode cX5_moon 14 = .ok (.iload_n 1, 1) := by decide +kernel
theorem dX5_moon_15 : decode cX5_moon 15 = .ok (.ifCond .lt 10, 3) := by decide +kernel
theorem dX5_moon_18 : decode cX5_moon 18 = .ok (.iload_n 1, 1) := by decide +kernel
theorem dX5_moon_19 : decode cX5_moon 19 = .ok (.sipush 10000, 3) := by decide +kernel
theorem dX5_moon_22 : decode cX5_moon 22 = .ok (.if_icmp .lt 5, 3) := by decide +kernel
theorem dX5_moon_25 : decode cX5_moon 25 = .ok (.iconst (-1), 1) := by decide +kernel
theorem dX5_moon_26 : decode cX5_moon 26 = .ok (.ireturn, 1) := by decide +kernel
theorem dX5_moon_27 : decode cX5_moon 27 = .ok (.iload_n 2, 1) := by decide +kernel
theorem dX5_moon_28 : decode cX5_moon 28 = .ok (.ifCond .le 20, 3) := by decide +kernel
theorem dX5_moon_31 : decode cX5_moon 31 = .ok (.iload_n 1, 1) := by decide +kernel
theorem dX5_moon_32 : decode cX5_moon 32 = .ok (.aload_n 0, 1) := by decide +kernel
theorem dX5_moon_33 : decode cX5_moon 33 = .ok (.getfield 23, 3) := by decide +kernel
theorem dX5_moon_36 : decode cX5_moon 36 = .ok (.getfield 90, 3) := by decide +kernel
theorem dX5_moon_39 : decode cX5_moon 39 = .ok (.iload_n 2, 1) := by decide +kernel
theorem dX5_moon_40 : decode cX5_moon 40 = .ok (.iconst 1, 1) := by decide +kernel
theorem dX5_moon_41 : decode cX5_moon 41 = .ok (.isub, 1) := by decide +kernel
theorem dX5_moon_42 : decode cX5_moon 42 = .ok (.iaload, 1) := by decide +kernel
theorem dX5_moon_43 : decode cX5_moon 43 = .ok (.if_icmp .gt 5, 3) := by decide +kernel
theorem dX5_moon_46 : decode cX5_moon 46 = .ok (.iconst (-1), 1) := by decide +kernel
theorem dX5_moon_47 : decode cX5_moon 47 = .ok (.ireturn, 1) := by decide +kernel
theorem dX5_moon_48 : decode cX5_moon 48 = .ok (.aload_n 0, 1) := by decide +kernel
theorem dX5_moon_49 : decode cX5_moon 49 = .ok (.getfield 23, 3) := by decide +kernel
theorem dX5_moon_52 : decode cX5_moon 52 = .ok (.getfield 90, 3) := by decide +kernel
theorem dX5_moon_55 : decode cX5_moon 55 = .ok (.iload_n 2, 1) := by decide +kernel
theorem dX5_moon_56 : decode cX5_moon 56 = .ok (.iload_n 1, 1) := by decide +kernel
theorem dX5_moon_57 : decode cX5_moon 57 = .ok (.iastore, 1) := by decide +kernel
theorem dX5_moon_58 : decode cX5_moon 58 = .ok (.aload_n 0, 1) := by decide +kernel
theorem dX5_moon_59 : decode cX5_moon 59 = .ok (.getfield 23, 3) := by decide +kernel
theorem dX5_moon_62 : decode cX5_moon 62 = .ok (.iload_n 2, 1) := by decide +kernel
theorem dX5_moon_63 : decode cX5_moon 63 = .ok (.iconst 1, 1) := by decide +kernel
theorem dX5_moon_64 : decode cX5_moon 64 = .ok (.iadd, 1) := by decide +kernel
theorem dX5_moon_65 : decode cX5_moon 65 = .ok (.putfield 87, 3) := by decide +kernel
theorem dX5_moon_68 : decode cX5_moon 68 = .ok (.aload_n 0, 1) := by decide +kernel
theorem dX5_moon_69 : decode cX5_moon 69 = .ok (.invokevirtual 84, 3) := by decide +kernel
theorem dX5_moon_72 : decode cX5_moon 72 = .ok (.iload_n 2, 1) := by decide +kernel
theorem dX5_moon_73 : decode cX5_moon 73 = .ok (.ireturn, 1) := by decide +kernel
set_option maxRecDepth 20000 in
theorem ggX5_land_X5_isEvening : GoodIn wsX5_land wsX5_isEvening := goodIn_r _ [8] (by decide +kernel) (by decide +kernel)
set_option maxRecDepth 20000 in
theorem gX5_land_X5_isEvening : GoodIn wsX5_land (va_wsS RX5 96 yX5_isEvening wsX5_isEvening) := goodIn_app (goodIn_of _ (by decide +kernel)) ggX5_land_X5_isEvening
set_option maxRecDepth 20000 in
theorem ggX5_land_X5_forgetAnswers : GoodIn wsX5_land wsX5_forgetAnswers := goodIn_r _ [12, 13, 14, 15, 16, 17, 18, 19, 20, 21, 22, 23, 24, 25, 26, 35, 36, 37, 38, 39, 40, 41, 42, 43, 44, 45, 46, 47, 48, 49, 50, 51, 52, 53] (by decide +kernel) (by decide +kernel)
set_option maxRecDepth 20000 in
theorem gX5_land_X5_forgetAnswers : GoodIn wsX5_land (wsV RX5 84 RX5 yX5_forgetAnswers wsX5_forgetAnswers) := goodIn_app (goodIn_of _ (by decide +kernel)) ggX5_land_X5_forgetAnswers
theorem dX5_land_0 : decode cX5_land 0 = .ok (.aload_n 0, 1) := by decide +kernel
theorem dX5_land_1 : decode cX5_land 1 = .ok (.getfield 23, 3) := by decide +kernel
theorem dX5_land_4 : decode cX5_land 4 = .ok (.getfield 93, 3) := by decide +kernel
theorem dX5_land_7 : decode cX5_land 7 = .ok (.istore_n 3, 1) := by decide +kernel
theorem dX5_land_8 : decode cX5_land 8 = .ok (.iload_n 3, 1) := by decide +kernel
theorem dX5_land_9 : decode cX5_land 9 = .ok (.bipush 6, 2) := by decide +kernel
theorem dX5_land_11 : decode cX5_land 11 = .ok (.if_icmp .ge 22, 3) := by decide +kernel
theorem dX5_land_14 : decode cX5_land 14 = .ok (.iload_n 1, 1) := by decide +kernel
theorem dX5_land_15 : decode cX5_land 15 = .ok (.bipush (-12), 2) := by decide +kernel
theorem dX5_land_17 : decode cX5_land 17 = .ok (.if_icmp .lt 16, 3) := by decide +kernel
theorem dX5_land_20 : decode cX5_land 20 = .ok (.iload_n 1, 1) := by decide +kernel
theorem dX5_land_21 : decode cX5_land 21 = .ok (.bipush 12, 2) := by decide +kernel
theorem dX5_land_23 : decode cX5_land 23 = .ok (.if_icmp .gt 10, 3) := by decide +kernel
theorem dX5_land_26 : decode cX5_land 26 = .ok (.iload_n 2, 1) := by decide +kernel
theorem dX5_land_27 : decode cX5_land 27 = .ok (.invokestatic 96, 3) := by decide +kernel
theorem dX5_land_30 : decode cX5_land 30 = .ok (.ifCond .ne 5, 3) := by decide +kernel
theorem dX5_land_33 : decode cX5_land 33 = .ok (.iconst (-1), 1) := by decide +kernel
theorem dX5_land_34 : decode cX5_land 34 = .ok (.ireturn, 1) := by decide +kernel
theorem dX5_land_35 : decode cX5_land 35 = .ok (.aload_n 0, 1) := by decide +kernel
theorem dX5_land_36 : decode cX5_land 36 = .ok (.getfield 23, 3) := by decide +kernel
theorem dX5_land_39 : decode cX5_land 39 = .ok (.getfield 99, 3) := by decide +kernel
theorem dX5_land_42 : decode cX5_land 42 = .ok (.iload_n 3, 1) := by decide +kernel
theorem dX5_land_43 : decode cX5_land 43 = .ok (.iload_n 1, 1) := by decide +kernel
theorem dX5_land_44 : decode cX5_land 44 = .ok (.iastore, 1) := by decide +kernel
theorem dX5_land_45 : decode cX5_land 45 = .ok (.aload_n 0, 1) := by decide +kernel
theorem dX5_land_46 : decode cX5_land 46 = .ok (.getfield 23, 3) := by decide +kernel
theorem dX5_land_49 : decode cX5_land 49 = .ok (.getfield 102, 3) := by decide +kernel
theorem dX5_land_52 : decode cX5_land 52 = .ok (.iload_n 3, 1) := by decide +kernel
theorem dX5_land_53 : decode cX5_land 53 = .ok (.iload_n 2, 1) := by decide +kernel
theorem dX5_land_54 : decode cX5_land 54 = .ok (.iastore, 1) := by decide +kernel
theorem dX5_land_55 : decode cX5_land 55 = .ok (.aload_n 0, 1) := by decide +kernel
theorem dX5_land_56 : decode cX5_land 56 = .ok (.getfield 23, 3) := by decide +kernel
theorem dX5_land_59 : decode cX5_land 59 = .ok (.iload_n 3, 1) := by decide +kernel
theorem dX5_land_60 : decode cX5_land 60 = .ok (.iconst 1, 1) := by decide +kernel
theorem dX5_land_61 : decode cX5_land 61 = .ok (.iadd, 1) := by decide +kernel
theorem dX5_land_62 : decode cX5_land 62 = .ok (.putfield 93, 3) := by decide +kernel
theorem dX5_land_65 : decode cX5_land 65 = .ok (.aload_n 0, 1) := by decide +kernel
theorem dX5_land_66 : decode cX5_land 66 = .ok (.invokevirtual 84, 3) := by decide +kernel
theorem dX5_land_69 : decode cX5_land 69 = .ok (.iload_n 3, 1) := by decide +kernel
theorem dX5_land_70 : decode cX5_land 70 = .ok (.ireturn, 1) := by decide +kernel
set_option maxRecDepth 20000 in
theorem ggX5_table_X4_isLand : GoodIn wsX5_table wsX4_isLand := goodIn_r _ [8, 9, 33, 34, 35, 36, 37, 38, 39, 40] (by decide +kernel) (by decide +kernel)
set_option maxRecDepth 20000 in
theorem gX5_table_X4_isLand : GoodIn wsX5_table (wsV RX5 73 RX4 yX4_isLand wsX4_isLand) := goodIn_app (goodIn_of _ (by decide +kernel)) ggX5_table_X4_isLand
set_option maxRecDepth 20000 in
theorem ggX5_table_J7_fill_031fb : GoodIn wsX5_table wsJ7_fill_031fb := goodIn_r _ [13] (by decide +kernel) (by decide +kernel)
set_option maxRecDepth 20000 in
theorem gX5_table_J7_fill_031fb : GoodIn wsX5_table (va_wsS RX5 109 yJ7_fill_031fb wsJ7_fill_031fb) := goodIn_app (goodIn_of _ (by decide +kernel)) ggX5_table_J7_fill_031fb
set_option maxRecDepth 20000 in
theorem ggX5_table_X5_forgetAnswers : GoodIn wsX5_table wsX5_forgetAnswers := goodIn_r _ [18, 19, 20, 21, 22, 23, 24, 25, 26, 27, 28, 29, 30, 31, 32, 41, 42, 43, 44, 45, 46, 47, 48, 49, 50, 51, 52, 53, 54, 55, 56, 57, 58, 59] (by decide +kernel) (by decide +kernel)
set_option maxRecDepth 20000 in
theorem gX5_table_X5_forgetAnswers : GoodIn wsX5_table (wsV RX5 84 RX5 yX5_forgetAnswers wsX5_forgetAnswers) := goodIn_app (goodIn_of _ (by decide +kernel)) ggX5_table_X5_forgetAnswers
theorem dX5_table_0 : decode cX5_table 0 = .ok (.aload_n 0, 1) := by decide +kernel
theorem dX5_table_1 : decode cX5_table 1 = .ok (.getfield 23, 3) := by decide +kernel
theorem dX5_table_4 : decode cX5_table 4 = .ok (.iload_n 1, 1) := by decide +kernel
theorem dX5_table_5 : decode cX5_table 5 = .ok (.invokevirtual 73, 3) := by decide +kernel
theorem dX5_table_8 : decode cX5_table 8 = .ok (.ifCond .eq 18, 3) := by decide +kernel
theorem dX5_table_11 : decode cX5_table 11 = .ok (.iload_n 2, 1) := by decide +kernel
theorem dX5_table_12 : decode cX5_table 12 = .ok (.ifCond .eq 14, 3) := by decide +kernel
theorem dX5_table_15 : decode cX5_table 15 = .ok (.iload_n 2, 1) := by decide +kernel
theorem dX5_table_16 : decode cX5_table 16 = .ok (.iconst (-1), 1) := by decide +kernel
theorem dX5_table_17 : decode cX5_table 17 = .ok (.if_icmp .lt 9, 3) := by decide +kernel
theorem dX5_table_20 : decode cX5_table 20 = .ok (.iload_n 2, 1) := by decide +kernel
theorem dX5_table_21 : decode cX5_table 21 = .ok (.bipush 60, 2) := by decide +kernel
theorem dX5_table_23 : decode cX5_table 23 = .ok (.if_icmp .le 5, 3) := by decide +kernel
theorem dX5_table_26 : decode cX5_table 26 = .ok (.iconst 0, 1) := by decide +kernel
theorem dX5_table_27 : decode cX5_table 27 = .ok (.ireturn, 1) := by decide +kernel
theorem dX5_table_28 : decode cX5_table 28 = .ok (.aload_n 0, 1) := by decide +kernel
theorem dX5_table_29 : decode cX5_table 29 = .ok (.getfield 23, 3) := by decide +kernel
theorem dX5_table_32 : decode cX5_table 32 = .ok (.getfield 105, 3) := by decide +kernel
theorem dX5_table_35 : decode cX5_table 35 = .ok (.iload_n 1, 1) := by decide +kernel
theorem dX5_table_36 : decode cX5_table 36 = .ok (.aaload, 1) := by decide +kernel
theorem dX5_table_37 : decode cX5_table 37 = .ok (.iconst 0, 1) := by decide +kernel
theorem dX5_table_38 : decode cX5_table 38 = .ok (.invokestatic 109, 3) := by decide +kernel
theorem dX5_table_41 : decode cX5_table 41 = .ok (.aload_n 0, 1) := by decide +kernel
theorem dX5_table_42 : decode cX5_table 42 = .ok (.getfield 23, 3) := by decide +kernel
theorem dX5_table_45 : decode cX5_table 45 = .ok (.getfield 115, 3) := by decide +kernel
theorem dX5_table_48 : decode cX5_table 48 = .ok (.iload_n 1, 1) := by decide +kernel
theorem dX5_table_49 : decode cX5_table 49 = .ok (.iload_n 2, 1) := by decide +kernel
theorem dX5_table_50 : decode cX5_table 50 = .ok (.iconst (-1), 1) := by decide +kernel
theorem dX5_table_51 : decode cX5_table 51 = .ok (.if_icmp .ne 7, 3) := by decide +kernel
theorem dX5_table_54 : decode cX5_table 54 = .ok (.iconst 0, 1) := by decide +kernel
theorem dX5_table_55 : decode cX5_table 55 = .ok (.goto 4, 3) := by decide +kernel
theorem dX5_table_58 : decode cX5_table 58 = .ok (.iload_n 2, 1) := by decide +kernel
theorem dX5_table_59 : decode cX5_table 59 = .ok (.iastore, 1) := by decide +kernel
theorem dX5_table_60 : decode cX5_table 60 = .ok (.aload_n 0, 1) := by decide +kernel
theorem dX5_table_61 : decode cX5_table 61 = .ok (.invokevirtual 84, 3) := by decide +kernel
theorem dX5_table_64 : decode cX5_table 64 = .ok (.iconst 1, 1) := by decide +kernel
theorem dX5_table_65 : decode cX5_table 65 = .ok (.ireturn, 1) := by decide +kernel
set_option maxRecDepth 20000 in
theorem ggX5_cell_X4_isLand : GoodIn wsX5_cell wsX4_isLand := goodIn_r _ [8, 9, 29, 30, 31, 32, 33, 34, 35, 36] (by decide +kernel) (by decide +kernel)
set_option maxRecDepth 20000 in
theorem gX5_cell_X4_isLand : GoodIn wsX5_cell (wsV RX5 73 RX4 yX4_isLand wsX4_isLand) := goodIn_app (goodIn_of _ (by decide +kernel)) ggX5_cell_X4_isLand
set_option maxRecDepth 20000 in
theorem ggX5_cell_X5_forgetAnswers : GoodIn wsX5_cell wsX5_forgetAnswers := goodIn_r _ [14, 15, 16, 17, 18, 19, 20, 21, 22, 23, 24, 25, 26, 27, 28, 37, 38, 39, 40, 41, 42, 43, 44, 45, 46, 47, 48, 49, 50, 51, 52, 53, 54, 55] (by decide +kernel) (by decide +kernel)
set_option maxRecDepth 20000 in
theorem gX5_cell_X5_forgetAnswers : GoodIn wsX5_cell (wsV RX5 84 RX5 yX5_forgetAnswers wsX5_forgetAnswers) := goodIn_app (goodIn_of _ (by decide +kernel)) ggX5_cell_X5_forgetAnswers
theorem dX5_cell_0 : decode cX5_cell 0 = .ok (.aload_n 0, 1) := by decide +kernel
theorem dX5_cell_1 : decode cX5_cell 1 = .ok (.getfield 23, 3) := by decide +kernel
theorem dX5_cell_4 : decode cX5_cell 4 = .ok (.iload_n 1, 1) := by decide +kernel
theorem dX5_cell_5 : decode cX5_cell 5 = .ok (.invokevirtual 73, 3) := by decide +kernel
theorem dX5_cell_8 : decode cX5_cell 8 = .ok (.ifCond .eq 20, 3) := by decide +kernel
theorem dX5_cell_11 : decode cX5_cell 11 = .ok (.iload_n 2, 1) := by decide +kernel
theorem dX5_cell_12 : decode cX5_cell 12 = .ok (.ifCond .lt 16, 3) := by decide +kernel
theorem dX5_cell_15 : decode cX5_cell 15 = .ok (.iload_n 2, 1) := by decide +kernel
theorem dX5_cell_16 : decode cX5_cell 16 = .ok (.aload_n 0, 1) := by decide +kernel
theorem dX5_cell_17 : decode cX5_cell 17 = .ok (.getfield 23, 3) := by decide +kernel
theorem dX5_cell_20 : decode cX5_cell 20 = .ok (.getfield 115, 3) := by decide +kernel
theorem dX5_cell_23 : decode cX5_cell 23 = .ok (.iload_n 1, 1) := by decide +kernel
theorem dX5_cell_24 : decode cX5_cell 24 = .ok (.iaload, 1) := by decide +kernel
theorem dX5_cell_25 : decode cX5_cell 25 = .ok (.if_icmp .lt 5, 3) := by decide +kernel
theorem dX5_cell_28 : decode cX5_cell 28 = .ok (.iconst 0, 1) := by decide +kernel
theorem dX5_cell_29 : decode cX5_cell 29 = .ok (.ireturn, 1) := by decide +kernel
theorem dX5_cell_30 : decode cX5_cell 30 = .ok (.iload_n 3, 1) := by decide +kernel
theorem dX5_cell_31 : decode cX5_cell 31 = .ok (.ifCond .lt 8, 3) := by decide +kernel
theorem dX5_cell_34 : decode cX5_cell 34 = .ok (.iload_n 3, 1) := by decide +kernel
theorem dX5_cell_35 : decode cX5_cell 35 = .ok (.iconst 2, 1) := by decide +kernel
theorem dX5_cell_36 : decode cX5_cell 36 = .ok (.if_icmp .le 5, 3) := by decide +kernel
theorem dX5_cell_39 : decode cX5_cell 39 = .ok (.iconst 0, 1) := by decide +kernel
theorem dX5_cell_40 : decode cX5_cell 40 = .ok (.ireturn, 1) := by decide +kernel
theorem dX5_cell_41 : decode cX5_cell 41 = .ok (.aload_n 0, 1) := by decide +kernel
theorem dX5_cell_42 : decode cX5_cell 42 = .ok (.getfield 23, 3) := by decide +kernel
theorem dX5_cell_45 : decode cX5_cell 45 = .ok (.getfield 105, 3) := by decide +kernel
theorem dX5_cell_48 : decode cX5_cell 48 = .ok (.iload_n 1, 1) := by decide +kernel
theorem dX5_cell_49 : decode cX5_cell 49 = .ok (.aaload, 1) := by decide +kernel
theorem dX5_cell_50 : decode cX5_cell 50 = .ok (.iload_n 2, 1) := by decide +kernel
theorem dX5_cell_51 : decode cX5_cell 51 = .ok (.iload_n 3, 1) := by decide +kernel
theorem dX5_cell_52 : decode cX5_cell 52 = .ok (.i2b, 1) := by decide +kernel
theorem dX5_cell_53 : decode cX5_cell 53 = .ok (.bastore, 1) := by decide +kernel
theorem dX5_cell_54 : decode cX5_cell 54 = .ok (.aload_n 0, 1) := by decide +kernel
theorem dX5_cell_55 : decode cX5_cell 55 = .ok (.invokevirtual 84, 3) := by decide +kernel
theorem dX5_cell_58 : decode cX5_cell 58 = .ok (.iconst 1, 1) := by decide +kernel
theorem dX5_cell_59 : decode cX5_cell 59 = .ok (.ireturn, 1) := by decide +kernel
set_option maxRecDepth 20000 in
theorem ggX5_travel_X4_isLand : GoodIn wsX5_travel wsX4_isLand := goodIn_r _ [8, 9, 29, 30, 31, 32, 33, 34, 35, 36] (by decide +kernel) (by decide +kernel)
set_option maxRecDepth 20000 in
theorem gX5_travel_X4_isLand : GoodIn wsX5_travel (wsV RX5 73 RX4 yX4_isLand wsX4_isLand) := goodIn_app (goodIn_of _ (by decide +kernel)) ggX5_travel_X4_isLand
set_option maxRecDepth 20000 in
theorem ggX5_travel_X5_forgetAnswers : GoodIn wsX5_travel wsX5_forgetAnswers := goodIn_r _ [14, 15, 16, 17, 18, 19, 20, 21, 22, 23, 24, 25, 26, 27, 28, 37, 38, 39, 40, 41, 42, 43, 44, 45, 46, 47, 48, 49, 50, 51, 52, 53, 54, 55] (by decide +kernel) (by decide +kernel)
set_option maxRecDepth 20000 in
theorem gX5_travel_X5_forgetAnswers : GoodIn wsX5_travel (wsV RX5 84 RX5 yX5_forgetAnswers wsX5_forgetAnswers) := goodIn_app (goodIn_of _ (by decide +kernel)) ggX5_travel_X5_forgetAnswers
theorem dX5_travel_0 : decode cX5_travel 0 = .ok (.aload_n 0, 1) := by decide +kernel
theorem dX5_travel_1 : decode cX5_travel 1 = .ok (.getfield 23, 3) := by decide +kernel
theorem dX5_travel_4 : decode cX5_travel 4 = .ok (.iload_n 1, 1) := by decide +kernel
theorem dX5_travel_5 : decode cX5_travel 5 = .ok (.invokevirtual 73, 3) := by decide +kernel
theorem dX5_travel_8 : decode cX5_travel 8 = .ok (.ifCond .eq 19, 3) := by decide +kernel
theorem dX5_travel_11 : decode cX5_travel 11 = .ok (.aload_n 0, 1) := by decide +kernel
theorem dX5_travel_12 : decode cX5_travel 12 = .ok (.getfield 23, 3) := by decide +kernel
theorem dX5_travel_15 : decode cX5_travel 15 = .ok (.iload_n 2, 1) := by decide +kernel
theorem dX5_travel_16 : decode cX5_travel 16 = .ok (.invokevirtual 73, 3) := by decide +kernel
theorem dX5_travel_19 : decode cX5_travel 19 = .ok (.ifCond .eq 8, 3) := by decide +kernel
theorem dX5_travel_22 : decode cX5_travel 22 = .ok (.iload_n 1, 1) := by decide +kernel
theorem dX5_travel_23 : decode cX5_travel 23 = .ok (.iload_n 2, 1) := by decide +kernel
theorem dX5_travel_24 : decode cX5_travel 24 = .ok (.if_icmp .ne 5, 3) := by decide +kernel
theorem dX5_travel_27 : decode cX5_travel 27 = .ok (.iconst 0, 1) := by decide +kernel
theorem dX5_travel_28 : decode cX5_travel 28 = .ok (.ireturn, 1) := by decide +kernel
theorem dX5_travel_29 : decode cX5_travel 29 = .ok (.iload_n 3, 1) := by decide +kernel
theorem dX5_travel_30 : decode cX5_travel 30 = .ok (.iconst (-1), 1) := by decide +kernel
theorem dX5_travel_31 : decode cX5_travel 31 = .ok (.if_icmp .lt 9, 3) := by decide +kernel
theorem dX5_travel_34 : decode cX5_travel 34 = .ok (.iload_n 3, 1) := by decide +kernel
theorem dX5_travel_35 : decode cX5_travel 35 = .ok (.bipush 60, 2) := by decide +kernel
theorem dX5_travel_37 : decode cX5_travel 37 = .ok (.if_icmp .le 5, 3) := by decide +kernel
theorem dX5_travel_40 : decode cX5_travel 40 = .ok (.iconst 0, 1) := by decide +kernel
theorem dX5_travel_41 : decode cX5_travel 41 = .ok (.ireturn, 1) := by decide +kernel
theorem dX5_travel_42 : decode cX5_travel 42 = .ok (.aload_n 0, 1) := by decide +kernel
theorem dX5_travel_43 : decode cX5_travel 43 = .ok (.getfield 23, 3) := by decide +kernel
theorem dX5_travel_46 : decode cX5_travel 46 = .ok (.getfield 118, 3) := by decide +kernel
theorem dX5_travel_49 : decode cX5_travel 49 = .ok (.iload_n 1, 1) := by decide +kernel
theorem dX5_travel_50 : decode cX5_travel 50 = .ok (.aaload, 1) := by decide +kernel
theorem dX5_travel_51 : decode cX5_travel 51 = .ok (.iload_n 2, 1) := by decide +kernel
theorem dX5_travel_52 : decode cX5_travel 52 = .ok (.iload_n 3, 1) := by decide +kernel
theorem dX5_travel_53 : decode cX5_travel 53 = .ok (.iconst (-1), 1) := by decide +kernel
theorem dX5_travel_54 : decode cX5_travel 54 = .ok (.if_icmp .ne 8, 3) := by decide +kernel
theorem dX5_travel_57 : decode cX5_travel 57 = .ok (.ldc 122, 2) := by decide +kernel
theorem dX5_travel_59 : decode cX5_travel 59 = .ok (.goto 4, 3) := by decide +kernel
theorem dX5_travel_62 : decode cX5_travel 62 = .ok (.iload_n 3, 1) := by decide +kernel
theorem dX5_travel_63 : decode cX5_travel 63 = .ok (.iastore, 1) := by decide +kernel
theorem dX5_travel_64 : decode cX5_travel 64 = .ok (.aload_n 0, 1) := by decide +kernel
theorem dX5_travel_65 : decode cX5_travel 65 = .ok (.invokevirtual 84, 3) := by decide +kernel
theorem dX5_travel_68 : decode cX5_travel 68 = .ok (.iconst 1, 1) := by decide +kernel
theorem dX5_travel_69 : decode cX5_travel 69 = .ok (.ireturn, 1) := by decide +kernel
set_option maxRecDepth 20000 in
theorem ggX5_witness_X4_isLand : GoodIn wsX5_witness wsX4_isLand := goodIn_r _ [9, 10, 30, 31, 32, 33, 34, 35, 36, 37] (by decide +kernel) (by decide +kernel)
set_option maxRecDepth 20000 in
theorem gX5_witness_X4_isLand : GoodIn wsX5_witness (wsV RX5 73 RX4 yX4_isLand wsX4_isLand) := goodIn_app (goodIn_of _ (by decide +kernel)) ggX5_witness_X4_isLand
theorem dX5_witness_0 : decode cX5_witness 0 = .ok (.aload_n 0, 1) := by decide +kernel
theorem dX5_witness_1 : decode cX5_witness 1 = .ok (.getfield 32, 3) := by decide +kernel
theorem dX5_witness_4 : decode cX5_witness 4 = .ok (.getfield 123, 3) := by decide +kernel
theorem dX5_witness_7 : decode cX5_witness 7 = .ok (.istore_n 2, 1) := by decide +kernel
theorem dX5_witness_8 : decode cX5_witness 8 = .ok (.iload_n 2, 1) := by decide +kernel
theorem dX5_witness_9 : decode cX5_witness 9 = .ok (.bipush 12, 2) := by decide +kernel
theorem dX5_witness_11 : decode cX5_witness 11 = .ok (.if_icmp .ge 14, 3) := by decide +kernel
theorem dX5_witness_14 : decode cX5_witness 14 = .ok (.aload_n 0, 1) := by decide +kernel
theorem dX5_witness_15 : decode cX5_witness 15 = .ok (.getfield 23, 3) := by decide +kernel
theorem dX5_witness_18 : decode cX5_witness 18 = .ok (.iload_n 1, 1) := by decide +kernel
theorem dX5_witness_19 : decode cX5_witness 19 = .ok (.invokevirtual 73, 3) := by decide +kernel
theorem dX5_witness_22 : decode cX5_witness 22 = .ok (.ifCond .ne 5, 3) := by decide +kernel
theorem dX5_witness_25 : decode cX5_witness 25 = .ok (.iconst (-1), 1) := by decide +kernel
theorem dX5_witness_26 : decode cX5_witness 26 = .ok (.ireturn, 1) := by decide +kernel
theorem dX5_witness_27 : decode cX5_witness 27 = .ok (.aload_n 0, 1) := by decide +kernel
theorem dX5_witness_28 : decode cX5_witness 28 = .ok (.getfield 32, 3) := by decide +kernel
theorem dX5_witness_31 : decode cX5_witness 31 = .ok (.getfield 126, 3) := by decide +kernel
theorem dX5_witness_34 : decode cX5_witness 34 = .ok (.iload_n 2, 1) := by decide +kernel
theorem dX5_witness_35 : decode cX5_witness 35 = .ok (.iload_n 1, 1) := by decide +kernel
theorem dX5_witness_36 : decode cX5_witness 36 = .ok (.iastore, 1) := by decide +kernel
theorem dX5_witness_37 : decode cX5_witness 37 = .ok (.aload_n 0, 1) := by decide +kernel
theorem dX5_witness_38 : decode cX5_witness 38 = .ok (.getfield 32, 3) := by decide +kernel
theorem dX5_witness_41 : decode cX5_witness 41 = .ok (.iload_n 2, 1) := by decide +kernel
theorem dX5_witness_42 : decode cX5_witness 42 = .ok (.iconst 1, 1) := by decide +kernel
theorem dX5_witness_43 : decode cX5_witness 43 = .ok (.iadd, 1) := by decide +kernel
theorem dX5_witness_44 : decode cX5_witness 44 = .ok (.putfield 123, 3) := by decide +kernel
theorem dX5_witness_47 : decode cX5_witness 47 = .ok (.iload_n 2, 1) := by decide +kernel
theorem dX5_witness_48 : decode cX5_witness 48 = .ok (.ireturn, 1) := by decide +kernel
set_option maxRecDepth 20000 in
theorem ggX5_report_X0_isWitness : GoodIn wsX5_report wsX0_isWitness := goodIn_r _ [7, 8, 30, 31, 32, 33, 34, 35, 36, 37, 38] (by decide +kernel) (by decide +kernel)
set_option maxRecDepth 20000 in
theorem gX5_report_X0_isWitness : GoodIn wsX5_report (wsV RX5 132 RX0 yX0_isWitness wsX0_isWitness) := goodIn_app (goodIn_of _ (by decide +kernel)) ggX5_report_X0_isWitness
set_option maxRecDepth 20000 in
theorem ggX5_report_X5_isEvening : GoodIn wsX5_report wsX5_isEvening := goodIn_r _ [12] (by decide +kernel) (by decide +kernel)
set_option maxRecDepth 20000 in
theorem gX5_report_X5_isEvening : GoodIn wsX5_report (va_wsS RX5 96 yX5_isEvening wsX5_isEvening) := goodIn_app (goodIn_of _ (by decide +kernel)) ggX5_report_X5_isEvening
set_option maxRecDepth 20000 in
theorem ggX5_report_X0_addReport : GoodIn wsX5_report wsX0_addReport := goodIn_r _ [16, 17, 18, 19, 30, 31, 32, 33, 34, 35, 36, 37, 38] (by decide +kernel) (by decide +kernel)
set_option maxRecDepth 20000 in
theorem gX5_report_X0_addReport : GoodIn wsX5_report (wsV RX5 135 RX0 yX0_addReport wsX0_addReport) := goodIn_app (goodIn_of _ (by decide +kernel)) ggX5_report_X0_addReport
theorem dX5_report_0 : decode cX5_report 0 = .ok (.aload_n 0, 1) := by decide +kernel
theorem dX5_report_1 : decode cX5_report 1 = .ok (.getfield 32, 3) := by decide +kernel
theorem dX5_report_4 : decode cX5_report 4 = .ok (.getfield 129, 3) := by decide +kernel
theorem dX5_report_7 : decode cX5_report 7 = .ok (.sipush 300, 3) := by decide +kernel
theorem dX5_report_10 : decode cX5_report 10 = .ok (.if_icmp .ge 21, 3) := by decide +kernel
theorem dX5_report_13 : decode cX5_report 13 = .ok (.aload_n 0, 1) := by decide +kernel
theorem dX5_report_14 : decode cX5_report 14 = .ok (.getfield 32, 3) := by decide +kernel
theorem dX5_report_17 : decode cX5_report 17 = .ok (.iload_n 1, 1) := by decide +kernel
theorem dX5_report_18 : decode cX5_report 18 = .ok (.invokevirtual 132, 3) := by decide +kernel
theorem dX5_report_21 : decode cX5_report 21 = .ok (.ifCond .eq 10, 3) := by decide +kernel
theorem dX5_report_24 : decode cX5_report 24 = .ok (.iload_n 2, 1) := by decide +kernel
theorem dX5_report_25 : decode cX5_report 25 = .ok (.invokestatic 96, 3) := by decide +kernel
theorem dX5_report_28 : decode cX5_report 28 = .ok (.ifCond .ne 5, 3) := by decide +kernel
theorem dX5_report_31 : decode cX5_report 31 = .ok (.iconst (-1), 1) := by decide +kernel
theorem dX5_report_32 : decode cX5_report 32 = .ok (.ireturn, 1) := by decide +kernel
theorem dX5_report_33 : decode cX5_report 33 = .ok (.aload_n 0, 1) := by decide +kernel
theorem dX5_report_34 : decode cX5_report 34 = .ok (.getfield 32, 3) := by decide +kernel
theorem dX5_report_37 : decode cX5_report 37 = .ok (.iload_n 1, 1) := by decide +kernel
theorem dX5_report_38 : decode cX5_report 38 = .ok (.iload_n 2, 1) := by decide +kernel
theorem dX5_report_39 : decode cX5_report 39 = .ok (.invokevirtual 135, 3) := by decide +kernel
theorem dX5_report_42 : decode cX5_report 42 = .ok (.ireturn, 1) := by decide +kernel
set_option maxRecDepth 20000 in
theorem ggX5_cloud_X4_isLand : GoodIn wsX5_cloud wsX4_isLand := goodIn_r _ [8, 9, 42, 43, 44, 45, 46, 47, 48, 49] (by decide +kernel) (by decide +kernel)
set_option maxRecDepth 20000 in
theorem gX5_cloud_X4_isLand : GoodIn wsX5_cloud (wsV RX5 73 RX4 yX4_isLand wsX4_isLand) := goodIn_app (goodIn_of _ (by decide +kernel)) ggX5_cloud_X4_isLand
set_option maxRecDepth 20000 in
theorem ggX5_cloud_X5_isEvening : GoodIn wsX5_cloud wsX5_isEvening := goodIn_r _ [13] (by decide +kernel) (by decide +kernel)
set_option maxRecDepth 20000 in
theorem gX5_cloud_X5_isEvening : GoodIn wsX5_cloud (va_wsS RX5 96 yX5_isEvening wsX5_isEvening) := goodIn_app (goodIn_of _ (by decide +kernel)) ggX5_cloud_X5_isEvening
set_option maxRecDepth 20000 in
theorem ggX5_cloud_X0_addCloud : GoodIn wsX5_cloud wsX0_addCloud := goodIn_r _ [18, 19, 20, 21, 22, 33, 34, 35, 36, 37, 38, 39, 40, 41] (by decide +kernel) (by decide +kernel)
set_option maxRecDepth 20000 in
theorem gX5_cloud_X0_addCloud : GoodIn wsX5_cloud (wsV RX5 139 RX0 yX0_addCloud wsX0_addCloud) := goodIn_app (goodIn_of _ (by decide +kernel)) ggX5_cloud_X0_addCloud
theorem dX5_cloud_0 : decode cX5_cloud 0 = .ok (.aload_n 0, 1) := by decide +kernel
theorem dX5_cloud_1 : decode cX5_cloud 1 = .ok (.getfield 32, 3) := by decide +kernel
theorem dX5_cloud_4 : decode cX5_cloud 4 = .ok (.getfield 129, 3) := by decide +kernel
theorem dX5_cloud_7 : decode cX5_cloud 7 = .ok (.sipush 300, 3) := by decide +kernel
theorem dX5_cloud_10 : decode cX5_cloud 10 = .ok (.if_icmp .ge 21, 3) := by decide +kernel
theorem dX5_cloud_13 : decode cX5_cloud 13 = .ok (.aload_n 0, 1) := by decide +kernel
theorem dX5_cloud_14 : decode cX5_cloud 14 = .ok (.getfield 23, 3) := by decide +kernel
theorem dX5_cloud_17 : decode cX5_cloud 17 = .ok (.iload_n 1, 1) := by decide +kernel
theorem dX5_cloud_18 : decode cX5_cloud 18 = .ok (.invokevirtual 73, 3) := by decide +kernel
theorem dX5_cloud_21 : decode cX5_cloud 21 = .ok (.ifCond .eq 10, 3) := by decide +kernel
theorem dX5_cloud_24 : decode cX5_cloud 24 = .ok (.iload_n 2, 1) := by decide +kernel
theorem dX5_cloud_25 : decode cX5_cloud 25 = .ok (.invokestatic 96, 3) := by decide +kernel
theorem dX5_cloud_28 : decode cX5_cloud 28 = .ok (.ifCond .ne 5, 3) := by decide +kernel
theorem dX5_cloud_31 : decode cX5_cloud 31 = .ok (.iconst (-1), 1) := by decide +kernel
theorem dX5_cloud_32 : decode cX5_cloud 32 = .ok (.ireturn, 1) := by decide +kernel
theorem dX5_cloud_33 : decode cX5_cloud 33 = .ok (.aload_n 0, 1) := by decide +kernel
theorem dX5_cloud_34 : decode cX5_cloud 34 = .ok (.getfield 32, 3) := by decide +kernel
theorem dX5_cloud_37 : decode cX5_cloud 37 = .ok (.iload_n 1, 1) := by decide +kernel
theorem dX5_cloud_38 : decode cX5_cloud 38 = .ok (.iload_n 2, 1) := by decide +kernel
theorem dX5_cloud_39 : decode cX5_cloud 39 = .ok (.invokevirtual 139, 3) := by decide +kernel
theorem dX5_cloud_42 : decode cX5_cloud 42 = .ok (.ireturn, 1) := by decide +kernel
set_option maxRecDepth 20000 in
theorem ggX5_age_X4_isLand : GoodIn wsX5_age wsX4_isLand := goodIn_r _ [6, 7, 29, 30, 31, 32, 33, 34, 35, 36] (by decide +kernel) (by decide +kernel)
set_option maxRecDepth 20000 in
theorem gX5_age_X4_isLand : GoodIn wsX5_age (wsV RX5 73 RX4 yX4_isLand wsX4_isLand) := goodIn_app (goodIn_of _ (by decide +kernel)) ggX5_age_X4_isLand
set_option maxRecDepth 20000 in
theorem ggX5_age_X5_isEvening : GoodIn wsX5_age wsX5_isEvening := goodIn_r _ [11] (by decide +kernel) (by decide +kernel)
set_option maxRecDepth 20000 in
theorem gX5_age_X5_isEvening : GoodIn wsX5_age (va_wsS RX5 96 yX5_isEvening wsX5_isEvening) := goodIn_app (goodIn_of _ (by decide +kernel)) ggX5_age_X5_isEvening
set_option maxRecDepth 20000 in
theorem ggX5_age_X4_ageOn : GoodIn wsX5_age wsX4_ageOn := goodIn_r _ [15, 16, 17, 18, 29, 30, 31, 32, 33, 34, 35, 36] (by decide +kernel) (by decide +kernel)
set_option maxRecDepth 20000 in
theorem gX5_age_X4_ageOn : GoodIn wsX5_age (wsV RX5 142 RX4 yX4_ageOn wsX4_ageOn) := goodIn_app (goodIn_of _ (by decide +kernel)) ggX5_age_X4_ageOn
theorem dX5_age_0 : decode cX5_age 0 = .ok (.aload_n 0, 1) := by decide +kernel
theorem dX5_age_1 : decode cX5_age 1 = .ok (.getfield 23, 3) := by decide +kernel
theorem dX5_age_4 : decode cX5_age 4 = .ok (.iload_n 1, 1) := by decide +kernel
theorem dX5_age_5 : decode cX5_age 5 = .ok (.invokevirtual 73, 3) := by decide +kernel
theorem dX5_age_8 : decode cX5_age 8 = .ok (.ifCond .eq 10, 3) := by decide +kernel
theorem dX5_age_11 : decode cX5_age 11 = .ok (.iload_n 2, 1) := by decide +kernel
theorem dX5_age_12 : decode cX5_age 12 = .ok (.invokestatic 96, 3) := by decide +kernel
theorem dX5_age_15 : decode cX5_age 15 = .ok (.ifCond .ne 5, 3) := by decide +kernel
theorem dX5_age_18 : decode cX5_age 18 = .ok (.iconst (-1), 1) := by decide +kernel
theorem dX5_age_19 : decode cX5_age 19 = .ok (.ireturn, 1) := by decide +kernel
theorem dX5_age_20 : decode cX5_age 20 = .ok (.aload_n 0, 1) := by decide +kernel
theorem dX5_age_21 : decode cX5_age 21 = .ok (.getfield 23, 3) := by decide +kernel
theorem dX5_age_24 : decode cX5_age 24 = .ok (.iload_n 1, 1) := by decide +kernel
theorem dX5_age_25 : decode cX5_age 25 = .ok (.iload_n 2, 1) := by decide +kernel
theorem dX5_age_26 : decode cX5_age 26 = .ok (.invokevirtual 142, 3) := by decide +kernel
theorem dX5_age_29 : decode cX5_age 29 = .ok (.ireturn, 1) := by decide +kernel
set_option maxRecDepth 20000 in
theorem ggX5_light_X4_isLand : GoodIn wsX5_light wsX4_isLand := goodIn_r _ [6, 7, 39, 40, 41, 42, 43, 44, 45, 46] (by decide +kernel) (by decide +kernel)
set_option maxRecDepth 20000 in
theorem gX5_light_X4_isLand : GoodIn wsX5_light (wsV RX5 73 RX4 yX4_isLand wsX4_isLand) := goodIn_app (goodIn_of _ (by decide +kernel)) ggX5_light_X4_isLand
set_option maxRecDepth 20000 in
theorem ggX5_light_X5_isEvening : GoodIn wsX5_light wsX5_isEvening := goodIn_r _ [11] (by decide +kernel) (by decide +kernel)
set_option maxRecDepth 20000 in
theorem gX5_light_X5_isEvening : GoodIn wsX5_light (va_wsS RX5 96 yX5_isEvening wsX5_isEvening) := goodIn_app (goodIn_of _ (by decide +kernel)) ggX5_light_X5_isEvening
set_option maxRecDepth 20000 in
theorem ggX5_light_X4_lightOn : GoodIn wsX5_light wsX4_lightOn := goodIn_r _ [15, 16, 17, 18, 19, 20, 21, 22, 23, 24, 5, 25, 26, 27, 28, 39, 40, 41, 42, 43, 44, 45, 46] (by decide +kernel) (by decide +kernel)
set_option maxRecDepth 20000 in
theorem gX5_light_X4_lightOn : GoodIn wsX5_light (wsV RX5 145 RX4 yX4_lightOn wsX4_lightOn) := goodIn_app (goodIn_of _ (by decide +kernel)) ggX5_light_X4_lightOn
theorem dX5_light_0 : decode cX5_light 0 = .ok (.aload_n 0, 1) := by decide +kernel
theorem dX5_light_1 : decode cX5_light 1 = .ok (.getfield 23, 3) := by decide +kernel
theorem dX5_light_4 : decode cX5_light 4 = .ok (.iload_n 1, 1) := by decide +kernel
theorem dX5_light_5 : decode cX5_light 5 = .ok (.invokevirtual 73, 3) := by decide +kernel
theorem dX5_light_8 : decode cX5_light 8 = .ok (.ifCond .eq 10, 3) := by decide +kernel
theorem dX5_light_11 : decode cX5_light 11 = .ok (.iload_n 2, 1) := by decide +kernel
theorem dX5_light_12 : decode cX5_light 12 = .ok (.invokestatic 96, 3) := by decide +kernel
theorem dX5_light_15 : decode cX5_light 15 = .ok (.ifCond .ne 5, 3) := by decide +kernel
theorem dX5_light_18 : decode cX5_light 18 = .ok (.iconst (-1), 1) := by decide +kernel
theorem dX5_light_19 : decode cX5_light 19 = .ok (.ireturn, 1) := by decide +kernel
theorem dX5_light_20 : decode cX5_light 20 = .ok (.aload_n 0, 1) := by decide +kernel
theorem dX5_light_21 : decode cX5_light 21 = .ok (.getfield 23, 3) := by decide +kernel
theorem dX5_light_24 : decode cX5_light 24 = .ok (.iload_n 1, 1) := by decide +kernel
theorem dX5_light_25 : decode cX5_light 25 = .ok (.iload_n 2, 1) := by decide +kernel
theorem dX5_light_26 : decode cX5_light 26 = .ok (.invokevirtual 145, 3) := by decide +kernel
theorem dX5_light_29 : decode cX5_light 29 = .ok (.ireturn, 1) := by decide +kernel
set_option maxRecDepth 20000 in
theorem ggX5_verdict_X0_canBeKnownBy : GoodIn wsX5_verdict wsX0_canBeKnownBy := goodIn_r _ [7, 8, 56, 57, 58, 59, 60, 61, 62, 63, 64] (by decide +kernel) (by decide +kernel)
set_option maxRecDepth 20000 in
theorem gX5_verdict_X0_canBeKnownBy : GoodIn wsX5_verdict (wsV RX5 148 RX0 yX0_canBeKnownBy wsX0_canBeKnownBy) := goodIn_app (goodIn_of _ (by decide +kernel)) ggX5_verdict_X0_canBeKnownBy
set_option maxRecDepth 20000 in
theorem ggX5_verdict_X0_judge : GoodIn wsX5_verdict wsX0_judge := goodIn_r _ [12, 13, 14, 15, 16, 17, 18, 6, 19, 20, 21, 22, 23, 24, 25, 26, 27, 28, 29, 30, 31, 32, 33, 34, 35, 36, 37, 38, 39, 40, 41, 42, 43, 44, 45, 56, 57, 58, 59, 60, 61, 62, 63, 64, 65, 66, 67, 68, 69, 70, 71, 72] (by decide +kernel) (by decide +kernel)
set_option maxRecDepth 20000 in
theorem gX5_verdict_X0_judge : GoodIn wsX5_verdict (wsV RX5 151 RX0 yX0_judge wsX0_judge) := goodIn_app (goodIn_of _ (by decide +kernel)) ggX5_verdict_X0_judge
theorem dX5_verdict_0 : decode cX5_verdict 0 = .ok (.aload_n 0, 1) := by decide +kernel
theorem dX5_verdict_1 : decode cX5_verdict 1 = .ok (.getfield 32, 3) := by decide +kernel
theorem dX5_verdict_4 : decode cX5_verdict 4 = .ok (.iload_n 2, 1) := by decide +kernel
theorem dX5_verdict_5 : decode cX5_verdict 5 = .ok (.invokevirtual 148, 3) := by decide +kernel
theorem dX5_verdict_8 : decode cX5_verdict 8 = .ok (.ifCond .eq 12, 3) := by decide +kernel
theorem dX5_verdict_11 : decode cX5_verdict 11 = .ok (.iload_n 1, 1) := by decide +kernel
theorem dX5_verdict_12 : decode cX5_verdict 12 = .ok (.ifCond .lt 8, 3) := by decide +kernel
theorem dX5_verdict_15 : decode cX5_verdict 15 = .ok (.iload_n 1, 1) := by decide +kernel
theorem dX5_verdict_16 : decode cX5_verdict 16 = .ok (.iload_n 2, 1) := by decide +kernel
theorem dX5_verdict_17 : decode cX5_verdict 17 = .ok (.if_icmp .lt 5, 3) := by decide +kernel
theorem dX5_verdict_20 : decode cX5_verdict 20 = .ok (.iconst (-1), 1) := by decide +kernel
theorem dX5_verdict_21 : decode cX5_verdict 21 = .ok (.ireturn, 1) := by decide +kernel
theorem dX5_verdict_22 : decode cX5_verdict 22 = .ok (.aload_n 0, 1) := by decide +kernel
theorem dX5_verdict_23 : decode cX5_verdict 23 = .ok (.getfield 32, 3) := by decide +kernel
theorem dX5_verdict_26 : decode cX5_verdict 26 = .ok (.iload_n 2, 1) := by decide +kernel
theorem dX5_verdict_27 : decode cX5_verdict 27 = .ok (.invokevirtual 151, 3) := by decide +kernel
theorem dX5_verdict_30 : decode cX5_verdict 30 = .ok (.aload_n 0, 1) := by decide +kernel
theorem dX5_verdict_31 : decode cX5_verdict 31 = .ok (.getfield 32, 3) := by decide +kernel
theorem dX5_verdict_34 : decode cX5_verdict 34 = .ok (.getfield 154, 3) := by decide +kernel
theorem dX5_verdict_37 : decode cX5_verdict 37 = .ok (.iload_n 1, 1) := by decide +kernel
theorem dX5_verdict_38 : decode cX5_verdict 38 = .ok (.iaload, 1) := by decide +kernel
theorem dX5_verdict_39 : decode cX5_verdict 39 = .ok (.ireturn, 1) := by decide +kernel
set_option maxRecDepth 20000 in
theorem ggX5_worth_X0_canBeKnownBy : GoodIn wsX5_worth wsX0_canBeKnownBy := goodIn_r _ [6, 7, 68, 69, 70, 71, 72, 73, 74, 75, 76] (by decide +kernel) (by decide +kernel)
set_option maxRecDepth 20000 in
theorem gX5_worth_X0_canBeKnownBy : GoodIn wsX5_worth (wsV RX5 148 RX0 yX0_canBeKnownBy wsX0_canBeKnownBy) := goodIn_app (goodIn_of _ (by decide +kernel)) ggX5_worth_X0_canBeKnownBy
set_option maxRecDepth 20000 in
theorem ggX5_worth_X0_isWitness : GoodIn wsX5_worth wsX0_isWitness := goodIn_r _ [11, 12, 68, 69, 70, 71, 72, 73, 74, 75, 76] (by decide +kernel) (by decide +kernel)
set_option maxRecDepth 20000 in
theorem gX5_worth_X0_isWitness : GoodIn wsX5_worth (wsV RX5 132 RX0 yX0_isWitness wsX0_isWitness) := goodIn_app (goodIn_of _ (by decide +kernel)) ggX5_worth_X0_isWitness
set_option maxRecDepth 20000 in
theorem ggX5_worth_X5_isEvening : GoodIn wsX5_worth wsX5_isEvening := goodIn_r _ [16] (by decide +kernel) (by decide +kernel)
set_option maxRecDepth 20000 in
theorem gX5_worth_X5_isEvening : GoodIn wsX5_worth (va_wsS RX5 96 yX5_isEvening wsX5_isEvening) := goodIn_app (goodIn_of _ (by decide +kernel)) ggX5_worth_X5_isEvening
set_option maxRecDepth 20000 in
theorem ggX5_worth_X0_judge : GoodIn wsX5_worth wsX0_judge := goodIn_r _ [20, 21, 22, 23, 24, 25, 26, 5, 27, 28, 29, 30, 31, 32, 33, 34, 35, 36, 37, 38, 39, 40, 41, 42, 43, 44, 45, 46, 47, 48, 49, 50, 51, 52, 53, 68, 69, 70, 71, 72, 73, 74, 75, 76, 77, 78, 79, 80, 81, 82, 83, 84] (by decide +kernel) (by decide +kernel)
set_option maxRecDepth 20000 in
theorem gX5_worth_X0_judge : GoodIn wsX5_worth (wsV RX5 151 RX0 yX0_judge wsX0_judge) := goodIn_app (goodIn_of _ (by decide +kernel)) ggX5_worth_X0_judge
set_option maxRecDepth 20000 in
theorem ggX5_worth_X0_worthOn : GoodIn wsX5_worth wsX0_worthOn := goodIn_r _ [57, 21, 23, 29, 22, 68, 69, 70, 71, 72, 73, 74, 75, 76] (by decide +kernel) (by decide +kernel)
set_option maxRecDepth 20000 in
theorem gX5_worth_X0_worthOn : GoodIn wsX5_worth (wsV RX5 157 RX0 yX0_worthOn wsX0_worthOn) := goodIn_app (goodIn_of _ (by decide +kernel)) ggX5_worth_X0_worthOn
theorem dX5_worth_0 : decode cX5_worth 0 = .ok (.aload_n 0, 1) := by decide +kernel
theorem dX5_worth_1 : decode cX5_worth 1 = .ok (.getfield 32, 3) := by decide +kernel
theorem dX5_worth_4 : decode cX5_worth 4 = .ok (.iload_n 3, 1) := by decide +kernel
theorem dX5_worth_5 : decode cX5_worth 5 = .ok (.invokevirtual 148, 3) := by decide +kernel
theorem dX5_worth_8 : decode cX5_worth 8 = .ok (.ifCond .eq 21, 3) := by decide +kernel
theorem dX5_worth_11 : decode cX5_worth 11 = .ok (.aload_n 0, 1) := by decide +kernel
theorem dX5_worth_12 : decode cX5_worth 12 = .ok (.getfield 32, 3) := by decide +kernel
theorem dX5_worth_15 : decode cX5_worth 15 = .ok (.iload_n 1, 1) := by decide +kernel
theorem dX5_worth_16 : decode cX5_worth 16 = .ok (.invokevirtual 132, 3) := by decide +kernel
theorem dX5_worth_19 : decode cX5_worth 19 = .ok (.ifCond .eq 10, 3) := by decide +kernel
theorem dX5_worth_22 : decode cX5_worth 22 = .ok (.iload_n 2, 1) := by decide +kernel
theorem dX5_worth_23 : decode cX5_worth 23 = .ok (.invokestatic 96, 3) := by decide +kernel
theorem dX5_worth_26 : decode cX5_worth 26 = .ok (.ifCond .ne 5, 3) := by decide +kernel
theorem dX5_worth_29 : decode cX5_worth 29 = .ok (.iconst (-1), 1) := by decide +kernel
theorem dX5_worth_30 : decode cX5_worth 30 = .ok (.ireturn, 1) := by decide +kernel
theorem dX5_worth_31 : decode cX5_worth 31 = .ok (.aload_n 0, 1) := by decide +kernel
theorem dX5_worth_32 : decode cX5_worth 32 = .ok (.getfield 32, 3) := by decide +kernel
theorem dX5_worth_35 : decode cX5_worth 35 = .ok (.iload_n 3, 1) := by decide +kernel
theorem dX5_worth_36 : decode cX5_worth 36 = .ok (.invokevirtual 151, 3) := by decide +kernel
theorem dX5_worth_39 : decode cX5_worth 39 = .ok (.aload_n 0, 1) := by decide +kernel
theorem dX5_worth_40 : decode cX5_worth 40 = .ok (.getfield 32, 3) := by decide +kernel
theorem dX5_worth_43 : decode cX5_worth 43 = .ok (.iload_n 1, 1) := by decide +kernel
theorem dX5_worth_44 : decode cX5_worth 44 = .ok (.iload_n 2, 1) := by decide +kernel
theorem dX5_worth_45 : decode cX5_worth 45 = .ok (.invokevirtual 157, 3) := by decide +kernel
theorem dX5_worth_48 : decode cX5_worth 48 = .ok (.ireturn, 1) := by decide +kernel
set_option maxRecDepth 20000 in
theorem ggX5_begins_X5_isAsked : GoodIn wsX5_begins wsX5_isAsked := goodIn_r _ [7, 8, 9, 10, 11, 12, 13, 14, 15, 16, 17, 18, 19, 20, 21, 156, 157, 158, 159, 160, 161, 162, 163, 164, 165, 176, 177, 178, 179, 180, 181, 182, 183, 184, 185, 186, 187, 188, 189, 190, 191, 192] (by decide +kernel) (by decide +kernel)
set_option maxRecDepth 20000 in
theorem gX5_begins_X5_isAsked : GoodIn wsX5_begins (wsV RX5 160 RX5 yX5_isAsked wsX5_isAsked) := goodIn_app (goodIn_of _ (by decide +kernel)) ggX5_begins_X5_isAsked
set_option maxRecDepth 20000 in
theorem ggX5_begins_X1_standBy : GoodIn wsX5_begins wsX1_standBy := goodIn_r _ [26, 27, 28, 29, 30, 31, 32, 33, 19, 34, 35, 36, 37, 38, 39, 40, 41, 42, 43, 44, 45, 46, 47, 13, 48, 49, 50, 51, 52, 53, 54, 55, 56, 57, 58, 59, 60, 61, 62, 63, 64, 65, 66, 67, 68, 69, 25, 70, 71, 72, 73, 74, 75, 76, 77, 78, 79, 80, 81, 82, 83, 84, 85, 86, 87, 88, 89, 90, 91, 92, 93, 94, 95, 96, 97, 98, 99, 100, 101, 102, 103, 104, 105, 106, 107, 108, 109, 110, 111, 112, 113, 114, 115, 116, 117, 118, 119, 120, 121, 122, 123, 124, 125, 126, 127, 128, 129, 130, 131, 132, 133, 134, 135, 136, 137, 138, 139, 140, 141, 142, 143, 144, 145, 146, 147, 148, 149, 150, 151, 152, 153, 154, 155, 166, 167, 168, 169, 170, 171, 172, 173, 174, 175, 176, 177, 178, 179, 180, 181, 182, 183, 184, 185, 186, 187, 188, 189, 190, 191, 192, 193, 194, 195, 196, 197, 198] (by decide +kernel) (by decide +kernel)
set_option maxRecDepth 20000 in
theorem gX5_begins_X1_standBy : GoodIn wsX5_begins (wsV RX5 164 RX1 yX1_standBy wsX1_standBy) := goodIn_app (goodIn_of _ (by decide +kernel)) ggX5_begins_X1_standBy
theorem dX5_begins_0 : decode cX5_begins 0 = .ok (.aload_n 0, 1) := by decide +kernel
theorem dX5_begins_1 : decode cX5_begins 1 = .ok (.iload_n 1, 1) := by decide +kernel
theorem dX5_begins_2 : decode cX5_begins 2 = .ok (.iload_n 2, 1) := by decide +kernel
theorem dX5_begins_3 : decode cX5_begins 3 = .ok (.iconst 0, 1) := by decide +kernel
theorem dX5_begins_4 : decode cX5_begins 4 = .ok (.iload_n 3, 1) := by decide +kernel
theorem dX5_begins_5 : decode cX5_begins 5 = .ok (.invokevirtual 160, 3) := by decide +kernel
theorem dX5_begins_8 : decode cX5_begins 8 = .ok (.ifCond .ne 5, 3) := by decide +kernel
theorem dX5_begins_11 : decode cX5_begins 11 = .ok (.iconst (-1), 1) := by decide +kernel
theorem dX5_begins_12 : decode cX5_begins 12 = .ok (.ireturn, 1) := by decide +kernel
theorem dX5_begins_13 : decode cX5_begins 13 = .ok (.aload_n 0, 1) := by decide +kernel
theorem dX5_begins_14 : decode cX5_begins 14 = .ok (.getfield 61, 3) := by decide +kernel
theorem dX5_begins_17 : decode cX5_begins 17 = .ok (.iload_n 3, 1) := by decide +kernel
theorem dX5_begins_18 : decode cX5_begins 18 = .ok (.invokevirtual 164, 3) := by decide +kernel
theorem dX5_begins_21 : decode cX5_begins 21 = .ok (.aload_n 0, 1) := by decide +kernel
theorem dX5_begins_22 : decode cX5_begins 22 = .ok (.getfield 61, 3) := by decide +kernel
theorem dX5_begins_25 : decode cX5_begins 25 = .ok (.getfield 167, 3) := by decide +kernel
theorem dX5_begins_28 : decode cX5_begins 28 = .ok (.iload_n 1, 1) := by decide +kernel
theorem dX5_begins_29 : decode cX5_begins 29 = .ok (.aaload, 1) := by decide +kernel
theorem dX5_begins_30 : decode cX5_begins 30 = .ok (.iload_n 2, 1) := by decide +kernel
theorem dX5_begins_31 : decode cX5_begins 31 = .ok (.iaload, 1) := by decide +kernel
theorem dX5_begins_32 : decode cX5_begins 32 = .ok (.ireturn, 1) := by decide +kernel
set_option maxRecDepth 20000 in
theorem ggX5_by_X5_isAsked : GoodIn wsX5_by wsX5_isAsked := goodIn_r _ [7, 8, 9, 10, 11, 12, 13, 14, 15, 16, 17, 18, 19, 20, 21, 156, 157, 158, 159, 160, 161, 162, 163, 164, 165, 176, 177, 178, 179, 180, 181, 182, 183, 184, 185, 186, 187, 188, 189, 190, 191, 192] (by decide +kernel) (by decide +kernel)
set_option maxRecDepth 20000 in
theorem gX5_by_X5_isAsked : GoodIn wsX5_by (wsV RX5 160 RX5 yX5_isAsked wsX5_isAsked) := goodIn_app (goodIn_of _ (by decide +kernel)) ggX5_by_X5_isAsked
set_option maxRecDepth 20000 in
theorem ggX5_by_X1_standBy : GoodIn wsX5_by wsX1_standBy := goodIn_r _ [26, 27, 28, 29, 30, 31, 32, 33, 19, 34, 35, 36, 37, 38, 39, 40, 41, 42, 43, 44, 45, 46, 47, 13, 48, 49, 50, 51, 52, 53, 54, 55, 56, 57, 58, 59, 60, 61, 62, 63, 64, 65, 66, 67, 68, 69, 25, 70, 71, 72, 73, 74, 75, 76, 77, 78, 79, 80, 81, 82, 83, 84, 85, 86, 87, 88, 89, 90, 91, 92, 93, 94, 95, 96, 97, 98, 99, 100, 101, 102, 103, 104, 105, 106, 107, 108, 109, 110, 111, 112, 113, 114, 115, 116, 117, 118, 119, 120, 121, 122, 123, 124, 125, 126, 127, 128, 129, 130, 131, 132, 133, 134, 135, 136, 137, 138, 139, 140, 141, 142, 143, 144, 145, 146, 147, 148, 149, 150, 151, 152, 153, 154, 155, 166, 167, 168, 169, 170, 171, 172, 173, 174, 175, 176, 177, 178, 179, 180, 181, 182, 183, 184, 185, 186, 187, 188, 189, 190, 191, 192, 193, 194, 195, 196, 197, 198] (by decide +kernel) (by decide +kernel)
set_option maxRecDepth 20000 in
theorem gX5_by_X1_standBy : GoodIn wsX5_by (wsV RX5 164 RX1 yX1_standBy wsX1_standBy) := goodIn_app (goodIn_of _ (by decide +kernel)) ggX5_by_X1_standBy
theorem dX5_by_0 : decode cX5_by 0 = .ok (.aload_n 0, 1) := by decide +kernel
theorem dX5_by_1 : decode cX5_by 1 = .ok (.iload_n 1, 1) := by decide +kernel
theorem dX5_by_2 : decode cX5_by 2 = .ok (.iload_n 2, 1) := by decide +kernel
theorem dX5_by_3 : decode cX5_by 3 = .ok (.iconst 1, 1) := by decide +kernel
theorem dX5_by_4 : decode cX5_by 4 = .ok (.iload_n 3, 1) := by decide +kernel
theorem dX5_by_5 : decode cX5_by 5 = .ok (.invokevirtual 160, 3) := by decide +kernel
theorem dX5_by_8 : decode cX5_by 8 = .ok (.ifCond .ne 5, 3) := by decide +kernel
theorem dX5_by_11 : decode cX5_by 11 = .ok (.iconst (-1), 1) := by decide +kernel
theorem dX5_by_12 : decode cX5_by 12 = .ok (.ireturn, 1) := by decide +kernel
theorem dX5_by_13 : decode cX5_by 13 = .ok (.aload_n 0, 1) := by decide +kernel
theorem dX5_by_14 : decode cX5_by 14 = .ok (.getfield 61, 3) := by decide +kernel
theorem dX5_by_17 : decode cX5_by 17 = .ok (.iload_n 3, 1) := by decide +kernel
theorem dX5_by_18 : decode cX5_by 18 = .ok (.invokevirtual 164, 3) := by decide +kernel
theorem dX5_by_21 : decode cX5_by 21 = .ok (.aload_n 0, 1) := by decide +kernel
theorem dX5_by_22 : decode cX5_by 22 = .ok (.getfield 61, 3) := by decide +kernel
theorem dX5_by_25 : decode cX5_by 25 = .ok (.getfield 170, 3) := by decide +kernel
theorem dX5_by_28 : decode cX5_by 28 = .ok (.iload_n 1, 1) := by decide +kernel
theorem dX5_by_29 : decode cX5_by 29 = .ok (.aaload, 1) := by decide +kernel
theorem dX5_by_30 : decode cX5_by 30 = .ok (.iload_n 2, 1) := by decide +kernel
theorem dX5_by_31 : decode cX5_by 31 = .ok (.iaload, 1) := by decide +kernel
theorem dX5_by_32 : decode cX5_by 32 = .ok (.ireturn, 1) := by decide +kernel
set_option maxRecDepth 20000 in
theorem ggX5_heard_X5_isAsked : GoodIn wsX5_heard wsX5_isAsked := goodIn_r _ [6, 7, 8, 9, 10, 11, 12, 13, 14, 15, 16, 17, 18, 19, 20, 159, 160, 161, 162, 163, 164, 165, 166, 167, 168, 169, 170, 171, 172, 173, 174, 175, 176, 177, 178, 179, 180, 181, 182, 183, 184, 185] (by decide +kernel) (by decide +kernel)
set_option maxRecDepth 20000 in
theorem gX5_heard_X5_isAsked : GoodIn wsX5_heard (wsV RX5 160 RX5 yX5_isAsked wsX5_isAsked) := goodIn_app (goodIn_of _ (by decide +kernel)) ggX5_heard_X5_isAsked
set_option maxRecDepth 20000 in
theorem ggX5_heard_X1_standBy : GoodIn wsX5_heard wsX1_standBy := goodIn_r _ [25, 26, 27, 28, 29, 30, 31, 32, 18, 33, 34, 35, 36, 37, 38, 39, 40, 41, 42, 43, 44, 45, 46, 12, 47, 48, 49, 50, 51, 52, 53, 54, 55, 56, 57, 58, 59, 60, 61, 62, 63, 64, 65, 66, 67, 68, 24, 69, 70, 71, 72, 73, 74, 75, 76, 77, 78, 79, 80, 81, 82, 83, 84, 85, 86, 87, 88, 89, 90, 91, 92, 93, 94, 95, 96, 97, 98, 99, 100, 101, 102, 103, 104, 105, 106, 107, 108, 109, 110, 111, 112, 113, 114, 115, 116, 117, 118, 119, 120, 121, 122, 123, 124, 125, 126, 127, 128, 129, 130, 131, 132, 133, 134, 135, 136, 137, 138, 139, 140, 141, 142, 143, 144, 145, 146, 147, 148, 149, 150, 151, 152, 153, 154, 186, 187, 188, 189, 190, 191, 192, 193, 194, 195, 169, 170, 171, 172, 173, 174, 175, 176, 177, 178, 179, 180, 181, 182, 183, 184, 185, 196, 197, 198, 199, 200, 201] (by decide +kernel) (by decide +kernel)
set_option maxRecDepth 20000 in
theorem gX5_heard_X1_standBy : GoodIn wsX5_heard (wsV RX5 164 RX1 yX1_standBy wsX1_standBy) := goodIn_app (goodIn_of _ (by decide +kernel)) ggX5_heard_X1_standBy
set_option maxRecDepth 20000 in
theorem ggX5_heard_X1_heardReport : GoodIn wsX5_heard wsX1_heardReport := goodIn_r _ [158, 70, 26, 105, 72, 107, 108, 109, 18, 110, 36, 42, 35, 43, 41, 111, 112, 113, 12, 114, 115, 186, 187, 188, 189, 190, 191, 192, 193, 194, 195, 177, 178, 179, 180, 181, 182, 183, 184, 185, 169, 170, 171, 172, 173, 174, 175, 176] (by decide +kernel) (by decide +kernel)
set_option maxRecDepth 20000 in
theorem gX5_heard_X1_heardReport : GoodIn wsX5_heard (wsV RX5 173 RX1 yX1_heardReport wsX1_heardReport) := goodIn_app (goodIn_of _ (by decide +kernel)) ggX5_heard_X1_heardReport
theorem dX5_heard_0 : decode cX5_heard 0 = .ok (.aload_n 0, 1) := by decide +kernel
theorem dX5_heard_1 : decode cX5_heard 1 = .ok (.iload_n 1, 1) := by decide +kernel
theorem dX5_heard_2 : decode cX5_heard 2 = .ok (.iload_n 2, 1) := by decide +kernel
theorem dX5_heard_3 : decode cX5_heard 3 = .ok (.iconst 1, 1) := by decide +kernel
theorem dX5_heard_4 : decode cX5_heard 4 = .ok (.iload 4, 2) := by decide +kernel
theorem dX5_heard_6 : decode cX5_heard 6 = .ok (.invokevirtual 160, 3) := by decide +kernel
theorem dX5_heard_9 : decode cX5_heard 9 = .ok (.ifCond .eq 7, 3) := by decide +kernel
theorem dX5_heard_12 : decode cX5_heard 12 = .ok (.iload_n 3, 1) := by decide +kernel
theorem dX5_heard_13 : decode cX5_heard 13 = .ok (.ifCond .ge 5, 3) := by decide +kernel
theorem dX5_heard_16 : decode cX5_heard 16 = .ok (.iconst (-1), 1) := by decide +kernel
theorem dX5_heard_17 : decode cX5_heard 17 = .ok (.ireturn, 1) := by decide +kernel
theorem dX5_heard_18 : decode cX5_heard 18 = .ok (.aload_n 0, 1) := by decide +kernel
theorem dX5_heard_19 : decode cX5_heard 19 = .ok (.getfield 61, 3) := by decide +kernel
theorem dX5_heard_22 : decode cX5_heard 22 = .ok (.iload 4, 2) := by decide +kernel
theorem dX5_heard_24 : decode cX5_heard 24 = .ok (.invokevirtual 164, 3) := by decide +kernel
theorem dX5_heard_27 : decode cX5_heard 27 = .ok (.aload_n 0, 1) := by decide +kernel
theorem dX5_heard_28 : decode cX5_heard 28 = .ok (.getfield 61, 3) := by decide +kernel
theorem dX5_heard_31 : decode cX5_heard 31 = .ok (.iload_n 1, 1) := by decide +kernel
theorem dX5_heard_32 : decode cX5_heard 32 = .ok (.iload_n 2, 1) := by decide +kernel
theorem dX5_heard_33 : decode cX5_heard 33 = .ok (.iload_n 3, 1) := by decide +kernel
theorem dX5_heard_34 : decode cX5_heard 34 = .ok (.invokevirtual 173, 3) := by decide +kernel
theorem dX5_heard_37 : decode cX5_heard 37 = .ok (.ireturn, 1) := by decide +kernel
set_option maxRecDepth 20000 in
theorem ggX5_date_X4_isLand : GoodIn wsX5_date wsX4_isLand := goodIn_r _ [8, 9, 168, 169, 170, 171, 172, 173, 174, 175] (by decide +kernel) (by decide +kernel)
set_option maxRecDepth 20000 in
theorem gX5_date_X4_isLand : GoodIn wsX5_date (wsV RX5 73 RX4 yX4_isLand wsX4_isLand) := goodIn_app (goodIn_of _ (by decide +kernel)) ggX5_date_X4_isLand
set_option maxRecDepth 20000 in
theorem ggX5_date_X5_isEvening : GoodIn wsX5_date wsX5_isEvening := goodIn_r _ [13] (by decide +kernel) (by decide +kernel)
set_option maxRecDepth 20000 in
theorem gX5_date_X5_isEvening : GoodIn wsX5_date (va_wsS RX5 96 yX5_isEvening wsX5_isEvening) := goodIn_app (goodIn_of _ (by decide +kernel)) ggX5_date_X5_isEvening
set_option maxRecDepth 20000 in
theorem ggX5_date_X0_canBeKnownBy : GoodIn wsX5_date wsX0_canBeKnownBy := goodIn_r _ [18, 19, 176, 177, 178, 179, 180, 181, 182, 183, 184] (by decide +kernel) (by decide +kernel)
set_option maxRecDepth 20000 in
theorem gX5_date_X0_canBeKnownBy : GoodIn wsX5_date (wsV RX5 148 RX0 yX0_canBeKnownBy wsX0_canBeKnownBy) := goodIn_app (goodIn_of _ (by decide +kernel)) ggX5_date_X0_canBeKnownBy
set_option maxRecDepth 20000 in
theorem ggX5_date_X1_standBy : GoodIn wsX5_date wsX1_standBy := goodIn_r _ [24, 25, 26, 27, 28, 29, 30, 31, 17, 32, 33, 34, 35, 36, 37, 38, 39, 40, 41, 42, 43, 44, 45, 7, 46, 47, 48, 49, 50, 51, 52, 53, 54, 55, 56, 57, 58, 59, 60, 61, 62, 63, 64, 65, 66, 67, 23, 68, 69, 70, 71, 72, 73, 74, 75, 76, 77, 78, 79, 80, 81, 82, 83, 84, 85, 86, 87, 88, 89, 90, 91, 92, 93, 94, 95, 96, 97, 98, 99, 100, 101, 102, 103, 104, 105, 106, 107, 108, 109, 110, 111, 112, 113, 114, 115, 116, 117, 118, 119, 120, 121, 122, 123, 124, 125, 126, 127, 128, 129, 130, 131, 132, 133, 134, 135, 136, 137, 138, 139, 140, 141, 142, 143, 144, 145, 146, 147, 148, 149, 150, 151, 152, 153, 185, 186, 187, 188, 189, 190, 191, 192, 193, 194, 168, 169, 170, 171, 172, 173, 174, 175, 176, 177, 178, 179, 180, 181, 182, 183, 184, 195, 196, 197, 198, 199, 200] (by decide +kernel) (by decide +kernel)
set_option maxRecDepth 20000 in
theorem gX5_date_X1_standBy : GoodIn wsX5_date (wsV RX5 164 RX1 yX1_standBy wsX1_standBy) := goodIn_app (goodIn_of _ (by decide +kernel)) ggX5_date_X1_standBy
set_option maxRecDepth 20000 in
theorem ggX5_date_X1_dateOn : GoodIn wsX5_date wsX1_dateOn := goodIn_r _ [157, 73, 69, 185, 186, 187, 188, 189, 190, 191, 192, 193, 194] (by decide +kernel) (by decide +kernel)
set_option maxRecDepth 20000 in
theorem gX5_date_X1_dateOn : GoodIn wsX5_date (wsV RX5 177 RX1 yX1_dateOn wsX1_dateOn) := goodIn_app (goodIn_of _ (by decide +kernel)) ggX5_date_X1_dateOn
theorem dX5_date_0 : decode cX5_date 0 = .ok (.aload_n 0, 1) := by decide +kernel
theorem dX5_date_1 : decode cX5_date 1 = .ok (.getfield 23, 3) := by decide +kernel
theorem dX5_date_4 : decode cX5_date 4 = .ok (.iload_n 1, 1) := by decide +kernel
theorem dX5_date_5 : decode cX5_date 5 = .ok (.invokevirtual 73, 3) := by decide +kernel
theorem dX5_date_8 : decode cX5_date 8 = .ok (.ifCond .eq 21, 3) := by decide +kernel
theorem dX5_date_11 : decode cX5_date 11 = .ok (.iload_n 2, 1) := by decide +kernel
theorem dX5_date_12 : decode cX5_date 12 = .ok (.invokestatic 96, 3) := by decide +kernel
theorem dX5_date_15 : decode cX5_date 15 = .ok (.ifCond .eq 14, 3) := by decide +kernel
theorem dX5_date_18 : decode cX5_date 18 = .ok (.aload_n 0, 1) := by decide +kernel
theorem dX5_date_19 : decode cX5_date 19 = .ok (.getfield 32, 3) := by decide +kernel
theorem dX5_date_22 : decode cX5_date 22 = .ok (.iload_n 3, 1) := by decide +kernel
theorem dX5_date_23 : decode cX5_date 23 = .ok (.invokevirtual 148, 3) := by decide +kernel
theorem dX5_date_26 : decode cX5_date 26 = .ok (.ifCond .ne 5, 3) := by decide +kernel
theorem dX5_date_29 : decode cX5_date 29 = .ok (.iconst (-1), 1) := by decide +kernel
theorem dX5_date_30 : decode cX5_date 30 = .ok (.ireturn, 1) := by decide +kernel
theorem dX5_date_31 : decode cX5_date 31 = .ok (.aload_n 0, 1) := by decide +kernel
theorem dX5_date_32 : decode cX5_date 32 = .ok (.getfield 61, 3) := by decide +kernel
theorem dX5_date_35 : decode cX5_date 35 = .ok (.iload_n 3, 1) := by decide +kernel
theorem dX5_date_36 : decode cX5_date 36 = .ok (.invokevirtual 164, 3) := by decide +kernel
theorem dX5_date_39 : decode cX5_date 39 = .ok (.aload_n 0, 1) := by decide +kernel
theorem dX5_date_40 : decode cX5_date 40 = .ok (.getfield 61, 3) := by decide +kernel
theorem dX5_date_43 : decode cX5_date 43 = .ok (.iload_n 1, 1) := by decide +kernel
theorem dX5_date_44 : decode cX5_date 44 = .ok (.iload_n 2, 1) := by decide +kernel
theorem dX5_date_45 : decode cX5_date 45 = .ok (.invokevirtual 177, 3) := by decide +kernel
theorem dX5_date_48 : decode cX5_date 48 = .ok (.ireturn, 1) := by decide +kernel
set_option maxRecDepth 20000 in
theorem ggX5_turn_X5_isAsked : GoodIn wsX5_turn wsX5_isAsked := goodIn_r _ [7, 1, 8, 9, 10, 11, 12, 13, 14, 15, 16, 17, 18, 19, 20, 165, 166, 167, 168, 169, 170, 171, 172, 173, 174, 175, 176, 177, 178, 179, 180, 181, 182, 183, 184, 185, 186, 187, 188, 189, 190, 191] (by decide +kernel) (by decide +kernel)
set_option maxRecDepth 20000 in
theorem gX5_turn_X5_isAsked : GoodIn wsX5_turn (wsV RX5 160 RX5 yX5_isAsked wsX5_isAsked) := goodIn_app (goodIn_of _ (by decide +kernel)) ggX5_turn_X5_isAsked
set_option maxRecDepth 20000 in
theorem ggX5_turn_X4_isLand : GoodIn wsX5_turn wsX4_isLand := goodIn_r _ [13, 14, 175, 176, 177, 178, 179, 180, 181, 182] (by decide +kernel) (by decide +kernel)
set_option maxRecDepth 20000 in
theorem gX5_turn_X4_isLand : GoodIn wsX5_turn (wsV RX5 73 RX4 yX4_isLand wsX4_isLand) := goodIn_app (goodIn_of _ (by decide +kernel)) ggX5_turn_X4_isLand
set_option maxRecDepth 20000 in
theorem ggX5_turn_X1_standBy : GoodIn wsX5_turn wsX1_standBy := goodIn_r _ [25, 26, 27, 28, 29, 30, 31, 32, 18, 33, 34, 35, 36, 37, 38, 39, 40, 41, 42, 43, 44, 45, 46, 12, 47, 48, 49, 50, 51, 52, 53, 54, 55, 56, 57, 58, 59, 60, 61, 62, 63, 64, 65, 66, 67, 68, 24, 69, 70, 71, 72, 73, 74, 75, 76, 77, 78, 79, 80, 81, 82, 83, 84, 85, 86, 87, 88, 89, 90, 91, 92, 93, 94, 95, 96, 97, 98, 99, 100, 101, 102, 103, 104, 105, 106, 107, 108, 109, 110, 111, 112, 113, 114, 115, 116, 117, 118, 119, 120, 121, 122, 123, 124, 125, 126, 127, 128, 129, 130, 131, 132, 133, 134, 135, 136, 137, 138, 139, 140, 141, 142, 143, 144, 145, 146, 147, 148, 149, 150, 151, 152, 153, 154, 192, 193, 194, 195, 196, 197, 198, 199, 200, 201, 175, 176, 177, 178, 179, 180, 181, 182, 183, 184, 185, 186, 187, 188, 189, 190, 191, 202, 203, 204, 205, 206, 207] (by decide +kernel) (by decide +kernel)
set_option maxRecDepth 20000 in
theorem gX5_turn_X1_standBy : GoodIn wsX5_turn (wsV RX5 164 RX1 yX1_standBy wsX1_standBy) := goodIn_app (goodIn_of _ (by decide +kernel)) ggX5_turn_X1_standBy
set_option maxRecDepth 20000 in
theorem ggX5_turn_X1_eveningOf : GoodIn wsX5_turn wsX1_eveningOf := goodIn_r _ [158, 70, 74, 159, 6, 160, 192, 193, 194, 195, 196, 197, 198, 199, 200, 201] (by decide +kernel) (by decide +kernel)
set_option maxRecDepth 20000 in
theorem gX5_turn_X1_eveningOf : GoodIn wsX5_turn (wsV RX5 180 RX1 yX1_eveningOf wsX1_eveningOf) := goodIn_app (goodIn_of _ (by decide +kernel)) ggX5_turn_X1_eveningOf
set_option maxRecDepth 20000 in
theorem ggX5_turn_X1_dateOn : GoodIn wsX5_turn wsX1_dateOn := goodIn_r _ [164, 74, 70, 192, 193, 194, 195, 196, 197, 198, 199, 200, 201] (by decide +kernel) (by decide +kernel)
set_option maxRecDepth 20000 in
theorem gX5_turn_X1_dateOn : GoodIn wsX5_turn (wsV RX5 177 RX1 yX1_dateOn wsX1_dateOn) := goodIn_app (goodIn_of _ (by decide +kernel)) ggX5_turn_X1_dateOn
theorem dX5_turn_0 : decode cX5_turn 0 = .ok (.aload_n 0, 1) := by decide +kernel
theorem dX5_turn_1 : decode cX5_turn 1 = .ok (.iload_n 1, 1) := by decide +kernel
theorem dX5_turn_2 : decode cX5_turn 2 = .ok (.iload_n 2, 1) := by decide +kernel
theorem dX5_turn_3 : decode cX5_turn 3 = .ok (.iconst 0, 1) := by decide +kernel
theorem dX5_turn_4 : decode cX5_turn 4 = .ok (.iload 5, 2) := by decide +kernel
theorem dX5_turn_6 : decode cX5_turn 6 = .ok (.invokevirtual 160, 3) := by decide +kernel
theorem dX5_turn_9 : decode cX5_turn 9 = .ok (.ifCond .eq 26, 3) := by decide +kernel
theorem dX5_turn_12 : decode cX5_turn 12 = .ok (.aload_n 0, 1) := by decide +kernel
theorem dX5_turn_13 : decode cX5_turn 13 = .ok (.getfield 23, 3) := by decide +kernel
theorem dX5_turn_16 : decode cX5_turn 16 = .ok (.iload 4, 2) := by decide +kernel
theorem dX5_turn_18 : decode cX5_turn 18 = .ok (.invokevirtual 73, 3) := by decide +kernel
theorem dX5_turn_21 : decode cX5_turn 21 = .ok (.ifCond .eq 14, 3) := by decide +kernel
theorem dX5_turn_24 : decode cX5_turn 24 = .ok (.iload_n 3, 1) := by decide +kernel
theorem dX5_turn_25 : decode cX5_turn 25 = .ok (.iconst 1, 1) := by decide +kernel
theorem dX5_turn_26 : decode cX5_turn 26 = .ok (.if_icmp .lt 9, 3) := by decide +kernel
theorem dX5_turn_29 : decode cX5_turn 29 = .ok (.iload_n 3, 1) := by decide +kernel
theorem dX5_turn_30 : decode cX5_turn 30 = .ok (.bipush 30, 2) := by decide +kernel
theorem dX5_turn_32 : decode cX5_turn 32 = .ok (.if_icmp .le 5, 3) := by decide +kernel
theorem dX5_turn_35 : decode cX5_turn 35 = .ok (.iconst (-1), 1) := by decide +kernel
theorem dX5_turn_36 : decode cX5_turn 36 = .ok (.ireturn, 1) := by decide +kernel
theorem dX5_turn_37 : decode cX5_turn 37 = .ok (.aload_n 0, 1) := by decide +kernel
theorem dX5_turn_38 : decode cX5_turn 38 = .ok (.getfield 61, 3) := by decide +kernel
theorem dX5_turn_41 : decode cX5_turn 41 = .ok (.iload 5, 2) := by decide +kernel
theorem dX5_turn_43 : decode cX5_turn 43 = .ok (.invokevirtual 164, 3) := by decide +kernel
theorem dX5_turn_46 : decode cX5_turn 46 = .ok (.aload_n 0, 1) := by decide +kernel
theorem dX5_turn_47 : decode cX5_turn 47 = .ok (.getfield 61, 3) := by decide +kernel
theorem dX5_turn_50 : decode cX5_turn 50 = .ok (.iload_n 1, 1) := by decide +kernel
theorem dX5_turn_51 : decode cX5_turn 51 = .ok (.iload_n 2, 1) := by decide +kernel
theorem dX5_turn_52 : decode cX5_turn 52 = .ok (.iload_n 3, 1) := by decide +kernel
theorem dX5_turn_53 : decode cX5_turn 53 = .ok (.invokevirtual 180, 3) := by decide +kernel
theorem dX5_turn_56 : decode cX5_turn 56 = .ok (.istore 6, 2) := by decide +kernel
theorem dX5_turn_58 : decode cX5_turn 58 = .ok (.iload 6, 2) := by decide +kernel
theorem dX5_turn_60 : decode cX5_turn 60 = .ok (.iconst (-1), 1) := by decide +kernel
theorem dX5_turn_61 : decode cX5_turn 61 = .ok (.if_icmp .ne 7, 3) := by decide +kernel
theorem dX5_turn_64 : decode cX5_turn 64 = .ok (.iconst (-1), 1) := by decide +kernel
theorem dX5_turn_65 : decode cX5_turn 65 = .ok (.goto 14, 3) := by decide +kernel
theorem dX5_turn_68 : decode cX5_turn 68 = .ok (.aload_n 0, 1) := by decide +kernel
theorem dX5_turn_69 : decode cX5_turn 69 = .ok (.getfield 61, 3) := by decide +kernel
theorem dX5_turn_72 : decode cX5_turn 72 = .ok (.iload 4, 2) := by decide +kernel
theorem dX5_turn_74 : decode cX5_turn 74 = .ok (.iload 6, 2) := by decide +kernel
theorem dX5_turn_76 : decode cX5_turn 76 = .ok (.invokevirtual 177, 3) := by decide +kernel
theorem dX5_turn_79 : decode cX5_turn 79 = .ok (.ireturn, 1) := by decide +kernel
set_option maxRecDepth 20000 in
theorem ggX5_unlike_X4_isLand : GoodIn wsX5_unlike wsX4_isLand := goodIn_r _ [8, 9, 168, 169, 170, 171, 172, 173, 174, 175] (by decide +kernel) (by decide +kernel)
set_option maxRecDepth 20000 in
theorem gX5_unlike_X4_isLand : GoodIn wsX5_unlike (wsV RX5 73 RX4 yX4_isLand wsX4_isLand) := goodIn_app (goodIn_of _ (by decide +kernel)) ggX5_unlike_X4_isLand
set_option maxRecDepth 20000 in
theorem ggX5_unlike_X0_canBeKnownBy : GoodIn wsX5_unlike wsX0_canBeKnownBy := goodIn_r _ [14, 15, 176, 177, 178, 179, 180, 181, 182, 183, 184] (by decide +kernel) (by decide +kernel)
set_option maxRecDepth 20000 in
theorem gX5_unlike_X0_canBeKnownBy : GoodIn wsX5_unlike (wsV RX5 148 RX0 yX0_canBeKnownBy wsX0_canBeKnownBy) := goodIn_app (goodIn_of _ (by decide +kernel)) ggX5_unlike_X0_canBeKnownBy
set_option maxRecDepth 20000 in
theorem ggX5_unlike_X5_isEvening : GoodIn wsX5_unlike wsX5_isEvening := goodIn_r _ [19] (by decide +kernel) (by decide +kernel)
set_option maxRecDepth 20000 in
theorem gX5_unlike_X5_isEvening : GoodIn wsX5_unlike (va_wsS RX5 96 yX5_isEvening wsX5_isEvening) := goodIn_app (goodIn_of _ (by decide +kernel)) ggX5_unlike_X5_isEvening
set_option maxRecDepth 20000 in
theorem ggX5_unlike_X1_standBy : GoodIn wsX5_unlike wsX1_standBy := goodIn_r _ [24, 25, 26, 27, 28, 29, 30, 31, 13, 32, 33, 34, 35, 36, 37, 38, 39, 40, 41, 42, 43, 44, 45, 7, 46, 47, 48, 49, 50, 51, 52, 53, 54, 55, 56, 57, 58, 59, 60, 61, 62, 63, 64, 65, 66, 67, 23, 68, 69, 70, 71, 72, 73, 74, 75, 76, 77, 78, 79, 80, 81, 82, 83, 84, 85, 86, 87, 88, 89, 90, 91, 92, 93, 94, 95, 96, 97, 98, 99, 100, 101, 102, 103, 104, 105, 106, 107, 108, 109, 110, 111, 112, 113, 114, 115, 116, 117, 118, 119, 120, 121, 122, 123, 124, 125, 126, 127, 128, 129, 130, 131, 132, 133, 134, 135, 136, 137, 138, 139, 140, 141, 142, 143, 144, 145, 146, 147, 148, 149, 150, 151, 152, 153, 185, 186, 187, 188, 189, 190, 191, 192, 193, 194, 168, 169, 170, 171, 172, 173, 174, 175, 176, 177, 178, 179, 180, 181, 182, 183, 184, 195, 196, 197, 198, 199, 200] (by decide +kernel) (by decide +kernel)
set_option maxRecDepth 20000 in
theorem gX5_unlike_X1_standBy : GoodIn wsX5_unlike (wsV RX5 164 RX1 yX1_standBy wsX1_standBy) := goodIn_app (goodIn_of _ (by decide +kernel)) ggX5_unlike_X1_standBy
set_option maxRecDepth 20000 in
theorem ggX5_unlike_X1_dateOn : GoodIn wsX5_unlike wsX1_dateOn := goodIn_r _ [157, 73, 69, 185, 186, 187, 188, 189, 190, 191, 192, 193, 194] (by decide +kernel) (by decide +kernel)
set_option maxRecDepth 20000 in
theorem gX5_unlike_X1_dateOn : GoodIn wsX5_unlike (wsV RX5 177 RX1 yX1_dateOn wsX1_dateOn) := goodIn_app (goodIn_of _ (by decide +kernel)) ggX5_unlike_X1_dateOn
theorem dX5_unlike_0 : decode cX5_unlike 0 = .ok (.aload_n 0, 1) := by decide +kernel
theorem dX5_unlike_1 : decode cX5_unlike 1 = .ok (.getfield 23, 3) := by decide +kernel
theorem dX5_unlike_4 : decode cX5_unlike 4 = .ok (.iload_n 1, 1) := by decide +kernel
theorem dX5_unlike_5 : decode cX5_unlike 5 = .ok (.invokevirtual 73, 3) := by decide +kernel
theorem dX5_unlike_8 : decode cX5_unlike 8 = .ok (.ifCond .eq 26, 3) := by decide +kernel
theorem dX5_unlike_11 : decode cX5_unlike 11 = .ok (.aload_n 0, 1) := by decide +kernel
theorem dX5_unlike_12 : decode cX5_unlike 12 = .ok (.getfield 23, 3) := by decide +kernel
theorem dX5_unlike_15 : decode cX5_unlike 15 = .ok (.iload_n 2, 1) := by decide +kernel
theorem dX5_unlike_16 : decode cX5_unlike 16 = .ok (.invokevirtual 73, 3) := by decide +kernel
theorem dX5_unlike_19 : decode cX5_unlike 19 = .ok (.ifCond .eq 15, 3) := by decide +kernel
theorem dX5_unlike_22 : decode cX5_unlike 22 = .ok (.aload_n 0, 1) := by decide +kernel
theorem dX5_unlike_23 : decode cX5_unlike 23 = .ok (.getfield 32, 3) := by decide +kernel
theorem dX5_unlike_26 : decode cX5_unlike 26 = .ok (.iload 5, 2) := by decide +kernel
theorem dX5_unlike_28 : decode cX5_unlike 28 = .ok (.invokevirtual 148, 3) := by decide +kernel
theorem dX5_unlike_31 : decode cX5_unlike 31 = .ok (.ifCond .ne 5, 3) := by decide +kernel
theorem dX5_unlike_34 : decode cX5_unlike 34 = .ok (.iconst (-1), 1) := by decide +kernel
theorem dX5_unlike_35 : decode cX5_unlike 35 = .ok (.ireturn, 1) := by decide +kernel
theorem dX5_unlike_36 : decode cX5_unlike 36 = .ok (.iload_n 3, 1) := by decide +kernel
theorem dX5_unlike_37 : decode cX5_unlike 37 = .ok (.invokestatic 96, 3) := by decide +kernel
theorem dX5_unlike_40 : decode cX5_unlike 40 = .ok (.ifCond .eq 17, 3) := by decide +kernel
theorem dX5_unlike_43 : decode cX5_unlike 43 = .ok (.iload 4, 2) := by decide +kernel
theorem dX5_unlike_45 : decode cX5_unlike 45 = .ok (.invokestatic 96, 3) := by decide +kernel
theorem dX5_unlike_48 : decode cX5_unlike 48 = .ok (.ifCond .eq 9, 3) := by decide +kernel
theorem dX5_unlike_51 : decode cX5_unlike 51 = .ok (.iload_n 3, 1) := by decide +kernel
theorem dX5_unlike_52 : decode cX5_unlike 52 = .ok (.iload 4, 2) := by decide +kernel
theorem dX5_unlike_54 : decode cX5_unlike 54 = .ok (.if_icmp .le 5, 3) := by decide +kernel
theorem dX5_unlike_57 : decode cX5_unlike 57 = .ok (.iconst (-1), 1) := by decide +kernel
theorem dX5_unlike_58 : decode cX5_unlike 58 = .ok (.ireturn, 1) := by decide +kernel
theorem dX5_unlike_59 : decode cX5_unlike 59 = .ok (.aload_n 0, 1) := by decide +kernel
theorem dX5_unlike_60 : decode cX5_unlike 60 = .ok (.getfield 61, 3) := by decide +kernel
theorem dX5_unlike_63 : decode cX5_unlike 63 = .ok (.iload 5, 2) := by decide +kernel
theorem dX5_unlike_65 : decode cX5_unlike 65 = .ok (.invokevirtual 164, 3) := by decide +kernel
theorem dX5_unlike_68 : decode cX5_unlike 68 = .ok (.iconst 0, 1) := by decide +kernel
theorem dX5_unlike_69 : decode cX5_unlike 69 = .ok (.istore 6, 2) := by decide +kernel
theorem dX5_unlike_71 : decode cX5_unlike 71 = .ok (.iload_n 3, 1) := by decide +kernel
theorem dX5_unlike_72 : decode cX5_unlike 72 = .ok (.istore 7, 2) := by decide +kernel
theorem dX5_unlike_74 : decode cX5_unlike 74 = .ok (.iload 7, 2) := by decide +kernel
theorem dX5_unlike_76 : decode cX5_unlike 76 = .ok (.iload 4, 2) := by decide +kernel
theorem dX5_unlike_78 : decode cX5_unlike 78 = .ok (.if_icmp .gt 35, 3) := by decide +kernel
theorem dX5_unlike_81 : decode cX5_unlike 81 = .ok (.aload_n 0, 1) := by decide +kernel
theorem dX5_unlike_82 : decode cX5_unlike 82 = .ok (.getfield 61, 3) := by decide +kernel
theorem dX5_unlike_85 : decode cX5_unlike 85 = .ok (.iload_n 1, 1) := by decide +kernel
theorem dX5_unlike_86 : decode cX5_unlike 86 = .ok (.iload 7, 2) := by decide +kernel
theorem dX5_unlike_88 : decode cX5_unlike 88 = .ok (.invokevirtual 177, 3) := by decide +kernel
theorem dX5_unlike_91 : decode cX5_unlike 91 = .ok (.aload_n 0, 1) := by decide +kernel
theorem dX5_unlike_92 : decode cX5_unlike 92 = .ok (.getfield 61, 3) := by decide +kernel
theorem dX5_unlike_95 : decode cX5_unlike 95 = .ok (.iload_n 2, 1) := by decide +kernel
theorem dX5_unlike_96 : decode cX5_unlike 96 = .ok (.iload 7, 2) := by decide +kernel
theorem dX5_unlike_98 : decode cX5_unlike 98 = .ok (.invokevirtual 177, 3) := by decide +kernel
theorem dX5_unlike_101 : decode cX5_unlike 101 = .ok (.if_icmp .eq 6, 3) := by decide +kernel
theorem dX5_unlike_104 : decode cX5_unlike 104 = .ok (.iinc 6 1, 3) := by decide +kernel
theorem dX5_unlike_107 : decode cX5_unlike 107 = .ok (.iinc 7 1, 3) := by decide +kernel
theorem dX5_unlike_110 : decode cX5_unlike 110 = .ok (.goto (-36), 3) := by decide +kernel
theorem dX5_unlike_113 : decode cX5_unlike 113 = .ok (.iload 6, 2) := by decide +kernel
theorem dX5_unlike_115 : decode cX5_unlike 115 = .ok (.ireturn, 1) := by decide +kernel
set_option maxRecDepth 20000 in
theorem ggX5_changed_X4_isLand : GoodIn wsX5_changed wsX4_isLand := goodIn_r _ [14, 15, 176, 177, 178, 179, 180, 181, 182, 183] (by decide +kernel) (by decide +kernel)
set_option maxRecDepth 20000 in
theorem gX5_changed_X4_isLand : GoodIn wsX5_changed (wsV RX5 73 RX4 yX4_isLand wsX4_isLand) := goodIn_app (goodIn_of _ (by decide +kernel)) ggX5_changed_X4_isLand
set_option maxRecDepth 20000 in
theorem ggX5_changed_X0_canBeKnownBy : GoodIn wsX5_changed wsX0_canBeKnownBy := goodIn_r _ [20, 21, 184, 185, 186, 187, 188, 189, 190, 191, 192] (by decide +kernel) (by decide +kernel)
set_option maxRecDepth 20000 in
theorem gX5_changed_X0_canBeKnownBy : GoodIn wsX5_changed (wsV RX5 148 RX0 yX0_canBeKnownBy wsX0_canBeKnownBy) := goodIn_app (goodIn_of _ (by decide +kernel)) ggX5_changed_X0_canBeKnownBy
set_option maxRecDepth 20000 in
theorem ggX5_changed_X1_standBy : GoodIn wsX5_changed wsX1_standBy := goodIn_r _ [26, 27, 28, 29, 30, 31, 32, 33, 19, 34, 35, 36, 37, 38, 39, 40, 41, 42, 43, 44, 45, 46, 47, 13, 48, 49, 50, 51, 52, 53, 54, 55, 56, 57, 58, 59, 60, 61, 62, 63, 64, 65, 66, 67, 68, 69, 25, 70, 71, 72, 73, 74, 75, 76, 77, 78, 79, 80, 81, 82, 83, 84, 85, 86, 87, 88, 89, 90, 91, 92, 93, 94, 95, 96, 97, 98, 99, 100, 101, 102, 103, 104, 105, 106, 107, 108, 109, 110, 111, 112, 113, 114, 115, 116, 117, 118, 119, 120, 121, 122, 123, 124, 125, 126, 127, 128, 129, 130, 131, 132, 133, 134, 135, 136, 137, 138, 139, 140, 141, 142, 143, 144, 145, 146, 147, 148, 149, 150, 151, 152, 153, 154, 155, 166, 167, 168, 169, 170, 171, 172, 173, 174, 175, 176, 177, 178, 179, 180, 181, 182, 183, 184, 185, 186, 187, 188, 189, 190, 191, 192, 193, 194, 195, 196, 197, 198] (by decide +kernel) (by decide +kernel)
set_option maxRecDepth 20000 in
theorem gX5_changed_X1_standBy : GoodIn wsX5_changed (wsV RX5 164 RX1 yX1_standBy wsX1_standBy) := goodIn_app (goodIn_of _ (by decide +kernel)) ggX5_changed_X1_standBy
theorem dX5_changed_0 : decode cX5_changed 0 = .ok (.aload_n 0, 1) := by decide +kernel
theorem dX5_changed_1 : decode cX5_changed 1 = .ok (.getfield 23, 3) := by decide +kernel
theorem dX5_changed_4 : decode cX5_changed 4 = .ok (.iload_n 1, 1) := by decide +kernel
theorem dX5_changed_5 : decode cX5_changed 5 = .ok (.invokevirtual 73, 3) := by decide +kernel
theorem dX5_changed_8 : decode cX5_changed 8 = .ok (.ifCond .eq 25, 3) := by decide +kernel
theorem dX5_changed_11 : decode cX5_changed 11 = .ok (.aload_n 0, 1) := by decide +kernel
theorem dX5_changed_12 : decode cX5_changed 12 = .ok (.getfield 32, 3) := by decide +kernel
theorem dX5_changed_15 : decode cX5_changed 15 = .ok (.iload_n 2, 1) := by decide +kernel
theorem dX5_changed_16 : decode cX5_changed 16 = .ok (.invokevirtual 148, 3) := by decide +kernel
theorem dX5_changed_19 : decode cX5_changed 19 = .ok (.ifCond .eq 14, 3) := by decide +kernel
theorem dX5_changed_22 : decode cX5_changed 22 = .ok (.aload_n 0, 1) := by decide +kernel
theorem dX5_changed_23 : decode cX5_changed 23 = .ok (.getfield 32, 3) := by decide +kernel
theorem dX5_changed_26 : decode cX5_changed 26 = .ok (.iload_n 3, 1) := by decide +kernel
theorem dX5_changed_27 : decode cX5_changed 27 = .ok (.invokevirtual 148, 3) := by decide +kernel
theorem dX5_changed_30 : decode cX5_changed 30 = .ok (.ifCond .ne 5, 3) := by decide +kernel
theorem dX5_changed_33 : decode cX5_changed 33 = .ok (.iconst (-1), 1) := by decide +kernel
theorem dX5_changed_34 : decode cX5_changed 34 = .ok (.ireturn, 1) := by decide +kernel
theorem dX5_changed_35 : decode cX5_changed 35 = .ok (.aload_n 0, 1) := by decide +kernel
theorem dX5_changed_36 : decode cX5_changed 36 = .ok (.getfield 61, 3) := by decide +kernel
theorem dX5_changed_39 : decode cX5_changed 39 = .ok (.iload_n 2, 1) := by decide +kernel
theorem dX5_changed_40 : decode cX5_changed 40 = .ok (.invokevirtual 164, 3) := by decide +kernel
theorem dX5_changed_43 : decode cX5_changed 43 = .ok (.aload_n 0, 1) := by decide +kernel
theorem dX5_changed_44 : decode cX5_changed 44 = .ok (.getfield 61, 3) := by decide +kernel
theorem dX5_changed_47 : decode cX5_changed 47 = .ok (.getfield 167, 3) := by decide +kernel
theorem dX5_changed_50 : decode cX5_changed 50 = .ok (.iload_n 1, 1) := by decide +kernel
theorem dX5_changed_51 : decode cX5_changed 51 = .ok (.aaload, 1) := by decide +kernel
theorem dX5_changed_52 : decode cX5_changed 52 = .ok (.iconst 0, 1) := by decide +kernel
theorem dX5_changed_53 : decode cX5_changed 53 = .ok (.aload_n 0, 1) := by decide +kernel
theorem dX5_changed_54 : decode cX5_changed 54 = .ok (.getfield 65, 3) := by decide +kernel
theorem dX5_changed_57 : decode cX5_changed 57 = .ok (.iconst 0, 1) := by decide +kernel
theorem dX5_changed_58 : decode cX5_changed 58 = .ok (.bipush 15, 2) := by decide +kernel
theorem dX5_changed_60 : decode cX5_changed 60 = .ok (.invokestatic 183, 3) := by decide +kernel
theorem dX5_changed_63 : decode cX5_changed 63 = .ok (.aload_n 0, 1) := by decide +kernel
theorem dX5_changed_64 : decode cX5_changed 64 = .ok (.getfield 61, 3) := by decide +kernel
theorem dX5_changed_67 : decode cX5_changed 67 = .ok (.iload_n 3, 1) := by decide +kernel
theorem dX5_changed_68 : decode cX5_changed 68 = .ok (.invokevirtual 164, 3) := by decide +kernel
theorem dX5_changed_71 : decode cX5_changed 71 = .ok (.iconst 1, 1) := by decide +kernel
theorem dX5_changed_72 : decode cX5_changed 72 = .ok (.istore 4, 2) := by decide +kernel
theorem dX5_changed_74 : decode cX5_changed 74 = .ok (.iload 4, 2) := by decide +kernel
theorem dX5_changed_76 : decode cX5_changed 76 = .ok (.bipush 14, 2) := by decide +kernel
theorem dX5_changed_78 : decode cX5_changed 78 = .ok (.if_icmp .gt 34, 3) := by decide +kernel
theorem dX5_changed_81 : decode cX5_changed 81 = .ok (.aload_n 0, 1) := by decide +kernel
theorem dX5_changed_82 : decode cX5_changed 82 = .ok (.getfield 61, 3) := by decide +kernel
theorem dX5_changed_85 : decode cX5_changed 85 = .ok (.getfield 167, 3) := by decide +kernel
theorem dX5_changed_88 : decode cX5_changed 88 = .ok (.iload_n 1, 1) := by decide +kernel
theorem dX5_changed_89 : decode cX5_changed 89 = .ok (.aaload, 1) := by decide +kernel
theorem dX5_changed_90 : decode cX5_changed 90 = .ok (.iload 4, 2) := by decide +kernel
theorem dX5_changed_92 : decode cX5_changed 92 = .ok (.iaload, 1) := by decide +kernel
theorem dX5_changed_93 : decode cX5_changed 93 = .ok (.aload_n 0, 1) := by decide +kernel
theorem dX5_changed_94 : decode cX5_changed 94 = .ok (.getfield 65, 3) := by decide +kernel
theorem dX5_changed_97 : decode cX5_changed 97 = .ok (.iload 4, 2) := by decide +kernel
theorem dX5_changed_99 : decode cX5_changed 99 = .ok (.iaload, 1) := by decide +kernel
theorem dX5_changed_100 : decode cX5_changed 100 = .ok (.if_icmp .eq 6, 3) := by decide +kernel
theorem dX5_changed_103 : decode cX5_changed 103 = .ok (.iload 4, 2) := by decide +kernel
theorem dX5_changed_105 : decode cX5_changed 105 = .ok (.ireturn, 1) := by decide +kernel
theorem dX5_changed_106 : decode cX5_changed 106 = .ok (.iinc 4 1, 3) := by decide +kernel
theorem dX5_changed_109 : decode cX5_changed 109 = .ok (.goto (-35), 3) := by decide +kernel
theorem dX5_changed_112 : decode cX5_changed 112 = .ok (.iconst (-1), 1) := by decide +kernel
theorem dX5_changed_113 : decode cX5_changed 113 = .ok (.ireturn, 1) := by decide +kernel
set_option maxRecDepth 20000 in
theorem ggX5_count_X5_countRules : GoodIn wsX5_count wsX5_countRules := goodIn_r _ [12, 13, 14, 15, 16, 17, 18, 19, 20, 21, 22, 23, 24, 42, 43, 44, 45, 46, 47] (by decide +kernel) (by decide +kernel)
set_option maxRecDepth 20000 in
theorem gX5_count_X5_countRules : GoodIn wsX5_count (wsV RX5 189 RX5 yX5_countRules wsX5_countRules) := goodIn_app (goodIn_of _ (by decide +kernel)) ggX5_count_X5_countRules
theorem dX5_count_0 : decode cX5_count 0 = .ok (.iload_n 1, 1) := by decide +kernel
theorem dX5_count_1 : decode cX5_count 1 = .ok (.tableswitch 81 0 5 #[39, 47, 55, 63, 71, 76], 39) := by decide +kernel
theorem dX5_count_40 : decode cX5_count 40 = .ok (.aload_n 0, 1) := by decide +kernel
theorem dX5_count_41 : decode cX5_count 41 = .ok (.getfield 23, 3) := by decide +kernel
theorem dX5_count_44 : decode cX5_count 44 = .ok (.getfield 93, 3) := by decide +kernel
theorem dX5_count_47 : decode cX5_count 47 = .ok (.ireturn, 1) := by decide +kernel
theorem dX5_count_48 : decode cX5_count 48 = .ok (.aload_n 0, 1) := by decide +kernel
theorem dX5_count_49 : decode cX5_count 49 = .ok (.getfield 23, 3) := by decide +kernel
theorem dX5_count_52 : decode cX5_count 52 = .ok (.getfield 87, 3) := by decide +kernel
theorem dX5_count_55 : decode cX5_count 55 = .ok (.ireturn, 1) := by decide +kernel
theorem dX5_count_56 : decode cX5_count 56 = .ok (.aload_n 0, 1) := by decide +kernel
theorem dX5_count_57 : decode cX5_count 57 = .ok (.getfield 32, 3) := by decide +kernel
theorem dX5_count_60 : decode cX5_count 60 = .ok (.getfield 123, 3) := by decide +kernel
theorem dX5_count_63 : decode cX5_count 63 = .ok (.ireturn, 1) := by decide +kernel
theorem dX5_count_64 : decode cX5_count 64 = .ok (.aload_n 0, 1) := by decide +kernel
theorem dX5_count_65 : decode cX5_count 65 = .ok (.getfield 32, 3) := by decide +kernel
theorem dX5_count_68 : decode cX5_count 68 = .ok (.getfield 129, 3) := by decide +kernel
theorem dX5_count_71 : decode cX5_count 71 = .ok (.ireturn, 1) := by decide +kernel
theorem dX5_count_72 : decode cX5_count 72 = .ok (.aload_n 0, 1) := by decide +kernel
theorem dX5_count_73 : decode cX5_count 73 = .ok (.invokevirtual 189, 3) := by decide +kernel
theorem dX5_count_76 : decode cX5_count 76 = .ok (.ireturn, 1) := by decide +kernel
theorem dX5_count_77 : decode cX5_count 77 = .ok (.aload_n 0, 1) := by decide +kernel
theorem dX5_count_78 : decode cX5_count 78 = .ok (.getfield 13, 3) := by decide +kernel
theorem dX5_count_81 : decode cX5_count 81 = .ok (.ireturn, 1) := by decide +kernel
theorem dX5_count_82 : decode cX5_count 82 = .ok (.iconst (-1), 1) := by decide +kernel
theorem dX5_count_83 : decode cX5_count 83 = .ok (.ireturn, 1) := by decide +kernel
theorem dX5_putBytes_0 : decode cX5_putBytes 0 = .ok (.bipush 24, 2) := by decide +kernel
theorem dX5_putBytes_2 : decode cX5_putBytes 2 = .ok (.istore_n 2, 1) := by decide +kernel
theorem dX5_putBytes_3 : decode cX5_putBytes 3 = .ok (.iload_n 2, 1) := by decide +kernel
theorem dX5_putBytes_4 : decode cX5_putBytes 4 = .ok (.ifCond .lt 42, 3) := by decide +kernel
theorem dX5_putBytes_7 : decode cX5_putBytes 7 = .ok (.aload_n 0, 1) := by decide +kernel
theorem dX5_putBytes_8 : decode cX5_putBytes 8 = .ok (.getfield 13, 3) := by decide +kernel
theorem dX5_putBytes_11 : decode cX5_putBytes 11 = .ok (.sipush 2000, 3) := by decide +kernel
theorem dX5_putBytes_14 : decode cX5_putBytes 14 = .ok (.if_icmp .ge 26, 3) := by decide +kernel
theorem dX5_putBytes_17 : decode cX5_putBytes 17 = .ok (.aload_n 0, 1) := by decide +kernel
theorem dX5_putBytes_18 : decode cX5_putBytes 18 = .ok (.getfield 9, 3) := by decide +kernel
theorem dX5_putBytes_21 : decode cX5_putBytes 21 = .ok (.aload_n 0, 1) := by decide +kernel
theorem dX5_putBytes_22 : decode cX5_putBytes 22 = .ok (.getfield 13, 3) := by decide +kernel
theorem dX5_putBytes_25 : decode cX5_putBytes 25 = .ok (.iload_n 1, 1) := by decide +kernel
theorem dX5_putBytes_26 : decode cX5_putBytes 26 = .ok (.iload_n 2, 1) := by decide +kernel
theorem dX5_putBytes_27 : decode cX5_putBytes 27 = .ok (.ishr, 1) := by decide +kernel
theorem dX5_putBytes_28 : decode cX5_putBytes 28 = .ok (.i2b, 1) := by decide +kernel
theorem dX5_putBytes_29 : decode cX5_putBytes 29 = .ok (.bastore, 1) := by decide +kernel
theorem dX5_putBytes_30 : decode cX5_putBytes 30 = .ok (.aload_n 0, 1) := by decide +kernel
theorem dX5_putBytes_31 : decode cX5_putBytes 31 = .ok (.dup, 1) := by decide +kernel
theorem dX5_putBytes_32 : decode cX5_putBytes 32 = .ok (.getfield 13, 3) := by decide +kernel
theorem dX5_putBytes_35 : decode cX5_putBytes 35 = .ok (.iconst 1, 1) := by decide +kernel
theorem dX5_putBytes_36 : decode cX5_putBytes 36 = .ok (.iadd, 1) := by decide +kernel
theorem dX5_putBytes_37 : decode cX5_putBytes 37 = .ok (.putfield 13, 3) := by decide +kernel
theorem dX5_putBytes_40 : decode cX5_putBytes 40 = .ok (.iinc 2 (-8), 3) := by decide +kernel
theorem dX5_putBytes_43 : decode cX5_putBytes 43 = .ok (.goto (-40), 3) := by decide +kernel
theorem dX5_putBytes_46 : decode cX5_putBytes 46 = .ok (.return_, 1) := by decide +kernel
theorem dX5_countRules_0 : decode cX5_countRules 0 = .ok (.iconst 0, 1) := by decide +kernel
theorem dX5_countRules_1 : decode cX5_countRules 1 = .ok (.istore_n 1, 1) := by decide +kernel
theorem dX5_countRules_2 : decode cX5_countRules 2 = .ok (.iconst 0, 1) := by decide +kernel
theorem dX5_countRules_3 : decode cX5_countRules 3 = .ok (.istore_n 2, 1) := by decide +kernel
theorem dX5_countRules_4 : decode cX5_countRules 4 = .ok (.iload_n 2, 1) := by decide +kernel
theorem dX5_countRules_5 : decode cX5_countRules 5 = .ok (.bipush 6, 2) := by decide +kernel
theorem dX5_countRules_7 : decode cX5_countRules 7 = .ok (.if_icmp .ge 21, 3) := by decide +kernel
theorem dX5_countRules_10 : decode cX5_countRules 10 = .ok (.iload_n 1, 1) := by decide +kernel
theorem dX5_countRules_11 : decode cX5_countRules 11 = .ok (.aload_n 0, 1) := by decide +kernel
theorem dX5_countRules_12 : decode cX5_countRules 12 = .ok (.getfield 38, 3) := by decide +kernel
theorem dX5_countRules_15 : decode cX5_countRules 15 = .ok (.iload_n 2, 1) := by decide +kernel
theorem dX5_countRules_16 : decode cX5_countRules 16 = .ok (.aaload, 1) := by decide +kernel
theorem dX5_countRules_17 : decode cX5_countRules 17 = .ok (.getfield 193, 3) := by decide +kernel
theorem dX5_countRules_20 : decode cX5_countRules 20 = .ok (.iadd, 1) := by decide +kernel
theorem dX5_countRules_21 : decode cX5_countRules 21 = .ok (.istore_n 1, 1) := by decide +kernel
theorem dX5_countRules_22 : decode cX5_countRules 22 = .ok (.iinc 2 1, 3) := by decide +kernel
theorem dX5_countRules_25 : decode cX5_countRules 25 = .ok (.goto (-21), 3) := by decide +kernel
theorem dX5_countRules_28 : decode cX5_countRules 28 = .ok (.iload_n 1, 1) := by decide +kernel
theorem dX5_countRules_29 : decode cX5_countRules 29 = .ok (.ireturn, 1) := by decide +kernel
theorem dX5_forgetAnswers_0 : decode cX5_forgetAnswers 0 = .ok (.aload_n 0, 1) := by decide +kernel
theorem dX5_forgetAnswers_1 : decode cX5_forgetAnswers 1 = .ok (.getfield 32, 3) := by decide +kernel
theorem dX5_forgetAnswers_4 : decode cX5_forgetAnswers 4 = .ok (.iconst (-1), 1) := by decide +kernel
theorem dX5_forgetAnswers_5 : decode cX5_forgetAnswers 5 = .ok (.putfield 196, 3) := by decide +kernel
theorem dX5_forgetAnswers_8 : decode cX5_forgetAnswers 8 = .ok (.aload_n 0, 1) := by decide +kernel
theorem dX5_forgetAnswers_9 : decode cX5_forgetAnswers 9 = .ok (.getfield 61, 3) := by decide +kernel
theorem dX5_forgetAnswers_12 : decode cX5_forgetAnswers 12 = .ok (.iconst (-1), 1) := by decide +kernel
theorem dX5_forgetAnswers_13 : decode cX5_forgetAnswers 13 = .ok (.putfield 199, 3) := by decide +kernel
theorem dX5_forgetAnswers_16 : decode cX5_forgetAnswers 16 = .ok (.return_, 1) := by decide +kernel
set_option maxRecDepth 20000 in
theorem ggX5_isAsked_X4_isLand : GoodIn wsX5_isAsked wsX4_isLand := goodIn_r _ [7, 8, 25, 26, 27, 28, 29, 30, 31, 32] (by decide +kernel) (by decide +kernel)
set_option maxRecDepth 20000 in
theorem gX5_isAsked_X4_isLand : GoodIn wsX5_isAsked (wsV RX5 73 RX4 yX4_isLand wsX4_isLand) := goodIn_app (goodIn_of _ (by decide +kernel)) ggX5_isAsked_X4_isLand
set_option maxRecDepth 20000 in
theorem ggX5_isAsked_X0_canBeKnownBy : GoodIn wsX5_isAsked wsX0_canBeKnownBy := goodIn_r _ [13, 14, 33, 34, 35, 36, 37, 38, 39, 40, 41] (by decide +kernel) (by decide +kernel)
set_option maxRecDepth 20000 in
theorem gX5_isAsked_X0_canBeKnownBy : GoodIn wsX5_isAsked (wsV RX5 148 RX0 yX0_canBeKnownBy wsX0_canBeKnownBy) := goodIn_app (goodIn_of _ (by decide +kernel)) ggX5_isAsked_X0_canBeKnownBy
theorem dX5_isAsked_0 : decode cX5_isAsked 0 = .ok (.aload_n 0, 1) := by decide +kernel
theorem dX5_isAsked_1 : decode cX5_isAsked 1 = .ok (.getfield 23, 3) := by decide +kernel
theorem dX5_isAsked_4 : decode cX5_isAsked 4 = .ok (.iload_n 1, 1) := by decide +kernel
theorem dX5_isAsked_5 : decode cX5_isAsked 5 = .ok (.invokevirtual 73, 3) := by decide +kernel
theorem dX5_isAsked_8 : decode cX5_isAsked 8 = .ok (.ifCond .eq 30, 3) := by decide +kernel
theorem dX5_isAsked_11 : decode cX5_isAsked 11 = .ok (.iload_n 2, 1) := by decide +kernel
theorem dX5_isAsked_12 : decode cX5_isAsked 12 = .ok (.iload_n 3, 1) := by decide +kernel
theorem dX5_isAsked_13 : decode cX5_isAsked 13 = .ok (.if_icmp .lt 25, 3) := by decide +kernel
theorem dX5_isAsked_16 : decode cX5_isAsked 16 = .ok (.iload_n 2, 1) := by decide +kernel
theorem dX5_isAsked_17 : decode cX5_isAsked 17 = .ok (.bipush 14, 2) := by decide +kernel
theorem dX5_isAsked_19 : decode cX5_isAsked 19 = .ok (.if_icmp .gt 19, 3) := by decide +kernel
theorem dX5_isAsked_22 : decode cX5_isAsked 22 = .ok (.aload_n 0, 1) := by decide +kernel
theorem dX5_isAsked_23 : decode cX5_isAsked 23 = .ok (.getfield 32, 3) := by decide +kernel
theorem dX5_isAsked_26 : decode cX5_isAsked 26 = .ok (.iload 4, 2) := by decide +kernel
theorem dX5_isAsked_28 : decode cX5_isAsked 28 = .ok (.invokevirtual 148, 3) := by decide +kernel
theorem dX5_isAsked_31 : decode cX5_isAsked 31 = .ok (.ifCond .eq 7, 3) := by decide +kernel
theorem dX5_isAsked_34 : decode cX5_isAsked 34 = .ok (.iconst 1, 1) := by decide +kernel
theorem dX5_isAsked_35 : decode cX5_isAsked 35 = .ok (.goto 4, 3) := by decide +kernel
theorem dX5_isAsked_38 : decode cX5_isAsked 38 = .ok (.iconst 0, 1) := by decide +kernel
theorem dX5_isAsked_39 : decode cX5_isAsked 39 = .ok (.ireturn, 1) := by decide +kernel
theorem dX5_isEvening_0 : decode cX5_isEvening 0 = .ok (.iload_n 0, 1) := by decide +kernel
theorem dX5_isEvening_1 : decode cX5_isEvening 1 = .ok (.ifCond .lt 14, 3) := by decide +kernel
theorem dX5_isEvening_4 : decode cX5_isEvening 4 = .ok (.iload_n 0, 1) := by decide +kernel
theorem dX5_isEvening_5 : decode cX5_isEvening 5 = .ok (.sipush 400, 3) := by decide +kernel
theorem dX5_isEvening_8 : decode cX5_isEvening 8 = .ok (.if_icmp .ge 7, 3) := by decide +kernel
theorem dX5_isEvening_11 : decode cX5_isEvening 11 = .ok (.iconst 1, 1) := by decide +kernel
theorem dX5_isEvening_12 : decode cX5_isEvening 12 = .ok (.goto 4, 3) := by decide +kernel
theorem dX5_isEvening_15 : decode cX5_isEvening 15 = .ok (.iconst 0, 1) := by decide +kernel
theorem dX5_isEvening_16 : decode cX5_isEvening 16 = .ok (.ireturn, 1) := by decide +kernel
theorem dJ9_max_7cf53_0 : decode cJ9_max_7cf53 0 = .ok (.iload_n 0, 1) := by decide +kernel
theorem dJ9_max_7cf53_1 : decode cJ9_max_7cf53 1 = .ok (.iload_n 1, 1) := by decide +kernel
theorem dJ9_max_7cf53_2 : decode cJ9_max_7cf53 2 = .ok (.if_icmp .lt 7, 3) := by decide +kernel
theorem dJ9_max_7cf53_5 : decode cJ9_max_7cf53 5 = .ok (.iload_n 0, 1) := by decide +kernel
theorem dJ9_max_7cf53_6 : decode cJ9_max_7cf53 6 = .ok (.goto 4, 3) := by decide +kernel
theorem dJ9_max_7cf53_9 : decode cJ9_max_7cf53 9 = .ok (.iload_n 1, 1) := by decide +kernel
theorem dJ9_max_7cf53_10 : decode cJ9_max_7cf53 10 = .ok (.ireturn, 1) := by decide +kernel
theorem dJ9_min_7cf53_0 : decode cJ9_min_7cf53 0 = .ok (.iload_n 0, 1) := by decide +kernel
theorem dJ9_min_7cf53_1 : decode cJ9_min_7cf53 1 = .ok (.iload_n 1, 1) := by decide +kernel
theorem dJ9_min_7cf53_2 : decode cJ9_min_7cf53 2 = .ok (.if_icmp .gt 7, 3) := by decide +kernel
theorem dJ9_min_7cf53_5 : decode cJ9_min_7cf53 5 = .ok (.iload_n 0, 1) := by decide +kernel
theorem dJ9_min_7cf53_6 : decode cJ9_min_7cf53 6 = .ok (.goto 4, 3) := by decide +kernel
theorem dJ9_min_7cf53_9 : decode cJ9_min_7cf53 9 = .ok (.iload_n 1, 1) := by decide +kernel
theorem dJ9_min_7cf53_10 : decode cJ9_min_7cf53 10 = .ok (.ireturn, 1) := by decide +kernel
set_option maxRecDepth 20000 in
theorem ggJ0_length_8abf5_J0_coder_7d493 : GoodIn wsJ0_length_8abf5 wsJ0_coder_7d493 := goodIn_r _ [6, 7, 8] (by decide +kernel) (by decide +kernel)
set_option maxRecDepth 20000 in
theorem gJ0_length_8abf5_J0_coder_7d493 : GoodIn wsJ0_length_8abf5 (wsV RJ0 335 RJ0 yJ0_coder_7d493 wsJ0_coder_7d493) := goodIn_app (goodIn_of _ (by decide +kernel)) ggJ0_length_8abf5_J0_coder_7d493
theorem dJ0_length_8abf5_0 : decode cJ0_length_8abf5 0 = .ok (.aload_n 0, 1) := by decide +kernel
theorem dJ0_length_8abf5_1 : decode cJ0_length_8abf5 1 = .ok (.getfield 9, 3) := by decide +kernel
theorem dJ0_length_8abf5_4 : decode cJ0_length_8abf5 4 = .ok (.arraylength, 1) := by decide +kernel
theorem dJ0_length_8abf5_5 : decode cJ0_length_8abf5 5 = .ok (.aload_n 0, 1) := by decide +kernel
theorem dJ0_length_8abf5_6 : decode cJ0_length_8abf5 6 = .ok (.invokevirtual 335, 3) := by decide +kernel
theorem dJ0_length_8abf5_9 : decode cJ0_length_8abf5 9 = .ok (.ishr, 1) := by decide +kernel
theorem dJ0_length_8abf5_10 : decode cJ0_length_8abf5 10 = .ok (.ireturn, 1) := by decide +kernel
set_option maxRecDepth 20000 in
theorem ggJ0_charAt_5068e_J0_isLatin1_aae02 : GoodIn wsJ0_charAt_5068e wsJ0_isLatin1_aae02 := goodIn_r _ [6, 7, 8] (by decide +kernel) (by decide +kernel)
set_option maxRecDepth 20000 in
theorem gJ0_charAt_5068e_J0_isLatin1_aae02 : GoodIn wsJ0_charAt_5068e (wsV RJ0 492 RJ0 yJ0_isLatin1_aae02 wsJ0_isLatin1_aae02) := goodIn_app (goodIn_of _ (by decide +kernel)) ggJ0_charAt_5068e_J0_isLatin1_aae02
set_option maxRecDepth 20000 in
theorem ggJ0_charAt_5068e_J1_charAt_3b067 : GoodIn wsJ0_charAt_5068e wsJ1_charAt_3b067 := goodIn_r _ [12, 13, 14, 5, 15, 16, 17, 18, 19, 20] (by decide +kernel) (by decide +kernel)
set_option maxRecDepth 20000 in
theorem gJ0_charAt_5068e_J1_charAt_3b067 : GoodIn wsJ0_charAt_5068e (va_wsS RJ0 495 yJ1_charAt_3b067 wsJ1_charAt_3b067) := goodIn_app (goodIn_of _ (by decide +kernel)) ggJ0_charAt_5068e_J1_charAt_3b067
set_option maxRecDepth 20000 in
theorem ggJ0_charAt_5068e_J2_charAt_3b067 : GoodIn wsJ0_charAt_5068e wsJ2_charAt_3b067 := goodIn_r _ [24, 25, 26, 23, 27, 28, 29, 30, 31, 14, 5, 15, 16, 17, 18, 19, 20, 32, 33, 34, 35, 36, 37] (by decide +kernel) (by decide +kernel)
set_option maxRecDepth 20000 in
theorem gJ0_charAt_5068e_J2_charAt_3b067 : GoodIn wsJ0_charAt_5068e (va_wsS RJ0 498 yJ2_charAt_3b067 wsJ2_charAt_3b067) := goodIn_app (goodIn_of _ (by decide +kernel)) ggJ0_charAt_5068e_J2_charAt_3b067
theorem dJ0_charAt_5068e_0 : decode cJ0_charAt_5068e 0 = .ok (.aload_n 0, 1) := by decide +kernel
theorem dJ0_charAt_5068e_1 : decode cJ0_charAt_5068e 1 = .ok (.invokevirtual 492, 3) := by decide +kernel
theorem dJ0_charAt_5068e_4 : decode cJ0_charAt_5068e 4 = .ok (.ifCond .eq 12, 3) := by decide +kernel
theorem dJ0_charAt_5068e_7 : decode cJ0_charAt_5068e 7 = .ok (.aload_n 0, 1) := by decide +kernel
theorem dJ0_charAt_5068e_8 : decode cJ0_charAt_5068e 8 = .ok (.getfield 9, 3) := by decide +kernel
theorem dJ0_charAt_5068e_11 : decode cJ0_charAt_5068e 11 = .ok (.iload_n 1, 1) := by decide +kernel
theorem dJ0_charAt_5068e_12 : decode cJ0_charAt_5068e 12 = .ok (.invokestatic 495, 3) := by decide +kernel
theorem dJ0_charAt_5068e_15 : decode cJ0_charAt_5068e 15 = .ok (.ireturn, 1) := by decide +kernel
theorem dJ0_charAt_5068e_16 : decode cJ0_charAt_5068e 16 = .ok (.aload_n 0, 1) := by decide +kernel
theorem dJ0_charAt_5068e_17 : decode cJ0_charAt_5068e 17 = .ok (.getfield 9, 3) := by decide +kernel
theorem dJ0_charAt_5068e_20 : decode cJ0_charAt_5068e 20 = .ok (.iload_n 1, 1) := by decide +kernel
theorem dJ0_charAt_5068e_21 : decode cJ0_charAt_5068e 21 = .ok (.invokestatic 498, 3) := by decide +kernel
theorem dJ0_charAt_5068e_24 : decode cJ0_charAt_5068e 24 = .ok (.ireturn, 1) := by decide +kernel
theorem dJ0_coder_7d493_0 : decode cJ0_coder_7d493 0 = .ok (.getstatic 38, 3) := by decide +kernel
theorem dJ0_coder_7d493_3 : decode cJ0_coder_7d493 3 = .ok (.ifCond .eq 10, 3) := by decide +kernel
theorem dJ0_coder_7d493_6 : decode cJ0_coder_7d493 6 = .ok (.aload_n 0, 1) := by decide +kernel
theorem dJ0_coder_7d493_7 : decode cJ0_coder_7d493 7 = .ok (.getfield 15, 3) := by decide +kernel
theorem dJ0_coder_7d493_10 : decode cJ0_coder_7d493 10 = .ok (.goto 4, 3) := by decide +kernel
theorem dJ0_coder_7d493_13 : decode cJ0_coder_7d493 13 = .ok (.iconst 1, 1) := by decide +kernel
theorem dJ0_coder_7d493_14 : decode cJ0_coder_7d493 14 = .ok (.ireturn, 1) := by decide +kernel
theorem dJ0_isLatin1_aae02_0 : decode cJ0_isLatin1_aae02 0 = .ok (.getstatic 38, 3) := by decide +kernel
theorem dJ0_isLatin1_aae02_3 : decode cJ0_isLatin1_aae02 3 = .ok (.ifCond .eq 14, 3) := by decide +kernel
theorem dJ0_isLatin1_aae02_6 : decode cJ0_isLatin1_aae02 6 = .ok (.aload_n 0, 1) := by decide +kernel
theorem dJ0_isLatin1_aae02_7 : decode cJ0_isLatin1_aae02 7 = .ok (.getfield 15, 3) := by decide +kernel
theorem dJ0_isLatin1_aae02_10 : decode cJ0_isLatin1_aae02 10 = .ok (.ifCond .ne 7, 3) := by decide +kernel
theorem dJ0_isLatin1_aae02_13 : decode cJ0_isLatin1_aae02 13 = .ok (.iconst 1, 1) := by decide +kernel
theorem dJ0_isLatin1_aae02_14 : decode cJ0_isLatin1_aae02 14 = .ok (.goto 4, 3) := by decide +kernel
theorem dJ0_isLatin1_aae02_17 : decode cJ0_isLatin1_aae02 17 = .ok (.iconst 0, 1) := by decide +kernel
theorem dJ0_isLatin1_aae02_18 : decode cJ0_isLatin1_aae02 18 = .ok (.ireturn, 1) := by decide +kernel
set_option maxRecDepth 20000 in
theorem ggJ0_checkIndex_df160_J3_checkIndex_8e157 : GoodIn wsJ0_checkIndex_df160 wsJ3_checkIndex_8e157 := goodIn_r _ [5] (by decide +kernel) (by decide +kernel)
set_option maxRecDepth 20000 in
theorem gJ0_checkIndex_df160_J3_checkIndex_8e157 : GoodIn wsJ0_checkIndex_df160 (va_wsS RJ0 1059 yJ3_checkIndex_8e157 wsJ3_checkIndex_8e157) := goodIn_app (goodIn_of _ (by decide +kernel)) ggJ0_checkIndex_df160_J3_checkIndex_8e157
theorem dJ0_checkIndex_df160_0 : decode cJ0_checkIndex_df160 0 = .ok (.iload_n 0, 1) := by decide +kernel
theorem dJ0_checkIndex_df160_1 : decode cJ0_checkIndex_df160 1 = .ok (.iload_n 1, 1) := by decide +kernel
theorem dJ0_checkIndex_df160_2 : decode cJ0_checkIndex_df160 2 = .ok (.getstatic 1053, 3) := by decide +kernel
theorem dJ0_checkIndex_df160_5 : decode cJ0_checkIndex_df160 5 = .ok (.invokestatic 1059, 3) := by decide +kernel
theorem dJ0_checkIndex_df160_8 : decode cJ0_checkIndex_df160 8 = .ok (.pop, 1) := by decide +kernel
theorem dJ0_checkIndex_df160_9 : decode cJ0_checkIndex_df160 9 = .ok (.return_, 1) := by decide +kernel
set_option maxRecDepth 20000 in
theorem ggJ1_charAt_3b067_J0_checkIndex_df160 : GoodIn wsJ1_charAt_3b067 wsJ0_checkIndex_df160 := goodIn_r _ [4, 5, 6, 7, 8, 9] (by decide +kernel) (by decide +kernel)
set_option maxRecDepth 20000 in
theorem gJ1_charAt_3b067_J0_checkIndex_df160 : GoodIn wsJ1_charAt_3b067 (va_wsS RJ1 9 yJ0_checkIndex_df160 wsJ0_checkIndex_df160) := goodIn_app (goodIn_of _ (by decide +kernel)) ggJ1_charAt_3b067_J0_checkIndex_df160
theorem dJ1_charAt_3b067_0 : decode cJ1_charAt_3b067 0 = .ok (.iload_n 1, 1) := by decide +kernel
theorem dJ1_charAt_3b067_1 : decode cJ1_charAt_3b067 1 = .ok (.aload_n 0, 1) := by decide +kernel
theorem dJ1_charAt_3b067_2 : decode cJ1_charAt_3b067 2 = .ok (.arraylength, 1) := by decide +kernel
theorem dJ1_charAt_3b067_3 : decode cJ1_charAt_3b067 3 = .ok (.invokestatic 9, 3) := by decide +kernel
theorem dJ1_charAt_3b067_6 : decode cJ1_charAt_3b067 6 = .ok (.aload_n 0, 1) := by decide +kernel
theorem dJ1_charAt_3b067_7 : decode cJ1_charAt_3b067 7 = .ok (.iload_n 1, 1) := by decide +kernel
theorem dJ1_charAt_3b067_8 : decode cJ1_charAt_3b067 8 = .ok (.baload, 1) := by decide +kernel
theorem dJ1_charAt_3b067_9 : decode cJ1_charAt_3b067 9 = .ok (.sipush 255, 3) := by decide +kernel
theorem dJ1_charAt_3b067_12 : decode cJ1_charAt_3b067 12 = .ok (.iand, 1) := by decide +kernel
theorem dJ1_charAt_3b067_13 : decode cJ1_charAt_3b067 13 = .ok (.i2c, 1) := by decide +kernel
theorem dJ1_charAt_3b067_14 : decode cJ1_charAt_3b067 14 = .ok (.ireturn, 1) := by decide +kernel
set_option maxRecDepth 20000 in
theorem ggJ2_getChar_3b067_J2_length_9d52b : GoodIn wsJ2_getChar_3b067 wsJ2_length_9d52b := goodIn_r _ [7] (by decide +kernel) (by decide +kernel)
set_option maxRecDepth 20000 in
theorem gJ2_getChar_3b067_J2_length_9d52b : GoodIn wsJ2_getChar_3b067 (va_wsS RJ2 48 yJ2_length_9d52b wsJ2_length_9d52b) := goodIn_app (goodIn_of _ (by decide +kernel)) ggJ2_getChar_3b067_J2_length_9d52b
theorem dJ2_getChar_3b067_0 : decode cJ2_getChar_3b067 0 = .ok (.getstatic 44, 3) := by decide +kernel
theorem dJ2_getChar_3b067_3 : decode cJ2_getChar_3b067 3 = .ok (.ifCond .ne 25, 3) := by decide +kernel
theorem dJ2_getChar_3b067_6 : decode cJ2_getChar_3b067 6 = .ok (.iload_n 1, 1) := by decide +kernel
theorem dJ2_getChar_3b067_7 : decode cJ2_getChar_3b067 7 = .ok (.ifCond .lt 11, 3) := by decide +kernel
theorem dJ2_getChar_3b067_10 : decode cJ2_getChar_3b067 10 = .ok (.iload_n 1, 1) := by decide +kernel
theorem dJ2_getChar_3b067_11 : decode cJ2_getChar_3b067 11 = .ok (.aload_n 0, 1) := by decide +kernel
theorem dJ2_getChar_3b067_12 : decode cJ2_getChar_3b067 12 = .ok (.invokestatic 48, 3) := by decide +kernel
theorem dJ2_getChar_3b067_15 : decode cJ2_getChar_3b067 15 = .ok (.if_icmp .lt 13, 3) := by decide +kernel
theorem dJ2_getChar_3b067_18 : decode cJ2_getChar_3b067 18 = .ok (.new 52, 3) := by decide +kernel
theorem dJ2_getChar_3b067_21 : decode cJ2_getChar_3b067 21 = .ok (.dup, 1) := by decide +kernel
theorem dJ2_getChar_3b067_22 : decode cJ2_getChar_3b067 22 = .ok (.ldc 54, 2) := by decide +kernel
theorem dJ2_getChar_3b067_24 : decode cJ2_getChar_3b067 24 = .ok (.invokespecial 56, 3) := by decide +kernel
theorem dJ2_getChar_3b067_27 : decode cJ2_getChar_3b067 27 = .ok (.athrow, 1) := by decide +kernel
theorem dJ2_getChar_3b067_28 : decode cJ2_getChar_3b067 28 = .ok (.iload_n 1, 1) := by decide +kernel
theorem dJ2_getChar_3b067_29 : decode cJ2_getChar_3b067 29 = .ok (.iconst 1, 1) := by decide +kernel
theorem dJ2_getChar_3b067_30 : decode cJ2_getChar_3b067 30 = .ok (.ishl, 1) := by decide +kernel
theorem dJ2_getChar_3b067_31 : decode cJ2_getChar_3b067 31 = .ok (.istore_n 1, 1) := by decide +kernel
theorem dJ2_getChar_3b067_32 : decode cJ2_getChar_3b067 32 = .ok (.aload_n 0, 1) := by decide +kernel
theorem dJ2_getChar_3b067_33 : decode cJ2_getChar_3b067 33 = .ok (.iload_n 1, 1) := by decide +kernel
theorem dJ2_getChar_3b067_34 : decode cJ2_getChar_3b067 34 = .ok (.iinc 1 1, 3) := by decide +kernel
theorem dJ2_getChar_3b067_37 : decode cJ2_getChar_3b067 37 = .ok (.baload, 1) := by decide +kernel
theorem dJ2_getChar_3b067_38 : decode cJ2_getChar_3b067 38 = .ok (.sipush 255, 3) := by decide +kernel
theorem dJ2_getChar_3b067_41 : decode cJ2_getChar_3b067 41 = .ok (.iand, 1) := by decide +kernel
theorem dJ2_getChar_3b067_42 : decode cJ2_getChar_3b067 42 = .ok (.getstatic 59, 3) := by decide +kernel
theorem dJ2_getChar_3b067_45 : decode cJ2_getChar_3b067 45 = .ok (.ishl, 1) := by decide +kernel
theorem dJ2_getChar_3b067_46 : decode cJ2_getChar_3b067 46 = .ok (.aload_n 0, 1) := by decide +kernel
theorem dJ2_getChar_3b067_47 : decode cJ2_getChar_3b067 47 = .ok (.iload_n 1, 1) := by decide +kernel
theorem dJ2_getChar_3b067_48 : decode cJ2_getChar_3b067 48 = .ok (.baload, 1) := by decide +kernel
theorem dJ2_getChar_3b067_49 : decode cJ2_getChar_3b067 49 = .ok (.sipush 255, 3) := by decide +kernel
theorem dJ2_getChar_3b067_52 : decode cJ2_getChar_3b067 52 = .ok (.iand, 1) := by decide +kernel
theorem dJ2_getChar_3b067_53 : decode cJ2_getChar_3b067 53 = .ok (.getstatic 63, 3) := by decide +kernel
theorem dJ2_getChar_3b067_56 : decode cJ2_getChar_3b067 56 = .ok (.ishl, 1) := by decide +kernel
theorem dJ2_getChar_3b067_57 : decode cJ2_getChar_3b067 57 = .ok (.ior, 1) := by decide +kernel
theorem dJ2_getChar_3b067_58 : decode cJ2_getChar_3b067 58 = .ok (.i2c, 1) := by decide +kernel
theorem dJ2_getChar_3b067_59 : decode cJ2_getChar_3b067 59 = .ok (.ireturn, 1) := by decide +kernel
theorem dJ2_length_9d52b_0 : decode cJ2_length_9d52b 0 = .ok (.aload_n 0, 1) := by decide +kernel
theorem dJ2_length_9d52b_1 : decode cJ2_length_9d52b 1 = .ok (.arraylength, 1) := by decide +kernel
theorem dJ2_length_9d52b_2 : decode cJ2_length_9d52b 2 = .ok (.iconst 1, 1) := by decide +kernel
theorem dJ2_length_9d52b_3 : decode cJ2_length_9d52b 3 = .ok (.ishr, 1) := by decide +kernel
theorem dJ2_length_9d52b_4 : decode cJ2_length_9d52b 4 = .ok (.ireturn, 1) := by decide +kernel
set_option maxRecDepth 20000 in
theorem ggJ2_charAt_3b067_J2_checkIndex_2214a : GoodIn wsJ2_charAt_3b067 wsJ2_checkIndex_2214a := goodIn_r _ [4, 5, 6, 3, 7, 8, 9, 10, 11, 12, 13, 14, 15, 16] (by decide +kernel) (by decide +kernel)
set_option maxRecDepth 20000 in
theorem gJ2_charAt_3b067_J2_checkIndex_2214a : GoodIn wsJ2_charAt_3b067 (va_wsS RJ2 67 yJ2_checkIndex_2214a wsJ2_checkIndex_2214a) := goodIn_app (goodIn_of _ (by decide +kernel)) ggJ2_charAt_3b067_J2_checkIndex_2214a
set_option maxRecDepth 20000 in
theorem ggJ2_charAt_3b067_J2_getChar_3b067 : GoodIn wsJ2_charAt_3b067 wsJ2_getChar_3b067 := goodIn_r _ [19, 20, 21, 22, 5, 6, 3, 7] (by decide +kernel) (by decide +kernel)
set_option maxRecDepth 20000 in
theorem gJ2_charAt_3b067_J2_getChar_3b067 : GoodIn wsJ2_charAt_3b067 (va_wsS RJ2 71 yJ2_getChar_3b067 wsJ2_getChar_3b067) := goodIn_app (goodIn_of _ (by decide +kernel)) ggJ2_charAt_3b067_J2_getChar_3b067
theorem dJ2_charAt_3b067_0 : decode cJ2_charAt_3b067 0 = .ok (.iload_n 1, 1) := by decide +kernel
theorem dJ2_charAt_3b067_1 : decode cJ2_charAt_3b067 1 = .ok (.aload_n 0, 1) := by decide +kernel
theorem dJ2_charAt_3b067_2 : decode cJ2_charAt_3b067 2 = .ok (.invokestatic 67, 3) := by decide +kernel
theorem dJ2_charAt_3b067_5 : decode cJ2_charAt_3b067 5 = .ok (.aload_n 0, 1) := by decide +kernel
theorem dJ2_charAt_3b067_6 : decode cJ2_charAt_3b067 6 = .ok (.iload_n 1, 1) := by decide +kernel
theorem dJ2_charAt_3b067_7 : decode cJ2_charAt_3b067 7 = .ok (.invokestatic 71, 3) := by decide +kernel
theorem dJ2_charAt_3b067_10 : decode cJ2_charAt_3b067 10 = .ok (.ireturn, 1) := by decide +kernel
set_option maxRecDepth 20000 in
theorem ggJ2_checkIndex_2214a_J2_length_9d52b : GoodIn wsJ2_checkIndex_2214a wsJ2_length_9d52b := goodIn_r _ [4] (by decide +kernel) (by decide +kernel)
set_option maxRecDepth 20000 in
theorem gJ2_checkIndex_2214a_J2_length_9d52b : GoodIn wsJ2_checkIndex_2214a (va_wsS RJ2 48 yJ2_length_9d52b wsJ2_length_9d52b) := goodIn_app (goodIn_of _ (by decide +kernel)) ggJ2_checkIndex_2214a_J2_length_9d52b
set_option maxRecDepth 20000 in
theorem ggJ2_checkIndex_2214a_J0_checkIndex_df160 : GoodIn wsJ2_checkIndex_2214a wsJ0_checkIndex_df160 := goodIn_r _ [8, 9, 10, 11, 12, 13] (by decide +kernel) (by decide +kernel)
set_option maxRecDepth 20000 in
theorem gJ2_checkIndex_2214a_J0_checkIndex_df160 : GoodIn wsJ2_checkIndex_2214a (va_wsS RJ2 414 yJ0_checkIndex_df160 wsJ0_checkIndex_df160) := goodIn_app (goodIn_of _ (by decide +kernel)) ggJ2_checkIndex_2214a_J0_checkIndex_df160
theorem dJ2_checkIndex_2214a_0 : decode cJ2_checkIndex_2214a 0 = .ok (.iload_n 0, 1) := by decide +kernel
theorem dJ2_checkIndex_2214a_1 : decode cJ2_checkIndex_2214a 1 = .ok (.aload_n 1, 1) := by decide +kernel
theorem dJ2_checkIndex_2214a_2 : decode cJ2_checkIndex_2214a 2 = .ok (.invokestatic 48, 3) := by decide +kernel
theorem dJ2_checkIndex_2214a_5 : decode cJ2_checkIndex_2214a 5 = .ok (.invokestatic 414, 3) := by decide +kernel
theorem dJ2_checkIndex_2214a_8 : decode cJ2_checkIndex_2214a 8 = .ok (.return_, 1) := by decide +kernel
theorem dJ7_fill_53178_0 : decode cJ7_fill_53178 0 = .ok (.iconst 0, 1) := by decide +kernel
theorem dJ7_fill_53178_1 : decode cJ7_fill_53178 1 = .ok (.istore_n 2, 1) := by decide +kernel
theorem dJ7_fill_53178_2 : decode cJ7_fill_53178 2 = .ok (.aload_n 0, 1) := by decide +kernel
theorem dJ7_fill_53178_3 : decode cJ7_fill_53178 3 = .ok (.arraylength, 1) := by decide +kernel
theorem dJ7_fill_53178_4 : decode cJ7_fill_53178 4 = .ok (.istore_n 3, 1) := by decide +kernel
theorem dJ7_fill_53178_5 : decode cJ7_fill_53178 5 = .ok (.iload_n 2, 1) := by decide +kernel
theorem dJ7_fill_53178_6 : decode cJ7_fill_53178 6 = .ok (.iload_n 3, 1) := by decide +kernel
theorem dJ7_fill_53178_7 : decode cJ7_fill_53178 7 = .ok (.if_icmp .ge 13, 3) := by decide +kernel
theorem dJ7_fill_53178_10 : decode cJ7_fill_53178 10 = .ok (.aload_n 0, 1) := by decide +kernel
theorem dJ7_fill_53178_11 : decode cJ7_fill_53178 11 = .ok (.iload_n 2, 1) := by decide +kernel
theorem dJ7_fill_53178_12 : decode cJ7_fill_53178 12 = .ok (.iload_n 1, 1) := by decide +kernel
theorem dJ7_fill_53178_13 : decode cJ7_fill_53178 13 = .ok (.iastore, 1) := by decide +kernel
theorem dJ7_fill_53178_14 : decode cJ7_fill_53178 14 = .ok (.iinc 2 1, 3) := by decide +kernel
theorem dJ7_fill_53178_17 : decode cJ7_fill_53178 17 = .ok (.goto (-12), 3) := by decide +kernel
theorem dJ7_fill_53178_20 : decode cJ7_fill_53178 20 = .ok (.return_, 1) := by decide +kernel
theorem dJ7_fill_031fb_0 : decode cJ7_fill_031fb 0 = .ok (.iconst 0, 1) := by decide +kernel
theorem dJ7_fill_031fb_1 : decode cJ7_fill_031fb 1 = .ok (.istore_n 2, 1) := by decide +kernel
theorem dJ7_fill_031fb_2 : decode cJ7_fill_031fb 2 = .ok (.aload_n 0, 1) := by decide +kernel
theorem dJ7_fill_031fb_3 : decode cJ7_fill_031fb 3 = .ok (.arraylength, 1) := by decide +kernel
theorem dJ7_fill_031fb_4 : decode cJ7_fill_031fb 4 = .ok (.istore_n 3, 1) := by decide +kernel
theorem dJ7_fill_031fb_5 : decode cJ7_fill_031fb 5 = .ok (.iload_n 2, 1) := by decide +kernel
theorem dJ7_fill_031fb_6 : decode cJ7_fill_031fb 6 = .ok (.iload_n 3, 1) := by decide +kernel
theorem dJ7_fill_031fb_7 : decode cJ7_fill_031fb 7 = .ok (.if_icmp .ge 13, 3) := by decide +kernel
theorem dJ7_fill_031fb_10 : decode cJ7_fill_031fb 10 = .ok (.aload_n 0, 1) := by decide +kernel
theorem dJ7_fill_031fb_11 : decode cJ7_fill_031fb 11 = .ok (.iload_n 2, 1) := by decide +kernel
theorem dJ7_fill_031fb_12 : decode cJ7_fill_031fb 12 = .ok (.iload_n 1, 1) := by decide +kernel
theorem dJ7_fill_031fb_13 : decode cJ7_fill_031fb 13 = .ok (.bastore, 1) := by decide +kernel
theorem dJ7_fill_031fb_14 : decode cJ7_fill_031fb 14 = .ok (.iinc 2 1, 3) := by decide +kernel
theorem dJ7_fill_031fb_17 : decode cJ7_fill_031fb 17 = .ok (.goto (-12), 3) := by decide +kernel
theorem dJ7_fill_031fb_20 : decode cJ7_fill_031fb 20 = .ok (.return_, 1) := by decide +kernel
theorem dJ3_checkIndex_8e157_0 : decode cJ3_checkIndex_8e157 0 = .ok (.iload_n 0, 1) := by decide +kernel
theorem dJ3_checkIndex_8e157_1 : decode cJ3_checkIndex_8e157 1 = .ok (.ifCond .lt 8, 3) := by decide +kernel
theorem dJ3_checkIndex_8e157_4 : decode cJ3_checkIndex_8e157 4 = .ok (.iload_n 0, 1) := by decide +kernel
theorem dJ3_checkIndex_8e157_5 : decode cJ3_checkIndex_8e157 5 = .ok (.iload_n 1, 1) := by decide +kernel
theorem dJ3_checkIndex_8e157_6 : decode cJ3_checkIndex_8e157 6 = .ok (.if_icmp .lt 10, 3) := by decide +kernel
theorem dJ3_checkIndex_8e157_9 : decode cJ3_checkIndex_8e157 9 = .ok (.aload_n 2, 1) := by decide +kernel
theorem dJ3_checkIndex_8e157_10 : decode cJ3_checkIndex_8e157 10 = .ok (.iload_n 0, 1) := by decide +kernel
theorem dJ3_checkIndex_8e157_11 : decode cJ3_checkIndex_8e157 11 = .ok (.iload_n 1, 1) := by decide +kernel
theorem dJ3_checkIndex_8e157_12 : decode cJ3_checkIndex_8e157 12 = .ok (.invokestatic 95, 3) := by decide +kernel
theorem dJ3_checkIndex_8e157_15 : decode cJ3_checkIndex_8e157 15 = .ok (.athrow, 1) := by decide +kernel
theorem dJ3_checkIndex_8e157_16 : decode cJ3_checkIndex_8e157 16 = .ok (.iload_n 0, 1) := by decide +kernel
theorem dJ3_checkIndex_8e157_17 : decode cJ3_checkIndex_8e157 17 = .ok (.ireturn, 1) := by decide +kernel
