theorem dX1_init_0 : decode cX1_init 0 = .ok (.aload_n 0, 1) := by decide +kernel
theorem dX1_init_1 : decode cX1_init 1 = .ok (.invokespecial 3, 3) := by decide +kernel
theorem dX1_init_4 : decode cX1_init 4 = .ok (.aload_n 0, 1) := by decide +kernel
theorem dX1_init_5 : decode cX1_init 5 = .ok (.bipush 6, 2) := by decide +kernel
theorem dX1_init_7 : decode cX1_init 7 = .ok (.bipush 15, 2) := by decide +kernel
theorem dX1_init_9 : decode cX1_init 9 = .ok (.multianewarray 9 2, 4) := by decide +kernel
theorem dX1_init_13 : decode cX1_init 13 = .ok (.putfield 11, 3) := by decide +kernel
theorem dX1_init_16 : decode cX1_init 16 = .ok (.aload_n 0, 1) := by decide +kernel
theorem dX1_init_17 : decode cX1_init 17 = .ok (.bipush 6, 2) := by decide +kernel
theorem dX1_init_19 : decode cX1_init 19 = .ok (.bipush 15, 2) := by decide +kernel
theorem dX1_init_21 : decode cX1_init 21 = .ok (.multianewarray 9 2, 4) := by decide +kernel
theorem dX1_init_25 : decode cX1_init 25 = .ok (.putfield 16, 3) := by decide +kernel
theorem dX1_init_28 : decode cX1_init 28 = .ok (.aload_n 0, 1) := by decide +kernel
theorem dX1_init_29 : decode cX1_init 29 = .ok (.bipush 6, 2) := by decide +kernel
theorem dX1_init_31 : decode cX1_init 31 = .ok (.bipush 15, 2) := by decide +kernel
theorem dX1_init_33 : decode cX1_init 33 = .ok (.multianewarray 9 2, 4) := by decide +kernel
theorem dX1_init_37 : decode cX1_init 37 = .ok (.putfield 19, 3) := by decide +kernel
theorem dX1_init_40 : decode cX1_init 40 = .ok (.aload_n 0, 1) := by decide +kernel
theorem dX1_init_41 : decode cX1_init 41 = .ok (.bipush 6, 2) := by decide +kernel
theorem dX1_init_43 : decode cX1_init 43 = .ok (.newarray .int, 2) := by decide +kernel
theorem dX1_init_45 : decode cX1_init 45 = .ok (.putfield 22, 3) := by decide +kernel
theorem dX1_init_48 : decode cX1_init 48 = .ok (.aload_n 0, 1) := by decide +kernel
theorem dX1_init_49 : decode cX1_init 49 = .ok (.bipush 14, 2) := by decide +kernel
theorem dX1_init_51 : decode cX1_init 51 = .ok (.newarray .int, 2) := by decide +kernel
theorem dX1_init_53 : decode cX1_init 53 = .ok (.putfield 26, 3) := by decide +kernel
theorem dX1_init_56 : decode cX1_init 56 = .ok (.aload_n 0, 1) := by decide +kernel
theorem dX1_init_57 : decode cX1_init 57 = .ok (.iconst 0, 1) := by decide +kernel
theorem dX1_init_58 : decode cX1_init 58 = .ok (.putfield 29, 3) := by decide +kernel
theorem dX1_init_61 : decode cX1_init 61 = .ok (.aload_n 0, 1) := by decide +kernel
theorem dX1_init_62 : decode cX1_init 62 = .ok (.iconst (-1), 1) := by decide +kernel
theorem dX1_init_63 : decode cX1_init 63 = .ok (.putfield 33, 3) := by decide +kernel
theorem dX1_init_66 : decode cX1_init 66 = .ok (.aload_n 0, 1) := by decide +kernel
theorem dX1_init_67 : decode cX1_init 67 = .ok (.aload_n 1, 1) := by decide +kernel
theorem dX1_init_68 : decode cX1_init 68 = .ok (.putfield 36, 3) := by decide +kernel
theorem dX1_init_71 : decode cX1_init 71 = .ok (.aload_n 0, 1) := by decide +kernel
theorem dX1_init_72 : decode cX1_init 72 = .ok (.aload_n 2, 1) := by decide +kernel
theorem dX1_init_73 : decode cX1_init 73 = .ok (.putfield 40, 3) := by decide +kernel
theorem dX1_init_76 : decode cX1_init 76 = .ok (.aload_n 0, 1) := by decide +kernel
theorem dX1_init_77 : decode cX1_init 77 = .ok (.aload_n 3, 1) := by decide +kernel
theorem dX1_init_78 : decode cX1_init 78 = .ok (.putfield 44, 3) := by decide +kernel
theorem dX1_init_81 : decode cX1_init 81 = .ok (.return_, 1) := by decide +kernel
set_option maxRecDepth 20000 in
theorem ggX1_standBy_X0_judge : GoodIn wsX1_standBy wsX0_judge := goodIn_r _ [9, 10, 11, 12, 13, 14, 15, 8, 16, 17, 18, 19, 20, 21, 22, 23, 24, 25, 26, 27, 28, 29, 30, 31, 32, 33, 34, 35, 36, 37, 38, 39, 40, 41, 42, 151, 152, 153, 154, 155, 156, 157, 158, 159, 143, 144, 145, 146, 147, 148, 149, 150] (by decide +kernel) (by decide +kernel)
set_option maxRecDepth 20000 in
theorem gX1_standBy_X0_judge : GoodIn wsX1_standBy (wsV RX1 48 RX0 yX0_judge wsX0_judge) := goodIn_app (goodIn_of _ (by decide +kernel)) ggX1_standBy_X0_judge
set_option maxRecDepth 20000 in
theorem ggX1_standBy_X1_startMonths : GoodIn wsX1_standBy wsX1_startMonths := goodIn_r _ [47, 48, 49, 50, 3, 51, 52, 53, 54, 55, 56, 133, 134, 135, 136, 137, 138, 139, 140, 141, 142, 143, 144, 145, 146, 147, 148, 149, 150] (by decide +kernel) (by decide +kernel)
set_option maxRecDepth 20000 in
theorem gX1_standBy_X1_startMonths : GoodIn wsX1_standBy (wsV RX1 59 RX1 yX1_startMonths wsX1_startMonths) := goodIn_app (goodIn_of _ (by decide +kernel)) ggX1_standBy_X1_startMonths
set_option maxRecDepth 20000 in
theorem ggX1_standBy_X1_passEvening : GoodIn wsX1_standBy wsX1_passEvening := goodIn_r _ [60, 52, 48, 49, 61, 62, 63, 46, 64, 50, 65, 66, 67, 68, 69, 70, 71, 72, 73, 74, 75, 76, 77, 78, 79, 80, 81, 82, 1, 83, 84, 3, 85, 86, 87, 8, 88, 12, 18, 11, 19, 17, 89, 90, 91, 23, 92, 93, 94, 95, 96, 97, 98, 99, 29, 100, 101, 102, 103, 104, 10, 105, 21, 22, 24, 25, 26, 27, 28, 30, 31, 32, 33, 34, 35, 36, 37, 106, 39, 40, 41, 42, 107, 108, 109, 110, 4, 111, 112, 113, 114, 115, 116, 117, 118, 119, 120, 121, 122, 123, 124, 125, 126, 127, 128, 129, 130, 131, 132, 133, 134, 135, 136, 137, 138, 139, 140, 141, 142, 160, 161, 162, 163, 164, 165, 151, 152, 153, 154, 155, 156, 157, 158, 159, 143, 144, 145, 146, 147, 148, 149, 150] (by decide +kernel) (by decide +kernel)
set_option maxRecDepth 20000 in
theorem gX1_standBy_X1_passEvening : GoodIn wsX1_standBy (wsV RX1 62 RX1 yX1_passEvening wsX1_passEvening) := goodIn_app (goodIn_of _ (by decide +kernel)) ggX1_standBy_X1_passEvening
theorem dX1_standBy_0 : decode cX1_standBy 0 = .ok (.aload_n 0, 1) := by decide +kernel
theorem dX1_standBy_1 : decode cX1_standBy 1 = .ok (.getfield 40, 3) := by decide +kernel
theorem dX1_standBy_4 : decode cX1_standBy 4 = .ok (.iload_n 1, 1) := by decide +kernel
theorem dX1_standBy_5 : decode cX1_standBy 5 = .ok (.invokevirtual 48, 3) := by decide +kernel
theorem dX1_standBy_8 : decode cX1_standBy 8 = .ok (.aload_n 0, 1) := by decide +kernel
theorem dX1_standBy_9 : decode cX1_standBy 9 = .ok (.getfield 33, 3) := by decide +kernel
theorem dX1_standBy_12 : decode cX1_standBy 12 = .ok (.iload_n 1, 1) := by decide +kernel
theorem dX1_standBy_13 : decode cX1_standBy 13 = .ok (.if_icmp .ne 4, 3) := by decide +kernel
theorem dX1_standBy_16 : decode cX1_standBy 16 = .ok (.return_, 1) := by decide +kernel
theorem dX1_standBy_17 : decode cX1_standBy 17 = .ok (.iconst 0, 1) := by decide +kernel
theorem dX1_standBy_18 : decode cX1_standBy 18 = .ok (.istore_n 2, 1) := by decide +kernel
theorem dX1_standBy_19 : decode cX1_standBy 19 = .ok (.iload_n 2, 1) := by decide +kernel
theorem dX1_standBy_20 : decode cX1_standBy 20 = .ok (.aload_n 0, 1) := by decide +kernel
theorem dX1_standBy_21 : decode cX1_standBy 21 = .ok (.getfield 36, 3) := by decide +kernel
theorem dX1_standBy_24 : decode cX1_standBy 24 = .ok (.getfield 54, 3) := by decide +kernel
theorem dX1_standBy_27 : decode cX1_standBy 27 = .ok (.if_icmp .ge 14, 3) := by decide +kernel
theorem dX1_standBy_30 : decode cX1_standBy 30 = .ok (.aload_n 0, 1) := by decide +kernel
theorem dX1_standBy_31 : decode cX1_standBy 31 = .ok (.iload_n 2, 1) := by decide +kernel
theorem dX1_standBy_32 : decode cX1_standBy 32 = .ok (.invokevirtual 59, 3) := by decide +kernel
theorem dX1_standBy_35 : decode cX1_standBy 35 = .ok (.iinc 2 1, 3) := by decide +kernel
theorem dX1_standBy_38 : decode cX1_standBy 38 = .ok (.goto (-19), 3) := by decide +kernel
theorem dX1_standBy_41 : decode cX1_standBy 41 = .ok (.iconst 0, 1) := by decide +kernel
theorem dX1_standBy_42 : decode cX1_standBy 42 = .ok (.istore_n 2, 1) := by decide +kernel
theorem dX1_standBy_43 : decode cX1_standBy 43 = .ok (.iload_n 2, 1) := by decide +kernel
theorem dX1_standBy_44 : decode cX1_standBy 44 = .ok (.sipush 400, 3) := by decide +kernel
theorem dX1_standBy_47 : decode cX1_standBy 47 = .ok (.if_icmp .ge 34, 3) := by decide +kernel
theorem dX1_standBy_50 : decode cX1_standBy 50 = .ok (.iconst 0, 1) := by decide +kernel
theorem dX1_standBy_51 : decode cX1_standBy 51 = .ok (.istore_n 3, 1) := by decide +kernel
theorem dX1_standBy_52 : decode cX1_standBy 52 = .ok (.iload_n 3, 1) := by decide +kernel
theorem dX1_standBy_53 : decode cX1_standBy 53 = .ok (.aload_n 0, 1) := by decide +kernel
theorem dX1_standBy_54 : decode cX1_standBy 54 = .ok (.getfield 36, 3) := by decide +kernel
theorem dX1_standBy_57 : decode cX1_standBy 57 = .ok (.getfield 54, 3) := by decide +kernel
theorem dX1_standBy_60 : decode cX1_standBy 60 = .ok (.if_icmp .ge 15, 3) := by decide +kernel
theorem dX1_standBy_63 : decode cX1_standBy 63 = .ok (.aload_n 0, 1) := by decide +kernel
theorem dX1_standBy_64 : decode cX1_standBy 64 = .ok (.iload_n 3, 1) := by decide +kernel
theorem dX1_standBy_65 : decode cX1_standBy 65 = .ok (.iload_n 2, 1) := by decide +kernel
theorem dX1_standBy_66 : decode cX1_standBy 66 = .ok (.invokevirtual 62, 3) := by decide +kernel
theorem dX1_standBy_69 : decode cX1_standBy 69 = .ok (.iinc 3 1, 3) := by decide +kernel
theorem dX1_standBy_72 : decode cX1_standBy 72 = .ok (.goto (-20), 3) := by decide +kernel
theorem dX1_standBy_75 : decode cX1_standBy 75 = .ok (.iinc 2 1, 3) := by decide +kernel
theorem dX1_standBy_78 : decode cX1_standBy 78 = .ok (.goto (-35), 3) := by decide +kernel
theorem dX1_standBy_81 : decode cX1_standBy 81 = .ok (.aload_n 0, 1) := by decide +kernel
theorem dX1_standBy_82 : decode cX1_standBy 82 = .ok (.iload_n 1, 1) := by decide +kernel
theorem dX1_standBy_83 : decode cX1_standBy 83 = .ok (.putfield 33, 3) := by decide +kernel
theorem dX1_standBy_86 : decode cX1_standBy 86 = .ok (.return_, 1) := by decide +kernel
set_option maxRecDepth 20000 in
theorem ggX1_startMonths_J7_fill_53178 : GoodIn wsX1_startMonths wsJ7_fill_53178 := goodIn_r _ [10] (by decide +kernel) (by decide +kernel)
set_option maxRecDepth 20000 in
theorem gX1_startMonths_J7_fill_53178 : GoodIn wsX1_startMonths (va_wsS RX1 66 yJ7_fill_53178 wsJ7_fill_53178) := goodIn_app (goodIn_of _ (by decide +kernel)) ggX1_startMonths_J7_fill_53178
theorem dX1_startMonths_0 : decode cX1_startMonths 0 = .ok (.aload_n 0, 1) := by decide +kernel
theorem dX1_startMonths_1 : decode cX1_startMonths 1 = .ok (.getfield 11, 3) := by decide +kernel
theorem dX1_startMonths_4 : decode cX1_startMonths 4 = .ok (.iload_n 1, 1) := by decide +kernel
theorem dX1_startMonths_5 : decode cX1_startMonths 5 = .ok (.aaload, 1) := by decide +kernel
theorem dX1_startMonths_6 : decode cX1_startMonths 6 = .ok (.iconst (-1), 1) := by decide +kernel
theorem dX1_startMonths_7 : decode cX1_startMonths 7 = .ok (.invokestatic 66, 3) := by decide +kernel
theorem dX1_startMonths_10 : decode cX1_startMonths 10 = .ok (.aload_n 0, 1) := by decide +kernel
theorem dX1_startMonths_11 : decode cX1_startMonths 11 = .ok (.getfield 16, 3) := by decide +kernel
theorem dX1_startMonths_14 : decode cX1_startMonths 14 = .ok (.iload_n 1, 1) := by decide +kernel
theorem dX1_startMonths_15 : decode cX1_startMonths 15 = .ok (.aaload, 1) := by decide +kernel
theorem dX1_startMonths_16 : decode cX1_startMonths 16 = .ok (.iconst (-1), 1) := by decide +kernel
theorem dX1_startMonths_17 : decode cX1_startMonths 17 = .ok (.invokestatic 66, 3) := by decide +kernel
theorem dX1_startMonths_20 : decode cX1_startMonths 20 = .ok (.aload_n 0, 1) := by decide +kernel
theorem dX1_startMonths_21 : decode cX1_startMonths 21 = .ok (.getfield 19, 3) := by decide +kernel
theorem dX1_startMonths_24 : decode cX1_startMonths 24 = .ok (.iload_n 1, 1) := by decide +kernel
theorem dX1_startMonths_25 : decode cX1_startMonths 25 = .ok (.aaload, 1) := by decide +kernel
theorem dX1_startMonths_26 : decode cX1_startMonths 26 = .ok (.iconst (-1), 1) := by decide +kernel
theorem dX1_startMonths_27 : decode cX1_startMonths 27 = .ok (.invokestatic 66, 3) := by decide +kernel
theorem dX1_startMonths_30 : decode cX1_startMonths 30 = .ok (.aload_n 0, 1) := by decide +kernel
theorem dX1_startMonths_31 : decode cX1_startMonths 31 = .ok (.getfield 11, 3) := by decide +kernel
theorem dX1_startMonths_34 : decode cX1_startMonths 34 = .ok (.iload_n 1, 1) := by decide +kernel
theorem dX1_startMonths_35 : decode cX1_startMonths 35 = .ok (.aaload, 1) := by decide +kernel
theorem dX1_startMonths_36 : decode cX1_startMonths 36 = .ok (.iconst 0, 1) := by decide +kernel
theorem dX1_startMonths_37 : decode cX1_startMonths 37 = .ok (.aload_n 0, 1) := by decide +kernel
theorem dX1_startMonths_38 : decode cX1_startMonths 38 = .ok (.getfield 36, 3) := by decide +kernel
theorem dX1_startMonths_41 : decode cX1_startMonths 41 = .ok (.getfield 72, 3) := by decide +kernel
theorem dX1_startMonths_44 : decode cX1_startMonths 44 = .ok (.iload_n 1, 1) := by decide +kernel
theorem dX1_startMonths_45 : decode cX1_startMonths 45 = .ok (.iaload, 1) := by decide +kernel
theorem dX1_startMonths_46 : decode cX1_startMonths 46 = .ok (.iastore, 1) := by decide +kernel
theorem dX1_startMonths_47 : decode cX1_startMonths 47 = .ok (.aload_n 0, 1) := by decide +kernel
theorem dX1_startMonths_48 : decode cX1_startMonths 48 = .ok (.getfield 22, 3) := by decide +kernel
theorem dX1_startMonths_51 : decode cX1_startMonths 51 = .ok (.iload_n 1, 1) := by decide +kernel
theorem dX1_startMonths_52 : decode cX1_startMonths 52 = .ok (.iconst 0, 1) := by decide +kernel
theorem dX1_startMonths_53 : decode cX1_startMonths 53 = .ok (.iastore, 1) := by decide +kernel
theorem dX1_startMonths_54 : decode cX1_startMonths 54 = .ok (.return_, 1) := by decide +kernel
set_option maxRecDepth 20000 in
theorem ggX1_passEvening_X1_beginMonth : GoodIn wsX1_passEvening wsX1_beginMonth := goodIn_r _ [8, 1, 2, 3, 9, 109, 110, 111, 112, 113, 114, 115, 116, 117, 118] (by decide +kernel) (by decide +kernel)
set_option maxRecDepth 20000 in
theorem gX1_passEvening_X1_beginMonth : GoodIn wsX1_passEvening (wsV RX1 75 RX1 yX1_beginMonth wsX1_beginMonth) := goodIn_app (goodIn_of _ (by decide +kernel)) ggX1_passEvening_X1_beginMonth
set_option maxRecDepth 20000 in
theorem ggX1_passEvening_X1_tryToBegin : GoodIn wsX1_passEvening wsX1_tryToBegin := goodIn_r _ [13, 14, 15, 1, 16, 17, 18, 19, 20, 21, 22, 23, 24, 25, 7, 26, 27, 28, 29, 30, 31, 32, 33, 34, 35, 36, 37, 38, 39, 40, 41, 42, 43, 44, 45, 46, 47, 48, 49, 50, 51, 52, 53, 54, 55, 56, 57, 58, 59, 60, 61, 62, 63, 64, 65, 66, 67, 68, 69, 70, 71, 72, 73, 74, 75, 76, 77, 78, 79, 80, 81, 82, 83, 84, 85, 86, 2, 87, 88, 89, 90, 91, 92, 93, 94, 95, 96, 97, 98, 99, 100, 101, 102, 103, 104, 4, 5, 6, 8, 3, 9, 109, 110, 111, 112, 113, 114, 115, 116, 117, 118, 119, 120, 121, 122, 123, 124, 125, 126, 127, 128, 129, 130, 131, 132, 133, 134, 135, 136, 137, 138, 139, 140, 141] (by decide +kernel) (by decide +kernel)
set_option maxRecDepth 20000 in
theorem gX1_passEvening_X1_tryToBegin : GoodIn wsX1_passEvening (wsV RX1 79 RX1 yX1_tryToBegin wsX1_tryToBegin) := goodIn_app (goodIn_of _ (by decide +kernel)) ggX1_passEvening_X1_tryToBegin
set_option maxRecDepth 20000 in
theorem ggX1_passEvening_X1_tryToSetBack : GoodIn wsX1_passEvening wsX1_tryToSetBack := goodIn_r _ [108, 14, 1, 2, 15, 3, 9, 16, 17, 18, 19, 20, 21, 22, 23, 24, 25, 7, 26, 27, 28, 29, 30, 31, 32, 33, 34, 35, 36, 37, 38, 39, 40, 41, 42, 43, 44, 45, 46, 47, 48, 49, 50, 51, 52, 53, 54, 55, 56, 57, 58, 59, 60, 61, 62, 63, 64, 65, 66, 67, 68, 69, 70, 71, 72, 73, 74, 75, 76, 77, 78, 79, 80, 81, 82, 83, 84, 85, 86, 87, 88, 89, 90, 91, 92, 93, 94, 95, 96, 97, 98, 99, 100, 101, 102, 103, 104, 109, 110, 111, 112, 113, 114, 115, 116, 117, 118, 119, 120, 121, 122, 123, 124, 125, 126, 127, 128, 129, 130, 131, 132, 133, 134, 135, 136, 137, 138, 139, 140, 141] (by decide +kernel) (by decide +kernel)
set_option maxRecDepth 20000 in
theorem gX1_passEvening_X1_tryToSetBack : GoodIn wsX1_passEvening (wsV RX1 82 RX1 yX1_tryToSetBack wsX1_tryToSetBack) := goodIn_app (goodIn_of _ (by decide +kernel)) ggX1_passEvening_X1_tryToSetBack
theorem dX1_passEvening_0 : decode cX1_passEvening 0 = .ok (.aload_n 0, 1) := by decide +kernel
theorem dX1_passEvening_1 : decode cX1_passEvening 1 = .ok (.getfield 22, 3) := by decide +kernel
theorem dX1_passEvening_4 : decode cX1_passEvening 4 = .ok (.iload_n 1, 1) := by decide +kernel
theorem dX1_passEvening_5 : decode cX1_passEvening 5 = .ok (.iaload, 1) := by decide +kernel
theorem dX1_passEvening_6 : decode cX1_passEvening 6 = .ok (.istore_n 3, 1) := by decide +kernel
theorem dX1_passEvening_7 : decode cX1_passEvening 7 = .ok (.iload_n 2, 1) := by decide +kernel
theorem dX1_passEvening_8 : decode cX1_passEvening 8 = .ok (.aload_n 0, 1) := by decide +kernel
theorem dX1_passEvening_9 : decode cX1_passEvening 9 = .ok (.getfield 11, 3) := by decide +kernel
theorem dX1_passEvening_12 : decode cX1_passEvening 12 = .ok (.iload_n 1, 1) := by decide +kernel
theorem dX1_passEvening_13 : decode cX1_passEvening 13 = .ok (.aaload, 1) := by decide +kernel
theorem dX1_passEvening_14 : decode cX1_passEvening 14 = .ok (.iload_n 3, 1) := by decide +kernel
theorem dX1_passEvening_15 : decode cX1_passEvening 15 = .ok (.iaload, 1) := by decide +kernel
theorem dX1_passEvening_16 : decode cX1_passEvening 16 = .ok (.isub, 1) := by decide +kernel
theorem dX1_passEvening_17 : decode cX1_passEvening 17 = .ok (.istore 4, 2) := by decide +kernel
theorem dX1_passEvening_19 : decode cX1_passEvening 19 = .ok (.iload 4, 2) := by decide +kernel
theorem dX1_passEvening_21 : decode cX1_passEvening 21 = .ok (.bipush 30, 2) := by decide +kernel
theorem dX1_passEvening_23 : decode cX1_passEvening 23 = .ok (.if_icmp .ne 14, 3) := by decide +kernel
theorem dX1_passEvening_26 : decode cX1_passEvening 26 = .ok (.aload_n 0, 1) := by decide +kernel
theorem dX1_passEvening_27 : decode cX1_passEvening 27 = .ok (.iload_n 1, 1) := by decide +kernel
theorem dX1_passEvening_28 : decode cX1_passEvening 28 = .ok (.iload_n 2, 1) := by decide +kernel
theorem dX1_passEvening_29 : decode cX1_passEvening 29 = .ok (.bipush (-2), 2) := by decide +kernel
theorem dX1_passEvening_31 : decode cX1_passEvening 31 = .ok (.invokevirtual 75, 3) := by decide +kernel
theorem dX1_passEvening_34 : decode cX1_passEvening 34 = .ok (.goto 53, 3) := by decide +kernel
theorem dX1_passEvening_37 : decode cX1_passEvening 37 = .ok (.iload 4, 2) := by decide +kernel
theorem dX1_passEvening_39 : decode cX1_passEvening 39 = .ok (.bipush 29, 2) := by decide +kernel
theorem dX1_passEvening_41 : decode cX1_passEvening 41 = .ok (.if_icmp .ne 12, 3) := by decide +kernel
theorem dX1_passEvening_44 : decode cX1_passEvening 44 = .ok (.aload_n 0, 1) := by decide +kernel
theorem dX1_passEvening_45 : decode cX1_passEvening 45 = .ok (.iload_n 1, 1) := by decide +kernel
theorem dX1_passEvening_46 : decode cX1_passEvening 46 = .ok (.iload_n 2, 1) := by decide +kernel
theorem dX1_passEvening_47 : decode cX1_passEvening 47 = .ok (.invokevirtual 79, 3) := by decide +kernel
theorem dX1_passEvening_50 : decode cX1_passEvening 50 = .ok (.goto 37, 3) := by decide +kernel
theorem dX1_passEvening_53 : decode cX1_passEvening 53 = .ok (.iload 4, 2) := by decide +kernel
theorem dX1_passEvening_55 : decode cX1_passEvening 55 = .ok (.iconst 1, 1) := by decide +kernel
theorem dX1_passEvening_56 : decode cX1_passEvening 56 = .ok (.if_icmp .lt 31, 3) := by decide +kernel
theorem dX1_passEvening_59 : decode cX1_passEvening 59 = .ok (.iload 4, 2) := by decide +kernel
theorem dX1_passEvening_61 : decode cX1_passEvening 61 = .ok (.bipush 10, 2) := by decide +kernel
theorem dX1_passEvening_63 : decode cX1_passEvening 63 = .ok (.if_icmp .gt 24, 3) := by decide +kernel
theorem dX1_passEvening_66 : decode cX1_passEvening 66 = .ok (.aload_n 0, 1) := by decide +kernel
theorem dX1_passEvening_67 : decode cX1_passEvening 67 = .ok (.getfield 16, 3) := by decide +kernel
theorem dX1_passEvening_70 : decode cX1_passEvening 70 = .ok (.iload_n 1, 1) := by decide +kernel
theorem dX1_passEvening_71 : decode cX1_passEvening 71 = .ok (.aaload, 1) := by decide +kernel
theorem dX1_passEvening_72 : decode cX1_passEvening 72 = .ok (.iload_n 3, 1) := by decide +kernel
theorem dX1_passEvening_73 : decode cX1_passEvening 73 = .ok (.iaload, 1) := by decide +kernel
theorem dX1_passEvening_74 : decode cX1_passEvening 74 = .ok (.bipush (-2), 2) := by decide +kernel
theorem dX1_passEvening_76 : decode cX1_passEvening 76 = .ok (.if_icmp .ne 11, 3) := by decide +kernel
theorem dX1_passEvening_79 : decode cX1_passEvening 79 = .ok (.aload_n 0, 1) := by decide +kernel
theorem dX1_passEvening_80 : decode cX1_passEvening 80 = .ok (.iload_n 1, 1) := by decide +kernel
theorem dX1_passEvening_81 : decode cX1_passEvening 81 = .ok (.iload_n 2, 1) := by decide +kernel
theorem dX1_passEvening_82 : decode cX1_passEvening 82 = .ok (.iload 4, 2) := by decide +kernel
theorem dX1_passEvening_84 : decode cX1_passEvening 84 = .ok (.invokevirtual 82, 3) := by decide +kernel
theorem dX1_passEvening_87 : decode cX1_passEvening 87 = .ok (.return_, 1) := by decide +kernel
set_option maxRecDepth 20000 in
theorem ggX1_tryToBegin_X3_hasRule : GoodIn wsX1_tryToBegin wsX3_hasRule := goodIn_r _ [8, 9, 10, 111, 112, 113, 114, 115, 116] (by decide +kernel) (by decide +kernel)
set_option maxRecDepth 20000 in
theorem gX1_tryToBegin_X3_hasRule : GoodIn wsX1_tryToBegin (wsV RX1 85 RX3 yX3_hasRule wsX3_hasRule) := goodIn_app (goodIn_of _ (by decide +kernel)) ggX1_tryToBegin_X3_hasRule
set_option maxRecDepth 20000 in
theorem ggX1_tryToBegin_X1_askVars : GoodIn wsX1_tryToBegin wsX1_askVars := goodIn_r _ [15, 16, 2, 17, 18, 19, 20, 21, 22, 23, 24, 25, 26, 27, 28, 29, 30, 31, 32, 33, 34, 35, 36, 37, 38, 39, 14, 40, 41, 42, 43, 44, 45, 46, 47, 48, 49, 50, 51, 52, 53, 54, 55, 56, 57, 58, 59, 60, 61, 62, 63, 64, 65, 66, 67, 68, 69, 70, 71, 72, 73, 74, 75, 3, 76, 77, 101, 102, 103, 104, 105, 106, 107, 108, 109, 110, 117, 118, 119, 120, 121, 122, 123, 124, 125, 126, 127, 128, 129, 130, 131, 132, 133] (by decide +kernel) (by decide +kernel)
set_option maxRecDepth 20000 in
theorem gX1_tryToBegin_X1_askVars : GoodIn wsX1_tryToBegin (wsV RX1 91 RX1 yX1_askVars wsX1_askVars) := goodIn_app (goodIn_of _ (by decide +kernel)) ggX1_tryToBegin_X1_askVars
set_option maxRecDepth 20000 in
theorem ggX1_tryToBegin_X3_firstThatHolds : GoodIn wsX1_tryToBegin wsX3_firstThatHolds := goodIn_r _ [81, 9, 10, 82, 83, 84, 7, 85, 86, 87, 88, 89, 90, 91, 92, 93, 94, 111, 112, 113, 114, 115, 116] (by decide +kernel) (by decide +kernel)
set_option maxRecDepth 20000 in
theorem gX1_tryToBegin_X3_firstThatHolds : GoodIn wsX1_tryToBegin (wsV RX1 94 RX3 yX3_firstThatHolds wsX3_firstThatHolds) := goodIn_app (goodIn_of _ (by decide +kernel)) ggX1_tryToBegin_X3_firstThatHolds
set_option maxRecDepth 20000 in
theorem ggX1_tryToBegin_X1_beginMonth : GoodIn wsX1_tryToBegin wsX1_beginMonth := goodIn_r _ [98, 3, 76, 99, 100, 101, 102, 103, 104, 105, 106, 107, 108, 109, 110] (by decide +kernel) (by decide +kernel)
set_option maxRecDepth 20000 in
theorem gX1_tryToBegin_X1_beginMonth : GoodIn wsX1_tryToBegin (wsV RX1 75 RX1 yX1_beginMonth wsX1_beginMonth) := goodIn_app (goodIn_of _ (by decide +kernel)) ggX1_tryToBegin_X1_beginMonth
theorem dX1_tryToBegin_0 : decode cX1_tryToBegin 0 = .ok (.aload_n 0, 1) := by decide +kernel
theorem dX1_tryToBegin_1 : decode cX1_tryToBegin 1 = .ok (.getfield 44, 3) := by decide +kernel
theorem dX1_tryToBegin_4 : decode cX1_tryToBegin 4 = .ok (.iload_n 1, 1) := by decide +kernel
theorem dX1_tryToBegin_5 : decode cX1_tryToBegin 5 = .ok (.aaload, 1) := by decide +kernel
theorem dX1_tryToBegin_6 : decode cX1_tryToBegin 6 = .ok (.astore_n 3, 1) := by decide +kernel
theorem dX1_tryToBegin_7 : decode cX1_tryToBegin 7 = .ok (.aload_n 3, 1) := by decide +kernel
theorem dX1_tryToBegin_8 : decode cX1_tryToBegin 8 = .ok (.iconst 0, 1) := by decide +kernel
theorem dX1_tryToBegin_9 : decode cX1_tryToBegin 9 = .ok (.invokevirtual 85, 3) := by decide +kernel
theorem dX1_tryToBegin_12 : decode cX1_tryToBegin 12 = .ok (.ifCond .ne 4, 3) := by decide +kernel
theorem dX1_tryToBegin_15 : decode cX1_tryToBegin 15 = .ok (.return_, 1) := by decide +kernel
theorem dX1_tryToBegin_16 : decode cX1_tryToBegin 16 = .ok (.aload_n 0, 1) := by decide +kernel
theorem dX1_tryToBegin_17 : decode cX1_tryToBegin 17 = .ok (.getfield 26, 3) := by decide +kernel
theorem dX1_tryToBegin_20 : decode cX1_tryToBegin 20 = .ok (.bipush 6, 2) := by decide +kernel
theorem dX1_tryToBegin_22 : decode cX1_tryToBegin 22 = .ok (.bipush 29, 2) := by decide +kernel
theorem dX1_tryToBegin_24 : decode cX1_tryToBegin 24 = .ok (.iastore, 1) := by decide +kernel
theorem dX1_tryToBegin_25 : decode cX1_tryToBegin 25 = .ok (.aload_n 0, 1) := by decide +kernel
theorem dX1_tryToBegin_26 : decode cX1_tryToBegin 26 = .ok (.getfield 26, 3) := by decide +kernel
theorem dX1_tryToBegin_29 : decode cX1_tryToBegin 29 = .ok (.bipush 13, 2) := by decide +kernel
theorem dX1_tryToBegin_31 : decode cX1_tryToBegin 31 = .ok (.aload_n 0, 1) := by decide +kernel
theorem dX1_tryToBegin_32 : decode cX1_tryToBegin 32 = .ok (.getfield 22, 3) := by decide +kernel
theorem dX1_tryToBegin_35 : decode cX1_tryToBegin 35 = .ok (.iload_n 1, 1) := by decide +kernel
theorem dX1_tryToBegin_36 : decode cX1_tryToBegin 36 = .ok (.iaload, 1) := by decide +kernel
theorem dX1_tryToBegin_37 : decode cX1_tryToBegin 37 = .ok (.iconst 1, 1) := by decide +kernel
theorem dX1_tryToBegin_38 : decode cX1_tryToBegin 38 = .ok (.iadd, 1) := by decide +kernel
theorem dX1_tryToBegin_39 : decode cX1_tryToBegin 39 = .ok (.iastore, 1) := by decide +kernel
theorem dX1_tryToBegin_40 : decode cX1_tryToBegin 40 = .ok (.aload_n 0, 1) := by decide +kernel
theorem dX1_tryToBegin_41 : decode cX1_tryToBegin 41 = .ok (.iload_n 1, 1) := by decide +kernel
theorem dX1_tryToBegin_42 : decode cX1_tryToBegin 42 = .ok (.iload_n 2, 1) := by decide +kernel
theorem dX1_tryToBegin_43 : decode cX1_tryToBegin 43 = .ok (.iload_n 2, 1) := by decide +kernel
theorem dX1_tryToBegin_44 : decode cX1_tryToBegin 44 = .ok (.invokevirtual 91, 3) := by decide +kernel
theorem dX1_tryToBegin_47 : decode cX1_tryToBegin 47 = .ok (.aload_n 3, 1) := by decide +kernel
theorem dX1_tryToBegin_48 : decode cX1_tryToBegin 48 = .ok (.iconst 1, 1) := by decide +kernel
theorem dX1_tryToBegin_49 : decode cX1_tryToBegin 49 = .ok (.aload_n 0, 1) := by decide +kernel
theorem dX1_tryToBegin_50 : decode cX1_tryToBegin 50 = .ok (.getfield 26, 3) := by decide +kernel
theorem dX1_tryToBegin_53 : decode cX1_tryToBegin 53 = .ok (.invokevirtual 94, 3) := by decide +kernel
theorem dX1_tryToBegin_56 : decode cX1_tryToBegin 56 = .ok (.iconst (-1), 1) := by decide +kernel
theorem dX1_tryToBegin_57 : decode cX1_tryToBegin 57 = .ok (.if_icmp .eq 4, 3) := by decide +kernel
theorem dX1_tryToBegin_60 : decode cX1_tryToBegin 60 = .ok (.return_, 1) := by decide +kernel
theorem dX1_tryToBegin_61 : decode cX1_tryToBegin 61 = .ok (.aload_n 3, 1) := by decide +kernel
theorem dX1_tryToBegin_62 : decode cX1_tryToBegin 62 = .ok (.iconst 0, 1) := by decide +kernel
theorem dX1_tryToBegin_63 : decode cX1_tryToBegin 63 = .ok (.aload_n 0, 1) := by decide +kernel
theorem dX1_tryToBegin_64 : decode cX1_tryToBegin 64 = .ok (.getfield 26, 3) := by decide +kernel
theorem dX1_tryToBegin_67 : decode cX1_tryToBegin 67 = .ok (.invokevirtual 94, 3) := by decide +kernel
theorem dX1_tryToBegin_70 : decode cX1_tryToBegin 70 = .ok (.istore 4, 2) := by decide +kernel
theorem dX1_tryToBegin_72 : decode cX1_tryToBegin 72 = .ok (.iload 4, 2) := by decide +kernel
theorem dX1_tryToBegin_74 : decode cX1_tryToBegin 74 = .ok (.iconst (-1), 1) := by decide +kernel
theorem dX1_tryToBegin_75 : decode cX1_tryToBegin 75 = .ok (.if_icmp .eq 11, 3) := by decide +kernel
theorem dX1_tryToBegin_78 : decode cX1_tryToBegin 78 = .ok (.aload_n 0, 1) := by decide +kernel
theorem dX1_tryToBegin_79 : decode cX1_tryToBegin 79 = .ok (.iload_n 1, 1) := by decide +kernel
theorem dX1_tryToBegin_80 : decode cX1_tryToBegin 80 = .ok (.iload_n 2, 1) := by decide +kernel
theorem dX1_tryToBegin_81 : decode cX1_tryToBegin 81 = .ok (.iload 4, 2) := by decide +kernel
theorem dX1_tryToBegin_83 : decode cX1_tryToBegin 83 = .ok (.invokevirtual 75, 3) := by decide +kernel
theorem dX1_tryToBegin_86 : decode cX1_tryToBegin 86 = .ok (.return_, 1) := by decide +kernel
set_option maxRecDepth 20000 in
theorem ggX1_tryToSetBack_X3_hasRule : GoodIn wsX1_tryToSetBack wsX3_hasRule := goodIn_r _ [11, 12, 13, 107, 108, 109, 110, 111, 112] (by decide +kernel) (by decide +kernel)
set_option maxRecDepth 20000 in
theorem gX1_tryToSetBack_X3_hasRule : GoodIn wsX1_tryToSetBack (wsV RX1 85 RX3 yX3_hasRule wsX3_hasRule) := goodIn_app (goodIn_of _ (by decide +kernel)) ggX1_tryToSetBack_X3_hasRule
set_option maxRecDepth 20000 in
theorem ggX1_tryToSetBack_X1_askVars : GoodIn wsX1_tryToSetBack wsX1_askVars := goodIn_r _ [18, 19, 4, 20, 21, 22, 23, 24, 25, 26, 27, 28, 29, 30, 31, 32, 33, 34, 35, 36, 37, 38, 39, 40, 41, 42, 17, 43, 44, 45, 46, 47, 48, 49, 50, 51, 52, 53, 54, 55, 56, 57, 58, 59, 60, 61, 62, 63, 64, 65, 66, 67, 68, 69, 70, 71, 72, 73, 74, 75, 76, 77, 78, 2, 3, 79, 97, 98, 99, 100, 101, 102, 103, 104, 105, 106, 113, 114, 115, 116, 117, 118, 119, 120, 121, 122, 123, 124, 125, 126, 127, 128, 129] (by decide +kernel) (by decide +kernel)
set_option maxRecDepth 20000 in
theorem gX1_tryToSetBack_X1_askVars : GoodIn wsX1_tryToSetBack (wsV RX1 91 RX1 yX1_askVars wsX1_askVars) := goodIn_app (goodIn_of _ (by decide +kernel)) ggX1_tryToSetBack_X1_askVars
set_option maxRecDepth 20000 in
theorem ggX1_tryToSetBack_X3_firstThatHolds : GoodIn wsX1_tryToSetBack wsX3_firstThatHolds := goodIn_r _ [83, 12, 13, 84, 85, 86, 10, 87, 88, 89, 90, 91, 92, 93, 94, 95, 96, 107, 108, 109, 110, 111, 112] (by decide +kernel) (by decide +kernel)
set_option maxRecDepth 20000 in
theorem gX1_tryToSetBack_X3_firstThatHolds : GoodIn wsX1_tryToSetBack (wsV RX1 94 RX3 yX3_firstThatHolds wsX3_firstThatHolds) := goodIn_app (goodIn_of _ (by decide +kernel)) ggX1_tryToSetBack_X3_firstThatHolds
theorem dX1_tryToSetBack_0 : decode cX1_tryToSetBack 0 = .ok (.aload_n 0, 1) := by decide +kernel
theorem dX1_tryToSetBack_1 : decode cX1_tryToSetBack 1 = .ok (.getfield 44, 3) := by decide +kernel
theorem dX1_tryToSetBack_4 : decode cX1_tryToSetBack 4 = .ok (.iload_n 1, 1) := by decide +kernel
theorem dX1_tryToSetBack_5 : decode cX1_tryToSetBack 5 = .ok (.aaload, 1) := by decide +kernel
theorem dX1_tryToSetBack_6 : decode cX1_tryToSetBack 6 = .ok (.astore 4, 2) := by decide +kernel
theorem dX1_tryToSetBack_8 : decode cX1_tryToSetBack 8 = .ok (.aload 4, 2) := by decide +kernel
theorem dX1_tryToSetBack_10 : decode cX1_tryToSetBack 10 = .ok (.iconst 2, 1) := by decide +kernel
theorem dX1_tryToSetBack_11 : decode cX1_tryToSetBack 11 = .ok (.invokevirtual 85, 3) := by decide +kernel
theorem dX1_tryToSetBack_14 : decode cX1_tryToSetBack 14 = .ok (.ifCond .ne 4, 3) := by decide +kernel
theorem dX1_tryToSetBack_17 : decode cX1_tryToSetBack 17 = .ok (.return_, 1) := by decide +kernel
theorem dX1_tryToSetBack_18 : decode cX1_tryToSetBack 18 = .ok (.aload_n 0, 1) := by decide +kernel
theorem dX1_tryToSetBack_19 : decode cX1_tryToSetBack 19 = .ok (.getfield 22, 3) := by decide +kernel
theorem dX1_tryToSetBack_22 : decode cX1_tryToSetBack 22 = .ok (.iload_n 1, 1) := by decide +kernel
theorem dX1_tryToSetBack_23 : decode cX1_tryToSetBack 23 = .ok (.iaload, 1) := by decide +kernel
theorem dX1_tryToSetBack_24 : decode cX1_tryToSetBack 24 = .ok (.istore 5, 2) := by decide +kernel
theorem dX1_tryToSetBack_26 : decode cX1_tryToSetBack 26 = .ok (.aload_n 0, 1) := by decide +kernel
theorem dX1_tryToSetBack_27 : decode cX1_tryToSetBack 27 = .ok (.getfield 11, 3) := by decide +kernel
theorem dX1_tryToSetBack_30 : decode cX1_tryToSetBack 30 = .ok (.iload_n 1, 1) := by decide +kernel
theorem dX1_tryToSetBack_31 : decode cX1_tryToSetBack 31 = .ok (.aaload, 1) := by decide +kernel
theorem dX1_tryToSetBack_32 : decode cX1_tryToSetBack 32 = .ok (.iload 5, 2) := by decide +kernel
theorem dX1_tryToSetBack_34 : decode cX1_tryToSetBack 34 = .ok (.iaload, 1) := by decide +kernel
theorem dX1_tryToSetBack_35 : decode cX1_tryToSetBack 35 = .ok (.iconst 1, 1) := by decide +kernel
theorem dX1_tryToSetBack_36 : decode cX1_tryToSetBack 36 = .ok (.isub, 1) := by decide +kernel
theorem dX1_tryToSetBack_37 : decode cX1_tryToSetBack 37 = .ok (.istore 6, 2) := by decide +kernel
theorem dX1_tryToSetBack_39 : decode cX1_tryToSetBack 39 = .ok (.aload_n 0, 1) := by decide +kernel
theorem dX1_tryToSetBack_40 : decode cX1_tryToSetBack 40 = .ok (.getfield 26, 3) := by decide +kernel
theorem dX1_tryToSetBack_43 : decode cX1_tryToSetBack 43 = .ok (.bipush 6, 2) := by decide +kernel
theorem dX1_tryToSetBack_45 : decode cX1_tryToSetBack 45 = .ok (.iload_n 3, 1) := by decide +kernel
theorem dX1_tryToSetBack_46 : decode cX1_tryToSetBack 46 = .ok (.iastore, 1) := by decide +kernel
theorem dX1_tryToSetBack_47 : decode cX1_tryToSetBack 47 = .ok (.aload_n 0, 1) := by decide +kernel
theorem dX1_tryToSetBack_48 : decode cX1_tryToSetBack 48 = .ok (.getfield 26, 3) := by decide +kernel
theorem dX1_tryToSetBack_51 : decode cX1_tryToSetBack 51 = .ok (.bipush 13, 2) := by decide +kernel
theorem dX1_tryToSetBack_53 : decode cX1_tryToSetBack 53 = .ok (.iload 5, 2) := by decide +kernel
theorem dX1_tryToSetBack_55 : decode cX1_tryToSetBack 55 = .ok (.iastore, 1) := by decide +kernel
theorem dX1_tryToSetBack_56 : decode cX1_tryToSetBack 56 = .ok (.aload_n 0, 1) := by decide +kernel
theorem dX1_tryToSetBack_57 : decode cX1_tryToSetBack 57 = .ok (.iload_n 1, 1) := by decide +kernel
theorem dX1_tryToSetBack_58 : decode cX1_tryToSetBack 58 = .ok (.iload_n 2, 1) := by decide +kernel
theorem dX1_tryToSetBack_59 : decode cX1_tryToSetBack 59 = .ok (.iload 6, 2) := by decide +kernel
theorem dX1_tryToSetBack_61 : decode cX1_tryToSetBack 61 = .ok (.invokevirtual 91, 3) := by decide +kernel
theorem dX1_tryToSetBack_64 : decode cX1_tryToSetBack 64 = .ok (.aload 4, 2) := by decide +kernel
theorem dX1_tryToSetBack_66 : decode cX1_tryToSetBack 66 = .ok (.iconst 2, 1) := by decide +kernel
theorem dX1_tryToSetBack_67 : decode cX1_tryToSetBack 67 = .ok (.aload_n 0, 1) := by decide +kernel
theorem dX1_tryToSetBack_68 : decode cX1_tryToSetBack 68 = .ok (.getfield 26, 3) := by decide +kernel
theorem dX1_tryToSetBack_71 : decode cX1_tryToSetBack 71 = .ok (.invokevirtual 94, 3) := by decide +kernel
theorem dX1_tryToSetBack_74 : decode cX1_tryToSetBack 74 = .ok (.istore 7, 2) := by decide +kernel
theorem dX1_tryToSetBack_76 : decode cX1_tryToSetBack 76 = .ok (.iload 7, 2) := by decide +kernel
theorem dX1_tryToSetBack_78 : decode cX1_tryToSetBack 78 = .ok (.iconst (-1), 1) := by decide +kernel
theorem dX1_tryToSetBack_79 : decode cX1_tryToSetBack 79 = .ok (.if_icmp .eq 35, 3) := by decide +kernel
theorem dX1_tryToSetBack_82 : decode cX1_tryToSetBack 82 = .ok (.aload_n 0, 1) := by decide +kernel
theorem dX1_tryToSetBack_83 : decode cX1_tryToSetBack 83 = .ok (.getfield 11, 3) := by decide +kernel
theorem dX1_tryToSetBack_86 : decode cX1_tryToSetBack 86 = .ok (.iload_n 1, 1) := by decide +kernel
theorem dX1_tryToSetBack_87 : decode cX1_tryToSetBack 87 = .ok (.aaload, 1) := by decide +kernel
theorem dX1_tryToSetBack_88 : decode cX1_tryToSetBack 88 = .ok (.iload 5, 2) := by decide +kernel
theorem dX1_tryToSetBack_90 : decode cX1_tryToSetBack 90 = .ok (.iload 6, 2) := by decide +kernel
theorem dX1_tryToSetBack_92 : decode cX1_tryToSetBack 92 = .ok (.iastore, 1) := by decide +kernel
theorem dX1_tryToSetBack_93 : decode cX1_tryToSetBack 93 = .ok (.aload_n 0, 1) := by decide +kernel
theorem dX1_tryToSetBack_94 : decode cX1_tryToSetBack 94 = .ok (.getfield 16, 3) := by decide +kernel
theorem dX1_tryToSetBack_97 : decode cX1_tryToSetBack 97 = .ok (.iload_n 1, 1) := by decide +kernel
theorem dX1_tryToSetBack_98 : decode cX1_tryToSetBack 98 = .ok (.aaload, 1) := by decide +kernel
theorem dX1_tryToSetBack_99 : decode cX1_tryToSetBack 99 = .ok (.iload 5, 2) := by decide +kernel
theorem dX1_tryToSetBack_101 : decode cX1_tryToSetBack 101 = .ok (.iload 7, 2) := by decide +kernel
theorem dX1_tryToSetBack_103 : decode cX1_tryToSetBack 103 = .ok (.iastore, 1) := by decide +kernel
theorem dX1_tryToSetBack_104 : decode cX1_tryToSetBack 104 = .ok (.aload_n 0, 1) := by decide +kernel
theorem dX1_tryToSetBack_105 : decode cX1_tryToSetBack 105 = .ok (.getfield 19, 3) := by decide +kernel
theorem dX1_tryToSetBack_108 : decode cX1_tryToSetBack 108 = .ok (.iload_n 1, 1) := by decide +kernel
theorem dX1_tryToSetBack_109 : decode cX1_tryToSetBack 109 = .ok (.aaload, 1) := by decide +kernel
theorem dX1_tryToSetBack_110 : decode cX1_tryToSetBack 110 = .ok (.iload 5, 2) := by decide +kernel
theorem dX1_tryToSetBack_112 : decode cX1_tryToSetBack 112 = .ok (.iload_n 2, 1) := by decide +kernel
theorem dX1_tryToSetBack_113 : decode cX1_tryToSetBack 113 = .ok (.iastore, 1) := by decide +kernel
theorem dX1_tryToSetBack_114 : decode cX1_tryToSetBack 114 = .ok (.return_, 1) := by decide +kernel
theorem dX1_beginMonth_0 : decode cX1_beginMonth 0 = .ok (.aload_n 0, 1) := by decide +kernel
theorem dX1_beginMonth_1 : decode cX1_beginMonth 1 = .ok (.getfield 22, 3) := by decide +kernel
theorem dX1_beginMonth_4 : decode cX1_beginMonth 4 = .ok (.iload_n 1, 1) := by decide +kernel
theorem dX1_beginMonth_5 : decode cX1_beginMonth 5 = .ok (.iaload, 1) := by decide +kernel
theorem dX1_beginMonth_6 : decode cX1_beginMonth 6 = .ok (.iconst 1, 1) := by decide +kernel
theorem dX1_beginMonth_7 : decode cX1_beginMonth 7 = .ok (.iadd, 1) := by decide +kernel
theorem dX1_beginMonth_8 : decode cX1_beginMonth 8 = .ok (.istore 4, 2) := by decide +kernel
theorem dX1_beginMonth_10 : decode cX1_beginMonth 10 = .ok (.iload 4, 2) := by decide +kernel
theorem dX1_beginMonth_12 : decode cX1_beginMonth 12 = .ok (.bipush 14, 2) := by decide +kernel
theorem dX1_beginMonth_14 : decode cX1_beginMonth 14 = .ok (.if_icmp .gt 41, 3) := by decide +kernel
theorem dX1_beginMonth_17 : decode cX1_beginMonth 17 = .ok (.aload_n 0, 1) := by decide +kernel
theorem dX1_beginMonth_18 : decode cX1_beginMonth 18 = .ok (.getfield 22, 3) := by decide +kernel
theorem dX1_beginMonth_21 : decode cX1_beginMonth 21 = .ok (.iload_n 1, 1) := by decide +kernel
theorem dX1_beginMonth_22 : decode cX1_beginMonth 22 = .ok (.iload 4, 2) := by decide +kernel
theorem dX1_beginMonth_24 : decode cX1_beginMonth 24 = .ok (.iastore, 1) := by decide +kernel
theorem dX1_beginMonth_25 : decode cX1_beginMonth 25 = .ok (.aload_n 0, 1) := by decide +kernel
theorem dX1_beginMonth_26 : decode cX1_beginMonth 26 = .ok (.getfield 11, 3) := by decide +kernel
theorem dX1_beginMonth_29 : decode cX1_beginMonth 29 = .ok (.iload_n 1, 1) := by decide +kernel
theorem dX1_beginMonth_30 : decode cX1_beginMonth 30 = .ok (.aaload, 1) := by decide +kernel
theorem dX1_beginMonth_31 : decode cX1_beginMonth 31 = .ok (.iload 4, 2) := by decide +kernel
theorem dX1_beginMonth_33 : decode cX1_beginMonth 33 = .ok (.iload_n 2, 1) := by decide +kernel
theorem dX1_beginMonth_34 : decode cX1_beginMonth 34 = .ok (.iastore, 1) := by decide +kernel
theorem dX1_beginMonth_35 : decode cX1_beginMonth 35 = .ok (.aload_n 0, 1) := by decide +kernel
theorem dX1_beginMonth_36 : decode cX1_beginMonth 36 = .ok (.getfield 16, 3) := by decide +kernel
theorem dX1_beginMonth_39 : decode cX1_beginMonth 39 = .ok (.iload_n 1, 1) := by decide +kernel
theorem dX1_beginMonth_40 : decode cX1_beginMonth 40 = .ok (.aaload, 1) := by decide +kernel
theorem dX1_beginMonth_41 : decode cX1_beginMonth 41 = .ok (.iload 4, 2) := by decide +kernel
theorem dX1_beginMonth_43 : decode cX1_beginMonth 43 = .ok (.iload_n 3, 1) := by decide +kernel
theorem dX1_beginMonth_44 : decode cX1_beginMonth 44 = .ok (.iastore, 1) := by decide +kernel
theorem dX1_beginMonth_45 : decode cX1_beginMonth 45 = .ok (.aload_n 0, 1) := by decide +kernel
theorem dX1_beginMonth_46 : decode cX1_beginMonth 46 = .ok (.getfield 19, 3) := by decide +kernel
theorem dX1_beginMonth_49 : decode cX1_beginMonth 49 = .ok (.iload_n 1, 1) := by decide +kernel
theorem dX1_beginMonth_50 : decode cX1_beginMonth 50 = .ok (.aaload, 1) := by decide +kernel
theorem dX1_beginMonth_51 : decode cX1_beginMonth 51 = .ok (.iload 4, 2) := by decide +kernel
theorem dX1_beginMonth_53 : decode cX1_beginMonth 53 = .ok (.iload_n 2, 1) := by decide +kernel
theorem dX1_beginMonth_54 : decode cX1_beginMonth 54 = .ok (.iastore, 1) := by decide +kernel
theorem dX1_beginMonth_55 : decode cX1_beginMonth 55 = .ok (.return_, 1) := by decide +kernel
set_option maxRecDepth 20000 in
theorem ggX1_askVars_X0_isHeard : GoodIn wsX1_askVars wsX0_isHeard := goodIn_r _ [11, 12, 13, 14, 15, 16, 17, 18, 19, 20, 21, 22, 76, 77, 78, 79, 80, 81, 82, 83, 84, 85, 86, 87, 88, 89, 90, 91, 92] (by decide +kernel) (by decide +kernel)
set_option maxRecDepth 20000 in
theorem gX1_askVars_X0_isHeard : GoodIn wsX1_askVars (wsV RX1 101 RX0 yX0_isHeard wsX0_isHeard) := goodIn_app (goodIn_of _ (by decide +kernel)) ggX1_askVars_X0_isHeard
set_option maxRecDepth 20000 in
theorem ggX1_askVars_X1_countSeer : GoodIn wsX1_askVars wsX1_countSeer := goodIn_r _ [27, 1, 3, 2, 28, 29, 30, 31, 32, 33, 34, 10, 35, 36, 12, 13, 14, 66, 67, 68, 69, 70, 71, 72, 73, 74, 75, 76, 77, 78, 79, 80, 81, 82, 83, 84] (by decide +kernel) (by decide +kernel)
set_option maxRecDepth 20000 in
theorem gX1_askVars_X1_countSeer : GoodIn wsX1_askVars (wsV RX1 108 RX1 yX1_countSeer wsX1_countSeer) := goodIn_app (goodIn_of _ (by decide +kernel)) ggX1_askVars_X1_countSeer
set_option maxRecDepth 20000 in
theorem ggX1_askVars_X4_lightOn : GoodIn wsX1_askVars wsX4_lightOn := goodIn_r _ [40, 41, 42, 43, 44, 30, 45, 46, 47, 48, 20, 49, 50, 51, 52, 85, 86, 87, 88, 89, 90, 91, 92] (by decide +kernel) (by decide +kernel)
set_option maxRecDepth 20000 in
theorem gX1_askVars_X4_lightOn : GoodIn wsX1_askVars (wsV RX1 111 RX4 yX4_lightOn wsX4_lightOn) := goodIn_app (goodIn_of _ (by decide +kernel)) ggX1_askVars_X4_lightOn
set_option maxRecDepth 20000 in
theorem ggX1_askVars_X0_isCloudy : GoodIn wsX1_askVars wsX0_isCloudy := goodIn_r _ [56, 57, 76, 77, 78, 79, 80, 81, 82, 83, 84] (by decide +kernel) (by decide +kernel)
set_option maxRecDepth 20000 in
theorem gX1_askVars_X0_isCloudy : GoodIn wsX1_askVars (wsV RX1 115 RX0 yX0_isCloudy wsX0_isCloudy) := goodIn_app (goodIn_of _ (by decide +kernel)) ggX1_askVars_X0_isCloudy
set_option maxRecDepth 20000 in
theorem ggX1_askVars_X1_countOthers : GoodIn wsX1_askVars wsX1_countOthers := goodIn_r _ [61, 6, 62, 63, 64, 65, 18, 19, 20, 21, 22, 66, 67, 68, 69, 70, 71, 72, 73, 74, 75, 85, 86, 87, 88, 89, 90, 91, 92] (by decide +kernel) (by decide +kernel)
set_option maxRecDepth 20000 in
theorem gX1_askVars_X1_countOthers : GoodIn wsX1_askVars (wsV RX1 119 RX1 yX1_countOthers wsX1_countOthers) := goodIn_app (goodIn_of _ (by decide +kernel)) ggX1_askVars_X1_countOthers
theorem dX1_askVars_0 : decode cX1_askVars 0 = .ok (.aload_n 0, 1) := by decide +kernel
theorem dX1_askVars_1 : decode cX1_askVars 1 = .ok (.iconst 0, 1) := by decide +kernel
theorem dX1_askVars_2 : decode cX1_askVars 2 = .ok (.putfield 29, 3) := by decide +kernel
theorem dX1_askVars_5 : decode cX1_askVars 5 = .ok (.aload_n 0, 1) := by decide +kernel
theorem dX1_askVars_6 : decode cX1_askVars 6 = .ok (.getfield 26, 3) := by decide +kernel
theorem dX1_askVars_9 : decode cX1_askVars 9 = .ok (.bipush 7, 2) := by decide +kernel
theorem dX1_askVars_11 : decode cX1_askVars 11 = .ok (.iconst 0, 1) := by decide +kernel
theorem dX1_askVars_12 : decode cX1_askVars 12 = .ok (.iastore, 1) := by decide +kernel
theorem dX1_askVars_13 : decode cX1_askVars 13 = .ok (.aload_n 0, 1) := by decide +kernel
theorem dX1_askVars_14 : decode cX1_askVars 14 = .ok (.getfield 26, 3) := by decide +kernel
theorem dX1_askVars_17 : decode cX1_askVars 17 = .ok (.bipush 8, 2) := by decide +kernel
theorem dX1_askVars_19 : decode cX1_askVars 19 = .ok (.iconst 0, 1) := by decide +kernel
theorem dX1_askVars_20 : decode cX1_askVars 20 = .ok (.iastore, 1) := by decide +kernel
theorem dX1_askVars_21 : decode cX1_askVars 21 = .ok (.aload_n 0, 1) := by decide +kernel
theorem dX1_askVars_22 : decode cX1_askVars 22 = .ok (.getfield 26, 3) := by decide +kernel
theorem dX1_askVars_25 : decode cX1_askVars 25 = .ok (.bipush 9, 2) := by decide +kernel
theorem dX1_askVars_27 : decode cX1_askVars 27 = .ok (.iconst 0, 1) := by decide +kernel
theorem dX1_askVars_28 : decode cX1_askVars 28 = .ok (.iastore, 1) := by decide +kernel
theorem dX1_askVars_29 : decode cX1_askVars 29 = .ok (.iconst 0, 1) := by decide +kernel
theorem dX1_askVars_30 : decode cX1_askVars 30 = .ok (.istore 4, 2) := by decide +kernel
theorem dX1_askVars_32 : decode cX1_askVars 32 = .ok (.iload 4, 2) := by decide +kernel
theorem dX1_askVars_34 : decode cX1_askVars 34 = .ok (.aload_n 0, 1) := by decide +kernel
theorem dX1_askVars_35 : decode cX1_askVars 35 = .ok (.getfield 40, 3) := by decide +kernel
theorem dX1_askVars_38 : decode cX1_askVars 38 = .ok (.getfield 98, 3) := by decide +kernel
theorem dX1_askVars_41 : decode cX1_askVars 41 = .ok (.if_icmp .ge 39, 3) := by decide +kernel
theorem dX1_askVars_44 : decode cX1_askVars 44 = .ok (.aload_n 0, 1) := by decide +kernel
theorem dX1_askVars_45 : decode cX1_askVars 45 = .ok (.getfield 40, 3) := by decide +kernel
theorem dX1_askVars_48 : decode cX1_askVars 48 = .ok (.iload 4, 2) := by decide +kernel
theorem dX1_askVars_50 : decode cX1_askVars 50 = .ok (.iload_n 1, 1) := by decide +kernel
theorem dX1_askVars_51 : decode cX1_askVars 51 = .ok (.iload_n 2, 1) := by decide +kernel
theorem dX1_askVars_52 : decode cX1_askVars 52 = .ok (.iload_n 3, 1) := by decide +kernel
theorem dX1_askVars_53 : decode cX1_askVars 53 = .ok (.invokevirtual 101, 3) := by decide +kernel
theorem dX1_askVars_56 : decode cX1_askVars 56 = .ok (.ifCond .eq 18, 3) := by decide +kernel
theorem dX1_askVars_59 : decode cX1_askVars 59 = .ok (.aload_n 0, 1) := by decide +kernel
theorem dX1_askVars_60 : decode cX1_askVars 60 = .ok (.aload_n 0, 1) := by decide +kernel
theorem dX1_askVars_61 : decode cX1_askVars 61 = .ok (.getfield 40, 3) := by decide +kernel
theorem dX1_askVars_64 : decode cX1_askVars 64 = .ok (.getfield 105, 3) := by decide +kernel
theorem dX1_askVars_67 : decode cX1_askVars 67 = .ok (.iload 4, 2) := by decide +kernel
theorem dX1_askVars_69 : decode cX1_askVars 69 = .ok (.iaload, 1) := by decide +kernel
theorem dX1_askVars_70 : decode cX1_askVars 70 = .ok (.iload_n 2, 1) := by decide +kernel
theorem dX1_askVars_71 : decode cX1_askVars 71 = .ok (.invokevirtual 108, 3) := by decide +kernel
theorem dX1_askVars_74 : decode cX1_askVars 74 = .ok (.iinc 4 1, 3) := by decide +kernel
theorem dX1_askVars_77 : decode cX1_askVars 77 = .ok (.goto (-45), 3) := by decide +kernel
theorem dX1_askVars_80 : decode cX1_askVars 80 = .ok (.aload_n 0, 1) := by decide +kernel
theorem dX1_askVars_81 : decode cX1_askVars 81 = .ok (.getfield 26, 3) := by decide +kernel
theorem dX1_askVars_84 : decode cX1_askVars 84 = .ok (.bipush 10, 2) := by decide +kernel
theorem dX1_askVars_86 : decode cX1_askVars 86 = .ok (.aload_n 0, 1) := by decide +kernel
theorem dX1_askVars_87 : decode cX1_askVars 87 = .ok (.getfield 36, 3) := by decide +kernel
theorem dX1_askVars_90 : decode cX1_askVars 90 = .ok (.iload_n 1, 1) := by decide +kernel
theorem dX1_askVars_91 : decode cX1_askVars 91 = .ok (.iload_n 3, 1) := by decide +kernel
theorem dX1_askVars_92 : decode cX1_askVars 92 = .ok (.invokevirtual 111, 3) := by decide +kernel
theorem dX1_askVars_95 : decode cX1_askVars 95 = .ok (.iastore, 1) := by decide +kernel
theorem dX1_askVars_96 : decode cX1_askVars 96 = .ok (.aload_n 0, 1) := by decide +kernel
theorem dX1_askVars_97 : decode cX1_askVars 97 = .ok (.getfield 26, 3) := by decide +kernel
theorem dX1_askVars_100 : decode cX1_askVars 100 = .ok (.bipush 11, 2) := by decide +kernel
theorem dX1_askVars_102 : decode cX1_askVars 102 = .ok (.aload_n 0, 1) := by decide +kernel
theorem dX1_askVars_103 : decode cX1_askVars 103 = .ok (.getfield 40, 3) := by decide +kernel
theorem dX1_askVars_106 : decode cX1_askVars 106 = .ok (.iload_n 1, 1) := by decide +kernel
theorem dX1_askVars_107 : decode cX1_askVars 107 = .ok (.iload_n 3, 1) := by decide +kernel
theorem dX1_askVars_108 : decode cX1_askVars 108 = .ok (.aload_n 0, 1) := by decide +kernel
theorem dX1_askVars_109 : decode cX1_askVars 109 = .ok (.getfield 40, 3) := by decide +kernel
theorem dX1_askVars_112 : decode cX1_askVars 112 = .ok (.getfield 98, 3) := by decide +kernel
theorem dX1_askVars_115 : decode cX1_askVars 115 = .ok (.invokevirtual 115, 3) := by decide +kernel
theorem dX1_askVars_118 : decode cX1_askVars 118 = .ok (.ifCond .eq 7, 3) := by decide +kernel
theorem dX1_askVars_121 : decode cX1_askVars 121 = .ok (.iconst 1, 1) := by decide +kernel
theorem dX1_askVars_122 : decode cX1_askVars 122 = .ok (.goto 4, 3) := by decide +kernel
theorem dX1_askVars_125 : decode cX1_askVars 125 = .ok (.iconst 0, 1) := by decide +kernel
theorem dX1_askVars_126 : decode cX1_askVars 126 = .ok (.iastore, 1) := by decide +kernel
theorem dX1_askVars_127 : decode cX1_askVars 127 = .ok (.aload_n 0, 1) := by decide +kernel
theorem dX1_askVars_128 : decode cX1_askVars 128 = .ok (.getfield 26, 3) := by decide +kernel
theorem dX1_askVars_131 : decode cX1_askVars 131 = .ok (.bipush 12, 2) := by decide +kernel
theorem dX1_askVars_133 : decode cX1_askVars 133 = .ok (.aload_n 0, 1) := by decide +kernel
theorem dX1_askVars_134 : decode cX1_askVars 134 = .ok (.iload_n 1, 1) := by decide +kernel
theorem dX1_askVars_135 : decode cX1_askVars 135 = .ok (.aload_n 0, 1) := by decide +kernel
theorem dX1_askVars_136 : decode cX1_askVars 136 = .ok (.getfield 26, 3) := by decide +kernel
theorem dX1_askVars_139 : decode cX1_askVars 139 = .ok (.bipush 13, 2) := by decide +kernel
theorem dX1_askVars_141 : decode cX1_askVars 141 = .ok (.iaload, 1) := by decide +kernel
theorem dX1_askVars_142 : decode cX1_askVars 142 = .ok (.iload_n 2, 1) := by decide +kernel
theorem dX1_askVars_143 : decode cX1_askVars 143 = .ok (.iload_n 3, 1) := by decide +kernel
theorem dX1_askVars_144 : decode cX1_askVars 144 = .ok (.invokevirtual 119, 3) := by decide +kernel
theorem dX1_askVars_147 : decode cX1_askVars 147 = .ok (.iastore, 1) := by decide +kernel
theorem dX1_askVars_148 : decode cX1_askVars 148 = .ok (.return_, 1) := by decide +kernel
set_option maxRecDepth 20000 in
theorem ggX1_countSeer_X0_worthOn : GoodIn wsX1_countSeer wsX0_worthOn := goodIn_r _ [12, 13, 14, 15, 16, 27, 28, 29, 30, 31, 32, 33, 34, 35] (by decide +kernel) (by decide +kernel)
set_option maxRecDepth 20000 in
theorem gX1_countSeer_X0_worthOn : GoodIn wsX1_countSeer (wsV RX1 123 RX0 yX0_worthOn wsX0_worthOn) := goodIn_app (goodIn_of _ (by decide +kernel)) ggX1_countSeer_X0_worthOn
theorem dX1_countSeer_0 : decode cX1_countSeer 0 = .ok (.iconst 1, 1) := by decide +kernel
theorem dX1_countSeer_1 : decode cX1_countSeer 1 = .ok (.iload_n 1, 1) := by decide +kernel
theorem dX1_countSeer_2 : decode cX1_countSeer 2 = .ok (.ishl, 1) := by decide +kernel
theorem dX1_countSeer_3 : decode cX1_countSeer 3 = .ok (.istore_n 3, 1) := by decide +kernel
theorem dX1_countSeer_4 : decode cX1_countSeer 4 = .ok (.aload_n 0, 1) := by decide +kernel
theorem dX1_countSeer_5 : decode cX1_countSeer 5 = .ok (.getfield 29, 3) := by decide +kernel
theorem dX1_countSeer_8 : decode cX1_countSeer 8 = .ok (.iload_n 3, 1) := by decide +kernel
theorem dX1_countSeer_9 : decode cX1_countSeer 9 = .ok (.iand, 1) := by decide +kernel
theorem dX1_countSeer_10 : decode cX1_countSeer 10 = .ok (.ifCond .eq 4, 3) := by decide +kernel
theorem dX1_countSeer_13 : decode cX1_countSeer 13 = .ok (.return_, 1) := by decide +kernel
theorem dX1_countSeer_14 : decode cX1_countSeer 14 = .ok (.aload_n 0, 1) := by decide +kernel
theorem dX1_countSeer_15 : decode cX1_countSeer 15 = .ok (.dup, 1) := by decide +kernel
theorem dX1_countSeer_16 : decode cX1_countSeer 16 = .ok (.getfield 29, 3) := by decide +kernel
theorem dX1_countSeer_19 : decode cX1_countSeer 19 = .ok (.iload_n 3, 1) := by decide +kernel
theorem dX1_countSeer_20 : decode cX1_countSeer 20 = .ok (.ior, 1) := by decide +kernel
theorem dX1_countSeer_21 : decode cX1_countSeer 21 = .ok (.putfield 29, 3) := by decide +kernel
theorem dX1_countSeer_24 : decode cX1_countSeer 24 = .ok (.aload_n 0, 1) := by decide +kernel
theorem dX1_countSeer_25 : decode cX1_countSeer 25 = .ok (.getfield 40, 3) := by decide +kernel
theorem dX1_countSeer_28 : decode cX1_countSeer 28 = .ok (.iload_n 1, 1) := by decide +kernel
theorem dX1_countSeer_29 : decode cX1_countSeer 29 = .ok (.iload_n 2, 1) := by decide +kernel
theorem dX1_countSeer_30 : decode cX1_countSeer 30 = .ok (.invokevirtual 123, 3) := by decide +kernel
theorem dX1_countSeer_33 : decode cX1_countSeer 33 = .ok (.istore 4, 2) := by decide +kernel
theorem dX1_countSeer_35 : decode cX1_countSeer 35 = .ok (.aload_n 0, 1) := by decide +kernel
theorem dX1_countSeer_36 : decode cX1_countSeer 36 = .ok (.getfield 26, 3) := by decide +kernel
theorem dX1_countSeer_39 : decode cX1_countSeer 39 = .ok (.bipush 7, 2) := by decide +kernel
theorem dX1_countSeer_41 : decode cX1_countSeer 41 = .ok (.dup2, 1) := by decide +kernel
theorem dX1_countSeer_42 : decode cX1_countSeer 42 = .ok (.iaload, 1) := by decide +kernel
theorem dX1_countSeer_43 : decode cX1_countSeer 43 = .ok (.iconst 1, 1) := by decide +kernel
theorem dX1_countSeer_44 : decode cX1_countSeer 44 = .ok (.iadd, 1) := by decide +kernel
theorem dX1_countSeer_45 : decode cX1_countSeer 45 = .ok (.iastore, 1) := by decide +kernel
theorem dX1_countSeer_46 : decode cX1_countSeer 46 = .ok (.aload_n 0, 1) := by decide +kernel
theorem dX1_countSeer_47 : decode cX1_countSeer 47 = .ok (.getfield 26, 3) := by decide +kernel
theorem dX1_countSeer_50 : decode cX1_countSeer 50 = .ok (.bipush 8, 2) := by decide +kernel
theorem dX1_countSeer_52 : decode cX1_countSeer 52 = .ok (.dup2, 1) := by decide +kernel
theorem dX1_countSeer_53 : decode cX1_countSeer 53 = .ok (.iaload, 1) := by decide +kernel
theorem dX1_countSeer_54 : decode cX1_countSeer 54 = .ok (.iload 4, 2) := by decide +kernel
theorem dX1_countSeer_56 : decode cX1_countSeer 56 = .ok (.iadd, 1) := by decide +kernel
theorem dX1_countSeer_57 : decode cX1_countSeer 57 = .ok (.iastore, 1) := by decide +kernel
theorem dX1_countSeer_58 : decode cX1_countSeer 58 = .ok (.aload_n 0, 1) := by decide +kernel
theorem dX1_countSeer_59 : decode cX1_countSeer 59 = .ok (.getfield 26, 3) := by decide +kernel
theorem dX1_countSeer_62 : decode cX1_countSeer 62 = .ok (.bipush 9, 2) := by decide +kernel
theorem dX1_countSeer_64 : decode cX1_countSeer 64 = .ok (.aload_n 0, 1) := by decide +kernel
theorem dX1_countSeer_65 : decode cX1_countSeer 65 = .ok (.getfield 26, 3) := by decide +kernel
theorem dX1_countSeer_68 : decode cX1_countSeer 68 = .ok (.bipush 9, 2) := by decide +kernel
theorem dX1_countSeer_70 : decode cX1_countSeer 70 = .ok (.iaload, 1) := by decide +kernel
theorem dX1_countSeer_71 : decode cX1_countSeer 71 = .ok (.iload 4, 2) := by decide +kernel
theorem dX1_countSeer_73 : decode cX1_countSeer 73 = .ok (.invokestatic 126, 3) := by decide +kernel
theorem dX1_countSeer_76 : decode cX1_countSeer 76 = .ok (.iastore, 1) := by decide +kernel
theorem dX1_countSeer_77 : decode cX1_countSeer 77 = .ok (.return_, 1) := by decide +kernel
set_option maxRecDepth 20000 in
theorem ggX1_countOthers_X4_isNewsThere : GoodIn wsX1_countOthers wsX4_isNewsThere := goodIn_r _ [9, 10, 21, 22, 23, 24, 25, 26, 27, 28] (by decide +kernel) (by decide +kernel)
set_option maxRecDepth 20000 in
theorem gX1_countOthers_X4_isNewsThere : GoodIn wsX1_countOthers (wsV RX1 131 RX4 yX4_isNewsThere wsX4_isNewsThere) := goodIn_app (goodIn_of _ (by decide +kernel)) ggX1_countOthers_X4_isNewsThere
theorem dX1_countOthers_0 : decode cX1_countOthers 0 = .ok (.iconst 0, 1) := by decide +kernel
theorem dX1_countOthers_1 : decode cX1_countOthers 1 = .ok (.istore 5, 2) := by decide +kernel
theorem dX1_countOthers_3 : decode cX1_countOthers 3 = .ok (.iconst 0, 1) := by decide +kernel
theorem dX1_countOthers_4 : decode cX1_countOthers 4 = .ok (.istore 6, 2) := by decide +kernel
theorem dX1_countOthers_6 : decode cX1_countOthers 6 = .ok (.iload 6, 2) := by decide +kernel
theorem dX1_countOthers_8 : decode cX1_countOthers 8 = .ok (.aload_n 0, 1) := by decide +kernel
theorem dX1_countOthers_9 : decode cX1_countOthers 9 = .ok (.getfield 36, 3) := by decide +kernel
theorem dX1_countOthers_12 : decode cX1_countOthers 12 = .ok (.getfield 54, 3) := by decide +kernel
theorem dX1_countOthers_15 : decode cX1_countOthers 15 = .ok (.if_icmp .ge 63, 3) := by decide +kernel
theorem dX1_countOthers_18 : decode cX1_countOthers 18 = .ok (.iload 6, 2) := by decide +kernel
theorem dX1_countOthers_20 : decode cX1_countOthers 20 = .ok (.iload_n 1, 1) := by decide +kernel
theorem dX1_countOthers_21 : decode cX1_countOthers 21 = .ok (.if_icmp .eq 51, 3) := by decide +kernel
theorem dX1_countOthers_24 : decode cX1_countOthers 24 = .ok (.iload_n 2, 1) := by decide +kernel
theorem dX1_countOthers_25 : decode cX1_countOthers 25 = .ok (.aload_n 0, 1) := by decide +kernel
theorem dX1_countOthers_26 : decode cX1_countOthers 26 = .ok (.getfield 22, 3) := by decide +kernel
theorem dX1_countOthers_29 : decode cX1_countOthers 29 = .ok (.iload 6, 2) := by decide +kernel
theorem dX1_countOthers_31 : decode cX1_countOthers 31 = .ok (.iaload, 1) := by decide +kernel
theorem dX1_countOthers_32 : decode cX1_countOthers 32 = .ok (.if_icmp .gt 40, 3) := by decide +kernel
theorem dX1_countOthers_35 : decode cX1_countOthers 35 = .ok (.aload_n 0, 1) := by decide +kernel
theorem dX1_countOthers_36 : decode cX1_countOthers 36 = .ok (.getfield 11, 3) := by decide +kernel
theorem dX1_countOthers_39 : decode cX1_countOthers 39 = .ok (.iload 6, 2) := by decide +kernel
theorem dX1_countOthers_41 : decode cX1_countOthers 41 = .ok (.aaload, 1) := by decide +kernel
theorem dX1_countOthers_42 : decode cX1_countOthers 42 = .ok (.iload_n 2, 1) := by decide +kernel
theorem dX1_countOthers_43 : decode cX1_countOthers 43 = .ok (.iaload, 1) := by decide +kernel
theorem dX1_countOthers_44 : decode cX1_countOthers 44 = .ok (.istore 7, 2) := by decide +kernel
theorem dX1_countOthers_46 : decode cX1_countOthers 46 = .ok (.iload 7, 2) := by decide +kernel
theorem dX1_countOthers_48 : decode cX1_countOthers 48 = .ok (.iload 4, 2) := by decide +kernel
theorem dX1_countOthers_50 : decode cX1_countOthers 50 = .ok (.if_icmp .gt 22, 3) := by decide +kernel
theorem dX1_countOthers_53 : decode cX1_countOthers 53 = .ok (.aload_n 0, 1) := by decide +kernel
theorem dX1_countOthers_54 : decode cX1_countOthers 54 = .ok (.getfield 36, 3) := by decide +kernel
theorem dX1_countOthers_57 : decode cX1_countOthers 57 = .ok (.iload 6, 2) := by decide +kernel
theorem dX1_countOthers_59 : decode cX1_countOthers 59 = .ok (.iload_n 1, 1) := by decide +kernel
theorem dX1_countOthers_60 : decode cX1_countOthers 60 = .ok (.iload 7, 2) := by decide +kernel
theorem dX1_countOthers_62 : decode cX1_countOthers 62 = .ok (.iload_n 3, 1) := by decide +kernel
theorem dX1_countOthers_63 : decode cX1_countOthers 63 = .ok (.invokevirtual 131, 3) := by decide +kernel
theorem dX1_countOthers_66 : decode cX1_countOthers 66 = .ok (.ifCond .eq 6, 3) := by decide +kernel
theorem dX1_countOthers_69 : decode cX1_countOthers 69 = .ok (.iinc 5 1, 3) := by decide +kernel
theorem dX1_countOthers_72 : decode cX1_countOthers 72 = .ok (.iinc 6 1, 3) := by decide +kernel
theorem dX1_countOthers_75 : decode cX1_countOthers 75 = .ok (.goto (-69), 3) := by decide +kernel
theorem dX1_countOthers_78 : decode cX1_countOthers 78 = .ok (.iload 5, 2) := by decide +kernel
theorem dX1_countOthers_80 : decode cX1_countOthers 80 = .ok (.ireturn, 1) := by decide +kernel
set_option maxRecDepth 20000 in
theorem ggX1_heardReport_X0_isHeard : GoodIn wsX1_heardReport wsX0_isHeard := goodIn_r _ [9, 10, 11, 12, 13, 14, 15, 16, 17, 18, 19, 20, 31, 32, 33, 34, 35, 36, 37, 38, 39, 40, 41, 42, 43, 44, 45, 46, 47] (by decide +kernel) (by decide +kernel)
set_option maxRecDepth 20000 in
theorem gX1_heardReport_X0_isHeard : GoodIn wsX1_heardReport (wsV RX1 101 RX0 yX0_isHeard wsX0_isHeard) := goodIn_app (goodIn_of _ (by decide +kernel)) ggX1_heardReport_X0_isHeard
theorem dX1_heardReport_0 : decode cX1_heardReport 0 = .ok (.aload_n 0, 1) := by decide +kernel
theorem dX1_heardReport_1 : decode cX1_heardReport 1 = .ok (.getfield 11, 3) := by decide +kernel
theorem dX1_heardReport_4 : decode cX1_heardReport 4 = .ok (.iload_n 1, 1) := by decide +kernel
theorem dX1_heardReport_5 : decode cX1_heardReport 5 = .ok (.aaload, 1) := by decide +kernel
theorem dX1_heardReport_6 : decode cX1_heardReport 6 = .ok (.iload_n 2, 1) := by decide +kernel
theorem dX1_heardReport_7 : decode cX1_heardReport 7 = .ok (.iaload, 1) := by decide +kernel
theorem dX1_heardReport_8 : decode cX1_heardReport 8 = .ok (.iconst (-1), 1) := by decide +kernel
theorem dX1_heardReport_9 : decode cX1_heardReport 9 = .ok (.if_icmp .ne 5, 3) := by decide +kernel
theorem dX1_heardReport_12 : decode cX1_heardReport 12 = .ok (.iconst (-1), 1) := by decide +kernel
theorem dX1_heardReport_13 : decode cX1_heardReport 13 = .ok (.ireturn, 1) := by decide +kernel
theorem dX1_heardReport_14 : decode cX1_heardReport 14 = .ok (.iload_n 3, 1) := by decide +kernel
theorem dX1_heardReport_15 : decode cX1_heardReport 15 = .ok (.istore 4, 2) := by decide +kernel
theorem dX1_heardReport_17 : decode cX1_heardReport 17 = .ok (.iconst 0, 1) := by decide +kernel
theorem dX1_heardReport_18 : decode cX1_heardReport 18 = .ok (.istore 5, 2) := by decide +kernel
theorem dX1_heardReport_20 : decode cX1_heardReport 20 = .ok (.iload 5, 2) := by decide +kernel
theorem dX1_heardReport_22 : decode cX1_heardReport 22 = .ok (.aload_n 0, 1) := by decide +kernel
theorem dX1_heardReport_23 : decode cX1_heardReport 23 = .ok (.getfield 40, 3) := by decide +kernel
theorem dX1_heardReport_26 : decode cX1_heardReport 26 = .ok (.getfield 98, 3) := by decide +kernel
theorem dX1_heardReport_29 : decode cX1_heardReport 29 = .ok (.if_icmp .ge 49, 3) := by decide +kernel
theorem dX1_heardReport_32 : decode cX1_heardReport 32 = .ok (.aload_n 0, 1) := by decide +kernel
theorem dX1_heardReport_33 : decode cX1_heardReport 33 = .ok (.getfield 40, 3) := by decide +kernel
theorem dX1_heardReport_36 : decode cX1_heardReport 36 = .ok (.iload 5, 2) := by decide +kernel
theorem dX1_heardReport_38 : decode cX1_heardReport 38 = .ok (.iload_n 1, 1) := by decide +kernel
theorem dX1_heardReport_39 : decode cX1_heardReport 39 = .ok (.aload_n 0, 1) := by decide +kernel
theorem dX1_heardReport_40 : decode cX1_heardReport 40 = .ok (.getfield 19, 3) := by decide +kernel
theorem dX1_heardReport_43 : decode cX1_heardReport 43 = .ok (.iload_n 1, 1) := by decide +kernel
theorem dX1_heardReport_44 : decode cX1_heardReport 44 = .ok (.aaload, 1) := by decide +kernel
theorem dX1_heardReport_45 : decode cX1_heardReport 45 = .ok (.iload_n 2, 1) := by decide +kernel
theorem dX1_heardReport_46 : decode cX1_heardReport 46 = .ok (.iaload, 1) := by decide +kernel
theorem dX1_heardReport_47 : decode cX1_heardReport 47 = .ok (.aload_n 0, 1) := by decide +kernel
theorem dX1_heardReport_48 : decode cX1_heardReport 48 = .ok (.getfield 11, 3) := by decide +kernel
theorem dX1_heardReport_51 : decode cX1_heardReport 51 = .ok (.iload_n 1, 1) := by decide +kernel
theorem dX1_heardReport_52 : decode cX1_heardReport 52 = .ok (.aaload, 1) := by decide +kernel
theorem dX1_heardReport_53 : decode cX1_heardReport 53 = .ok (.iload_n 2, 1) := by decide +kernel
theorem dX1_heardReport_54 : decode cX1_heardReport 54 = .ok (.iaload, 1) := by decide +kernel
theorem dX1_heardReport_55 : decode cX1_heardReport 55 = .ok (.invokevirtual 101, 3) := by decide +kernel
theorem dX1_heardReport_58 : decode cX1_heardReport 58 = .ok (.ifCond .eq 14, 3) := by decide +kernel
theorem dX1_heardReport_61 : decode cX1_heardReport 61 = .ok (.iload 4, 2) := by decide +kernel
theorem dX1_heardReport_63 : decode cX1_heardReport 63 = .ok (.ifCond .ne 6, 3) := by decide +kernel
theorem dX1_heardReport_66 : decode cX1_heardReport 66 = .ok (.iload 5, 2) := by decide +kernel
theorem dX1_heardReport_68 : decode cX1_heardReport 68 = .ok (.ireturn, 1) := by decide +kernel
theorem dX1_heardReport_69 : decode cX1_heardReport 69 = .ok (.iinc 4 (-1), 3) := by decide +kernel
theorem dX1_heardReport_72 : decode cX1_heardReport 72 = .ok (.iinc 5 1, 3) := by decide +kernel
theorem dX1_heardReport_75 : decode cX1_heardReport 75 = .ok (.goto (-55), 3) := by decide +kernel
theorem dX1_heardReport_78 : decode cX1_heardReport 78 = .ok (.iconst (-1), 1) := by decide +kernel
theorem dX1_heardReport_79 : decode cX1_heardReport 79 = .ok (.ireturn, 1) := by decide +kernel
theorem dX1_dateOn_0 : decode cX1_dateOn 0 = .ok (.aload_n 0, 1) := by decide +kernel
theorem dX1_dateOn_1 : decode cX1_dateOn 1 = .ok (.getfield 22, 3) := by decide +kernel
theorem dX1_dateOn_4 : decode cX1_dateOn 4 = .ok (.iload_n 1, 1) := by decide +kernel
theorem dX1_dateOn_5 : decode cX1_dateOn 5 = .ok (.iaload, 1) := by decide +kernel
theorem dX1_dateOn_6 : decode cX1_dateOn 6 = .ok (.istore_n 3, 1) := by decide +kernel
theorem dX1_dateOn_7 : decode cX1_dateOn 7 = .ok (.iload_n 3, 1) := by decide +kernel
theorem dX1_dateOn_8 : decode cX1_dateOn 8 = .ok (.ifCond .lt 37, 3) := by decide +kernel
theorem dX1_dateOn_11 : decode cX1_dateOn 11 = .ok (.aload_n 0, 1) := by decide +kernel
theorem dX1_dateOn_12 : decode cX1_dateOn 12 = .ok (.getfield 11, 3) := by decide +kernel
theorem dX1_dateOn_15 : decode cX1_dateOn 15 = .ok (.iload_n 1, 1) := by decide +kernel
theorem dX1_dateOn_16 : decode cX1_dateOn 16 = .ok (.aaload, 1) := by decide +kernel
theorem dX1_dateOn_17 : decode cX1_dateOn 17 = .ok (.iload_n 3, 1) := by decide +kernel
theorem dX1_dateOn_18 : decode cX1_dateOn 18 = .ok (.iaload, 1) := by decide +kernel
theorem dX1_dateOn_19 : decode cX1_dateOn 19 = .ok (.istore 4, 2) := by decide +kernel
theorem dX1_dateOn_21 : decode cX1_dateOn 21 = .ok (.iload 4, 2) := by decide +kernel
theorem dX1_dateOn_23 : decode cX1_dateOn 23 = .ok (.iload_n 2, 1) := by decide +kernel
theorem dX1_dateOn_24 : decode cX1_dateOn 24 = .ok (.if_icmp .gt 15, 3) := by decide +kernel
theorem dX1_dateOn_27 : decode cX1_dateOn 27 = .ok (.bipush 100, 2) := by decide +kernel
theorem dX1_dateOn_29 : decode cX1_dateOn 29 = .ok (.iload_n 3, 1) := by decide +kernel
theorem dX1_dateOn_30 : decode cX1_dateOn 30 = .ok (.imul, 1) := by decide +kernel
theorem dX1_dateOn_31 : decode cX1_dateOn 31 = .ok (.iload_n 2, 1) := by decide +kernel
theorem dX1_dateOn_32 : decode cX1_dateOn 32 = .ok (.iadd, 1) := by decide +kernel
theorem dX1_dateOn_33 : decode cX1_dateOn 33 = .ok (.iload 4, 2) := by decide +kernel
theorem dX1_dateOn_35 : decode cX1_dateOn 35 = .ok (.isub, 1) := by decide +kernel
theorem dX1_dateOn_36 : decode cX1_dateOn 36 = .ok (.iconst 1, 1) := by decide +kernel
theorem dX1_dateOn_37 : decode cX1_dateOn 37 = .ok (.iadd, 1) := by decide +kernel
theorem dX1_dateOn_38 : decode cX1_dateOn 38 = .ok (.ireturn, 1) := by decide +kernel
theorem dX1_dateOn_39 : decode cX1_dateOn 39 = .ok (.iinc 3 (-1), 3) := by decide +kernel
theorem dX1_dateOn_42 : decode cX1_dateOn 42 = .ok (.goto (-35), 3) := by decide +kernel
theorem dX1_dateOn_45 : decode cX1_dateOn 45 = .ok (.iconst (-1), 1) := by decide +kernel
theorem dX1_dateOn_46 : decode cX1_dateOn 46 = .ok (.ireturn, 1) := by decide +kernel
set_option maxRecDepth 20000 in
theorem ggX1_eveningOf_X5_isEvening : GoodIn wsX1_eveningOf wsX5_isEvening := goodIn_r _ [5] (by decide +kernel) (by decide +kernel)
set_option maxRecDepth 20000 in
theorem gX1_eveningOf_X5_isEvening_n134 : GoodIn wsX1_eveningOf (wsX5_isEvening) := ggX1_eveningOf_X5_isEvening
theorem dX1_eveningOf_0 : decode cX1_eveningOf 0 = .ok (.aload_n 0, 1) := by decide +kernel
theorem dX1_eveningOf_1 : decode cX1_eveningOf 1 = .ok (.getfield 11, 3) := by decide +kernel
theorem dX1_eveningOf_4 : decode cX1_eveningOf 4 = .ok (.iload_n 1, 1) := by decide +kernel
theorem dX1_eveningOf_5 : decode cX1_eveningOf 5 = .ok (.aaload, 1) := by decide +kernel
theorem dX1_eveningOf_6 : decode cX1_eveningOf 6 = .ok (.iload_n 2, 1) := by decide +kernel
theorem dX1_eveningOf_7 : decode cX1_eveningOf 7 = .ok (.iaload, 1) := by decide +kernel
theorem dX1_eveningOf_8 : decode cX1_eveningOf 8 = .ok (.iconst (-1), 1) := by decide +kernel
theorem dX1_eveningOf_9 : decode cX1_eveningOf 9 = .ok (.if_icmp .ne 5, 3) := by decide +kernel
theorem dX1_eveningOf_12 : decode cX1_eveningOf 12 = .ok (.iconst (-1), 1) := by decide +kernel
theorem dX1_eveningOf_13 : decode cX1_eveningOf 13 = .ok (.ireturn, 1) := by decide +kernel
theorem dX1_eveningOf_14 : decode cX1_eveningOf 14 = .ok (.aload_n 0, 1) := by decide +kernel
theorem dX1_eveningOf_15 : decode cX1_eveningOf 15 = .ok (.getfield 11, 3) := by decide +kernel
theorem dX1_eveningOf_18 : decode cX1_eveningOf 18 = .ok (.iload_n 1, 1) := by decide +kernel
theorem dX1_eveningOf_19 : decode cX1_eveningOf 19 = .ok (.aaload, 1) := by decide +kernel
theorem dX1_eveningOf_20 : decode cX1_eveningOf 20 = .ok (.iload_n 2, 1) := by decide +kernel
theorem dX1_eveningOf_21 : decode cX1_eveningOf 21 = .ok (.iaload, 1) := by decide +kernel
theorem dX1_eveningOf_22 : decode cX1_eveningOf 22 = .ok (.iload_n 3, 1) := by decide +kernel
theorem dX1_eveningOf_23 : decode cX1_eveningOf 23 = .ok (.iadd, 1) := by decide +kernel
theorem dX1_eveningOf_24 : decode cX1_eveningOf 24 = .ok (.iconst 1, 1) := by decide +kernel
theorem dX1_eveningOf_25 : decode cX1_eveningOf 25 = .ok (.isub, 1) := by decide +kernel
theorem dX1_eveningOf_26 : decode cX1_eveningOf 26 = .ok (.istore 4, 2) := by decide +kernel
theorem dX1_eveningOf_28 : decode cX1_eveningOf 28 = .ok (.iload 4, 2) := by decide +kernel
theorem dX1_eveningOf_30 : decode cX1_eveningOf 30 = .ok (.invokestatic 134, 3) := by decide +kernel
theorem dX1_eveningOf_33 : decode cX1_eveningOf 33 = .ok (.ifCond .ne 5, 3) := by decide +kernel
theorem dX1_eveningOf_36 : decode cX1_eveningOf 36 = .ok (.iconst (-1), 1) := by decide +kernel
theorem dX1_eveningOf_37 : decode cX1_eveningOf 37 = .ok (.ireturn, 1) := by decide +kernel
theorem dX1_eveningOf_38 : decode cX1_eveningOf 38 = .ok (.iload_n 2, 1) := by decide +kernel
theorem dX1_eveningOf_39 : decode cX1_eveningOf 39 = .ok (.aload_n 0, 1) := by decide +kernel
theorem dX1_eveningOf_40 : decode cX1_eveningOf 40 = .ok (.getfield 22, 3) := by decide +kernel
theorem dX1_eveningOf_43 : decode cX1_eveningOf 43 = .ok (.iload_n 1, 1) := by decide +kernel
theorem dX1_eveningOf_44 : decode cX1_eveningOf 44 = .ok (.iaload, 1) := by decide +kernel
theorem dX1_eveningOf_45 : decode cX1_eveningOf 45 = .ok (.if_icmp .ge 22, 3) := by decide +kernel
theorem dX1_eveningOf_48 : decode cX1_eveningOf 48 = .ok (.iload 4, 2) := by decide +kernel
theorem dX1_eveningOf_50 : decode cX1_eveningOf 50 = .ok (.aload_n 0, 1) := by decide +kernel
theorem dX1_eveningOf_51 : decode cX1_eveningOf 51 = .ok (.getfield 11, 3) := by decide +kernel
theorem dX1_eveningOf_54 : decode cX1_eveningOf 54 = .ok (.iload_n 1, 1) := by decide +kernel
theorem dX1_eveningOf_55 : decode cX1_eveningOf 55 = .ok (.aaload, 1) := by decide +kernel
theorem dX1_eveningOf_56 : decode cX1_eveningOf 56 = .ok (.iload_n 2, 1) := by decide +kernel
theorem dX1_eveningOf_57 : decode cX1_eveningOf 57 = .ok (.iconst 1, 1) := by decide +kernel
theorem dX1_eveningOf_58 : decode cX1_eveningOf 58 = .ok (.iadd, 1) := by decide +kernel
theorem dX1_eveningOf_59 : decode cX1_eveningOf 59 = .ok (.iaload, 1) := by decide +kernel
theorem dX1_eveningOf_60 : decode cX1_eveningOf 60 = .ok (.if_icmp .lt 7, 3) := by decide +kernel
theorem dX1_eveningOf_63 : decode cX1_eveningOf 63 = .ok (.iconst 1, 1) := by decide +kernel
theorem dX1_eveningOf_64 : decode cX1_eveningOf 64 = .ok (.goto 4, 3) := by decide +kernel
theorem dX1_eveningOf_67 : decode cX1_eveningOf 67 = .ok (.iconst 0, 1) := by decide +kernel
theorem dX1_eveningOf_68 : decode cX1_eveningOf 68 = .ok (.istore 5, 2) := by decide +kernel
theorem dX1_eveningOf_70 : decode cX1_eveningOf 70 = .ok (.iload 5, 2) := by decide +kernel
theorem dX1_eveningOf_72 : decode cX1_eveningOf 72 = .ok (.ifCond .eq 7, 3) := by decide +kernel
theorem dX1_eveningOf_75 : decode cX1_eveningOf 75 = .ok (.iconst (-1), 1) := by decide +kernel
theorem dX1_eveningOf_76 : decode cX1_eveningOf 76 = .ok (.goto 5, 3) := by decide +kernel
theorem dX1_eveningOf_79 : decode cX1_eveningOf 79 = .ok (.iload 4, 2) := by decide +kernel
theorem dX1_eveningOf_81 : decode cX1_eveningOf 81 = .ok (.ireturn, 1) := by decide +kernel
theorem dX2_init_0 : decode cX2_init 0 = .ok (.aload_n 0, 1) := by decide +kernel
theorem dX2_init_1 : decode cX2_init 1 = .ok (.invokespecial 3, 3) := by decide +kernel
theorem dX2_init_4 : decode cX2_init 4 = .ok (.aload_n 0, 1) := by decide +kernel
theorem dX2_init_5 : decode cX2_init 5 = .ok (.bipush 32, 2) := by decide +kernel
theorem dX2_init_7 : decode cX2_init 7 = .ok (.newarray .int, 2) := by decide +kernel
theorem dX2_init_9 : decode cX2_init 9 = .ok (.putfield 9, 3) := by decide +kernel
theorem dX2_init_12 : decode cX2_init 12 = .ok (.aload_n 0, 1) := by decide +kernel
theorem dX2_init_13 : decode cX2_init 13 = .ok (.iconst 0, 1) := by decide +kernel
theorem dX2_init_14 : decode cX2_init 14 = .ok (.putfield 15, 3) := by decide +kernel
theorem dX2_init_17 : decode cX2_init 17 = .ok (.aload_n 0, 1) := by decide +kernel
theorem dX2_init_18 : decode cX2_init 18 = .ok (.iconst 0, 1) := by decide +kernel
theorem dX2_init_19 : decode cX2_init 19 = .ok (.putfield 19, 3) := by decide +kernel
theorem dX2_init_22 : decode cX2_init 22 = .ok (.aload_n 0, 1) := by decide +kernel
theorem dX2_init_23 : decode cX2_init 23 = .ok (.iconst 0, 1) := by decide +kernel
theorem dX2_init_24 : decode cX2_init 24 = .ok (.putfield 22, 3) := by decide +kernel
theorem dX2_init_27 : decode cX2_init 27 = .ok (.aload_n 0, 1) := by decide +kernel
theorem dX2_init_28 : decode cX2_init 28 = .ok (.bipush 25, 2) := by decide +kernel
theorem dX2_init_30 : decode cX2_init 30 = .ok (.putfield 25, 3) := by decide +kernel
theorem dX2_init_33 : decode cX2_init 33 = .ok (.aload_n 0, 1) := by decide +kernel
theorem dX2_init_34 : decode cX2_init 34 = .ok (.iconst 0, 1) := by decide +kernel
theorem dX2_init_35 : decode cX2_init 35 = .ok (.putfield 28, 3) := by decide +kernel
theorem dX2_init_38 : decode cX2_init 38 = .ok (.aload_n 0, 1) := by decide +kernel
theorem dX2_init_39 : decode cX2_init 39 = .ok (.iconst 0, 1) := by decide +kernel
theorem dX2_init_40 : decode cX2_init 40 = .ok (.putfield 31, 3) := by decide +kernel
theorem dX2_init_43 : decode cX2_init 43 = .ok (.aload_n 0, 1) := by decide +kernel
theorem dX2_init_44 : decode cX2_init 44 = .ok (.iconst 0, 1) := by decide +kernel
theorem dX2_init_45 : decode cX2_init 45 = .ok (.putfield 34, 3) := by decide +kernel
theorem dX2_init_48 : decode cX2_init 48 = .ok (.aload_n 0, 1) := by decide +kernel
theorem dX2_init_49 : decode cX2_init 49 = .ok (.iconst 0, 1) := by decide +kernel
theorem dX2_init_50 : decode cX2_init 50 = .ok (.putfield 38, 3) := by decide +kernel
theorem dX2_init_53 : decode cX2_init 53 = .ok (.aload_n 0, 1) := by decide +kernel
theorem dX2_init_54 : decode cX2_init 54 = .ok (.aload_n 1, 1) := by decide +kernel
theorem dX2_init_55 : decode cX2_init 55 = .ok (.putfield 41, 3) := by decide +kernel
theorem dX2_init_58 : decode cX2_init 58 = .ok (.return_, 1) := by decide +kernel
set_option maxRecDepth 20000 in
theorem ggX2_readInto_X3_clearRules : GoodIn wsX2_readInto wsX3_clearRules := goodIn_r _ [16, 17, 18, 174, 175, 176, 177, 178, 179] (by decide +kernel) (by decide +kernel)
set_option maxRecDepth 20000 in
theorem gX2_readInto_X3_clearRules : GoodIn wsX2_readInto (wsV RX2 51 RX3 yX3_clearRules wsX3_clearRules) := goodIn_app (goodIn_of _ (by decide +kernel)) ggX2_readInto_X3_clearRules
set_option maxRecDepth 20000 in
theorem ggX2_readInto_X2_scanToken : GoodIn wsX2_readInto wsX2_scanToken := goodIn_r _ [23, 7, 6, 1, 24, 11, 25, 26, 22, 27, 28, 29, 30, 31, 32, 33, 34, 35, 36, 37, 38, 39, 40, 41, 42, 43, 44, 45, 46, 47, 48, 49, 50, 51, 52, 53, 54, 55, 56, 57, 58, 59, 60, 61, 62, 63, 64, 65, 66, 67, 68, 69, 70, 71, 72, 73, 74, 75, 76, 77, 78, 79, 80, 81, 82, 83, 84, 85, 86, 87, 88, 89, 90, 91, 92, 93, 94, 95, 96, 97, 98, 99, 100, 101, 102, 103, 104, 105, 164, 165, 166, 167, 168, 169, 170, 171, 172, 173] (by decide +kernel) (by decide +kernel)
set_option maxRecDepth 20000 in
theorem gX2_readInto_X2_scanToken : GoodIn wsX2_readInto (wsV RX2 56 RX2 yX2_scanToken wsX2_scanToken) := goodIn_app (goodIn_of _ (by decide +kernel)) ggX2_readInto_X2_scanToken
set_option maxRecDepth 20000 in
theorem ggX2_readInto_X2_stateBehind : GoodIn wsX2_readInto wsX2_stateBehind := goodIn_r _ [109, 11, 110, 111, 112, 22, 113, 114, 115, 15, 116, 117, 118, 119, 120, 8, 9, 121, 122, 123, 124, 164, 165, 166, 167, 168, 169, 170, 171, 172, 173] (by decide +kernel) (by decide +kernel)
set_option maxRecDepth 20000 in
theorem gX2_readInto_X2_stateBehind : GoodIn wsX2_readInto (wsV RX2 59 RX2 yX2_stateBehind wsX2_stateBehind) := goodIn_app (goodIn_of _ (by decide +kernel)) ggX2_readInto_X2_stateBehind
set_option maxRecDepth 20000 in
theorem ggX2_readInto_X2_lacksRoom : GoodIn wsX2_readInto wsX2_lacksRoom := goodIn_r _ [128, 129, 11, 8, 110, 111, 112, 22, 113, 174, 175, 176, 177, 178, 179, 164, 165, 166, 167, 168, 169, 170, 171, 172, 173] (by decide +kernel) (by decide +kernel)
set_option maxRecDepth 20000 in
theorem gX2_readInto_X2_lacksRoom : GoodIn wsX2_readInto (wsV RX2 63 RX2 yX2_lacksRoom wsX2_lacksRoom) := goodIn_app (goodIn_of _ (by decide +kernel)) ggX2_readInto_X2_lacksRoom
set_option maxRecDepth 20000 in
theorem ggX2_readInto_X2_takeToken : GoodIn wsX2_readInto wsX2_takeToken := goodIn_r _ [133, 11, 95, 8, 10, 134, 135, 4, 136, 9, 110, 111, 112, 22, 113, 137, 138, 139, 15, 140, 17, 141, 142, 143, 144, 145, 18, 146, 114, 115, 116, 147, 148, 149, 150, 151, 152, 153, 154, 155, 156, 157, 158, 159, 160, 161, 162, 163, 121, 122, 123, 124, 164, 165, 166, 167, 168, 169, 170, 171, 172, 173, 174, 175, 176, 177, 178, 179] (by decide +kernel) (by decide +kernel)
set_option maxRecDepth 20000 in
theorem gX2_readInto_X2_takeToken : GoodIn wsX2_readInto (wsV RX2 67 RX2 yX2_takeToken wsX2_takeToken) := goodIn_app (goodIn_of _ (by decide +kernel)) ggX2_readInto_X2_takeToken
theorem dX2_readInto_0 : decode cX2_readInto 0 = .ok (.aload_n 0, 1) := by decide +kernel
theorem dX2_readInto_1 : decode cX2_readInto 1 = .ok (.iload_n 2, 1) := by decide +kernel
theorem dX2_readInto_2 : decode cX2_readInto 2 = .ok (.aload_n 0, 1) := by decide +kernel
theorem dX2_readInto_3 : decode cX2_readInto 3 = .ok (.getfield 41, 3) := by decide +kernel
theorem dX2_readInto_6 : decode cX2_readInto 6 = .ok (.arraylength, 1) := by decide +kernel
theorem dX2_readInto_7 : decode cX2_readInto 7 = .ok (.invokestatic 45, 3) := by decide +kernel
theorem dX2_readInto_10 : decode cX2_readInto 10 = .ok (.putfield 19, 3) := by decide +kernel
theorem dX2_readInto_13 : decode cX2_readInto 13 = .ok (.aload_n 0, 1) := by decide +kernel
theorem dX2_readInto_14 : decode cX2_readInto 14 = .ok (.iconst 0, 1) := by decide +kernel
theorem dX2_readInto_15 : decode cX2_readInto 15 = .ok (.putfield 22, 3) := by decide +kernel
theorem dX2_readInto_18 : decode cX2_readInto 18 = .ok (.aload_n 0, 1) := by decide +kernel
theorem dX2_readInto_19 : decode cX2_readInto 19 = .ok (.iconst 0, 1) := by decide +kernel
theorem dX2_readInto_20 : decode cX2_readInto 20 = .ok (.putfield 31, 3) := by decide +kernel
theorem dX2_readInto_23 : decode cX2_readInto 23 = .ok (.aload_n 0, 1) := by decide +kernel
theorem dX2_readInto_24 : decode cX2_readInto 24 = .ok (.iconst 0, 1) := by decide +kernel
theorem dX2_readInto_25 : decode cX2_readInto 25 = .ok (.putfield 34, 3) := by decide +kernel
theorem dX2_readInto_28 : decode cX2_readInto 28 = .ok (.aload_n 0, 1) := by decide +kernel
theorem dX2_readInto_29 : decode cX2_readInto 29 = .ok (.iconst 0, 1) := by decide +kernel
theorem dX2_readInto_30 : decode cX2_readInto 30 = .ok (.putfield 15, 3) := by decide +kernel
theorem dX2_readInto_33 : decode cX2_readInto 33 = .ok (.aload_n 1, 1) := by decide +kernel
theorem dX2_readInto_34 : decode cX2_readInto 34 = .ok (.invokevirtual 51, 3) := by decide +kernel
theorem dX2_readInto_37 : decode cX2_readInto 37 = .ok (.iconst 0, 1) := by decide +kernel
theorem dX2_readInto_38 : decode cX2_readInto 38 = .ok (.istore_n 3, 1) := by decide +kernel
theorem dX2_readInto_39 : decode cX2_readInto 39 = .ok (.iconst 1, 1) := by decide +kernel
theorem dX2_readInto_40 : decode cX2_readInto 40 = .ok (.istore 4, 2) := by decide +kernel
theorem dX2_readInto_42 : decode cX2_readInto 42 = .ok (.iload 4, 2) := by decide +kernel
theorem dX2_readInto_44 : decode cX2_readInto 44 = .ok (.sipush 401, 3) := by decide +kernel
theorem dX2_readInto_47 : decode cX2_readInto 47 = .ok (.if_icmp .gt 69, 3) := by decide +kernel
theorem dX2_readInto_50 : decode cX2_readInto 50 = .ok (.aload_n 0, 1) := by decide +kernel
theorem dX2_readInto_51 : decode cX2_readInto 51 = .ok (.invokevirtual 56, 3) := by decide +kernel
theorem dX2_readInto_54 : decode cX2_readInto 54 = .ok (.aload_n 0, 1) := by decide +kernel
theorem dX2_readInto_55 : decode cX2_readInto 55 = .ok (.getfield 25, 3) := by decide +kernel
theorem dX2_readInto_58 : decode cX2_readInto 58 = .ok (.bipush 25, 2) := by decide +kernel
theorem dX2_readInto_60 : decode cX2_readInto 60 = .ok (.if_icmp .ne 9, 3) := by decide +kernel
theorem dX2_readInto_63 : decode cX2_readInto 63 = .ok (.iload_n 3, 1) := by decide +kernel
theorem dX2_readInto_64 : decode cX2_readInto 64 = .ok (.ifCond .ne 5, 3) := by decide +kernel
theorem dX2_readInto_67 : decode cX2_readInto 67 = .ok (.iconst 0, 1) := by decide +kernel
theorem dX2_readInto_68 : decode cX2_readInto 68 = .ok (.ireturn, 1) := by decide +kernel
theorem dX2_readInto_69 : decode cX2_readInto 69 = .ok (.aload_n 0, 1) := by decide +kernel
theorem dX2_readInto_70 : decode cX2_readInto 70 = .ok (.iload_n 3, 1) := by decide +kernel
theorem dX2_readInto_71 : decode cX2_readInto 71 = .ok (.invokevirtual 59, 3) := by decide +kernel
theorem dX2_readInto_74 : decode cX2_readInto 74 = .ok (.istore 5, 2) := by decide +kernel
theorem dX2_readInto_76 : decode cX2_readInto 76 = .ok (.iload 5, 2) := by decide +kernel
theorem dX2_readInto_78 : decode cX2_readInto 78 = .ok (.iconst (-1), 1) := by decide +kernel
theorem dX2_readInto_79 : decode cX2_readInto 79 = .ok (.if_icmp .ne 5, 3) := by decide +kernel
theorem dX2_readInto_82 : decode cX2_readInto 82 = .ok (.iconst 1, 1) := by decide +kernel
theorem dX2_readInto_83 : decode cX2_readInto 83 = .ok (.ireturn, 1) := by decide +kernel
theorem dX2_readInto_84 : decode cX2_readInto 84 = .ok (.iload 4, 2) := by decide +kernel
theorem dX2_readInto_86 : decode cX2_readInto 86 = .ok (.sipush 400, 3) := by decide +kernel
theorem dX2_readInto_89 : decode cX2_readInto 89 = .ok (.if_icmp .gt 11, 3) := by decide +kernel
theorem dX2_readInto_92 : decode cX2_readInto 92 = .ok (.aload_n 0, 1) := by decide +kernel
theorem dX2_readInto_93 : decode cX2_readInto 93 = .ok (.aload_n 1, 1) := by decide +kernel
theorem dX2_readInto_94 : decode cX2_readInto 94 = .ok (.invokevirtual 63, 3) := by decide +kernel
theorem dX2_readInto_97 : decode cX2_readInto 97 = .ok (.ifCond .eq 5, 3) := by decide +kernel
theorem dX2_readInto_100 : decode cX2_readInto 100 = .ok (.iconst 2, 1) := by decide +kernel
theorem dX2_readInto_101 : decode cX2_readInto 101 = .ok (.ireturn, 1) := by decide +kernel
theorem dX2_readInto_102 : decode cX2_readInto 102 = .ok (.aload_n 0, 1) := by decide +kernel
theorem dX2_readInto_103 : decode cX2_readInto 103 = .ok (.aload_n 1, 1) := by decide +kernel
theorem dX2_readInto_104 : decode cX2_readInto 104 = .ok (.invokevirtual 67, 3) := by decide +kernel
theorem dX2_readInto_107 : decode cX2_readInto 107 = .ok (.iload 5, 2) := by decide +kernel
theorem dX2_readInto_109 : decode cX2_readInto 109 = .ok (.istore_n 3, 1) := by decide +kernel
theorem dX2_readInto_110 : decode cX2_readInto 110 = .ok (.iinc 4 1, 3) := by decide +kernel
theorem dX2_readInto_113 : decode cX2_readInto 113 = .ok (.goto (-71), 3) := by decide +kernel
theorem dX2_readInto_116 : decode cX2_readInto 116 = .ok (.iconst 2, 1) := by decide +kernel
theorem dX2_readInto_117 : decode cX2_readInto 117 = .ok (.ireturn, 1) := by decide +kernel
set_option maxRecDepth 20000 in
theorem ggX2_stateBehind_X2_isRuleWord : GoodIn wsX2_stateBehind wsX2_isRuleWord := goodIn_r _ [6, 1, 21, 22, 23, 24, 25, 26, 27, 28, 29, 30] (by decide +kernel) (by decide +kernel)
set_option maxRecDepth 20000 in
theorem gX2_stateBehind_X2_isRuleWord : GoodIn wsX2_stateBehind (wsV RX2 71 RX2 yX2_isRuleWord wsX2_isRuleWord) := goodIn_app (goodIn_of _ (by decide +kernel)) ggX2_stateBehind_X2_isRuleWord
set_option maxRecDepth 20000 in
theorem ggX2_stateBehind_X3_isVar : GoodIn wsX2_stateBehind wsX3_isVar := goodIn_r _ [10] (by decide +kernel) (by decide +kernel)
set_option maxRecDepth 20000 in
theorem gX2_stateBehind_X3_isVar : GoodIn wsX2_stateBehind (va_wsS RX2 75 yX3_isVar wsX3_isVar) := goodIn_app (goodIn_of _ (by decide +kernel)) ggX2_stateBehind_X3_isVar
set_option maxRecDepth 20000 in
theorem ggX2_stateBehind_X2_stateBehindUnit : GoodIn wsX2_stateBehind wsX2_stateBehindUnit := goodIn_r _ [14, 1, 15, 16, 17, 18, 19, 5, 20, 21, 22, 23, 24, 25, 26, 27, 28, 29, 30] (by decide +kernel) (by decide +kernel)
set_option maxRecDepth 20000 in
theorem gX2_stateBehind_X2_stateBehindUnit : GoodIn wsX2_stateBehind (wsV RX2 79 RX2 yX2_stateBehindUnit wsX2_stateBehindUnit) := goodIn_app (goodIn_of _ (by decide +kernel)) ggX2_stateBehind_X2_stateBehindUnit
theorem dX2_stateBehind_0 : decode cX2_stateBehind 0 = .ok (.iload_n 1, 1) := by decide +kernel
theorem dX2_stateBehind_1 : decode cX2_stateBehind 1 = .ok (.tableswitch 90 0 2 #[27, 40, 54], 27) := by decide +kernel
theorem dX2_stateBehind_28 : decode cX2_stateBehind 28 = .ok (.aload_n 0, 1) := by decide +kernel
theorem dX2_stateBehind_29 : decode cX2_stateBehind 29 = .ok (.invokevirtual 71, 3) := by decide +kernel
theorem dX2_stateBehind_32 : decode cX2_stateBehind 32 = .ok (.ifCond .eq 7, 3) := by decide +kernel
theorem dX2_stateBehind_35 : decode cX2_stateBehind 35 = .ok (.iconst 1, 1) := by decide +kernel
theorem dX2_stateBehind_36 : decode cX2_stateBehind 36 = .ok (.goto 4, 3) := by decide +kernel
theorem dX2_stateBehind_39 : decode cX2_stateBehind 39 = .ok (.iconst (-1), 1) := by decide +kernel
theorem dX2_stateBehind_40 : decode cX2_stateBehind 40 = .ok (.ireturn, 1) := by decide +kernel
theorem dX2_stateBehind_41 : decode cX2_stateBehind 41 = .ok (.aload_n 0, 1) := by decide +kernel
theorem dX2_stateBehind_42 : decode cX2_stateBehind 42 = .ok (.getfield 25, 3) := by decide +kernel
theorem dX2_stateBehind_45 : decode cX2_stateBehind 45 = .ok (.iconst 3, 1) := by decide +kernel
theorem dX2_stateBehind_46 : decode cX2_stateBehind 46 = .ok (.if_icmp .ne 7, 3) := by decide +kernel
theorem dX2_stateBehind_49 : decode cX2_stateBehind 49 = .ok (.iconst 2, 1) := by decide +kernel
theorem dX2_stateBehind_50 : decode cX2_stateBehind 50 = .ok (.goto 4, 3) := by decide +kernel
theorem dX2_stateBehind_53 : decode cX2_stateBehind 53 = .ok (.iconst (-1), 1) := by decide +kernel
theorem dX2_stateBehind_54 : decode cX2_stateBehind 54 = .ok (.ireturn, 1) := by decide +kernel
theorem dX2_stateBehind_55 : decode cX2_stateBehind 55 = .ok (.aload_n 0, 1) := by decide +kernel
theorem dX2_stateBehind_56 : decode cX2_stateBehind 56 = .ok (.getfield 25, 3) := by decide +kernel
theorem dX2_stateBehind_59 : decode cX2_stateBehind 59 = .ok (.bipush 23, 2) := by decide +kernel
theorem dX2_stateBehind_61 : decode cX2_stateBehind 61 = .ok (.if_icmp .ne 5, 3) := by decide +kernel
theorem dX2_stateBehind_64 : decode cX2_stateBehind 64 = .ok (.iconst 2, 1) := by decide +kernel
theorem dX2_stateBehind_65 : decode cX2_stateBehind 65 = .ok (.ireturn, 1) := by decide +kernel
theorem dX2_stateBehind_66 : decode cX2_stateBehind 66 = .ok (.aload_n 0, 1) := by decide +kernel
theorem dX2_stateBehind_67 : decode cX2_stateBehind 67 = .ok (.getfield 25, 3) := by decide +kernel
theorem dX2_stateBehind_70 : decode cX2_stateBehind 70 = .ok (.bipush 14, 2) := by decide +kernel
theorem dX2_stateBehind_72 : decode cX2_stateBehind 72 = .ok (.if_icmp .eq 13, 3) := by decide +kernel
theorem dX2_stateBehind_75 : decode cX2_stateBehind 75 = .ok (.aload_n 0, 1) := by decide +kernel
theorem dX2_stateBehind_76 : decode cX2_stateBehind 76 = .ok (.getfield 25, 3) := by decide +kernel
theorem dX2_stateBehind_79 : decode cX2_stateBehind 79 = .ok (.invokestatic 75, 3) := by decide +kernel
theorem dX2_stateBehind_82 : decode cX2_stateBehind 82 = .ok (.ifCond .eq 7, 3) := by decide +kernel
theorem dX2_stateBehind_85 : decode cX2_stateBehind 85 = .ok (.iconst 3, 1) := by decide +kernel
theorem dX2_stateBehind_86 : decode cX2_stateBehind 86 = .ok (.goto 4, 3) := by decide +kernel
theorem dX2_stateBehind_89 : decode cX2_stateBehind 89 = .ok (.iconst (-1), 1) := by decide +kernel
theorem dX2_stateBehind_90 : decode cX2_stateBehind 90 = .ok (.ireturn, 1) := by decide +kernel
theorem dX2_stateBehind_91 : decode cX2_stateBehind 91 = .ok (.aload_n 0, 1) := by decide +kernel
theorem dX2_stateBehind_92 : decode cX2_stateBehind 92 = .ok (.invokevirtual 79, 3) := by decide +kernel
theorem dX2_stateBehind_95 : decode cX2_stateBehind 95 = .ok (.ireturn, 1) := by decide +kernel
set_option maxRecDepth 20000 in
theorem ggX2_stateBehindUnit_X2_isRelation : GoodIn wsX2_stateBehindUnit wsX2_isRelation := goodIn_r _ [8, 1, 9, 10, 11, 12, 13, 14, 15, 16, 17, 18] (by decide +kernel) (by decide +kernel)
set_option maxRecDepth 20000 in
theorem gX2_stateBehindUnit_X2_isRelation : GoodIn wsX2_stateBehindUnit (wsV RX2 83 RX2 yX2_isRelation wsX2_isRelation) := goodIn_app (goodIn_of _ (by decide +kernel)) ggX2_stateBehindUnit_X2_isRelation
theorem dX2_stateBehindUnit_0 : decode cX2_stateBehindUnit 0 = .ok (.aload_n 0, 1) := by decide +kernel
theorem dX2_stateBehindUnit_1 : decode cX2_stateBehindUnit 1 = .ok (.getfield 25, 3) := by decide +kernel
theorem dX2_stateBehindUnit_4 : decode cX2_stateBehindUnit 4 = .ok (.bipush 16, 2) := by decide +kernel
theorem dX2_stateBehindUnit_6 : decode cX2_stateBehindUnit 6 = .ok (.if_icmp .eq 21, 3) := by decide +kernel
theorem dX2_stateBehindUnit_9 : decode cX2_stateBehindUnit 9 = .ok (.aload_n 0, 1) := by decide +kernel
theorem dX2_stateBehindUnit_10 : decode cX2_stateBehindUnit 10 = .ok (.getfield 25, 3) := by decide +kernel
theorem dX2_stateBehindUnit_13 : decode cX2_stateBehindUnit 13 = .ok (.bipush 17, 2) := by decide +kernel
theorem dX2_stateBehindUnit_15 : decode cX2_stateBehindUnit 15 = .ok (.if_icmp .eq 12, 3) := by decide +kernel
theorem dX2_stateBehindUnit_18 : decode cX2_stateBehindUnit 18 = .ok (.aload_n 0, 1) := by decide +kernel
theorem dX2_stateBehindUnit_19 : decode cX2_stateBehindUnit 19 = .ok (.getfield 25, 3) := by decide +kernel
theorem dX2_stateBehindUnit_22 : decode cX2_stateBehindUnit 22 = .ok (.bipush 18, 2) := by decide +kernel
theorem dX2_stateBehindUnit_24 : decode cX2_stateBehindUnit 24 = .ok (.if_icmp .ne 5, 3) := by decide +kernel
theorem dX2_stateBehindUnit_27 : decode cX2_stateBehindUnit 27 = .ok (.iconst 2, 1) := by decide +kernel
theorem dX2_stateBehindUnit_28 : decode cX2_stateBehindUnit 28 = .ok (.ireturn, 1) := by decide +kernel
theorem dX2_stateBehindUnit_29 : decode cX2_stateBehindUnit 29 = .ok (.aload_n 0, 1) := by decide +kernel
theorem dX2_stateBehindUnit_30 : decode cX2_stateBehindUnit 30 = .ok (.getfield 31, 3) := by decide +kernel
theorem dX2_stateBehindUnit_33 : decode cX2_stateBehindUnit 33 = .ok (.ifCond .le 18, 3) := by decide +kernel
theorem dX2_stateBehindUnit_36 : decode cX2_stateBehindUnit 36 = .ok (.aload_n 0, 1) := by decide +kernel
theorem dX2_stateBehindUnit_37 : decode cX2_stateBehindUnit 37 = .ok (.getfield 25, 3) := by decide +kernel
theorem dX2_stateBehindUnit_40 : decode cX2_stateBehindUnit 40 = .ok (.bipush 24, 2) := by decide +kernel
theorem dX2_stateBehindUnit_42 : decode cX2_stateBehindUnit 42 = .ok (.if_icmp .ne 7, 3) := by decide +kernel
theorem dX2_stateBehindUnit_45 : decode cX2_stateBehindUnit 45 = .ok (.iconst 3, 1) := by decide +kernel
theorem dX2_stateBehindUnit_46 : decode cX2_stateBehindUnit 46 = .ok (.goto 4, 3) := by decide +kernel
theorem dX2_stateBehindUnit_49 : decode cX2_stateBehindUnit 49 = .ok (.iconst (-1), 1) := by decide +kernel
theorem dX2_stateBehindUnit_50 : decode cX2_stateBehindUnit 50 = .ok (.ireturn, 1) := by decide +kernel
theorem dX2_stateBehindUnit_51 : decode cX2_stateBehindUnit 51 = .ok (.aload_n 0, 1) := by decide +kernel
theorem dX2_stateBehindUnit_52 : decode cX2_stateBehindUnit 52 = .ok (.getfield 34, 3) := by decide +kernel
theorem dX2_stateBehindUnit_55 : decode cX2_stateBehindUnit 55 = .ok (.ifCond .ne 16, 3) := by decide +kernel
theorem dX2_stateBehindUnit_58 : decode cX2_stateBehindUnit 58 = .ok (.aload_n 0, 1) := by decide +kernel
theorem dX2_stateBehindUnit_59 : decode cX2_stateBehindUnit 59 = .ok (.invokevirtual 83, 3) := by decide +kernel
theorem dX2_stateBehindUnit_62 : decode cX2_stateBehindUnit 62 = .ok (.ifCond .eq 7, 3) := by decide +kernel
theorem dX2_stateBehindUnit_65 : decode cX2_stateBehindUnit 65 = .ok (.iconst 2, 1) := by decide +kernel
theorem dX2_stateBehindUnit_66 : decode cX2_stateBehindUnit 66 = .ok (.goto 4, 3) := by decide +kernel
theorem dX2_stateBehindUnit_69 : decode cX2_stateBehindUnit 69 = .ok (.iconst (-1), 1) := by decide +kernel
theorem dX2_stateBehindUnit_70 : decode cX2_stateBehindUnit 70 = .ok (.ireturn, 1) := by decide +kernel
theorem dX2_stateBehindUnit_71 : decode cX2_stateBehindUnit 71 = .ok (.aload_n 0, 1) := by decide +kernel
theorem dX2_stateBehindUnit_72 : decode cX2_stateBehindUnit 72 = .ok (.getfield 25, 3) := by decide +kernel
theorem dX2_stateBehindUnit_75 : decode cX2_stateBehindUnit 75 = .ok (.bipush 15, 2) := by decide +kernel
theorem dX2_stateBehindUnit_77 : decode cX2_stateBehindUnit 77 = .ok (.if_icmp .ne 5, 3) := by decide +kernel
theorem dX2_stateBehindUnit_80 : decode cX2_stateBehindUnit 80 = .ok (.iconst 0, 1) := by decide +kernel
theorem dX2_stateBehindUnit_81 : decode cX2_stateBehindUnit 81 = .ok (.ireturn, 1) := by decide +kernel
theorem dX2_stateBehindUnit_82 : decode cX2_stateBehindUnit 82 = .ok (.aload_n 0, 1) := by decide +kernel
theorem dX2_stateBehindUnit_83 : decode cX2_stateBehindUnit 83 = .ok (.getfield 25, 3) := by decide +kernel
theorem dX2_stateBehindUnit_86 : decode cX2_stateBehindUnit 86 = .ok (.iconst 5, 1) := by decide +kernel
theorem dX2_stateBehindUnit_87 : decode cX2_stateBehindUnit 87 = .ok (.if_icmp .eq 11, 3) := by decide +kernel
theorem dX2_stateBehindUnit_90 : decode cX2_stateBehindUnit 90 = .ok (.aload_n 0, 1) := by decide +kernel
theorem dX2_stateBehindUnit_91 : decode cX2_stateBehindUnit 91 = .ok (.getfield 25, 3) := by decide +kernel
theorem dX2_stateBehindUnit_94 : decode cX2_stateBehindUnit 94 = .ok (.iconst 4, 1) := by decide +kernel
theorem dX2_stateBehindUnit_95 : decode cX2_stateBehindUnit 95 = .ok (.if_icmp .ne 7, 3) := by decide +kernel
theorem dX2_stateBehindUnit_98 : decode cX2_stateBehindUnit 98 = .ok (.iconst 2, 1) := by decide +kernel
theorem dX2_stateBehindUnit_99 : decode cX2_stateBehindUnit 99 = .ok (.goto 4, 3) := by decide +kernel
theorem dX2_stateBehindUnit_102 : decode cX2_stateBehindUnit 102 = .ok (.iconst (-1), 1) := by decide +kernel
theorem dX2_stateBehindUnit_103 : decode cX2_stateBehindUnit 103 = .ok (.ireturn, 1) := by decide +kernel
set_option maxRecDepth 20000 in
theorem ggX2_lacksRoom_X2_isRuleWord : GoodIn wsX2_lacksRoom wsX2_isRuleWord := goodIn_r _ [8, 2, 15, 16, 17, 18, 19, 20, 21, 22, 23, 24] (by decide +kernel) (by decide +kernel)
set_option maxRecDepth 20000 in
theorem gX2_lacksRoom_X2_isRuleWord : GoodIn wsX2_lacksRoom (wsV RX2 71 RX2 yX2_isRuleWord wsX2_isRuleWord) := goodIn_app (goodIn_of _ (by decide +kernel)) ggX2_lacksRoom_X2_isRuleWord
theorem dX2_lacksRoom_0 : decode cX2_lacksRoom 0 = .ok (.aload_n 0, 1) := by decide +kernel
theorem dX2_lacksRoom_1 : decode cX2_lacksRoom 1 = .ok (.invokevirtual 71, 3) := by decide +kernel
theorem dX2_lacksRoom_4 : decode cX2_lacksRoom 4 = .ok (.ifCond .eq 12, 3) := by decide +kernel
theorem dX2_lacksRoom_7 : decode cX2_lacksRoom 7 = .ok (.aload_n 1, 1) := by decide +kernel
theorem dX2_lacksRoom_8 : decode cX2_lacksRoom 8 = .ok (.getfield 86, 3) := by decide +kernel
theorem dX2_lacksRoom_11 : decode cX2_lacksRoom 11 = .ok (.bipush 12, 2) := by decide +kernel
theorem dX2_lacksRoom_13 : decode cX2_lacksRoom 13 = .ok (.if_icmp .ge 21, 3) := by decide +kernel
theorem dX2_lacksRoom_16 : decode cX2_lacksRoom 16 = .ok (.aload_n 0, 1) := by decide +kernel
theorem dX2_lacksRoom_17 : decode cX2_lacksRoom 17 = .ok (.getfield 25, 3) := by decide +kernel
theorem dX2_lacksRoom_20 : decode cX2_lacksRoom 20 = .ok (.bipush 23, 2) := by decide +kernel
theorem dX2_lacksRoom_22 : decode cX2_lacksRoom 22 = .ok (.if_icmp .ne 16, 3) := by decide +kernel
theorem dX2_lacksRoom_25 : decode cX2_lacksRoom 25 = .ok (.aload_n 0, 1) := by decide +kernel
theorem dX2_lacksRoom_26 : decode cX2_lacksRoom 26 = .ok (.getfield 31, 3) := by decide +kernel
theorem dX2_lacksRoom_29 : decode cX2_lacksRoom 29 = .ok (.bipush 6, 2) := by decide +kernel
theorem dX2_lacksRoom_31 : decode cX2_lacksRoom 31 = .ok (.if_icmp .lt 7, 3) := by decide +kernel
theorem dX2_lacksRoom_34 : decode cX2_lacksRoom 34 = .ok (.iconst 1, 1) := by decide +kernel
theorem dX2_lacksRoom_35 : decode cX2_lacksRoom 35 = .ok (.goto 4, 3) := by decide +kernel
theorem dX2_lacksRoom_38 : decode cX2_lacksRoom 38 = .ok (.iconst 0, 1) := by decide +kernel
theorem dX2_lacksRoom_39 : decode cX2_lacksRoom 39 = .ok (.ireturn, 1) := by decide +kernel
theorem dX2_isRuleWord_0 : decode cX2_isRuleWord 0 = .ok (.aload_n 0, 1) := by decide +kernel
theorem dX2_isRuleWord_1 : decode cX2_isRuleWord 1 = .ok (.getfield 25, 3) := by decide +kernel
theorem dX2_isRuleWord_4 : decode cX2_isRuleWord 4 = .ok (.ifCond .eq 19, 3) := by decide +kernel
theorem dX2_isRuleWord_7 : decode cX2_isRuleWord 7 = .ok (.aload_n 0, 1) := by decide +kernel
theorem dX2_isRuleWord_8 : decode cX2_isRuleWord 8 = .ok (.getfield 25, 3) := by decide +kernel
theorem dX2_isRuleWord_11 : decode cX2_isRuleWord 11 = .ok (.iconst 1, 1) := by decide +kernel
theorem dX2_isRuleWord_12 : decode cX2_isRuleWord 12 = .ok (.if_icmp .eq 11, 3) := by decide +kernel
theorem dX2_isRuleWord_15 : decode cX2_isRuleWord 15 = .ok (.aload_n 0, 1) := by decide +kernel
theorem dX2_isRuleWord_16 : decode cX2_isRuleWord 16 = .ok (.getfield 25, 3) := by decide +kernel
theorem dX2_isRuleWord_19 : decode cX2_isRuleWord 19 = .ok (.iconst 2, 1) := by decide +kernel
theorem dX2_isRuleWord_20 : decode cX2_isRuleWord 20 = .ok (.if_icmp .ne 7, 3) := by decide +kernel
theorem dX2_isRuleWord_23 : decode cX2_isRuleWord 23 = .ok (.iconst 1, 1) := by decide +kernel
theorem dX2_isRuleWord_24 : decode cX2_isRuleWord 24 = .ok (.goto 4, 3) := by decide +kernel
theorem dX2_isRuleWord_27 : decode cX2_isRuleWord 27 = .ok (.iconst 0, 1) := by decide +kernel
theorem dX2_isRuleWord_28 : decode cX2_isRuleWord 28 = .ok (.ireturn, 1) := by decide +kernel
theorem dX2_isRelation_0 : decode cX2_isRelation 0 = .ok (.aload_n 0, 1) := by decide +kernel
theorem dX2_isRelation_1 : decode cX2_isRelation 1 = .ok (.getfield 25, 3) := by decide +kernel
theorem dX2_isRelation_4 : decode cX2_isRelation 4 = .ok (.bipush 19, 2) := by decide +kernel
theorem dX2_isRelation_6 : decode cX2_isRelation 6 = .ok (.if_icmp .lt 16, 3) := by decide +kernel
theorem dX2_isRelation_9 : decode cX2_isRelation 9 = .ok (.aload_n 0, 1) := by decide +kernel
theorem dX2_isRelation_10 : decode cX2_isRelation 10 = .ok (.getfield 25, 3) := by decide +kernel
theorem dX2_isRelation_13 : decode cX2_isRelation 13 = .ok (.bipush 22, 2) := by decide +kernel
theorem dX2_isRelation_15 : decode cX2_isRelation 15 = .ok (.if_icmp .gt 7, 3) := by decide +kernel
theorem dX2_isRelation_18 : decode cX2_isRelation 18 = .ok (.iconst 1, 1) := by decide +kernel
theorem dX2_isRelation_19 : decode cX2_isRelation 19 = .ok (.goto 4, 3) := by decide +kernel
theorem dX2_isRelation_22 : decode cX2_isRelation 22 = .ok (.iconst 0, 1) := by decide +kernel
theorem dX2_isRelation_23 : decode cX2_isRelation 23 = .ok (.ireturn, 1) := by decide +kernel
set_option maxRecDepth 20000 in
theorem ggX2_takeToken_X2_isRuleWord : GoodIn wsX2_takeToken wsX2_isRuleWord := goodIn_r _ [14, 1, 52, 53, 54, 55, 56, 57, 58, 59, 60, 61] (by decide +kernel) (by decide +kernel)
set_option maxRecDepth 20000 in
theorem gX2_takeToken_X2_isRuleWord : GoodIn wsX2_takeToken (wsV RX2 71 RX2 yX2_isRuleWord wsX2_isRuleWord) := goodIn_app (goodIn_of _ (by decide +kernel)) ggX2_takeToken_X2_isRuleWord
set_option maxRecDepth 20000 in
theorem ggX2_takeToken_X3_openRule : GoodIn wsX2_takeToken wsX3_openRule := goodIn_r _ [19, 20, 21, 62, 63, 64, 65, 66, 67] (by decide +kernel) (by decide +kernel)
set_option maxRecDepth 20000 in
theorem gX2_takeToken_X3_openRule : GoodIn wsX2_takeToken (wsV RX2 89 RX3 yX3_openRule wsX3_openRule) := goodIn_app (goodIn_of _ (by decide +kernel)) ggX2_takeToken_X3_openRule
set_option maxRecDepth 20000 in
theorem ggX2_takeToken_X3_addCode : GoodIn wsX2_takeToken wsX3_addCode := goodIn_r _ [25, 26, 27, 62, 63, 64, 65, 66, 67] (by decide +kernel) (by decide +kernel)
set_option maxRecDepth 20000 in
theorem gX2_takeToken_X3_addCode : GoodIn wsX2_takeToken (wsV RX2 93 RX3 yX3_addCode wsX3_addCode) := goodIn_app (goodIn_of _ (by decide +kernel)) ggX2_takeToken_X3_addCode
set_option maxRecDepth 20000 in
theorem ggX2_takeToken_X3_isVar : GoodIn wsX2_takeToken wsX3_isVar := goodIn_r _ [30] (by decide +kernel) (by decide +kernel)
set_option maxRecDepth 20000 in
theorem gX2_takeToken_X3_isVar : GoodIn wsX2_takeToken (va_wsS RX2 75 yX3_isVar wsX3_isVar) := goodIn_app (goodIn_of _ (by decide +kernel)) ggX2_takeToken_X3_isVar
set_option maxRecDepth 20000 in
theorem ggX2_takeToken_X2_keepWaiting : GoodIn wsX2_takeToken wsX2_keepWaiting := goodIn_r _ [34, 4, 35, 1, 52, 53, 54, 55, 56, 57, 58, 59, 60, 61] (by decide +kernel) (by decide +kernel)
set_option maxRecDepth 20000 in
theorem gX2_takeToken_X2_keepWaiting : GoodIn wsX2_takeToken (wsV RX2 96 RX2 yX2_keepWaiting wsX2_keepWaiting) := goodIn_app (goodIn_of _ (by decide +kernel)) ggX2_takeToken_X2_keepWaiting
set_option maxRecDepth 20000 in
theorem ggX2_takeToken_X2_bond : GoodIn wsX2_takeToken wsX2_bond := goodIn_r _ [38] (by decide +kernel) (by decide +kernel)
set_option maxRecDepth 20000 in
theorem gX2_takeToken_X2_bond : GoodIn wsX2_takeToken (va_wsS RX2 99 yX2_bond wsX2_bond) := goodIn_app (goodIn_of _ (by decide +kernel)) ggX2_takeToken_X2_bond
set_option maxRecDepth 20000 in
theorem ggX2_takeToken_X2_emitWaiting : GoodIn wsX2_takeToken wsX2_emitWaiting := goodIn_r _ [42, 4, 35, 36, 37, 13, 38, 22, 23, 24, 18, 25, 26, 27, 52, 53, 54, 55, 56, 57, 58, 59, 60, 61, 62, 63, 64, 65, 66, 67] (by decide +kernel) (by decide +kernel)
set_option maxRecDepth 20000 in
theorem gX2_takeToken_X2_emitWaiting : GoodIn wsX2_takeToken (wsV RX2 102 RX2 yX2_emitWaiting wsX2_emitWaiting) := goodIn_app (goodIn_of _ (by decide +kernel)) ggX2_takeToken_X2_emitWaiting
set_option maxRecDepth 20000 in
theorem ggX2_takeToken_X3_closeRule : GoodIn wsX2_takeToken wsX3_closeRule := goodIn_r _ [46, 20, 47, 26, 62, 63, 64, 65, 66, 67] (by decide +kernel) (by decide +kernel)
set_option maxRecDepth 20000 in
theorem gX2_takeToken_X3_closeRule : GoodIn wsX2_takeToken (wsV RX2 109 RX3 yX3_closeRule wsX3_closeRule) := goodIn_app (goodIn_of _ (by decide +kernel)) ggX2_takeToken_X3_closeRule
set_option maxRecDepth 20000 in
theorem ggX2_takeToken_X2_isRelation : GoodIn wsX2_takeToken wsX2_isRelation := goodIn_r _ [51, 1, 52, 53, 54, 55, 56, 57, 58, 59, 60, 61] (by decide +kernel) (by decide +kernel)
set_option maxRecDepth 20000 in
theorem gX2_takeToken_X2_isRelation : GoodIn wsX2_takeToken (wsV RX2 83 RX2 yX2_isRelation wsX2_isRelation) := goodIn_app (goodIn_of _ (by decide +kernel)) ggX2_takeToken_X2_isRelation
theorem dX2_takeToken_0 : decode cX2_takeToken 0 = .ok (.aload_n 0, 1) := by decide +kernel
theorem dX2_takeToken_1 : decode cX2_takeToken 1 = .ok (.invokevirtual 71, 3) := by decide +kernel
theorem dX2_takeToken_4 : decode cX2_takeToken 4 = .ok (.ifCond .eq 14, 3) := by decide +kernel
theorem dX2_takeToken_7 : decode cX2_takeToken 7 = .ok (.aload_n 1, 1) := by decide +kernel
theorem dX2_takeToken_8 : decode cX2_takeToken 8 = .ok (.aload_n 0, 1) := by decide +kernel
theorem dX2_takeToken_9 : decode cX2_takeToken 9 = .ok (.getfield 25, 3) := by decide +kernel
theorem dX2_takeToken_12 : decode cX2_takeToken 12 = .ok (.invokevirtual 89, 3) := by decide +kernel
theorem dX2_takeToken_15 : decode cX2_takeToken 15 = .ok (.goto 212, 3) := by decide +kernel
theorem dX2_takeToken_18 : decode cX2_takeToken 18 = .ok (.aload_n 0, 1) := by decide +kernel
theorem dX2_takeToken_19 : decode cX2_takeToken 19 = .ok (.getfield 25, 3) := by decide +kernel
theorem dX2_takeToken_22 : decode cX2_takeToken 22 = .ok (.bipush 14, 2) := by decide +kernel
theorem dX2_takeToken_24 : decode cX2_takeToken 24 = .ok (.if_icmp .ne 14, 3) := by decide +kernel
theorem dX2_takeToken_27 : decode cX2_takeToken 27 = .ok (.aload_n 1, 1) := by decide +kernel
theorem dX2_takeToken_28 : decode cX2_takeToken 28 = .ok (.aload_n 0, 1) := by decide +kernel
theorem dX2_takeToken_29 : decode cX2_takeToken 29 = .ok (.getfield 28, 3) := by decide +kernel
theorem dX2_takeToken_32 : decode cX2_takeToken 32 = .ok (.invokevirtual 93, 3) := by decide +kernel
theorem dX2_takeToken_35 : decode cX2_takeToken 35 = .ok (.goto 192, 3) := by decide +kernel
theorem dX2_takeToken_38 : decode cX2_takeToken 38 = .ok (.aload_n 0, 1) := by decide +kernel
theorem dX2_takeToken_39 : decode cX2_takeToken 39 = .ok (.getfield 25, 3) := by decide +kernel
theorem dX2_takeToken_42 : decode cX2_takeToken 42 = .ok (.invokestatic 75, 3) := by decide +kernel
theorem dX2_takeToken_45 : decode cX2_takeToken 45 = .ok (.ifCond .eq 18, 3) := by decide +kernel
theorem dX2_takeToken_48 : decode cX2_takeToken 48 = .ok (.aload_n 1, 1) := by decide +kernel
theorem dX2_takeToken_49 : decode cX2_takeToken 49 = .ok (.sipush 10000, 3) := by decide +kernel
theorem dX2_takeToken_52 : decode cX2_takeToken 52 = .ok (.aload_n 0, 1) := by decide +kernel
theorem dX2_takeToken_53 : decode cX2_takeToken 53 = .ok (.getfield 25, 3) := by decide +kernel
theorem dX2_takeToken_56 : decode cX2_takeToken 56 = .ok (.iadd, 1) := by decide +kernel
theorem dX2_takeToken_57 : decode cX2_takeToken 57 = .ok (.invokevirtual 93, 3) := by decide +kernel
theorem dX2_takeToken_60 : decode cX2_takeToken 60 = .ok (.goto 167, 3) := by decide +kernel
theorem dX2_takeToken_63 : decode cX2_takeToken 63 = .ok (.aload_n 0, 1) := by decide +kernel
theorem dX2_takeToken_64 : decode cX2_takeToken 64 = .ok (.getfield 25, 3) := by decide +kernel
theorem dX2_takeToken_67 : decode cX2_takeToken 67 = .ok (.bipush 23, 2) := by decide +kernel
theorem dX2_takeToken_69 : decode cX2_takeToken 69 = .ok (.if_icmp .ne 20, 3) := by decide +kernel
theorem dX2_takeToken_72 : decode cX2_takeToken 72 = .ok (.aload_n 0, 1) := by decide +kernel
theorem dX2_takeToken_73 : decode cX2_takeToken 73 = .ok (.dup, 1) := by decide +kernel
theorem dX2_takeToken_74 : decode cX2_takeToken 74 = .ok (.getfield 31, 3) := by decide +kernel
theorem dX2_takeToken_77 : decode cX2_takeToken 77 = .ok (.iconst 1, 1) := by decide +kernel
theorem dX2_takeToken_78 : decode cX2_takeToken 78 = .ok (.iadd, 1) := by decide +kernel
theorem dX2_takeToken_79 : decode cX2_takeToken 79 = .ok (.putfield 31, 3) := by decide +kernel
theorem dX2_takeToken_82 : decode cX2_takeToken 82 = .ok (.aload_n 0, 1) := by decide +kernel
theorem dX2_takeToken_83 : decode cX2_takeToken 83 = .ok (.invokevirtual 96, 3) := by decide +kernel
theorem dX2_takeToken_86 : decode cX2_takeToken 86 = .ok (.goto 141, 3) := by decide +kernel
theorem dX2_takeToken_89 : decode cX2_takeToken 89 = .ok (.aload_n 0, 1) := by decide +kernel
theorem dX2_takeToken_90 : decode cX2_takeToken 90 = .ok (.getfield 25, 3) := by decide +kernel
theorem dX2_takeToken_93 : decode cX2_takeToken 93 = .ok (.bipush 24, 2) := by decide +kernel
theorem dX2_takeToken_95 : decode cX2_takeToken 95 = .ok (.if_icmp .ne 39, 3) := by decide +kernel
theorem dX2_takeToken_98 : decode cX2_takeToken 98 = .ok (.aload_n 0, 1) := by decide +kernel
theorem dX2_takeToken_99 : decode cX2_takeToken 99 = .ok (.dup, 1) := by decide +kernel
theorem dX2_takeToken_100 : decode cX2_takeToken 100 = .ok (.getfield 31, 3) := by decide +kernel
theorem dX2_takeToken_103 : decode cX2_takeToken 103 = .ok (.iconst 1, 1) := by decide +kernel
theorem dX2_takeToken_104 : decode cX2_takeToken 104 = .ok (.isub, 1) := by decide +kernel
theorem dX2_takeToken_105 : decode cX2_takeToken 105 = .ok (.putfield 31, 3) := by decide +kernel
theorem dX2_takeToken_108 : decode cX2_takeToken 108 = .ok (.aload_n 0, 1) := by decide +kernel
theorem dX2_takeToken_109 : decode cX2_takeToken 109 = .ok (.aload_n 1, 1) := by decide +kernel
theorem dX2_takeToken_110 : decode cX2_takeToken 110 = .ok (.iconst 4, 1) := by decide +kernel
theorem dX2_takeToken_111 : decode cX2_takeToken 111 = .ok (.invokestatic 99, 3) := by decide +kernel
theorem dX2_takeToken_114 : decode cX2_takeToken 114 = .ok (.invokevirtual 102, 3) := by decide +kernel
theorem dX2_takeToken_117 : decode cX2_takeToken 117 = .ok (.aload_n 0, 1) := by decide +kernel
theorem dX2_takeToken_118 : decode cX2_takeToken 118 = .ok (.aload_n 0, 1) := by decide +kernel
theorem dX2_takeToken_119 : decode cX2_takeToken 119 = .ok (.getfield 15, 3) := by decide +kernel
theorem dX2_takeToken_122 : decode cX2_takeToken 122 = .ok (.iconst 1, 1) := by decide +kernel
theorem dX2_takeToken_123 : decode cX2_takeToken 123 = .ok (.isub, 1) := by decide +kernel
theorem dX2_takeToken_124 : decode cX2_takeToken 124 = .ok (.iconst 0, 1) := by decide +kernel
theorem dX2_takeToken_125 : decode cX2_takeToken 125 = .ok (.invokestatic 106, 3) := by decide +kernel
theorem dX2_takeToken_128 : decode cX2_takeToken 128 = .ok (.putfield 15, 3) := by decide +kernel
theorem dX2_takeToken_131 : decode cX2_takeToken 131 = .ok (.goto 96, 3) := by decide +kernel
theorem dX2_takeToken_134 : decode cX2_takeToken 134 = .ok (.aload_n 0, 1) := by decide +kernel
theorem dX2_takeToken_135 : decode cX2_takeToken 135 = .ok (.getfield 25, 3) := by decide +kernel
theorem dX2_takeToken_138 : decode cX2_takeToken 138 = .ok (.bipush 15, 2) := by decide +kernel
theorem dX2_takeToken_140 : decode cX2_takeToken 140 = .ok (.if_icmp .ne 24, 3) := by decide +kernel
theorem dX2_takeToken_143 : decode cX2_takeToken 143 = .ok (.aload_n 0, 1) := by decide +kernel
theorem dX2_takeToken_144 : decode cX2_takeToken 144 = .ok (.aload_n 1, 1) := by decide +kernel
theorem dX2_takeToken_145 : decode cX2_takeToken 145 = .ok (.iconst 4, 1) := by decide +kernel
theorem dX2_takeToken_146 : decode cX2_takeToken 146 = .ok (.invokestatic 99, 3) := by decide +kernel
theorem dX2_takeToken_149 : decode cX2_takeToken 149 = .ok (.invokevirtual 102, 3) := by decide +kernel
theorem dX2_takeToken_152 : decode cX2_takeToken 152 = .ok (.aload_n 0, 1) := by decide +kernel
theorem dX2_takeToken_153 : decode cX2_takeToken 153 = .ok (.iconst 0, 1) := by decide +kernel
theorem dX2_takeToken_154 : decode cX2_takeToken 154 = .ok (.putfield 34, 3) := by decide +kernel
theorem dX2_takeToken_157 : decode cX2_takeToken 157 = .ok (.aload_n 1, 1) := by decide +kernel
theorem dX2_takeToken_158 : decode cX2_takeToken 158 = .ok (.invokevirtual 109, 3) := by decide +kernel
theorem dX2_takeToken_161 : decode cX2_takeToken 161 = .ok (.goto 66, 3) := by decide +kernel
theorem dX2_takeToken_164 : decode cX2_takeToken 164 = .ok (.aload_n 0, 1) := by decide +kernel
theorem dX2_takeToken_165 : decode cX2_takeToken 165 = .ok (.getfield 25, 3) := by decide +kernel
theorem dX2_takeToken_168 : decode cX2_takeToken 168 = .ok (.iconst 3, 1) := by decide +kernel
theorem dX2_takeToken_169 : decode cX2_takeToken 169 = .ok (.if_icmp .eq 58, 3) := by decide +kernel
theorem dX2_takeToken_172 : decode cX2_takeToken 172 = .ok (.aload_n 0, 1) := by decide +kernel
theorem dX2_takeToken_173 : decode cX2_takeToken 173 = .ok (.aload_n 1, 1) := by decide +kernel
theorem dX2_takeToken_174 : decode cX2_takeToken 174 = .ok (.aload_n 0, 1) := by decide +kernel
theorem dX2_takeToken_175 : decode cX2_takeToken 175 = .ok (.getfield 25, 3) := by decide +kernel
theorem dX2_takeToken_178 : decode cX2_takeToken 178 = .ok (.invokestatic 99, 3) := by decide +kernel
theorem dX2_takeToken_181 : decode cX2_takeToken 181 = .ok (.invokevirtual 102, 3) := by decide +kernel
theorem dX2_takeToken_184 : decode cX2_takeToken 184 = .ok (.aload_n 0, 1) := by decide +kernel
theorem dX2_takeToken_185 : decode cX2_takeToken 185 = .ok (.aload_n 0, 1) := by decide +kernel
theorem dX2_takeToken_186 : decode cX2_takeToken 186 = .ok (.invokevirtual 83, 3) := by decide +kernel
theorem dX2_takeToken_189 : decode cX2_takeToken 189 = .ok (.ifCond .ne 26, 3) := by decide +kernel
theorem dX2_takeToken_192 : decode cX2_takeToken 192 = .ok (.aload_n 0, 1) := by decide +kernel
theorem dX2_takeToken_193 : decode cX2_takeToken 193 = .ok (.getfield 34, 3) := by decide +kernel
theorem dX2_takeToken_196 : decode cX2_takeToken 196 = .ok (.ifCond .eq 23, 3) := by decide +kernel
theorem dX2_takeToken_199 : decode cX2_takeToken 199 = .ok (.aload_n 0, 1) := by decide +kernel
theorem dX2_takeToken_200 : decode cX2_takeToken 200 = .ok (.getfield 25, 3) := by decide +kernel
theorem dX2_takeToken_203 : decode cX2_takeToken 203 = .ok (.iconst 5, 1) := by decide +kernel
theorem dX2_takeToken_204 : decode cX2_takeToken 204 = .ok (.if_icmp .eq 15, 3) := by decide +kernel
theorem dX2_takeToken_207 : decode cX2_takeToken 207 = .ok (.aload_n 0, 1) := by decide +kernel
theorem dX2_takeToken_208 : decode cX2_takeToken 208 = .ok (.getfield 25, 3) := by decide +kernel
theorem dX2_takeToken_211 : decode cX2_takeToken 211 = .ok (.iconst 4, 1) := by decide +kernel
theorem dX2_takeToken_212 : decode cX2_takeToken 212 = .ok (.if_icmp .eq 7, 3) := by decide +kernel
theorem dX2_takeToken_215 : decode cX2_takeToken 215 = .ok (.iconst 1, 1) := by decide +kernel
theorem dX2_takeToken_216 : decode cX2_takeToken 216 = .ok (.goto 4, 3) := by decide +kernel
theorem dX2_takeToken_219 : decode cX2_takeToken 219 = .ok (.iconst 0, 1) := by decide +kernel
theorem dX2_takeToken_220 : decode cX2_takeToken 220 = .ok (.putfield 34, 3) := by decide +kernel
theorem dX2_takeToken_223 : decode cX2_takeToken 223 = .ok (.aload_n 0, 1) := by decide +kernel
theorem dX2_takeToken_224 : decode cX2_takeToken 224 = .ok (.invokevirtual 96, 3) := by decide +kernel
theorem dX2_takeToken_227 : decode cX2_takeToken 227 = .ok (.return_, 1) := by decide +kernel
theorem dX2_keepWaiting_0 : decode cX2_keepWaiting 0 = .ok (.aload_n 0, 1) := by decide +kernel
theorem dX2_keepWaiting_1 : decode cX2_keepWaiting 1 = .ok (.getfield 15, 3) := by decide +kernel
theorem dX2_keepWaiting_4 : decode cX2_keepWaiting 4 = .ok (.bipush 32, 2) := by decide +kernel
theorem dX2_keepWaiting_6 : decode cX2_keepWaiting 6 = .ok (.if_icmp .ge 26, 3) := by decide +kernel
theorem dX2_keepWaiting_9 : decode cX2_keepWaiting 9 = .ok (.aload_n 0, 1) := by decide +kernel
theorem dX2_keepWaiting_10 : decode cX2_keepWaiting 10 = .ok (.getfield 9, 3) := by decide +kernel
theorem dX2_keepWaiting_13 : decode cX2_keepWaiting 13 = .ok (.aload_n 0, 1) := by decide +kernel
theorem dX2_keepWaiting_14 : decode cX2_keepWaiting 14 = .ok (.getfield 15, 3) := by decide +kernel
theorem dX2_keepWaiting_17 : decode cX2_keepWaiting 17 = .ok (.aload_n 0, 1) := by decide +kernel
theorem dX2_keepWaiting_18 : decode cX2_keepWaiting 18 = .ok (.getfield 25, 3) := by decide +kernel
theorem dX2_keepWaiting_21 : decode cX2_keepWaiting 21 = .ok (.iastore, 1) := by decide +kernel
theorem dX2_keepWaiting_22 : decode cX2_keepWaiting 22 = .ok (.aload_n 0, 1) := by decide +kernel
theorem dX2_keepWaiting_23 : decode cX2_keepWaiting 23 = .ok (.dup, 1) := by decide +kernel
theorem dX2_keepWaiting_24 : decode cX2_keepWaiting 24 = .ok (.getfield 15, 3) := by decide +kernel
theorem dX2_keepWaiting_27 : decode cX2_keepWaiting 27 = .ok (.iconst 1, 1) := by decide +kernel
theorem dX2_keepWaiting_28 : decode cX2_keepWaiting 28 = .ok (.iadd, 1) := by decide +kernel
theorem dX2_keepWaiting_29 : decode cX2_keepWaiting 29 = .ok (.putfield 15, 3) := by decide +kernel
theorem dX2_keepWaiting_32 : decode cX2_keepWaiting 32 = .ok (.return_, 1) := by decide +kernel
set_option maxRecDepth 20000 in
theorem ggX2_emitWaiting_X2_bond : GoodIn wsX2_emitWaiting wsX2_bond := goodIn_r _ [6] (by decide +kernel) (by decide +kernel)
set_option maxRecDepth 20000 in
theorem gX2_emitWaiting_X2_bond : GoodIn wsX2_emitWaiting (va_wsS RX2 99 yX2_bond wsX2_bond) := goodIn_app (goodIn_of _ (by decide +kernel)) ggX2_emitWaiting_X2_bond
set_option maxRecDepth 20000 in
theorem ggX2_emitWaiting_X3_addCode : GoodIn wsX2_emitWaiting wsX3_addCode := goodIn_r _ [11, 12, 13, 24, 25, 26, 27, 28, 29] (by decide +kernel) (by decide +kernel)
set_option maxRecDepth 20000 in
theorem gX2_emitWaiting_X3_addCode : GoodIn wsX2_emitWaiting (wsV RX2 93 RX3 yX3_addCode wsX3_addCode) := goodIn_app (goodIn_of _ (by decide +kernel)) ggX2_emitWaiting_X3_addCode
theorem dX2_emitWaiting_0 : decode cX2_emitWaiting 0 = .ok (.aload_n 0, 1) := by decide +kernel
theorem dX2_emitWaiting_1 : decode cX2_emitWaiting 1 = .ok (.getfield 15, 3) := by decide +kernel
theorem dX2_emitWaiting_4 : decode cX2_emitWaiting 4 = .ok (.ifCond .le 51, 3) := by decide +kernel
theorem dX2_emitWaiting_7 : decode cX2_emitWaiting 7 = .ok (.aload_n 0, 1) := by decide +kernel
theorem dX2_emitWaiting_8 : decode cX2_emitWaiting 8 = .ok (.getfield 9, 3) := by decide +kernel
theorem dX2_emitWaiting_11 : decode cX2_emitWaiting 11 = .ok (.aload_n 0, 1) := by decide +kernel
theorem dX2_emitWaiting_12 : decode cX2_emitWaiting 12 = .ok (.getfield 15, 3) := by decide +kernel
theorem dX2_emitWaiting_15 : decode cX2_emitWaiting 15 = .ok (.iconst 1, 1) := by decide +kernel
theorem dX2_emitWaiting_16 : decode cX2_emitWaiting 16 = .ok (.isub, 1) := by decide +kernel
theorem dX2_emitWaiting_17 : decode cX2_emitWaiting 17 = .ok (.iaload, 1) := by decide +kernel
theorem dX2_emitWaiting_18 : decode cX2_emitWaiting 18 = .ok (.invokestatic 99, 3) := by decide +kernel
theorem dX2_emitWaiting_21 : decode cX2_emitWaiting 21 = .ok (.iload_n 2, 1) := by decide +kernel
theorem dX2_emitWaiting_22 : decode cX2_emitWaiting 22 = .ok (.if_icmp .lt 33, 3) := by decide +kernel
theorem dX2_emitWaiting_25 : decode cX2_emitWaiting 25 = .ok (.aload_n 0, 1) := by decide +kernel
theorem dX2_emitWaiting_26 : decode cX2_emitWaiting 26 = .ok (.dup, 1) := by decide +kernel
theorem dX2_emitWaiting_27 : decode cX2_emitWaiting 27 = .ok (.getfield 15, 3) := by decide +kernel
theorem dX2_emitWaiting_30 : decode cX2_emitWaiting 30 = .ok (.iconst 1, 1) := by decide +kernel
theorem dX2_emitWaiting_31 : decode cX2_emitWaiting 31 = .ok (.isub, 1) := by decide +kernel
theorem dX2_emitWaiting_32 : decode cX2_emitWaiting 32 = .ok (.putfield 15, 3) := by decide +kernel
theorem dX2_emitWaiting_35 : decode cX2_emitWaiting 35 = .ok (.aload_n 1, 1) := by decide +kernel
theorem dX2_emitWaiting_36 : decode cX2_emitWaiting 36 = .ok (.sipush 10000, 3) := by decide +kernel
theorem dX2_emitWaiting_39 : decode cX2_emitWaiting 39 = .ok (.aload_n 0, 1) := by decide +kernel
theorem dX2_emitWaiting_40 : decode cX2_emitWaiting 40 = .ok (.getfield 9, 3) := by decide +kernel
theorem dX2_emitWaiting_43 : decode cX2_emitWaiting 43 = .ok (.aload_n 0, 1) := by decide +kernel
theorem dX2_emitWaiting_44 : decode cX2_emitWaiting 44 = .ok (.getfield 15, 3) := by decide +kernel
theorem dX2_emitWaiting_47 : decode cX2_emitWaiting 47 = .ok (.iaload, 1) := by decide +kernel
theorem dX2_emitWaiting_48 : decode cX2_emitWaiting 48 = .ok (.iadd, 1) := by decide +kernel
theorem dX2_emitWaiting_49 : decode cX2_emitWaiting 49 = .ok (.invokevirtual 93, 3) := by decide +kernel
theorem dX2_emitWaiting_52 : decode cX2_emitWaiting 52 = .ok (.goto (-52), 3) := by decide +kernel
theorem dX2_emitWaiting_55 : decode cX2_emitWaiting 55 = .ok (.return_, 1) := by decide +kernel
theorem dX2_bond_0 : decode cX2_bond 0 = .ok (.iload_n 0, 1) := by decide +kernel
theorem dX2_bond_1 : decode cX2_bond 1 = .ok (.tableswitch 101 4 22 #[91, 93, 101, 101, 101, 101, 101, 101, 101, 101, 101, 101, 97, 97, 99, 95, 95, 95, 95], 91) := by decide +kernel
theorem dX2_bond_92 : decode cX2_bond 92 = .ok (.iconst 1, 1) := by decide +kernel
theorem dX2_bond_93 : decode cX2_bond 93 = .ok (.ireturn, 1) := by decide +kernel
theorem dX2_bond_94 : decode cX2_bond 94 = .ok (.iconst 2, 1) := by decide +kernel
theorem dX2_bond_95 : decode cX2_bond 95 = .ok (.ireturn, 1) := by decide +kernel
theorem dX2_bond_96 : decode cX2_bond 96 = .ok (.iconst 3, 1) := by decide +kernel
theorem dX2_bond_97 : decode cX2_bond 97 = .ok (.ireturn, 1) := by decide +kernel
theorem dX2_bond_98 : decode cX2_bond 98 = .ok (.iconst 4, 1) := by decide +kernel
theorem dX2_bond_99 : decode cX2_bond 99 = .ok (.ireturn, 1) := by decide +kernel
theorem dX2_bond_100 : decode cX2_bond 100 = .ok (.iconst 5, 1) := by decide +kernel
theorem dX2_bond_101 : decode cX2_bond 101 = .ok (.ireturn, 1) := by decide +kernel
theorem dX2_bond_102 : decode cX2_bond 102 = .ok (.iconst 0, 1) := by decide +kernel
theorem dX2_bond_103 : decode cX2_bond 103 = .ok (.ireturn, 1) := by decide +kernel
set_option maxRecDepth 20000 in
theorem ggX2_scanToken_X2_isBlank : GoodIn wsX2_scanToken wsX2_isBlank := goodIn_r _ [9] (by decide +kernel) (by decide +kernel)
set_option maxRecDepth 20000 in
theorem gX2_scanToken_X2_isBlank : GoodIn wsX2_scanToken (va_wsS RX2 112 yX2_isBlank wsX2_isBlank) := goodIn_app (goodIn_of _ (by decide +kernel)) ggX2_scanToken_X2_isBlank
set_option maxRecDepth 20000 in
theorem ggX2_scanToken_X2_isLetter : GoodIn wsX2_scanToken wsX2_isLetter := goodIn_r _ [12] (by decide +kernel) (by decide +kernel)
set_option maxRecDepth 20000 in
theorem gX2_scanToken_X2_isLetter : GoodIn wsX2_scanToken (va_wsS RX2 116 yX2_isLetter wsX2_isLetter) := goodIn_app (goodIn_of _ (by decide +kernel)) ggX2_scanToken_X2_isLetter
set_option maxRecDepth 20000 in
theorem ggX2_scanToken_X2_scanWord : GoodIn wsX2_scanToken wsX2_scanWord := goodIn_r _ [16, 1, 2, 3, 5, 10, 11, 8, 12, 17, 18, 19, 20, 21, 22, 23, 24, 25, 26, 27, 28, 29, 30, 31, 32, 33, 34, 35, 36, 37, 38, 39, 40, 41, 42, 43, 44, 45, 46, 47, 48, 49, 50, 51, 52, 53, 54, 55, 56, 57, 58, 59, 60, 61, 62, 63, 64, 65, 66, 67, 68, 69, 4, 88, 89, 90, 91, 92, 93, 94, 95, 96, 97] (by decide +kernel) (by decide +kernel)
set_option maxRecDepth 20000 in
theorem gX2_scanToken_X2_scanWord : GoodIn wsX2_scanToken (wsV RX2 119 RX2 yX2_scanWord wsX2_scanWord) := goodIn_app (goodIn_of _ (by decide +kernel)) ggX2_scanToken_X2_scanWord
set_option maxRecDepth 20000 in
theorem ggX2_scanToken_X2_isDigit : GoodIn wsX2_scanToken wsX2_isDigit := goodIn_r _ [72] (by decide +kernel) (by decide +kernel)
set_option maxRecDepth 20000 in
theorem gX2_scanToken_X2_isDigit : GoodIn wsX2_scanToken (va_wsS RX2 122 yX2_isDigit wsX2_isDigit) := goodIn_app (goodIn_of _ (by decide +kernel)) ggX2_scanToken_X2_isDigit
set_option maxRecDepth 20000 in
theorem ggX2_scanToken_X2_scanInt : GoodIn wsX2_scanToken wsX2_scanInt := goodIn_r _ [76, 77, 1, 2, 3, 4, 5, 70, 71, 8, 72, 88, 89, 90, 91, 92, 93, 94, 95, 96, 97] (by decide +kernel) (by decide +kernel)
set_option maxRecDepth 20000 in
theorem gX2_scanToken_X2_scanInt : GoodIn wsX2_scanToken (wsV RX2 125 RX2 yX2_scanInt wsX2_scanInt) := goodIn_app (goodIn_of _ (by decide +kernel)) ggX2_scanToken_X2_scanInt
set_option maxRecDepth 20000 in
theorem ggX2_scanToken_X2_scanSign : GoodIn wsX2_scanToken wsX2_scanSign := goodIn_r _ [81, 1, 2, 3, 5, 82, 83, 8, 84, 85, 86, 87, 88, 89, 90, 91, 92, 93, 94, 95, 96, 97] (by decide +kernel) (by decide +kernel)
set_option maxRecDepth 20000 in
theorem gX2_scanToken_X2_scanSign : GoodIn wsX2_scanToken (wsV RX2 128 RX2 yX2_scanSign wsX2_scanSign) := goodIn_app (goodIn_of _ (by decide +kernel)) ggX2_scanToken_X2_scanSign
theorem dX2_scanToken_0 : decode cX2_scanToken 0 = .ok (.aload_n 0, 1) := by decide +kernel
theorem dX2_scanToken_1 : decode cX2_scanToken 1 = .ok (.getfield 22, 3) := by decide +kernel
theorem dX2_scanToken_4 : decode cX2_scanToken 4 = .ok (.aload_n 0, 1) := by decide +kernel
theorem dX2_scanToken_5 : decode cX2_scanToken 5 = .ok (.getfield 19, 3) := by decide +kernel
theorem dX2_scanToken_8 : decode cX2_scanToken 8 = .ok (.if_icmp .ge 31, 3) := by decide +kernel
theorem dX2_scanToken_11 : decode cX2_scanToken 11 = .ok (.aload_n 0, 1) := by decide +kernel
theorem dX2_scanToken_12 : decode cX2_scanToken 12 = .ok (.getfield 41, 3) := by decide +kernel
theorem dX2_scanToken_15 : decode cX2_scanToken 15 = .ok (.aload_n 0, 1) := by decide +kernel
theorem dX2_scanToken_16 : decode cX2_scanToken 16 = .ok (.getfield 22, 3) := by decide +kernel
theorem dX2_scanToken_19 : decode cX2_scanToken 19 = .ok (.baload, 1) := by decide +kernel
theorem dX2_scanToken_20 : decode cX2_scanToken 20 = .ok (.invokestatic 112, 3) := by decide +kernel
theorem dX2_scanToken_23 : decode cX2_scanToken 23 = .ok (.ifCond .eq 16, 3) := by decide +kernel
theorem dX2_scanToken_26 : decode cX2_scanToken 26 = .ok (.aload_n 0, 1) := by decide +kernel
theorem dX2_scanToken_27 : decode cX2_scanToken 27 = .ok (.dup, 1) := by decide +kernel
theorem dX2_scanToken_28 : decode cX2_scanToken 28 = .ok (.getfield 22, 3) := by decide +kernel
theorem dX2_scanToken_31 : decode cX2_scanToken 31 = .ok (.iconst 1, 1) := by decide +kernel
theorem dX2_scanToken_32 : decode cX2_scanToken 32 = .ok (.iadd, 1) := by decide +kernel
theorem dX2_scanToken_33 : decode cX2_scanToken 33 = .ok (.putfield 22, 3) := by decide +kernel
theorem dX2_scanToken_36 : decode cX2_scanToken 36 = .ok (.goto (-36), 3) := by decide +kernel
theorem dX2_scanToken_39 : decode cX2_scanToken 39 = .ok (.aload_n 0, 1) := by decide +kernel
theorem dX2_scanToken_40 : decode cX2_scanToken 40 = .ok (.aload_n 0, 1) := by decide +kernel
theorem dX2_scanToken_41 : decode cX2_scanToken 41 = .ok (.getfield 22, 3) := by decide +kernel
theorem dX2_scanToken_44 : decode cX2_scanToken 44 = .ok (.putfield 38, 3) := by decide +kernel
theorem dX2_scanToken_47 : decode cX2_scanToken 47 = .ok (.aload_n 0, 1) := by decide +kernel
theorem dX2_scanToken_48 : decode cX2_scanToken 48 = .ok (.getfield 22, 3) := by decide +kernel
theorem dX2_scanToken_51 : decode cX2_scanToken 51 = .ok (.aload_n 0, 1) := by decide +kernel
theorem dX2_scanToken_52 : decode cX2_scanToken 52 = .ok (.getfield 19, 3) := by decide +kernel
theorem dX2_scanToken_55 : decode cX2_scanToken 55 = .ok (.if_icmp .lt 12, 3) := by decide +kernel
theorem dX2_scanToken_58 : decode cX2_scanToken 58 = .ok (.aload_n 0, 1) := by decide +kernel
theorem dX2_scanToken_59 : decode cX2_scanToken 59 = .ok (.bipush 25, 2) := by decide +kernel
theorem dX2_scanToken_61 : decode cX2_scanToken 61 = .ok (.putfield 25, 3) := by decide +kernel
theorem dX2_scanToken_64 : decode cX2_scanToken 64 = .ok (.goto 51, 3) := by decide +kernel
theorem dX2_scanToken_67 : decode cX2_scanToken 67 = .ok (.aload_n 0, 1) := by decide +kernel
theorem dX2_scanToken_68 : decode cX2_scanToken 68 = .ok (.getfield 41, 3) := by decide +kernel
theorem dX2_scanToken_71 : decode cX2_scanToken 71 = .ok (.aload_n 0, 1) := by decide +kernel
theorem dX2_scanToken_72 : decode cX2_scanToken 72 = .ok (.getfield 22, 3) := by decide +kernel
theorem dX2_scanToken_75 : decode cX2_scanToken 75 = .ok (.baload, 1) := by decide +kernel
theorem dX2_scanToken_76 : decode cX2_scanToken 76 = .ok (.invokestatic 116, 3) := by decide +kernel
theorem dX2_scanToken_79 : decode cX2_scanToken 79 = .ok (.ifCond .eq 10, 3) := by decide +kernel
theorem dX2_scanToken_82 : decode cX2_scanToken 82 = .ok (.aload_n 0, 1) := by decide +kernel
theorem dX2_scanToken_83 : decode cX2_scanToken 83 = .ok (.invokevirtual 119, 3) := by decide +kernel
theorem dX2_scanToken_86 : decode cX2_scanToken 86 = .ok (.goto 29, 3) := by decide +kernel
theorem dX2_scanToken_89 : decode cX2_scanToken 89 = .ok (.aload_n 0, 1) := by decide +kernel
theorem dX2_scanToken_90 : decode cX2_scanToken 90 = .ok (.getfield 41, 3) := by decide +kernel
theorem dX2_scanToken_93 : decode cX2_scanToken 93 = .ok (.aload_n 0, 1) := by decide +kernel
theorem dX2_scanToken_94 : decode cX2_scanToken 94 = .ok (.getfield 22, 3) := by decide +kernel
theorem dX2_scanToken_97 : decode cX2_scanToken 97 = .ok (.baload, 1) := by decide +kernel
theorem dX2_scanToken_98 : decode cX2_scanToken 98 = .ok (.invokestatic 122, 3) := by decide +kernel
theorem dX2_scanToken_101 : decode cX2_scanToken 101 = .ok (.ifCond .eq 10, 3) := by decide +kernel
theorem dX2_scanToken_104 : decode cX2_scanToken 104 = .ok (.aload_n 0, 1) := by decide +kernel
theorem dX2_scanToken_105 : decode cX2_scanToken 105 = .ok (.invokevirtual 125, 3) := by decide +kernel
theorem dX2_scanToken_108 : decode cX2_scanToken 108 = .ok (.goto 7, 3) := by decide +kernel
theorem dX2_scanToken_111 : decode cX2_scanToken 111 = .ok (.aload_n 0, 1) := by decide +kernel
theorem dX2_scanToken_112 : decode cX2_scanToken 112 = .ok (.invokevirtual 128, 3) := by decide +kernel
theorem dX2_scanToken_115 : decode cX2_scanToken 115 = .ok (.return_, 1) := by decide +kernel
set_option maxRecDepth 20000 in
theorem ggX2_scanWord_X2_isLetter : GoodIn wsX2_scanWord wsX2_isLetter := goodIn_r _ [8] (by decide +kernel) (by decide +kernel)
set_option maxRecDepth 20000 in
theorem gX2_scanWord_X2_isLetter : GoodIn wsX2_scanWord (va_wsS RX2 116 yX2_isLetter wsX2_isLetter) := goodIn_app (goodIn_of _ (by decide +kernel)) ggX2_scanWord_X2_isLetter
set_option maxRecDepth 20000 in
theorem ggX2_scanWord_J0_length_8abf5 : GoodIn wsX2_scanWord wsJ0_length_8abf5 := goodIn_r _ [13, 14, 15, 16, 17, 12, 18, 19, 20] (by decide +kernel) (by decide +kernel)
set_option maxRecDepth 20000 in
theorem gX2_scanWord_J0_length_8abf5 : GoodIn wsX2_scanWord (wsV RX2 133 RJ0 yJ0_length_8abf5 wsJ0_length_8abf5) := goodIn_app (goodIn_of _ (by decide +kernel)) ggX2_scanWord_J0_length_8abf5
set_option maxRecDepth 20000 in
theorem ggX2_scanWord_J0_charAt_5068e : GoodIn wsX2_scanWord wsJ0_charAt_5068e := goodIn_r _ [24, 14, 25, 26, 27, 12, 28, 19, 20, 29, 30, 31, 32, 33, 34, 35, 36, 37, 38, 39, 40, 41, 42, 43, 44, 45, 46, 47, 48, 49, 50, 51, 52, 53, 54, 55, 56, 57] (by decide +kernel) (by decide +kernel)
set_option maxRecDepth 20000 in
theorem gX2_scanWord_J0_charAt_5068e : GoodIn wsX2_scanWord (wsV RX2 137 RJ0 yJ0_charAt_5068e wsJ0_charAt_5068e) := goodIn_app (goodIn_of _ (by decide +kernel)) ggX2_scanWord_J0_charAt_5068e
set_option maxRecDepth 20000 in
theorem ggX2_scanWord_X2_isWord : GoodIn wsX2_scanWord wsX2_isWord := goodIn_r _ [61, 1, 62, 3, 21, 22, 23, 12, 24, 14, 25, 26, 27, 28, 19, 20, 29, 30, 31, 32, 33, 34, 35, 36, 37, 38, 39, 40, 41, 42, 43, 44, 45, 46, 47, 48, 49, 50, 51, 52, 53, 54, 55, 56, 57, 63, 64, 65, 66, 67, 68, 69, 70, 71, 72] (by decide +kernel) (by decide +kernel)
set_option maxRecDepth 20000 in
theorem gX2_scanWord_X2_isWord : GoodIn wsX2_scanWord (wsV RX2 141 RX2 yX2_isWord wsX2_isWord) := goodIn_app (goodIn_of _ (by decide +kernel)) ggX2_scanWord_X2_isWord
theorem dX2_scanWord_0 : decode cX2_scanWord 0 = .ok (.aload_n 0, 1) := by decide +kernel
theorem dX2_scanWord_1 : decode cX2_scanWord 1 = .ok (.getfield 22, 3) := by decide +kernel
theorem dX2_scanWord_4 : decode cX2_scanWord 4 = .ok (.aload_n 0, 1) := by decide +kernel
theorem dX2_scanWord_5 : decode cX2_scanWord 5 = .ok (.getfield 19, 3) := by decide +kernel
theorem dX2_scanWord_8 : decode cX2_scanWord 8 = .ok (.if_icmp .ge 31, 3) := by decide +kernel
theorem dX2_scanWord_11 : decode cX2_scanWord 11 = .ok (.aload_n 0, 1) := by decide +kernel
theorem dX2_scanWord_12 : decode cX2_scanWord 12 = .ok (.getfield 41, 3) := by decide +kernel
theorem dX2_scanWord_15 : decode cX2_scanWord 15 = .ok (.aload_n 0, 1) := by decide +kernel
theorem dX2_scanWord_16 : decode cX2_scanWord 16 = .ok (.getfield 22, 3) := by decide +kernel
theorem dX2_scanWord_19 : decode cX2_scanWord 19 = .ok (.baload, 1) := by decide +kernel
theorem dX2_scanWord_20 : decode cX2_scanWord 20 = .ok (.invokestatic 116, 3) := by decide +kernel
theorem dX2_scanWord_23 : decode cX2_scanWord 23 = .ok (.ifCond .eq 16, 3) := by decide +kernel
theorem dX2_scanWord_26 : decode cX2_scanWord 26 = .ok (.aload_n 0, 1) := by decide +kernel
theorem dX2_scanWord_27 : decode cX2_scanWord 27 = .ok (.dup, 1) := by decide +kernel
theorem dX2_scanWord_28 : decode cX2_scanWord 28 = .ok (.getfield 22, 3) := by decide +kernel
theorem dX2_scanWord_31 : decode cX2_scanWord 31 = .ok (.iconst 1, 1) := by decide +kernel
theorem dX2_scanWord_32 : decode cX2_scanWord 32 = .ok (.iadd, 1) := by decide +kernel
theorem dX2_scanWord_33 : decode cX2_scanWord 33 = .ok (.putfield 22, 3) := by decide +kernel
theorem dX2_scanWord_36 : decode cX2_scanWord 36 = .ok (.goto (-36), 3) := by decide +kernel
theorem dX2_scanWord_39 : decode cX2_scanWord 39 = .ok (.aload_n 0, 1) := by decide +kernel
theorem dX2_scanWord_40 : decode cX2_scanWord 40 = .ok (.iconst 0, 1) := by decide +kernel
theorem dX2_scanWord_41 : decode cX2_scanWord 41 = .ok (.putfield 25, 3) := by decide +kernel
theorem dX2_scanWord_44 : decode cX2_scanWord 44 = .ok (.iconst 0, 1) := by decide +kernel
theorem dX2_scanWord_45 : decode cX2_scanWord 45 = .ok (.istore_n 1, 1) := by decide +kernel
theorem dX2_scanWord_46 : decode cX2_scanWord 46 = .ok (.iconst 0, 1) := by decide +kernel
theorem dX2_scanWord_47 : decode cX2_scanWord 47 = .ok (.istore_n 2, 1) := by decide +kernel
theorem dX2_scanWord_48 : decode cX2_scanWord 48 = .ok (.iload_n 2, 1) := by decide +kernel
theorem dX2_scanWord_49 : decode cX2_scanWord 49 = .ok (.ldc 131, 2) := by decide +kernel
theorem dX2_scanWord_51 : decode cX2_scanWord 51 = .ok (.invokevirtual 133, 3) := by decide +kernel
theorem dX2_scanWord_54 : decode cX2_scanWord 54 = .ok (.if_icmp .ge 44, 3) := by decide +kernel
theorem dX2_scanWord_57 : decode cX2_scanWord 57 = .ok (.ldc 131, 2) := by decide +kernel
theorem dX2_scanWord_59 : decode cX2_scanWord 59 = .ok (.iload_n 2, 1) := by decide +kernel
theorem dX2_scanWord_60 : decode cX2_scanWord 60 = .ok (.invokevirtual 137, 3) := by decide +kernel
theorem dX2_scanWord_63 : decode cX2_scanWord 63 = .ok (.bipush 32, 2) := by decide +kernel
theorem dX2_scanWord_65 : decode cX2_scanWord 65 = .ok (.if_icmp .ne 27, 3) := by decide +kernel
theorem dX2_scanWord_68 : decode cX2_scanWord 68 = .ok (.aload_n 0, 1) := by decide +kernel
theorem dX2_scanWord_69 : decode cX2_scanWord 69 = .ok (.iload_n 1, 1) := by decide +kernel
theorem dX2_scanWord_70 : decode cX2_scanWord 70 = .ok (.iload_n 2, 1) := by decide +kernel
theorem dX2_scanWord_71 : decode cX2_scanWord 71 = .ok (.invokevirtual 141, 3) := by decide +kernel
theorem dX2_scanWord_74 : decode cX2_scanWord 74 = .ok (.ifCond .eq 4, 3) := by decide +kernel
theorem dX2_scanWord_77 : decode cX2_scanWord 77 = .ok (.return_, 1) := by decide +kernel
theorem dX2_scanWord_78 : decode cX2_scanWord 78 = .ok (.aload_n 0, 1) := by decide +kernel
theorem dX2_scanWord_79 : decode cX2_scanWord 79 = .ok (.dup, 1) := by decide +kernel
theorem dX2_scanWord_80 : decode cX2_scanWord 80 = .ok (.getfield 25, 3) := by decide +kernel
theorem dX2_scanWord_83 : decode cX2_scanWord 83 = .ok (.iconst 1, 1) := by decide +kernel
theorem dX2_scanWord_84 : decode cX2_scanWord 84 = .ok (.iadd, 1) := by decide +kernel
theorem dX2_scanWord_85 : decode cX2_scanWord 85 = .ok (.putfield 25, 3) := by decide +kernel
theorem dX2_scanWord_88 : decode cX2_scanWord 88 = .ok (.iload_n 2, 1) := by decide +kernel
theorem dX2_scanWord_89 : decode cX2_scanWord 89 = .ok (.iconst 1, 1) := by decide +kernel
theorem dX2_scanWord_90 : decode cX2_scanWord 90 = .ok (.iadd, 1) := by decide +kernel
theorem dX2_scanWord_91 : decode cX2_scanWord 91 = .ok (.istore_n 1, 1) := by decide +kernel
theorem dX2_scanWord_92 : decode cX2_scanWord 92 = .ok (.iinc 2 1, 3) := by decide +kernel
theorem dX2_scanWord_95 : decode cX2_scanWord 95 = .ok (.goto (-47), 3) := by decide +kernel
theorem dX2_scanWord_98 : decode cX2_scanWord 98 = .ok (.aload_n 0, 1) := by decide +kernel
theorem dX2_scanWord_99 : decode cX2_scanWord 99 = .ok (.bipush 26, 2) := by decide +kernel
theorem dX2_scanWord_101 : decode cX2_scanWord 101 = .ok (.putfield 25, 3) := by decide +kernel
theorem dX2_scanWord_104 : decode cX2_scanWord 104 = .ok (.return_, 1) := by decide +kernel
set_option maxRecDepth 20000 in
theorem ggX2_isWord_J0_charAt_5068e : GoodIn wsX2_isWord wsJ0_charAt_5068e := goodIn_r _ [8, 9, 10, 11, 12, 7, 13, 14, 15, 16, 17, 18, 19, 20, 21, 22, 23, 24, 25, 26, 27, 28, 29, 30, 31, 32, 33, 34, 35, 36, 37, 38, 39, 40, 41, 42, 43, 44] (by decide +kernel) (by decide +kernel)
set_option maxRecDepth 20000 in
theorem gX2_isWord_J0_charAt_5068e : GoodIn wsX2_isWord (wsV RX2 137 RJ0 yJ0_charAt_5068e wsJ0_charAt_5068e) := goodIn_app (goodIn_of _ (by decide +kernel)) ggX2_isWord_J0_charAt_5068e
theorem dX2_isWord_0 : decode cX2_isWord 0 = .ok (.iload_n 2, 1) := by decide +kernel
theorem dX2_isWord_1 : decode cX2_isWord 1 = .ok (.iload_n 1, 1) := by decide +kernel
theorem dX2_isWord_2 : decode cX2_isWord 2 = .ok (.isub, 1) := by decide +kernel
theorem dX2_isWord_3 : decode cX2_isWord 3 = .ok (.aload_n 0, 1) := by decide +kernel
theorem dX2_isWord_4 : decode cX2_isWord 4 = .ok (.getfield 22, 3) := by decide +kernel
theorem dX2_isWord_7 : decode cX2_isWord 7 = .ok (.aload_n 0, 1) := by decide +kernel
theorem dX2_isWord_8 : decode cX2_isWord 8 = .ok (.getfield 38, 3) := by decide +kernel
theorem dX2_isWord_11 : decode cX2_isWord 11 = .ok (.isub, 1) := by decide +kernel
theorem dX2_isWord_12 : decode cX2_isWord 12 = .ok (.if_icmp .eq 5, 3) := by decide +kernel
theorem dX2_isWord_15 : decode cX2_isWord 15 = .ok (.iconst 0, 1) := by decide +kernel
theorem dX2_isWord_16 : decode cX2_isWord 16 = .ok (.ireturn, 1) := by decide +kernel
theorem dX2_isWord_17 : decode cX2_isWord 17 = .ok (.iload_n 1, 1) := by decide +kernel
theorem dX2_isWord_18 : decode cX2_isWord 18 = .ok (.istore_n 3, 1) := by decide +kernel
theorem dX2_isWord_19 : decode cX2_isWord 19 = .ok (.iload_n 3, 1) := by decide +kernel
theorem dX2_isWord_20 : decode cX2_isWord 20 = .ok (.iload_n 2, 1) := by decide +kernel
theorem dX2_isWord_21 : decode cX2_isWord 21 = .ok (.if_icmp .ge 33, 3) := by decide +kernel
theorem dX2_isWord_24 : decode cX2_isWord 24 = .ok (.ldc 131, 2) := by decide +kernel
theorem dX2_isWord_26 : decode cX2_isWord 26 = .ok (.iload_n 3, 1) := by decide +kernel
theorem dX2_isWord_27 : decode cX2_isWord 27 = .ok (.invokevirtual 137, 3) := by decide +kernel
theorem dX2_isWord_30 : decode cX2_isWord 30 = .ok (.aload_n 0, 1) := by decide +kernel
theorem dX2_isWord_31 : decode cX2_isWord 31 = .ok (.getfield 41, 3) := by decide +kernel
theorem dX2_isWord_34 : decode cX2_isWord 34 = .ok (.aload_n 0, 1) := by decide +kernel
theorem dX2_isWord_35 : decode cX2_isWord 35 = .ok (.getfield 38, 3) := by decide +kernel
theorem dX2_isWord_38 : decode cX2_isWord 38 = .ok (.iload_n 3, 1) := by decide +kernel
theorem dX2_isWord_39 : decode cX2_isWord 39 = .ok (.iadd, 1) := by decide +kernel
theorem dX2_isWord_40 : decode cX2_isWord 40 = .ok (.iload_n 1, 1) := by decide +kernel
theorem dX2_isWord_41 : decode cX2_isWord 41 = .ok (.isub, 1) := by decide +kernel
theorem dX2_isWord_42 : decode cX2_isWord 42 = .ok (.baload, 1) := by decide +kernel
theorem dX2_isWord_43 : decode cX2_isWord 43 = .ok (.if_icmp .eq 5, 3) := by decide +kernel
theorem dX2_isWord_46 : decode cX2_isWord 46 = .ok (.iconst 0, 1) := by decide +kernel
theorem dX2_isWord_47 : decode cX2_isWord 47 = .ok (.ireturn, 1) := by decide +kernel
theorem dX2_isWord_48 : decode cX2_isWord 48 = .ok (.iinc 3 1, 3) := by decide +kernel
theorem dX2_isWord_51 : decode cX2_isWord 51 = .ok (.goto (-32), 3) := by decide +kernel
theorem dX2_isWord_54 : decode cX2_isWord 54 = .ok (.iconst 1, 1) := by decide +kernel
theorem dX2_isWord_55 : decode cX2_isWord 55 = .ok (.ireturn, 1) := by decide +kernel
set_option maxRecDepth 20000 in
theorem ggX2_scanInt_X2_isDigit : GoodIn wsX2_scanInt wsX2_isDigit := goodIn_r _ [10] (by decide +kernel) (by decide +kernel)
set_option maxRecDepth 20000 in
theorem gX2_scanInt_X2_isDigit : GoodIn wsX2_scanInt (va_wsS RX2 122 yX2_isDigit wsX2_isDigit) := goodIn_app (goodIn_of _ (by decide +kernel)) ggX2_scanInt_X2_isDigit
theorem dX2_scanInt_0 : decode cX2_scanInt 0 = .ok (.aload_n 0, 1) := by decide +kernel
theorem dX2_scanInt_1 : decode cX2_scanInt 1 = .ok (.iconst 0, 1) := by decide +kernel
theorem dX2_scanInt_2 : decode cX2_scanInt 2 = .ok (.putfield 28, 3) := by decide +kernel
theorem dX2_scanInt_5 : decode cX2_scanInt 5 = .ok (.aload_n 0, 1) := by decide +kernel
theorem dX2_scanInt_6 : decode cX2_scanInt 6 = .ok (.getfield 22, 3) := by decide +kernel
theorem dX2_scanInt_9 : decode cX2_scanInt 9 = .ok (.aload_n 0, 1) := by decide +kernel
theorem dX2_scanInt_10 : decode cX2_scanInt 10 = .ok (.getfield 19, 3) := by decide +kernel
theorem dX2_scanInt_13 : decode cX2_scanInt 13 = .ok (.if_icmp .ge 55, 3) := by decide +kernel
theorem dX2_scanInt_16 : decode cX2_scanInt 16 = .ok (.aload_n 0, 1) := by decide +kernel
theorem dX2_scanInt_17 : decode cX2_scanInt 17 = .ok (.getfield 41, 3) := by decide +kernel
theorem dX2_scanInt_20 : decode cX2_scanInt 20 = .ok (.aload_n 0, 1) := by decide +kernel
theorem dX2_scanInt_21 : decode cX2_scanInt 21 = .ok (.getfield 22, 3) := by decide +kernel
theorem dX2_scanInt_24 : decode cX2_scanInt 24 = .ok (.baload, 1) := by decide +kernel
theorem dX2_scanInt_25 : decode cX2_scanInt 25 = .ok (.invokestatic 122, 3) := by decide +kernel
theorem dX2_scanInt_28 : decode cX2_scanInt 28 = .ok (.ifCond .eq 40, 3) := by decide +kernel
theorem dX2_scanInt_31 : decode cX2_scanInt 31 = .ok (.aload_n 0, 1) := by decide +kernel
theorem dX2_scanInt_32 : decode cX2_scanInt 32 = .ok (.aload_n 0, 1) := by decide +kernel
theorem dX2_scanInt_33 : decode cX2_scanInt 33 = .ok (.getfield 28, 3) := by decide +kernel
theorem dX2_scanInt_36 : decode cX2_scanInt 36 = .ok (.bipush 10, 2) := by decide +kernel
theorem dX2_scanInt_38 : decode cX2_scanInt 38 = .ok (.imul, 1) := by decide +kernel
theorem dX2_scanInt_39 : decode cX2_scanInt 39 = .ok (.aload_n 0, 1) := by decide +kernel
theorem dX2_scanInt_40 : decode cX2_scanInt 40 = .ok (.getfield 41, 3) := by decide +kernel
theorem dX2_scanInt_43 : decode cX2_scanInt 43 = .ok (.aload_n 0, 1) := by decide +kernel
theorem dX2_scanInt_44 : decode cX2_scanInt 44 = .ok (.getfield 22, 3) := by decide +kernel
theorem dX2_scanInt_47 : decode cX2_scanInt 47 = .ok (.baload, 1) := by decide +kernel
theorem dX2_scanInt_48 : decode cX2_scanInt 48 = .ok (.iadd, 1) := by decide +kernel
theorem dX2_scanInt_49 : decode cX2_scanInt 49 = .ok (.bipush 48, 2) := by decide +kernel
theorem dX2_scanInt_51 : decode cX2_scanInt 51 = .ok (.isub, 1) := by decide +kernel
theorem dX2_scanInt_52 : decode cX2_scanInt 52 = .ok (.putfield 28, 3) := by decide +kernel
theorem dX2_scanInt_55 : decode cX2_scanInt 55 = .ok (.aload_n 0, 1) := by decide +kernel
theorem dX2_scanInt_56 : decode cX2_scanInt 56 = .ok (.dup, 1) := by decide +kernel
theorem dX2_scanInt_57 : decode cX2_scanInt 57 = .ok (.getfield 22, 3) := by decide +kernel
theorem dX2_scanInt_60 : decode cX2_scanInt 60 = .ok (.iconst 1, 1) := by decide +kernel
theorem dX2_scanInt_61 : decode cX2_scanInt 61 = .ok (.iadd, 1) := by decide +kernel
theorem dX2_scanInt_62 : decode cX2_scanInt 62 = .ok (.putfield 22, 3) := by decide +kernel
theorem dX2_scanInt_65 : decode cX2_scanInt 65 = .ok (.goto (-60), 3) := by decide +kernel
theorem dX2_scanInt_68 : decode cX2_scanInt 68 = .ok (.aload_n 0, 1) := by decide +kernel
theorem dX2_scanInt_69 : decode cX2_scanInt 69 = .ok (.aload_n 0, 1) := by decide +kernel
theorem dX2_scanInt_70 : decode cX2_scanInt 70 = .ok (.getfield 22, 3) := by decide +kernel
theorem dX2_scanInt_73 : decode cX2_scanInt 73 = .ok (.aload_n 0, 1) := by decide +kernel
theorem dX2_scanInt_74 : decode cX2_scanInt 74 = .ok (.getfield 38, 3) := by decide +kernel
theorem dX2_scanInt_77 : decode cX2_scanInt 77 = .ok (.isub, 1) := by decide +kernel
theorem dX2_scanInt_78 : decode cX2_scanInt 78 = .ok (.iconst 4, 1) := by decide +kernel
theorem dX2_scanInt_79 : decode cX2_scanInt 79 = .ok (.if_icmp .le 8, 3) := by decide +kernel
theorem dX2_scanInt_82 : decode cX2_scanInt 82 = .ok (.bipush 26, 2) := by decide +kernel
theorem dX2_scanInt_84 : decode cX2_scanInt 84 = .ok (.goto 5, 3) := by decide +kernel
theorem dX2_scanInt_87 : decode cX2_scanInt 87 = .ok (.bipush 14, 2) := by decide +kernel
theorem dX2_scanInt_89 : decode cX2_scanInt 89 = .ok (.putfield 25, 3) := by decide +kernel
theorem dX2_scanInt_92 : decode cX2_scanInt 92 = .ok (.return_, 1) := by decide +kernel
set_option maxRecDepth 20000 in
theorem ggX2_scanSign_X2_pairKind : GoodIn wsX2_scanSign wsX2_pairKind := goodIn_r _ [8] (by decide +kernel) (by decide +kernel)
set_option maxRecDepth 20000 in
theorem gX2_scanSign_X2_pairKind : GoodIn wsX2_scanSign (va_wsS RX2 145 yX2_pairKind wsX2_pairKind) := goodIn_app (goodIn_of _ (by decide +kernel)) ggX2_scanSign_X2_pairKind
set_option maxRecDepth 20000 in
theorem ggX2_scanSign_X2_signKind : GoodIn wsX2_scanSign wsX2_signKind := goodIn_r _ [11] (by decide +kernel) (by decide +kernel)
set_option maxRecDepth 20000 in
theorem gX2_scanSign_X2_signKind : GoodIn wsX2_scanSign (va_wsS RX2 149 yX2_signKind wsX2_signKind) := goodIn_app (goodIn_of _ (by decide +kernel)) ggX2_scanSign_X2_signKind
theorem dX2_scanSign_0 : decode cX2_scanSign 0 = .ok (.aload_n 0, 1) := by decide +kernel
theorem dX2_scanSign_1 : decode cX2_scanSign 1 = .ok (.getfield 22, 3) := by decide +kernel
theorem dX2_scanSign_4 : decode cX2_scanSign 4 = .ok (.iconst 1, 1) := by decide +kernel
theorem dX2_scanSign_5 : decode cX2_scanSign 5 = .ok (.iadd, 1) := by decide +kernel
theorem dX2_scanSign_6 : decode cX2_scanSign 6 = .ok (.aload_n 0, 1) := by decide +kernel
theorem dX2_scanSign_7 : decode cX2_scanSign 7 = .ok (.getfield 19, 3) := by decide +kernel
theorem dX2_scanSign_10 : decode cX2_scanSign 10 = .ok (.if_icmp .ge 23, 3) := by decide +kernel
theorem dX2_scanSign_13 : decode cX2_scanSign 13 = .ok (.aload_n 0, 1) := by decide +kernel
theorem dX2_scanSign_14 : decode cX2_scanSign 14 = .ok (.getfield 41, 3) := by decide +kernel
theorem dX2_scanSign_17 : decode cX2_scanSign 17 = .ok (.aload_n 0, 1) := by decide +kernel
theorem dX2_scanSign_18 : decode cX2_scanSign 18 = .ok (.getfield 22, 3) := by decide +kernel
theorem dX2_scanSign_21 : decode cX2_scanSign 21 = .ok (.iconst 1, 1) := by decide +kernel
theorem dX2_scanSign_22 : decode cX2_scanSign 22 = .ok (.iadd, 1) := by decide +kernel
theorem dX2_scanSign_23 : decode cX2_scanSign 23 = .ok (.baload, 1) := by decide +kernel
theorem dX2_scanSign_24 : decode cX2_scanSign 24 = .ok (.bipush 61, 2) := by decide +kernel
theorem dX2_scanSign_26 : decode cX2_scanSign 26 = .ok (.if_icmp .ne 7, 3) := by decide +kernel
theorem dX2_scanSign_29 : decode cX2_scanSign 29 = .ok (.iconst 1, 1) := by decide +kernel
theorem dX2_scanSign_30 : decode cX2_scanSign 30 = .ok (.goto 4, 3) := by decide +kernel
theorem dX2_scanSign_33 : decode cX2_scanSign 33 = .ok (.iconst 0, 1) := by decide +kernel
theorem dX2_scanSign_34 : decode cX2_scanSign 34 = .ok (.istore_n 1, 1) := by decide +kernel
theorem dX2_scanSign_35 : decode cX2_scanSign 35 = .ok (.aload_n 0, 1) := by decide +kernel
theorem dX2_scanSign_36 : decode cX2_scanSign 36 = .ok (.iload_n 1, 1) := by decide +kernel
theorem dX2_scanSign_37 : decode cX2_scanSign 37 = .ok (.ifCond .eq 18, 3) := by decide +kernel
theorem dX2_scanSign_40 : decode cX2_scanSign 40 = .ok (.aload_n 0, 1) := by decide +kernel
theorem dX2_scanSign_41 : decode cX2_scanSign 41 = .ok (.getfield 41, 3) := by decide +kernel
theorem dX2_scanSign_44 : decode cX2_scanSign 44 = .ok (.aload_n 0, 1) := by decide +kernel
theorem dX2_scanSign_45 : decode cX2_scanSign 45 = .ok (.getfield 22, 3) := by decide +kernel
theorem dX2_scanSign_48 : decode cX2_scanSign 48 = .ok (.baload, 1) := by decide +kernel
theorem dX2_scanSign_49 : decode cX2_scanSign 49 = .ok (.invokestatic 145, 3) := by decide +kernel
theorem dX2_scanSign_52 : decode cX2_scanSign 52 = .ok (.goto 5, 3) := by decide +kernel
theorem dX2_scanSign_55 : decode cX2_scanSign 55 = .ok (.bipush 26, 2) := by decide +kernel
theorem dX2_scanSign_57 : decode cX2_scanSign 57 = .ok (.putfield 25, 3) := by decide +kernel
theorem dX2_scanSign_60 : decode cX2_scanSign 60 = .ok (.aload_n 0, 1) := by decide +kernel
theorem dX2_scanSign_61 : decode cX2_scanSign 61 = .ok (.getfield 25, 3) := by decide +kernel
theorem dX2_scanSign_64 : decode cX2_scanSign 64 = .ok (.bipush 26, 2) := by decide +kernel
theorem dX2_scanSign_66 : decode cX2_scanSign 66 = .ok (.if_icmp .eq 14, 3) := by decide +kernel
theorem dX2_scanSign_69 : decode cX2_scanSign 69 = .ok (.aload_n 0, 1) := by decide +kernel
theorem dX2_scanSign_70 : decode cX2_scanSign 70 = .ok (.dup, 1) := by decide +kernel
theorem dX2_scanSign_71 : decode cX2_scanSign 71 = .ok (.getfield 22, 3) := by decide +kernel
theorem dX2_scanSign_74 : decode cX2_scanSign 74 = .ok (.iconst 2, 1) := by decide +kernel
theorem dX2_scanSign_75 : decode cX2_scanSign 75 = .ok (.iadd, 1) := by decide +kernel
theorem dX2_scanSign_76 : decode cX2_scanSign 76 = .ok (.putfield 22, 3) := by decide +kernel
theorem dX2_scanSign_79 : decode cX2_scanSign 79 = .ok (.return_, 1) := by decide +kernel
theorem dX2_scanSign_80 : decode cX2_scanSign 80 = .ok (.aload_n 0, 1) := by decide +kernel
theorem dX2_scanSign_81 : decode cX2_scanSign 81 = .ok (.aload_n 0, 1) := by decide +kernel
theorem dX2_scanSign_82 : decode cX2_scanSign 82 = .ok (.getfield 41, 3) := by decide +kernel
theorem dX2_scanSign_85 : decode cX2_scanSign 85 = .ok (.aload_n 0, 1) := by decide +kernel
theorem dX2_scanSign_86 : decode cX2_scanSign 86 = .ok (.getfield 22, 3) := by decide +kernel
theorem dX2_scanSign_89 : decode cX2_scanSign 89 = .ok (.baload, 1) := by decide +kernel
theorem dX2_scanSign_90 : decode cX2_scanSign 90 = .ok (.invokestatic 149, 3) := by decide +kernel
theorem dX2_scanSign_93 : decode cX2_scanSign 93 = .ok (.putfield 25, 3) := by decide +kernel
theorem dX2_scanSign_96 : decode cX2_scanSign 96 = .ok (.aload_n 0, 1) := by decide +kernel
theorem dX2_scanSign_97 : decode cX2_scanSign 97 = .ok (.dup, 1) := by decide +kernel
theorem dX2_scanSign_98 : decode cX2_scanSign 98 = .ok (.getfield 22, 3) := by decide +kernel
theorem dX2_scanSign_101 : decode cX2_scanSign 101 = .ok (.iconst 1, 1) := by decide +kernel
theorem dX2_scanSign_102 : decode cX2_scanSign 102 = .ok (.iadd, 1) := by decide +kernel
theorem dX2_scanSign_103 : decode cX2_scanSign 103 = .ok (.putfield 22, 3) := by decide +kernel
theorem dX2_scanSign_106 : decode cX2_scanSign 106 = .ok (.return_, 1) := by decide +kernel
theorem dX2_pairKind_0 : decode cX2_pairKind 0 = .ok (.iload_n 0, 1) := by decide +kernel
theorem dX2_pairKind_1 : decode cX2_pairKind 1 = .ok (.lookupswitch 44 #[(33, 38), (60, 41), (61, 35)], 35) := by decide +kernel
theorem dX2_pairKind_36 : decode cX2_pairKind 36 = .ok (.bipush 19, 2) := by decide +kernel
theorem dX2_pairKind_38 : decode cX2_pairKind 38 = .ok (.ireturn, 1) := by decide +kernel
theorem dX2_pairKind_39 : decode cX2_pairKind 39 = .ok (.bipush 20, 2) := by decide +kernel
theorem dX2_pairKind_41 : decode cX2_pairKind 41 = .ok (.ireturn, 1) := by decide +kernel
theorem dX2_pairKind_42 : decode cX2_pairKind 42 = .ok (.bipush 22, 2) := by decide +kernel
theorem dX2_pairKind_44 : decode cX2_pairKind 44 = .ok (.ireturn, 1) := by decide +kernel
theorem dX2_pairKind_45 : decode cX2_pairKind 45 = .ok (.bipush 26, 2) := by decide +kernel
theorem dX2_pairKind_47 : decode cX2_pairKind 47 = .ok (.ireturn, 1) := by decide +kernel
theorem dX2_signKind_0 : decode cX2_signKind 0 = .ok (.iload_n 0, 1) := by decide +kernel
theorem dX2_signKind_1 : decode cX2_signKind 1 = .ok (.tableswitch 120 40 60 #[114, 117, 108, 102, 120, 105, 120, 120, 120, 120, 120, 120, 120, 120, 120, 120, 120, 120, 120, 99, 111], 99) := by decide +kernel
theorem dX2_signKind_100 : decode cX2_signKind 100 = .ok (.bipush 15, 2) := by decide +kernel
theorem dX2_signKind_102 : decode cX2_signKind 102 = .ok (.ireturn, 1) := by decide +kernel
theorem dX2_signKind_103 : decode cX2_signKind 103 = .ok (.bipush 16, 2) := by decide +kernel
theorem dX2_signKind_105 : decode cX2_signKind 105 = .ok (.ireturn, 1) := by decide +kernel
theorem dX2_signKind_106 : decode cX2_signKind 106 = .ok (.bipush 17, 2) := by decide +kernel
theorem dX2_signKind_108 : decode cX2_signKind 108 = .ok (.ireturn, 1) := by decide +kernel
theorem dX2_signKind_109 : decode cX2_signKind 109 = .ok (.bipush 18, 2) := by decide +kernel
theorem dX2_signKind_111 : decode cX2_signKind 111 = .ok (.ireturn, 1) := by decide +kernel
theorem dX2_signKind_112 : decode cX2_signKind 112 = .ok (.bipush 21, 2) := by decide +kernel
theorem dX2_signKind_114 : decode cX2_signKind 114 = .ok (.ireturn, 1) := by decide +kernel
theorem dX2_signKind_115 : decode cX2_signKind 115 = .ok (.bipush 23, 2) := by decide +kernel
theorem dX2_signKind_117 : decode cX2_signKind 117 = .ok (.ireturn, 1) := by decide +kernel
theorem dX2_signKind_118 : decode cX2_signKind 118 = .ok (.bipush 24, 2) := by decide +kernel
theorem dX2_signKind_120 : decode cX2_signKind 120 = .ok (.ireturn, 1) := by decide +kernel
theorem dX2_signKind_121 : decode cX2_signKind 121 = .ok (.bipush 26, 2) := by decide +kernel
theorem dX2_signKind_123 : decode cX2_signKind 123 = .ok (.ireturn, 1) := by decide +kernel
theorem dX2_isBlank_0 : decode cX2_isBlank 0 = .ok (.iload_n 0, 1) := by decide +kernel
theorem dX2_isBlank_1 : decode cX2_isBlank 1 = .ok (.bipush 9, 2) := by decide +kernel
theorem dX2_isBlank_3 : decode cX2_isBlank 3 = .ok (.if_icmp .eq 21, 3) := by decide +kernel
theorem dX2_isBlank_6 : decode cX2_isBlank 6 = .ok (.iload_n 0, 1) := by decide +kernel
theorem dX2_isBlank_7 : decode cX2_isBlank 7 = .ok (.bipush 10, 2) := by decide +kernel
theorem dX2_isBlank_9 : decode cX2_isBlank 9 = .ok (.if_icmp .eq 15, 3) := by decide +kernel
theorem dX2_isBlank_12 : decode cX2_isBlank 12 = .ok (.iload_n 0, 1) := by decide +kernel
theorem dX2_isBlank_13 : decode cX2_isBlank 13 = .ok (.bipush 13, 2) := by decide +kernel
theorem dX2_isBlank_15 : decode cX2_isBlank 15 = .ok (.if_icmp .eq 9, 3) := by decide +kernel
theorem dX2_isBlank_18 : decode cX2_isBlank 18 = .ok (.iload_n 0, 1) := by decide +kernel
theorem dX2_isBlank_19 : decode cX2_isBlank 19 = .ok (.bipush 32, 2) := by decide +kernel
theorem dX2_isBlank_21 : decode cX2_isBlank 21 = .ok (.if_icmp .ne 7, 3) := by decide +kernel
theorem dX2_isBlank_24 : decode cX2_isBlank 24 = .ok (.iconst 1, 1) := by decide +kernel
theorem dX2_isBlank_25 : decode cX2_isBlank 25 = .ok (.goto 4, 3) := by decide +kernel
theorem dX2_isBlank_28 : decode cX2_isBlank 28 = .ok (.iconst 0, 1) := by decide +kernel
theorem dX2_isBlank_29 : decode cX2_isBlank 29 = .ok (.ireturn, 1) := by decide +kernel
theorem dX2_isLetter_0 : decode cX2_isLetter 0 = .ok (.iload_n 0, 1) := by decide +kernel
theorem dX2_isLetter_1 : decode cX2_isLetter 1 = .ok (.bipush 97, 2) := by decide +kernel
theorem dX2_isLetter_3 : decode cX2_isLetter 3 = .ok (.if_icmp .lt 13, 3) := by decide +kernel
theorem dX2_isLetter_6 : decode cX2_isLetter 6 = .ok (.iload_n 0, 1) := by decide +kernel
theorem dX2_isLetter_7 : decode cX2_isLetter 7 = .ok (.bipush 122, 2) := by decide +kernel
theorem dX2_isLetter_9 : decode cX2_isLetter 9 = .ok (.if_icmp .gt 7, 3) := by decide +kernel
theorem dX2_isLetter_12 : decode cX2_isLetter 12 = .ok (.iconst 1, 1) := by decide +kernel
theorem dX2_isLetter_13 : decode cX2_isLetter 13 = .ok (.goto 4, 3) := by decide +kernel
theorem dX2_isLetter_16 : decode cX2_isLetter 16 = .ok (.iconst 0, 1) := by decide +kernel
theorem dX2_isLetter_17 : decode cX2_isLetter 17 = .ok (.ireturn, 1) := by decide +kernel
theorem dX2_isDigit_0 : decode cX2_isDigit 0 = .ok (.iload_n 0, 1) := by decide +kernel
theorem dX2_isDigit_1 : decode cX2_isDigit 1 = .ok (.bipush 48, 2) := by decide +kernel
theorem dX2_isDigit_3 : decode cX2_isDigit 3 = .ok (.if_icmp .lt 13, 3) := by decide +kernel
theorem dX2_isDigit_6 : decode cX2_isDigit 6 = .ok (.iload_n 0, 1) := by decide +kernel
theorem dX2_isDigit_7 : decode cX2_isDigit 7 = .ok (.bipush 57, 2) := by decide +kernel
theorem dX2_isDigit_9 : decode cX2_isDigit 9 = .ok (.if_icmp .gt 7, 3) := by decide +kernel
theorem dX2_isDigit_12 : decode cX2_isDigit 12 = .ok (.iconst 1, 1) := by decide +kernel
theorem dX2_isDigit_13 : decode cX2_isDigit 13 = .ok (.goto 4, 3) := by decide +kernel
theorem dX2_isDigit_16 : decode cX2_isDigit 16 = .ok (.iconst 0, 1) := by decide +kernel
theorem dX2_isDigit_17 : decode cX2_isDigit 17 = .ok (.ireturn, 1) := by decide +kernel
