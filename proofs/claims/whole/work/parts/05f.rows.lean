theorem dX6_relation_31 : decode cX6_relation 31 = .ok (.isub, 1) := by decide +kernel
theorem dX6_relation_32 : decode cX6_relation 32 = .ok (.istore_n 3, 1) := by decide +kernel
theorem dX6_relation_33 : decode cX6_relation 33 = .ok (.aload_n 0, 1) := by decide +kernel
theorem dX6_relation_34 : decode cX6_relation 34 = .ok (.getfield 188, 3) := by decide +kernel
theorem dX6_relation_37 : decode cX6_relation 37 = .ok (.ifCond .ne 17, 3) := by decide +kernel
theorem dX6_relation_40 : decode cX6_relation 40 = .ok (.iload_n 3, 1) := by decide +kernel
theorem dX6_relation_41 : decode cX6_relation 41 = .ok (.ifCond .lt 8, 3) := by decide +kernel
theorem dX6_relation_44 : decode cX6_relation 44 = .ok (.iload_n 3, 1) := by decide +kernel
theorem dX6_relation_45 : decode cX6_relation 45 = .ok (.iconst 3, 1) := by decide +kernel
theorem dX6_relation_46 : decode cX6_relation 46 = .ok (.if_icmp .le 8, 3) := by decide +kernel
theorem dX6_relation_49 : decode cX6_relation 49 = .ok (.aload_n 0, 1) := by decide +kernel
theorem dX6_relation_50 : decode cX6_relation 50 = .ok (.iconst 1, 1) := by decide +kernel
theorem dX6_relation_51 : decode cX6_relation 51 = .ok (.invokevirtual 203, 3) := by decide +kernel
theorem dX6_relation_54 : decode cX6_relation 54 = .ok (.aload_n 0, 1) := by decide +kernel
theorem dX6_relation_55 : decode cX6_relation 55 = .ok (.invokevirtual 209, 3) := by decide +kernel
theorem dX6_relation_58 : decode cX6_relation 58 = .ok (.aload_n 0, 1) := by decide +kernel
theorem dX6_relation_59 : decode cX6_relation 59 = .ok (.getfield 224, 3) := by decide +kernel
theorem dX6_relation_62 : decode cX6_relation 62 = .ok (.istore 4, 2) := by decide +kernel
theorem dX6_relation_64 : decode cX6_relation 64 = .ok (.aload_n 0, 1) := by decide +kernel
theorem dX6_relation_65 : decode cX6_relation 65 = .ok (.invokevirtual 237, 3) := by decide +kernel
theorem dX6_relation_68 : decode cX6_relation 68 = .ok (.aload_n 0, 1) := by decide +kernel
theorem dX6_relation_69 : decode cX6_relation 69 = .ok (.getfield 188, 3) := by decide +kernel
theorem dX6_relation_72 : decode cX6_relation 72 = .ok (.ifCond .le 4, 3) := by decide +kernel
theorem dX6_relation_75 : decode cX6_relation 75 = .ok (.return_, 1) := by decide +kernel
theorem dX6_relation_76 : decode cX6_relation 76 = .ok (.sipush 200, 3) := by decide +kernel
theorem dX6_relation_79 : decode cX6_relation 79 = .ok (.aload_n 0, 1) := by decide +kernel
theorem dX6_relation_80 : decode cX6_relation 80 = .ok (.getfield 221, 3) := by decide +kernel
theorem dX6_relation_83 : decode cX6_relation 83 = .ok (.imul, 1) := by decide +kernel
theorem dX6_relation_84 : decode cX6_relation 84 = .ok (.aload_n 0, 1) := by decide +kernel
theorem dX6_relation_85 : decode cX6_relation 85 = .ok (.getfield 55, 3) := by decide +kernel
theorem dX6_relation_88 : decode cX6_relation 88 = .ok (.aload_n 0, 1) := by decide +kernel
theorem dX6_relation_89 : decode cX6_relation 89 = .ok (.getfield 221, 3) := by decide +kernel
theorem dX6_relation_92 : decode cX6_relation 92 = .ok (.iaload, 1) := by decide +kernel
theorem dX6_relation_93 : decode cX6_relation 93 = .ok (.iadd, 1) := by decide +kernel
theorem dX6_relation_94 : decode cX6_relation 94 = .ok (.istore 5, 2) := by decide +kernel
theorem dX6_relation_96 : decode cX6_relation 96 = .ok (.aload_n 0, 1) := by decide +kernel
theorem dX6_relation_97 : decode cX6_relation 97 = .ok (.getfield 58, 3) := by decide +kernel
theorem dX6_relation_100 : decode cX6_relation 100 = .ok (.iload 5, 2) := by decide +kernel
theorem dX6_relation_102 : decode cX6_relation 102 = .ok (.iload_n 3, 1) := by decide +kernel
theorem dX6_relation_103 : decode cX6_relation 103 = .ok (.iastore, 1) := by decide +kernel
theorem dX6_relation_104 : decode cX6_relation 104 = .ok (.aload_n 0, 1) := by decide +kernel
theorem dX6_relation_105 : decode cX6_relation 105 = .ok (.getfield 61, 3) := by decide +kernel
theorem dX6_relation_108 : decode cX6_relation 108 = .ok (.iload 5, 2) := by decide +kernel
theorem dX6_relation_110 : decode cX6_relation 110 = .ok (.iload_n 2, 1) := by decide +kernel
theorem dX6_relation_111 : decode cX6_relation 111 = .ok (.iastore, 1) := by decide +kernel
theorem dX6_relation_112 : decode cX6_relation 112 = .ok (.aload_n 0, 1) := by decide +kernel
theorem dX6_relation_113 : decode cX6_relation 113 = .ok (.getfield 64, 3) := by decide +kernel
theorem dX6_relation_116 : decode cX6_relation 116 = .ok (.iload 5, 2) := by decide +kernel
theorem dX6_relation_118 : decode cX6_relation 118 = .ok (.iload 4, 2) := by decide +kernel
theorem dX6_relation_120 : decode cX6_relation 120 = .ok (.iastore, 1) := by decide +kernel
theorem dX6_relation_121 : decode cX6_relation 121 = .ok (.aload_n 0, 1) := by decide +kernel
theorem dX6_relation_122 : decode cX6_relation 122 = .ok (.getfield 67, 3) := by decide +kernel
theorem dX6_relation_125 : decode cX6_relation 125 = .ok (.iload 5, 2) := by decide +kernel
theorem dX6_relation_127 : decode cX6_relation 127 = .ok (.aload_n 0, 1) := by decide +kernel
theorem dX6_relation_128 : decode cX6_relation 128 = .ok (.getfield 224, 3) := by decide +kernel
theorem dX6_relation_131 : decode cX6_relation 131 = .ok (.iastore, 1) := by decide +kernel
theorem dX6_relation_132 : decode cX6_relation 132 = .ok (.aload_n 0, 1) := by decide +kernel
theorem dX6_relation_133 : decode cX6_relation 133 = .ok (.getfield 70, 3) := by decide +kernel
theorem dX6_relation_136 : decode cX6_relation 136 = .ok (.iload 5, 2) := by decide +kernel
theorem dX6_relation_138 : decode cX6_relation 138 = .ok (.iload_n 1, 1) := by decide +kernel
theorem dX6_relation_139 : decode cX6_relation 139 = .ok (.bastore, 1) := by decide +kernel
theorem dX6_relation_140 : decode cX6_relation 140 = .ok (.aload_n 0, 1) := by decide +kernel
theorem dX6_relation_141 : decode cX6_relation 141 = .ok (.getfield 55, 3) := by decide +kernel
theorem dX6_relation_144 : decode cX6_relation 144 = .ok (.aload_n 0, 1) := by decide +kernel
theorem dX6_relation_145 : decode cX6_relation 145 = .ok (.getfield 221, 3) := by decide +kernel
theorem dX6_relation_148 : decode cX6_relation 148 = .ok (.dup2, 1) := by decide +kernel
theorem dX6_relation_149 : decode cX6_relation 149 = .ok (.iaload, 1) := by decide +kernel
theorem dX6_relation_150 : decode cX6_relation 150 = .ok (.iconst 1, 1) := by decide +kernel
theorem dX6_relation_151 : decode cX6_relation 151 = .ok (.iadd, 1) := by decide +kernel
theorem dX6_relation_152 : decode cX6_relation 152 = .ok (.iastore, 1) := by decide +kernel
theorem dX6_relation_153 : decode cX6_relation 153 = .ok (.return_, 1) := by decide +kernel
theorem dX6_emit_0 : decode cX6_emit 0 = .ok (.aload_n 0, 1) := by decide +kernel
theorem dX6_emit_1 : decode cX6_emit 1 = .ok (.getfield 74, 3) := by decide +kernel
theorem dX6_emit_4 : decode cX6_emit 4 = .ok (.aload_n 0, 1) := by decide +kernel
theorem dX6_emit_5 : decode cX6_emit 5 = .ok (.getfield 224, 3) := by decide +kernel
theorem dX6_emit_8 : decode cX6_emit 8 = .ok (.iload_n 1, 1) := by decide +kernel
theorem dX6_emit_9 : decode cX6_emit 9 = .ok (.iastore, 1) := by decide +kernel
theorem dX6_emit_10 : decode cX6_emit 10 = .ok (.aload_n 0, 1) := by decide +kernel
theorem dX6_emit_11 : decode cX6_emit 11 = .ok (.getfield 77, 3) := by decide +kernel
theorem dX6_emit_14 : decode cX6_emit 14 = .ok (.aload_n 0, 1) := by decide +kernel
theorem dX6_emit_15 : decode cX6_emit 15 = .ok (.getfield 224, 3) := by decide +kernel
theorem dX6_emit_18 : decode cX6_emit 18 = .ok (.iload_n 2, 1) := by decide +kernel
theorem dX6_emit_19 : decode cX6_emit 19 = .ok (.iastore, 1) := by decide +kernel
theorem dX6_emit_20 : decode cX6_emit 20 = .ok (.aload_n 0, 1) := by decide +kernel
theorem dX6_emit_21 : decode cX6_emit 21 = .ok (.dup, 1) := by decide +kernel
theorem dX6_emit_22 : decode cX6_emit 22 = .ok (.getfield 224, 3) := by decide +kernel
theorem dX6_emit_25 : decode cX6_emit 25 = .ok (.iconst 1, 1) := by decide +kernel
theorem dX6_emit_26 : decode cX6_emit 26 = .ok (.iadd, 1) := by decide +kernel
theorem dX6_emit_27 : decode cX6_emit 27 = .ok (.putfield 224, 3) := by decide +kernel
theorem dX6_emit_30 : decode cX6_emit 30 = .ok (.return_, 1) := by decide +kernel
set_option maxRecDepth 20000 in
theorem ggX6_comesOut_X6_emit : GoodIn wsX6_comesOut wsX6_emit := goodIn_r _ [7, 8, 9, 10, 11, 12, 13, 14, 15, 16, 17, 18, 19, 20, 21, 22, 23, 24, 25, 26, 27, 28, 29, 30, 31, 32, 33, 34, 35, 36, 37, 38, 39, 40, 41, 42, 43, 44, 45, 46, 47, 48, 49, 50, 51, 52, 53, 54, 55, 56, 57, 58, 59, 60, 61, 62, 63, 64, 65, 66, 67, 68, 69, 70] (by decide +kernel) (by decide +kernel)
set_option maxRecDepth 20000 in
theorem gX6_comesOut_X6_emit : GoodIn wsX6_comesOut (wsV RX6 243 RX6 yX6_emit wsX6_emit) := goodIn_app (goodIn_of _ (by decide +kernel)) ggX6_comesOut_X6_emit
theorem dX6_comesOut_0 : decode cX6_comesOut 0 = .ok (.aload_n 0, 1) := by decide +kernel
theorem dX6_comesOut_1 : decode cX6_comesOut 1 = .ok (.getfield 240, 3) := by decide +kernel
theorem dX6_comesOut_4 : decode cX6_comesOut 4 = .ok (.ifCond .le 88, 3) := by decide +kernel
theorem dX6_comesOut_7 : decode cX6_comesOut 7 = .ok (.aload_n 0, 1) := by decide +kernel
theorem dX6_comesOut_8 : decode cX6_comesOut 8 = .ok (.getfield 80, 3) := by decide +kernel
theorem dX6_comesOut_11 : decode cX6_comesOut 11 = .ok (.aload_n 0, 1) := by decide +kernel
theorem dX6_comesOut_12 : decode cX6_comesOut 12 = .ok (.getfield 240, 3) := by decide +kernel
theorem dX6_comesOut_15 : decode cX6_comesOut 15 = .ok (.iconst 1, 1) := by decide +kernel
theorem dX6_comesOut_16 : decode cX6_comesOut 16 = .ok (.isub, 1) := by decide +kernel
theorem dX6_comesOut_17 : decode cX6_comesOut 17 = .ok (.iaload, 1) := by decide +kernel
theorem dX6_comesOut_18 : decode cX6_comesOut 18 = .ok (.bipush 6, 2) := by decide +kernel
theorem dX6_comesOut_20 : decode cX6_comesOut 20 = .ok (.if_icmp .eq 72, 3) := by decide +kernel
theorem dX6_comesOut_23 : decode cX6_comesOut 23 = .ok (.iload_n 1, 1) := by decide +kernel
theorem dX6_comesOut_24 : decode cX6_comesOut 24 = .ok (.ifCond .eq 19, 3) := by decide +kernel
theorem dX6_comesOut_27 : decode cX6_comesOut 27 = .ok (.aload_n 0, 1) := by decide +kernel
theorem dX6_comesOut_28 : decode cX6_comesOut 28 = .ok (.getfield 80, 3) := by decide +kernel
theorem dX6_comesOut_31 : decode cX6_comesOut 31 = .ok (.aload_n 0, 1) := by decide +kernel
theorem dX6_comesOut_32 : decode cX6_comesOut 32 = .ok (.getfield 240, 3) := by decide +kernel
theorem dX6_comesOut_35 : decode cX6_comesOut 35 = .ok (.iconst 1, 1) := by decide +kernel
theorem dX6_comesOut_36 : decode cX6_comesOut 36 = .ok (.isub, 1) := by decide +kernel
theorem dX6_comesOut_37 : decode cX6_comesOut 37 = .ok (.iaload, 1) := by decide +kernel
theorem dX6_comesOut_38 : decode cX6_comesOut 38 = .ok (.bipush 10, 2) := by decide +kernel
theorem dX6_comesOut_40 : decode cX6_comesOut 40 = .ok (.if_icmp .ne 52, 3) := by decide +kernel
theorem dX6_comesOut_43 : decode cX6_comesOut 43 = .ok (.aload_n 0, 1) := by decide +kernel
theorem dX6_comesOut_44 : decode cX6_comesOut 44 = .ok (.dup, 1) := by decide +kernel
theorem dX6_comesOut_45 : decode cX6_comesOut 45 = .ok (.getfield 240, 3) := by decide +kernel
theorem dX6_comesOut_48 : decode cX6_comesOut 48 = .ok (.iconst 1, 1) := by decide +kernel
theorem dX6_comesOut_49 : decode cX6_comesOut 49 = .ok (.isub, 1) := by decide +kernel
theorem dX6_comesOut_50 : decode cX6_comesOut 50 = .ok (.putfield 240, 3) := by decide +kernel
theorem dX6_comesOut_53 : decode cX6_comesOut 53 = .ok (.aload_n 0, 1) := by decide +kernel
theorem dX6_comesOut_54 : decode cX6_comesOut 54 = .ok (.getfield 80, 3) := by decide +kernel
theorem dX6_comesOut_57 : decode cX6_comesOut 57 = .ok (.aload_n 0, 1) := by decide +kernel
theorem dX6_comesOut_58 : decode cX6_comesOut 58 = .ok (.getfield 240, 3) := by decide +kernel
theorem dX6_comesOut_61 : decode cX6_comesOut 61 = .ok (.iaload, 1) := by decide +kernel
theorem dX6_comesOut_62 : decode cX6_comesOut 62 = .ok (.istore_n 2, 1) := by decide +kernel
theorem dX6_comesOut_63 : decode cX6_comesOut 63 = .ok (.aload_n 0, 1) := by decide +kernel
theorem dX6_comesOut_64 : decode cX6_comesOut 64 = .ok (.iload_n 2, 1) := by decide +kernel
theorem dX6_comesOut_65 : decode cX6_comesOut 65 = .ok (.bipush 8, 2) := by decide +kernel
theorem dX6_comesOut_67 : decode cX6_comesOut 67 = .ok (.if_icmp .ne 7, 3) := by decide +kernel
theorem dX6_comesOut_70 : decode cX6_comesOut 70 = .ok (.iconst 2, 1) := by decide +kernel
theorem dX6_comesOut_71 : decode cX6_comesOut 71 = .ok (.goto 14, 3) := by decide +kernel
theorem dX6_comesOut_74 : decode cX6_comesOut 74 = .ok (.iload_n 2, 1) := by decide +kernel
theorem dX6_comesOut_75 : decode cX6_comesOut 75 = .ok (.bipush 9, 2) := by decide +kernel
theorem dX6_comesOut_77 : decode cX6_comesOut 77 = .ok (.if_icmp .ne 7, 3) := by decide +kernel
theorem dX6_comesOut_80 : decode cX6_comesOut 80 = .ok (.iconst 3, 1) := by decide +kernel
theorem dX6_comesOut_81 : decode cX6_comesOut 81 = .ok (.goto 4, 3) := by decide +kernel
theorem dX6_comesOut_84 : decode cX6_comesOut 84 = .ok (.iconst 4, 1) := by decide +kernel
theorem dX6_comesOut_85 : decode cX6_comesOut 85 = .ok (.iconst 0, 1) := by decide +kernel
theorem dX6_comesOut_86 : decode cX6_comesOut 86 = .ok (.invokevirtual 243, 3) := by decide +kernel
theorem dX6_comesOut_89 : decode cX6_comesOut 89 = .ok (.goto (-89), 3) := by decide +kernel
theorem dX6_comesOut_92 : decode cX6_comesOut 92 = .ok (.return_, 1) := by decide +kernel
set_option maxRecDepth 20000 in
theorem ggX6_expression_X6_is : GoodIn wsX6_expression wsX6_is := goodIn_r _ [12, 3, 5, 6, 34, 35, 36, 37, 38, 39, 40, 41, 42, 43, 44, 45, 46, 47, 48, 49, 50, 51, 52, 53, 54, 55, 56, 57, 58, 59, 60, 61, 62, 63, 64, 65, 66, 67, 68, 69, 70, 71, 72, 73, 74, 75, 76, 77, 78, 79, 80, 81, 82, 83, 84, 85, 86, 87, 88, 89, 90, 91, 92, 93] (by decide +kernel) (by decide +kernel)
set_option maxRecDepth 20000 in
theorem gX6_expression_X6_is : GoodIn wsX6_expression (wsV RX6 206 RX6 yX6_is wsX6_is) := goodIn_app (goodIn_of _ (by decide +kernel)) ggX6_expression_X6_is
set_option maxRecDepth 20000 in
theorem ggX6_expression_X6_fail : GoodIn wsX6_expression wsX6_fail := goodIn_r _ [16, 3, 17, 6, 18, 34, 35, 36, 37, 38, 39, 40, 41, 42, 43, 44, 45, 46, 47, 48, 49, 50, 51, 52, 53, 54, 55, 56, 57, 58, 59, 60, 61, 62, 63, 64, 65, 66, 67, 68, 69, 70, 71, 72, 73, 74, 75, 76, 77, 78, 79, 80, 81, 82, 83, 84, 85, 86, 87, 88, 89, 90, 91, 92, 93] (by decide +kernel) (by decide +kernel)
set_option maxRecDepth 20000 in
theorem gX6_expression_X6_fail : GoodIn wsX6_expression (wsV RX6 203 RX6 yX6_fail wsX6_fail) := goodIn_app (goodIn_of _ (by decide +kernel)) ggX6_expression_X6_fail
set_option maxRecDepth 20000 in
theorem ggX6_expression_X6_next : GoodIn wsX6_expression wsX6_next := goodIn_r _ [22, 6, 13, 14, 15, 11, 16, 3, 17, 18, 34, 35, 36, 37, 38, 39, 40, 41, 42, 43, 44, 45, 46, 47, 48, 49, 50, 51, 52, 53, 54, 55, 56, 57, 58, 59, 60, 61, 62, 63, 64, 65, 66, 67, 68, 69, 70, 71, 72, 73, 74, 75, 76, 77, 78, 79, 80, 81, 82, 83, 84, 85, 86, 87, 88, 89, 90, 91, 92, 93] (by decide +kernel) (by decide +kernel)
set_option maxRecDepth 20000 in
theorem gX6_expression_X6_next : GoodIn wsX6_expression (wsV RX6 209 RX6 yX6_next wsX6_next) := goodIn_app (goodIn_of _ (by decide +kernel)) ggX6_expression_X6_next
set_option maxRecDepth 20000 in
theorem ggX6_expression_X6_emit : GoodIn wsX6_expression wsX6_emit := goodIn_r _ [26, 27, 28, 29, 34, 35, 36, 37, 38, 39, 40, 41, 42, 43, 44, 45, 46, 47, 48, 49, 50, 51, 52, 53, 54, 55, 56, 57, 58, 59, 60, 61, 62, 63, 64, 65, 66, 67, 68, 69, 70, 71, 72, 73, 74, 75, 76, 77, 78, 79, 80, 81, 82, 83, 84, 85, 86, 87, 88, 89, 90, 91, 92, 93] (by decide +kernel) (by decide +kernel)
set_option maxRecDepth 20000 in
theorem gX6_expression_X6_emit : GoodIn wsX6_expression (wsV RX6 243 RX6 yX6_emit wsX6_emit) := goodIn_app (goodIn_of _ (by decide +kernel)) ggX6_expression_X6_emit
set_option maxRecDepth 20000 in
theorem ggX6_expression_X6_comesOut : GoodIn wsX6_expression wsX6_comesOut := goodIn_r _ [33, 1, 4, 23, 24, 25, 11, 26, 27, 28, 29, 34, 35, 36, 37, 38, 39, 40, 41, 42, 43, 44, 45, 46, 47, 48, 49, 50, 51, 52, 53, 54, 55, 56, 57, 58, 59, 60, 61, 62, 63, 64, 65, 66, 67, 68, 69, 70, 71, 72, 73, 74, 75, 76, 77, 78, 79, 80, 81, 82, 83, 84, 85, 86, 87, 88, 89, 90, 91, 92, 93] (by decide +kernel) (by decide +kernel)
set_option maxRecDepth 20000 in
theorem gX6_expression_X6_comesOut : GoodIn wsX6_expression (wsV RX6 247 RX6 yX6_comesOut wsX6_comesOut) := goodIn_app (goodIn_of _ (by decide +kernel)) ggX6_expression_X6_comesOut
theorem dX6_expression_0 : decode cX6_expression 0 = .ok (.aload_n 0, 1) := by decide +kernel
theorem dX6_expression_1 : decode cX6_expression 1 = .ok (.iconst 0, 1) := by decide +kernel
theorem dX6_expression_2 : decode cX6_expression 2 = .ok (.putfield 240, 3) := by decide +kernel
theorem dX6_expression_5 : decode cX6_expression 5 = .ok (.aload_n 0, 1) := by decide +kernel
theorem dX6_expression_6 : decode cX6_expression 6 = .ok (.getfield 218, 3) := by decide +kernel
theorem dX6_expression_9 : decode cX6_expression 9 = .ok (.istore_n 1, 1) := by decide +kernel
theorem dX6_expression_10 : decode cX6_expression 10 = .ok (.iconst 1, 1) := by decide +kernel
theorem dX6_expression_11 : decode cX6_expression 11 = .ok (.istore_n 2, 1) := by decide +kernel
theorem dX6_expression_12 : decode cX6_expression 12 = .ok (.iload_n 2, 1) := by decide +kernel
theorem dX6_expression_13 : decode cX6_expression 13 = .ok (.ifCond .eq 347, 3) := by decide +kernel
theorem dX6_expression_16 : decode cX6_expression 16 = .ok (.aload_n 0, 1) := by decide +kernel
theorem dX6_expression_17 : decode cX6_expression 17 = .ok (.getfield 188, 3) := by decide +kernel
theorem dX6_expression_20 : decode cX6_expression 20 = .ok (.ifCond .ne 340, 3) := by decide +kernel
theorem dX6_expression_23 : decode cX6_expression 23 = .ok (.aload_n 0, 1) := by decide +kernel
theorem dX6_expression_24 : decode cX6_expression 24 = .ok (.bipush 6, 2) := by decide +kernel
theorem dX6_expression_26 : decode cX6_expression 26 = .ok (.invokevirtual 206, 3) := by decide +kernel
theorem dX6_expression_29 : decode cX6_expression 29 = .ok (.ifCond .eq 63, 3) := by decide +kernel
theorem dX6_expression_32 : decode cX6_expression 32 = .ok (.aload_n 0, 1) := by decide +kernel
theorem dX6_expression_33 : decode cX6_expression 33 = .ok (.getfield 218, 3) := by decide +kernel
theorem dX6_expression_36 : decode cX6_expression 36 = .ok (.bipush 6, 2) := by decide +kernel
theorem dX6_expression_38 : decode cX6_expression 38 = .ok (.if_icmp .ne 8, 3) := by decide +kernel
theorem dX6_expression_41 : decode cX6_expression 41 = .ok (.aload_n 0, 1) := by decide +kernel
theorem dX6_expression_42 : decode cX6_expression 42 = .ok (.iconst 2, 1) := by decide +kernel
theorem dX6_expression_43 : decode cX6_expression 43 = .ok (.invokevirtual 203, 3) := by decide +kernel
theorem dX6_expression_46 : decode cX6_expression 46 = .ok (.aload_n 0, 1) := by decide +kernel
theorem dX6_expression_47 : decode cX6_expression 47 = .ok (.getfield 188, 3) := by decide +kernel
theorem dX6_expression_50 : decode cX6_expression 50 = .ok (.ifCond .le 4, 3) := by decide +kernel
theorem dX6_expression_53 : decode cX6_expression 53 = .ok (.return_, 1) := by decide +kernel
theorem dX6_expression_54 : decode cX6_expression 54 = .ok (.aload_n 0, 1) := by decide +kernel
theorem dX6_expression_55 : decode cX6_expression 55 = .ok (.dup, 1) := by decide +kernel
theorem dX6_expression_56 : decode cX6_expression 56 = .ok (.getfield 218, 3) := by decide +kernel
theorem dX6_expression_59 : decode cX6_expression 59 = .ok (.iconst 1, 1) := by decide +kernel
theorem dX6_expression_60 : decode cX6_expression 60 = .ok (.iadd, 1) := by decide +kernel
theorem dX6_expression_61 : decode cX6_expression 61 = .ok (.putfield 218, 3) := by decide +kernel
theorem dX6_expression_64 : decode cX6_expression 64 = .ok (.aload_n 0, 1) := by decide +kernel
theorem dX6_expression_65 : decode cX6_expression 65 = .ok (.invokevirtual 209, 3) := by decide +kernel
theorem dX6_expression_68 : decode cX6_expression 68 = .ok (.aload_n 0, 1) := by decide +kernel
theorem dX6_expression_69 : decode cX6_expression 69 = .ok (.getfield 80, 3) := by decide +kernel
theorem dX6_expression_72 : decode cX6_expression 72 = .ok (.aload_n 0, 1) := by decide +kernel
theorem dX6_expression_73 : decode cX6_expression 73 = .ok (.getfield 240, 3) := by decide +kernel
theorem dX6_expression_76 : decode cX6_expression 76 = .ok (.bipush 6, 2) := by decide +kernel
theorem dX6_expression_78 : decode cX6_expression 78 = .ok (.iastore, 1) := by decide +kernel
theorem dX6_expression_79 : decode cX6_expression 79 = .ok (.aload_n 0, 1) := by decide +kernel
theorem dX6_expression_80 : decode cX6_expression 80 = .ok (.dup, 1) := by decide +kernel
theorem dX6_expression_81 : decode cX6_expression 81 = .ok (.getfield 240, 3) := by decide +kernel
theorem dX6_expression_84 : decode cX6_expression 84 = .ok (.iconst 1, 1) := by decide +kernel
theorem dX6_expression_85 : decode cX6_expression 85 = .ok (.iadd, 1) := by decide +kernel
theorem dX6_expression_86 : decode cX6_expression 86 = .ok (.putfield 240, 3) := by decide +kernel
theorem dX6_expression_89 : decode cX6_expression 89 = .ok (.goto (-77), 3) := by decide +kernel
theorem dX6_expression_92 : decode cX6_expression 92 = .ok (.aload_n 0, 1) := by decide +kernel
theorem dX6_expression_93 : decode cX6_expression 93 = .ok (.getfield 188, 3) := by decide +kernel
theorem dX6_expression_96 : decode cX6_expression 96 = .ok (.ifCond .ne 35, 3) := by decide +kernel
theorem dX6_expression_99 : decode cX6_expression 99 = .ok (.aload_n 0, 1) := by decide +kernel
theorem dX6_expression_100 : decode cX6_expression 100 = .ok (.getfield 20, 3) := by decide +kernel
theorem dX6_expression_103 : decode cX6_expression 103 = .ok (.aload_n 0, 1) := by decide +kernel
theorem dX6_expression_104 : decode cX6_expression 104 = .ok (.getfield 191, 3) := by decide +kernel
theorem dX6_expression_107 : decode cX6_expression 107 = .ok (.iaload, 1) := by decide +kernel
theorem dX6_expression_108 : decode cX6_expression 108 = .ok (.bipush 26, 2) := by decide +kernel
theorem dX6_expression_110 : decode cX6_expression 110 = .ok (.if_icmp .lt 21, 3) := by decide +kernel
theorem dX6_expression_113 : decode cX6_expression 113 = .ok (.aload_n 0, 1) := by decide +kernel
theorem dX6_expression_114 : decode cX6_expression 114 = .ok (.getfield 20, 3) := by decide +kernel
theorem dX6_expression_117 : decode cX6_expression 117 = .ok (.aload_n 0, 1) := by decide +kernel
theorem dX6_expression_118 : decode cX6_expression 118 = .ok (.getfield 191, 3) := by decide +kernel
theorem dX6_expression_121 : decode cX6_expression 121 = .ok (.iaload, 1) := by decide +kernel
theorem dX6_expression_122 : decode cX6_expression 122 = .ok (.bipush 33, 2) := by decide +kernel
theorem dX6_expression_124 : decode cX6_expression 124 = .ok (.if_icmp .gt 7, 3) := by decide +kernel
theorem dX6_expression_127 : decode cX6_expression 127 = .ok (.iconst 1, 1) := by decide +kernel
theorem dX6_expression_128 : decode cX6_expression 128 = .ok (.goto 4, 3) := by decide +kernel
theorem dX6_expression_131 : decode cX6_expression 131 = .ok (.iconst 0, 1) := by decide +kernel
theorem dX6_expression_132 : decode cX6_expression 132 = .ok (.istore_n 3, 1) := by decide +kernel
theorem dX6_expression_133 : decode cX6_expression 133 = .ok (.aload_n 0, 1) := by decide +kernel
theorem dX6_expression_134 : decode cX6_expression 134 = .ok (.iconst 2, 1) := by decide +kernel
theorem dX6_expression_135 : decode cX6_expression 135 = .ok (.invokevirtual 206, 3) := by decide +kernel
theorem dX6_expression_138 : decode cX6_expression 138 = .ok (.ifCond .ne 12, 3) := by decide +kernel
theorem dX6_expression_141 : decode cX6_expression 141 = .ok (.iload_n 3, 1) := by decide +kernel
theorem dX6_expression_142 : decode cX6_expression 142 = .ok (.ifCond .ne 8, 3) := by decide +kernel
theorem dX6_expression_145 : decode cX6_expression 145 = .ok (.aload_n 0, 1) := by decide +kernel
theorem dX6_expression_146 : decode cX6_expression 146 = .ok (.iconst 1, 1) := by decide +kernel
theorem dX6_expression_147 : decode cX6_expression 147 = .ok (.invokevirtual 203, 3) := by decide +kernel
theorem dX6_expression_150 : decode cX6_expression 150 = .ok (.aload_n 0, 1) := by decide +kernel
theorem dX6_expression_151 : decode cX6_expression 151 = .ok (.getfield 188, 3) := by decide +kernel
theorem dX6_expression_154 : decode cX6_expression 154 = .ok (.ifCond .le 4, 3) := by decide +kernel
theorem dX6_expression_157 : decode cX6_expression 157 = .ok (.return_, 1) := by decide +kernel
theorem dX6_expression_158 : decode cX6_expression 158 = .ok (.iload_n 3, 1) := by decide +kernel
theorem dX6_expression_159 : decode cX6_expression 159 = .ok (.ifCond .eq 23, 3) := by decide +kernel
theorem dX6_expression_162 : decode cX6_expression 162 = .ok (.aload_n 0, 1) := by decide +kernel
theorem dX6_expression_163 : decode cX6_expression 163 = .ok (.iconst 1, 1) := by decide +kernel
theorem dX6_expression_164 : decode cX6_expression 164 = .ok (.aload_n 0, 1) := by decide +kernel
theorem dX6_expression_165 : decode cX6_expression 165 = .ok (.getfield 20, 3) := by decide +kernel
theorem dX6_expression_168 : decode cX6_expression 168 = .ok (.aload_n 0, 1) := by decide +kernel
theorem dX6_expression_169 : decode cX6_expression 169 = .ok (.getfield 191, 3) := by decide +kernel
theorem dX6_expression_172 : decode cX6_expression 172 = .ok (.iaload, 1) := by decide +kernel
theorem dX6_expression_173 : decode cX6_expression 173 = .ok (.bipush 26, 2) := by decide +kernel
theorem dX6_expression_175 : decode cX6_expression 175 = .ok (.isub, 1) := by decide +kernel
theorem dX6_expression_176 : decode cX6_expression 176 = .ok (.invokevirtual 243, 3) := by decide +kernel
theorem dX6_expression_179 : decode cX6_expression 179 = .ok (.goto 17, 3) := by decide +kernel
theorem dX6_expression_182 : decode cX6_expression 182 = .ok (.aload_n 0, 1) := by decide +kernel
theorem dX6_expression_183 : decode cX6_expression 183 = .ok (.iconst 0, 1) := by decide +kernel
theorem dX6_expression_184 : decode cX6_expression 184 = .ok (.aload_n 0, 1) := by decide +kernel
theorem dX6_expression_185 : decode cX6_expression 185 = .ok (.getfield 27, 3) := by decide +kernel
theorem dX6_expression_188 : decode cX6_expression 188 = .ok (.aload_n 0, 1) := by decide +kernel
theorem dX6_expression_189 : decode cX6_expression 189 = .ok (.getfield 191, 3) := by decide +kernel
theorem dX6_expression_192 : decode cX6_expression 192 = .ok (.iaload, 1) := by decide +kernel
theorem dX6_expression_193 : decode cX6_expression 193 = .ok (.invokevirtual 243, 3) := by decide +kernel
theorem dX6_expression_196 : decode cX6_expression 196 = .ok (.aload_n 0, 1) := by decide +kernel
theorem dX6_expression_197 : decode cX6_expression 197 = .ok (.invokevirtual 209, 3) := by decide +kernel
theorem dX6_expression_200 : decode cX6_expression 200 = .ok (.aload_n 0, 1) := by decide +kernel
theorem dX6_expression_201 : decode cX6_expression 201 = .ok (.bipush 7, 2) := by decide +kernel
theorem dX6_expression_203 : decode cX6_expression 203 = .ok (.invokevirtual 206, 3) := by decide +kernel
theorem dX6_expression_206 : decode cX6_expression 206 = .ok (.ifCond .eq 43, 3) := by decide +kernel
theorem dX6_expression_209 : decode cX6_expression 209 = .ok (.aload_n 0, 1) := by decide +kernel
theorem dX6_expression_210 : decode cX6_expression 210 = .ok (.getfield 218, 3) := by decide +kernel
theorem dX6_expression_213 : decode cX6_expression 213 = .ok (.iload_n 1, 1) := by decide +kernel
theorem dX6_expression_214 : decode cX6_expression 214 = .ok (.if_icmp .le 35, 3) := by decide +kernel
theorem dX6_expression_217 : decode cX6_expression 217 = .ok (.aload_n 0, 1) := by decide +kernel
theorem dX6_expression_218 : decode cX6_expression 218 = .ok (.iconst 0, 1) := by decide +kernel
theorem dX6_expression_219 : decode cX6_expression 219 = .ok (.invokevirtual 247, 3) := by decide +kernel
theorem dX6_expression_222 : decode cX6_expression 222 = .ok (.aload_n 0, 1) := by decide +kernel
theorem dX6_expression_223 : decode cX6_expression 223 = .ok (.dup, 1) := by decide +kernel
theorem dX6_expression_224 : decode cX6_expression 224 = .ok (.getfield 240, 3) := by decide +kernel
theorem dX6_expression_227 : decode cX6_expression 227 = .ok (.iconst 1, 1) := by decide +kernel
theorem dX6_expression_228 : decode cX6_expression 228 = .ok (.isub, 1) := by decide +kernel
theorem dX6_expression_229 : decode cX6_expression 229 = .ok (.putfield 240, 3) := by decide +kernel
theorem dX6_expression_232 : decode cX6_expression 232 = .ok (.aload_n 0, 1) := by decide +kernel
theorem dX6_expression_233 : decode cX6_expression 233 = .ok (.dup, 1) := by decide +kernel
theorem dX6_expression_234 : decode cX6_expression 234 = .ok (.getfield 218, 3) := by decide +kernel
theorem dX6_expression_237 : decode cX6_expression 237 = .ok (.iconst 1, 1) := by decide +kernel
theorem dX6_expression_238 : decode cX6_expression 238 = .ok (.isub, 1) := by decide +kernel
theorem dX6_expression_239 : decode cX6_expression 239 = .ok (.putfield 218, 3) := by decide +kernel
theorem dX6_expression_242 : decode cX6_expression 242 = .ok (.aload_n 0, 1) := by decide +kernel
theorem dX6_expression_243 : decode cX6_expression 243 = .ok (.invokevirtual 209, 3) := by decide +kernel
theorem dX6_expression_246 : decode cX6_expression 246 = .ok (.goto (-46), 3) := by decide +kernel
theorem dX6_expression_249 : decode cX6_expression 249 = .ok (.aload_n 0, 1) := by decide +kernel
theorem dX6_expression_250 : decode cX6_expression 250 = .ok (.bipush 8, 2) := by decide +kernel
theorem dX6_expression_252 : decode cX6_expression 252 = .ok (.invokevirtual 206, 3) := by decide +kernel
theorem dX6_expression_255 : decode cX6_expression 255 = .ok (.ifCond .ne 21, 3) := by decide +kernel
theorem dX6_expression_258 : decode cX6_expression 258 = .ok (.aload_n 0, 1) := by decide +kernel
theorem dX6_expression_259 : decode cX6_expression 259 = .ok (.bipush 9, 2) := by decide +kernel
theorem dX6_expression_261 : decode cX6_expression 261 = .ok (.invokevirtual 206, 3) := by decide +kernel
theorem dX6_expression_264 : decode cX6_expression 264 = .ok (.ifCond .ne 12, 3) := by decide +kernel
theorem dX6_expression_267 : decode cX6_expression 267 = .ok (.aload_n 0, 1) := by decide +kernel
theorem dX6_expression_268 : decode cX6_expression 268 = .ok (.bipush 10, 2) := by decide +kernel
theorem dX6_expression_270 : decode cX6_expression 270 = .ok (.invokevirtual 206, 3) := by decide +kernel
theorem dX6_expression_273 : decode cX6_expression 273 = .ok (.ifCond .eq 7, 3) := by decide +kernel
theorem dX6_expression_276 : decode cX6_expression 276 = .ok (.iconst 1, 1) := by decide +kernel
theorem dX6_expression_277 : decode cX6_expression 277 = .ok (.goto 4, 3) := by decide +kernel
theorem dX6_expression_280 : decode cX6_expression 280 = .ok (.iconst 0, 1) := by decide +kernel
theorem dX6_expression_281 : decode cX6_expression 281 = .ok (.istore_n 2, 1) := by decide +kernel
theorem dX6_expression_282 : decode cX6_expression 282 = .ok (.iload_n 2, 1) := by decide +kernel
theorem dX6_expression_283 : decode cX6_expression 283 = .ok (.ifCond .ne 22, 3) := by decide +kernel
theorem dX6_expression_286 : decode cX6_expression 286 = .ok (.aload_n 0, 1) := by decide +kernel
theorem dX6_expression_287 : decode cX6_expression 287 = .ok (.getfield 218, 3) := by decide +kernel
theorem dX6_expression_290 : decode cX6_expression 290 = .ok (.iload_n 1, 1) := by decide +kernel
theorem dX6_expression_291 : decode cX6_expression 291 = .ok (.if_icmp .le 8, 3) := by decide +kernel
theorem dX6_expression_294 : decode cX6_expression 294 = .ok (.aload_n 0, 1) := by decide +kernel
theorem dX6_expression_295 : decode cX6_expression 295 = .ok (.iconst 1, 1) := by decide +kernel
theorem dX6_expression_296 : decode cX6_expression 296 = .ok (.invokevirtual 203, 3) := by decide +kernel
theorem dX6_expression_299 : decode cX6_expression 299 = .ok (.aload_n 0, 1) := by decide +kernel
theorem dX6_expression_300 : decode cX6_expression 300 = .ok (.iconst 0, 1) := by decide +kernel
theorem dX6_expression_301 : decode cX6_expression 301 = .ok (.invokevirtual 247, 3) := by decide +kernel
theorem dX6_expression_304 : decode cX6_expression 304 = .ok (.return_, 1) := by decide +kernel
theorem dX6_expression_305 : decode cX6_expression 305 = .ok (.aload_n 0, 1) := by decide +kernel
theorem dX6_expression_306 : decode cX6_expression 306 = .ok (.getfield 20, 3) := by decide +kernel
theorem dX6_expression_309 : decode cX6_expression 309 = .ok (.aload_n 0, 1) := by decide +kernel
theorem dX6_expression_310 : decode cX6_expression 310 = .ok (.getfield 191, 3) := by decide +kernel
theorem dX6_expression_313 : decode cX6_expression 313 = .ok (.iaload, 1) := by decide +kernel
theorem dX6_expression_314 : decode cX6_expression 314 = .ok (.istore 4, 2) := by decide +kernel
theorem dX6_expression_316 : decode cX6_expression 316 = .ok (.aload_n 0, 1) := by decide +kernel
theorem dX6_expression_317 : decode cX6_expression 317 = .ok (.iload 4, 2) := by decide +kernel
theorem dX6_expression_319 : decode cX6_expression 319 = .ok (.bipush 10, 2) := by decide +kernel
theorem dX6_expression_321 : decode cX6_expression 321 = .ok (.if_icmp .ne 7, 3) := by decide +kernel
theorem dX6_expression_324 : decode cX6_expression 324 = .ok (.iconst 1, 1) := by decide +kernel
theorem dX6_expression_325 : decode cX6_expression 325 = .ok (.goto 4, 3) := by decide +kernel
theorem dX6_expression_328 : decode cX6_expression 328 = .ok (.iconst 0, 1) := by decide +kernel
theorem dX6_expression_329 : decode cX6_expression 329 = .ok (.invokevirtual 247, 3) := by decide +kernel
theorem dX6_expression_332 : decode cX6_expression 332 = .ok (.aload_n 0, 1) := by decide +kernel
theorem dX6_expression_333 : decode cX6_expression 333 = .ok (.getfield 80, 3) := by decide +kernel
theorem dX6_expression_336 : decode cX6_expression 336 = .ok (.aload_n 0, 1) := by decide +kernel
theorem dX6_expression_337 : decode cX6_expression 337 = .ok (.getfield 240, 3) := by decide +kernel
theorem dX6_expression_340 : decode cX6_expression 340 = .ok (.iload 4, 2) := by decide +kernel
theorem dX6_expression_342 : decode cX6_expression 342 = .ok (.iastore, 1) := by decide +kernel
theorem dX6_expression_343 : decode cX6_expression 343 = .ok (.aload_n 0, 1) := by decide +kernel
theorem dX6_expression_344 : decode cX6_expression 344 = .ok (.dup, 1) := by decide +kernel
theorem dX6_expression_345 : decode cX6_expression 345 = .ok (.getfield 240, 3) := by decide +kernel
theorem dX6_expression_348 : decode cX6_expression 348 = .ok (.iconst 1, 1) := by decide +kernel
theorem dX6_expression_349 : decode cX6_expression 349 = .ok (.iadd, 1) := by decide +kernel
theorem dX6_expression_350 : decode cX6_expression 350 = .ok (.putfield 240, 3) := by decide +kernel
theorem dX6_expression_353 : decode cX6_expression 353 = .ok (.aload_n 0, 1) := by decide +kernel
theorem dX6_expression_354 : decode cX6_expression 354 = .ok (.invokevirtual 209, 3) := by decide +kernel
theorem dX6_expression_357 : decode cX6_expression 357 = .ok (.goto (-345), 3) := by decide +kernel
theorem dX6_expression_360 : decode cX6_expression 360 = .ok (.return_, 1) := by decide +kernel
theorem dX6_isLand_0 : decode cX6_isLand 0 = .ok (.iload_n 1, 1) := by decide +kernel
theorem dX6_isLand_1 : decode cX6_isLand 1 = .ok (.ifCond .lt 15, 3) := by decide +kernel
theorem dX6_isLand_4 : decode cX6_isLand 4 = .ok (.iload_n 1, 1) := by decide +kernel
theorem dX6_isLand_5 : decode cX6_isLand 5 = .ok (.aload_n 0, 1) := by decide +kernel
theorem dX6_isLand_6 : decode cX6_isLand 6 = .ok (.getfield 250, 3) := by decide +kernel
theorem dX6_isLand_9 : decode cX6_isLand 9 = .ok (.if_icmp .ge 7, 3) := by decide +kernel
theorem dX6_isLand_12 : decode cX6_isLand 12 = .ok (.iconst 1, 1) := by decide +kernel
theorem dX6_isLand_13 : decode cX6_isLand 13 = .ok (.goto 4, 3) := by decide +kernel
theorem dX6_isLand_16 : decode cX6_isLand 16 = .ok (.iconst 0, 1) := by decide +kernel
theorem dX6_isLand_17 : decode cX6_isLand 17 = .ok (.ireturn, 1) := by decide +kernel
theorem dX6_isWitness_0 : decode cX6_isWitness 0 = .ok (.iload_n 1, 1) := by decide +kernel
theorem dX6_isWitness_1 : decode cX6_isWitness 1 = .ok (.ifCond .lt 15, 3) := by decide +kernel
theorem dX6_isWitness_4 : decode cX6_isWitness 4 = .ok (.iload_n 1, 1) := by decide +kernel
theorem dX6_isWitness_5 : decode cX6_isWitness 5 = .ok (.aload_n 0, 1) := by decide +kernel
theorem dX6_isWitness_6 : decode cX6_isWitness 6 = .ok (.getfield 253, 3) := by decide +kernel
theorem dX6_isWitness_9 : decode cX6_isWitness 9 = .ok (.if_icmp .ge 7, 3) := by decide +kernel
theorem dX6_isWitness_12 : decode cX6_isWitness 12 = .ok (.iconst 1, 1) := by decide +kernel
theorem dX6_isWitness_13 : decode cX6_isWitness 13 = .ok (.goto 4, 3) := by decide +kernel
theorem dX6_isWitness_16 : decode cX6_isWitness 16 = .ok (.iconst 0, 1) := by decide +kernel
theorem dX6_isWitness_17 : decode cX6_isWitness 17 = .ok (.ireturn, 1) := by decide +kernel
theorem dX6_isEvening_0 : decode cX6_isEvening 0 = .ok (.iload_n 0, 1) := by decide +kernel
theorem dX6_isEvening_1 : decode cX6_isEvening 1 = .ok (.ifCond .lt 14, 3) := by decide +kernel
theorem dX6_isEvening_4 : decode cX6_isEvening 4 = .ok (.iload_n 0, 1) := by decide +kernel
theorem dX6_isEvening_5 : decode cX6_isEvening 5 = .ok (.sipush 400, 3) := by decide +kernel
theorem dX6_isEvening_8 : decode cX6_isEvening 8 = .ok (.if_icmp .ge 7, 3) := by decide +kernel
theorem dX6_isEvening_11 : decode cX6_isEvening 11 = .ok (.iconst 1, 1) := by decide +kernel
theorem dX6_isEvening_12 : decode cX6_isEvening 12 = .ok (.goto 4, 3) := by decide +kernel
theorem dX6_isEvening_15 : decode cX6_isEvening 15 = .ok (.iconst 0, 1) := by decide +kernel
theorem dX6_isEvening_16 : decode cX6_isEvening 16 = .ok (.ireturn, 1) := by decide +kernel
theorem dX6_isKnown_0 : decode cX6_isKnown 0 = .ok (.iload_n 1, 1) := by decide +kernel
theorem dX6_isKnown_1 : decode cX6_isKnown 1 = .ok (.ifCond .lt 15, 3) := by decide +kernel
theorem dX6_isKnown_4 : decode cX6_isKnown 4 = .ok (.iload_n 1, 1) := by decide +kernel
theorem dX6_isKnown_5 : decode cX6_isKnown 5 = .ok (.aload_n 0, 1) := by decide +kernel
theorem dX6_isKnown_6 : decode cX6_isKnown 6 = .ok (.getfield 256, 3) := by decide +kernel
theorem dX6_isKnown_9 : decode cX6_isKnown 9 = .ok (.if_icmp .gt 7, 3) := by decide +kernel
theorem dX6_isKnown_12 : decode cX6_isKnown 12 = .ok (.iconst 1, 1) := by decide +kernel
theorem dX6_isKnown_13 : decode cX6_isKnown 13 = .ok (.goto 4, 3) := by decide +kernel
theorem dX6_isKnown_16 : decode cX6_isKnown 16 = .ok (.iconst 0, 1) := by decide +kernel
theorem dX6_isKnown_17 : decode cX6_isKnown 17 = .ok (.ireturn, 1) := by decide +kernel
theorem dX6_moon_0 : decode cX6_moon 0 = .ok (.aload_n 0, 1) := by decide +kernel
theorem dX6_moon_1 : decode cX6_moon 1 = .ok (.getfield 259, 3) := by decide +kernel
theorem dX6_moon_4 : decode cX6_moon 4 = .ok (.bipush 14, 2) := by decide +kernel
theorem dX6_moon_6 : decode cX6_moon 6 = .ok (.if_icmp .eq 36, 3) := by decide +kernel
theorem dX6_moon_9 : decode cX6_moon 9 = .ok (.iload_n 1, 1) := by decide +kernel
theorem dX6_moon_10 : decode cX6_moon 10 = .ok (.ifCond .lt 32, 3) := by decide +kernel
theorem dX6_moon_13 : decode cX6_moon 13 = .ok (.iload_n 1, 1) := by decide +kernel
theorem dX6_moon_14 : decode cX6_moon 14 = .ok (.sipush 9999, 3) := by decide +kernel
theorem dX6_moon_17 : decode cX6_moon 17 = .ok (.if_icmp .gt 25, 3) := by decide +kernel
theorem dX6_moon_20 : decode cX6_moon 20 = .ok (.aload_n 0, 1) := by decide +kernel
theorem dX6_moon_21 : decode cX6_moon 21 = .ok (.getfield 259, 3) := by decide +kernel
theorem dX6_moon_24 : decode cX6_moon 24 = .ok (.ifCond .le 20, 3) := by decide +kernel
theorem dX6_moon_27 : decode cX6_moon 27 = .ok (.iload_n 1, 1) := by decide +kernel
theorem dX6_moon_28 : decode cX6_moon 28 = .ok (.aload_n 0, 1) := by decide +kernel
theorem dX6_moon_29 : decode cX6_moon 29 = .ok (.getfield 83, 3) := by decide +kernel
theorem dX6_moon_32 : decode cX6_moon 32 = .ok (.aload_n 0, 1) := by decide +kernel
theorem dX6_moon_33 : decode cX6_moon 33 = .ok (.getfield 259, 3) := by decide +kernel
theorem dX6_moon_36 : decode cX6_moon 36 = .ok (.iconst 1, 1) := by decide +kernel
theorem dX6_moon_37 : decode cX6_moon 37 = .ok (.isub, 1) := by decide +kernel
theorem dX6_moon_38 : decode cX6_moon 38 = .ok (.iaload, 1) := by decide +kernel
theorem dX6_moon_39 : decode cX6_moon 39 = .ok (.if_icmp .gt 5, 3) := by decide +kernel
theorem dX6_moon_42 : decode cX6_moon 42 = .ok (.iconst (-1), 1) := by decide +kernel
theorem dX6_moon_43 : decode cX6_moon 43 = .ok (.ireturn, 1) := by decide +kernel
theorem dX6_moon_44 : decode cX6_moon 44 = .ok (.aload_n 0, 1) := by decide +kernel
theorem dX6_moon_45 : decode cX6_moon 45 = .ok (.getfield 83, 3) := by decide +kernel
theorem dX6_moon_48 : decode cX6_moon 48 = .ok (.aload_n 0, 1) := by decide +kernel
theorem dX6_moon_49 : decode cX6_moon 49 = .ok (.getfield 259, 3) := by decide +kernel
theorem dX6_moon_52 : decode cX6_moon 52 = .ok (.iload_n 1, 1) := by decide +kernel
theorem dX6_moon_53 : decode cX6_moon 53 = .ok (.iastore, 1) := by decide +kernel
theorem dX6_moon_54 : decode cX6_moon 54 = .ok (.aload_n 0, 1) := by decide +kernel
theorem dX6_moon_55 : decode cX6_moon 55 = .ok (.dup, 1) := by decide +kernel
theorem dX6_moon_56 : decode cX6_moon 56 = .ok (.getfield 259, 3) := by decide +kernel
theorem dX6_moon_59 : decode cX6_moon 59 = .ok (.iconst 1, 1) := by decide +kernel
theorem dX6_moon_60 : decode cX6_moon 60 = .ok (.iadd, 1) := by decide +kernel
theorem dX6_moon_61 : decode cX6_moon 61 = .ok (.putfield 259, 3) := by decide +kernel
theorem dX6_moon_64 : decode cX6_moon 64 = .ok (.aload_n 0, 1) := by decide +kernel
theorem dX6_moon_65 : decode cX6_moon 65 = .ok (.iconst (-1), 1) := by decide +kernel
theorem dX6_moon_66 : decode cX6_moon 66 = .ok (.putfield 113, 3) := by decide +kernel
theorem dX6_moon_69 : decode cX6_moon 69 = .ok (.aload_n 0, 1) := by decide +kernel
theorem dX6_moon_70 : decode cX6_moon 70 = .ok (.getfield 259, 3) := by decide +kernel
theorem dX6_moon_73 : decode cX6_moon 73 = .ok (.iconst 1, 1) := by decide +kernel
theorem dX6_moon_74 : decode cX6_moon 74 = .ok (.isub, 1) := by decide +kernel
theorem dX6_moon_75 : decode cX6_moon 75 = .ok (.ireturn, 1) := by decide +kernel
set_option maxRecDepth 20000 in
theorem ggX6_land_X6_isEvening : GoodIn wsX6_land wsX6_isEvening := goodIn_r _ [8] (by decide +kernel) (by decide +kernel)
set_option maxRecDepth 20000 in
theorem gX6_land_X6_isEvening : GoodIn wsX6_land (va_wsS RX6 262 yX6_isEvening wsX6_isEvening) := goodIn_app (goodIn_of _ (by decide +kernel)) ggX6_land_X6_isEvening
theorem dX6_land_0 : decode cX6_land 0 = .ok (.aload_n 0, 1) := by decide +kernel
theorem dX6_land_1 : decode cX6_land 1 = .ok (.getfield 250, 3) := by decide +kernel
theorem dX6_land_4 : decode cX6_land 4 = .ok (.bipush 6, 2) := by decide +kernel
theorem dX6_land_6 : decode cX6_land 6 = .ok (.if_icmp .eq 22, 3) := by decide +kernel
theorem dX6_land_9 : decode cX6_land 9 = .ok (.iload_n 1, 1) := by decide +kernel
theorem dX6_land_10 : decode cX6_land 10 = .ok (.bipush (-12), 2) := by decide +kernel
theorem dX6_land_12 : decode cX6_land 12 = .ok (.if_icmp .lt 16, 3) := by decide +kernel
theorem dX6_land_15 : decode cX6_land 15 = .ok (.iload_n 1, 1) := by decide +kernel
theorem dX6_land_16 : decode cX6_land 16 = .ok (.bipush 12, 2) := by decide +kernel
theorem dX6_land_18 : decode cX6_land 18 = .ok (.if_icmp .gt 10, 3) := by decide +kernel
theorem dX6_land_21 : decode cX6_land 21 = .ok (.iload_n 2, 1) := by decide +kernel
theorem dX6_land_22 : decode cX6_land 22 = .ok (.invokestatic 262, 3) := by decide +kernel
theorem dX6_land_25 : decode cX6_land 25 = .ok (.ifCond .ne 5, 3) := by decide +kernel
theorem dX6_land_28 : decode cX6_land 28 = .ok (.iconst (-1), 1) := by decide +kernel
theorem dX6_land_29 : decode cX6_land 29 = .ok (.ireturn, 1) := by decide +kernel
theorem dX6_land_30 : decode cX6_land 30 = .ok (.aload_n 0, 1) := by decide +kernel
theorem dX6_land_31 : decode cX6_land 31 = .ok (.getfield 86, 3) := by decide +kernel
theorem dX6_land_34 : decode cX6_land 34 = .ok (.aload_n 0, 1) := by decide +kernel
theorem dX6_land_35 : decode cX6_land 35 = .ok (.getfield 250, 3) := by decide +kernel
theorem dX6_land_38 : decode cX6_land 38 = .ok (.iload_n 1, 1) := by decide +kernel
theorem dX6_land_39 : decode cX6_land 39 = .ok (.iastore, 1) := by decide +kernel
theorem dX6_land_40 : decode cX6_land 40 = .ok (.aload_n 0, 1) := by decide +kernel
theorem dX6_land_41 : decode cX6_land 41 = .ok (.getfield 89, 3) := by decide +kernel
theorem dX6_land_44 : decode cX6_land 44 = .ok (.aload_n 0, 1) := by decide +kernel
theorem dX6_land_45 : decode cX6_land 45 = .ok (.getfield 250, 3) := by decide +kernel
theorem dX6_land_48 : decode cX6_land 48 = .ok (.iload_n 2, 1) := by decide +kernel
theorem dX6_land_49 : decode cX6_land 49 = .ok (.iastore, 1) := by decide +kernel
theorem dX6_land_50 : decode cX6_land 50 = .ok (.aload_n 0, 1) := by decide +kernel
theorem dX6_land_51 : decode cX6_land 51 = .ok (.dup, 1) := by decide +kernel
theorem dX6_land_52 : decode cX6_land 52 = .ok (.getfield 250, 3) := by decide +kernel
theorem dX6_land_55 : decode cX6_land 55 = .ok (.iconst 1, 1) := by decide +kernel
theorem dX6_land_56 : decode cX6_land 56 = .ok (.iadd, 1) := by decide +kernel
theorem dX6_land_57 : decode cX6_land 57 = .ok (.putfield 250, 3) := by decide +kernel
theorem dX6_land_60 : decode cX6_land 60 = .ok (.aload_n 0, 1) := by decide +kernel
theorem dX6_land_61 : decode cX6_land 61 = .ok (.iconst (-1), 1) := by decide +kernel
theorem dX6_land_62 : decode cX6_land 62 = .ok (.putfield 113, 3) := by decide +kernel
theorem dX6_land_65 : decode cX6_land 65 = .ok (.aload_n 0, 1) := by decide +kernel
theorem dX6_land_66 : decode cX6_land 66 = .ok (.getfield 250, 3) := by decide +kernel
theorem dX6_land_69 : decode cX6_land 69 = .ok (.iconst 1, 1) := by decide +kernel
theorem dX6_land_70 : decode cX6_land 70 = .ok (.isub, 1) := by decide +kernel
theorem dX6_land_71 : decode cX6_land 71 = .ok (.ireturn, 1) := by decide +kernel
set_option maxRecDepth 20000 in
theorem ggX6_table_X6_isLand : GoodIn wsX6_table wsX6_isLand := goodIn_r _ [8, 9, 10, 11, 12, 13, 14, 15, 16, 17, 18, 19, 20, 21, 22, 23, 24, 25, 26, 27, 28, 29, 30, 31, 32, 33, 34, 35, 36, 37, 38, 39, 40, 41, 42, 43, 44, 45, 46, 47, 48, 49, 50, 51, 52, 53, 54, 55, 56, 57, 58, 59, 60, 61, 62, 63, 64, 65, 66, 67, 68, 69] (by decide +kernel) (by decide +kernel)
set_option maxRecDepth 20000 in
theorem gX6_table_X6_isLand : GoodIn wsX6_table (wsV RX6 212 RX6 yX6_isLand wsX6_isLand) := goodIn_app (goodIn_of _ (by decide +kernel)) ggX6_table_X6_isLand
theorem dX6_table_0 : decode cX6_table 0 = .ok (.aload_n 0, 1) := by decide +kernel
theorem dX6_table_1 : decode cX6_table 1 = .ok (.iload_n 1, 1) := by decide +kernel
theorem dX6_table_2 : decode cX6_table 2 = .ok (.invokevirtual 212, 3) := by decide +kernel
theorem dX6_table_5 : decode cX6_table 5 = .ok (.ifCond .eq 19, 3) := by decide +kernel
theorem dX6_table_8 : decode cX6_table 8 = .ok (.iload_n 2, 1) := by decide +kernel
theorem dX6_table_9 : decode cX6_table 9 = .ok (.iconst (-1), 1) := by decide +kernel
theorem dX6_table_10 : decode cX6_table 10 = .ok (.if_icmp .eq 16, 3) := by decide +kernel
theorem dX6_table_13 : decode cX6_table 13 = .ok (.iload_n 2, 1) := by decide +kernel
theorem dX6_table_14 : decode cX6_table 14 = .ok (.iconst 1, 1) := by decide +kernel
theorem dX6_table_15 : decode cX6_table 15 = .ok (.if_icmp .lt 9, 3) := by decide +kernel
theorem dX6_table_18 : decode cX6_table 18 = .ok (.iload_n 2, 1) := by decide +kernel
theorem dX6_table_19 : decode cX6_table 19 = .ok (.bipush 60, 2) := by decide +kernel
theorem dX6_table_21 : decode cX6_table 21 = .ok (.if_icmp .le 5, 3) := by decide +kernel
theorem dX6_table_24 : decode cX6_table 24 = .ok (.iconst 0, 1) := by decide +kernel
theorem dX6_table_25 : decode cX6_table 25 = .ok (.ireturn, 1) := by decide +kernel
theorem dX6_table_26 : decode cX6_table 26 = .ok (.aload_n 0, 1) := by decide +kernel
theorem dX6_table_27 : decode cX6_table 27 = .ok (.getfield 92, 3) := by decide +kernel
theorem dX6_table_30 : decode cX6_table 30 = .ok (.iload_n 1, 1) := by decide +kernel
theorem dX6_table_31 : decode cX6_table 31 = .ok (.iload_n 2, 1) := by decide +kernel
theorem dX6_table_32 : decode cX6_table 32 = .ok (.iastore, 1) := by decide +kernel
theorem dX6_table_33 : decode cX6_table 33 = .ok (.iconst 0, 1) := by decide +kernel
theorem dX6_table_34 : decode cX6_table 34 = .ok (.istore_n 3, 1) := by decide +kernel
theorem dX6_table_35 : decode cX6_table 35 = .ok (.iload_n 3, 1) := by decide +kernel
theorem dX6_table_36 : decode cX6_table 36 = .ok (.bipush 60, 2) := by decide +kernel
theorem dX6_table_38 : decode cX6_table 38 = .ok (.if_icmp .ge 21, 3) := by decide +kernel
theorem dX6_table_41 : decode cX6_table 41 = .ok (.aload_n 0, 1) := by decide +kernel
theorem dX6_table_42 : decode cX6_table 42 = .ok (.getfield 95, 3) := by decide +kernel
theorem dX6_table_45 : decode cX6_table 45 = .ok (.bipush 60, 2) := by decide +kernel
theorem dX6_table_47 : decode cX6_table 47 = .ok (.iload_n 1, 1) := by decide +kernel
theorem dX6_table_48 : decode cX6_table 48 = .ok (.imul, 1) := by decide +kernel
theorem dX6_table_49 : decode cX6_table 49 = .ok (.iload_n 3, 1) := by decide +kernel
theorem dX6_table_50 : decode cX6_table 50 = .ok (.iadd, 1) := by decide +kernel
theorem dX6_table_51 : decode cX6_table 51 = .ok (.iconst 0, 1) := by decide +kernel
theorem dX6_table_52 : decode cX6_table 52 = .ok (.iastore, 1) := by decide +kernel
theorem dX6_table_53 : decode cX6_table 53 = .ok (.iinc 3 1, 3) := by decide +kernel
theorem dX6_table_56 : decode cX6_table 56 = .ok (.goto (-21), 3) := by decide +kernel
theorem dX6_table_59 : decode cX6_table 59 = .ok (.aload_n 0, 1) := by decide +kernel
theorem dX6_table_60 : decode cX6_table 60 = .ok (.iconst (-1), 1) := by decide +kernel
theorem dX6_table_61 : decode cX6_table 61 = .ok (.putfield 113, 3) := by decide +kernel
theorem dX6_table_64 : decode cX6_table 64 = .ok (.iconst 1, 1) := by decide +kernel
theorem dX6_table_65 : decode cX6_table 65 = .ok (.ireturn, 1) := by decide +kernel
set_option maxRecDepth 20000 in
theorem ggX6_cell_X6_isLand : GoodIn wsX6_cell wsX6_isLand := goodIn_r _ [8, 9, 10, 11, 12, 13, 14, 15, 16, 17, 18, 19, 20, 21, 22, 23, 24, 25, 26, 27, 28, 29, 30, 31, 32, 33, 34, 35, 36, 37, 38, 39, 40, 41, 42, 43, 44, 45, 46, 47, 48, 49, 50, 51, 52, 53, 54, 55, 56, 57, 58, 59, 60, 61, 62, 63, 64, 65, 66, 67, 68, 69] (by decide +kernel) (by decide +kernel)
set_option maxRecDepth 20000 in
theorem gX6_cell_X6_isLand : GoodIn wsX6_cell (wsV RX6 212 RX6 yX6_isLand wsX6_isLand) := goodIn_app (goodIn_of _ (by decide +kernel)) ggX6_cell_X6_isLand
theorem dX6_cell_0 : decode cX6_cell 0 = .ok (.aload_n 0, 1) := by decide +kernel
theorem dX6_cell_1 : decode cX6_cell 1 = .ok (.iload_n 1, 1) := by decide +kernel
theorem dX6_cell_2 : decode cX6_cell 2 = .ok (.invokevirtual 212, 3) := by decide +kernel
theorem dX6_cell_5 : decode cX6_cell 5 = .ok (.ifCond .eq 26, 3) := by decide +kernel
theorem dX6_cell_8 : decode cX6_cell 8 = .ok (.iload_n 2, 1) := by decide +kernel
theorem dX6_cell_9 : decode cX6_cell 9 = .ok (.ifCond .lt 22, 3) := by decide +kernel
theorem dX6_cell_12 : decode cX6_cell 12 = .ok (.iload_n 2, 1) := by decide +kernel
theorem dX6_cell_13 : decode cX6_cell 13 = .ok (.aload_n 0, 1) := by decide +kernel
theorem dX6_cell_14 : decode cX6_cell 14 = .ok (.getfield 92, 3) := by decide +kernel
theorem dX6_cell_17 : decode cX6_cell 17 = .ok (.iload_n 1, 1) := by decide +kernel
theorem dX6_cell_18 : decode cX6_cell 18 = .ok (.iaload, 1) := by decide +kernel
theorem dX6_cell_19 : decode cX6_cell 19 = .ok (.if_icmp .ge 12, 3) := by decide +kernel
theorem dX6_cell_22 : decode cX6_cell 22 = .ok (.iload_n 3, 1) := by decide +kernel
theorem dX6_cell_23 : decode cX6_cell 23 = .ok (.ifCond .lt 8, 3) := by decide +kernel
theorem dX6_cell_26 : decode cX6_cell 26 = .ok (.iload_n 3, 1) := by decide +kernel
theorem dX6_cell_27 : decode cX6_cell 27 = .ok (.iconst 2, 1) := by decide +kernel
theorem dX6_cell_28 : decode cX6_cell 28 = .ok (.if_icmp .le 5, 3) := by decide +kernel
theorem dX6_cell_31 : decode cX6_cell 31 = .ok (.iconst 0, 1) := by decide +kernel
theorem dX6_cell_32 : decode cX6_cell 32 = .ok (.ireturn, 1) := by decide +kernel
theorem dX6_cell_33 : decode cX6_cell 33 = .ok (.aload_n 0, 1) := by decide +kernel
theorem dX6_cell_34 : decode cX6_cell 34 = .ok (.getfield 95, 3) := by decide +kernel
theorem dX6_cell_37 : decode cX6_cell 37 = .ok (.bipush 60, 2) := by decide +kernel
theorem dX6_cell_39 : decode cX6_cell 39 = .ok (.iload_n 1, 1) := by decide +kernel
theorem dX6_cell_40 : decode cX6_cell 40 = .ok (.imul, 1) := by decide +kernel
theorem dX6_cell_41 : decode cX6_cell 41 = .ok (.iload_n 2, 1) := by decide +kernel
theorem dX6_cell_42 : decode cX6_cell 42 = .ok (.iadd, 1) := by decide +kernel
theorem dX6_cell_43 : decode cX6_cell 43 = .ok (.iload_n 3, 1) := by decide +kernel
theorem dX6_cell_44 : decode cX6_cell 44 = .ok (.iastore, 1) := by decide +kernel
theorem dX6_cell_45 : decode cX6_cell 45 = .ok (.aload_n 0, 1) := by decide +kernel
theorem dX6_cell_46 : decode cX6_cell 46 = .ok (.iconst (-1), 1) := by decide +kernel
theorem dX6_cell_47 : decode cX6_cell 47 = .ok (.putfield 113, 3) := by decide +kernel
theorem dX6_cell_50 : decode cX6_cell 50 = .ok (.iconst 1, 1) := by decide +kernel
theorem dX6_cell_51 : decode cX6_cell 51 = .ok (.ireturn, 1) := by decide +kernel
set_option maxRecDepth 20000 in
theorem ggX6_travel_X6_isLand : GoodIn wsX6_travel wsX6_isLand := goodIn_r _ [7, 8, 9, 10, 11, 12, 13, 14, 15, 16, 17, 18, 19, 20, 21, 22, 23, 24, 25, 26, 27, 28, 29, 30, 31, 32, 33, 34, 35, 36, 37, 38, 39, 40, 41, 42, 43, 44, 45, 46, 47, 48, 49, 50, 51, 52, 53, 54, 55, 56, 57, 58, 59, 60, 61, 62, 63, 64, 65, 66, 67, 68] (by decide +kernel) (by decide +kernel)
set_option maxRecDepth 20000 in
theorem gX6_travel_X6_isLand : GoodIn wsX6_travel (wsV RX6 212 RX6 yX6_isLand wsX6_isLand) := goodIn_app (goodIn_of _ (by decide +kernel)) ggX6_travel_X6_isLand
theorem dX6_travel_0 : decode cX6_travel 0 = .ok (.aload_n 0, 1) := by decide +kernel
theorem dX6_travel_1 : decode cX6_travel 1 = .ok (.iload_n 1, 1) := by decide +kernel
theorem dX6_travel_2 : decode cX6_travel 2 = .ok (.invokevirtual 212, 3) := by decide +kernel
theorem dX6_travel_5 : decode cX6_travel 5 = .ok (.ifCond .eq 27, 3) := by decide +kernel
theorem dX6_travel_8 : decode cX6_travel 8 = .ok (.aload_n 0, 1) := by decide +kernel
theorem dX6_travel_9 : decode cX6_travel 9 = .ok (.iload_n 2, 1) := by decide +kernel
theorem dX6_travel_10 : decode cX6_travel 10 = .ok (.invokevirtual 212, 3) := by decide +kernel
theorem dX6_travel_13 : decode cX6_travel 13 = .ok (.ifCond .eq 19, 3) := by decide +kernel
theorem dX6_travel_16 : decode cX6_travel 16 = .ok (.iload_n 1, 1) := by decide +kernel
theorem dX6_travel_17 : decode cX6_travel 17 = .ok (.iload_n 2, 1) := by decide +kernel
theorem dX6_travel_18 : decode cX6_travel 18 = .ok (.if_icmp .eq 14, 3) := by decide +kernel
theorem dX6_travel_21 : decode cX6_travel 21 = .ok (.iload_n 3, 1) := by decide +kernel
theorem dX6_travel_22 : decode cX6_travel 22 = .ok (.iconst (-1), 1) := by decide +kernel
theorem dX6_travel_23 : decode cX6_travel 23 = .ok (.if_icmp .lt 9, 3) := by decide +kernel
theorem dX6_travel_26 : decode cX6_travel 26 = .ok (.iload_n 3, 1) := by decide +kernel
theorem dX6_travel_27 : decode cX6_travel 27 = .ok (.bipush 60, 2) := by decide +kernel
theorem dX6_travel_29 : decode cX6_travel 29 = .ok (.if_icmp .le 5, 3) := by decide +kernel
theorem dX6_travel_32 : decode cX6_travel 32 = .ok (.iconst 0, 1) := by decide +kernel
theorem dX6_travel_33 : decode cX6_travel 33 = .ok (.ireturn, 1) := by decide +kernel
theorem dX6_travel_34 : decode cX6_travel 34 = .ok (.aload_n 0, 1) := by decide +kernel
theorem dX6_travel_35 : decode cX6_travel 35 = .ok (.getfield 98, 3) := by decide +kernel
theorem dX6_travel_38 : decode cX6_travel 38 = .ok (.bipush 6, 2) := by decide +kernel
theorem dX6_travel_40 : decode cX6_travel 40 = .ok (.iload_n 1, 1) := by decide +kernel
theorem dX6_travel_41 : decode cX6_travel 41 = .ok (.imul, 1) := by decide +kernel
theorem dX6_travel_42 : decode cX6_travel 42 = .ok (.iload_n 2, 1) := by decide +kernel
theorem dX6_travel_43 : decode cX6_travel 43 = .ok (.iadd, 1) := by decide +kernel
theorem dX6_travel_44 : decode cX6_travel 44 = .ok (.iload_n 3, 1) := by decide +kernel
theorem dX6_travel_45 : decode cX6_travel 45 = .ok (.iastore, 1) := by decide +kernel
theorem dX6_travel_46 : decode cX6_travel 46 = .ok (.aload_n 0, 1) := by decide +kernel
theorem dX6_travel_47 : decode cX6_travel 47 = .ok (.iconst (-1), 1) := by decide +kernel
theorem dX6_travel_48 : decode cX6_travel 48 = .ok (.putfield 113, 3) := by decide +kernel
theorem dX6_travel_51 : decode cX6_travel 51 = .ok (.iconst 1, 1) := by decide +kernel
theorem dX6_travel_52 : decode cX6_travel 52 = .ok (.ireturn, 1) := by decide +kernel
set_option maxRecDepth 20000 in
theorem ggX6_witness_X6_isLand : GoodIn wsX6_witness wsX6_isLand := goodIn_r _ [7, 8, 9, 10, 11, 12, 13, 14, 15, 16, 17, 18, 19, 20, 21, 22, 23, 24, 25, 26, 27, 28, 29, 30, 31, 32, 33, 34, 35, 36, 37, 38, 39, 40, 41, 42, 43, 44, 45, 46, 47, 48, 49, 50, 51, 52, 53, 54, 55, 56, 57, 58, 59, 60, 61, 62, 63, 64, 65, 66, 67, 68] (by decide +kernel) (by decide +kernel)
set_option maxRecDepth 20000 in
theorem gX6_witness_X6_isLand : GoodIn wsX6_witness (wsV RX6 212 RX6 yX6_isLand wsX6_isLand) := goodIn_app (goodIn_of _ (by decide +kernel)) ggX6_witness_X6_isLand
theorem dX6_witness_0 : decode cX6_witness 0 = .ok (.aload_n 0, 1) := by decide +kernel
theorem dX6_witness_1 : decode cX6_witness 1 = .ok (.getfield 253, 3) := by decide +kernel
theorem dX6_witness_4 : decode cX6_witness 4 = .ok (.bipush 12, 2) := by decide +kernel
theorem dX6_witness_6 : decode cX6_witness 6 = .ok (.if_icmp .eq 11, 3) := by decide +kernel
theorem dX6_witness_9 : decode cX6_witness 9 = .ok (.aload_n 0, 1) := by decide +kernel
theorem dX6_witness_10 : decode cX6_witness 10 = .ok (.iload_n 1, 1) := by decide +kernel
theorem dX6_witness_11 : decode cX6_witness 11 = .ok (.invokevirtual 212, 3) := by decide +kernel
theorem dX6_witness_14 : decode cX6_witness 14 = .ok (.ifCond .ne 5, 3) := by decide +kernel
theorem dX6_witness_17 : decode cX6_witness 17 = .ok (.iconst (-1), 1) := by decide +kernel
theorem dX6_witness_18 : decode cX6_witness 18 = .ok (.ireturn, 1) := by decide +kernel
theorem dX6_witness_19 : decode cX6_witness 19 = .ok (.aload_n 0, 1) := by decide +kernel
theorem dX6_witness_20 : decode cX6_witness 20 = .ok (.getfield 101, 3) := by decide +kernel
theorem dX6_witness_23 : decode cX6_witness 23 = .ok (.aload_n 0, 1) := by decide +kernel
theorem dX6_witness_24 : decode cX6_witness 24 = .ok (.getfield 253, 3) := by decide +kernel
theorem dX6_witness_27 : decode cX6_witness 27 = .ok (.iload_n 1, 1) := by decide +kernel
theorem dX6_witness_28 : decode cX6_witness 28 = .ok (.iastore, 1) := by decide +kernel
theorem dX6_witness_29 : decode cX6_witness 29 = .ok (.aload_n 0, 1) := by decide +kernel
theorem dX6_witness_30 : decode cX6_witness 30 = .ok (.dup, 1) := by decide +kernel
theorem dX6_witness_31 : decode cX6_witness 31 = .ok (.getfield 253, 3) := by decide +kernel
theorem dX6_witness_34 : decode cX6_witness 34 = .ok (.iconst 1, 1) := by decide +kernel
theorem dX6_witness_35 : decode cX6_witness 35 = .ok (.iadd, 1) := by decide +kernel
theorem dX6_witness_36 : decode cX6_witness 36 = .ok (.putfield 253, 3) := by decide +kernel
theorem dX6_witness_39 : decode cX6_witness 39 = .ok (.aload_n 0, 1) := by decide +kernel
theorem dX6_witness_40 : decode cX6_witness 40 = .ok (.getfield 253, 3) := by decide +kernel
theorem dX6_witness_43 : decode cX6_witness 43 = .ok (.iconst 1, 1) := by decide +kernel
theorem dX6_witness_44 : decode cX6_witness 44 = .ok (.isub, 1) := by decide +kernel
theorem dX6_witness_45 : decode cX6_witness 45 = .ok (.ireturn, 1) := by decide +kernel
theorem dX6_fact_0 : decode cX6_fact 0 = .ok (.aload_n 0, 1) := by decide +kernel
theorem dX6_fact_1 : decode cX6_fact 1 = .ok (.getfield 104, 3) := by decide +kernel
theorem dX6_fact_4 : decode cX6_fact 4 = .ok (.aload_n 0, 1) := by decide +kernel
theorem dX6_fact_5 : decode cX6_fact 5 = .ok (.getfield 256, 3) := by decide +kernel
theorem dX6_fact_8 : decode cX6_fact 8 = .ok (.iload_n 1, 1) := by decide +kernel
theorem dX6_fact_9 : decode cX6_fact 9 = .ok (.bastore, 1) := by decide +kernel
theorem dX6_fact_10 : decode cX6_fact 10 = .ok (.aload_n 0, 1) := by decide +kernel
theorem dX6_fact_11 : decode cX6_fact 11 = .ok (.getfield 107, 3) := by decide +kernel
theorem dX6_fact_14 : decode cX6_fact 14 = .ok (.aload_n 0, 1) := by decide +kernel
theorem dX6_fact_15 : decode cX6_fact 15 = .ok (.getfield 256, 3) := by decide +kernel
theorem dX6_fact_18 : decode cX6_fact 18 = .ok (.iload_n 2, 1) := by decide +kernel
theorem dX6_fact_19 : decode cX6_fact 19 = .ok (.iastore, 1) := by decide +kernel
theorem dX6_fact_20 : decode cX6_fact 20 = .ok (.aload_n 0, 1) := by decide +kernel
theorem dX6_fact_21 : decode cX6_fact 21 = .ok (.getfield 110, 3) := by decide +kernel
theorem dX6_fact_24 : decode cX6_fact 24 = .ok (.aload_n 0, 1) := by decide +kernel
theorem dX6_fact_25 : decode cX6_fact 25 = .ok (.getfield 256, 3) := by decide +kernel
theorem dX6_fact_28 : decode cX6_fact 28 = .ok (.iload_n 3, 1) := by decide +kernel
theorem dX6_fact_29 : decode cX6_fact 29 = .ok (.iastore, 1) := by decide +kernel
theorem dX6_fact_30 : decode cX6_fact 30 = .ok (.aload_n 0, 1) := by decide +kernel
theorem dX6_fact_31 : decode cX6_fact 31 = .ok (.dup, 1) := by decide +kernel
theorem dX6_fact_32 : decode cX6_fact 32 = .ok (.getfield 256, 3) := by decide +kernel
theorem dX6_fact_35 : decode cX6_fact 35 = .ok (.iconst 1, 1) := by decide +kernel
theorem dX6_fact_36 : decode cX6_fact 36 = .ok (.iadd, 1) := by decide +kernel
theorem dX6_fact_37 : decode cX6_fact 37 = .ok (.putfield 256, 3) := by decide +kernel
theorem dX6_fact_40 : decode cX6_fact 40 = .ok (.aload_n 0, 1) := by decide +kernel
theorem dX6_fact_41 : decode cX6_fact 41 = .ok (.getfield 256, 3) := by decide +kernel
theorem dX6_fact_44 : decode cX6_fact 44 = .ok (.iconst 1, 1) := by decide +kernel
theorem dX6_fact_45 : decode cX6_fact 45 = .ok (.isub, 1) := by decide +kernel
theorem dX6_fact_46 : decode cX6_fact 46 = .ok (.ireturn, 1) := by decide +kernel
set_option maxRecDepth 20000 in
theorem ggX6_report_X6_isWitness : GoodIn wsX6_report wsX6_isWitness := goodIn_r _ [6, 7, 18, 19, 20, 21, 22, 23, 24, 25, 26, 27, 28, 29, 30, 31, 32, 33, 34, 35, 36, 37, 38, 39, 40, 41, 42, 43, 44, 45, 46, 47, 48, 49, 50, 51, 52, 53, 54, 55, 56, 57, 58, 59, 60, 61, 62, 63, 64, 65, 66, 67, 68, 69, 70, 71, 72, 73, 74, 75, 76, 77] (by decide +kernel) (by decide +kernel)
set_option maxRecDepth 20000 in
theorem gX6_report_X6_isWitness : GoodIn wsX6_report (wsV RX6 265 RX6 yX6_isWitness wsX6_isWitness) := goodIn_app (goodIn_of _ (by decide +kernel)) ggX6_report_X6_isWitness
set_option maxRecDepth 20000 in
theorem ggX6_report_X6_isEvening : GoodIn wsX6_report wsX6_isEvening := goodIn_r _ [10] (by decide +kernel) (by decide +kernel)
set_option maxRecDepth 20000 in
theorem gX6_report_X6_isEvening : GoodIn wsX6_report (va_wsS RX6 262 yX6_isEvening wsX6_isEvening) := goodIn_app (goodIn_of _ (by decide +kernel)) ggX6_report_X6_isEvening
set_option maxRecDepth 20000 in
theorem ggX6_report_X6_fact : GoodIn wsX6_report wsX6_fact := goodIn_r _ [14, 15, 1, 16, 17, 18, 19, 20, 21, 22, 23, 24, 25, 26, 27, 28, 29, 30, 31, 32, 33, 34, 35, 36, 37, 38, 39, 40, 41, 42, 43, 44, 45, 46, 47, 48, 49, 50, 51, 52, 53, 54, 55, 56, 57, 58, 59, 60, 61, 62, 63, 64, 65, 66, 67, 68, 69, 70, 71, 72, 73, 74, 75, 76, 77] (by decide +kernel) (by decide +kernel)
set_option maxRecDepth 20000 in
theorem gX6_report_X6_fact : GoodIn wsX6_report (wsV RX6 268 RX6 yX6_fact wsX6_fact) := goodIn_app (goodIn_of _ (by decide +kernel)) ggX6_report_X6_fact
theorem dX6_report_0 : decode cX6_report 0 = .ok (.aload_n 0, 1) := by decide +kernel
theorem dX6_report_1 : decode cX6_report 1 = .ok (.getfield 256, 3) := by decide +kernel
theorem dX6_report_4 : decode cX6_report 4 = .ok (.sipush 300, 3) := by decide +kernel
theorem dX6_report_7 : decode cX6_report 7 = .ok (.if_icmp .eq 18, 3) := by decide +kernel
theorem dX6_report_10 : decode cX6_report 10 = .ok (.aload_n 0, 1) := by decide +kernel
theorem dX6_report_11 : decode cX6_report 11 = .ok (.iload_n 1, 1) := by decide +kernel
theorem dX6_report_12 : decode cX6_report 12 = .ok (.invokevirtual 265, 3) := by decide +kernel
theorem dX6_report_15 : decode cX6_report 15 = .ok (.ifCond .eq 10, 3) := by decide +kernel
theorem dX6_report_18 : decode cX6_report 18 = .ok (.iload_n 2, 1) := by decide +kernel
theorem dX6_report_19 : decode cX6_report 19 = .ok (.invokestatic 262, 3) := by decide +kernel
theorem dX6_report_22 : decode cX6_report 22 = .ok (.ifCond .ne 7, 3) := by decide +kernel
theorem dX6_report_25 : decode cX6_report 25 = .ok (.iconst (-1), 1) := by decide +kernel
theorem dX6_report_26 : decode cX6_report 26 = .ok (.goto 10, 3) := by decide +kernel
theorem dX6_report_29 : decode cX6_report 29 = .ok (.aload_n 0, 1) := by decide +kernel
theorem dX6_report_30 : decode cX6_report 30 = .ok (.iconst 0, 1) := by decide +kernel
theorem dX6_report_31 : decode cX6_report 31 = .ok (.iload_n 1, 1) := by decide +kernel
theorem dX6_report_32 : decode cX6_report 32 = .ok (.iload_n 2, 1) := by decide +kernel
theorem dX6_report_33 : decode cX6_report 33 = .ok (.invokevirtual 268, 3) := by decide +kernel
theorem dX6_report_36 : decode cX6_report 36 = .ok (.ireturn, 1) := by decide +kernel
set_option maxRecDepth 20000 in
theorem ggX6_cloud_X6_isLand : GoodIn wsX6_cloud wsX6_isLand := goodIn_r _ [6, 7, 18, 19, 20, 21, 22, 23, 24, 25, 26, 27, 28, 29, 30, 31, 32, 33, 34, 35, 36, 37, 38, 39, 40, 41, 42, 43, 44, 45, 46, 47, 48, 49, 50, 51, 52, 53, 54, 55, 56, 57, 58, 59, 60, 61, 62, 63, 64, 65, 66, 67, 68, 69, 70, 71, 72, 73, 74, 75, 76, 77] (by decide +kernel) (by decide +kernel)
set_option maxRecDepth 20000 in
theorem gX6_cloud_X6_isLand : GoodIn wsX6_cloud (wsV RX6 212 RX6 yX6_isLand wsX6_isLand) := goodIn_app (goodIn_of _ (by decide +kernel)) ggX6_cloud_X6_isLand
set_option maxRecDepth 20000 in
theorem ggX6_cloud_X6_isEvening : GoodIn wsX6_cloud wsX6_isEvening := goodIn_r _ [10] (by decide +kernel) (by decide +kernel)
set_option maxRecDepth 20000 in
theorem gX6_cloud_X6_isEvening : GoodIn wsX6_cloud (va_wsS RX6 262 yX6_isEvening wsX6_isEvening) := goodIn_app (goodIn_of _ (by decide +kernel)) ggX6_cloud_X6_isEvening
set_option maxRecDepth 20000 in
theorem ggX6_cloud_X6_fact : GoodIn wsX6_cloud wsX6_fact := goodIn_r _ [14, 15, 1, 16, 17, 18, 19, 20, 21, 22, 23, 24, 25, 26, 27, 28, 29, 30, 31, 32, 33, 34, 35, 36, 37, 38, 39, 40, 41, 42, 43, 44, 45, 46, 47, 48, 49, 50, 51, 52, 53, 54, 55, 56, 57, 58, 59, 60, 61, 62, 63, 64, 65, 66, 67, 68, 69, 70, 71, 72, 73, 74, 75, 76, 77] (by decide +kernel) (by decide +kernel)
set_option maxRecDepth 20000 in
theorem gX6_cloud_X6_fact : GoodIn wsX6_cloud (wsV RX6 268 RX6 yX6_fact wsX6_fact) := goodIn_app (goodIn_of _ (by decide +kernel)) ggX6_cloud_X6_fact
theorem dX6_cloud_0 : decode cX6_cloud 0 = .ok (.aload_n 0, 1) := by decide +kernel
theorem dX6_cloud_1 : decode cX6_cloud 1 = .ok (.getfield 256, 3) := by decide +kernel
theorem dX6_cloud_4 : decode cX6_cloud 4 = .ok (.sipush 300, 3) := by decide +kernel
theorem dX6_cloud_7 : decode cX6_cloud 7 = .ok (.if_icmp .eq 18, 3) := by decide +kernel
theorem dX6_cloud_10 : decode cX6_cloud 10 = .ok (.aload_n 0, 1) := by decide +kernel
theorem dX6_cloud_11 : decode cX6_cloud 11 = .ok (.iload_n 1, 1) := by decide +kernel
theorem dX6_cloud_12 : decode cX6_cloud 12 = .ok (.invokevirtual 212, 3) := by decide +kernel
theorem dX6_cloud_15 : decode cX6_cloud 15 = .ok (.ifCond .eq 10, 3) := by decide +kernel
theorem dX6_cloud_18 : decode cX6_cloud 18 = .ok (.iload_n 2, 1) := by decide +kernel
theorem dX6_cloud_19 : decode cX6_cloud 19 = .ok (.invokestatic 262, 3) := by decide +kernel
theorem dX6_cloud_22 : decode cX6_cloud 22 = .ok (.ifCond .ne 7, 3) := by decide +kernel
theorem dX6_cloud_25 : decode cX6_cloud 25 = .ok (.iconst (-1), 1) := by decide +kernel
theorem dX6_cloud_26 : decode cX6_cloud 26 = .ok (.goto 10, 3) := by decide +kernel
theorem dX6_cloud_29 : decode cX6_cloud 29 = .ok (.aload_n 0, 1) := by decide +kernel
theorem dX6_cloud_30 : decode cX6_cloud 30 = .ok (.iconst 1, 1) := by decide +kernel
theorem dX6_cloud_31 : decode cX6_cloud 31 = .ok (.iload_n 1, 1) := by decide +kernel
theorem dX6_cloud_32 : decode cX6_cloud 32 = .ok (.iload_n 2, 1) := by decide +kernel
theorem dX6_cloud_33 : decode cX6_cloud 33 = .ok (.invokevirtual 268, 3) := by decide +kernel
theorem dX6_cloud_36 : decode cX6_cloud 36 = .ok (.ireturn, 1) := by decide +kernel
theorem dX6_ageOf_0 : decode cX6_ageOf 0 = .ok (.bipush 24, 2) := by decide +kernel
theorem dX6_ageOf_2 : decode cX6_ageOf 2 = .ok (.iload_n 2, 1) := by decide +kernel
theorem dX6_ageOf_3 : decode cX6_ageOf 3 = .ok (.imul, 1) := by decide +kernel
theorem dX6_ageOf_4 : decode cX6_ageOf 4 = .ok (.bipush 18, 2) := by decide +kernel
theorem dX6_ageOf_6 : decode cX6_ageOf 6 = .ok (.iadd, 1) := by decide +kernel
theorem dX6_ageOf_7 : decode cX6_ageOf 7 = .ok (.aload_n 0, 1) := by decide +kernel
theorem dX6_ageOf_8 : decode cX6_ageOf 8 = .ok (.getfield 86, 3) := by decide +kernel
theorem dX6_ageOf_11 : decode cX6_ageOf 11 = .ok (.iload_n 1, 1) := by decide +kernel
theorem dX6_ageOf_12 : decode cX6_ageOf 12 = .ok (.iaload, 1) := by decide +kernel
theorem dX6_ageOf_13 : decode cX6_ageOf 13 = .ok (.iadd, 1) := by decide +kernel
theorem dX6_ageOf_14 : decode cX6_ageOf 14 = .ok (.istore_n 3, 1) := by decide +kernel
theorem dX6_ageOf_15 : decode cX6_ageOf 15 = .ok (.iconst (-1), 1) := by decide +kernel
theorem dX6_ageOf_16 : decode cX6_ageOf 16 = .ok (.istore 4, 2) := by decide +kernel
theorem dX6_ageOf_18 : decode cX6_ageOf 18 = .ok (.iconst 0, 1) := by decide +kernel
theorem dX6_ageOf_19 : decode cX6_ageOf 19 = .ok (.istore 5, 2) := by decide +kernel
theorem dX6_ageOf_21 : decode cX6_ageOf 21 = .ok (.iload 5, 2) := by decide +kernel
theorem dX6_ageOf_23 : decode cX6_ageOf 23 = .ok (.aload_n 0, 1) := by decide +kernel
theorem dX6_ageOf_24 : decode cX6_ageOf 24 = .ok (.getfield 259, 3) := by decide +kernel
theorem dX6_ageOf_27 : decode cX6_ageOf 27 = .ok (.if_icmp .ge 31, 3) := by decide +kernel
theorem dX6_ageOf_30 : decode cX6_ageOf 30 = .ok (.aload_n 0, 1) := by decide +kernel
theorem dX6_ageOf_31 : decode cX6_ageOf 31 = .ok (.getfield 83, 3) := by decide +kernel
theorem dX6_ageOf_34 : decode cX6_ageOf 34 = .ok (.iload 5, 2) := by decide +kernel
theorem dX6_ageOf_36 : decode cX6_ageOf 36 = .ok (.iaload, 1) := by decide +kernel
theorem dX6_ageOf_37 : decode cX6_ageOf 37 = .ok (.iload_n 3, 1) := by decide +kernel
theorem dX6_ageOf_38 : decode cX6_ageOf 38 = .ok (.if_icmp .gt 14, 3) := by decide +kernel
theorem dX6_ageOf_41 : decode cX6_ageOf 41 = .ok (.iload_n 3, 1) := by decide +kernel
theorem dX6_ageOf_42 : decode cX6_ageOf 42 = .ok (.aload_n 0, 1) := by decide +kernel
theorem dX6_ageOf_43 : decode cX6_ageOf 43 = .ok (.getfield 83, 3) := by decide +kernel
theorem dX6_ageOf_46 : decode cX6_ageOf 46 = .ok (.iload 5, 2) := by decide +kernel
theorem dX6_ageOf_48 : decode cX6_ageOf 48 = .ok (.iaload, 1) := by decide +kernel
theorem dX6_ageOf_49 : decode cX6_ageOf 49 = .ok (.isub, 1) := by decide +kernel
theorem dX6_ageOf_50 : decode cX6_ageOf 50 = .ok (.istore 4, 2) := by decide +kernel
theorem dX6_ageOf_52 : decode cX6_ageOf 52 = .ok (.iinc 5 1, 3) := by decide +kernel
theorem dX6_ageOf_55 : decode cX6_ageOf 55 = .ok (.goto (-34), 3) := by decide +kernel
theorem dX6_ageOf_58 : decode cX6_ageOf 58 = .ok (.iload 4, 2) := by decide +kernel
theorem dX6_ageOf_60 : decode cX6_ageOf 60 = .ok (.ireturn, 1) := by decide +kernel
set_option maxRecDepth 20000 in
theorem ggX6_age_X6_isLand : GoodIn wsX6_age wsX6_isLand := goodIn_r _ [5, 6, 17, 18, 19, 20, 21, 22, 23, 24, 25, 26, 27, 28, 29, 30, 31, 32, 33, 34, 35, 36, 37, 38, 39, 40, 41, 42, 43, 44, 45, 46, 47, 48, 49, 50, 51, 52, 53, 54, 55, 56, 57, 58, 59, 60, 61, 62, 63, 64, 65, 66, 67, 68, 69, 70, 71, 72, 73, 74, 75, 76] (by decide +kernel) (by decide +kernel)
set_option maxRecDepth 20000 in
theorem gX6_age_X6_isLand : GoodIn wsX6_age (wsV RX6 212 RX6 yX6_isLand wsX6_isLand) := goodIn_app (goodIn_of _ (by decide +kernel)) ggX6_age_X6_isLand
set_option maxRecDepth 20000 in
theorem ggX6_age_X6_isEvening : GoodIn wsX6_age wsX6_isEvening := goodIn_r _ [9] (by decide +kernel) (by decide +kernel)
set_option maxRecDepth 20000 in
theorem gX6_age_X6_isEvening : GoodIn wsX6_age (va_wsS RX6 262 yX6_isEvening wsX6_isEvening) := goodIn_app (goodIn_of _ (by decide +kernel)) ggX6_age_X6_isEvening
set_option maxRecDepth 20000 in
theorem ggX6_age_X6_ageOf : GoodIn wsX6_age wsX6_ageOf := goodIn_r _ [13, 14, 15, 16, 17, 18, 19, 20, 21, 22, 23, 24, 25, 26, 27, 28, 29, 30, 31, 32, 33, 34, 35, 36, 37, 38, 39, 40, 41, 42, 43, 44, 45, 46, 47, 48, 49, 50, 51, 52, 53, 54, 55, 56, 57, 58, 59, 60, 61, 62, 63, 64, 65, 66, 67, 68, 69, 70, 71, 72, 73, 74, 75, 76] (by decide +kernel) (by decide +kernel)
set_option maxRecDepth 20000 in
theorem gX6_age_X6_ageOf : GoodIn wsX6_age (wsV RX6 272 RX6 yX6_ageOf wsX6_ageOf) := goodIn_app (goodIn_of _ (by decide +kernel)) ggX6_age_X6_ageOf
theorem dX6_age_0 : decode cX6_age 0 = .ok (.aload_n 0, 1) := by decide +kernel
theorem dX6_age_1 : decode cX6_age 1 = .ok (.iload_n 1, 1) := by decide +kernel
theorem dX6_age_2 : decode cX6_age 2 = .ok (.invokevirtual 212, 3) := by decide +kernel
theorem dX6_age_5 : decode cX6_age 5 = .ok (.ifCond .eq 19, 3) := by decide +kernel
theorem dX6_age_8 : decode cX6_age 8 = .ok (.iload_n 2, 1) := by decide +kernel
theorem dX6_age_9 : decode cX6_age 9 = .ok (.invokestatic 262, 3) := by decide +kernel
theorem dX6_age_12 : decode cX6_age 12 = .ok (.ifCond .eq 12, 3) := by decide +kernel
theorem dX6_age_15 : decode cX6_age 15 = .ok (.aload_n 0, 1) := by decide +kernel
theorem dX6_age_16 : decode cX6_age 16 = .ok (.iload_n 1, 1) := by decide +kernel
theorem dX6_age_17 : decode cX6_age 17 = .ok (.iload_n 2, 1) := by decide +kernel
theorem dX6_age_18 : decode cX6_age 18 = .ok (.invokevirtual 272, 3) := by decide +kernel
theorem dX6_age_21 : decode cX6_age 21 = .ok (.goto 4, 3) := by decide +kernel
theorem dX6_age_24 : decode cX6_age 24 = .ok (.iconst (-1), 1) := by decide +kernel
theorem dX6_age_25 : decode cX6_age 25 = .ok (.ireturn, 1) := by decide +kernel
set_option maxRecDepth 20000 in
theorem ggX6_lightOf_X6_ageOf : GoodIn wsX6_lightOf wsX6_ageOf := goodIn_r _ [7, 8, 9, 10, 11, 12, 13, 14, 15, 16, 17, 18, 19, 20, 21, 22, 23, 24, 25, 26, 27, 28, 29, 30, 31, 32, 33, 34, 35, 36, 37, 38, 39, 40, 41, 42, 43, 44, 45, 46, 47, 48, 49, 50, 51, 52, 53, 54, 55, 56, 57, 58, 59, 60, 61, 62, 63, 64, 65, 66, 67, 68, 69, 70] (by decide +kernel) (by decide +kernel)
set_option maxRecDepth 20000 in
theorem gX6_lightOf_X6_ageOf : GoodIn wsX6_lightOf (wsV RX6 272 RX6 yX6_ageOf wsX6_ageOf) := goodIn_app (goodIn_of _ (by decide +kernel)) ggX6_lightOf_X6_ageOf
theorem dX6_lightOf_0 : decode cX6_lightOf 0 = .ok (.aload_n 0, 1) := by decide +kernel
theorem dX6_lightOf_1 : decode cX6_lightOf 1 = .ok (.iload_n 1, 1) := by decide +kernel
theorem dX6_lightOf_2 : decode cX6_lightOf 2 = .ok (.iload_n 2, 1) := by decide +kernel
theorem dX6_lightOf_3 : decode cX6_lightOf 3 = .ok (.invokevirtual 272, 3) := by decide +kernel
theorem dX6_lightOf_6 : decode cX6_lightOf 6 = .ok (.istore_n 3, 1) := by decide +kernel
theorem dX6_lightOf_7 : decode cX6_lightOf 7 = .ok (.iload_n 3, 1) := by decide +kernel
theorem dX6_lightOf_8 : decode cX6_lightOf 8 = .ok (.iconst (-1), 1) := by decide +kernel
theorem dX6_lightOf_9 : decode cX6_lightOf 9 = .ok (.if_icmp .ne 5, 3) := by decide +kernel
theorem dX6_lightOf_12 : decode cX6_lightOf 12 = .ok (.iconst 0, 1) := by decide +kernel
theorem dX6_lightOf_13 : decode cX6_lightOf 13 = .ok (.ireturn, 1) := by decide +kernel
theorem dX6_lightOf_14 : decode cX6_lightOf 14 = .ok (.aload_n 0, 1) := by decide +kernel
theorem dX6_lightOf_15 : decode cX6_lightOf 15 = .ok (.getfield 92, 3) := by decide +kernel
theorem dX6_lightOf_18 : decode cX6_lightOf 18 = .ok (.iload_n 1, 1) := by decide +kernel
theorem dX6_lightOf_19 : decode cX6_lightOf 19 = .ok (.iaload, 1) := by decide +kernel
theorem dX6_lightOf_20 : decode cX6_lightOf 20 = .ok (.iconst (-1), 1) := by decide +kernel
theorem dX6_lightOf_21 : decode cX6_lightOf 21 = .ok (.if_icmp .ne 5, 3) := by decide +kernel
theorem dX6_lightOf_24 : decode cX6_lightOf 24 = .ok (.iconst 1, 1) := by decide +kernel
theorem dX6_lightOf_25 : decode cX6_lightOf 25 = .ok (.ireturn, 1) := by decide +kernel
theorem dX6_lightOf_26 : decode cX6_lightOf 26 = .ok (.aload_n 0, 1) := by decide +kernel
theorem dX6_lightOf_27 : decode cX6_lightOf 27 = .ok (.getfield 95, 3) := by decide +kernel
theorem dX6_lightOf_30 : decode cX6_lightOf 30 = .ok (.bipush 60, 2) := by decide +kernel
theorem dX6_lightOf_32 : decode cX6_lightOf 32 = .ok (.iload_n 1, 1) := by decide +kernel
theorem dX6_lightOf_33 : decode cX6_lightOf 33 = .ok (.imul, 1) := by decide +kernel
theorem dX6_lightOf_34 : decode cX6_lightOf 34 = .ok (.iload_n 3, 1) := by decide +kernel
theorem dX6_lightOf_35 : decode cX6_lightOf 35 = .ok (.aload_n 0, 1) := by decide +kernel
theorem dX6_lightOf_36 : decode cX6_lightOf 36 = .ok (.getfield 92, 3) := by decide +kernel
theorem dX6_lightOf_39 : decode cX6_lightOf 39 = .ok (.iload_n 1, 1) := by decide +kernel
theorem dX6_lightOf_40 : decode cX6_lightOf 40 = .ok (.iaload, 1) := by decide +kernel
theorem dX6_lightOf_41 : decode cX6_lightOf 41 = .ok (.if_icmp .ge 7, 3) := by decide +kernel
theorem dX6_lightOf_44 : decode cX6_lightOf 44 = .ok (.iload_n 3, 1) := by decide +kernel
theorem dX6_lightOf_45 : decode cX6_lightOf 45 = .ok (.goto 11, 3) := by decide +kernel
theorem dX6_lightOf_48 : decode cX6_lightOf 48 = .ok (.aload_n 0, 1) := by decide +kernel
theorem dX6_lightOf_49 : decode cX6_lightOf 49 = .ok (.getfield 92, 3) := by decide +kernel
theorem dX6_lightOf_52 : decode cX6_lightOf 52 = .ok (.iload_n 1, 1) := by decide +kernel
theorem dX6_lightOf_53 : decode cX6_lightOf 53 = .ok (.iaload, 1) := by decide +kernel
theorem dX6_lightOf_54 : decode cX6_lightOf 54 = .ok (.iconst 1, 1) := by decide +kernel
theorem dX6_lightOf_55 : decode cX6_lightOf 55 = .ok (.isub, 1) := by decide +kernel
theorem dX6_lightOf_56 : decode cX6_lightOf 56 = .ok (.iadd, 1) := by decide +kernel
theorem dX6_lightOf_57 : decode cX6_lightOf 57 = .ok (.iaload, 1) := by decide +kernel
theorem dX6_lightOf_58 : decode cX6_lightOf 58 = .ok (.ireturn, 1) := by decide +kernel
set_option maxRecDepth 20000 in
theorem ggX6_light_X6_isLand : GoodIn wsX6_light wsX6_isLand := goodIn_r _ [5, 6, 23, 24, 25, 26, 27, 28, 29, 30, 31, 32, 33, 34, 35, 36, 37, 38, 39, 40, 41, 42, 43, 44, 45, 46, 47, 48, 49, 50, 51, 52, 53, 54, 55, 56, 57, 58, 59, 60, 61, 62, 63, 64, 65, 66, 67, 68, 69, 70, 71, 72, 73, 74, 75, 76, 77, 78, 79, 80, 81, 82] (by decide +kernel) (by decide +kernel)
set_option maxRecDepth 20000 in
theorem gX6_light_X6_isLand : GoodIn wsX6_light (wsV RX6 212 RX6 yX6_isLand wsX6_isLand) := goodIn_app (goodIn_of _ (by decide +kernel)) ggX6_light_X6_isLand
set_option maxRecDepth 20000 in
theorem ggX6_light_X6_isEvening : GoodIn wsX6_light wsX6_isEvening := goodIn_r _ [9] (by decide +kernel) (by decide +kernel)
set_option maxRecDepth 20000 in
theorem gX6_light_X6_isEvening : GoodIn wsX6_light (va_wsS RX6 262 yX6_isEvening wsX6_isEvening) := goodIn_app (goodIn_of _ (by decide +kernel)) ggX6_light_X6_isEvening
set_option maxRecDepth 20000 in
theorem ggX6_light_X6_lightOf : GoodIn wsX6_light wsX6_lightOf := goodIn_r _ [13, 14, 15, 16, 17, 18, 4, 19, 20, 21, 22, 23, 24, 25, 26, 27, 28, 29, 30, 31, 32, 33, 34, 35, 36, 37, 38, 39, 40, 41, 42, 43, 44, 45, 46, 47, 48, 49, 50, 51, 52, 53, 54, 55, 56, 57, 58, 59, 60, 61, 62, 63, 64, 65, 66, 67, 68, 69, 70, 71, 72, 73, 74, 75, 76, 77, 78, 79, 80, 81, 82] (by decide +kernel) (by decide +kernel)
set_option maxRecDepth 20000 in
theorem gX6_light_X6_lightOf : GoodIn wsX6_light (wsV RX6 276 RX6 yX6_lightOf wsX6_lightOf) := goodIn_app (goodIn_of _ (by decide +kernel)) ggX6_light_X6_lightOf
theorem dX6_light_0 : decode cX6_light 0 = .ok (.aload_n 0, 1) := by decide +kernel
theorem dX6_light_1 : decode cX6_light 1 = .ok (.iload_n 1, 1) := by decide +kernel
theorem dX6_light_2 : decode cX6_light 2 = .ok (.invokevirtual 212, 3) := by decide +kernel
theorem dX6_light_5 : decode cX6_light 5 = .ok (.ifCond .eq 19, 3) := by decide +kernel
theorem dX6_light_8 : decode cX6_light 8 = .ok (.iload_n 2, 1) := by decide +kernel
theorem dX6_light_9 : decode cX6_light 9 = .ok (.invokestatic 262, 3) := by decide +kernel
theorem dX6_light_12 : decode cX6_light 12 = .ok (.ifCond .eq 12, 3) := by decide +kernel
theorem dX6_light_15 : decode cX6_light 15 = .ok (.aload_n 0, 1) := by decide +kernel
theorem dX6_light_16 : decode cX6_light 16 = .ok (.iload_n 1, 1) := by decide +kernel
theorem dX6_light_17 : decode cX6_light 17 = .ok (.iload_n 2, 1) := by decide +kernel
theorem dX6_light_18 : decode cX6_light 18 = .ok (.invokevirtual 276, 3) := by decide +kernel
theorem dX6_light_21 : decode cX6_light 21 = .ok (.goto 4, 3) := by decide +kernel
theorem dX6_light_24 : decode cX6_light 24 = .ok (.iconst (-1), 1) := by decide +kernel
theorem dX6_light_25 : decode cX6_light 25 = .ok (.ireturn, 1) := by decide +kernel
theorem dX6_hasCloud_0 : decode cX6_hasCloud 0 = .ok (.iconst 0, 1) := by decide +kernel
theorem dX6_hasCloud_1 : decode cX6_hasCloud 1 = .ok (.istore 4, 2) := by decide +kernel
theorem dX6_hasCloud_3 : decode cX6_hasCloud 3 = .ok (.iload 4, 2) := by decide +kernel
theorem dX6_hasCloud_5 : decode cX6_hasCloud 5 = .ok (.iload_n 3, 1) := by decide +kernel
theorem dX6_hasCloud_6 : decode cX6_hasCloud 6 = .ok (.if_icmp .ge 43, 3) := by decide +kernel
theorem dX6_hasCloud_9 : decode cX6_hasCloud 9 = .ok (.aload_n 0, 1) := by decide +kernel
theorem dX6_hasCloud_10 : decode cX6_hasCloud 10 = .ok (.getfield 104, 3) := by decide +kernel
theorem dX6_hasCloud_13 : decode cX6_hasCloud 13 = .ok (.iload 4, 2) := by decide +kernel
theorem dX6_hasCloud_15 : decode cX6_hasCloud 15 = .ok (.baload, 1) := by decide +kernel
theorem dX6_hasCloud_16 : decode cX6_hasCloud 16 = .ok (.ifCond .eq 27, 3) := by decide +kernel
theorem dX6_hasCloud_19 : decode cX6_hasCloud 19 = .ok (.aload_n 0, 1) := by decide +kernel
theorem dX6_hasCloud_20 : decode cX6_hasCloud 20 = .ok (.getfield 107, 3) := by decide +kernel
theorem dX6_hasCloud_23 : decode cX6_hasCloud 23 = .ok (.iload 4, 2) := by decide +kernel
theorem dX6_hasCloud_25 : decode cX6_hasCloud 25 = .ok (.iaload, 1) := by decide +kernel
theorem dX6_hasCloud_26 : decode cX6_hasCloud 26 = .ok (.iload_n 1, 1) := by decide +kernel
theorem dX6_hasCloud_27 : decode cX6_hasCloud 27 = .ok (.if_icmp .ne 16, 3) := by decide +kernel
theorem dX6_hasCloud_30 : decode cX6_hasCloud 30 = .ok (.aload_n 0, 1) := by decide +kernel
theorem dX6_hasCloud_31 : decode cX6_hasCloud 31 = .ok (.getfield 110, 3) := by decide +kernel
theorem dX6_hasCloud_34 : decode cX6_hasCloud 34 = .ok (.iload 4, 2) := by decide +kernel
theorem dX6_hasCloud_36 : decode cX6_hasCloud 36 = .ok (.iaload, 1) := by decide +kernel
theorem dX6_hasCloud_37 : decode cX6_hasCloud 37 = .ok (.iload_n 2, 1) := by decide +kernel
theorem dX6_hasCloud_38 : decode cX6_hasCloud 38 = .ok (.if_icmp .ne 5, 3) := by decide +kernel
theorem dX6_hasCloud_41 : decode cX6_hasCloud 41 = .ok (.iconst 1, 1) := by decide +kernel
theorem dX6_hasCloud_42 : decode cX6_hasCloud 42 = .ok (.ireturn, 1) := by decide +kernel
theorem dX6_hasCloud_43 : decode cX6_hasCloud 43 = .ok (.iinc 4 1, 3) := by decide +kernel
theorem dX6_hasCloud_46 : decode cX6_hasCloud 46 = .ok (.goto (-43), 3) := by decide +kernel
theorem dX6_hasCloud_49 : decode cX6_hasCloud 49 = .ok (.iconst 0, 1) := by decide +kernel
theorem dX6_hasCloud_50 : decode cX6_hasCloud 50 = .ok (.ireturn, 1) := by decide +kernel
set_option maxRecDepth 20000 in
theorem ggX6_verdictOf_X6_lightOf : GoodIn wsX6_verdictOf wsX6_lightOf := goodIn_r _ [8, 9, 10, 11, 12, 13, 7, 14, 15, 16, 17, 23, 24, 25, 26, 27, 28, 29, 30, 31, 32, 33, 34, 35, 36, 37, 38, 39, 40, 41, 42, 43, 44, 45, 46, 47, 48, 49, 50, 51, 52, 53, 54, 55, 56, 57, 58, 59, 60, 61, 62, 63, 64, 65, 66, 67, 68, 69, 70, 71, 72, 73, 74, 75, 76, 77, 78, 79, 80, 81, 82] (by decide +kernel) (by decide +kernel)
set_option maxRecDepth 20000 in
theorem gX6_verdictOf_X6_lightOf : GoodIn wsX6_verdictOf (wsV RX6 276 RX6 yX6_lightOf wsX6_lightOf) := goodIn_app (goodIn_of _ (by decide +kernel)) ggX6_verdictOf_X6_lightOf
set_option maxRecDepth 20000 in
theorem ggX6_verdictOf_X6_hasCloud : GoodIn wsX6_verdictOf wsX6_hasCloud := goodIn_r _ [21, 22, 2, 3, 23, 24, 25, 26, 27, 28, 29, 30, 31, 32, 33, 34, 35, 36, 37, 38, 39, 40, 41, 42, 43, 44, 45, 46, 47, 48, 49, 50, 51, 52, 53, 54, 55, 56, 57, 58, 59, 60, 61, 62, 63, 64, 65, 66, 67, 68, 69, 70, 71, 72, 73, 74, 75, 76, 77, 78, 79, 80, 81, 82] (by decide +kernel) (by decide +kernel)
set_option maxRecDepth 20000 in
theorem gX6_verdictOf_X6_hasCloud : GoodIn wsX6_verdictOf (wsV RX6 279 RX6 yX6_hasCloud wsX6_hasCloud) := goodIn_app (goodIn_of _ (by decide +kernel)) ggX6_verdictOf_X6_hasCloud
theorem dX6_verdictOf_0 : decode cX6_verdictOf 0 = .ok (.aload_n 0, 1) := by decide +kernel
theorem dX6_verdictOf_1 : decode cX6_verdictOf 1 = .ok (.getfield 101, 3) := by decide +kernel
theorem dX6_verdictOf_4 : decode cX6_verdictOf 4 = .ok (.aload_n 0, 1) := by decide +kernel
theorem dX6_verdictOf_5 : decode cX6_verdictOf 5 = .ok (.getfield 107, 3) := by decide +kernel
theorem dX6_verdictOf_8 : decode cX6_verdictOf 8 = .ok (.iload_n 1, 1) := by decide +kernel
theorem dX6_verdictOf_9 : decode cX6_verdictOf 9 = .ok (.iaload, 1) := by decide +kernel
theorem dX6_verdictOf_10 : decode cX6_verdictOf 10 = .ok (.iaload, 1) := by decide +kernel
theorem dX6_verdictOf_11 : decode cX6_verdictOf 11 = .ok (.istore_n 3, 1) := by decide +kernel
theorem dX6_verdictOf_12 : decode cX6_verdictOf 12 = .ok (.aload_n 0, 1) := by decide +kernel
theorem dX6_verdictOf_13 : decode cX6_verdictOf 13 = .ok (.iload_n 3, 1) := by decide +kernel
theorem dX6_verdictOf_14 : decode cX6_verdictOf 14 = .ok (.aload_n 0, 1) := by decide +kernel
theorem dX6_verdictOf_15 : decode cX6_verdictOf 15 = .ok (.getfield 110, 3) := by decide +kernel
theorem dX6_verdictOf_18 : decode cX6_verdictOf 18 = .ok (.iload_n 1, 1) := by decide +kernel
theorem dX6_verdictOf_19 : decode cX6_verdictOf 19 = .ok (.iaload, 1) := by decide +kernel
theorem dX6_verdictOf_20 : decode cX6_verdictOf 20 = .ok (.invokevirtual 276, 3) := by decide +kernel
theorem dX6_verdictOf_23 : decode cX6_verdictOf 23 = .ok (.istore 4, 2) := by decide +kernel
theorem dX6_verdictOf_25 : decode cX6_verdictOf 25 = .ok (.iload 4, 2) := by decide +kernel
theorem dX6_verdictOf_27 : decode cX6_verdictOf 27 = .ok (.ifCond .ne 5, 3) := by decide +kernel
theorem dX6_verdictOf_30 : decode cX6_verdictOf 30 = .ok (.iconst 0, 1) := by decide +kernel
theorem dX6_verdictOf_31 : decode cX6_verdictOf 31 = .ok (.ireturn, 1) := by decide +kernel
theorem dX6_verdictOf_32 : decode cX6_verdictOf 32 = .ok (.iload 4, 2) := by decide +kernel
theorem dX6_verdictOf_34 : decode cX6_verdictOf 34 = .ok (.iconst 2, 1) := by decide +kernel
theorem dX6_verdictOf_35 : decode cX6_verdictOf 35 = .ok (.if_icmp .ne 22, 3) := by decide +kernel
theorem dX6_verdictOf_38 : decode cX6_verdictOf 38 = .ok (.aload_n 0, 1) := by decide +kernel
theorem dX6_verdictOf_39 : decode cX6_verdictOf 39 = .ok (.iload_n 3, 1) := by decide +kernel
theorem dX6_verdictOf_40 : decode cX6_verdictOf 40 = .ok (.aload_n 0, 1) := by decide +kernel
theorem dX6_verdictOf_41 : decode cX6_verdictOf 41 = .ok (.getfield 110, 3) := by decide +kernel
theorem dX6_verdictOf_44 : decode cX6_verdictOf 44 = .ok (.iload_n 1, 1) := by decide +kernel
theorem dX6_verdictOf_45 : decode cX6_verdictOf 45 = .ok (.iaload, 1) := by decide +kernel
theorem dX6_verdictOf_46 : decode cX6_verdictOf 46 = .ok (.iload_n 2, 1) := by decide +kernel
theorem dX6_verdictOf_47 : decode cX6_verdictOf 47 = .ok (.invokevirtual 279, 3) := by decide +kernel
theorem dX6_verdictOf_50 : decode cX6_verdictOf 50 = .ok (.ifCond .ne 7, 3) := by decide +kernel
theorem dX6_verdictOf_53 : decode cX6_verdictOf 53 = .ok (.iconst 2, 1) := by decide +kernel
theorem dX6_verdictOf_54 : decode cX6_verdictOf 54 = .ok (.goto 4, 3) := by decide +kernel
theorem dX6_verdictOf_57 : decode cX6_verdictOf 57 = .ok (.iconst 1, 1) := by decide +kernel
theorem dX6_verdictOf_58 : decode cX6_verdictOf 58 = .ok (.ireturn, 1) := by decide +kernel
set_option maxRecDepth 20000 in
theorem ggX6_verdict_X6_isKnown : GoodIn wsX6_verdict wsX6_isKnown := goodIn_r _ [6, 7, 32, 33, 34, 35, 36, 37, 38, 39, 40, 41, 42, 43, 44, 45, 46, 47, 48, 49, 50, 51, 52, 53, 54, 55, 56, 57, 58, 59, 60, 61, 62, 63, 64, 65, 66, 67, 68, 69, 70, 71, 72, 73, 74, 75, 76, 77, 78, 79, 80, 81, 82, 83, 84, 85, 86, 87, 88, 89, 90, 91] (by decide +kernel) (by decide +kernel)
set_option maxRecDepth 20000 in
theorem gX6_verdict_X6_isKnown : GoodIn wsX6_verdict (wsV RX6 283 RX6 yX6_isKnown wsX6_isKnown) := goodIn_app (goodIn_of _ (by decide +kernel)) ggX6_verdict_X6_isKnown
set_option maxRecDepth 20000 in
theorem ggX6_verdict_X6_verdictOf : GoodIn wsX6_verdict wsX6_verdictOf := goodIn_r _ [11, 12, 13, 14, 15, 16, 17, 5, 18, 19, 20, 21, 22, 23, 24, 25, 26, 27, 28, 29, 30, 31, 1, 32, 33, 34, 35, 36, 37, 38, 39, 40, 41, 42, 43, 44, 45, 46, 47, 48, 49, 50, 51, 52, 53, 54, 55, 56, 57, 58, 59, 60, 61, 62, 63, 64, 65, 66, 67, 68, 69, 70, 71, 72, 73, 74, 75, 76, 77, 78, 79, 80, 81, 82, 83, 84, 85, 86, 87, 88, 89, 90, 91] (by decide +kernel) (by decide +kernel)
set_option maxRecDepth 20000 in
theorem gX6_verdict_X6_verdictOf : GoodIn wsX6_verdict (wsV RX6 286 RX6 yX6_verdictOf wsX6_verdictOf) := goodIn_app (goodIn_of _ (by decide +kernel)) ggX6_verdict_X6_verdictOf
theorem dX6_verdict_0 : decode cX6_verdict 0 = .ok (.aload_n 0, 1) := by decide +kernel
theorem dX6_verdict_1 : decode cX6_verdict 1 = .ok (.iload_n 2, 1) := by decide +kernel
theorem dX6_verdict_2 : decode cX6_verdict 2 = .ok (.invokevirtual 283, 3) := by decide +kernel
theorem dX6_verdict_5 : decode cX6_verdict 5 = .ok (.ifCond .eq 21, 3) := by decide +kernel
theorem dX6_verdict_8 : decode cX6_verdict 8 = .ok (.iload_n 1, 1) := by decide +kernel
theorem dX6_verdict_9 : decode cX6_verdict 9 = .ok (.ifCond .lt 17, 3) := by decide +kernel
theorem dX6_verdict_12 : decode cX6_verdict 12 = .ok (.iload_n 1, 1) := by decide +kernel
theorem dX6_verdict_13 : decode cX6_verdict 13 = .ok (.iload_n 2, 1) := by decide +kernel
theorem dX6_verdict_14 : decode cX6_verdict 14 = .ok (.if_icmp .ge 12, 3) := by decide +kernel
theorem dX6_verdict_17 : decode cX6_verdict 17 = .ok (.aload_n 0, 1) := by decide +kernel
theorem dX6_verdict_18 : decode cX6_verdict 18 = .ok (.getfield 104, 3) := by decide +kernel
theorem dX6_verdict_21 : decode cX6_verdict 21 = .ok (.iload_n 1, 1) := by decide +kernel
theorem dX6_verdict_22 : decode cX6_verdict 22 = .ok (.baload, 1) := by decide +kernel
theorem dX6_verdict_23 : decode cX6_verdict 23 = .ok (.ifCond .eq 7, 3) := by decide +kernel
theorem dX6_verdict_26 : decode cX6_verdict 26 = .ok (.iconst (-1), 1) := by decide +kernel
theorem dX6_verdict_27 : decode cX6_verdict 27 = .ok (.goto 9, 3) := by decide +kernel
theorem dX6_verdict_30 : decode cX6_verdict 30 = .ok (.aload_n 0, 1) := by decide +kernel
theorem dX6_verdict_31 : decode cX6_verdict 31 = .ok (.iload_n 1, 1) := by decide +kernel
theorem dX6_verdict_32 : decode cX6_verdict 32 = .ok (.iload_n 2, 1) := by decide +kernel
theorem dX6_verdict_33 : decode cX6_verdict 33 = .ok (.invokevirtual 286, 3) := by decide +kernel
theorem dX6_verdict_36 : decode cX6_verdict 36 = .ok (.ireturn, 1) := by decide +kernel
set_option maxRecDepth 20000 in
theorem ggX6_worthOf_X6_verdictOf : GoodIn wsX6_worthOf wsX6_verdictOf := goodIn_r _ [8, 9, 2, 3, 10, 11, 12, 7, 13, 14, 15, 16, 17, 18, 19, 20, 21, 22, 23, 24, 25, 26, 1, 27, 28, 29, 30, 31, 32, 33, 34, 35, 36, 37, 38, 39, 40, 41, 42, 43, 44, 45, 46, 47, 48, 49, 50, 51, 52, 53, 54, 55, 56, 57, 58, 59, 60, 61, 62, 63, 64, 65, 66, 67, 68, 69, 70, 71, 72, 73, 74, 75, 76, 77, 78, 79, 80, 81, 82, 83, 84, 85, 86] (by decide +kernel) (by decide +kernel)
set_option maxRecDepth 20000 in
theorem gX6_worthOf_X6_verdictOf : GoodIn wsX6_worthOf (wsV RX6 286 RX6 yX6_verdictOf wsX6_verdictOf) := goodIn_app (goodIn_of _ (by decide +kernel)) ggX6_worthOf_X6_verdictOf
theorem dX6_worthOf_0 : decode cX6_worthOf 0 = .ok (.iconst 2, 1) := by decide +kernel
theorem dX6_worthOf_1 : decode cX6_worthOf 1 = .ok (.istore 4, 2) := by decide +kernel
theorem dX6_worthOf_3 : decode cX6_worthOf 3 = .ok (.iconst 0, 1) := by decide +kernel
theorem dX6_worthOf_4 : decode cX6_worthOf 4 = .ok (.istore 5, 2) := by decide +kernel
theorem dX6_worthOf_6 : decode cX6_worthOf 6 = .ok (.iload 5, 2) := by decide +kernel
theorem dX6_worthOf_8 : decode cX6_worthOf 8 = .ok (.iload_n 3, 1) := by decide +kernel
theorem dX6_worthOf_9 : decode cX6_worthOf 9 = .ok (.if_icmp .ge 79, 3) := by decide +kernel
theorem dX6_worthOf_12 : decode cX6_worthOf 12 = .ok (.aload_n 0, 1) := by decide +kernel
theorem dX6_worthOf_13 : decode cX6_worthOf 13 = .ok (.getfield 104, 3) := by decide +kernel
theorem dX6_worthOf_16 : decode cX6_worthOf 16 = .ok (.iload 5, 2) := by decide +kernel
theorem dX6_worthOf_18 : decode cX6_worthOf 18 = .ok (.baload, 1) := by decide +kernel
theorem dX6_worthOf_19 : decode cX6_worthOf 19 = .ok (.ifCond .ne 63, 3) := by decide +kernel
theorem dX6_worthOf_22 : decode cX6_worthOf 22 = .ok (.aload_n 0, 1) := by decide +kernel
theorem dX6_worthOf_23 : decode cX6_worthOf 23 = .ok (.getfield 107, 3) := by decide +kernel
theorem dX6_worthOf_26 : decode cX6_worthOf 26 = .ok (.iload 5, 2) := by decide +kernel
theorem dX6_worthOf_28 : decode cX6_worthOf 28 = .ok (.iaload, 1) := by decide +kernel
theorem dX6_worthOf_29 : decode cX6_worthOf 29 = .ok (.iload_n 1, 1) := by decide +kernel
theorem dX6_worthOf_30 : decode cX6_worthOf 30 = .ok (.if_icmp .ne 52, 3) := by decide +kernel
theorem dX6_worthOf_33 : decode cX6_worthOf 33 = .ok (.aload_n 0, 1) := by decide +kernel
theorem dX6_worthOf_34 : decode cX6_worthOf 34 = .ok (.getfield 110, 3) := by decide +kernel
theorem dX6_worthOf_37 : decode cX6_worthOf 37 = .ok (.iload 5, 2) := by decide +kernel
theorem dX6_worthOf_39 : decode cX6_worthOf 39 = .ok (.iaload, 1) := by decide +kernel
theorem dX6_worthOf_40 : decode cX6_worthOf 40 = .ok (.iload_n 2, 1) := by decide +kernel
theorem dX6_worthOf_41 : decode cX6_worthOf 41 = .ok (.if_icmp .lt 6, 3) := by decide +kernel
theorem dX6_worthOf_44 : decode cX6_worthOf 44 = .ok (.goto 38, 3) := by decide +kernel
theorem dX6_worthOf_47 : decode cX6_worthOf 47 = .ok (.aload_n 0, 1) := by decide +kernel
theorem dX6_worthOf_48 : decode cX6_worthOf 48 = .ok (.iload 5, 2) := by decide +kernel
theorem dX6_worthOf_50 : decode cX6_worthOf 50 = .ok (.iload_n 3, 1) := by decide +kernel
theorem dX6_worthOf_51 : decode cX6_worthOf 51 = .ok (.invokevirtual 286, 3) := by decide +kernel
theorem dX6_worthOf_54 : decode cX6_worthOf 54 = .ok (.istore 6, 2) := by decide +kernel
theorem dX6_worthOf_56 : decode cX6_worthOf 56 = .ok (.iload 4, 2) := by decide +kernel
theorem dX6_worthOf_58 : decode cX6_worthOf 58 = .ok (.iload 6, 2) := by decide +kernel
theorem dX6_worthOf_60 : decode cX6_worthOf 60 = .ok (.iconst 2, 1) := by decide +kernel
theorem dX6_worthOf_61 : decode cX6_worthOf 61 = .ok (.if_icmp .ne 7, 3) := by decide +kernel
theorem dX6_worthOf_64 : decode cX6_worthOf 64 = .ok (.iconst 1, 1) := by decide +kernel
theorem dX6_worthOf_65 : decode cX6_worthOf 65 = .ok (.goto 14, 3) := by decide +kernel
theorem dX6_worthOf_68 : decode cX6_worthOf 68 = .ok (.iload 6, 2) := by decide +kernel
theorem dX6_worthOf_70 : decode cX6_worthOf 70 = .ok (.ifCond .ne 8, 3) := by decide +kernel
theorem dX6_worthOf_73 : decode cX6_worthOf 73 = .ok (.bipush (-2), 2) := by decide +kernel
theorem dX6_worthOf_75 : decode cX6_worthOf 75 = .ok (.goto 4, 3) := by decide +kernel
theorem dX6_worthOf_78 : decode cX6_worthOf 78 = .ok (.iconst 0, 1) := by decide +kernel
theorem dX6_worthOf_79 : decode cX6_worthOf 79 = .ok (.iadd, 1) := by decide +kernel
theorem dX6_worthOf_80 : decode cX6_worthOf 80 = .ok (.istore 4, 2) := by decide +kernel
theorem dX6_worthOf_82 : decode cX6_worthOf 82 = .ok (.iinc 5 1, 3) := by decide +kernel
theorem dX6_worthOf_85 : decode cX6_worthOf 85 = .ok (.goto (-79), 3) := by decide +kernel
theorem dX6_worthOf_88 : decode cX6_worthOf 88 = .ok (.iload 4, 2) := by decide +kernel
theorem dX6_worthOf_90 : decode cX6_worthOf 90 = .ok (.ifCond .ge 7, 3) := by decide +kernel
theorem dX6_worthOf_93 : decode cX6_worthOf 93 = .ok (.iconst 0, 1) := by decide +kernel
theorem dX6_worthOf_94 : decode cX6_worthOf 94 = .ok (.goto 5, 3) := by decide +kernel
theorem dX6_worthOf_97 : decode cX6_worthOf 97 = .ok (.iload 4, 2) := by decide +kernel
theorem dX6_worthOf_99 : decode cX6_worthOf 99 = .ok (.ireturn, 1) := by decide +kernel
set_option maxRecDepth 20000 in
theorem ggX6_worth_X6_isWitness : GoodIn wsX6_worth wsX6_isWitness := goodIn_r _ [5, 6, 44, 45, 46, 47, 48, 49, 50, 51, 52, 53, 54, 55, 56, 57, 58, 59, 60, 61, 62, 63, 64, 65, 66, 67, 68, 69, 70, 71, 72, 73, 74, 75, 76, 77, 78, 79, 80, 81, 82, 83, 84, 85, 86, 87, 88, 89, 90, 91, 92, 93, 94, 95, 96, 97, 98, 99, 100, 101, 102, 103] (by decide +kernel) (by decide +kernel)
set_option maxRecDepth 20000 in
theorem gX6_worth_X6_isWitness : GoodIn wsX6_worth (wsV RX6 265 RX6 yX6_isWitness wsX6_isWitness) := goodIn_app (goodIn_of _ (by decide +kernel)) ggX6_worth_X6_isWitness
set_option maxRecDepth 20000 in
theorem ggX6_worth_X6_isEvening : GoodIn wsX6_worth wsX6_isEvening := goodIn_r _ [9] (by decide +kernel) (by decide +kernel)
set_option maxRecDepth 20000 in
theorem gX6_worth_X6_isEvening : GoodIn wsX6_worth (va_wsS RX6 262 yX6_isEvening wsX6_isEvening) := goodIn_app (goodIn_of _ (by decide +kernel)) ggX6_worth_X6_isEvening
set_option maxRecDepth 20000 in
theorem ggX6_worth_X6_isKnown : GoodIn wsX6_worth wsX6_isKnown := goodIn_r _ [13, 14, 44, 45, 46, 47, 48, 49, 50, 51, 52, 53, 54, 55, 56, 57, 58, 59, 60, 61, 62, 63, 64, 65, 66, 67, 68, 69, 70, 71, 72, 73, 74, 75, 76, 77, 78, 79, 80, 81, 82, 83, 84, 85, 86, 87, 88, 89, 90, 91, 92, 93, 94, 95, 96, 97, 98, 99, 100, 101, 102, 103] (by decide +kernel) (by decide +kernel)
set_option maxRecDepth 20000 in
theorem gX6_worth_X6_isKnown : GoodIn wsX6_worth (wsV RX6 283 RX6 yX6_isKnown wsX6_isKnown) := goodIn_app (goodIn_of _ (by decide +kernel)) ggX6_worth_X6_isKnown
set_option maxRecDepth 20000 in
theorem ggX6_worth_X6_worthOf : GoodIn wsX6_worth wsX6_worthOf := goodIn_r _ [18, 19, 20, 21, 22, 23, 24, 4, 25, 26, 27, 28, 29, 30, 31, 32, 33, 34, 35, 36, 37, 38, 39, 40, 41, 42, 43, 44, 45, 46, 47, 48, 49, 50, 51, 52, 53, 54, 55, 56, 57, 58, 59, 60, 61, 62, 63, 64, 65, 66, 67, 68, 69, 70, 71, 72, 73, 74, 75, 76, 77, 78, 79, 80, 81, 82, 83, 84, 85, 86, 87, 88, 89, 90, 91, 92, 93, 94, 95, 96, 97, 98, 99, 100, 101, 102, 103] (by decide +kernel) (by decide +kernel)
set_option maxRecDepth 20000 in
theorem gX6_worth_X6_worthOf : GoodIn wsX6_worth (wsV RX6 289 RX6 yX6_worthOf wsX6_worthOf) := goodIn_app (goodIn_of _ (by decide +kernel)) ggX6_worth_X6_worthOf
theorem dX6_worth_0 : decode cX6_worth 0 = .ok (.aload_n 0, 1) := by decide +kernel
theorem dX6_worth_1 : decode cX6_worth 1 = .ok (.iload_n 1, 1) := by decide +kernel
theorem dX6_worth_2 : decode cX6_worth 2 = .ok (.invokevirtual 265, 3) := by decide +kernel
theorem dX6_worth_5 : decode cX6_worth 5 = .ok (.ifCond .eq 28, 3) := by decide +kernel
theorem dX6_worth_8 : decode cX6_worth 8 = .ok (.iload_n 2, 1) := by decide +kernel
theorem dX6_worth_9 : decode cX6_worth 9 = .ok (.invokestatic 262, 3) := by decide +kernel
theorem dX6_worth_12 : decode cX6_worth 12 = .ok (.ifCond .eq 21, 3) := by decide +kernel
theorem dX6_worth_15 : decode cX6_worth 15 = .ok (.aload_n 0, 1) := by decide +kernel
theorem dX6_worth_16 : decode cX6_worth 16 = .ok (.iload_n 3, 1) := by decide +kernel
theorem dX6_worth_17 : decode cX6_worth 17 = .ok (.invokevirtual 283, 3) := by decide +kernel
theorem dX6_worth_20 : decode cX6_worth 20 = .ok (.ifCond .eq 13, 3) := by decide +kernel
theorem dX6_worth_23 : decode cX6_worth 23 = .ok (.aload_n 0, 1) := by decide +kernel
theorem dX6_worth_24 : decode cX6_worth 24 = .ok (.iload_n 1, 1) := by decide +kernel
theorem dX6_worth_25 : decode cX6_worth 25 = .ok (.iload_n 2, 1) := by decide +kernel
theorem dX6_worth_26 : decode cX6_worth 26 = .ok (.iload_n 3, 1) := by decide +kernel
theorem dX6_worth_27 : decode cX6_worth 27 = .ok (.invokevirtual 289, 3) := by decide +kernel
theorem dX6_worth_30 : decode cX6_worth 30 = .ok (.goto 4, 3) := by decide +kernel
theorem dX6_worth_33 : decode cX6_worth 33 = .ok (.iconst (-1), 1) := by decide +kernel
theorem dX6_worth_34 : decode cX6_worth 34 = .ok (.ireturn, 1) := by decide +kernel
set_option maxRecDepth 20000 in
theorem ggX6_isHeard_X6_verdictOf : GoodIn wsX6_isHeard wsX6_verdictOf := goodIn_r _ [10, 4, 5, 2, 11, 12, 13, 9, 14, 15, 16, 17, 18, 19, 20, 21, 22, 23, 24, 25, 26, 27, 1, 28, 29, 30, 31, 32, 33, 34, 35, 36, 37, 38, 39, 40, 41, 42, 43, 44, 45, 46, 47, 48, 49, 50, 51, 52, 53, 54, 55, 56, 57, 58, 59, 60, 61, 62, 63, 64, 65, 66, 67, 68, 69, 70, 71, 72, 73, 74, 75, 76, 77, 78, 79, 80, 81, 82, 83, 84, 85, 86, 87] (by decide +kernel) (by decide +kernel)
set_option maxRecDepth 20000 in
theorem gX6_isHeard_X6_verdictOf : GoodIn wsX6_isHeard (wsV RX6 286 RX6 yX6_verdictOf wsX6_verdictOf) := goodIn_app (goodIn_of _ (by decide +kernel)) ggX6_isHeard_X6_verdictOf
theorem dX6_isHeard_0 : decode cX6_isHeard 0 = .ok (.aload_n 0, 1) := by decide +kernel
theorem dX6_isHeard_1 : decode cX6_isHeard 1 = .ok (.getfield 104, 3) := by decide +kernel
theorem dX6_isHeard_4 : decode cX6_isHeard 4 = .ok (.iload_n 1, 1) := by decide +kernel
theorem dX6_isHeard_5 : decode cX6_isHeard 5 = .ok (.baload, 1) := by decide +kernel
theorem dX6_isHeard_6 : decode cX6_isHeard 6 = .ok (.ifCond .ne 14, 3) := by decide +kernel
theorem dX6_isHeard_9 : decode cX6_isHeard 9 = .ok (.aload_n 0, 1) := by decide +kernel
theorem dX6_isHeard_10 : decode cX6_isHeard 10 = .ok (.getfield 110, 3) := by decide +kernel
theorem dX6_isHeard_13 : decode cX6_isHeard 13 = .ok (.iload_n 1, 1) := by decide +kernel
theorem dX6_isHeard_14 : decode cX6_isHeard 14 = .ok (.iaload, 1) := by decide +kernel
theorem dX6_isHeard_15 : decode cX6_isHeard 15 = .ok (.iload 4, 2) := by decide +kernel
theorem dX6_isHeard_17 : decode cX6_isHeard 17 = .ok (.if_icmp .eq 5, 3) := by decide +kernel
theorem dX6_isHeard_20 : decode cX6_isHeard 20 = .ok (.iconst 0, 1) := by decide +kernel
theorem dX6_isHeard_21 : decode cX6_isHeard 21 = .ok (.ireturn, 1) := by decide +kernel
theorem dX6_isHeard_22 : decode cX6_isHeard 22 = .ok (.aload_n 0, 1) := by decide +kernel
theorem dX6_isHeard_23 : decode cX6_isHeard 23 = .ok (.getfield 98, 3) := by decide +kernel
theorem dX6_isHeard_26 : decode cX6_isHeard 26 = .ok (.bipush 6, 2) := by decide +kernel
theorem dX6_isHeard_28 : decode cX6_isHeard 28 = .ok (.aload_n 0, 1) := by decide +kernel
theorem dX6_isHeard_29 : decode cX6_isHeard 29 = .ok (.getfield 101, 3) := by decide +kernel
theorem dX6_isHeard_32 : decode cX6_isHeard 32 = .ok (.aload_n 0, 1) := by decide +kernel
theorem dX6_isHeard_33 : decode cX6_isHeard 33 = .ok (.getfield 107, 3) := by decide +kernel
theorem dX6_isHeard_36 : decode cX6_isHeard 36 = .ok (.iload_n 1, 1) := by decide +kernel
theorem dX6_isHeard_37 : decode cX6_isHeard 37 = .ok (.iaload, 1) := by decide +kernel
theorem dX6_isHeard_38 : decode cX6_isHeard 38 = .ok (.iaload, 1) := by decide +kernel
theorem dX6_isHeard_39 : decode cX6_isHeard 39 = .ok (.imul, 1) := by decide +kernel
theorem dX6_isHeard_40 : decode cX6_isHeard 40 = .ok (.iload_n 2, 1) := by decide +kernel
theorem dX6_isHeard_41 : decode cX6_isHeard 41 = .ok (.iadd, 1) := by decide +kernel
theorem dX6_isHeard_42 : decode cX6_isHeard 42 = .ok (.iaload, 1) := by decide +kernel
theorem dX6_isHeard_43 : decode cX6_isHeard 43 = .ok (.istore 6, 2) := by decide +kernel
theorem dX6_isHeard_45 : decode cX6_isHeard 45 = .ok (.iload 6, 2) := by decide +kernel
theorem dX6_isHeard_47 : decode cX6_isHeard 47 = .ok (.iconst (-1), 1) := by decide +kernel
theorem dX6_isHeard_48 : decode cX6_isHeard 48 = .ok (.if_icmp .eq 26, 3) := by decide +kernel
theorem dX6_isHeard_51 : decode cX6_isHeard 51 = .ok (.iload 4, 2) := by decide +kernel
theorem dX6_isHeard_53 : decode cX6_isHeard 53 = .ok (.iload 6, 2) := by decide +kernel
theorem dX6_isHeard_55 : decode cX6_isHeard 55 = .ok (.iadd, 1) := by decide +kernel
theorem dX6_isHeard_56 : decode cX6_isHeard 56 = .ok (.iload_n 3, 1) := by decide +kernel
theorem dX6_isHeard_57 : decode cX6_isHeard 57 = .ok (.if_icmp .gt 17, 3) := by decide +kernel
theorem dX6_isHeard_60 : decode cX6_isHeard 60 = .ok (.aload_n 0, 1) := by decide +kernel
theorem dX6_isHeard_61 : decode cX6_isHeard 61 = .ok (.iload_n 1, 1) := by decide +kernel
theorem dX6_isHeard_62 : decode cX6_isHeard 62 = .ok (.iload 5, 2) := by decide +kernel
theorem dX6_isHeard_64 : decode cX6_isHeard 64 = .ok (.invokevirtual 286, 3) := by decide +kernel
theorem dX6_isHeard_67 : decode cX6_isHeard 67 = .ok (.ifCond .eq 7, 3) := by decide +kernel
theorem dX6_isHeard_70 : decode cX6_isHeard 70 = .ok (.iconst 1, 1) := by decide +kernel
theorem dX6_isHeard_71 : decode cX6_isHeard 71 = .ok (.goto 4, 3) := by decide +kernel
theorem dX6_isHeard_74 : decode cX6_isHeard 74 = .ok (.iconst 0, 1) := by decide +kernel
theorem dX6_isHeard_75 : decode cX6_isHeard 75 = .ok (.ireturn, 1) := by decide +kernel
set_option maxRecDepth 20000 in
theorem ggX6_asks_X6_isHeard : GoodIn wsX6_asks wsX6_isHeard := goodIn_r _ [13, 14, 15, 8, 16, 5, 17, 18, 19, 12, 20, 21, 22, 23, 24, 25, 26, 27, 28, 29, 30, 31, 32, 33, 34, 35, 36, 37, 42, 43, 44, 45, 46, 47, 48, 49, 50, 51, 52, 53, 54, 55, 56, 57, 58, 59, 60, 61, 62, 63, 64, 65, 66, 67, 68, 69, 70, 71, 72, 73, 74, 75, 76, 77, 78, 79, 80, 81, 82, 83, 84, 85, 86, 87, 88, 89, 90, 91, 92, 93, 94, 95, 96, 97, 98, 99, 100, 101] (by decide +kernel) (by decide +kernel)
set_option maxRecDepth 20000 in
theorem gX6_asks_X6_isHeard : GoodIn wsX6_asks (wsV RX6 292 RX6 yX6_isHeard wsX6_isHeard) := goodIn_app (goodIn_of _ (by decide +kernel)) ggX6_asks_X6_isHeard
set_option maxRecDepth 20000 in
theorem ggX6_asks_X6_worthOf : GoodIn wsX6_asks wsX6_worthOf := goodIn_r _ [41, 14, 5, 15, 17, 18, 19, 12, 20, 16, 21, 22, 23, 24, 25, 26, 27, 28, 29, 30, 31, 32, 33, 34, 35, 36, 37, 42, 43, 44, 45, 46, 47, 48, 49, 50, 51, 52, 53, 54, 55, 56, 57, 58, 59, 60, 61, 62, 63, 64, 65, 66, 67, 68, 69, 70, 71, 72, 73, 74, 75, 76, 77, 78, 79, 80, 81, 82, 83, 84, 85, 86, 87, 88, 89, 90, 91, 92, 93, 94, 95, 96, 97, 98, 99, 100, 101] (by decide +kernel) (by decide +kernel)
set_option maxRecDepth 20000 in
theorem gX6_asks_X6_worthOf : GoodIn wsX6_asks (wsV RX6 289 RX6 yX6_worthOf wsX6_worthOf) := goodIn_app (goodIn_of _ (by decide +kernel)) ggX6_asks_X6_worthOf
set_option maxRecDepth 20000 in
theorem ggX6_asks_X6_lightOf : GoodIn wsX6_asks wsX6_lightOf := goodIn_r _ [24, 25, 26, 27, 28, 29, 12, 30, 31, 32, 33, 42, 43, 44, 45, 46, 47, 48, 49, 50, 51, 52, 53, 54, 55, 56, 57, 58, 59, 60, 61, 62, 63, 64, 65, 66, 67, 68, 69, 70, 71, 72, 73, 74, 75, 76, 77, 78, 79, 80, 81, 82, 83, 84, 85, 86, 87, 88, 89, 90, 91, 92, 93, 94, 95, 96, 97, 98, 99, 100, 101] (by decide +kernel) (by decide +kernel)
set_option maxRecDepth 20000 in
theorem gX6_asks_X6_lightOf : GoodIn wsX6_asks (wsV RX6 276 RX6 yX6_lightOf wsX6_lightOf) := goodIn_app (goodIn_of _ (by decide +kernel)) ggX6_asks_X6_lightOf
set_option maxRecDepth 20000 in
theorem ggX6_asks_X6_hasCloud : GoodIn wsX6_asks wsX6_hasCloud := goodIn_r _ [37, 14, 5, 15, 42, 43, 44, 45, 46, 47, 48, 49, 50, 51, 52, 53, 54, 55, 56, 57, 58, 59, 60, 61, 62, 63, 64, 65, 66, 67, 68, 69, 70, 71, 72, 73, 74, 75, 76, 77, 78, 79, 80, 81, 82, 83, 84, 85, 86, 87, 88, 89, 90, 91, 92, 93, 94, 95, 96, 97, 98, 99, 100, 101] (by decide +kernel) (by decide +kernel)
set_option maxRecDepth 20000 in
theorem gX6_asks_X6_hasCloud : GoodIn wsX6_asks (wsV RX6 279 RX6 yX6_hasCloud wsX6_hasCloud) := goodIn_app (goodIn_of _ (by decide +kernel)) ggX6_asks_X6_hasCloud
theorem dX6_asks_0 : decode cX6_asks 0 = .ok (.bipush 16, 2) := by decide +kernel
theorem dX6_asks_2 : decode cX6_asks 2 = .ok (.iload_n 1, 1) := by decide +kernel
theorem dX6_asks_3 : decode cX6_asks 3 = .ok (.imul, 1) := by decide +kernel
theorem dX6_asks_4 : decode cX6_asks 4 = .ok (.aload_n 0, 1) := by decide +kernel
theorem dX6_asks_5 : decode cX6_asks 5 = .ok (.getfield 116, 3) := by decide +kernel
theorem dX6_asks_8 : decode cX6_asks 8 = .ok (.iload_n 1, 1) := by decide +kernel
theorem dX6_asks_9 : decode cX6_asks 9 = .ok (.iaload, 1) := by decide +kernel
theorem dX6_asks_10 : decode cX6_asks 10 = .ok (.iadd, 1) := by decide +kernel
theorem dX6_asks_11 : decode cX6_asks 11 = .ok (.iconst 1, 1) := by decide +kernel
theorem dX6_asks_12 : decode cX6_asks 12 = .ok (.isub, 1) := by decide +kernel
theorem dX6_asks_13 : decode cX6_asks 13 = .ok (.istore 6, 2) := by decide +kernel
theorem dX6_asks_15 : decode cX6_asks 15 = .ok (.aload_n 0, 1) := by decide +kernel
theorem dX6_asks_16 : decode cX6_asks 16 = .ok (.getfield 134, 3) := by decide +kernel
theorem dX6_asks_19 : decode cX6_asks 19 = .ok (.iconst 0, 1) := by decide +kernel
theorem dX6_asks_20 : decode cX6_asks 20 = .ok (.iload_n 2, 1) := by decide +kernel
theorem dX6_asks_21 : decode cX6_asks 21 = .ok (.aload_n 0, 1) := by decide +kernel
theorem dX6_asks_22 : decode cX6_asks 22 = .ok (.getfield 119, 3) := by decide +kernel
theorem dX6_asks_25 : decode cX6_asks 25 = .ok (.iload 6, 2) := by decide +kernel
theorem dX6_asks_27 : decode cX6_asks 27 = .ok (.iaload, 1) := by decide +kernel
theorem dX6_asks_28 : decode cX6_asks 28 = .ok (.isub, 1) := by decide +kernel
theorem dX6_asks_29 : decode cX6_asks 29 = .ok (.iastore, 1) := by decide +kernel
theorem dX6_asks_30 : decode cX6_asks 30 = .ok (.iconst 0, 1) := by decide +kernel
theorem dX6_asks_31 : decode cX6_asks 31 = .ok (.istore 7, 2) := by decide +kernel
theorem dX6_asks_33 : decode cX6_asks 33 = .ok (.iload 7, 2) := by decide +kernel
theorem dX6_asks_35 : decode cX6_asks 35 = .ok (.bipush 12, 2) := by decide +kernel
theorem dX6_asks_37 : decode cX6_asks 37 = .ok (.if_icmp .ge 17, 3) := by decide +kernel
theorem dX6_asks_40 : decode cX6_asks 40 = .ok (.aload_n 0, 1) := by decide +kernel
theorem dX6_asks_41 : decode cX6_asks 41 = .ok (.getfield 140, 3) := by decide +kernel
theorem dX6_asks_44 : decode cX6_asks 44 = .ok (.iload 7, 2) := by decide +kernel
theorem dX6_asks_46 : decode cX6_asks 46 = .ok (.iconst 0, 1) := by decide +kernel
theorem dX6_asks_47 : decode cX6_asks 47 = .ok (.bastore, 1) := by decide +kernel
theorem dX6_asks_48 : decode cX6_asks 48 = .ok (.iinc 7 1, 3) := by decide +kernel
theorem dX6_asks_51 : decode cX6_asks 51 = .ok (.goto (-18), 3) := by decide +kernel
theorem dX6_asks_54 : decode cX6_asks 54 = .ok (.iconst 0, 1) := by decide +kernel
theorem dX6_asks_55 : decode cX6_asks 55 = .ok (.istore 7, 2) := by decide +kernel
theorem dX6_asks_57 : decode cX6_asks 57 = .ok (.iload 7, 2) := by decide +kernel
theorem dX6_asks_59 : decode cX6_asks 59 = .ok (.iload 5, 2) := by decide +kernel
theorem dX6_asks_61 : decode cX6_asks 61 = .ok (.if_icmp .ge 36, 3) := by decide +kernel
theorem dX6_asks_64 : decode cX6_asks 64 = .ok (.aload_n 0, 1) := by decide +kernel
theorem dX6_asks_65 : decode cX6_asks 65 = .ok (.iload 7, 2) := by decide +kernel
theorem dX6_asks_67 : decode cX6_asks 67 = .ok (.iload_n 1, 1) := by decide +kernel
theorem dX6_asks_68 : decode cX6_asks 68 = .ok (.iload_n 2, 1) := by decide +kernel
theorem dX6_asks_69 : decode cX6_asks 69 = .ok (.iload_n 3, 1) := by decide +kernel
theorem dX6_asks_70 : decode cX6_asks 70 = .ok (.iload 5, 2) := by decide +kernel
theorem dX6_asks_72 : decode cX6_asks 72 = .ok (.invokevirtual 292, 3) := by decide +kernel
theorem dX6_asks_75 : decode cX6_asks 75 = .ok (.ifCond .eq 16, 3) := by decide +kernel
theorem dX6_asks_78 : decode cX6_asks 78 = .ok (.aload_n 0, 1) := by decide +kernel
theorem dX6_asks_79 : decode cX6_asks 79 = .ok (.getfield 140, 3) := by decide +kernel
theorem dX6_asks_82 : decode cX6_asks 82 = .ok (.aload_n 0, 1) := by decide +kernel
theorem dX6_asks_83 : decode cX6_asks 83 = .ok (.getfield 107, 3) := by decide +kernel
theorem dX6_asks_86 : decode cX6_asks 86 = .ok (.iload 7, 2) := by decide +kernel
theorem dX6_asks_88 : decode cX6_asks 88 = .ok (.iaload, 1) := by decide +kernel
theorem dX6_asks_89 : decode cX6_asks 89 = .ok (.iconst 1, 1) := by decide +kernel
theorem dX6_asks_90 : decode cX6_asks 90 = .ok (.bastore, 1) := by decide +kernel
theorem dX6_asks_91 : decode cX6_asks 91 = .ok (.iinc 7 1, 3) := by decide +kernel
theorem dX6_asks_94 : decode cX6_asks 94 = .ok (.goto (-37), 3) := by decide +kernel
theorem dX6_asks_97 : decode cX6_asks 97 = .ok (.aload_n 0, 1) := by decide +kernel
theorem dX6_asks_98 : decode cX6_asks 98 = .ok (.getfield 134, 3) := by decide +kernel
theorem dX6_asks_101 : decode cX6_asks 101 = .ok (.iconst 1, 1) := by decide +kernel
theorem dX6_asks_102 : decode cX6_asks 102 = .ok (.iconst 0, 1) := by decide +kernel
theorem dX6_asks_103 : decode cX6_asks 103 = .ok (.iastore, 1) := by decide +kernel
theorem dX6_asks_104 : decode cX6_asks 104 = .ok (.aload_n 0, 1) := by decide +kernel
theorem dX6_asks_105 : decode cX6_asks 105 = .ok (.getfield 134, 3) := by decide +kernel
theorem dX6_asks_108 : decode cX6_asks 108 = .ok (.iconst 2, 1) := by decide +kernel
theorem dX6_asks_109 : decode cX6_asks 109 = .ok (.iconst 0, 1) := by decide +kernel
theorem dX6_asks_110 : decode cX6_asks 110 = .ok (.iastore, 1) := by decide +kernel
theorem dX6_asks_111 : decode cX6_asks 111 = .ok (.aload_n 0, 1) := by decide +kernel
theorem dX6_asks_112 : decode cX6_asks 112 = .ok (.getfield 134, 3) := by decide +kernel
theorem dX6_asks_115 : decode cX6_asks 115 = .ok (.iconst 3, 1) := by decide +kernel
theorem dX6_asks_116 : decode cX6_asks 116 = .ok (.iconst 0, 1) := by decide +kernel
theorem dX6_asks_117 : decode cX6_asks 117 = .ok (.iastore, 1) := by decide +kernel
theorem dX6_asks_118 : decode cX6_asks 118 = .ok (.iconst 0, 1) := by decide +kernel
theorem dX6_asks_119 : decode cX6_asks 119 = .ok (.istore 7, 2) := by decide +kernel
theorem dX6_asks_121 : decode cX6_asks 121 = .ok (.iload 7, 2) := by decide +kernel
theorem dX6_asks_123 : decode cX6_asks 123 = .ok (.aload_n 0, 1) := by decide +kernel
theorem dX6_asks_124 : decode cX6_asks 124 = .ok (.getfield 253, 3) := by decide +kernel
theorem dX6_asks_127 : decode cX6_asks 127 = .ok (.if_icmp .ge 73, 3) := by decide +kernel
theorem dX6_asks_130 : decode cX6_asks 130 = .ok (.aload_n 0, 1) := by decide +kernel
theorem dX6_asks_131 : decode cX6_asks 131 = .ok (.getfield 140, 3) := by decide +kernel
theorem dX6_asks_134 : decode cX6_asks 134 = .ok (.iload 7, 2) := by decide +kernel
theorem dX6_asks_136 : decode cX6_asks 136 = .ok (.baload, 1) := by decide +kernel
