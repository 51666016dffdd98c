theorem dX0_init_0 : decode cX0_init 0 = .ok (.aload_n 0, 1) := by decide +kernel
theorem dX0_init_1 : decode cX0_init 1 = .ok (.invokespecial 3, 3) := by decide +kernel
theorem dX0_init_4 : decode cX0_init 4 = .ok (.aload_n 0, 1) := by decide +kernel
theorem dX0_init_5 : decode cX0_init 5 = .ok (.sipush 300, 3) := by decide +kernel
theorem dX0_init_8 : decode cX0_init 8 = .ok (.newarray .int, 2) := by decide +kernel
theorem dX0_init_10 : decode cX0_init 10 = .ok (.putfield 9, 3) := by decide +kernel
theorem dX0_init_13 : decode cX0_init 13 = .ok (.aload_n 0, 1) := by decide +kernel
theorem dX0_init_14 : decode cX0_init 14 = .ok (.bipush 6, 2) := by decide +kernel
theorem dX0_init_16 : decode cX0_init 16 = .ok (.sipush 400, 3) := by decide +kernel
theorem dX0_init_19 : decode cX0_init 19 = .ok (.multianewarray 15 2, 4) := by decide +kernel
theorem dX0_init_23 : decode cX0_init 23 = .ok (.putfield 17, 3) := by decide +kernel
theorem dX0_init_26 : decode cX0_init 26 = .ok (.aload_n 0, 1) := by decide +kernel
theorem dX0_init_27 : decode cX0_init 27 = .ok (.bipush 12, 2) := by decide +kernel
theorem dX0_init_29 : decode cX0_init 29 = .ok (.newarray .int, 2) := by decide +kernel
theorem dX0_init_31 : decode cX0_init 31 = .ok (.putfield 20, 3) := by decide +kernel
theorem dX0_init_34 : decode cX0_init 34 = .ok (.aload_n 0, 1) := by decide +kernel
theorem dX0_init_35 : decode cX0_init 35 = .ok (.sipush 300, 3) := by decide +kernel
theorem dX0_init_38 : decode cX0_init 38 = .ok (.newarray .int, 2) := by decide +kernel
theorem dX0_init_40 : decode cX0_init 40 = .ok (.putfield 23, 3) := by decide +kernel
theorem dX0_init_43 : decode cX0_init 43 = .ok (.aload_n 0, 1) := by decide +kernel
theorem dX0_init_44 : decode cX0_init 44 = .ok (.sipush 300, 3) := by decide +kernel
theorem dX0_init_47 : decode cX0_init 47 = .ok (.newarray .int, 2) := by decide +kernel
theorem dX0_init_49 : decode cX0_init 49 = .ok (.putfield 26, 3) := by decide +kernel
theorem dX0_init_52 : decode cX0_init 52 = .ok (.aload_n 0, 1) := by decide +kernel
theorem dX0_init_53 : decode cX0_init 53 = .ok (.iconst 0, 1) := by decide +kernel
theorem dX0_init_54 : decode cX0_init 54 = .ok (.putfield 29, 3) := by decide +kernel
theorem dX0_init_57 : decode cX0_init 57 = .ok (.aload_n 0, 1) := by decide +kernel
theorem dX0_init_58 : decode cX0_init 58 = .ok (.iconst 0, 1) := by decide +kernel
theorem dX0_init_59 : decode cX0_init 59 = .ok (.putfield 33, 3) := by decide +kernel
theorem dX0_init_62 : decode cX0_init 62 = .ok (.aload_n 0, 1) := by decide +kernel
theorem dX0_init_63 : decode cX0_init 63 = .ok (.iconst (-1), 1) := by decide +kernel
theorem dX0_init_64 : decode cX0_init 64 = .ok (.putfield 36, 3) := by decide +kernel
theorem dX0_init_67 : decode cX0_init 67 = .ok (.aload_n 0, 1) := by decide +kernel
theorem dX0_init_68 : decode cX0_init 68 = .ok (.aload_n 1, 1) := by decide +kernel
theorem dX0_init_69 : decode cX0_init 69 = .ok (.putfield 39, 3) := by decide +kernel
theorem dX0_init_72 : decode cX0_init 72 = .ok (.return_, 1) := by decide +kernel
theorem dX0_isWitness_0 : decode cX0_isWitness 0 = .ok (.iload_n 1, 1) := by decide +kernel
theorem dX0_isWitness_1 : decode cX0_isWitness 1 = .ok (.ifCond .lt 15, 3) := by decide +kernel
theorem dX0_isWitness_4 : decode cX0_isWitness 4 = .ok (.iload_n 1, 1) := by decide +kernel
theorem dX0_isWitness_5 : decode cX0_isWitness 5 = .ok (.aload_n 0, 1) := by decide +kernel
theorem dX0_isWitness_6 : decode cX0_isWitness 6 = .ok (.getfield 29, 3) := by decide +kernel
theorem dX0_isWitness_9 : decode cX0_isWitness 9 = .ok (.if_icmp .ge 7, 3) := by decide +kernel
theorem dX0_isWitness_12 : decode cX0_isWitness 12 = .ok (.iconst 1, 1) := by decide +kernel
theorem dX0_isWitness_13 : decode cX0_isWitness 13 = .ok (.goto 4, 3) := by decide +kernel
theorem dX0_isWitness_16 : decode cX0_isWitness 16 = .ok (.iconst 0, 1) := by decide +kernel
theorem dX0_isWitness_17 : decode cX0_isWitness 17 = .ok (.ireturn, 1) := by decide +kernel
theorem dX0_canBeKnownBy_0 : decode cX0_canBeKnownBy 0 = .ok (.iload_n 1, 1) := by decide +kernel
theorem dX0_canBeKnownBy_1 : decode cX0_canBeKnownBy 1 = .ok (.ifCond .lt 15, 3) := by decide +kernel
theorem dX0_canBeKnownBy_4 : decode cX0_canBeKnownBy 4 = .ok (.iload_n 1, 1) := by decide +kernel
theorem dX0_canBeKnownBy_5 : decode cX0_canBeKnownBy 5 = .ok (.aload_n 0, 1) := by decide +kernel
theorem dX0_canBeKnownBy_6 : decode cX0_canBeKnownBy 6 = .ok (.getfield 33, 3) := by decide +kernel
theorem dX0_canBeKnownBy_9 : decode cX0_canBeKnownBy 9 = .ok (.if_icmp .gt 7, 3) := by decide +kernel
theorem dX0_canBeKnownBy_12 : decode cX0_canBeKnownBy 12 = .ok (.iconst 1, 1) := by decide +kernel
theorem dX0_canBeKnownBy_13 : decode cX0_canBeKnownBy 13 = .ok (.goto 4, 3) := by decide +kernel
theorem dX0_canBeKnownBy_16 : decode cX0_canBeKnownBy 16 = .ok (.iconst 0, 1) := by decide +kernel
theorem dX0_canBeKnownBy_17 : decode cX0_canBeKnownBy 17 = .ok (.ireturn, 1) := by decide +kernel
theorem dX0_addReport_0 : decode cX0_addReport 0 = .ok (.aload_n 0, 1) := by decide +kernel
theorem dX0_addReport_1 : decode cX0_addReport 1 = .ok (.getfield 33, 3) := by decide +kernel
theorem dX0_addReport_4 : decode cX0_addReport 4 = .ok (.istore_n 3, 1) := by decide +kernel
theorem dX0_addReport_5 : decode cX0_addReport 5 = .ok (.aload_n 0, 1) := by decide +kernel
theorem dX0_addReport_6 : decode cX0_addReport 6 = .ok (.getfield 23, 3) := by decide +kernel
theorem dX0_addReport_9 : decode cX0_addReport 9 = .ok (.iload_n 3, 1) := by decide +kernel
theorem dX0_addReport_10 : decode cX0_addReport 10 = .ok (.iload_n 1, 1) := by decide +kernel
theorem dX0_addReport_11 : decode cX0_addReport 11 = .ok (.iastore, 1) := by decide +kernel
theorem dX0_addReport_12 : decode cX0_addReport 12 = .ok (.aload_n 0, 1) := by decide +kernel
theorem dX0_addReport_13 : decode cX0_addReport 13 = .ok (.getfield 9, 3) := by decide +kernel
theorem dX0_addReport_16 : decode cX0_addReport 16 = .ok (.iload_n 3, 1) := by decide +kernel
theorem dX0_addReport_17 : decode cX0_addReport 17 = .ok (.iload_n 2, 1) := by decide +kernel
theorem dX0_addReport_18 : decode cX0_addReport 18 = .ok (.iastore, 1) := by decide +kernel
theorem dX0_addReport_19 : decode cX0_addReport 19 = .ok (.aload_n 0, 1) := by decide +kernel
theorem dX0_addReport_20 : decode cX0_addReport 20 = .ok (.dup, 1) := by decide +kernel
theorem dX0_addReport_21 : decode cX0_addReport 21 = .ok (.getfield 33, 3) := by decide +kernel
theorem dX0_addReport_24 : decode cX0_addReport 24 = .ok (.iconst 1, 1) := by decide +kernel
theorem dX0_addReport_25 : decode cX0_addReport 25 = .ok (.iadd, 1) := by decide +kernel
theorem dX0_addReport_26 : decode cX0_addReport 26 = .ok (.putfield 33, 3) := by decide +kernel
theorem dX0_addReport_29 : decode cX0_addReport 29 = .ok (.iload_n 3, 1) := by decide +kernel
theorem dX0_addReport_30 : decode cX0_addReport 30 = .ok (.ireturn, 1) := by decide +kernel
theorem dX0_addCloud_0 : decode cX0_addCloud 0 = .ok (.aload_n 0, 1) := by decide +kernel
theorem dX0_addCloud_1 : decode cX0_addCloud 1 = .ok (.getfield 33, 3) := by decide +kernel
theorem dX0_addCloud_4 : decode cX0_addCloud 4 = .ok (.istore_n 3, 1) := by decide +kernel
theorem dX0_addCloud_5 : decode cX0_addCloud 5 = .ok (.aload_n 0, 1) := by decide +kernel
theorem dX0_addCloud_6 : decode cX0_addCloud 6 = .ok (.getfield 23, 3) := by decide +kernel
theorem dX0_addCloud_9 : decode cX0_addCloud 9 = .ok (.iload_n 3, 1) := by decide +kernel
theorem dX0_addCloud_10 : decode cX0_addCloud 10 = .ok (.iconst (-1), 1) := by decide +kernel
theorem dX0_addCloud_11 : decode cX0_addCloud 11 = .ok (.iastore, 1) := by decide +kernel
theorem dX0_addCloud_12 : decode cX0_addCloud 12 = .ok (.aload_n 0, 1) := by decide +kernel
theorem dX0_addCloud_13 : decode cX0_addCloud 13 = .ok (.getfield 9, 3) := by decide +kernel
theorem dX0_addCloud_16 : decode cX0_addCloud 16 = .ok (.iload_n 3, 1) := by decide +kernel
theorem dX0_addCloud_17 : decode cX0_addCloud 17 = .ok (.iload_n 2, 1) := by decide +kernel
theorem dX0_addCloud_18 : decode cX0_addCloud 18 = .ok (.iastore, 1) := by decide +kernel
theorem dX0_addCloud_19 : decode cX0_addCloud 19 = .ok (.aload_n 0, 1) := by decide +kernel
theorem dX0_addCloud_20 : decode cX0_addCloud 20 = .ok (.dup, 1) := by decide +kernel
theorem dX0_addCloud_21 : decode cX0_addCloud 21 = .ok (.getfield 33, 3) := by decide +kernel
theorem dX0_addCloud_24 : decode cX0_addCloud 24 = .ok (.iconst 1, 1) := by decide +kernel
theorem dX0_addCloud_25 : decode cX0_addCloud 25 = .ok (.iadd, 1) := by decide +kernel
theorem dX0_addCloud_26 : decode cX0_addCloud 26 = .ok (.putfield 33, 3) := by decide +kernel
theorem dX0_addCloud_29 : decode cX0_addCloud 29 = .ok (.aload_n 0, 1) := by decide +kernel
theorem dX0_addCloud_30 : decode cX0_addCloud 30 = .ok (.getfield 17, 3) := by decide +kernel
theorem dX0_addCloud_33 : decode cX0_addCloud 33 = .ok (.iload_n 1, 1) := by decide +kernel
theorem dX0_addCloud_34 : decode cX0_addCloud 34 = .ok (.aaload, 1) := by decide +kernel
theorem dX0_addCloud_35 : decode cX0_addCloud 35 = .ok (.iload_n 2, 1) := by decide +kernel
theorem dX0_addCloud_36 : decode cX0_addCloud 36 = .ok (.iaload, 1) := by decide +kernel
theorem dX0_addCloud_37 : decode cX0_addCloud 37 = .ok (.ifCond .ne 15, 3) := by decide +kernel
theorem dX0_addCloud_40 : decode cX0_addCloud 40 = .ok (.aload_n 0, 1) := by decide +kernel
theorem dX0_addCloud_41 : decode cX0_addCloud 41 = .ok (.getfield 17, 3) := by decide +kernel
theorem dX0_addCloud_44 : decode cX0_addCloud 44 = .ok (.iload_n 1, 1) := by decide +kernel
theorem dX0_addCloud_45 : decode cX0_addCloud 45 = .ok (.aaload, 1) := by decide +kernel
theorem dX0_addCloud_46 : decode cX0_addCloud 46 = .ok (.iload_n 2, 1) := by decide +kernel
theorem dX0_addCloud_47 : decode cX0_addCloud 47 = .ok (.aload_n 0, 1) := by decide +kernel
theorem dX0_addCloud_48 : decode cX0_addCloud 48 = .ok (.getfield 33, 3) := by decide +kernel
theorem dX0_addCloud_51 : decode cX0_addCloud 51 = .ok (.iastore, 1) := by decide +kernel
theorem dX0_addCloud_52 : decode cX0_addCloud 52 = .ok (.iload_n 3, 1) := by decide +kernel
theorem dX0_addCloud_53 : decode cX0_addCloud 53 = .ok (.ireturn, 1) := by decide +kernel
theorem dX0_isCloudy_0 : decode cX0_isCloudy 0 = .ok (.aload_n 0, 1) := by decide +kernel
theorem dX0_isCloudy_1 : decode cX0_isCloudy 1 = .ok (.getfield 17, 3) := by decide +kernel
theorem dX0_isCloudy_4 : decode cX0_isCloudy 4 = .ok (.iload_n 1, 1) := by decide +kernel
theorem dX0_isCloudy_5 : decode cX0_isCloudy 5 = .ok (.aaload, 1) := by decide +kernel
theorem dX0_isCloudy_6 : decode cX0_isCloudy 6 = .ok (.iload_n 2, 1) := by decide +kernel
theorem dX0_isCloudy_7 : decode cX0_isCloudy 7 = .ok (.iaload, 1) := by decide +kernel
theorem dX0_isCloudy_8 : decode cX0_isCloudy 8 = .ok (.istore 4, 2) := by decide +kernel
theorem dX0_isCloudy_10 : decode cX0_isCloudy 10 = .ok (.iload 4, 2) := by decide +kernel
theorem dX0_isCloudy_12 : decode cX0_isCloudy 12 = .ok (.ifCond .eq 13, 3) := by decide +kernel
theorem dX0_isCloudy_15 : decode cX0_isCloudy 15 = .ok (.iload 4, 2) := by decide +kernel
theorem dX0_isCloudy_17 : decode cX0_isCloudy 17 = .ok (.iload_n 3, 1) := by decide +kernel
theorem dX0_isCloudy_18 : decode cX0_isCloudy 18 = .ok (.if_icmp .gt 7, 3) := by decide +kernel
theorem dX0_isCloudy_21 : decode cX0_isCloudy 21 = .ok (.iconst 1, 1) := by decide +kernel
theorem dX0_isCloudy_22 : decode cX0_isCloudy 22 = .ok (.goto 4, 3) := by decide +kernel
theorem dX0_isCloudy_25 : decode cX0_isCloudy 25 = .ok (.iconst 0, 1) := by decide +kernel
theorem dX0_isCloudy_26 : decode cX0_isCloudy 26 = .ok (.ireturn, 1) := by decide +kernel
set_option maxRecDepth 20000 in
theorem ggX0_judge_X0_verdictOn : GoodIn wsX0_judge wsX0_verdictOn := goodIn_r _ [8, 9, 3, 10, 11, 12, 13, 14, 15, 16, 17, 18, 19, 20, 21, 22, 23, 24, 25, 26, 27, 28, 29, 30, 31, 32, 7, 33, 34, 35, 36, 37, 38, 39, 40, 41, 42, 43, 44, 45, 46, 47, 48, 49, 50, 51] (by decide +kernel) (by decide +kernel)
set_option maxRecDepth 20000 in
theorem gX0_judge_X0_verdictOn : GoodIn wsX0_judge (wsV RX0 43 RX0 yX0_verdictOn wsX0_verdictOn) := goodIn_app (goodIn_of _ (by decide +kernel)) ggX0_judge_X0_verdictOn
theorem dX0_judge_0 : decode cX0_judge 0 = .ok (.aload_n 0, 1) := by decide +kernel
theorem dX0_judge_1 : decode cX0_judge 1 = .ok (.getfield 36, 3) := by decide +kernel
theorem dX0_judge_4 : decode cX0_judge 4 = .ok (.iload_n 1, 1) := by decide +kernel
theorem dX0_judge_5 : decode cX0_judge 5 = .ok (.if_icmp .ne 4, 3) := by decide +kernel
theorem dX0_judge_8 : decode cX0_judge 8 = .ok (.return_, 1) := by decide +kernel
theorem dX0_judge_9 : decode cX0_judge 9 = .ok (.iconst 0, 1) := by decide +kernel
theorem dX0_judge_10 : decode cX0_judge 10 = .ok (.istore_n 2, 1) := by decide +kernel
theorem dX0_judge_11 : decode cX0_judge 11 = .ok (.iload_n 2, 1) := by decide +kernel
theorem dX0_judge_12 : decode cX0_judge 12 = .ok (.iload_n 1, 1) := by decide +kernel
theorem dX0_judge_13 : decode cX0_judge 13 = .ok (.if_icmp .ge 35, 3) := by decide +kernel
theorem dX0_judge_16 : decode cX0_judge 16 = .ok (.aload_n 0, 1) := by decide +kernel
theorem dX0_judge_17 : decode cX0_judge 17 = .ok (.getfield 26, 3) := by decide +kernel
theorem dX0_judge_20 : decode cX0_judge 20 = .ok (.iload_n 2, 1) := by decide +kernel
theorem dX0_judge_21 : decode cX0_judge 21 = .ok (.aload_n 0, 1) := by decide +kernel
theorem dX0_judge_22 : decode cX0_judge 22 = .ok (.getfield 23, 3) := by decide +kernel
theorem dX0_judge_25 : decode cX0_judge 25 = .ok (.iload_n 2, 1) := by decide +kernel
theorem dX0_judge_26 : decode cX0_judge 26 = .ok (.iaload, 1) := by decide +kernel
theorem dX0_judge_27 : decode cX0_judge 27 = .ok (.iconst (-1), 1) := by decide +kernel
theorem dX0_judge_28 : decode cX0_judge 28 = .ok (.if_icmp .ne 7, 3) := by decide +kernel
theorem dX0_judge_31 : decode cX0_judge 31 = .ok (.iconst (-1), 1) := by decide +kernel
theorem dX0_judge_32 : decode cX0_judge 32 = .ok (.goto 9, 3) := by decide +kernel
theorem dX0_judge_35 : decode cX0_judge 35 = .ok (.aload_n 0, 1) := by decide +kernel
theorem dX0_judge_36 : decode cX0_judge 36 = .ok (.iload_n 2, 1) := by decide +kernel
theorem dX0_judge_37 : decode cX0_judge 37 = .ok (.iload_n 1, 1) := by decide +kernel
theorem dX0_judge_38 : decode cX0_judge 38 = .ok (.invokevirtual 43, 3) := by decide +kernel
theorem dX0_judge_41 : decode cX0_judge 41 = .ok (.iastore, 1) := by decide +kernel
theorem dX0_judge_42 : decode cX0_judge 42 = .ok (.iinc 2 1, 3) := by decide +kernel
theorem dX0_judge_45 : decode cX0_judge 45 = .ok (.goto (-34), 3) := by decide +kernel
theorem dX0_judge_48 : decode cX0_judge 48 = .ok (.aload_n 0, 1) := by decide +kernel
theorem dX0_judge_49 : decode cX0_judge 49 = .ok (.iload_n 1, 1) := by decide +kernel
theorem dX0_judge_50 : decode cX0_judge 50 = .ok (.putfield 36, 3) := by decide +kernel
theorem dX0_judge_53 : decode cX0_judge 53 = .ok (.return_, 1) := by decide +kernel
set_option maxRecDepth 20000 in
theorem ggX0_verdictOn_X4_lightOn : GoodIn wsX0_verdictOn wsX4_lightOn := goodIn_r _ [9, 10, 11, 12, 13, 14, 15, 16, 17, 18, 8, 19, 20, 21, 22, 38, 39, 40, 41, 42, 43, 44, 45] (by decide +kernel) (by decide +kernel)
set_option maxRecDepth 20000 in
theorem gX0_verdictOn_X4_lightOn : GoodIn wsX0_verdictOn (wsV RX0 47 RX4 yX4_lightOn wsX4_lightOn) := goodIn_app (goodIn_of _ (by decide +kernel)) ggX0_verdictOn_X4_lightOn
set_option maxRecDepth 20000 in
theorem ggX0_verdictOn_X0_isCloudy : GoodIn wsX0_verdictOn wsX0_isCloudy := goodIn_r _ [27, 28, 29, 30, 31, 32, 33, 34, 35, 36, 37] (by decide +kernel) (by decide +kernel)
set_option maxRecDepth 20000 in
theorem gX0_verdictOn_X0_isCloudy : GoodIn wsX0_verdictOn (wsV RX0 52 RX0 yX0_isCloudy wsX0_isCloudy) := goodIn_app (goodIn_of _ (by decide +kernel)) ggX0_verdictOn_X0_isCloudy
theorem dX0_verdictOn_0 : decode cX0_verdictOn 0 = .ok (.aload_n 0, 1) := by decide +kernel
theorem dX0_verdictOn_1 : decode cX0_verdictOn 1 = .ok (.getfield 20, 3) := by decide +kernel
theorem dX0_verdictOn_4 : decode cX0_verdictOn 4 = .ok (.aload_n 0, 1) := by decide +kernel
theorem dX0_verdictOn_5 : decode cX0_verdictOn 5 = .ok (.getfield 23, 3) := by decide +kernel
theorem dX0_verdictOn_8 : decode cX0_verdictOn 8 = .ok (.iload_n 1, 1) := by decide +kernel
theorem dX0_verdictOn_9 : decode cX0_verdictOn 9 = .ok (.iaload, 1) := by decide +kernel
theorem dX0_verdictOn_10 : decode cX0_verdictOn 10 = .ok (.iaload, 1) := by decide +kernel
theorem dX0_verdictOn_11 : decode cX0_verdictOn 11 = .ok (.istore_n 3, 1) := by decide +kernel
theorem dX0_verdictOn_12 : decode cX0_verdictOn 12 = .ok (.aload_n 0, 1) := by decide +kernel
theorem dX0_verdictOn_13 : decode cX0_verdictOn 13 = .ok (.getfield 9, 3) := by decide +kernel
theorem dX0_verdictOn_16 : decode cX0_verdictOn 16 = .ok (.iload_n 1, 1) := by decide +kernel
theorem dX0_verdictOn_17 : decode cX0_verdictOn 17 = .ok (.iaload, 1) := by decide +kernel
theorem dX0_verdictOn_18 : decode cX0_verdictOn 18 = .ok (.istore 4, 2) := by decide +kernel
theorem dX0_verdictOn_20 : decode cX0_verdictOn 20 = .ok (.aload_n 0, 1) := by decide +kernel
theorem dX0_verdictOn_21 : decode cX0_verdictOn 21 = .ok (.getfield 39, 3) := by decide +kernel
theorem dX0_verdictOn_24 : decode cX0_verdictOn 24 = .ok (.iload_n 3, 1) := by decide +kernel
theorem dX0_verdictOn_25 : decode cX0_verdictOn 25 = .ok (.iload 4, 2) := by decide +kernel
theorem dX0_verdictOn_27 : decode cX0_verdictOn 27 = .ok (.invokevirtual 47, 3) := by decide +kernel
theorem dX0_verdictOn_30 : decode cX0_verdictOn 30 = .ok (.istore 5, 2) := by decide +kernel
theorem dX0_verdictOn_32 : decode cX0_verdictOn 32 = .ok (.iload 5, 2) := by decide +kernel
theorem dX0_verdictOn_34 : decode cX0_verdictOn 34 = .ok (.ifCond .ne 5, 3) := by decide +kernel
theorem dX0_verdictOn_37 : decode cX0_verdictOn 37 = .ok (.iconst 0, 1) := by decide +kernel
theorem dX0_verdictOn_38 : decode cX0_verdictOn 38 = .ok (.ireturn, 1) := by decide +kernel
theorem dX0_verdictOn_39 : decode cX0_verdictOn 39 = .ok (.iload 5, 2) := by decide +kernel
theorem dX0_verdictOn_41 : decode cX0_verdictOn 41 = .ok (.iconst 2, 1) := by decide +kernel
theorem dX0_verdictOn_42 : decode cX0_verdictOn 42 = .ok (.if_icmp .ne 18, 3) := by decide +kernel
theorem dX0_verdictOn_45 : decode cX0_verdictOn 45 = .ok (.aload_n 0, 1) := by decide +kernel
theorem dX0_verdictOn_46 : decode cX0_verdictOn 46 = .ok (.iload_n 3, 1) := by decide +kernel
theorem dX0_verdictOn_47 : decode cX0_verdictOn 47 = .ok (.iload 4, 2) := by decide +kernel
theorem dX0_verdictOn_49 : decode cX0_verdictOn 49 = .ok (.iload_n 2, 1) := by decide +kernel
theorem dX0_verdictOn_50 : decode cX0_verdictOn 50 = .ok (.invokevirtual 52, 3) := by decide +kernel
theorem dX0_verdictOn_53 : decode cX0_verdictOn 53 = .ok (.ifCond .ne 7, 3) := by decide +kernel
theorem dX0_verdictOn_56 : decode cX0_verdictOn 56 = .ok (.iconst 1, 1) := by decide +kernel
theorem dX0_verdictOn_57 : decode cX0_verdictOn 57 = .ok (.goto 4, 3) := by decide +kernel
theorem dX0_verdictOn_60 : decode cX0_verdictOn 60 = .ok (.iconst 0, 1) := by decide +kernel
theorem dX0_verdictOn_61 : decode cX0_verdictOn 61 = .ok (.istore 6, 2) := by decide +kernel
theorem dX0_verdictOn_63 : decode cX0_verdictOn 63 = .ok (.iload 6, 2) := by decide +kernel
theorem dX0_verdictOn_65 : decode cX0_verdictOn 65 = .ok (.ifCond .eq 7, 3) := by decide +kernel
theorem dX0_verdictOn_68 : decode cX0_verdictOn 68 = .ok (.iconst 2, 1) := by decide +kernel
theorem dX0_verdictOn_69 : decode cX0_verdictOn 69 = .ok (.goto 4, 3) := by decide +kernel
theorem dX0_verdictOn_72 : decode cX0_verdictOn 72 = .ok (.iconst 1, 1) := by decide +kernel
theorem dX0_verdictOn_73 : decode cX0_verdictOn 73 = .ok (.ireturn, 1) := by decide +kernel
theorem dX0_worthOn_0 : decode cX0_worthOn 0 = .ok (.iconst 2, 1) := by decide +kernel
theorem dX0_worthOn_1 : decode cX0_worthOn 1 = .ok (.istore_n 3, 1) := by decide +kernel
theorem dX0_worthOn_2 : decode cX0_worthOn 2 = .ok (.iconst 0, 1) := by decide +kernel
theorem dX0_worthOn_3 : decode cX0_worthOn 3 = .ok (.istore 4, 2) := by decide +kernel
theorem dX0_worthOn_5 : decode cX0_worthOn 5 = .ok (.iload 4, 2) := by decide +kernel
theorem dX0_worthOn_7 : decode cX0_worthOn 7 = .ok (.aload_n 0, 1) := by decide +kernel
theorem dX0_worthOn_8 : decode cX0_worthOn 8 = .ok (.getfield 36, 3) := by decide +kernel
theorem dX0_worthOn_11 : decode cX0_worthOn 11 = .ok (.if_icmp .ge 61, 3) := by decide +kernel
theorem dX0_worthOn_14 : decode cX0_worthOn 14 = .ok (.aload_n 0, 1) := by decide +kernel
theorem dX0_worthOn_15 : decode cX0_worthOn 15 = .ok (.getfield 23, 3) := by decide +kernel
theorem dX0_worthOn_18 : decode cX0_worthOn 18 = .ok (.iload 4, 2) := by decide +kernel
theorem dX0_worthOn_20 : decode cX0_worthOn 20 = .ok (.iaload, 1) := by decide +kernel
theorem dX0_worthOn_21 : decode cX0_worthOn 21 = .ok (.iload_n 1, 1) := by decide +kernel
theorem dX0_worthOn_22 : decode cX0_worthOn 22 = .ok (.if_icmp .ne 44, 3) := by decide +kernel
theorem dX0_worthOn_25 : decode cX0_worthOn 25 = .ok (.aload_n 0, 1) := by decide +kernel
theorem dX0_worthOn_26 : decode cX0_worthOn 26 = .ok (.getfield 9, 3) := by decide +kernel
theorem dX0_worthOn_29 : decode cX0_worthOn 29 = .ok (.iload 4, 2) := by decide +kernel
theorem dX0_worthOn_31 : decode cX0_worthOn 31 = .ok (.iaload, 1) := by decide +kernel
theorem dX0_worthOn_32 : decode cX0_worthOn 32 = .ok (.iload_n 2, 1) := by decide +kernel
theorem dX0_worthOn_33 : decode cX0_worthOn 33 = .ok (.if_icmp .ge 33, 3) := by decide +kernel
theorem dX0_worthOn_36 : decode cX0_worthOn 36 = .ok (.aload_n 0, 1) := by decide +kernel
theorem dX0_worthOn_37 : decode cX0_worthOn 37 = .ok (.getfield 26, 3) := by decide +kernel
theorem dX0_worthOn_40 : decode cX0_worthOn 40 = .ok (.iload 4, 2) := by decide +kernel
theorem dX0_worthOn_42 : decode cX0_worthOn 42 = .ok (.iaload, 1) := by decide +kernel
theorem dX0_worthOn_43 : decode cX0_worthOn 43 = .ok (.iconst 2, 1) := by decide +kernel
theorem dX0_worthOn_44 : decode cX0_worthOn 44 = .ok (.if_icmp .ne 9, 3) := by decide +kernel
theorem dX0_worthOn_47 : decode cX0_worthOn 47 = .ok (.iinc 3 1, 3) := by decide +kernel
theorem dX0_worthOn_50 : decode cX0_worthOn 50 = .ok (.goto 16, 3) := by decide +kernel
theorem dX0_worthOn_53 : decode cX0_worthOn 53 = .ok (.aload_n 0, 1) := by decide +kernel
theorem dX0_worthOn_54 : decode cX0_worthOn 54 = .ok (.getfield 26, 3) := by decide +kernel
theorem dX0_worthOn_57 : decode cX0_worthOn 57 = .ok (.iload 4, 2) := by decide +kernel
theorem dX0_worthOn_59 : decode cX0_worthOn 59 = .ok (.iaload, 1) := by decide +kernel
theorem dX0_worthOn_60 : decode cX0_worthOn 60 = .ok (.ifCond .ne 6, 3) := by decide +kernel
theorem dX0_worthOn_63 : decode cX0_worthOn 63 = .ok (.iinc 3 (-2), 3) := by decide +kernel
theorem dX0_worthOn_66 : decode cX0_worthOn 66 = .ok (.iinc 4 1, 3) := by decide +kernel
theorem dX0_worthOn_69 : decode cX0_worthOn 69 = .ok (.goto (-64), 3) := by decide +kernel
theorem dX0_worthOn_72 : decode cX0_worthOn 72 = .ok (.iload_n 3, 1) := by decide +kernel
theorem dX0_worthOn_73 : decode cX0_worthOn 73 = .ok (.ifCond .ge 7, 3) := by decide +kernel
theorem dX0_worthOn_76 : decode cX0_worthOn 76 = .ok (.iconst 0, 1) := by decide +kernel
theorem dX0_worthOn_77 : decode cX0_worthOn 77 = .ok (.goto 4, 3) := by decide +kernel
theorem dX0_worthOn_80 : decode cX0_worthOn 80 = .ok (.iload_n 3, 1) := by decide +kernel
theorem dX0_worthOn_81 : decode cX0_worthOn 81 = .ok (.ireturn, 1) := by decide +kernel
set_option maxRecDepth 20000 in
theorem ggX0_isHeard_X4_isNewsThere : GoodIn wsX0_isHeard wsX4_isNewsThere := goodIn_r _ [10, 11, 21, 22, 23, 24, 25, 26, 27, 28] (by decide +kernel) (by decide +kernel)
set_option maxRecDepth 20000 in
theorem gX0_isHeard_X4_isNewsThere : GoodIn wsX0_isHeard (wsV RX0 56 RX4 yX4_isNewsThere wsX4_isNewsThere) := goodIn_app (goodIn_of _ (by decide +kernel)) ggX0_isHeard_X4_isNewsThere
theorem dX0_isHeard_0 : decode cX0_isHeard 0 = .ok (.aload_n 0, 1) := by decide +kernel
theorem dX0_isHeard_1 : decode cX0_isHeard 1 = .ok (.getfield 23, 3) := by decide +kernel
theorem dX0_isHeard_4 : decode cX0_isHeard 4 = .ok (.iload_n 1, 1) := by decide +kernel
theorem dX0_isHeard_5 : decode cX0_isHeard 5 = .ok (.iaload, 1) := by decide +kernel
theorem dX0_isHeard_6 : decode cX0_isHeard 6 = .ok (.istore 5, 2) := by decide +kernel
theorem dX0_isHeard_8 : decode cX0_isHeard 8 = .ok (.aload_n 0, 1) := by decide +kernel
theorem dX0_isHeard_9 : decode cX0_isHeard 9 = .ok (.getfield 9, 3) := by decide +kernel
theorem dX0_isHeard_12 : decode cX0_isHeard 12 = .ok (.iload_n 1, 1) := by decide +kernel
theorem dX0_isHeard_13 : decode cX0_isHeard 13 = .ok (.iaload, 1) := by decide +kernel
theorem dX0_isHeard_14 : decode cX0_isHeard 14 = .ok (.iload 4, 2) := by decide +kernel
theorem dX0_isHeard_16 : decode cX0_isHeard 16 = .ok (.if_icmp .ne 43, 3) := by decide +kernel
theorem dX0_isHeard_19 : decode cX0_isHeard 19 = .ok (.iload 5, 2) := by decide +kernel
theorem dX0_isHeard_21 : decode cX0_isHeard 21 = .ok (.iconst (-1), 1) := by decide +kernel
theorem dX0_isHeard_22 : decode cX0_isHeard 22 = .ok (.if_icmp .eq 37, 3) := by decide +kernel
theorem dX0_isHeard_25 : decode cX0_isHeard 25 = .ok (.aload_n 0, 1) := by decide +kernel
theorem dX0_isHeard_26 : decode cX0_isHeard 26 = .ok (.getfield 26, 3) := by decide +kernel
theorem dX0_isHeard_29 : decode cX0_isHeard 29 = .ok (.iload_n 1, 1) := by decide +kernel
theorem dX0_isHeard_30 : decode cX0_isHeard 30 = .ok (.iaload, 1) := by decide +kernel
theorem dX0_isHeard_31 : decode cX0_isHeard 31 = .ok (.ifCond .eq 28, 3) := by decide +kernel
theorem dX0_isHeard_34 : decode cX0_isHeard 34 = .ok (.aload_n 0, 1) := by decide +kernel
theorem dX0_isHeard_35 : decode cX0_isHeard 35 = .ok (.getfield 39, 3) := by decide +kernel
theorem dX0_isHeard_38 : decode cX0_isHeard 38 = .ok (.aload_n 0, 1) := by decide +kernel
theorem dX0_isHeard_39 : decode cX0_isHeard 39 = .ok (.getfield 20, 3) := by decide +kernel
theorem dX0_isHeard_42 : decode cX0_isHeard 42 = .ok (.iload 5, 2) := by decide +kernel
theorem dX0_isHeard_44 : decode cX0_isHeard 44 = .ok (.iaload, 1) := by decide +kernel
theorem dX0_isHeard_45 : decode cX0_isHeard 45 = .ok (.iload_n 2, 1) := by decide +kernel
theorem dX0_isHeard_46 : decode cX0_isHeard 46 = .ok (.iload 4, 2) := by decide +kernel
theorem dX0_isHeard_48 : decode cX0_isHeard 48 = .ok (.iload_n 3, 1) := by decide +kernel
theorem dX0_isHeard_49 : decode cX0_isHeard 49 = .ok (.invokevirtual 56, 3) := by decide +kernel
theorem dX0_isHeard_52 : decode cX0_isHeard 52 = .ok (.ifCond .eq 7, 3) := by decide +kernel
theorem dX0_isHeard_55 : decode cX0_isHeard 55 = .ok (.iconst 1, 1) := by decide +kernel
theorem dX0_isHeard_56 : decode cX0_isHeard 56 = .ok (.goto 4, 3) := by decide +kernel
theorem dX0_isHeard_59 : decode cX0_isHeard 59 = .ok (.iconst 0, 1) := by decide +kernel
theorem dX0_isHeard_60 : decode cX0_isHeard 60 = .ok (.ireturn, 1) := by decide +kernel
theorem dX3_init_0 : decode cX3_init 0 = .ok (.aload_n 0, 1) := by decide +kernel
theorem dX3_init_1 : decode cX3_init 1 = .ok (.invokespecial 3, 3) := by decide +kernel
theorem dX3_init_4 : decode cX3_init 4 = .ok (.aload_n 0, 1) := by decide +kernel
theorem dX3_init_5 : decode cX3_init 5 = .ok (.bipush 12, 2) := by decide +kernel
theorem dX3_init_7 : decode cX3_init 7 = .ok (.newarray .int, 2) := by decide +kernel
theorem dX3_init_9 : decode cX3_init 9 = .ok (.putfield 9, 3) := by decide +kernel
theorem dX3_init_12 : decode cX3_init 12 = .ok (.aload_n 0, 1) := by decide +kernel
theorem dX3_init_13 : decode cX3_init 13 = .ok (.bipush 12, 2) := by decide +kernel
theorem dX3_init_15 : decode cX3_init 15 = .ok (.newarray .int, 2) := by decide +kernel
theorem dX3_init_17 : decode cX3_init 17 = .ok (.putfield 15, 3) := by decide +kernel
theorem dX3_init_20 : decode cX3_init 20 = .ok (.aload_n 0, 1) := by decide +kernel
theorem dX3_init_21 : decode cX3_init 21 = .ok (.sipush 400, 3) := by decide +kernel
theorem dX3_init_24 : decode cX3_init 24 = .ok (.newarray .int, 2) := by decide +kernel
theorem dX3_init_26 : decode cX3_init 26 = .ok (.putfield 18, 3) := by decide +kernel
theorem dX3_init_29 : decode cX3_init 29 = .ok (.aload_n 0, 1) := by decide +kernel
theorem dX3_init_30 : decode cX3_init 30 = .ok (.bipush 32, 2) := by decide +kernel
theorem dX3_init_32 : decode cX3_init 32 = .ok (.newarray .int, 2) := by decide +kernel
theorem dX3_init_34 : decode cX3_init 34 = .ok (.putfield 21, 3) := by decide +kernel
theorem dX3_init_37 : decode cX3_init 37 = .ok (.aload_n 0, 1) := by decide +kernel
theorem dX3_init_38 : decode cX3_init 38 = .ok (.iconst 0, 1) := by decide +kernel
theorem dX3_init_39 : decode cX3_init 39 = .ok (.putfield 24, 3) := by decide +kernel
theorem dX3_init_42 : decode cX3_init 42 = .ok (.aload_n 0, 1) := by decide +kernel
theorem dX3_init_43 : decode cX3_init 43 = .ok (.iconst 0, 1) := by decide +kernel
theorem dX3_init_44 : decode cX3_init 44 = .ok (.putfield 28, 3) := by decide +kernel
theorem dX3_init_47 : decode cX3_init 47 = .ok (.return_, 1) := by decide +kernel
theorem dX3_clearRules_0 : decode cX3_clearRules 0 = .ok (.aload_n 0, 1) := by decide +kernel
theorem dX3_clearRules_1 : decode cX3_clearRules 1 = .ok (.iconst 0, 1) := by decide +kernel
theorem dX3_clearRules_2 : decode cX3_clearRules 2 = .ok (.putfield 28, 3) := by decide +kernel
theorem dX3_clearRules_5 : decode cX3_clearRules 5 = .ok (.aload_n 0, 1) := by decide +kernel
theorem dX3_clearRules_6 : decode cX3_clearRules 6 = .ok (.iconst 0, 1) := by decide +kernel
theorem dX3_clearRules_7 : decode cX3_clearRules 7 = .ok (.putfield 24, 3) := by decide +kernel
theorem dX3_clearRules_10 : decode cX3_clearRules 10 = .ok (.return_, 1) := by decide +kernel
theorem dX3_openRule_0 : decode cX3_openRule 0 = .ok (.aload_n 0, 1) := by decide +kernel
theorem dX3_openRule_1 : decode cX3_openRule 1 = .ok (.getfield 28, 3) := by decide +kernel
theorem dX3_openRule_4 : decode cX3_openRule 4 = .ok (.bipush 12, 2) := by decide +kernel
theorem dX3_openRule_6 : decode cX3_openRule 6 = .ok (.if_icmp .ge 13, 3) := by decide +kernel
theorem dX3_openRule_9 : decode cX3_openRule 9 = .ok (.aload_n 0, 1) := by decide +kernel
theorem dX3_openRule_10 : decode cX3_openRule 10 = .ok (.getfield 9, 3) := by decide +kernel
theorem dX3_openRule_13 : decode cX3_openRule 13 = .ok (.aload_n 0, 1) := by decide +kernel
theorem dX3_openRule_14 : decode cX3_openRule 14 = .ok (.getfield 28, 3) := by decide +kernel
theorem dX3_openRule_17 : decode cX3_openRule 17 = .ok (.iload_n 1, 1) := by decide +kernel
theorem dX3_openRule_18 : decode cX3_openRule 18 = .ok (.iastore, 1) := by decide +kernel
theorem dX3_openRule_19 : decode cX3_openRule 19 = .ok (.return_, 1) := by decide +kernel
theorem dX3_addCode_0 : decode cX3_addCode 0 = .ok (.aload_n 0, 1) := by decide +kernel
theorem dX3_addCode_1 : decode cX3_addCode 1 = .ok (.getfield 24, 3) := by decide +kernel
theorem dX3_addCode_4 : decode cX3_addCode 4 = .ok (.sipush 400, 3) := by decide +kernel
theorem dX3_addCode_7 : decode cX3_addCode 7 = .ok (.if_icmp .ge 23, 3) := by decide +kernel
theorem dX3_addCode_10 : decode cX3_addCode 10 = .ok (.aload_n 0, 1) := by decide +kernel
theorem dX3_addCode_11 : decode cX3_addCode 11 = .ok (.getfield 18, 3) := by decide +kernel
theorem dX3_addCode_14 : decode cX3_addCode 14 = .ok (.aload_n 0, 1) := by decide +kernel
theorem dX3_addCode_15 : decode cX3_addCode 15 = .ok (.getfield 24, 3) := by decide +kernel
theorem dX3_addCode_18 : decode cX3_addCode 18 = .ok (.iload_n 1, 1) := by decide +kernel
theorem dX3_addCode_19 : decode cX3_addCode 19 = .ok (.iastore, 1) := by decide +kernel
theorem dX3_addCode_20 : decode cX3_addCode 20 = .ok (.aload_n 0, 1) := by decide +kernel
theorem dX3_addCode_21 : decode cX3_addCode 21 = .ok (.dup, 1) := by decide +kernel
theorem dX3_addCode_22 : decode cX3_addCode 22 = .ok (.getfield 24, 3) := by decide +kernel
theorem dX3_addCode_25 : decode cX3_addCode 25 = .ok (.iconst 1, 1) := by decide +kernel
theorem dX3_addCode_26 : decode cX3_addCode 26 = .ok (.iadd, 1) := by decide +kernel
theorem dX3_addCode_27 : decode cX3_addCode 27 = .ok (.putfield 24, 3) := by decide +kernel
theorem dX3_addCode_30 : decode cX3_addCode 30 = .ok (.return_, 1) := by decide +kernel
theorem dX3_closeRule_0 : decode cX3_closeRule 0 = .ok (.aload_n 0, 1) := by decide +kernel
theorem dX3_closeRule_1 : decode cX3_closeRule 1 = .ok (.getfield 28, 3) := by decide +kernel
theorem dX3_closeRule_4 : decode cX3_closeRule 4 = .ok (.bipush 12, 2) := by decide +kernel
theorem dX3_closeRule_6 : decode cX3_closeRule 6 = .ok (.if_icmp .ge 26, 3) := by decide +kernel
theorem dX3_closeRule_9 : decode cX3_closeRule 9 = .ok (.aload_n 0, 1) := by decide +kernel
theorem dX3_closeRule_10 : decode cX3_closeRule 10 = .ok (.getfield 15, 3) := by decide +kernel
theorem dX3_closeRule_13 : decode cX3_closeRule 13 = .ok (.aload_n 0, 1) := by decide +kernel
theorem dX3_closeRule_14 : decode cX3_closeRule 14 = .ok (.getfield 28, 3) := by decide +kernel
theorem dX3_closeRule_17 : decode cX3_closeRule 17 = .ok (.aload_n 0, 1) := by decide +kernel
theorem dX3_closeRule_18 : decode cX3_closeRule 18 = .ok (.getfield 24, 3) := by decide +kernel
theorem dX3_closeRule_21 : decode cX3_closeRule 21 = .ok (.iastore, 1) := by decide +kernel
theorem dX3_closeRule_22 : decode cX3_closeRule 22 = .ok (.aload_n 0, 1) := by decide +kernel
theorem dX3_closeRule_23 : decode cX3_closeRule 23 = .ok (.dup, 1) := by decide +kernel
theorem dX3_closeRule_24 : decode cX3_closeRule 24 = .ok (.getfield 28, 3) := by decide +kernel
theorem dX3_closeRule_27 : decode cX3_closeRule 27 = .ok (.iconst 1, 1) := by decide +kernel
theorem dX3_closeRule_28 : decode cX3_closeRule 28 = .ok (.iadd, 1) := by decide +kernel
theorem dX3_closeRule_29 : decode cX3_closeRule 29 = .ok (.putfield 28, 3) := by decide +kernel
theorem dX3_closeRule_32 : decode cX3_closeRule 32 = .ok (.return_, 1) := by decide +kernel
theorem dX3_hasRule_0 : decode cX3_hasRule 0 = .ok (.iconst 0, 1) := by decide +kernel
theorem dX3_hasRule_1 : decode cX3_hasRule 1 = .ok (.istore_n 2, 1) := by decide +kernel
theorem dX3_hasRule_2 : decode cX3_hasRule 2 = .ok (.iload_n 2, 1) := by decide +kernel
theorem dX3_hasRule_3 : decode cX3_hasRule 3 = .ok (.aload_n 0, 1) := by decide +kernel
theorem dX3_hasRule_4 : decode cX3_hasRule 4 = .ok (.getfield 28, 3) := by decide +kernel
theorem dX3_hasRule_7 : decode cX3_hasRule 7 = .ok (.if_icmp .ge 21, 3) := by decide +kernel
theorem dX3_hasRule_10 : decode cX3_hasRule 10 = .ok (.aload_n 0, 1) := by decide +kernel
theorem dX3_hasRule_11 : decode cX3_hasRule 11 = .ok (.getfield 9, 3) := by decide +kernel
theorem dX3_hasRule_14 : decode cX3_hasRule 14 = .ok (.iload_n 2, 1) := by decide +kernel
theorem dX3_hasRule_15 : decode cX3_hasRule 15 = .ok (.iaload, 1) := by decide +kernel
theorem dX3_hasRule_16 : decode cX3_hasRule 16 = .ok (.iload_n 1, 1) := by decide +kernel
theorem dX3_hasRule_17 : decode cX3_hasRule 17 = .ok (.if_icmp .ne 5, 3) := by decide +kernel
theorem dX3_hasRule_20 : decode cX3_hasRule 20 = .ok (.iconst 1, 1) := by decide +kernel
theorem dX3_hasRule_21 : decode cX3_hasRule 21 = .ok (.ireturn, 1) := by decide +kernel
theorem dX3_hasRule_22 : decode cX3_hasRule 22 = .ok (.iinc 2 1, 3) := by decide +kernel
theorem dX3_hasRule_25 : decode cX3_hasRule 25 = .ok (.goto (-23), 3) := by decide +kernel
theorem dX3_hasRule_28 : decode cX3_hasRule 28 = .ok (.iconst 0, 1) := by decide +kernel
theorem dX3_hasRule_29 : decode cX3_hasRule 29 = .ok (.ireturn, 1) := by decide +kernel
set_option maxRecDepth 20000 in
theorem ggX3_firstThatHolds_X3_holds : GoodIn wsX3_firstThatHolds wsX3_holds := goodIn_r _ [7, 8, 9, 10, 11, 12, 6, 13, 14, 15, 16, 17, 18, 19, 20, 21, 22] (by decide +kernel) (by decide +kernel)
set_option maxRecDepth 20000 in
theorem gX3_firstThatHolds_X3_holds : GoodIn wsX3_firstThatHolds (wsV RX3 31 RX3 yX3_holds wsX3_holds) := goodIn_app (goodIn_of _ (by decide +kernel)) ggX3_firstThatHolds_X3_holds
theorem dX3_firstThatHolds_0 : decode cX3_firstThatHolds 0 = .ok (.iconst 0, 1) := by decide +kernel
theorem dX3_firstThatHolds_1 : decode cX3_firstThatHolds 1 = .ok (.istore_n 3, 1) := by decide +kernel
theorem dX3_firstThatHolds_2 : decode cX3_firstThatHolds 2 = .ok (.iload_n 3, 1) := by decide +kernel
theorem dX3_firstThatHolds_3 : decode cX3_firstThatHolds 3 = .ok (.aload_n 0, 1) := by decide +kernel
theorem dX3_firstThatHolds_4 : decode cX3_firstThatHolds 4 = .ok (.getfield 28, 3) := by decide +kernel
theorem dX3_firstThatHolds_7 : decode cX3_firstThatHolds 7 = .ok (.if_icmp .ge 30, 3) := by decide +kernel
theorem dX3_firstThatHolds_10 : decode cX3_firstThatHolds 10 = .ok (.aload_n 0, 1) := by decide +kernel
theorem dX3_firstThatHolds_11 : decode cX3_firstThatHolds 11 = .ok (.getfield 9, 3) := by decide +kernel
theorem dX3_firstThatHolds_14 : decode cX3_firstThatHolds 14 = .ok (.iload_n 3, 1) := by decide +kernel
theorem dX3_firstThatHolds_15 : decode cX3_firstThatHolds 15 = .ok (.iaload, 1) := by decide +kernel
theorem dX3_firstThatHolds_16 : decode cX3_firstThatHolds 16 = .ok (.iload_n 1, 1) := by decide +kernel
theorem dX3_firstThatHolds_17 : decode cX3_firstThatHolds 17 = .ok (.if_icmp .ne 14, 3) := by decide +kernel
theorem dX3_firstThatHolds_20 : decode cX3_firstThatHolds 20 = .ok (.aload_n 0, 1) := by decide +kernel
theorem dX3_firstThatHolds_21 : decode cX3_firstThatHolds 21 = .ok (.iload_n 3, 1) := by decide +kernel
theorem dX3_firstThatHolds_22 : decode cX3_firstThatHolds 22 = .ok (.aload_n 2, 1) := by decide +kernel
theorem dX3_firstThatHolds_23 : decode cX3_firstThatHolds 23 = .ok (.invokevirtual 31, 3) := by decide +kernel
theorem dX3_firstThatHolds_26 : decode cX3_firstThatHolds 26 = .ok (.ifCond .eq 5, 3) := by decide +kernel
theorem dX3_firstThatHolds_29 : decode cX3_firstThatHolds 29 = .ok (.iload_n 3, 1) := by decide +kernel
theorem dX3_firstThatHolds_30 : decode cX3_firstThatHolds 30 = .ok (.ireturn, 1) := by decide +kernel
theorem dX3_firstThatHolds_31 : decode cX3_firstThatHolds 31 = .ok (.iinc 3 1, 3) := by decide +kernel
theorem dX3_firstThatHolds_34 : decode cX3_firstThatHolds 34 = .ok (.goto (-32), 3) := by decide +kernel
theorem dX3_firstThatHolds_37 : decode cX3_firstThatHolds 37 = .ok (.iconst (-1), 1) := by decide +kernel
theorem dX3_firstThatHolds_38 : decode cX3_firstThatHolds 38 = .ok (.ireturn, 1) := by decide +kernel
set_option maxRecDepth 20000 in
theorem ggX3_holds_X3_isVar : GoodIn wsX3_holds wsX3_isVar := goodIn_r _ [7] (by decide +kernel) (by decide +kernel)
set_option maxRecDepth 20000 in
theorem gX3_holds_X3_isVar : GoodIn wsX3_holds (va_wsS RX3 35 yX3_isVar wsX3_isVar) := goodIn_app (goodIn_of _ (by decide +kernel)) ggX3_holds_X3_isVar
set_option maxRecDepth 20000 in
theorem ggX3_holds_X3_apply : GoodIn wsX3_holds wsX3_apply := goodIn_r _ [10] (by decide +kernel) (by decide +kernel)
set_option maxRecDepth 20000 in
theorem gX3_holds_X3_apply : GoodIn wsX3_holds (va_wsS RX3 39 yX3_apply wsX3_apply) := goodIn_app (goodIn_of _ (by decide +kernel)) ggX3_holds_X3_apply
theorem dX3_holds_0 : decode cX3_holds 0 = .ok (.iconst 0, 1) := by decide +kernel
theorem dX3_holds_1 : decode cX3_holds 1 = .ok (.istore_n 3, 1) := by decide +kernel
theorem dX3_holds_2 : decode cX3_holds 2 = .ok (.iload_n 1, 1) := by decide +kernel
theorem dX3_holds_3 : decode cX3_holds 3 = .ok (.ifCond .ne 7, 3) := by decide +kernel
theorem dX3_holds_6 : decode cX3_holds 6 = .ok (.iconst 0, 1) := by decide +kernel
theorem dX3_holds_7 : decode cX3_holds 7 = .ok (.goto 11, 3) := by decide +kernel
theorem dX3_holds_10 : decode cX3_holds 10 = .ok (.aload_n 0, 1) := by decide +kernel
theorem dX3_holds_11 : decode cX3_holds 11 = .ok (.getfield 15, 3) := by decide +kernel
theorem dX3_holds_14 : decode cX3_holds 14 = .ok (.iload_n 1, 1) := by decide +kernel
theorem dX3_holds_15 : decode cX3_holds 15 = .ok (.iconst 1, 1) := by decide +kernel
theorem dX3_holds_16 : decode cX3_holds 16 = .ok (.isub, 1) := by decide +kernel
theorem dX3_holds_17 : decode cX3_holds 17 = .ok (.iaload, 1) := by decide +kernel
theorem dX3_holds_18 : decode cX3_holds 18 = .ok (.istore 4, 2) := by decide +kernel
theorem dX3_holds_20 : decode cX3_holds 20 = .ok (.iload 4, 2) := by decide +kernel
theorem dX3_holds_22 : decode cX3_holds 22 = .ok (.aload_n 0, 1) := by decide +kernel
theorem dX3_holds_23 : decode cX3_holds 23 = .ok (.getfield 15, 3) := by decide +kernel
theorem dX3_holds_26 : decode cX3_holds 26 = .ok (.iload_n 1, 1) := by decide +kernel
theorem dX3_holds_27 : decode cX3_holds 27 = .ok (.iaload, 1) := by decide +kernel
theorem dX3_holds_28 : decode cX3_holds 28 = .ok (.if_icmp .ge 109, 3) := by decide +kernel
theorem dX3_holds_31 : decode cX3_holds 31 = .ok (.aload_n 0, 1) := by decide +kernel
theorem dX3_holds_32 : decode cX3_holds 32 = .ok (.getfield 18, 3) := by decide +kernel
theorem dX3_holds_35 : decode cX3_holds 35 = .ok (.iload 4, 2) := by decide +kernel
theorem dX3_holds_37 : decode cX3_holds 37 = .ok (.iaload, 1) := by decide +kernel
theorem dX3_holds_38 : decode cX3_holds 38 = .ok (.sipush 10000, 3) := by decide +kernel
theorem dX3_holds_41 : decode cX3_holds 41 = .ok (.isub, 1) := by decide +kernel
theorem dX3_holds_42 : decode cX3_holds 42 = .ok (.istore 5, 2) := by decide +kernel
theorem dX3_holds_44 : decode cX3_holds 44 = .ok (.iload 5, 2) := by decide +kernel
theorem dX3_holds_46 : decode cX3_holds 46 = .ok (.ifCond .lt 51, 3) := by decide +kernel
theorem dX3_holds_49 : decode cX3_holds 49 = .ok (.iload 5, 2) := by decide +kernel
theorem dX3_holds_51 : decode cX3_holds 51 = .ok (.invokestatic 35, 3) := by decide +kernel
theorem dX3_holds_54 : decode cX3_holds 54 = .ok (.ifCond .ne 43, 3) := by decide +kernel
theorem dX3_holds_57 : decode cX3_holds 57 = .ok (.iload_n 3, 1) := by decide +kernel
theorem dX3_holds_58 : decode cX3_holds 58 = .ok (.iconst 2, 1) := by decide +kernel
theorem dX3_holds_59 : decode cX3_holds 59 = .ok (.if_icmp .ge 5, 3) := by decide +kernel
theorem dX3_holds_62 : decode cX3_holds 62 = .ok (.iconst 0, 1) := by decide +kernel
theorem dX3_holds_63 : decode cX3_holds 63 = .ok (.ireturn, 1) := by decide +kernel
theorem dX3_holds_64 : decode cX3_holds 64 = .ok (.iinc 3 (-1), 3) := by decide +kernel
theorem dX3_holds_67 : decode cX3_holds 67 = .ok (.aload_n 0, 1) := by decide +kernel
theorem dX3_holds_68 : decode cX3_holds 68 = .ok (.getfield 21, 3) := by decide +kernel
theorem dX3_holds_71 : decode cX3_holds 71 = .ok (.iload_n 3, 1) := by decide +kernel
theorem dX3_holds_72 : decode cX3_holds 72 = .ok (.iconst 1, 1) := by decide +kernel
theorem dX3_holds_73 : decode cX3_holds 73 = .ok (.isub, 1) := by decide +kernel
theorem dX3_holds_74 : decode cX3_holds 74 = .ok (.iload 5, 2) := by decide +kernel
theorem dX3_holds_76 : decode cX3_holds 76 = .ok (.aload_n 0, 1) := by decide +kernel
theorem dX3_holds_77 : decode cX3_holds 77 = .ok (.getfield 21, 3) := by decide +kernel
theorem dX3_holds_80 : decode cX3_holds 80 = .ok (.iload_n 3, 1) := by decide +kernel
theorem dX3_holds_81 : decode cX3_holds 81 = .ok (.iconst 1, 1) := by decide +kernel
theorem dX3_holds_82 : decode cX3_holds 82 = .ok (.isub, 1) := by decide +kernel
theorem dX3_holds_83 : decode cX3_holds 83 = .ok (.iaload, 1) := by decide +kernel
theorem dX3_holds_84 : decode cX3_holds 84 = .ok (.aload_n 0, 1) := by decide +kernel
theorem dX3_holds_85 : decode cX3_holds 85 = .ok (.getfield 21, 3) := by decide +kernel
theorem dX3_holds_88 : decode cX3_holds 88 = .ok (.iload_n 3, 1) := by decide +kernel
theorem dX3_holds_89 : decode cX3_holds 89 = .ok (.iaload, 1) := by decide +kernel
theorem dX3_holds_90 : decode cX3_holds 90 = .ok (.invokestatic 39, 3) := by decide +kernel
theorem dX3_holds_93 : decode cX3_holds 93 = .ok (.iastore, 1) := by decide +kernel
theorem dX3_holds_94 : decode cX3_holds 94 = .ok (.goto 37, 3) := by decide +kernel
theorem dX3_holds_97 : decode cX3_holds 97 = .ok (.iload_n 3, 1) := by decide +kernel
theorem dX3_holds_98 : decode cX3_holds 98 = .ok (.bipush 32, 2) := by decide +kernel
theorem dX3_holds_100 : decode cX3_holds 100 = .ok (.if_icmp .ge 31, 3) := by decide +kernel
theorem dX3_holds_103 : decode cX3_holds 103 = .ok (.aload_n 0, 1) := by decide +kernel
theorem dX3_holds_104 : decode cX3_holds 104 = .ok (.getfield 21, 3) := by decide +kernel
theorem dX3_holds_107 : decode cX3_holds 107 = .ok (.iload_n 3, 1) := by decide +kernel
theorem dX3_holds_108 : decode cX3_holds 108 = .ok (.iload 5, 2) := by decide +kernel
theorem dX3_holds_110 : decode cX3_holds 110 = .ok (.ifCond .ge 13, 3) := by decide +kernel
theorem dX3_holds_113 : decode cX3_holds 113 = .ok (.aload_n 0, 1) := by decide +kernel
theorem dX3_holds_114 : decode cX3_holds 114 = .ok (.getfield 18, 3) := by decide +kernel
theorem dX3_holds_117 : decode cX3_holds 117 = .ok (.iload 4, 2) := by decide +kernel
theorem dX3_holds_119 : decode cX3_holds 119 = .ok (.iaload, 1) := by decide +kernel
theorem dX3_holds_120 : decode cX3_holds 120 = .ok (.goto 7, 3) := by decide +kernel
theorem dX3_holds_123 : decode cX3_holds 123 = .ok (.aload_n 2, 1) := by decide +kernel
theorem dX3_holds_124 : decode cX3_holds 124 = .ok (.iload 5, 2) := by decide +kernel
theorem dX3_holds_126 : decode cX3_holds 126 = .ok (.iaload, 1) := by decide +kernel
theorem dX3_holds_127 : decode cX3_holds 127 = .ok (.iastore, 1) := by decide +kernel
theorem dX3_holds_128 : decode cX3_holds 128 = .ok (.iinc 3 1, 3) := by decide +kernel
theorem dX3_holds_131 : decode cX3_holds 131 = .ok (.iinc 4 1, 3) := by decide +kernel
theorem dX3_holds_134 : decode cX3_holds 134 = .ok (.goto (-114), 3) := by decide +kernel
theorem dX3_holds_137 : decode cX3_holds 137 = .ok (.iload_n 3, 1) := by decide +kernel
theorem dX3_holds_138 : decode cX3_holds 138 = .ok (.iconst 1, 1) := by decide +kernel
theorem dX3_holds_139 : decode cX3_holds 139 = .ok (.if_icmp .ne 16, 3) := by decide +kernel
theorem dX3_holds_142 : decode cX3_holds 142 = .ok (.aload_n 0, 1) := by decide +kernel
theorem dX3_holds_143 : decode cX3_holds 143 = .ok (.getfield 21, 3) := by decide +kernel
theorem dX3_holds_146 : decode cX3_holds 146 = .ok (.iconst 0, 1) := by decide +kernel
theorem dX3_holds_147 : decode cX3_holds 147 = .ok (.iaload, 1) := by decide +kernel
theorem dX3_holds_148 : decode cX3_holds 148 = .ok (.ifCond .eq 7, 3) := by decide +kernel
theorem dX3_holds_151 : decode cX3_holds 151 = .ok (.iconst 1, 1) := by decide +kernel
theorem dX3_holds_152 : decode cX3_holds 152 = .ok (.goto 4, 3) := by decide +kernel
theorem dX3_holds_155 : decode cX3_holds 155 = .ok (.iconst 0, 1) := by decide +kernel
theorem dX3_holds_156 : decode cX3_holds 156 = .ok (.ireturn, 1) := by decide +kernel
theorem dX3_apply_0 : decode cX3_apply 0 = .ok (.iload_n 0, 1) := by decide +kernel
theorem dX3_apply_1 : decode cX3_apply 1 = .ok (.tableswitch 155 4 22 #[151, 147, 155, 155, 155, 155, 155, 155, 155, 155, 155, 155, 91, 95, 99, 103, 114, 125, 136], 91) := by decide +kernel
theorem dX3_apply_92 : decode cX3_apply 92 = .ok (.iload_n 1, 1) := by decide +kernel
theorem dX3_apply_93 : decode cX3_apply 93 = .ok (.iload_n 2, 1) := by decide +kernel
theorem dX3_apply_94 : decode cX3_apply 94 = .ok (.iadd, 1) := by decide +kernel
theorem dX3_apply_95 : decode cX3_apply 95 = .ok (.ireturn, 1) := by decide +kernel
theorem dX3_apply_96 : decode cX3_apply 96 = .ok (.iload_n 1, 1) := by decide +kernel
theorem dX3_apply_97 : decode cX3_apply 97 = .ok (.iload_n 2, 1) := by decide +kernel
theorem dX3_apply_98 : decode cX3_apply 98 = .ok (.isub, 1) := by decide +kernel
theorem dX3_apply_99 : decode cX3_apply 99 = .ok (.ireturn, 1) := by decide +kernel
theorem dX3_apply_100 : decode cX3_apply 100 = .ok (.iload_n 1, 1) := by decide +kernel
theorem dX3_apply_101 : decode cX3_apply 101 = .ok (.iload_n 2, 1) := by decide +kernel
theorem dX3_apply_102 : decode cX3_apply 102 = .ok (.imul, 1) := by decide +kernel
theorem dX3_apply_103 : decode cX3_apply 103 = .ok (.ireturn, 1) := by decide +kernel
theorem dX3_apply_104 : decode cX3_apply 104 = .ok (.iload_n 1, 1) := by decide +kernel
theorem dX3_apply_105 : decode cX3_apply 105 = .ok (.iload_n 2, 1) := by decide +kernel
theorem dX3_apply_106 : decode cX3_apply 106 = .ok (.if_icmp .ne 7, 3) := by decide +kernel
theorem dX3_apply_109 : decode cX3_apply 109 = .ok (.iconst 1, 1) := by decide +kernel
theorem dX3_apply_110 : decode cX3_apply 110 = .ok (.goto 4, 3) := by decide +kernel
theorem dX3_apply_113 : decode cX3_apply 113 = .ok (.iconst 0, 1) := by decide +kernel
theorem dX3_apply_114 : decode cX3_apply 114 = .ok (.ireturn, 1) := by decide +kernel
theorem dX3_apply_115 : decode cX3_apply 115 = .ok (.iload_n 1, 1) := by decide +kernel
theorem dX3_apply_116 : decode cX3_apply 116 = .ok (.iload_n 2, 1) := by decide +kernel
theorem dX3_apply_117 : decode cX3_apply 117 = .ok (.if_icmp .eq 7, 3) := by decide +kernel
theorem dX3_apply_120 : decode cX3_apply 120 = .ok (.iconst 1, 1) := by decide +kernel
theorem dX3_apply_121 : decode cX3_apply 121 = .ok (.goto 4, 3) := by decide +kernel
theorem dX3_apply_124 : decode cX3_apply 124 = .ok (.iconst 0, 1) := by decide +kernel
theorem dX3_apply_125 : decode cX3_apply 125 = .ok (.ireturn, 1) := by decide +kernel
theorem dX3_apply_126 : decode cX3_apply 126 = .ok (.iload_n 1, 1) := by decide +kernel
theorem dX3_apply_127 : decode cX3_apply 127 = .ok (.iload_n 2, 1) := by decide +kernel
theorem dX3_apply_128 : decode cX3_apply 128 = .ok (.if_icmp .ge 7, 3) := by decide +kernel
theorem dX3_apply_131 : decode cX3_apply 131 = .ok (.iconst 1, 1) := by decide +kernel
theorem dX3_apply_132 : decode cX3_apply 132 = .ok (.goto 4, 3) := by decide +kernel
theorem dX3_apply_135 : decode cX3_apply 135 = .ok (.iconst 0, 1) := by decide +kernel
theorem dX3_apply_136 : decode cX3_apply 136 = .ok (.ireturn, 1) := by decide +kernel
theorem dX3_apply_137 : decode cX3_apply 137 = .ok (.iload_n 1, 1) := by decide +kernel
theorem dX3_apply_138 : decode cX3_apply 138 = .ok (.iload_n 2, 1) := by decide +kernel
theorem dX3_apply_139 : decode cX3_apply 139 = .ok (.if_icmp .gt 7, 3) := by decide +kernel
theorem dX3_apply_142 : decode cX3_apply 142 = .ok (.iconst 1, 1) := by decide +kernel
theorem dX3_apply_143 : decode cX3_apply 143 = .ok (.goto 4, 3) := by decide +kernel
theorem dX3_apply_146 : decode cX3_apply 146 = .ok (.iconst 0, 1) := by decide +kernel
theorem dX3_apply_147 : decode cX3_apply 147 = .ok (.ireturn, 1) := by decide +kernel
theorem dX3_apply_148 : decode cX3_apply 148 = .ok (.iload_n 1, 1) := by decide +kernel
theorem dX3_apply_149 : decode cX3_apply 149 = .ok (.iload_n 2, 1) := by decide +kernel
theorem dX3_apply_150 : decode cX3_apply 150 = .ok (.iand, 1) := by decide +kernel
theorem dX3_apply_151 : decode cX3_apply 151 = .ok (.ireturn, 1) := by decide +kernel
theorem dX3_apply_152 : decode cX3_apply 152 = .ok (.iload_n 1, 1) := by decide +kernel
theorem dX3_apply_153 : decode cX3_apply 153 = .ok (.iload_n 2, 1) := by decide +kernel
theorem dX3_apply_154 : decode cX3_apply 154 = .ok (.ior, 1) := by decide +kernel
theorem dX3_apply_155 : decode cX3_apply 155 = .ok (.ireturn, 1) := by decide +kernel
theorem dX3_apply_156 : decode cX3_apply 156 = .ok (.iconst 0, 1) := by decide +kernel
theorem dX3_apply_157 : decode cX3_apply 157 = .ok (.ireturn, 1) := by decide +kernel
theorem dX3_isVar_0 : decode cX3_isVar 0 = .ok (.iload_n 0, 1) := by decide +kernel
theorem dX3_isVar_1 : decode cX3_isVar 1 = .ok (.bipush 6, 2) := by decide +kernel
theorem dX3_isVar_3 : decode cX3_isVar 3 = .ok (.if_icmp .lt 13, 3) := by decide +kernel
theorem dX3_isVar_6 : decode cX3_isVar 6 = .ok (.iload_n 0, 1) := by decide +kernel
theorem dX3_isVar_7 : decode cX3_isVar 7 = .ok (.bipush 13, 2) := by decide +kernel
theorem dX3_isVar_9 : decode cX3_isVar 9 = .ok (.if_icmp .gt 7, 3) := by decide +kernel
theorem dX3_isVar_12 : decode cX3_isVar 12 = .ok (.iconst 1, 1) := by decide +kernel
theorem dX3_isVar_13 : decode cX3_isVar 13 = .ok (.goto 4, 3) := by decide +kernel
theorem dX3_isVar_16 : decode cX3_isVar 16 = .ok (.iconst 0, 1) := by decide +kernel
theorem dX3_isVar_17 : decode cX3_isVar 17 = .ok (.ireturn, 1) := by decide +kernel
theorem dX4_init_0 : decode cX4_init 0 = .ok (.aload_n 0, 1) := by decide +kernel
theorem dX4_init_1 : decode cX4_init 1 = .ok (.invokespecial 3, 3) := by decide +kernel
theorem dX4_init_4 : decode cX4_init 4 = .ok (.aload_n 0, 1) := by decide +kernel
theorem dX4_init_5 : decode cX4_init 5 = .ok (.bipush 14, 2) := by decide +kernel
theorem dX4_init_7 : decode cX4_init 7 = .ok (.newarray .int, 2) := by decide +kernel
theorem dX4_init_9 : decode cX4_init 9 = .ok (.putfield 9, 3) := by decide +kernel
theorem dX4_init_12 : decode cX4_init 12 = .ok (.aload_n 0, 1) := by decide +kernel
theorem dX4_init_13 : decode cX4_init 13 = .ok (.bipush 6, 2) := by decide +kernel
theorem dX4_init_15 : decode cX4_init 15 = .ok (.newarray .int, 2) := by decide +kernel
theorem dX4_init_17 : decode cX4_init 17 = .ok (.putfield 15, 3) := by decide +kernel
theorem dX4_init_20 : decode cX4_init 20 = .ok (.aload_n 0, 1) := by decide +kernel
theorem dX4_init_21 : decode cX4_init 21 = .ok (.bipush 6, 2) := by decide +kernel
theorem dX4_init_23 : decode cX4_init 23 = .ok (.newarray .int, 2) := by decide +kernel
theorem dX4_init_25 : decode cX4_init 25 = .ok (.putfield 18, 3) := by decide +kernel
theorem dX4_init_28 : decode cX4_init 28 = .ok (.aload_n 0, 1) := by decide +kernel
theorem dX4_init_29 : decode cX4_init 29 = .ok (.bipush 6, 2) := by decide +kernel
theorem dX4_init_31 : decode cX4_init 31 = .ok (.bipush 60, 2) := by decide +kernel
theorem dX4_init_33 : decode cX4_init 33 = .ok (.multianewarray 21 2, 4) := by decide +kernel
theorem dX4_init_37 : decode cX4_init 37 = .ok (.putfield 23, 3) := by decide +kernel
theorem dX4_init_40 : decode cX4_init 40 = .ok (.aload_n 0, 1) := by decide +kernel
theorem dX4_init_41 : decode cX4_init 41 = .ok (.bipush 6, 2) := by decide +kernel
theorem dX4_init_43 : decode cX4_init 43 = .ok (.newarray .int, 2) := by decide +kernel
theorem dX4_init_45 : decode cX4_init 45 = .ok (.putfield 26, 3) := by decide +kernel
theorem dX4_init_48 : decode cX4_init 48 = .ok (.aload_n 0, 1) := by decide +kernel
theorem dX4_init_49 : decode cX4_init 49 = .ok (.bipush 6, 2) := by decide +kernel
theorem dX4_init_51 : decode cX4_init 51 = .ok (.bipush 6, 2) := by decide +kernel
theorem dX4_init_53 : decode cX4_init 53 = .ok (.multianewarray 29 2, 4) := by decide +kernel
theorem dX4_init_57 : decode cX4_init 57 = .ok (.putfield 31, 3) := by decide +kernel
theorem dX4_init_60 : decode cX4_init 60 = .ok (.aload_n 0, 1) := by decide +kernel
theorem dX4_init_61 : decode cX4_init 61 = .ok (.iconst 0, 1) := by decide +kernel
theorem dX4_init_62 : decode cX4_init 62 = .ok (.putfield 34, 3) := by decide +kernel
theorem dX4_init_65 : decode cX4_init 65 = .ok (.aload_n 0, 1) := by decide +kernel
theorem dX4_init_66 : decode cX4_init 66 = .ok (.iconst 0, 1) := by decide +kernel
theorem dX4_init_67 : decode cX4_init 67 = .ok (.putfield 38, 3) := by decide +kernel
theorem dX4_init_70 : decode cX4_init 70 = .ok (.iconst 0, 1) := by decide +kernel
theorem dX4_init_71 : decode cX4_init 71 = .ok (.istore_n 1, 1) := by decide +kernel
theorem dX4_init_72 : decode cX4_init 72 = .ok (.iload_n 1, 1) := by decide +kernel
theorem dX4_init_73 : decode cX4_init 73 = .ok (.bipush 6, 2) := by decide +kernel
theorem dX4_init_75 : decode cX4_init 75 = .ok (.if_icmp .ge 42, 3) := by decide +kernel
theorem dX4_init_78 : decode cX4_init 78 = .ok (.iconst 0, 1) := by decide +kernel
theorem dX4_init_79 : decode cX4_init 79 = .ok (.istore_n 2, 1) := by decide +kernel
theorem dX4_init_80 : decode cX4_init 80 = .ok (.iload_n 2, 1) := by decide +kernel
theorem dX4_init_81 : decode cX4_init 81 = .ok (.bipush 6, 2) := by decide +kernel
theorem dX4_init_83 : decode cX4_init 83 = .ok (.if_icmp .ge 28, 3) := by decide +kernel
theorem dX4_init_86 : decode cX4_init 86 = .ok (.aload_n 0, 1) := by decide +kernel
theorem dX4_init_87 : decode cX4_init 87 = .ok (.getfield 31, 3) := by decide +kernel
theorem dX4_init_90 : decode cX4_init 90 = .ok (.iload_n 1, 1) := by decide +kernel
theorem dX4_init_91 : decode cX4_init 91 = .ok (.aaload, 1) := by decide +kernel
theorem dX4_init_92 : decode cX4_init 92 = .ok (.iload_n 2, 1) := by decide +kernel
theorem dX4_init_93 : decode cX4_init 93 = .ok (.iload_n 1, 1) := by decide +kernel
theorem dX4_init_94 : decode cX4_init 94 = .ok (.iload_n 2, 1) := by decide +kernel
theorem dX4_init_95 : decode cX4_init 95 = .ok (.if_icmp .ne 7, 3) := by decide +kernel
theorem dX4_init_98 : decode cX4_init 98 = .ok (.iconst 0, 1) := by decide +kernel
theorem dX4_init_99 : decode cX4_init 99 = .ok (.goto 5, 3) := by decide +kernel
theorem dX4_init_102 : decode cX4_init 102 = .ok (.ldc 41, 2) := by decide +kernel
theorem dX4_init_104 : decode cX4_init 104 = .ok (.iastore, 1) := by decide +kernel
theorem dX4_init_105 : decode cX4_init 105 = .ok (.iinc 2 1, 3) := by decide +kernel
theorem dX4_init_108 : decode cX4_init 108 = .ok (.goto (-28), 3) := by decide +kernel
theorem dX4_init_111 : decode cX4_init 111 = .ok (.iinc 1 1, 3) := by decide +kernel
theorem dX4_init_114 : decode cX4_init 114 = .ok (.goto (-42), 3) := by decide +kernel
theorem dX4_init_117 : decode cX4_init 117 = .ok (.return_, 1) := by decide +kernel
theorem dX4_isLand_0 : decode cX4_isLand 0 = .ok (.iload_n 1, 1) := by decide +kernel
theorem dX4_isLand_1 : decode cX4_isLand 1 = .ok (.ifCond .lt 15, 3) := by decide +kernel
theorem dX4_isLand_4 : decode cX4_isLand 4 = .ok (.iload_n 1, 1) := by decide +kernel
theorem dX4_isLand_5 : decode cX4_isLand 5 = .ok (.aload_n 0, 1) := by decide +kernel
theorem dX4_isLand_6 : decode cX4_isLand 6 = .ok (.getfield 38, 3) := by decide +kernel
theorem dX4_isLand_9 : decode cX4_isLand 9 = .ok (.if_icmp .ge 7, 3) := by decide +kernel
theorem dX4_isLand_12 : decode cX4_isLand 12 = .ok (.iconst 1, 1) := by decide +kernel
theorem dX4_isLand_13 : decode cX4_isLand 13 = .ok (.goto 4, 3) := by decide +kernel
theorem dX4_isLand_16 : decode cX4_isLand 16 = .ok (.iconst 0, 1) := by decide +kernel
theorem dX4_isLand_17 : decode cX4_isLand 17 = .ok (.ireturn, 1) := by decide +kernel
theorem dX4_ageOn_0 : decode cX4_ageOn 0 = .ok (.bipush 24, 2) := by decide +kernel
theorem dX4_ageOn_2 : decode cX4_ageOn 2 = .ok (.iload_n 2, 1) := by decide +kernel
theorem dX4_ageOn_3 : decode cX4_ageOn 3 = .ok (.imul, 1) := by decide +kernel
theorem dX4_ageOn_4 : decode cX4_ageOn 4 = .ok (.bipush 18, 2) := by decide +kernel
theorem dX4_ageOn_6 : decode cX4_ageOn 6 = .ok (.iadd, 1) := by decide +kernel
theorem dX4_ageOn_7 : decode cX4_ageOn 7 = .ok (.aload_n 0, 1) := by decide +kernel
theorem dX4_ageOn_8 : decode cX4_ageOn 8 = .ok (.getfield 15, 3) := by decide +kernel
theorem dX4_ageOn_11 : decode cX4_ageOn 11 = .ok (.iload_n 1, 1) := by decide +kernel
theorem dX4_ageOn_12 : decode cX4_ageOn 12 = .ok (.iaload, 1) := by decide +kernel
theorem dX4_ageOn_13 : decode cX4_ageOn 13 = .ok (.iadd, 1) := by decide +kernel
theorem dX4_ageOn_14 : decode cX4_ageOn 14 = .ok (.istore_n 3, 1) := by decide +kernel
theorem dX4_ageOn_15 : decode cX4_ageOn 15 = .ok (.aload_n 0, 1) := by decide +kernel
theorem dX4_ageOn_16 : decode cX4_ageOn 16 = .ok (.getfield 34, 3) := by decide +kernel
theorem dX4_ageOn_19 : decode cX4_ageOn 19 = .ok (.iconst 1, 1) := by decide +kernel
theorem dX4_ageOn_20 : decode cX4_ageOn 20 = .ok (.isub, 1) := by decide +kernel
theorem dX4_ageOn_21 : decode cX4_ageOn 21 = .ok (.istore 4, 2) := by decide +kernel
theorem dX4_ageOn_23 : decode cX4_ageOn 23 = .ok (.iload 4, 2) := by decide +kernel
theorem dX4_ageOn_25 : decode cX4_ageOn 25 = .ok (.ifCond .lt 30, 3) := by decide +kernel
theorem dX4_ageOn_28 : decode cX4_ageOn 28 = .ok (.aload_n 0, 1) := by decide +kernel
theorem dX4_ageOn_29 : decode cX4_ageOn 29 = .ok (.getfield 9, 3) := by decide +kernel
theorem dX4_ageOn_32 : decode cX4_ageOn 32 = .ok (.iload 4, 2) := by decide +kernel
theorem dX4_ageOn_34 : decode cX4_ageOn 34 = .ok (.iaload, 1) := by decide +kernel
theorem dX4_ageOn_35 : decode cX4_ageOn 35 = .ok (.iload_n 3, 1) := by decide +kernel
theorem dX4_ageOn_36 : decode cX4_ageOn 36 = .ok (.if_icmp .gt 13, 3) := by decide +kernel
theorem dX4_ageOn_39 : decode cX4_ageOn 39 = .ok (.iload_n 3, 1) := by decide +kernel
theorem dX4_ageOn_40 : decode cX4_ageOn 40 = .ok (.aload_n 0, 1) := by decide +kernel
theorem dX4_ageOn_41 : decode cX4_ageOn 41 = .ok (.getfield 9, 3) := by decide +kernel
theorem dX4_ageOn_44 : decode cX4_ageOn 44 = .ok (.iload 4, 2) := by decide +kernel
theorem dX4_ageOn_46 : decode cX4_ageOn 46 = .ok (.iaload, 1) := by decide +kernel
theorem dX4_ageOn_47 : decode cX4_ageOn 47 = .ok (.isub, 1) := by decide +kernel
theorem dX4_ageOn_48 : decode cX4_ageOn 48 = .ok (.ireturn, 1) := by decide +kernel
theorem dX4_ageOn_49 : decode cX4_ageOn 49 = .ok (.iinc 4 (-1), 3) := by decide +kernel
theorem dX4_ageOn_52 : decode cX4_ageOn 52 = .ok (.goto (-29), 3) := by decide +kernel
theorem dX4_ageOn_55 : decode cX4_ageOn 55 = .ok (.iconst (-1), 1) := by decide +kernel
theorem dX4_ageOn_56 : decode cX4_ageOn 56 = .ok (.ireturn, 1) := by decide +kernel
set_option maxRecDepth 20000 in
theorem ggX4_lightOn_X4_ageOn : GoodIn wsX4_lightOn wsX4_ageOn := goodIn_r _ [11, 12, 13, 14, 15, 16, 17, 18, 19, 20, 21, 22] (by decide +kernel) (by decide +kernel)
set_option maxRecDepth 20000 in
theorem gX4_lightOn_X4_ageOn : GoodIn wsX4_lightOn (wsV RX4 42 RX4 yX4_ageOn wsX4_ageOn) := goodIn_app (goodIn_of _ (by decide +kernel)) ggX4_lightOn_X4_ageOn
theorem dX4_lightOn_0 : decode cX4_lightOn 0 = .ok (.aload_n 0, 1) := by decide +kernel
theorem dX4_lightOn_1 : decode cX4_lightOn 1 = .ok (.iload_n 1, 1) := by decide +kernel
theorem dX4_lightOn_2 : decode cX4_lightOn 2 = .ok (.iload_n 2, 1) := by decide +kernel
theorem dX4_lightOn_3 : decode cX4_lightOn 3 = .ok (.invokevirtual 42, 3) := by decide +kernel
theorem dX4_lightOn_6 : decode cX4_lightOn 6 = .ok (.istore_n 3, 1) := by decide +kernel
theorem dX4_lightOn_7 : decode cX4_lightOn 7 = .ok (.iload_n 3, 1) := by decide +kernel
theorem dX4_lightOn_8 : decode cX4_lightOn 8 = .ok (.iconst (-1), 1) := by decide +kernel
theorem dX4_lightOn_9 : decode cX4_lightOn 9 = .ok (.if_icmp .ne 5, 3) := by decide +kernel
theorem dX4_lightOn_12 : decode cX4_lightOn 12 = .ok (.iconst 0, 1) := by decide +kernel
theorem dX4_lightOn_13 : decode cX4_lightOn 13 = .ok (.ireturn, 1) := by decide +kernel
theorem dX4_lightOn_14 : decode cX4_lightOn 14 = .ok (.aload_n 0, 1) := by decide +kernel
theorem dX4_lightOn_15 : decode cX4_lightOn 15 = .ok (.getfield 26, 3) := by decide +kernel
theorem dX4_lightOn_18 : decode cX4_lightOn 18 = .ok (.iload_n 1, 1) := by decide +kernel
theorem dX4_lightOn_19 : decode cX4_lightOn 19 = .ok (.iaload, 1) := by decide +kernel
theorem dX4_lightOn_20 : decode cX4_lightOn 20 = .ok (.istore 4, 2) := by decide +kernel
theorem dX4_lightOn_22 : decode cX4_lightOn 22 = .ok (.iload 4, 2) := by decide +kernel
theorem dX4_lightOn_24 : decode cX4_lightOn 24 = .ok (.ifCond .ne 5, 3) := by decide +kernel
theorem dX4_lightOn_27 : decode cX4_lightOn 27 = .ok (.iconst 1, 1) := by decide +kernel
theorem dX4_lightOn_28 : decode cX4_lightOn 28 = .ok (.ireturn, 1) := by decide +kernel
theorem dX4_lightOn_29 : decode cX4_lightOn 29 = .ok (.aload_n 0, 1) := by decide +kernel
theorem dX4_lightOn_30 : decode cX4_lightOn 30 = .ok (.getfield 23, 3) := by decide +kernel
theorem dX4_lightOn_33 : decode cX4_lightOn 33 = .ok (.iload_n 1, 1) := by decide +kernel
theorem dX4_lightOn_34 : decode cX4_lightOn 34 = .ok (.aaload, 1) := by decide +kernel
theorem dX4_lightOn_35 : decode cX4_lightOn 35 = .ok (.iload_n 3, 1) := by decide +kernel
theorem dX4_lightOn_36 : decode cX4_lightOn 36 = .ok (.iload 4, 2) := by decide +kernel
theorem dX4_lightOn_38 : decode cX4_lightOn 38 = .ok (.iconst 1, 1) := by decide +kernel
theorem dX4_lightOn_39 : decode cX4_lightOn 39 = .ok (.isub, 1) := by decide +kernel
theorem dX4_lightOn_40 : decode cX4_lightOn 40 = .ok (.invokestatic 46, 3) := by decide +kernel
theorem dX4_lightOn_43 : decode cX4_lightOn 43 = .ok (.baload, 1) := by decide +kernel
theorem dX4_lightOn_44 : decode cX4_lightOn 44 = .ok (.ireturn, 1) := by decide +kernel
theorem dX4_isNewsThere_0 : decode cX4_isNewsThere 0 = .ok (.iload_n 3, 1) := by decide +kernel
theorem dX4_isNewsThere_1 : decode cX4_isNewsThere 1 = .ok (.aload_n 0, 1) := by decide +kernel
theorem dX4_isNewsThere_2 : decode cX4_isNewsThere 2 = .ok (.getfield 31, 3) := by decide +kernel
theorem dX4_isNewsThere_5 : decode cX4_isNewsThere 5 = .ok (.iload_n 1, 1) := by decide +kernel
theorem dX4_isNewsThere_6 : decode cX4_isNewsThere 6 = .ok (.aaload, 1) := by decide +kernel
theorem dX4_isNewsThere_7 : decode cX4_isNewsThere 7 = .ok (.iload_n 2, 1) := by decide +kernel
theorem dX4_isNewsThere_8 : decode cX4_isNewsThere 8 = .ok (.iaload, 1) := by decide +kernel
theorem dX4_isNewsThere_9 : decode cX4_isNewsThere 9 = .ok (.iadd, 1) := by decide +kernel
theorem dX4_isNewsThere_10 : decode cX4_isNewsThere 10 = .ok (.iload 4, 2) := by decide +kernel
theorem dX4_isNewsThere_12 : decode cX4_isNewsThere 12 = .ok (.if_icmp .gt 7, 3) := by decide +kernel
theorem dX4_isNewsThere_15 : decode cX4_isNewsThere 15 = .ok (.iconst 1, 1) := by decide +kernel
theorem dX4_isNewsThere_16 : decode cX4_isNewsThere 16 = .ok (.goto 4, 3) := by decide +kernel
theorem dX4_isNewsThere_19 : decode cX4_isNewsThere 19 = .ok (.iconst 0, 1) := by decide +kernel
theorem dX4_isNewsThere_20 : decode cX4_isNewsThere 20 = .ok (.ireturn, 1) := by decide +kernel
