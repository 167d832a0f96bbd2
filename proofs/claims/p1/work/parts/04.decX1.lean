theorem dX1_init_0 : decode cX1_init 0 = .ok (.aload_n 0, 1) := by decide +kernel
theorem dX1_init_1 : decode cX1_init 1 = .ok (.invokespecial 1, 3) := by decide +kernel
theorem dX1_init_4 : decode cX1_init 4 = .ok (.aload_n 0, 1) := by decide +kernel
theorem dX1_init_5 : decode cX1_init 5 = .ok (.iconst 1, 1) := by decide +kernel
theorem dX1_init_6 : decode cX1_init 6 = .ok (.putfield 7, 3) := by decide +kernel
theorem dX1_init_9 : decode cX1_init 9 = .ok (.aload_n 0, 1) := by decide +kernel
theorem dX1_init_10 : decode cX1_init 10 = .ok (.bipush 7, 2) := by decide +kernel
theorem dX1_init_12 : decode cX1_init 12 = .ok (.newarray .int, 2) := by decide +kernel
theorem dX1_init_14 : decode cX1_init 14 = .ok (.putfield 13, 3) := by decide +kernel
theorem dX1_init_17 : decode cX1_init 17 = .ok (.aload_n 0, 1) := by decide +kernel
theorem dX1_init_18 : decode cX1_init 18 = .ok (.bipush 7, 2) := by decide +kernel
theorem dX1_init_20 : decode cX1_init 20 = .ok (.iconst 3, 1) := by decide +kernel
theorem dX1_init_21 : decode cX1_init 21 = .ok (.multianewarray 17 2, 4) := by decide +kernel
theorem dX1_init_25 : decode cX1_init 25 = .ok (.putfield 19, 3) := by decide +kernel
theorem dX1_init_28 : decode cX1_init 28 = .ok (.aload_n 0, 1) := by decide +kernel
theorem dX1_init_29 : decode cX1_init 29 = .ok (.iconst (-1), 1) := by decide +kernel
theorem dX1_init_30 : decode cX1_init 30 = .ok (.putfield 22, 3) := by decide +kernel
theorem dX1_init_33 : decode cX1_init 33 = .ok (.aload_n 0, 1) := by decide +kernel
theorem dX1_init_34 : decode cX1_init 34 = .ok (.iconst (-1), 1) := by decide +kernel
theorem dX1_init_35 : decode cX1_init 35 = .ok (.putfield 25, 3) := by decide +kernel
theorem dX1_init_38 : decode cX1_init 38 = .ok (.aload_n 0, 1) := by decide +kernel
theorem dX1_init_39 : decode cX1_init 39 = .ok (.iconst (-1), 1) := by decide +kernel
theorem dX1_init_40 : decode cX1_init 40 = .ok (.putfield 28, 3) := by decide +kernel
theorem dX1_init_43 : decode cX1_init 43 = .ok (.aload_n 0, 1) := by decide +kernel
theorem dX1_init_44 : decode cX1_init 44 = .ok (.bipush 7, 2) := by decide +kernel
theorem dX1_init_46 : decode cX1_init 46 = .ok (.newarray .int, 2) := by decide +kernel
theorem dX1_init_48 : decode cX1_init 48 = .ok (.putfield 31, 3) := by decide +kernel
theorem dX1_init_51 : decode cX1_init 51 = .ok (.aload_n 0, 1) := by decide +kernel
theorem dX1_init_52 : decode cX1_init 52 = .ok (.bipush 7, 2) := by decide +kernel
theorem dX1_init_54 : decode cX1_init 54 = .ok (.bipush 7, 2) := by decide +kernel
theorem dX1_init_56 : decode cX1_init 56 = .ok (.multianewarray 17 2, 4) := by decide +kernel
theorem dX1_init_60 : decode cX1_init 60 = .ok (.putfield 34, 3) := by decide +kernel
theorem dX1_init_63 : decode cX1_init 63 = .ok (.return_, 1) := by decide +kernel
theorem dX1_thrown_0 : decode cX1_thrown 0 = .ok (.aload_n 0, 1) := by decide +kernel
theorem dX1_thrown_1 : decode cX1_thrown 1 = .ok (.getfield 37, 3) := by decide +kernel
theorem dX1_thrown_4 : decode cX1_thrown 4 = .ok (.ireturn, 1) := by decide +kernel
theorem dX1_no_0 : decode cX1_no 0 = .ok (.aload_n 0, 1) := by decide +kernel
theorem dX1_no_1 : decode cX1_no 1 = .ok (.iload_n 1, 1) := by decide +kernel
theorem dX1_no_2 : decode cX1_no 2 = .ok (.putfield 37, 3) := by decide +kernel
theorem dX1_no_5 : decode cX1_no 5 = .ok (.iconst 0, 1) := by decide +kernel
theorem dX1_no_6 : decode cX1_no 6 = .ok (.ireturn, 1) := by decide +kernel
theorem dX1_isIn_0 : decode cX1_isIn 0 = .ok (.iload_n 0, 1) := by decide +kernel
theorem dX1_isIn_1 : decode cX1_isIn 1 = .ok (.iload_n 1, 1) := by decide +kernel
theorem dX1_isIn_2 : decode cX1_isIn 2 = .ok (.if_icmp .lt 12, 3) := by decide +kernel
theorem dX1_isIn_5 : decode cX1_isIn 5 = .ok (.iload_n 0, 1) := by decide +kernel
theorem dX1_isIn_6 : decode cX1_isIn 6 = .ok (.iload_n 2, 1) := by decide +kernel
theorem dX1_isIn_7 : decode cX1_isIn 7 = .ok (.if_icmp .gt 7, 3) := by decide +kernel
theorem dX1_isIn_10 : decode cX1_isIn 10 = .ok (.iconst 1, 1) := by decide +kernel
theorem dX1_isIn_11 : decode cX1_isIn 11 = .ok (.goto 4, 3) := by decide +kernel
theorem dX1_isIn_14 : decode cX1_isIn 14 = .ok (.iconst 0, 1) := by decide +kernel
theorem dX1_isIn_15 : decode cX1_isIn 15 = .ok (.ireturn, 1) := by decide +kernel
set_option maxRecDepth 20000 in
theorem ggX1_isGeneral_X1_isIn : GoodIn wsX1_isGeneral wsX1_isIn := goodIn_r _ [5] (by decide +kernel) (by decide +kernel)
set_option maxRecDepth 20000 in
theorem gX1_isGeneral_X1_isIn : GoodIn wsX1_isGeneral (va_wsS RX1 43 yX1_isIn wsX1_isIn) := goodIn_app (goodIn_of _ (by decide +kernel)) ggX1_isGeneral_X1_isIn
theorem dX1_isGeneral_0 : decode cX1_isGeneral 0 = .ok (.iload_n 1, 1) := by decide +kernel
theorem dX1_isGeneral_1 : decode cX1_isGeneral 1 = .ok (.iconst 0, 1) := by decide +kernel
theorem dX1_isGeneral_2 : decode cX1_isGeneral 2 = .ok (.aload_n 0, 1) := by decide +kernel
theorem dX1_isGeneral_3 : decode cX1_isGeneral 3 = .ok (.getfield 40, 3) := by decide +kernel
theorem dX1_isGeneral_6 : decode cX1_isGeneral 6 = .ok (.iconst 1, 1) := by decide +kernel
theorem dX1_isGeneral_7 : decode cX1_isGeneral 7 = .ok (.isub, 1) := by decide +kernel
theorem dX1_isGeneral_8 : decode cX1_isGeneral 8 = .ok (.invokestatic 43, 3) := by decide +kernel
theorem dX1_isGeneral_11 : decode cX1_isGeneral 11 = .ok (.ireturn, 1) := by decide +kernel
set_option maxRecDepth 20000 in
theorem ggX1_runners_X1_runners : GoodIn wsX1_runners wsX1_runners := goodIn_r _ [0, 1, 2, 3] (by decide +kernel) (by decide +kernel)
set_option maxRecDepth 20000 in
theorem gX1_runners_X1_runners : GoodIn wsX1_runners (va_wsS RX1 64 yX1_runners wsX1_runners) := goodIn_app (goodIn_of _ (by decide +kernel)) ggX1_runners_X1_runners
theorem dX1_runners_0 : decode cX1_runners 0 = .ok (.iload_n 0, 1) := by decide +kernel
theorem dX1_runners_1 : decode cX1_runners 1 = .ok (.iconst 2, 1) := by decide +kernel
theorem dX1_runners_2 : decode cX1_runners 2 = .ok (.if_icmp .ge 5, 3) := by decide +kernel
theorem dX1_runners_5 : decode cX1_runners 5 = .ok (.iconst 0, 1) := by decide +kernel
theorem dX1_runners_6 : decode cX1_runners 6 = .ok (.ireturn, 1) := by decide +kernel
theorem dX1_runners_7 : decode cX1_runners 7 = .ok (.iload_n 1, 1) := by decide +kernel
theorem dX1_runners_8 : decode cX1_runners 8 = .ok (.ifCond .ne 9, 3) := by decide +kernel
theorem dX1_runners_11 : decode cX1_runners 11 = .ok (.iload_n 0, 1) := by decide +kernel
theorem dX1_runners_12 : decode cX1_runners 12 = .ok (.iconst 1, 1) := by decide +kernel
theorem dX1_runners_13 : decode cX1_runners 13 = .ok (.isub, 1) := by decide +kernel
theorem dX1_runners_14 : decode cX1_runners 14 = .ok (.goto 18, 3) := by decide +kernel
theorem dX1_runners_17 : decode cX1_runners 17 = .ok (.iload_n 0, 1) := by decide +kernel
theorem dX1_runners_18 : decode cX1_runners 18 = .ok (.iconst 1, 1) := by decide +kernel
theorem dX1_runners_19 : decode cX1_runners 19 = .ok (.isub, 1) := by decide +kernel
theorem dX1_runners_20 : decode cX1_runners 20 = .ok (.iconst 1, 1) := by decide +kernel
theorem dX1_runners_21 : decode cX1_runners 21 = .ok (.iload_n 0, 1) := by decide +kernel
theorem dX1_runners_22 : decode cX1_runners 22 = .ok (.iconst 1, 1) := by decide +kernel
theorem dX1_runners_23 : decode cX1_runners 23 = .ok (.isub, 1) := by decide +kernel
theorem dX1_runners_24 : decode cX1_runners 24 = .ok (.iload_n 1, 1) := by decide +kernel
theorem dX1_runners_25 : decode cX1_runners 25 = .ok (.iconst 1, 1) := by decide +kernel
theorem dX1_runners_26 : decode cX1_runners 26 = .ok (.isub, 1) := by decide +kernel
theorem dX1_runners_27 : decode cX1_runners 27 = .ok (.invokestatic 64, 3) := by decide +kernel
theorem dX1_runners_30 : decode cX1_runners 30 = .ok (.iadd, 1) := by decide +kernel
theorem dX1_runners_31 : decode cX1_runners 31 = .ok (.imul, 1) := by decide +kernel
theorem dX1_runners_32 : decode cX1_runners 32 = .ok (.ireturn, 1) := by decide +kernel
set_option maxRecDepth 20000 in
theorem ggX1_come_X1_no : GoodIn wsX1_come wsX1_no := goodIn_r _ [7, 1, 8, 9, 10, 11, 12, 13, 14, 15, 16, 17, 18, 19] (by decide +kernel) (by decide +kernel)
set_option maxRecDepth 20000 in
theorem gX1_come_X1_no : GoodIn wsX1_come (wsV RX1 72 RX1 yX1_no wsX1_no) := goodIn_app (goodIn_of _ (by decide +kernel)) ggX1_come_X1_no
theorem dX1_come_0 : decode cX1_come 0 = .ok (.aload_n 0, 1) := by decide +kernel
theorem dX1_come_1 : decode cX1_come 1 = .ok (.iconst 0, 1) := by decide +kernel
theorem dX1_come_2 : decode cX1_come 2 = .ok (.putfield 37, 3) := by decide +kernel
theorem dX1_come_5 : decode cX1_come 5 = .ok (.aload_n 0, 1) := by decide +kernel
theorem dX1_come_6 : decode cX1_come 6 = .ok (.getfield 40, 3) := by decide +kernel
theorem dX1_come_9 : decode cX1_come 9 = .ok (.bipush 7, 2) := by decide +kernel
theorem dX1_come_11 : decode cX1_come 11 = .ok (.if_icmp .ne 9, 3) := by decide +kernel
theorem dX1_come_14 : decode cX1_come 14 = .ok (.aload_n 0, 1) := by decide +kernel
theorem dX1_come_15 : decode cX1_come 15 = .ok (.iconst 1, 1) := by decide +kernel
theorem dX1_come_16 : decode cX1_come 16 = .ok (.invokevirtual 72, 3) := by decide +kernel
theorem dX1_come_19 : decode cX1_come 19 = .ok (.ireturn, 1) := by decide +kernel
theorem dX1_come_20 : decode cX1_come 20 = .ok (.aload_n 0, 1) := by decide +kernel
theorem dX1_come_21 : decode cX1_come 21 = .ok (.dup, 1) := by decide +kernel
theorem dX1_come_22 : decode cX1_come 22 = .ok (.getfield 40, 3) := by decide +kernel
theorem dX1_come_25 : decode cX1_come 25 = .ok (.iconst 1, 1) := by decide +kernel
theorem dX1_come_26 : decode cX1_come 26 = .ok (.iadd, 1) := by decide +kernel
theorem dX1_come_27 : decode cX1_come 27 = .ok (.putfield 40, 3) := by decide +kernel
theorem dX1_come_30 : decode cX1_come 30 = .ok (.aload_n 0, 1) := by decide +kernel
theorem dX1_come_31 : decode cX1_come 31 = .ok (.getfield 40, 3) := by decide +kernel
theorem dX1_come_34 : decode cX1_come 34 = .ok (.iconst 1, 1) := by decide +kernel
theorem dX1_come_35 : decode cX1_come 35 = .ok (.isub, 1) := by decide +kernel
theorem dX1_come_36 : decode cX1_come 36 = .ok (.ireturn, 1) := by decide +kernel
set_option maxRecDepth 20000 in
theorem ggX1_setKind_X1_isGeneral : GoodIn wsX1_setKind wsX1_isGeneral := goodIn_r _ [7, 8, 9, 10, 6, 11, 16, 17, 18, 19, 20, 21, 22, 23, 24, 25, 26, 27] (by decide +kernel) (by decide +kernel)
set_option maxRecDepth 20000 in
theorem gX1_setKind_X1_isGeneral : GoodIn wsX1_setKind (wsV RX1 76 RX1 yX1_isGeneral wsX1_isGeneral) := goodIn_app (goodIn_of _ (by decide +kernel)) ggX1_setKind_X1_isGeneral
set_option maxRecDepth 20000 in
theorem ggX1_setKind_X1_isIn : GoodIn wsX1_setKind wsX1_isIn := goodIn_r _ [11] (by decide +kernel) (by decide +kernel)
set_option maxRecDepth 20000 in
theorem gX1_setKind_X1_isIn : GoodIn wsX1_setKind (va_wsS RX1 43 yX1_isIn wsX1_isIn) := goodIn_app (goodIn_of _ (by decide +kernel)) ggX1_setKind_X1_isIn
set_option maxRecDepth 20000 in
theorem ggX1_setKind_X1_no : GoodIn wsX1_setKind wsX1_no := goodIn_r _ [15, 1, 16, 17, 18, 19, 20, 21, 22, 23, 24, 25, 26, 27] (by decide +kernel) (by decide +kernel)
set_option maxRecDepth 20000 in
theorem gX1_setKind_X1_no : GoodIn wsX1_setKind (wsV RX1 72 RX1 yX1_no wsX1_no) := goodIn_app (goodIn_of _ (by decide +kernel)) ggX1_setKind_X1_no
theorem dX1_setKind_0 : decode cX1_setKind 0 = .ok (.aload_n 0, 1) := by decide +kernel
theorem dX1_setKind_1 : decode cX1_setKind 1 = .ok (.iconst 0, 1) := by decide +kernel
theorem dX1_setKind_2 : decode cX1_setKind 2 = .ok (.putfield 37, 3) := by decide +kernel
theorem dX1_setKind_5 : decode cX1_setKind 5 = .ok (.aload_n 0, 1) := by decide +kernel
theorem dX1_setKind_6 : decode cX1_setKind 6 = .ok (.iload_n 1, 1) := by decide +kernel
theorem dX1_setKind_7 : decode cX1_setKind 7 = .ok (.invokevirtual 76, 3) := by decide +kernel
theorem dX1_setKind_10 : decode cX1_setKind 10 = .ok (.ifCond .eq 12, 3) := by decide +kernel
theorem dX1_setKind_13 : decode cX1_setKind 13 = .ok (.iload_n 2, 1) := by decide +kernel
theorem dX1_setKind_14 : decode cX1_setKind 14 = .ok (.iconst 0, 1) := by decide +kernel
theorem dX1_setKind_15 : decode cX1_setKind 15 = .ok (.iconst 4, 1) := by decide +kernel
theorem dX1_setKind_16 : decode cX1_setKind 16 = .ok (.invokestatic 43, 3) := by decide +kernel
theorem dX1_setKind_19 : decode cX1_setKind 19 = .ok (.ifCond .ne 9, 3) := by decide +kernel
theorem dX1_setKind_22 : decode cX1_setKind 22 = .ok (.aload_n 0, 1) := by decide +kernel
theorem dX1_setKind_23 : decode cX1_setKind 23 = .ok (.iconst 1, 1) := by decide +kernel
theorem dX1_setKind_24 : decode cX1_setKind 24 = .ok (.invokevirtual 72, 3) := by decide +kernel
theorem dX1_setKind_27 : decode cX1_setKind 27 = .ok (.ireturn, 1) := by decide +kernel
theorem dX1_setKind_28 : decode cX1_setKind 28 = .ok (.aload_n 0, 1) := by decide +kernel
theorem dX1_setKind_29 : decode cX1_setKind 29 = .ok (.getfield 13, 3) := by decide +kernel
theorem dX1_setKind_32 : decode cX1_setKind 32 = .ok (.iload_n 1, 1) := by decide +kernel
theorem dX1_setKind_33 : decode cX1_setKind 33 = .ok (.iaload, 1) := by decide +kernel
theorem dX1_setKind_34 : decode cX1_setKind 34 = .ok (.istore_n 3, 1) := by decide +kernel
theorem dX1_setKind_35 : decode cX1_setKind 35 = .ok (.aload_n 0, 1) := by decide +kernel
theorem dX1_setKind_36 : decode cX1_setKind 36 = .ok (.getfield 13, 3) := by decide +kernel
theorem dX1_setKind_39 : decode cX1_setKind 39 = .ok (.iload_n 1, 1) := by decide +kernel
theorem dX1_setKind_40 : decode cX1_setKind 40 = .ok (.iload_n 2, 1) := by decide +kernel
theorem dX1_setKind_41 : decode cX1_setKind 41 = .ok (.iastore, 1) := by decide +kernel
theorem dX1_setKind_42 : decode cX1_setKind 42 = .ok (.iload_n 3, 1) := by decide +kernel
theorem dX1_setKind_43 : decode cX1_setKind 43 = .ok (.ireturn, 1) := by decide +kernel
set_option maxRecDepth 20000 in
theorem ggX1_setRounds_X1_isIn : GoodIn wsX1_setRounds wsX1_isIn := goodIn_r _ [6] (by decide +kernel) (by decide +kernel)
set_option maxRecDepth 20000 in
theorem gX1_setRounds_X1_isIn : GoodIn wsX1_setRounds (va_wsS RX1 43 yX1_isIn wsX1_isIn) := goodIn_app (goodIn_of _ (by decide +kernel)) ggX1_setRounds_X1_isIn
set_option maxRecDepth 20000 in
theorem ggX1_setRounds_X1_no : GoodIn wsX1_setRounds wsX1_no := goodIn_r _ [10, 1, 11, 12, 13, 14, 15, 16, 17, 18, 19, 20, 21, 22] (by decide +kernel) (by decide +kernel)
set_option maxRecDepth 20000 in
theorem gX1_setRounds_X1_no : GoodIn wsX1_setRounds (wsV RX1 72 RX1 yX1_no wsX1_no) := goodIn_app (goodIn_of _ (by decide +kernel)) ggX1_setRounds_X1_no
theorem dX1_setRounds_0 : decode cX1_setRounds 0 = .ok (.aload_n 0, 1) := by decide +kernel
theorem dX1_setRounds_1 : decode cX1_setRounds 1 = .ok (.iconst 0, 1) := by decide +kernel
theorem dX1_setRounds_2 : decode cX1_setRounds 2 = .ok (.putfield 37, 3) := by decide +kernel
theorem dX1_setRounds_5 : decode cX1_setRounds 5 = .ok (.iload_n 1, 1) := by decide +kernel
theorem dX1_setRounds_6 : decode cX1_setRounds 6 = .ok (.iconst 0, 1) := by decide +kernel
theorem dX1_setRounds_7 : decode cX1_setRounds 7 = .ok (.iconst 3, 1) := by decide +kernel
theorem dX1_setRounds_8 : decode cX1_setRounds 8 = .ok (.invokestatic 43, 3) := by decide +kernel
theorem dX1_setRounds_11 : decode cX1_setRounds 11 = .ok (.ifCond .ne 9, 3) := by decide +kernel
theorem dX1_setRounds_14 : decode cX1_setRounds 14 = .ok (.aload_n 0, 1) := by decide +kernel
theorem dX1_setRounds_15 : decode cX1_setRounds 15 = .ok (.iconst 1, 1) := by decide +kernel
theorem dX1_setRounds_16 : decode cX1_setRounds 16 = .ok (.invokevirtual 72, 3) := by decide +kernel
theorem dX1_setRounds_19 : decode cX1_setRounds 19 = .ok (.ireturn, 1) := by decide +kernel
theorem dX1_setRounds_20 : decode cX1_setRounds 20 = .ok (.aload_n 0, 1) := by decide +kernel
theorem dX1_setRounds_21 : decode cX1_setRounds 21 = .ok (.getfield 7, 3) := by decide +kernel
theorem dX1_setRounds_24 : decode cX1_setRounds 24 = .ok (.istore_n 2, 1) := by decide +kernel
theorem dX1_setRounds_25 : decode cX1_setRounds 25 = .ok (.aload_n 0, 1) := by decide +kernel
theorem dX1_setRounds_26 : decode cX1_setRounds 26 = .ok (.iload_n 1, 1) := by decide +kernel
theorem dX1_setRounds_27 : decode cX1_setRounds 27 = .ok (.putfield 7, 3) := by decide +kernel
theorem dX1_setRounds_30 : decode cX1_setRounds 30 = .ok (.iload_n 2, 1) := by decide +kernel
theorem dX1_setRounds_31 : decode cX1_setRounds 31 = .ok (.ireturn, 1) := by decide +kernel
set_option maxRecDepth 20000 in
theorem ggX1_hold_X1_isGeneral : GoodIn wsX1_hold wsX1_isGeneral := goodIn_r _ [15, 3, 16, 17, 14, 18, 54, 55, 56, 57, 58, 59, 60, 61, 62, 63, 64, 65] (by decide +kernel) (by decide +kernel)
set_option maxRecDepth 20000 in
theorem gX1_hold_X1_isGeneral : GoodIn wsX1_hold (wsV RX1 76 RX1 yX1_isGeneral wsX1_isGeneral) := goodIn_app (goodIn_of _ (by decide +kernel)) ggX1_hold_X1_isGeneral
set_option maxRecDepth 20000 in
theorem ggX1_hold_X1_no : GoodIn wsX1_hold wsX1_no := goodIn_r _ [22, 1, 54, 55, 56, 57, 58, 59, 60, 61, 62, 63, 64, 65] (by decide +kernel) (by decide +kernel)
set_option maxRecDepth 20000 in
theorem gX1_hold_X1_no : GoodIn wsX1_hold (wsV RX1 72 RX1 yX1_no wsX1_no) := goodIn_app (goodIn_of _ (by decide +kernel)) ggX1_hold_X1_no
set_option maxRecDepth 20000 in
theorem ggX1_hold_X1_isIn : GoodIn wsX1_hold wsX1_isIn := goodIn_r _ [18] (by decide +kernel) (by decide +kernel)
set_option maxRecDepth 20000 in
theorem gX1_hold_X1_isIn : GoodIn wsX1_hold (va_wsS RX1 43 yX1_isIn wsX1_isIn) := goodIn_app (goodIn_of _ (by decide +kernel)) ggX1_hold_X1_isIn
set_option maxRecDepth 20000 in
theorem ggX1_hold_X1_runners : GoodIn wsX1_hold wsX1_runners := goodIn_r _ [53, 51, 52, 14] (by decide +kernel) (by decide +kernel)
set_option maxRecDepth 20000 in
theorem gX1_hold_X1_runners : GoodIn wsX1_hold (va_wsS RX1 64 yX1_runners wsX1_runners) := goodIn_app (goodIn_of _ (by decide +kernel)) ggX1_hold_X1_runners
theorem dX1_hold_0 : decode cX1_hold 0 = .ok (.aload_n 0, 1) := by decide +kernel
theorem dX1_hold_1 : decode cX1_hold 1 = .ok (.iconst 0, 1) := by decide +kernel
theorem dX1_hold_2 : decode cX1_hold 2 = .ok (.putfield 37, 3) := by decide +kernel
theorem dX1_hold_5 : decode cX1_hold 5 = .ok (.aload_n 0, 1) := by decide +kernel
theorem dX1_hold_6 : decode cX1_hold 6 = .ok (.iload_n 1, 1) := by decide +kernel
theorem dX1_hold_7 : decode cX1_hold 7 = .ok (.invokevirtual 76, 3) := by decide +kernel
theorem dX1_hold_10 : decode cX1_hold 10 = .ok (.ifCond .ne 9, 3) := by decide +kernel
theorem dX1_hold_13 : decode cX1_hold 13 = .ok (.aload_n 0, 1) := by decide +kernel
theorem dX1_hold_14 : decode cX1_hold 14 = .ok (.iconst 1, 1) := by decide +kernel
theorem dX1_hold_15 : decode cX1_hold 15 = .ok (.invokevirtual 72, 3) := by decide +kernel
theorem dX1_hold_18 : decode cX1_hold 18 = .ok (.ireturn, 1) := by decide +kernel
theorem dX1_hold_19 : decode cX1_hold 19 = .ok (.iload_n 2, 1) := by decide +kernel
theorem dX1_hold_20 : decode cX1_hold 20 = .ok (.iconst 0, 1) := by decide +kernel
theorem dX1_hold_21 : decode cX1_hold 21 = .ok (.iconst 1, 1) := by decide +kernel
theorem dX1_hold_22 : decode cX1_hold 22 = .ok (.invokestatic 43, 3) := by decide +kernel
theorem dX1_hold_25 : decode cX1_hold 25 = .ok (.ifCond .ne 9, 3) := by decide +kernel
theorem dX1_hold_28 : decode cX1_hold 28 = .ok (.aload_n 0, 1) := by decide +kernel
theorem dX1_hold_29 : decode cX1_hold 29 = .ok (.iconst 2, 1) := by decide +kernel
theorem dX1_hold_30 : decode cX1_hold 30 = .ok (.invokevirtual 72, 3) := by decide +kernel
theorem dX1_hold_33 : decode cX1_hold 33 = .ok (.ireturn, 1) := by decide +kernel
theorem dX1_hold_34 : decode cX1_hold 34 = .ok (.aload_n 0, 1) := by decide +kernel
theorem dX1_hold_35 : decode cX1_hold 35 = .ok (.iload_n 1, 1) := by decide +kernel
theorem dX1_hold_36 : decode cX1_hold 36 = .ok (.iload_n 2, 1) := by decide +kernel
theorem dX1_hold_37 : decode cX1_hold 37 = .ok (.aload_n 0, 1) := by decide +kernel
theorem dX1_hold_38 : decode cX1_hold 38 = .ok (.getfield 7, 3) := by decide +kernel
theorem dX1_hold_41 : decode cX1_hold 41 = .ok (.invokevirtual 68, 3) := by decide +kernel
theorem dX1_hold_44 : decode cX1_hold 44 = .ok (.astore_n 3, 1) := by decide +kernel
theorem dX1_hold_45 : decode cX1_hold 45 = .ok (.aload_n 0, 1) := by decide +kernel
theorem dX1_hold_46 : decode cX1_hold 46 = .ok (.iload_n 1, 1) := by decide +kernel
theorem dX1_hold_47 : decode cX1_hold 47 = .ok (.iload_n 2, 1) := by decide +kernel
theorem dX1_hold_48 : decode cX1_hold 48 = .ok (.invokevirtual 80, 3) := by decide +kernel
theorem dX1_hold_51 : decode cX1_hold 51 = .ok (.aload_n 0, 1) := by decide +kernel
theorem dX1_hold_52 : decode cX1_hold 52 = .ok (.aload_n 0, 1) := by decide +kernel
theorem dX1_hold_53 : decode cX1_hold 53 = .ok (.getfield 40, 3) := by decide +kernel
theorem dX1_hold_56 : decode cX1_hold 56 = .ok (.putfield 84, 3) := by decide +kernel
theorem dX1_hold_59 : decode cX1_hold 59 = .ok (.aload_n 0, 1) := by decide +kernel
theorem dX1_hold_60 : decode cX1_hold 60 = .ok (.iload_n 1, 1) := by decide +kernel
theorem dX1_hold_61 : decode cX1_hold 61 = .ok (.putfield 22, 3) := by decide +kernel
theorem dX1_hold_64 : decode cX1_hold 64 = .ok (.aload_n 0, 1) := by decide +kernel
theorem dX1_hold_65 : decode cX1_hold 65 = .ok (.iload_n 2, 1) := by decide +kernel
theorem dX1_hold_66 : decode cX1_hold 66 = .ok (.putfield 25, 3) := by decide +kernel
theorem dX1_hold_69 : decode cX1_hold 69 = .ok (.aload_n 0, 1) := by decide +kernel
theorem dX1_hold_70 : decode cX1_hold 70 = .ok (.aload_n 0, 1) := by decide +kernel
theorem dX1_hold_71 : decode cX1_hold 71 = .ok (.getfield 40, 3) := by decide +kernel
theorem dX1_hold_74 : decode cX1_hold 74 = .ok (.aload_n 0, 1) := by decide +kernel
theorem dX1_hold_75 : decode cX1_hold 75 = .ok (.getfield 7, 3) := by decide +kernel
theorem dX1_hold_78 : decode cX1_hold 78 = .ok (.invokestatic 64, 3) := by decide +kernel
theorem dX1_hold_81 : decode cX1_hold 81 = .ok (.putfield 28, 3) := by decide +kernel
theorem dX1_hold_84 : decode cX1_hold 84 = .ok (.aload_n 0, 1) := by decide +kernel
theorem dX1_hold_85 : decode cX1_hold 85 = .ok (.dup, 1) := by decide +kernel
theorem dX1_hold_86 : decode cX1_hold 86 = .ok (.getfield 87, 3) := by decide +kernel
theorem dX1_hold_89 : decode cX1_hold 89 = .ok (.iconst 1, 1) := by decide +kernel
theorem dX1_hold_90 : decode cX1_hold 90 = .ok (.iadd, 1) := by decide +kernel
theorem dX1_hold_91 : decode cX1_hold 91 = .ok (.putfield 87, 3) := by decide +kernel
theorem dX1_hold_94 : decode cX1_hold 94 = .ok (.aload_n 0, 1) := by decide +kernel
theorem dX1_hold_95 : decode cX1_hold 95 = .ok (.getfield 19, 3) := by decide +kernel
theorem dX1_hold_98 : decode cX1_hold 98 = .ok (.iload_n 1, 1) := by decide +kernel
theorem dX1_hold_99 : decode cX1_hold 99 = .ok (.aaload, 1) := by decide +kernel
theorem dX1_hold_100 : decode cX1_hold 100 = .ok (.iconst 1, 1) := by decide +kernel
theorem dX1_hold_101 : decode cX1_hold 101 = .ok (.dup2, 1) := by decide +kernel
theorem dX1_hold_102 : decode cX1_hold 102 = .ok (.iaload, 1) := by decide +kernel
theorem dX1_hold_103 : decode cX1_hold 103 = .ok (.iconst 1, 1) := by decide +kernel
theorem dX1_hold_104 : decode cX1_hold 104 = .ok (.iadd, 1) := by decide +kernel
theorem dX1_hold_105 : decode cX1_hold 105 = .ok (.iastore, 1) := by decide +kernel
theorem dX1_hold_106 : decode cX1_hold 106 = .ok (.iconst 0, 1) := by decide +kernel
theorem dX1_hold_107 : decode cX1_hold 107 = .ok (.istore 4, 2) := by decide +kernel
theorem dX1_hold_109 : decode cX1_hold 109 = .ok (.iconst 0, 1) := by decide +kernel
theorem dX1_hold_110 : decode cX1_hold 110 = .ok (.istore 5, 2) := by decide +kernel
theorem dX1_hold_112 : decode cX1_hold 112 = .ok (.iload 5, 2) := by decide +kernel
theorem dX1_hold_114 : decode cX1_hold 114 = .ok (.aload_n 0, 1) := by decide +kernel
theorem dX1_hold_115 : decode cX1_hold 115 = .ok (.getfield 40, 3) := by decide +kernel
theorem dX1_hold_118 : decode cX1_hold 118 = .ok (.if_icmp .ge 70, 3) := by decide +kernel
theorem dX1_hold_121 : decode cX1_hold 121 = .ok (.aload_n 0, 1) := by decide +kernel
theorem dX1_hold_122 : decode cX1_hold 122 = .ok (.getfield 31, 3) := by decide +kernel
theorem dX1_hold_125 : decode cX1_hold 125 = .ok (.iload 5, 2) := by decide +kernel
theorem dX1_hold_127 : decode cX1_hold 127 = .ok (.aload_n 3, 1) := by decide +kernel
theorem dX1_hold_128 : decode cX1_hold 128 = .ok (.iload 5, 2) := by decide +kernel
theorem dX1_hold_130 : decode cX1_hold 130 = .ok (.iaload, 1) := by decide +kernel
theorem dX1_hold_131 : decode cX1_hold 131 = .ok (.iastore, 1) := by decide +kernel
theorem dX1_hold_132 : decode cX1_hold 132 = .ok (.iload 4, 2) := by decide +kernel
theorem dX1_hold_134 : decode cX1_hold 134 = .ok (.aload_n 3, 1) := by decide +kernel
theorem dX1_hold_135 : decode cX1_hold 135 = .ok (.iload 5, 2) := by decide +kernel
theorem dX1_hold_137 : decode cX1_hold 137 = .ok (.iaload, 1) := by decide +kernel
theorem dX1_hold_138 : decode cX1_hold 138 = .ok (.iadd, 1) := by decide +kernel
theorem dX1_hold_139 : decode cX1_hold 139 = .ok (.istore 4, 2) := by decide +kernel
theorem dX1_hold_141 : decode cX1_hold 141 = .ok (.aload_n 0, 1) := by decide +kernel
theorem dX1_hold_142 : decode cX1_hold 142 = .ok (.getfield 19, 3) := by decide +kernel
theorem dX1_hold_145 : decode cX1_hold 145 = .ok (.iload 5, 2) := by decide +kernel
theorem dX1_hold_147 : decode cX1_hold 147 = .ok (.aaload, 1) := by decide +kernel
theorem dX1_hold_148 : decode cX1_hold 148 = .ok (.iconst 0, 1) := by decide +kernel
theorem dX1_hold_149 : decode cX1_hold 149 = .ok (.dup2, 1) := by decide +kernel
theorem dX1_hold_150 : decode cX1_hold 150 = .ok (.iaload, 1) := by decide +kernel
theorem dX1_hold_151 : decode cX1_hold 151 = .ok (.aload_n 3, 1) := by decide +kernel
theorem dX1_hold_152 : decode cX1_hold 152 = .ok (.iload 5, 2) := by decide +kernel
theorem dX1_hold_154 : decode cX1_hold 154 = .ok (.iaload, 1) := by decide +kernel
theorem dX1_hold_155 : decode cX1_hold 155 = .ok (.iadd, 1) := by decide +kernel
theorem dX1_hold_156 : decode cX1_hold 156 = .ok (.iastore, 1) := by decide +kernel
theorem dX1_hold_157 : decode cX1_hold 157 = .ok (.aload_n 0, 1) := by decide +kernel
theorem dX1_hold_158 : decode cX1_hold 158 = .ok (.getfield 19, 3) := by decide +kernel
theorem dX1_hold_161 : decode cX1_hold 161 = .ok (.iload 5, 2) := by decide +kernel
theorem dX1_hold_163 : decode cX1_hold 163 = .ok (.aaload, 1) := by decide +kernel
theorem dX1_hold_164 : decode cX1_hold 164 = .ok (.iconst 2, 1) := by decide +kernel
theorem dX1_hold_165 : decode cX1_hold 165 = .ok (.dup2, 1) := by decide +kernel
theorem dX1_hold_166 : decode cX1_hold 166 = .ok (.iaload, 1) := by decide +kernel
theorem dX1_hold_167 : decode cX1_hold 167 = .ok (.aload_n 3, 1) := by decide +kernel
theorem dX1_hold_168 : decode cX1_hold 168 = .ok (.iload 5, 2) := by decide +kernel
theorem dX1_hold_170 : decode cX1_hold 170 = .ok (.iaload, 1) := by decide +kernel
theorem dX1_hold_171 : decode cX1_hold 171 = .ok (.iload_n 2, 1) := by decide +kernel
theorem dX1_hold_172 : decode cX1_hold 172 = .ok (.if_icmp .ne 7, 3) := by decide +kernel
theorem dX1_hold_175 : decode cX1_hold 175 = .ok (.iconst 0, 1) := by decide +kernel
theorem dX1_hold_176 : decode cX1_hold 176 = .ok (.goto 4, 3) := by decide +kernel
theorem dX1_hold_179 : decode cX1_hold 179 = .ok (.iconst 1, 1) := by decide +kernel
theorem dX1_hold_180 : decode cX1_hold 180 = .ok (.iadd, 1) := by decide +kernel
theorem dX1_hold_181 : decode cX1_hold 181 = .ok (.iastore, 1) := by decide +kernel
theorem dX1_hold_182 : decode cX1_hold 182 = .ok (.iinc 5 1, 3) := by decide +kernel
theorem dX1_hold_185 : decode cX1_hold 185 = .ok (.goto (-73), 3) := by decide +kernel
theorem dX1_hold_188 : decode cX1_hold 188 = .ok (.iload 4, 2) := by decide +kernel
theorem dX1_hold_190 : decode cX1_hold 190 = .ok (.ireturn, 1) := by decide +kernel
set_option maxRecDepth 20000 in
theorem ggX1_wasThere_X1_isGeneral : GoodIn wsX1_wasThere wsX1_isGeneral := goodIn_r _ [7, 8, 9, 10, 6, 11, 12, 13, 14, 15, 16, 17, 18, 19, 20, 21, 22, 23] (by decide +kernel) (by decide +kernel)
set_option maxRecDepth 20000 in
theorem gX1_wasThere_X1_isGeneral : GoodIn wsX1_wasThere (wsV RX1 76 RX1 yX1_isGeneral wsX1_isGeneral) := goodIn_app (goodIn_of _ (by decide +kernel)) ggX1_wasThere_X1_isGeneral
theorem dX1_wasThere_0 : decode cX1_wasThere 0 = .ok (.aload_n 0, 1) := by decide +kernel
theorem dX1_wasThere_1 : decode cX1_wasThere 1 = .ok (.iload_n 1, 1) := by decide +kernel
theorem dX1_wasThere_2 : decode cX1_wasThere 2 = .ok (.invokevirtual 76, 3) := by decide +kernel
theorem dX1_wasThere_5 : decode cX1_wasThere 5 = .ok (.ifCond .eq 22, 3) := by decide +kernel
theorem dX1_wasThere_8 : decode cX1_wasThere 8 = .ok (.aload_n 0, 1) := by decide +kernel
theorem dX1_wasThere_9 : decode cX1_wasThere 9 = .ok (.getfield 87, 3) := by decide +kernel
theorem dX1_wasThere_12 : decode cX1_wasThere 12 = .ok (.ifCond .eq 11, 3) := by decide +kernel
theorem dX1_wasThere_15 : decode cX1_wasThere 15 = .ok (.iload_n 1, 1) := by decide +kernel
theorem dX1_wasThere_16 : decode cX1_wasThere 16 = .ok (.aload_n 0, 1) := by decide +kernel
theorem dX1_wasThere_17 : decode cX1_wasThere 17 = .ok (.getfield 84, 3) := by decide +kernel
theorem dX1_wasThere_20 : decode cX1_wasThere 20 = .ok (.if_icmp .ge 7, 3) := by decide +kernel
theorem dX1_wasThere_23 : decode cX1_wasThere 23 = .ok (.iconst 1, 1) := by decide +kernel
theorem dX1_wasThere_24 : decode cX1_wasThere 24 = .ok (.goto 4, 3) := by decide +kernel
theorem dX1_wasThere_27 : decode cX1_wasThere 27 = .ok (.iconst 0, 1) := by decide +kernel
theorem dX1_wasThere_28 : decode cX1_wasThere 28 = .ok (.ireturn, 1) := by decide +kernel
set_option maxRecDepth 20000 in
theorem ggX1_does_X1_wasThere : GoodIn wsX1_does wsX1_wasThere := goodIn_r _ [8, 2, 9, 10, 11, 12, 7, 13, 14, 15, 16, 17, 22, 23, 24, 25, 26, 27, 28, 29, 30, 31, 32, 33] (by decide +kernel) (by decide +kernel)
set_option maxRecDepth 20000 in
theorem gX1_does_X1_wasThere : GoodIn wsX1_does (wsV RX1 90 RX1 yX1_wasThere wsX1_wasThere) := goodIn_app (goodIn_of _ (by decide +kernel)) ggX1_does_X1_wasThere
set_option maxRecDepth 20000 in
theorem ggX1_does_X1_no : GoodIn wsX1_does wsX1_no := goodIn_r _ [21, 1, 22, 23, 24, 25, 26, 27, 28, 29, 30, 31, 32, 33] (by decide +kernel) (by decide +kernel)
set_option maxRecDepth 20000 in
theorem gX1_does_X1_no : GoodIn wsX1_does (wsV RX1 72 RX1 yX1_no wsX1_no) := goodIn_app (goodIn_of _ (by decide +kernel)) ggX1_does_X1_no
theorem dX1_does_0 : decode cX1_does 0 = .ok (.aload_n 0, 1) := by decide +kernel
theorem dX1_does_1 : decode cX1_does 1 = .ok (.iconst 0, 1) := by decide +kernel
theorem dX1_does_2 : decode cX1_does 2 = .ok (.putfield 37, 3) := by decide +kernel
theorem dX1_does_5 : decode cX1_does 5 = .ok (.aload_n 0, 1) := by decide +kernel
theorem dX1_does_6 : decode cX1_does 6 = .ok (.iload_n 1, 1) := by decide +kernel
theorem dX1_does_7 : decode cX1_does 7 = .ok (.invokevirtual 90, 3) := by decide +kernel
theorem dX1_does_10 : decode cX1_does 10 = .ok (.ifCond .ne 9, 3) := by decide +kernel
theorem dX1_does_13 : decode cX1_does 13 = .ok (.aload_n 0, 1) := by decide +kernel
theorem dX1_does_14 : decode cX1_does 14 = .ok (.iconst 1, 1) := by decide +kernel
theorem dX1_does_15 : decode cX1_does 15 = .ok (.invokevirtual 72, 3) := by decide +kernel
theorem dX1_does_18 : decode cX1_does 18 = .ok (.ireturn, 1) := by decide +kernel
theorem dX1_does_19 : decode cX1_does 19 = .ok (.aload_n 0, 1) := by decide +kernel
theorem dX1_does_20 : decode cX1_does 20 = .ok (.getfield 87, 3) := by decide +kernel
theorem dX1_does_23 : decode cX1_does 23 = .ok (.ifCond .ne 11, 3) := by decide +kernel
theorem dX1_does_26 : decode cX1_does 26 = .ok (.aload_n 0, 1) := by decide +kernel
theorem dX1_does_27 : decode cX1_does 27 = .ok (.iconst 2, 1) := by decide +kernel
theorem dX1_does_28 : decode cX1_does 28 = .ok (.invokevirtual 72, 3) := by decide +kernel
theorem dX1_does_31 : decode cX1_does 31 = .ok (.goto 9, 3) := by decide +kernel
theorem dX1_does_34 : decode cX1_does 34 = .ok (.aload_n 0, 1) := by decide +kernel
theorem dX1_does_35 : decode cX1_does 35 = .ok (.getfield 31, 3) := by decide +kernel
theorem dX1_does_38 : decode cX1_does 38 = .ok (.iload_n 1, 1) := by decide +kernel
theorem dX1_does_39 : decode cX1_does 39 = .ok (.iaload, 1) := by decide +kernel
theorem dX1_does_40 : decode cX1_does 40 = .ok (.ireturn, 1) := by decide +kernel
set_option maxRecDepth 20000 in
theorem ggX1_took_X1_wasThere : GoodIn wsX1_took wsX1_wasThere := goodIn_r _ [9, 2, 10, 11, 12, 13, 8, 14, 15, 16, 17, 18, 23, 24, 25, 26, 27, 28, 29, 30, 31, 32, 33, 34] (by decide +kernel) (by decide +kernel)
set_option maxRecDepth 20000 in
theorem gX1_took_X1_wasThere : GoodIn wsX1_took (wsV RX1 90 RX1 yX1_wasThere wsX1_wasThere) := goodIn_app (goodIn_of _ (by decide +kernel)) ggX1_took_X1_wasThere
set_option maxRecDepth 20000 in
theorem ggX1_took_X1_no : GoodIn wsX1_took wsX1_no := goodIn_r _ [22, 1, 23, 24, 25, 26, 27, 28, 29, 30, 31, 32, 33, 34] (by decide +kernel) (by decide +kernel)
set_option maxRecDepth 20000 in
theorem gX1_took_X1_no : GoodIn wsX1_took (wsV RX1 72 RX1 yX1_no wsX1_no) := goodIn_app (goodIn_of _ (by decide +kernel)) ggX1_took_X1_no
theorem dX1_took_0 : decode cX1_took 0 = .ok (.aload_n 0, 1) := by decide +kernel
theorem dX1_took_1 : decode cX1_took 1 = .ok (.iconst 0, 1) := by decide +kernel
theorem dX1_took_2 : decode cX1_took 2 = .ok (.putfield 37, 3) := by decide +kernel
theorem dX1_took_5 : decode cX1_took 5 = .ok (.aload_n 0, 1) := by decide +kernel
theorem dX1_took_6 : decode cX1_took 6 = .ok (.iload_n 1, 1) := by decide +kernel
theorem dX1_took_7 : decode cX1_took 7 = .ok (.invokevirtual 90, 3) := by decide +kernel
theorem dX1_took_10 : decode cX1_took 10 = .ok (.ifCond .eq 11, 3) := by decide +kernel
theorem dX1_took_13 : decode cX1_took 13 = .ok (.aload_n 0, 1) := by decide +kernel
theorem dX1_took_14 : decode cX1_took 14 = .ok (.iload_n 2, 1) := by decide +kernel
theorem dX1_took_15 : decode cX1_took 15 = .ok (.invokevirtual 90, 3) := by decide +kernel
theorem dX1_took_18 : decode cX1_took 18 = .ok (.ifCond .ne 9, 3) := by decide +kernel
theorem dX1_took_21 : decode cX1_took 21 = .ok (.aload_n 0, 1) := by decide +kernel
theorem dX1_took_22 : decode cX1_took 22 = .ok (.iconst 1, 1) := by decide +kernel
theorem dX1_took_23 : decode cX1_took 23 = .ok (.invokevirtual 72, 3) := by decide +kernel
theorem dX1_took_26 : decode cX1_took 26 = .ok (.ireturn, 1) := by decide +kernel
theorem dX1_took_27 : decode cX1_took 27 = .ok (.aload_n 0, 1) := by decide +kernel
theorem dX1_took_28 : decode cX1_took 28 = .ok (.getfield 87, 3) := by decide +kernel
theorem dX1_took_31 : decode cX1_took 31 = .ok (.ifCond .eq 11, 3) := by decide +kernel
theorem dX1_took_34 : decode cX1_took 34 = .ok (.iload_n 1, 1) := by decide +kernel
theorem dX1_took_35 : decode cX1_took 35 = .ok (.aload_n 0, 1) := by decide +kernel
theorem dX1_took_36 : decode cX1_took 36 = .ok (.getfield 22, 3) := by decide +kernel
theorem dX1_took_39 : decode cX1_took 39 = .ok (.if_icmp .ne 11, 3) := by decide +kernel
theorem dX1_took_42 : decode cX1_took 42 = .ok (.aload_n 0, 1) := by decide +kernel
theorem dX1_took_43 : decode cX1_took 43 = .ok (.iconst 2, 1) := by decide +kernel
theorem dX1_took_44 : decode cX1_took 44 = .ok (.invokevirtual 72, 3) := by decide +kernel
theorem dX1_took_47 : decode cX1_took 47 = .ok (.goto 11, 3) := by decide +kernel
theorem dX1_took_50 : decode cX1_took 50 = .ok (.aload_n 0, 1) := by decide +kernel
theorem dX1_took_51 : decode cX1_took 51 = .ok (.getfield 34, 3) := by decide +kernel
theorem dX1_took_54 : decode cX1_took 54 = .ok (.iload_n 1, 1) := by decide +kernel
theorem dX1_took_55 : decode cX1_took 55 = .ok (.aaload, 1) := by decide +kernel
theorem dX1_took_56 : decode cX1_took 56 = .ok (.iload_n 2, 1) := by decide +kernel
theorem dX1_took_57 : decode cX1_took 57 = .ok (.iaload, 1) := by decide +kernel
theorem dX1_took_58 : decode cX1_took 58 = .ok (.ireturn, 1) := by decide +kernel
theorem dX1_loyalThatDo_0 : decode cX1_loyalThatDo 0 = .ok (.iconst 0, 1) := by decide +kernel
theorem dX1_loyalThatDo_1 : decode cX1_loyalThatDo 1 = .ok (.istore_n 2, 1) := by decide +kernel
theorem dX1_loyalThatDo_2 : decode cX1_loyalThatDo 2 = .ok (.iconst 0, 1) := by decide +kernel
theorem dX1_loyalThatDo_3 : decode cX1_loyalThatDo 3 = .ok (.istore_n 3, 1) := by decide +kernel
theorem dX1_loyalThatDo_4 : decode cX1_loyalThatDo 4 = .ok (.iload_n 3, 1) := by decide +kernel
theorem dX1_loyalThatDo_5 : decode cX1_loyalThatDo 5 = .ok (.aload_n 0, 1) := by decide +kernel
theorem dX1_loyalThatDo_6 : decode cX1_loyalThatDo 6 = .ok (.getfield 84, 3) := by decide +kernel
theorem dX1_loyalThatDo_9 : decode cX1_loyalThatDo 9 = .ok (.if_icmp .ge 36, 3) := by decide +kernel
theorem dX1_loyalThatDo_12 : decode cX1_loyalThatDo 12 = .ok (.iload_n 2, 1) := by decide +kernel
theorem dX1_loyalThatDo_13 : decode cX1_loyalThatDo 13 = .ok (.aload_n 0, 1) := by decide +kernel
theorem dX1_loyalThatDo_14 : decode cX1_loyalThatDo 14 = .ok (.getfield 13, 3) := by decide +kernel
theorem dX1_loyalThatDo_17 : decode cX1_loyalThatDo 17 = .ok (.iload_n 3, 1) := by decide +kernel
theorem dX1_loyalThatDo_18 : decode cX1_loyalThatDo 18 = .ok (.iaload, 1) := by decide +kernel
theorem dX1_loyalThatDo_19 : decode cX1_loyalThatDo 19 = .ok (.ifCond .ne 17, 3) := by decide +kernel
theorem dX1_loyalThatDo_22 : decode cX1_loyalThatDo 22 = .ok (.aload_n 0, 1) := by decide +kernel
theorem dX1_loyalThatDo_23 : decode cX1_loyalThatDo 23 = .ok (.getfield 31, 3) := by decide +kernel
theorem dX1_loyalThatDo_26 : decode cX1_loyalThatDo 26 = .ok (.iload_n 3, 1) := by decide +kernel
theorem dX1_loyalThatDo_27 : decode cX1_loyalThatDo 27 = .ok (.iaload, 1) := by decide +kernel
theorem dX1_loyalThatDo_28 : decode cX1_loyalThatDo 28 = .ok (.iload_n 1, 1) := by decide +kernel
theorem dX1_loyalThatDo_29 : decode cX1_loyalThatDo 29 = .ok (.if_icmp .ne 7, 3) := by decide +kernel
theorem dX1_loyalThatDo_32 : decode cX1_loyalThatDo 32 = .ok (.iconst 1, 1) := by decide +kernel
theorem dX1_loyalThatDo_33 : decode cX1_loyalThatDo 33 = .ok (.goto 4, 3) := by decide +kernel
theorem dX1_loyalThatDo_36 : decode cX1_loyalThatDo 36 = .ok (.iconst 0, 1) := by decide +kernel
theorem dX1_loyalThatDo_37 : decode cX1_loyalThatDo 37 = .ok (.iadd, 1) := by decide +kernel
theorem dX1_loyalThatDo_38 : decode cX1_loyalThatDo 38 = .ok (.istore_n 2, 1) := by decide +kernel
theorem dX1_loyalThatDo_39 : decode cX1_loyalThatDo 39 = .ok (.iinc 3 1, 3) := by decide +kernel
theorem dX1_loyalThatDo_42 : decode cX1_loyalThatDo 42 = .ok (.goto (-38), 3) := by decide +kernel
theorem dX1_loyalThatDo_45 : decode cX1_loyalThatDo 45 = .ok (.aload_n 0, 1) := by decide +kernel
theorem dX1_loyalThatDo_46 : decode cX1_loyalThatDo 46 = .ok (.getfield 87, 3) := by decide +kernel
theorem dX1_loyalThatDo_49 : decode cX1_loyalThatDo 49 = .ok (.ifCond .ne 7, 3) := by decide +kernel
theorem dX1_loyalThatDo_52 : decode cX1_loyalThatDo 52 = .ok (.iconst (-1), 1) := by decide +kernel
theorem dX1_loyalThatDo_53 : decode cX1_loyalThatDo 53 = .ok (.goto 4, 3) := by decide +kernel
theorem dX1_loyalThatDo_56 : decode cX1_loyalThatDo 56 = .ok (.iload_n 2, 1) := by decide +kernel
theorem dX1_loyalThatDo_57 : decode cX1_loyalThatDo 57 = .ok (.ireturn, 1) := by decide +kernel
set_option maxRecDepth 20000 in
theorem ggX1_counted_X1_loyalThatDo : GoodIn wsX1_counted wsX1_loyalThatDo := goodIn_r _ [13, 14, 1, 15, 5, 16, 17, 18, 19, 20, 21, 22, 23, 24, 25, 26, 27] (by decide +kernel) (by decide +kernel)
set_option maxRecDepth 20000 in
theorem gX1_counted_X1_loyalThatDo : GoodIn wsX1_counted (wsV RX1 93 RX1 yX1_loyalThatDo wsX1_loyalThatDo) := goodIn_app (goodIn_of _ (by decide +kernel)) ggX1_counted_X1_loyalThatDo
theorem dX1_counted_0 : decode cX1_counted 0 = .ok (.iconst 0, 1) := by decide +kernel
theorem dX1_counted_1 : decode cX1_counted 1 = .ok (.istore_n 2, 1) := by decide +kernel
theorem dX1_counted_2 : decode cX1_counted 2 = .ok (.aload_n 0, 1) := by decide +kernel
theorem dX1_counted_3 : decode cX1_counted 3 = .ok (.getfield 13, 3) := by decide +kernel
theorem dX1_counted_6 : decode cX1_counted 6 = .ok (.astore_n 3, 1) := by decide +kernel
theorem dX1_counted_7 : decode cX1_counted 7 = .ok (.aload_n 3, 1) := by decide +kernel
theorem dX1_counted_8 : decode cX1_counted 8 = .ok (.arraylength, 1) := by decide +kernel
theorem dX1_counted_9 : decode cX1_counted 9 = .ok (.istore 4, 2) := by decide +kernel
theorem dX1_counted_11 : decode cX1_counted 11 = .ok (.iconst 0, 1) := by decide +kernel
theorem dX1_counted_12 : decode cX1_counted 12 = .ok (.istore 5, 2) := by decide +kernel
theorem dX1_counted_14 : decode cX1_counted 14 = .ok (.iload 5, 2) := by decide +kernel
theorem dX1_counted_16 : decode cX1_counted 16 = .ok (.iload 4, 2) := by decide +kernel
theorem dX1_counted_18 : decode cX1_counted 18 = .ok (.if_icmp .ge 28, 3) := by decide +kernel
theorem dX1_counted_21 : decode cX1_counted 21 = .ok (.aload_n 3, 1) := by decide +kernel
theorem dX1_counted_22 : decode cX1_counted 22 = .ok (.iload 5, 2) := by decide +kernel
theorem dX1_counted_24 : decode cX1_counted 24 = .ok (.iaload, 1) := by decide +kernel
theorem dX1_counted_25 : decode cX1_counted 25 = .ok (.istore 6, 2) := by decide +kernel
theorem dX1_counted_27 : decode cX1_counted 27 = .ok (.iload_n 2, 1) := by decide +kernel
theorem dX1_counted_28 : decode cX1_counted 28 = .ok (.iload 6, 2) := by decide +kernel
theorem dX1_counted_30 : decode cX1_counted 30 = .ok (.ifCond .ne 7, 3) := by decide +kernel
theorem dX1_counted_33 : decode cX1_counted 33 = .ok (.iconst 0, 1) := by decide +kernel
theorem dX1_counted_34 : decode cX1_counted 34 = .ok (.goto 4, 3) := by decide +kernel
theorem dX1_counted_37 : decode cX1_counted 37 = .ok (.iconst 1, 1) := by decide +kernel
theorem dX1_counted_38 : decode cX1_counted 38 = .ok (.iadd, 1) := by decide +kernel
theorem dX1_counted_39 : decode cX1_counted 39 = .ok (.istore_n 2, 1) := by decide +kernel
theorem dX1_counted_40 : decode cX1_counted 40 = .ok (.iinc 5 1, 3) := by decide +kernel
theorem dX1_counted_43 : decode cX1_counted 43 = .ok (.goto (-29), 3) := by decide +kernel
theorem dX1_counted_46 : decode cX1_counted 46 = .ok (.bipush 9, 2) := by decide +kernel
theorem dX1_counted_48 : decode cX1_counted 48 = .ok (.newarray .int, 2) := by decide +kernel
theorem dX1_counted_50 : decode cX1_counted 50 = .ok (.dup, 1) := by decide +kernel
theorem dX1_counted_51 : decode cX1_counted 51 = .ok (.iconst 0, 1) := by decide +kernel
theorem dX1_counted_52 : decode cX1_counted 52 = .ok (.aload_n 0, 1) := by decide +kernel
theorem dX1_counted_53 : decode cX1_counted 53 = .ok (.getfield 40, 3) := by decide +kernel
theorem dX1_counted_56 : decode cX1_counted 56 = .ok (.iastore, 1) := by decide +kernel
theorem dX1_counted_57 : decode cX1_counted 57 = .ok (.dup, 1) := by decide +kernel
theorem dX1_counted_58 : decode cX1_counted 58 = .ok (.iconst 1, 1) := by decide +kernel
theorem dX1_counted_59 : decode cX1_counted 59 = .ok (.aload_n 0, 1) := by decide +kernel
theorem dX1_counted_60 : decode cX1_counted 60 = .ok (.getfield 7, 3) := by decide +kernel
theorem dX1_counted_63 : decode cX1_counted 63 = .ok (.iastore, 1) := by decide +kernel
theorem dX1_counted_64 : decode cX1_counted 64 = .ok (.dup, 1) := by decide +kernel
theorem dX1_counted_65 : decode cX1_counted 65 = .ok (.iconst 2, 1) := by decide +kernel
theorem dX1_counted_66 : decode cX1_counted 66 = .ok (.iload_n 2, 1) := by decide +kernel
theorem dX1_counted_67 : decode cX1_counted 67 = .ok (.iastore, 1) := by decide +kernel
theorem dX1_counted_68 : decode cX1_counted 68 = .ok (.dup, 1) := by decide +kernel
theorem dX1_counted_69 : decode cX1_counted 69 = .ok (.iconst 3, 1) := by decide +kernel
theorem dX1_counted_70 : decode cX1_counted 70 = .ok (.aload_n 0, 1) := by decide +kernel
theorem dX1_counted_71 : decode cX1_counted 71 = .ok (.getfield 87, 3) := by decide +kernel
theorem dX1_counted_74 : decode cX1_counted 74 = .ok (.iastore, 1) := by decide +kernel
theorem dX1_counted_75 : decode cX1_counted 75 = .ok (.dup, 1) := by decide +kernel
theorem dX1_counted_76 : decode cX1_counted 76 = .ok (.iconst 4, 1) := by decide +kernel
theorem dX1_counted_77 : decode cX1_counted 77 = .ok (.aload_n 0, 1) := by decide +kernel
theorem dX1_counted_78 : decode cX1_counted 78 = .ok (.getfield 28, 3) := by decide +kernel
theorem dX1_counted_81 : decode cX1_counted 81 = .ok (.iastore, 1) := by decide +kernel
theorem dX1_counted_82 : decode cX1_counted 82 = .ok (.dup, 1) := by decide +kernel
theorem dX1_counted_83 : decode cX1_counted 83 = .ok (.iconst 5, 1) := by decide +kernel
theorem dX1_counted_84 : decode cX1_counted 84 = .ok (.aload_n 0, 1) := by decide +kernel
theorem dX1_counted_85 : decode cX1_counted 85 = .ok (.iconst 1, 1) := by decide +kernel
theorem dX1_counted_86 : decode cX1_counted 86 = .ok (.invokevirtual 93, 3) := by decide +kernel
theorem dX1_counted_89 : decode cX1_counted 89 = .ok (.iastore, 1) := by decide +kernel
theorem dX1_counted_90 : decode cX1_counted 90 = .ok (.dup, 1) := by decide +kernel
theorem dX1_counted_91 : decode cX1_counted 91 = .ok (.bipush 6, 2) := by decide +kernel
theorem dX1_counted_93 : decode cX1_counted 93 = .ok (.aload_n 0, 1) := by decide +kernel
theorem dX1_counted_94 : decode cX1_counted 94 = .ok (.iconst 0, 1) := by decide +kernel
theorem dX1_counted_95 : decode cX1_counted 95 = .ok (.invokevirtual 93, 3) := by decide +kernel
theorem dX1_counted_98 : decode cX1_counted 98 = .ok (.iastore, 1) := by decide +kernel
theorem dX1_counted_99 : decode cX1_counted 99 = .ok (.dup, 1) := by decide +kernel
theorem dX1_counted_100 : decode cX1_counted 100 = .ok (.bipush 7, 2) := by decide +kernel
theorem dX1_counted_102 : decode cX1_counted 102 = .ok (.aload_n 0, 1) := by decide +kernel
theorem dX1_counted_103 : decode cX1_counted 103 = .ok (.getfield 22, 3) := by decide +kernel
theorem dX1_counted_106 : decode cX1_counted 106 = .ok (.iastore, 1) := by decide +kernel
theorem dX1_counted_107 : decode cX1_counted 107 = .ok (.dup, 1) := by decide +kernel
theorem dX1_counted_108 : decode cX1_counted 108 = .ok (.bipush 8, 2) := by decide +kernel
theorem dX1_counted_110 : decode cX1_counted 110 = .ok (.aload_n 0, 1) := by decide +kernel
theorem dX1_counted_111 : decode cX1_counted 111 = .ok (.getfield 25, 3) := by decide +kernel
theorem dX1_counted_114 : decode cX1_counted 114 = .ok (.iastore, 1) := by decide +kernel
theorem dX1_counted_115 : decode cX1_counted 115 = .ok (.astore_n 3, 1) := by decide +kernel
theorem dX1_counted_116 : decode cX1_counted 116 = .ok (.aload_n 3, 1) := by decide +kernel
theorem dX1_counted_117 : decode cX1_counted 117 = .ok (.iload_n 1, 1) := by decide +kernel
theorem dX1_counted_118 : decode cX1_counted 118 = .ok (.iaload, 1) := by decide +kernel
theorem dX1_counted_119 : decode cX1_counted 119 = .ok (.ireturn, 1) := by decide +kernel
set_option maxRecDepth 20000 in
theorem ggX1_count_X1_isIn : GoodIn wsX1_count wsX1_isIn := goodIn_r _ [5] (by decide +kernel) (by decide +kernel)
set_option maxRecDepth 20000 in
theorem gX1_count_X1_isIn : GoodIn wsX1_count (va_wsS RX1 43 yX1_isIn wsX1_isIn) := goodIn_app (goodIn_of _ (by decide +kernel)) ggX1_count_X1_isIn
set_option maxRecDepth 20000 in
theorem ggX1_count_X1_counted : GoodIn wsX1_count wsX1_counted := goodIn_r _ [9, 10, 11, 12, 13, 14, 15, 16, 17, 18, 19, 20, 4, 21, 22, 23, 28, 29, 30, 31, 32, 33, 34, 35, 36, 37, 38, 39] (by decide +kernel) (by decide +kernel)
set_option maxRecDepth 20000 in
theorem gX1_count_X1_counted : GoodIn wsX1_count (wsV RX1 96 RX1 yX1_counted wsX1_counted) := goodIn_app (goodIn_of _ (by decide +kernel)) ggX1_count_X1_counted
set_option maxRecDepth 20000 in
theorem ggX1_count_X1_no : GoodIn wsX1_count wsX1_no := goodIn_r _ [27, 1, 28, 29, 30, 31, 32, 33, 34, 35, 36, 37, 38, 39] (by decide +kernel) (by decide +kernel)
set_option maxRecDepth 20000 in
theorem gX1_count_X1_no : GoodIn wsX1_count (wsV RX1 72 RX1 yX1_no wsX1_no) := goodIn_app (goodIn_of _ (by decide +kernel)) ggX1_count_X1_no
theorem dX1_count_0 : decode cX1_count 0 = .ok (.aload_n 0, 1) := by decide +kernel
theorem dX1_count_1 : decode cX1_count 1 = .ok (.iconst 0, 1) := by decide +kernel
theorem dX1_count_2 : decode cX1_count 2 = .ok (.putfield 37, 3) := by decide +kernel
theorem dX1_count_5 : decode cX1_count 5 = .ok (.iload_n 1, 1) := by decide +kernel
theorem dX1_count_6 : decode cX1_count 6 = .ok (.iconst 0, 1) := by decide +kernel
theorem dX1_count_7 : decode cX1_count 7 = .ok (.bipush 8, 2) := by decide +kernel
theorem dX1_count_9 : decode cX1_count 9 = .ok (.invokestatic 43, 3) := by decide +kernel
theorem dX1_count_12 : decode cX1_count 12 = .ok (.ifCond .eq 11, 3) := by decide +kernel
theorem dX1_count_15 : decode cX1_count 15 = .ok (.aload_n 0, 1) := by decide +kernel
theorem dX1_count_16 : decode cX1_count 16 = .ok (.iload_n 1, 1) := by decide +kernel
theorem dX1_count_17 : decode cX1_count 17 = .ok (.invokevirtual 96, 3) := by decide +kernel
theorem dX1_count_20 : decode cX1_count 20 = .ok (.goto 8, 3) := by decide +kernel
theorem dX1_count_23 : decode cX1_count 23 = .ok (.aload_n 0, 1) := by decide +kernel
theorem dX1_count_24 : decode cX1_count 24 = .ok (.iconst 1, 1) := by decide +kernel
theorem dX1_count_25 : decode cX1_count 25 = .ok (.invokevirtual 72, 3) := by decide +kernel
theorem dX1_count_28 : decode cX1_count 28 = .ok (.ireturn, 1) := by decide +kernel
set_option maxRecDepth 20000 in
theorem ggX1_told_X1_isGeneral : GoodIn wsX1_told wsX1_isGeneral := goodIn_r _ [6, 7, 8, 9, 5, 10, 21, 22, 23, 24, 25, 26, 27, 28, 29, 30, 31, 32] (by decide +kernel) (by decide +kernel)
set_option maxRecDepth 20000 in
theorem gX1_told_X1_isGeneral : GoodIn wsX1_told (wsV RX1 76 RX1 yX1_isGeneral wsX1_isGeneral) := goodIn_app (goodIn_of _ (by decide +kernel)) ggX1_told_X1_isGeneral
set_option maxRecDepth 20000 in
theorem ggX1_told_X1_isIn : GoodIn wsX1_told wsX1_isIn := goodIn_r _ [10] (by decide +kernel) (by decide +kernel)
set_option maxRecDepth 20000 in
theorem gX1_told_X1_isIn : GoodIn wsX1_told (va_wsS RX1 43 yX1_isIn wsX1_isIn) := goodIn_app (goodIn_of _ (by decide +kernel)) ggX1_told_X1_isIn
set_option maxRecDepth 20000 in
theorem ggX1_told_X1_no : GoodIn wsX1_told wsX1_no := goodIn_r _ [20, 1, 21, 22, 23, 24, 25, 26, 27, 28, 29, 30, 31, 32] (by decide +kernel) (by decide +kernel)
set_option maxRecDepth 20000 in
theorem gX1_told_X1_no : GoodIn wsX1_told (wsV RX1 72 RX1 yX1_no wsX1_no) := goodIn_app (goodIn_of _ (by decide +kernel)) ggX1_told_X1_no
theorem dX1_told_0 : decode cX1_told 0 = .ok (.aload_n 0, 1) := by decide +kernel
theorem dX1_told_1 : decode cX1_told 1 = .ok (.iconst 0, 1) := by decide +kernel
theorem dX1_told_2 : decode cX1_told 2 = .ok (.putfield 37, 3) := by decide +kernel
theorem dX1_told_5 : decode cX1_told 5 = .ok (.aload_n 0, 1) := by decide +kernel
theorem dX1_told_6 : decode cX1_told 6 = .ok (.iload_n 1, 1) := by decide +kernel
theorem dX1_told_7 : decode cX1_told 7 = .ok (.invokevirtual 76, 3) := by decide +kernel
theorem dX1_told_10 : decode cX1_told 10 = .ok (.ifCond .eq 21, 3) := by decide +kernel
theorem dX1_told_13 : decode cX1_told 13 = .ok (.iload_n 2, 1) := by decide +kernel
theorem dX1_told_14 : decode cX1_told 14 = .ok (.iconst 0, 1) := by decide +kernel
theorem dX1_told_15 : decode cX1_told 15 = .ok (.iconst 3, 1) := by decide +kernel
theorem dX1_told_16 : decode cX1_told 16 = .ok (.invokestatic 43, 3) := by decide +kernel
theorem dX1_told_19 : decode cX1_told 19 = .ok (.ifCond .eq 12, 3) := by decide +kernel
theorem dX1_told_22 : decode cX1_told 22 = .ok (.aload_n 0, 1) := by decide +kernel
theorem dX1_told_23 : decode cX1_told 23 = .ok (.iload_n 1, 1) := by decide +kernel
theorem dX1_told_24 : decode cX1_told 24 = .ok (.iload_n 2, 1) := by decide +kernel
theorem dX1_told_25 : decode cX1_told 25 = .ok (.invokevirtual 99, 3) := by decide +kernel
theorem dX1_told_28 : decode cX1_told 28 = .ok (.goto 8, 3) := by decide +kernel
theorem dX1_told_31 : decode cX1_told 31 = .ok (.aload_n 0, 1) := by decide +kernel
theorem dX1_told_32 : decode cX1_told 32 = .ok (.iconst 1, 1) := by decide +kernel
theorem dX1_told_33 : decode cX1_told 33 = .ok (.invokevirtual 72, 3) := by decide +kernel
theorem dX1_told_36 : decode cX1_told 36 = .ok (.ireturn, 1) := by decide +kernel
set_option maxRecDepth 20000 in
theorem ggX1_hears_X1_isGeneral : GoodIn wsX1_hears wsX1_isGeneral := goodIn_r _ [6, 7, 8, 9, 5, 10, 20, 21, 22, 23, 24, 25, 26, 27, 28, 29, 30, 31] (by decide +kernel) (by decide +kernel)
set_option maxRecDepth 20000 in
theorem gX1_hears_X1_isGeneral : GoodIn wsX1_hears (wsV RX1 76 RX1 yX1_isGeneral wsX1_isGeneral) := goodIn_app (goodIn_of _ (by decide +kernel)) ggX1_hears_X1_isGeneral
set_option maxRecDepth 20000 in
theorem ggX1_hears_X1_no : GoodIn wsX1_hears wsX1_no := goodIn_r _ [14, 1, 20, 21, 22, 23, 24, 25, 26, 27, 28, 29, 30, 31] (by decide +kernel) (by decide +kernel)
set_option maxRecDepth 20000 in
theorem gX1_hears_X1_no : GoodIn wsX1_hears (wsV RX1 72 RX1 yX1_no wsX1_no) := goodIn_app (goodIn_of _ (by decide +kernel)) ggX1_hears_X1_no
set_option maxRecDepth 20000 in
theorem ggX1_hears_X1_isIn : GoodIn wsX1_hears wsX1_isIn := goodIn_r _ [10] (by decide +kernel) (by decide +kernel)
set_option maxRecDepth 20000 in
theorem gX1_hears_X1_isIn : GoodIn wsX1_hears (va_wsS RX1 43 yX1_isIn wsX1_isIn) := goodIn_app (goodIn_of _ (by decide +kernel)) ggX1_hears_X1_isIn
theorem dX1_hears_0 : decode cX1_hears 0 = .ok (.aload_n 0, 1) := by decide +kernel
theorem dX1_hears_1 : decode cX1_hears 1 = .ok (.iconst 0, 1) := by decide +kernel
theorem dX1_hears_2 : decode cX1_hears 2 = .ok (.putfield 37, 3) := by decide +kernel
theorem dX1_hears_5 : decode cX1_hears 5 = .ok (.aload_n 0, 1) := by decide +kernel
theorem dX1_hears_6 : decode cX1_hears 6 = .ok (.iload_n 1, 1) := by decide +kernel
theorem dX1_hears_7 : decode cX1_hears 7 = .ok (.invokevirtual 76, 3) := by decide +kernel
theorem dX1_hears_10 : decode cX1_hears 10 = .ok (.ifCond .eq 11, 3) := by decide +kernel
theorem dX1_hears_13 : decode cX1_hears 13 = .ok (.aload_n 0, 1) := by decide +kernel
theorem dX1_hears_14 : decode cX1_hears 14 = .ok (.iload_n 2, 1) := by decide +kernel
theorem dX1_hears_15 : decode cX1_hears 15 = .ok (.invokevirtual 76, 3) := by decide +kernel
theorem dX1_hears_18 : decode cX1_hears 18 = .ok (.ifCond .ne 9, 3) := by decide +kernel
theorem dX1_hears_21 : decode cX1_hears 21 = .ok (.aload_n 0, 1) := by decide +kernel
theorem dX1_hears_22 : decode cX1_hears 22 = .ok (.iconst 1, 1) := by decide +kernel
theorem dX1_hears_23 : decode cX1_hears 23 = .ok (.invokevirtual 72, 3) := by decide +kernel
theorem dX1_hears_26 : decode cX1_hears 26 = .ok (.ireturn, 1) := by decide +kernel
theorem dX1_hears_27 : decode cX1_hears 27 = .ok (.iload_n 1, 1) := by decide +kernel
theorem dX1_hears_28 : decode cX1_hears 28 = .ok (.iload_n 2, 1) := by decide +kernel
theorem dX1_hears_29 : decode cX1_hears 29 = .ok (.if_icmp .eq 22, 3) := by decide +kernel
theorem dX1_hears_32 : decode cX1_hears 32 = .ok (.iload_n 3, 1) := by decide +kernel
theorem dX1_hears_33 : decode cX1_hears 33 = .ok (.iconst 0, 1) := by decide +kernel
theorem dX1_hears_34 : decode cX1_hears 34 = .ok (.iconst 1, 1) := by decide +kernel
theorem dX1_hears_35 : decode cX1_hears 35 = .ok (.invokestatic 43, 3) := by decide +kernel
theorem dX1_hears_38 : decode cX1_hears 38 = .ok (.ifCond .eq 13, 3) := by decide +kernel
theorem dX1_hears_41 : decode cX1_hears 41 = .ok (.aload_n 0, 1) := by decide +kernel
theorem dX1_hears_42 : decode cX1_hears 42 = .ok (.iload_n 1, 1) := by decide +kernel
theorem dX1_hears_43 : decode cX1_hears 43 = .ok (.iload_n 2, 1) := by decide +kernel
theorem dX1_hears_44 : decode cX1_hears 44 = .ok (.iload_n 3, 1) := by decide +kernel
theorem dX1_hears_45 : decode cX1_hears 45 = .ok (.invokevirtual 48, 3) := by decide +kernel
theorem dX1_hears_48 : decode cX1_hears 48 = .ok (.goto 8, 3) := by decide +kernel
theorem dX1_hears_51 : decode cX1_hears 51 = .ok (.aload_n 0, 1) := by decide +kernel
theorem dX1_hears_52 : decode cX1_hears 52 = .ok (.iconst 2, 1) := by decide +kernel
theorem dX1_hears_53 : decode cX1_hears 53 = .ok (.invokevirtual 72, 3) := by decide +kernel
theorem dX1_hears_56 : decode cX1_hears 56 = .ok (.ireturn, 1) := by decide +kernel
set_option maxRecDepth 20000 in
theorem ggX1_would_X1_isGeneral : GoodIn wsX1_would wsX1_isGeneral := goodIn_r _ [7, 8, 9, 10, 6, 11, 39, 40, 41, 42, 43, 44, 45, 46, 47, 48, 49, 50] (by decide +kernel) (by decide +kernel)
set_option maxRecDepth 20000 in
theorem gX1_would_X1_isGeneral : GoodIn wsX1_would (wsV RX1 76 RX1 yX1_isGeneral wsX1_isGeneral) := goodIn_app (goodIn_of _ (by decide +kernel)) ggX1_would_X1_isGeneral
set_option maxRecDepth 20000 in
theorem ggX1_would_X1_no : GoodIn wsX1_would wsX1_no := goodIn_r _ [15, 1, 39, 40, 41, 42, 43, 44, 45, 46, 47, 48, 49, 50] (by decide +kernel) (by decide +kernel)
set_option maxRecDepth 20000 in
theorem gX1_would_X1_no : GoodIn wsX1_would (wsV RX1 72 RX1 yX1_no wsX1_no) := goodIn_app (goodIn_of _ (by decide +kernel)) ggX1_would_X1_no
set_option maxRecDepth 20000 in
theorem ggX1_would_X1_isIn : GoodIn wsX1_would wsX1_isIn := goodIn_r _ [11] (by decide +kernel) (by decide +kernel)
set_option maxRecDepth 20000 in
theorem gX1_would_X1_isIn : GoodIn wsX1_would (va_wsS RX1 43 yX1_isIn wsX1_isIn) := goodIn_app (goodIn_of _ (by decide +kernel)) ggX1_would_X1_isIn
theorem dX1_would_0 : decode cX1_would 0 = .ok (.aload_n 0, 1) := by decide +kernel
theorem dX1_would_1 : decode cX1_would 1 = .ok (.iconst 0, 1) := by decide +kernel
theorem dX1_would_2 : decode cX1_would 2 = .ok (.putfield 37, 3) := by decide +kernel
theorem dX1_would_5 : decode cX1_would 5 = .ok (.aload_n 0, 1) := by decide +kernel
theorem dX1_would_6 : decode cX1_would 6 = .ok (.iload_n 1, 1) := by decide +kernel
theorem dX1_would_7 : decode cX1_would 7 = .ok (.invokevirtual 76, 3) := by decide +kernel
theorem dX1_would_10 : decode cX1_would 10 = .ok (.ifCond .eq 11, 3) := by decide +kernel
theorem dX1_would_13 : decode cX1_would 13 = .ok (.aload_n 0, 1) := by decide +kernel
theorem dX1_would_14 : decode cX1_would 14 = .ok (.iload_n 3, 1) := by decide +kernel
theorem dX1_would_15 : decode cX1_would 15 = .ok (.invokevirtual 76, 3) := by decide +kernel
theorem dX1_would_18 : decode cX1_would 18 = .ok (.ifCond .ne 9, 3) := by decide +kernel
theorem dX1_would_21 : decode cX1_would 21 = .ok (.aload_n 0, 1) := by decide +kernel
theorem dX1_would_22 : decode cX1_would 22 = .ok (.iconst 1, 1) := by decide +kernel
theorem dX1_would_23 : decode cX1_would 23 = .ok (.invokevirtual 72, 3) := by decide +kernel
theorem dX1_would_26 : decode cX1_would 26 = .ok (.ireturn, 1) := by decide +kernel
theorem dX1_would_27 : decode cX1_would 27 = .ok (.iload_n 2, 1) := by decide +kernel
theorem dX1_would_28 : decode cX1_would 28 = .ok (.iconst 0, 1) := by decide +kernel
theorem dX1_would_29 : decode cX1_would 29 = .ok (.iconst 1, 1) := by decide +kernel
theorem dX1_would_30 : decode cX1_would 30 = .ok (.invokestatic 43, 3) := by decide +kernel
theorem dX1_would_33 : decode cX1_would 33 = .ok (.ifCond .eq 18, 3) := by decide +kernel
theorem dX1_would_36 : decode cX1_would 36 = .ok (.aload_n 0, 1) := by decide +kernel
theorem dX1_would_37 : decode cX1_would 37 = .ok (.iload_n 1, 1) := by decide +kernel
theorem dX1_would_38 : decode cX1_would 38 = .ok (.iload_n 2, 1) := by decide +kernel
theorem dX1_would_39 : decode cX1_would 39 = .ok (.aload_n 0, 1) := by decide +kernel
theorem dX1_would_40 : decode cX1_would 40 = .ok (.getfield 7, 3) := by decide +kernel
theorem dX1_would_43 : decode cX1_would 43 = .ok (.invokevirtual 68, 3) := by decide +kernel
theorem dX1_would_46 : decode cX1_would 46 = .ok (.iload_n 3, 1) := by decide +kernel
theorem dX1_would_47 : decode cX1_would 47 = .ok (.iaload, 1) := by decide +kernel
theorem dX1_would_48 : decode cX1_would 48 = .ok (.goto 8, 3) := by decide +kernel
theorem dX1_would_51 : decode cX1_would 51 = .ok (.aload_n 0, 1) := by decide +kernel
theorem dX1_would_52 : decode cX1_would 52 = .ok (.iconst 2, 1) := by decide +kernel
theorem dX1_would_53 : decode cX1_would 53 = .ok (.invokevirtual 72, 3) := by decide +kernel
theorem dX1_would_56 : decode cX1_would 56 = .ok (.ireturn, 1) := by decide +kernel
set_option maxRecDepth 20000 in
theorem ggX1_agrees_X1_isGeneral : GoodIn wsX1_agrees wsX1_isGeneral := goodIn_r _ [7, 8, 9, 10, 6, 11, 39, 40, 41, 42, 43, 44, 45, 46, 47, 48, 49, 50] (by decide +kernel) (by decide +kernel)
set_option maxRecDepth 20000 in
theorem gX1_agrees_X1_isGeneral : GoodIn wsX1_agrees (wsV RX1 76 RX1 yX1_isGeneral wsX1_isGeneral) := goodIn_app (goodIn_of _ (by decide +kernel)) ggX1_agrees_X1_isGeneral
set_option maxRecDepth 20000 in
theorem ggX1_agrees_X1_isIn : GoodIn wsX1_agrees wsX1_isIn := goodIn_r _ [11] (by decide +kernel) (by decide +kernel)
set_option maxRecDepth 20000 in
theorem gX1_agrees_X1_isIn : GoodIn wsX1_agrees (va_wsS RX1 43 yX1_isIn wsX1_isIn) := goodIn_app (goodIn_of _ (by decide +kernel)) ggX1_agrees_X1_isIn
theorem dX1_agrees_0 : decode cX1_agrees 0 = .ok (.aload_n 0, 1) := by decide +kernel
theorem dX1_agrees_1 : decode cX1_agrees 1 = .ok (.aload_n 0, 1) := by decide +kernel
theorem dX1_agrees_2 : decode cX1_agrees 2 = .ok (.iload_n 1, 1) := by decide +kernel
theorem dX1_agrees_3 : decode cX1_agrees 3 = .ok (.invokevirtual 76, 3) := by decide +kernel
theorem dX1_agrees_6 : decode cX1_agrees 6 = .ok (.ifCond .ne 7, 3) := by decide +kernel
theorem dX1_agrees_9 : decode cX1_agrees 9 = .ok (.iconst 1, 1) := by decide +kernel
theorem dX1_agrees_10 : decode cX1_agrees 10 = .ok (.goto 17, 3) := by decide +kernel
theorem dX1_agrees_13 : decode cX1_agrees 13 = .ok (.iload_n 2, 1) := by decide +kernel
theorem dX1_agrees_14 : decode cX1_agrees 14 = .ok (.iconst 0, 1) := by decide +kernel
theorem dX1_agrees_15 : decode cX1_agrees 15 = .ok (.iconst 1, 1) := by decide +kernel
theorem dX1_agrees_16 : decode cX1_agrees 16 = .ok (.invokestatic 43, 3) := by decide +kernel
theorem dX1_agrees_19 : decode cX1_agrees 19 = .ok (.ifCond .eq 7, 3) := by decide +kernel
theorem dX1_agrees_22 : decode cX1_agrees 22 = .ok (.iconst 0, 1) := by decide +kernel
theorem dX1_agrees_23 : decode cX1_agrees 23 = .ok (.goto 4, 3) := by decide +kernel
theorem dX1_agrees_26 : decode cX1_agrees 26 = .ok (.iconst 2, 1) := by decide +kernel
theorem dX1_agrees_27 : decode cX1_agrees 27 = .ok (.putfield 37, 3) := by decide +kernel
theorem dX1_agrees_30 : decode cX1_agrees 30 = .ok (.aload_n 0, 1) := by decide +kernel
theorem dX1_agrees_31 : decode cX1_agrees 31 = .ok (.getfield 37, 3) := by decide +kernel
theorem dX1_agrees_34 : decode cX1_agrees 34 = .ok (.ifCond .ne 20, 3) := by decide +kernel
theorem dX1_agrees_37 : decode cX1_agrees 37 = .ok (.aload_n 0, 1) := by decide +kernel
theorem dX1_agrees_38 : decode cX1_agrees 38 = .ok (.iload_n 1, 1) := by decide +kernel
theorem dX1_agrees_39 : decode cX1_agrees 39 = .ok (.iload_n 2, 1) := by decide +kernel
theorem dX1_agrees_40 : decode cX1_agrees 40 = .ok (.aload_n 0, 1) := by decide +kernel
theorem dX1_agrees_41 : decode cX1_agrees 41 = .ok (.getfield 7, 3) := by decide +kernel
theorem dX1_agrees_44 : decode cX1_agrees 44 = .ok (.invokevirtual 102, 3) := by decide +kernel
theorem dX1_agrees_47 : decode cX1_agrees 47 = .ok (.ifCond .eq 7, 3) := by decide +kernel
theorem dX1_agrees_50 : decode cX1_agrees 50 = .ok (.iconst 1, 1) := by decide +kernel
theorem dX1_agrees_51 : decode cX1_agrees 51 = .ok (.goto 4, 3) := by decide +kernel
theorem dX1_agrees_54 : decode cX1_agrees 54 = .ok (.iconst 0, 1) := by decide +kernel
theorem dX1_agrees_55 : decode cX1_agrees 55 = .ok (.ireturn, 1) := by decide +kernel
set_option maxRecDepth 20000 in
theorem ggX1_messengers_X1_isIn : GoodIn wsX1_messengers wsX1_isIn := goodIn_r _ [6] (by decide +kernel) (by decide +kernel)
set_option maxRecDepth 20000 in
theorem gX1_messengers_X1_isIn : GoodIn wsX1_messengers (va_wsS RX1 43 yX1_isIn wsX1_isIn) := goodIn_app (goodIn_of _ (by decide +kernel)) ggX1_messengers_X1_isIn
set_option maxRecDepth 20000 in
theorem ggX1_messengers_X1_runners : GoodIn wsX1_messengers wsX1_runners := goodIn_r _ [9, 7, 8, 5] (by decide +kernel) (by decide +kernel)
set_option maxRecDepth 20000 in
theorem gX1_messengers_X1_runners : GoodIn wsX1_messengers (va_wsS RX1 64 yX1_runners wsX1_runners) := goodIn_app (goodIn_of _ (by decide +kernel)) ggX1_messengers_X1_runners
set_option maxRecDepth 20000 in
theorem ggX1_messengers_X1_no : GoodIn wsX1_messengers wsX1_no := goodIn_r _ [13, 1, 14, 15, 16, 17, 18, 19, 20, 21, 22, 23, 24, 25] (by decide +kernel) (by decide +kernel)
set_option maxRecDepth 20000 in
theorem gX1_messengers_X1_no : GoodIn wsX1_messengers (wsV RX1 72 RX1 yX1_no wsX1_no) := goodIn_app (goodIn_of _ (by decide +kernel)) ggX1_messengers_X1_no
theorem dX1_messengers_0 : decode cX1_messengers 0 = .ok (.aload_n 0, 1) := by decide +kernel
theorem dX1_messengers_1 : decode cX1_messengers 1 = .ok (.iconst 0, 1) := by decide +kernel
theorem dX1_messengers_2 : decode cX1_messengers 2 = .ok (.putfield 37, 3) := by decide +kernel
theorem dX1_messengers_5 : decode cX1_messengers 5 = .ok (.iload_n 1, 1) := by decide +kernel
theorem dX1_messengers_6 : decode cX1_messengers 6 = .ok (.iconst 0, 1) := by decide +kernel
theorem dX1_messengers_7 : decode cX1_messengers 7 = .ok (.iconst 3, 1) := by decide +kernel
theorem dX1_messengers_8 : decode cX1_messengers 8 = .ok (.invokestatic 43, 3) := by decide +kernel
theorem dX1_messengers_11 : decode cX1_messengers 11 = .ok (.ifCond .eq 14, 3) := by decide +kernel
theorem dX1_messengers_14 : decode cX1_messengers 14 = .ok (.aload_n 0, 1) := by decide +kernel
theorem dX1_messengers_15 : decode cX1_messengers 15 = .ok (.getfield 40, 3) := by decide +kernel
theorem dX1_messengers_18 : decode cX1_messengers 18 = .ok (.iload_n 1, 1) := by decide +kernel
theorem dX1_messengers_19 : decode cX1_messengers 19 = .ok (.invokestatic 64, 3) := by decide +kernel
theorem dX1_messengers_22 : decode cX1_messengers 22 = .ok (.goto 8, 3) := by decide +kernel
theorem dX1_messengers_25 : decode cX1_messengers 25 = .ok (.aload_n 0, 1) := by decide +kernel
theorem dX1_messengers_26 : decode cX1_messengers 26 = .ok (.iconst 1, 1) := by decide +kernel
theorem dX1_messengers_27 : decode cX1_messengers 27 = .ok (.invokevirtual 72, 3) := by decide +kernel
theorem dX1_messengers_30 : decode cX1_messengers 30 = .ok (.ireturn, 1) := by decide +kernel
theorem dX1_doesFor_0 : decode cX1_doesFor 0 = .ok (.iconst 0, 1) := by decide +kernel
theorem dX1_doesFor_1 : decode cX1_doesFor 1 = .ok (.istore_n 2, 1) := by decide +kernel
theorem dX1_doesFor_2 : decode cX1_doesFor 2 = .ok (.iload_n 2, 1) := by decide +kernel
theorem dX1_doesFor_3 : decode cX1_doesFor 3 = .ok (.aload_n 0, 1) := by decide +kernel
theorem dX1_doesFor_4 : decode cX1_doesFor 4 = .ok (.getfield 40, 3) := by decide +kernel
theorem dX1_doesFor_7 : decode cX1_doesFor 7 = .ok (.if_icmp .ge 31, 3) := by decide +kernel
theorem dX1_doesFor_10 : decode cX1_doesFor 10 = .ok (.aload_n 0, 1) := by decide +kernel
theorem dX1_doesFor_11 : decode cX1_doesFor 11 = .ok (.iload_n 2, 1) := by decide +kernel
theorem dX1_doesFor_12 : decode cX1_doesFor 12 = .ok (.iconst 0, 1) := by decide +kernel
theorem dX1_doesFor_13 : decode cX1_doesFor 13 = .ok (.iload_n 1, 1) := by decide +kernel
theorem dX1_doesFor_14 : decode cX1_doesFor 14 = .ok (.invokevirtual 102, 3) := by decide +kernel
theorem dX1_doesFor_17 : decode cX1_doesFor 17 = .ok (.ifCond .eq 13, 3) := by decide +kernel
theorem dX1_doesFor_20 : decode cX1_doesFor 20 = .ok (.aload_n 0, 1) := by decide +kernel
theorem dX1_doesFor_21 : decode cX1_doesFor 21 = .ok (.iload_n 2, 1) := by decide +kernel
theorem dX1_doesFor_22 : decode cX1_doesFor 22 = .ok (.iconst 1, 1) := by decide +kernel
theorem dX1_doesFor_23 : decode cX1_doesFor 23 = .ok (.iload_n 1, 1) := by decide +kernel
theorem dX1_doesFor_24 : decode cX1_doesFor 24 = .ok (.invokevirtual 102, 3) := by decide +kernel
theorem dX1_doesFor_27 : decode cX1_doesFor 27 = .ok (.ifCond .ne 5, 3) := by decide +kernel
theorem dX1_doesFor_30 : decode cX1_doesFor 30 = .ok (.iconst 0, 1) := by decide +kernel
theorem dX1_doesFor_31 : decode cX1_doesFor 31 = .ok (.ireturn, 1) := by decide +kernel
theorem dX1_doesFor_32 : decode cX1_doesFor 32 = .ok (.iinc 2 1, 3) := by decide +kernel
theorem dX1_doesFor_35 : decode cX1_doesFor 35 = .ok (.goto (-33), 3) := by decide +kernel
theorem dX1_doesFor_38 : decode cX1_doesFor 38 = .ok (.iconst 1, 1) := by decide +kernel
theorem dX1_doesFor_39 : decode cX1_doesFor 39 = .ok (.ireturn, 1) := by decide +kernel
set_option maxRecDepth 20000 in
theorem ggX1_needs_X1_doesFor : GoodIn wsX1_needs wsX1_doesFor := goodIn_r _ [6, 7, 8, 9, 10, 5, 11, 12, 13, 14, 15, 16, 17, 18, 19, 20, 21, 22, 23, 24, 25, 26, 27, 28, 29, 30, 31, 32, 33, 34, 35, 36, 37, 38, 39, 40, 41, 42, 43, 44, 45, 46] (by decide +kernel) (by decide +kernel)
set_option maxRecDepth 20000 in
theorem gX1_needs_X1_doesFor : GoodIn wsX1_needs (wsV RX1 105 RX1 yX1_doesFor wsX1_doesFor) := goodIn_app (goodIn_of _ (by decide +kernel)) ggX1_needs_X1_doesFor
theorem dX1_needs_0 : decode cX1_needs 0 = .ok (.aload_n 0, 1) := by decide +kernel
theorem dX1_needs_1 : decode cX1_needs 1 = .ok (.iconst 0, 1) := by decide +kernel
theorem dX1_needs_2 : decode cX1_needs 2 = .ok (.putfield 37, 3) := by decide +kernel
theorem dX1_needs_5 : decode cX1_needs 5 = .ok (.iconst 0, 1) := by decide +kernel
theorem dX1_needs_6 : decode cX1_needs 6 = .ok (.istore_n 1, 1) := by decide +kernel
theorem dX1_needs_7 : decode cX1_needs 7 = .ok (.iload_n 1, 1) := by decide +kernel
theorem dX1_needs_8 : decode cX1_needs 8 = .ok (.iconst 3, 1) := by decide +kernel
theorem dX1_needs_9 : decode cX1_needs 9 = .ok (.if_icmp .gt 19, 3) := by decide +kernel
theorem dX1_needs_12 : decode cX1_needs 12 = .ok (.aload_n 0, 1) := by decide +kernel
theorem dX1_needs_13 : decode cX1_needs 13 = .ok (.iload_n 1, 1) := by decide +kernel
theorem dX1_needs_14 : decode cX1_needs 14 = .ok (.invokevirtual 105, 3) := by decide +kernel
theorem dX1_needs_17 : decode cX1_needs 17 = .ok (.ifCond .eq 5, 3) := by decide +kernel
theorem dX1_needs_20 : decode cX1_needs 20 = .ok (.iload_n 1, 1) := by decide +kernel
theorem dX1_needs_21 : decode cX1_needs 21 = .ok (.ireturn, 1) := by decide +kernel
theorem dX1_needs_22 : decode cX1_needs 22 = .ok (.iinc 1 1, 3) := by decide +kernel
theorem dX1_needs_25 : decode cX1_needs 25 = .ok (.goto (-18), 3) := by decide +kernel
theorem dX1_needs_28 : decode cX1_needs 28 = .ok (.iconst (-1), 1) := by decide +kernel
theorem dX1_needs_29 : decode cX1_needs 29 = .ok (.ireturn, 1) := by decide +kernel
set_option maxRecDepth 20000 in
theorem ggX1_found_X1_isGeneral : GoodIn wsX1_found wsX1_isGeneral := goodIn_r _ [7, 2, 8, 9, 6, 10, 20, 21, 22, 23, 24, 25, 26, 27, 28, 29, 30, 31] (by decide +kernel) (by decide +kernel)
set_option maxRecDepth 20000 in
theorem gX1_found_X1_isGeneral : GoodIn wsX1_found (wsV RX1 76 RX1 yX1_isGeneral wsX1_isGeneral) := goodIn_app (goodIn_of _ (by decide +kernel)) ggX1_found_X1_isGeneral
set_option maxRecDepth 20000 in
theorem ggX1_found_X1_no : GoodIn wsX1_found wsX1_no := goodIn_r _ [14, 1, 20, 21, 22, 23, 24, 25, 26, 27, 28, 29, 30, 31] (by decide +kernel) (by decide +kernel)
set_option maxRecDepth 20000 in
theorem gX1_found_X1_no : GoodIn wsX1_found (wsV RX1 72 RX1 yX1_no wsX1_no) := goodIn_app (goodIn_of _ (by decide +kernel)) ggX1_found_X1_no
theorem dX1_found_0 : decode cX1_found 0 = .ok (.aload_n 0, 1) := by decide +kernel
theorem dX1_found_1 : decode cX1_found 1 = .ok (.iconst 0, 1) := by decide +kernel
theorem dX1_found_2 : decode cX1_found 2 = .ok (.putfield 37, 3) := by decide +kernel
theorem dX1_found_5 : decode cX1_found 5 = .ok (.aload_n 0, 1) := by decide +kernel
theorem dX1_found_6 : decode cX1_found 6 = .ok (.iload_n 1, 1) := by decide +kernel
theorem dX1_found_7 : decode cX1_found 7 = .ok (.invokevirtual 76, 3) := by decide +kernel
theorem dX1_found_10 : decode cX1_found 10 = .ok (.ifCond .ne 9, 3) := by decide +kernel
theorem dX1_found_13 : decode cX1_found 13 = .ok (.aload_n 0, 1) := by decide +kernel
theorem dX1_found_14 : decode cX1_found 14 = .ok (.iconst 1, 1) := by decide +kernel
theorem dX1_found_15 : decode cX1_found 15 = .ok (.invokevirtual 72, 3) := by decide +kernel
theorem dX1_found_18 : decode cX1_found 18 = .ok (.ireturn, 1) := by decide +kernel
theorem dX1_found_19 : decode cX1_found 19 = .ok (.iconst 0, 1) := by decide +kernel
theorem dX1_found_20 : decode cX1_found 20 = .ok (.istore_n 2, 1) := by decide +kernel
theorem dX1_found_21 : decode cX1_found 21 = .ok (.iconst 0, 1) := by decide +kernel
theorem dX1_found_22 : decode cX1_found 22 = .ok (.istore_n 3, 1) := by decide +kernel
theorem dX1_found_23 : decode cX1_found 23 = .ok (.iload_n 3, 1) := by decide +kernel
theorem dX1_found_24 : decode cX1_found 24 = .ok (.aload_n 0, 1) := by decide +kernel
theorem dX1_found_25 : decode cX1_found 25 = .ok (.getfield 40, 3) := by decide +kernel
theorem dX1_found_28 : decode cX1_found 28 = .ok (.if_icmp .ge 43, 3) := by decide +kernel
theorem dX1_found_31 : decode cX1_found 31 = .ok (.iload_n 2, 1) := by decide +kernel
theorem dX1_found_32 : decode cX1_found 32 = .ok (.iload_n 3, 1) := by decide +kernel
theorem dX1_found_33 : decode cX1_found 33 = .ok (.iload_n 1, 1) := by decide +kernel
theorem dX1_found_34 : decode cX1_found 34 = .ok (.if_icmp .eq 28, 3) := by decide +kernel
theorem dX1_found_37 : decode cX1_found 37 = .ok (.aload_n 0, 1) := by decide +kernel
theorem dX1_found_38 : decode cX1_found 38 = .ok (.iload_n 1, 1) := by decide +kernel
theorem dX1_found_39 : decode cX1_found 39 = .ok (.iload_n 3, 1) := by decide +kernel
theorem dX1_found_40 : decode cX1_found 40 = .ok (.iconst 0, 1) := by decide +kernel
theorem dX1_found_41 : decode cX1_found 41 = .ok (.invokevirtual 48, 3) := by decide +kernel
theorem dX1_found_44 : decode cX1_found 44 = .ok (.ifCond .ne 14, 3) := by decide +kernel
theorem dX1_found_47 : decode cX1_found 47 = .ok (.aload_n 0, 1) := by decide +kernel
theorem dX1_found_48 : decode cX1_found 48 = .ok (.iload_n 1, 1) := by decide +kernel
theorem dX1_found_49 : decode cX1_found 49 = .ok (.iload_n 3, 1) := by decide +kernel
theorem dX1_found_50 : decode cX1_found 50 = .ok (.iconst 1, 1) := by decide +kernel
theorem dX1_found_51 : decode cX1_found 51 = .ok (.invokevirtual 48, 3) := by decide +kernel
theorem dX1_found_54 : decode cX1_found 54 = .ok (.iconst 1, 1) := by decide +kernel
theorem dX1_found_55 : decode cX1_found 55 = .ok (.if_icmp .eq 7, 3) := by decide +kernel
theorem dX1_found_58 : decode cX1_found 58 = .ok (.iconst 1, 1) := by decide +kernel
theorem dX1_found_59 : decode cX1_found 59 = .ok (.goto 4, 3) := by decide +kernel
theorem dX1_found_62 : decode cX1_found 62 = .ok (.iconst 0, 1) := by decide +kernel
theorem dX1_found_63 : decode cX1_found 63 = .ok (.iadd, 1) := by decide +kernel
theorem dX1_found_64 : decode cX1_found 64 = .ok (.istore_n 2, 1) := by decide +kernel
theorem dX1_found_65 : decode cX1_found 65 = .ok (.iinc 3 1, 3) := by decide +kernel
theorem dX1_found_68 : decode cX1_found 68 = .ok (.goto (-45), 3) := by decide +kernel
theorem dX1_found_71 : decode cX1_found 71 = .ok (.iload_n 2, 1) := by decide +kernel
theorem dX1_found_72 : decode cX1_found 72 = .ok (.ireturn, 1) := by decide +kernel
theorem dX1_mean_0 : decode cX1_mean 0 = .ok (.aload_n 0, 1) := by decide +kernel
theorem dX1_mean_1 : decode cX1_mean 1 = .ok (.iconst 0, 1) := by decide +kernel
theorem dX1_mean_2 : decode cX1_mean 2 = .ok (.putfield 37, 3) := by decide +kernel
theorem dX1_mean_5 : decode cX1_mean 5 = .ok (.iconst 0, 1) := by decide +kernel
theorem dX1_mean_6 : decode cX1_mean 6 = .ok (.istore_n 1, 1) := by decide +kernel
theorem dX1_mean_7 : decode cX1_mean 7 = .ok (.aload_n 0, 1) := by decide +kernel
theorem dX1_mean_8 : decode cX1_mean 8 = .ok (.getfield 19, 3) := by decide +kernel
theorem dX1_mean_11 : decode cX1_mean 11 = .ok (.astore_n 2, 1) := by decide +kernel
theorem dX1_mean_12 : decode cX1_mean 12 = .ok (.aload_n 2, 1) := by decide +kernel
theorem dX1_mean_13 : decode cX1_mean 13 = .ok (.arraylength, 1) := by decide +kernel
theorem dX1_mean_14 : decode cX1_mean 14 = .ok (.istore_n 3, 1) := by decide +kernel
theorem dX1_mean_15 : decode cX1_mean 15 = .ok (.iconst 0, 1) := by decide +kernel
theorem dX1_mean_16 : decode cX1_mean 16 = .ok (.istore 4, 2) := by decide +kernel
theorem dX1_mean_18 : decode cX1_mean 18 = .ok (.iload 4, 2) := by decide +kernel
theorem dX1_mean_20 : decode cX1_mean 20 = .ok (.iload_n 3, 1) := by decide +kernel
theorem dX1_mean_21 : decode cX1_mean 21 = .ok (.if_icmp .ge 22, 3) := by decide +kernel
theorem dX1_mean_24 : decode cX1_mean 24 = .ok (.aload_n 2, 1) := by decide +kernel
theorem dX1_mean_25 : decode cX1_mean 25 = .ok (.iload 4, 2) := by decide +kernel
theorem dX1_mean_27 : decode cX1_mean 27 = .ok (.aaload, 1) := by decide +kernel
theorem dX1_mean_28 : decode cX1_mean 28 = .ok (.astore 5, 2) := by decide +kernel
theorem dX1_mean_30 : decode cX1_mean 30 = .ok (.iload_n 1, 1) := by decide +kernel
theorem dX1_mean_31 : decode cX1_mean 31 = .ok (.aload 5, 2) := by decide +kernel
theorem dX1_mean_33 : decode cX1_mean 33 = .ok (.iconst 0, 1) := by decide +kernel
theorem dX1_mean_34 : decode cX1_mean 34 = .ok (.iaload, 1) := by decide +kernel
theorem dX1_mean_35 : decode cX1_mean 35 = .ok (.iadd, 1) := by decide +kernel
theorem dX1_mean_36 : decode cX1_mean 36 = .ok (.istore_n 1, 1) := by decide +kernel
theorem dX1_mean_37 : decode cX1_mean 37 = .ok (.iinc 4 1, 3) := by decide +kernel
theorem dX1_mean_40 : decode cX1_mean 40 = .ok (.goto (-22), 3) := by decide +kernel
theorem dX1_mean_43 : decode cX1_mean 43 = .ok (.aload_n 0, 1) := by decide +kernel
theorem dX1_mean_44 : decode cX1_mean 44 = .ok (.getfield 87, 3) := by decide +kernel
theorem dX1_mean_47 : decode cX1_mean 47 = .ok (.ifCond .ne 7, 3) := by decide +kernel
theorem dX1_mean_50 : decode cX1_mean 50 = .ok (.dconst 0, 1) := by decide +kernel
theorem dX1_mean_51 : decode cX1_mean 51 = .ok (.goto 11, 3) := by decide +kernel
theorem dX1_mean_54 : decode cX1_mean 54 = .ok (.iload_n 1, 1) := by decide +kernel
theorem dX1_mean_55 : decode cX1_mean 55 = .ok (.i2d, 1) := by decide +kernel
theorem dX1_mean_56 : decode cX1_mean 56 = .ok (.aload_n 0, 1) := by decide +kernel
theorem dX1_mean_57 : decode cX1_mean 57 = .ok (.getfield 87, 3) := by decide +kernel
theorem dX1_mean_60 : decode cX1_mean 60 = .ok (.i2d, 1) := by decide +kernel
theorem dX1_mean_61 : decode cX1_mean 61 = .ok (.ddiv, 1) := by decide +kernel
theorem dX1_mean_62 : decode cX1_mean 62 = .ok (.dreturn, 1) := by decide +kernel
set_option maxRecDepth 20000 in
theorem ggX1_digest_X1_counted : GoodIn wsX1_digest wsX1_counted := goodIn_r _ [12, 13, 14, 4, 7, 15, 16, 17, 18, 19, 20, 21, 11, 22, 5, 6, 53, 54, 55, 56, 57, 58, 59, 60, 61, 62, 63, 64] (by decide +kernel) (by decide +kernel)
set_option maxRecDepth 20000 in
theorem gX1_digest_X1_counted : GoodIn wsX1_digest (wsV RX1 96 RX1 yX1_counted wsX1_counted) := goodIn_app (goodIn_of _ (by decide +kernel)) ggX1_digest_X1_counted
theorem dX1_digest_0 : decode cX1_digest 0 = .ok (.aload_n 0, 1) := by decide +kernel
theorem dX1_digest_1 : decode cX1_digest 1 = .ok (.iconst 0, 1) := by decide +kernel
theorem dX1_digest_2 : decode cX1_digest 2 = .ok (.putfield 37, 3) := by decide +kernel
theorem dX1_digest_5 : decode cX1_digest 5 = .ok (.ldc2_w 108, 3) := by decide +kernel
theorem dX1_digest_8 : decode cX1_digest 8 = .ok (.lstore_n 1, 1) := by decide +kernel
theorem dX1_digest_9 : decode cX1_digest 9 = .ok (.iconst 0, 1) := by decide +kernel
theorem dX1_digest_10 : decode cX1_digest 10 = .ok (.istore_n 3, 1) := by decide +kernel
theorem dX1_digest_11 : decode cX1_digest 11 = .ok (.iload_n 3, 1) := by decide +kernel
theorem dX1_digest_12 : decode cX1_digest 12 = .ok (.bipush 8, 2) := by decide +kernel
theorem dX1_digest_14 : decode cX1_digest 14 = .ok (.if_icmp .gt 22, 3) := by decide +kernel
theorem dX1_digest_17 : decode cX1_digest 17 = .ok (.lload_n 1, 1) := by decide +kernel
theorem dX1_digest_18 : decode cX1_digest 18 = .ok (.ldc2_w 110, 3) := by decide +kernel
theorem dX1_digest_21 : decode cX1_digest 21 = .ok (.lmul, 1) := by decide +kernel
theorem dX1_digest_22 : decode cX1_digest 22 = .ok (.aload_n 0, 1) := by decide +kernel
theorem dX1_digest_23 : decode cX1_digest 23 = .ok (.iload_n 3, 1) := by decide +kernel
theorem dX1_digest_24 : decode cX1_digest 24 = .ok (.invokevirtual 96, 3) := by decide +kernel
theorem dX1_digest_27 : decode cX1_digest 27 = .ok (.i2l, 1) := by decide +kernel
theorem dX1_digest_28 : decode cX1_digest 28 = .ok (.ladd, 1) := by decide +kernel
theorem dX1_digest_29 : decode cX1_digest 29 = .ok (.lstore_n 1, 1) := by decide +kernel
theorem dX1_digest_30 : decode cX1_digest 30 = .ok (.iinc 3 1, 3) := by decide +kernel
theorem dX1_digest_33 : decode cX1_digest 33 = .ok (.goto (-22), 3) := by decide +kernel
theorem dX1_digest_36 : decode cX1_digest 36 = .ok (.iconst 0, 1) := by decide +kernel
theorem dX1_digest_37 : decode cX1_digest 37 = .ok (.istore_n 3, 1) := by decide +kernel
theorem dX1_digest_38 : decode cX1_digest 38 = .ok (.iload_n 3, 1) := by decide +kernel
theorem dX1_digest_39 : decode cX1_digest 39 = .ok (.aload_n 0, 1) := by decide +kernel
theorem dX1_digest_40 : decode cX1_digest 40 = .ok (.getfield 40, 3) := by decide +kernel
theorem dX1_digest_43 : decode cX1_digest 43 = .ok (.if_icmp .ge 39, 3) := by decide +kernel
theorem dX1_digest_46 : decode cX1_digest 46 = .ok (.iconst 0, 1) := by decide +kernel
theorem dX1_digest_47 : decode cX1_digest 47 = .ok (.istore 4, 2) := by decide +kernel
theorem dX1_digest_49 : decode cX1_digest 49 = .ok (.iload 4, 2) := by decide +kernel
theorem dX1_digest_51 : decode cX1_digest 51 = .ok (.iconst 3, 1) := by decide +kernel
theorem dX1_digest_52 : decode cX1_digest 52 = .ok (.if_icmp .gt 24, 3) := by decide +kernel
theorem dX1_digest_55 : decode cX1_digest 55 = .ok (.lload_n 1, 1) := by decide +kernel
theorem dX1_digest_56 : decode cX1_digest 56 = .ok (.ldc2_w 110, 3) := by decide +kernel
theorem dX1_digest_59 : decode cX1_digest 59 = .ok (.lmul, 1) := by decide +kernel
theorem dX1_digest_60 : decode cX1_digest 60 = .ok (.aload_n 0, 1) := by decide +kernel
theorem dX1_digest_61 : decode cX1_digest 61 = .ok (.iload_n 3, 1) := by decide +kernel
theorem dX1_digest_62 : decode cX1_digest 62 = .ok (.iload 4, 2) := by decide +kernel
theorem dX1_digest_64 : decode cX1_digest 64 = .ok (.invokevirtual 99, 3) := by decide +kernel
theorem dX1_digest_67 : decode cX1_digest 67 = .ok (.i2l, 1) := by decide +kernel
theorem dX1_digest_68 : decode cX1_digest 68 = .ok (.ladd, 1) := by decide +kernel
theorem dX1_digest_69 : decode cX1_digest 69 = .ok (.lstore_n 1, 1) := by decide +kernel
theorem dX1_digest_70 : decode cX1_digest 70 = .ok (.iinc 4 1, 3) := by decide +kernel
theorem dX1_digest_73 : decode cX1_digest 73 = .ok (.goto (-24), 3) := by decide +kernel
theorem dX1_digest_76 : decode cX1_digest 76 = .ok (.iinc 3 1, 3) := by decide +kernel
theorem dX1_digest_79 : decode cX1_digest 79 = .ok (.goto (-41), 3) := by decide +kernel
theorem dX1_digest_82 : decode cX1_digest 82 = .ok (.iconst 0, 1) := by decide +kernel
theorem dX1_digest_83 : decode cX1_digest 83 = .ok (.istore_n 3, 1) := by decide +kernel
theorem dX1_digest_84 : decode cX1_digest 84 = .ok (.iload_n 3, 1) := by decide +kernel
theorem dX1_digest_85 : decode cX1_digest 85 = .ok (.aload_n 0, 1) := by decide +kernel
theorem dX1_digest_86 : decode cX1_digest 86 = .ok (.getfield 84, 3) := by decide +kernel
theorem dX1_digest_89 : decode cX1_digest 89 = .ok (.if_icmp .ge 23, 3) := by decide +kernel
theorem dX1_digest_92 : decode cX1_digest 92 = .ok (.lload_n 1, 1) := by decide +kernel
theorem dX1_digest_93 : decode cX1_digest 93 = .ok (.ldc2_w 110, 3) := by decide +kernel
theorem dX1_digest_96 : decode cX1_digest 96 = .ok (.lmul, 1) := by decide +kernel
theorem dX1_digest_97 : decode cX1_digest 97 = .ok (.aload_n 0, 1) := by decide +kernel
theorem dX1_digest_98 : decode cX1_digest 98 = .ok (.getfield 31, 3) := by decide +kernel
theorem dX1_digest_101 : decode cX1_digest 101 = .ok (.iload_n 3, 1) := by decide +kernel
theorem dX1_digest_102 : decode cX1_digest 102 = .ok (.iaload, 1) := by decide +kernel
theorem dX1_digest_103 : decode cX1_digest 103 = .ok (.i2l, 1) := by decide +kernel
theorem dX1_digest_104 : decode cX1_digest 104 = .ok (.ladd, 1) := by decide +kernel
theorem dX1_digest_105 : decode cX1_digest 105 = .ok (.lstore_n 1, 1) := by decide +kernel
theorem dX1_digest_106 : decode cX1_digest 106 = .ok (.iinc 3 1, 3) := by decide +kernel
theorem dX1_digest_109 : decode cX1_digest 109 = .ok (.goto (-25), 3) := by decide +kernel
theorem dX1_digest_112 : decode cX1_digest 112 = .ok (.iconst 0, 1) := by decide +kernel
theorem dX1_digest_113 : decode cX1_digest 113 = .ok (.istore_n 3, 1) := by decide +kernel
theorem dX1_digest_114 : decode cX1_digest 114 = .ok (.iload_n 3, 1) := by decide +kernel
theorem dX1_digest_115 : decode cX1_digest 115 = .ok (.aload_n 0, 1) := by decide +kernel
theorem dX1_digest_116 : decode cX1_digest 116 = .ok (.getfield 40, 3) := by decide +kernel
theorem dX1_digest_119 : decode cX1_digest 119 = .ok (.if_icmp .ge 51, 3) := by decide +kernel
theorem dX1_digest_122 : decode cX1_digest 122 = .ok (.iconst 0, 1) := by decide +kernel
theorem dX1_digest_123 : decode cX1_digest 123 = .ok (.istore 4, 2) := by decide +kernel
theorem dX1_digest_125 : decode cX1_digest 125 = .ok (.iload 4, 2) := by decide +kernel
theorem dX1_digest_127 : decode cX1_digest 127 = .ok (.iconst 2, 1) := by decide +kernel
theorem dX1_digest_128 : decode cX1_digest 128 = .ok (.if_icmp .ge 36, 3) := by decide +kernel
theorem dX1_digest_131 : decode cX1_digest 131 = .ok (.lload_n 1, 1) := by decide +kernel
theorem dX1_digest_132 : decode cX1_digest 132 = .ok (.ldc2_w 110, 3) := by decide +kernel
theorem dX1_digest_135 : decode cX1_digest 135 = .ok (.lmul, 1) := by decide +kernel
theorem dX1_digest_136 : decode cX1_digest 136 = .ok (.aload_n 0, 1) := by decide +kernel
theorem dX1_digest_137 : decode cX1_digest 137 = .ok (.iload_n 3, 1) := by decide +kernel
theorem dX1_digest_138 : decode cX1_digest 138 = .ok (.iload 4, 2) := by decide +kernel
theorem dX1_digest_140 : decode cX1_digest 140 = .ok (.aload_n 0, 1) := by decide +kernel
theorem dX1_digest_141 : decode cX1_digest 141 = .ok (.getfield 7, 3) := by decide +kernel
theorem dX1_digest_144 : decode cX1_digest 144 = .ok (.invokevirtual 102, 3) := by decide +kernel
theorem dX1_digest_147 : decode cX1_digest 147 = .ok (.ifCond .eq 7, 3) := by decide +kernel
theorem dX1_digest_150 : decode cX1_digest 150 = .ok (.iconst 1, 1) := by decide +kernel
theorem dX1_digest_151 : decode cX1_digest 151 = .ok (.goto 4, 3) := by decide +kernel
theorem dX1_digest_154 : decode cX1_digest 154 = .ok (.iconst 0, 1) := by decide +kernel
theorem dX1_digest_155 : decode cX1_digest 155 = .ok (.i2l, 1) := by decide +kernel
theorem dX1_digest_156 : decode cX1_digest 156 = .ok (.ladd, 1) := by decide +kernel
theorem dX1_digest_157 : decode cX1_digest 157 = .ok (.lstore_n 1, 1) := by decide +kernel
theorem dX1_digest_158 : decode cX1_digest 158 = .ok (.iinc 4 1, 3) := by decide +kernel
theorem dX1_digest_161 : decode cX1_digest 161 = .ok (.goto (-36), 3) := by decide +kernel
theorem dX1_digest_164 : decode cX1_digest 164 = .ok (.iinc 3 1, 3) := by decide +kernel
theorem dX1_digest_167 : decode cX1_digest 167 = .ok (.goto (-53), 3) := by decide +kernel
theorem dX1_digest_170 : decode cX1_digest 170 = .ok (.lload_n 1, 1) := by decide +kernel
theorem dX1_digest_171 : decode cX1_digest 171 = .ok (.lreturn, 1) := by decide +kernel
