theorem dX0_init_0 : decode cX0_init 0 = .ok (.aload_n 0, 1) := by decide +kernel
theorem dX0_init_1 : decode cX0_init 1 = .ok (.invokespecial 1, 3) := by decide +kernel
theorem dX0_init_4 : decode cX0_init 4 = .ok (.aload_n 0, 1) := by decide +kernel
theorem dX0_init_5 : decode cX0_init 5 = .ok (.iconst 1, 1) := by decide +kernel
theorem dX0_init_6 : decode cX0_init 6 = .ok (.putfield 7, 3) := by decide +kernel
theorem dX0_init_9 : decode cX0_init 9 = .ok (.aload_n 0, 1) := by decide +kernel
theorem dX0_init_10 : decode cX0_init 10 = .ok (.bipush 7, 2) := by decide +kernel
theorem dX0_init_12 : decode cX0_init 12 = .ok (.newarray .int, 2) := by decide +kernel
theorem dX0_init_14 : decode cX0_init 14 = .ok (.putfield 13, 3) := by decide +kernel
theorem dX0_init_17 : decode cX0_init 17 = .ok (.aload_n 0, 1) := by decide +kernel
theorem dX0_init_18 : decode cX0_init 18 = .ok (.bipush 7, 2) := by decide +kernel
theorem dX0_init_20 : decode cX0_init 20 = .ok (.newarray .int, 2) := by decide +kernel
theorem dX0_init_22 : decode cX0_init 22 = .ok (.putfield 17, 3) := by decide +kernel
theorem dX0_init_25 : decode cX0_init 25 = .ok (.aload_n 0, 1) := by decide +kernel
theorem dX0_init_26 : decode cX0_init 26 = .ok (.bipush 7, 2) := by decide +kernel
theorem dX0_init_28 : decode cX0_init 28 = .ok (.newarray .int, 2) := by decide +kernel
theorem dX0_init_30 : decode cX0_init 30 = .ok (.putfield 20, 3) := by decide +kernel
theorem dX0_init_33 : decode cX0_init 33 = .ok (.aload_n 0, 1) := by decide +kernel
theorem dX0_init_34 : decode cX0_init 34 = .ok (.bipush 7, 2) := by decide +kernel
theorem dX0_init_36 : decode cX0_init 36 = .ok (.newarray .int, 2) := by decide +kernel
theorem dX0_init_38 : decode cX0_init 38 = .ok (.putfield 23, 3) := by decide +kernel
theorem dX0_init_41 : decode cX0_init 41 = .ok (.aload_n 0, 1) := by decide +kernel
theorem dX0_init_42 : decode cX0_init 42 = .ok (.bipush 7, 2) := by decide +kernel
theorem dX0_init_44 : decode cX0_init 44 = .ok (.newarray .int, 2) := by decide +kernel
theorem dX0_init_46 : decode cX0_init 46 = .ok (.putfield 26, 3) := by decide +kernel
theorem dX0_init_49 : decode cX0_init 49 = .ok (.aload_n 0, 1) := by decide +kernel
theorem dX0_init_50 : decode cX0_init 50 = .ok (.bipush 7, 2) := by decide +kernel
theorem dX0_init_52 : decode cX0_init 52 = .ok (.bipush 7, 2) := by decide +kernel
theorem dX0_init_54 : decode cX0_init 54 = .ok (.multianewarray 29 2, 4) := by decide +kernel
theorem dX0_init_58 : decode cX0_init 58 = .ok (.putfield 31, 3) := by decide +kernel
theorem dX0_init_61 : decode cX0_init 61 = .ok (.aload_n 0, 1) := by decide +kernel
theorem dX0_init_62 : decode cX0_init 62 = .ok (.iconst 4, 1) := by decide +kernel
theorem dX0_init_63 : decode cX0_init 63 = .ok (.bipush 7, 2) := by decide +kernel
theorem dX0_init_65 : decode cX0_init 65 = .ok (.multianewarray 29 2, 4) := by decide +kernel
theorem dX0_init_69 : decode cX0_init 69 = .ok (.putfield 34, 3) := by decide +kernel
theorem dX0_init_72 : decode cX0_init 72 = .ok (.aload_n 0, 1) := by decide +kernel
theorem dX0_init_73 : decode cX0_init 73 = .ok (.iconst 4, 1) := by decide +kernel
theorem dX0_init_74 : decode cX0_init 74 = .ok (.bipush 7, 2) := by decide +kernel
theorem dX0_init_76 : decode cX0_init 76 = .ok (.multianewarray 29 2, 4) := by decide +kernel
theorem dX0_init_80 : decode cX0_init 80 = .ok (.putfield 37, 3) := by decide +kernel
theorem dX0_init_83 : decode cX0_init 83 = .ok (.aload_n 0, 1) := by decide +kernel
theorem dX0_init_84 : decode cX0_init 84 = .ok (.iconst 4, 1) := by decide +kernel
theorem dX0_init_85 : decode cX0_init 85 = .ok (.bipush 7, 2) := by decide +kernel
theorem dX0_init_87 : decode cX0_init 87 = .ok (.multianewarray 29 2, 4) := by decide +kernel
theorem dX0_init_91 : decode cX0_init 91 = .ok (.putfield 40, 3) := by decide +kernel
theorem dX0_init_94 : decode cX0_init 94 = .ok (.aload_n 0, 1) := by decide +kernel
theorem dX0_init_95 : decode cX0_init 95 = .ok (.bipush 7, 2) := by decide +kernel
theorem dX0_init_97 : decode cX0_init 97 = .ok (.bipush 7, 2) := by decide +kernel
theorem dX0_init_99 : decode cX0_init 99 = .ok (.multianewarray 29 2, 4) := by decide +kernel
theorem dX0_init_103 : decode cX0_init 103 = .ok (.putfield 43, 3) := by decide +kernel
theorem dX0_init_106 : decode cX0_init 106 = .ok (.return_, 1) := by decide +kernel
theorem dX0_come_0 : decode cX0_come 0 = .ok (.aload_n 0, 1) := by decide +kernel
theorem dX0_come_1 : decode cX0_come 1 = .ok (.getfield 46, 3) := by decide +kernel
theorem dX0_come_4 : decode cX0_come 4 = .ok (.bipush 7, 2) := by decide +kernel
theorem dX0_come_6 : decode cX0_come 6 = .ok (.if_icmp .lt 13, 3) := by decide +kernel
theorem dX0_come_9 : decode cX0_come 9 = .ok (.new 49, 3) := by decide +kernel
theorem dX0_come_12 : decode cX0_come 12 = .ok (.dup, 1) := by decide +kernel
theorem dX0_come_13 : decode cX0_come 13 = .ok (.ldc 51, 2) := by decide +kernel
theorem dX0_come_15 : decode cX0_come 15 = .ok (.invokespecial 53, 3) := by decide +kernel
theorem dX0_come_18 : decode cX0_come 18 = .ok (.athrow, 1) := by decide +kernel
theorem dX0_come_19 : decode cX0_come 19 = .ok (.aload_n 0, 1) := by decide +kernel
theorem dX0_come_20 : decode cX0_come 20 = .ok (.getfield 46, 3) := by decide +kernel
theorem dX0_come_23 : decode cX0_come 23 = .ok (.istore_n 1, 1) := by decide +kernel
theorem dX0_come_24 : decode cX0_come 24 = .ok (.aload_n 0, 1) := by decide +kernel
theorem dX0_come_25 : decode cX0_come 25 = .ok (.iload_n 1, 1) := by decide +kernel
theorem dX0_come_26 : decode cX0_come 26 = .ok (.iconst 1, 1) := by decide +kernel
theorem dX0_come_27 : decode cX0_come 27 = .ok (.iadd, 1) := by decide +kernel
theorem dX0_come_28 : decode cX0_come 28 = .ok (.putfield 46, 3) := by decide +kernel
theorem dX0_come_31 : decode cX0_come 31 = .ok (.iload_n 1, 1) := by decide +kernel
theorem dX0_come_32 : decode cX0_come 32 = .ok (.ireturn, 1) := by decide +kernel
set_option maxRecDepth 20000 in
theorem ggX0_setKind_X0_requireGeneral : GoodIn wsX0_setKind wsX0_requireGeneral := goodIn_ca (goodIn_r _ [8, 1, 2, 9, 10, 11, 7, 12, 13, 14, 15, 16, 17, 18, 19, 20, 21, 22, 23, 24, 25, 26, 27, 28, 29, 30, 31] (by decide +kernel) (by decide +kernel)) (goodIn_sub (fun _ h => List.mem_cons_of_mem _ (List.mem_append_right _ h)) (by decide +kernel))
set_option maxRecDepth 20000 in
theorem gX0_setKind_X0_requireGeneral : GoodIn wsX0_setKind (wsV RX0 56 RX0 yX0_requireGeneral wsX0_requireGeneral) := goodIn_app (goodIn_of _ (by decide +kernel)) ggX0_setKind_X0_requireGeneral
theorem dX0_setKind_0 : decode cX0_setKind 0 = .ok (.aload_n 0, 1) := by decide +kernel
theorem dX0_setKind_1 : decode cX0_setKind 1 = .ok (.iload_n 1, 1) := by decide +kernel
theorem dX0_setKind_2 : decode cX0_setKind 2 = .ok (.invokevirtual 56, 3) := by decide +kernel
theorem dX0_setKind_5 : decode cX0_setKind 5 = .ok (.iload_n 2, 1) := by decide +kernel
theorem dX0_setKind_6 : decode cX0_setKind 6 = .ok (.ifCond .lt 8, 3) := by decide +kernel
theorem dX0_setKind_9 : decode cX0_setKind 9 = .ok (.iload_n 2, 1) := by decide +kernel
theorem dX0_setKind_10 : decode cX0_setKind 10 = .ok (.iconst 4, 1) := by decide +kernel
theorem dX0_setKind_11 : decode cX0_setKind 11 = .ok (.if_icmp .le 13, 3) := by decide +kernel
theorem dX0_setKind_14 : decode cX0_setKind 14 = .ok (.new 60, 3) := by decide +kernel
theorem dX0_setKind_17 : decode cX0_setKind 17 = .ok (.dup, 1) := by decide +kernel
theorem dX0_setKind_18 : decode cX0_setKind 18 = .ok (.ldc 62, 2) := by decide +kernel
theorem dX0_setKind_20 : decode cX0_setKind 20 = .ok (.invokespecial 64, 3) := by decide +kernel
theorem dX0_setKind_23 : decode cX0_setKind 23 = .ok (.athrow, 1) := by decide +kernel
theorem dX0_setKind_24 : decode cX0_setKind 24 = .ok (.aload_n 0, 1) := by decide +kernel
theorem dX0_setKind_25 : decode cX0_setKind 25 = .ok (.getfield 13, 3) := by decide +kernel
theorem dX0_setKind_28 : decode cX0_setKind 28 = .ok (.iload_n 1, 1) := by decide +kernel
theorem dX0_setKind_29 : decode cX0_setKind 29 = .ok (.iaload, 1) := by decide +kernel
theorem dX0_setKind_30 : decode cX0_setKind 30 = .ok (.istore_n 3, 1) := by decide +kernel
theorem dX0_setKind_31 : decode cX0_setKind 31 = .ok (.aload_n 0, 1) := by decide +kernel
theorem dX0_setKind_32 : decode cX0_setKind 32 = .ok (.getfield 13, 3) := by decide +kernel
theorem dX0_setKind_35 : decode cX0_setKind 35 = .ok (.iload_n 1, 1) := by decide +kernel
theorem dX0_setKind_36 : decode cX0_setKind 36 = .ok (.iload_n 2, 1) := by decide +kernel
theorem dX0_setKind_37 : decode cX0_setKind 37 = .ok (.iastore, 1) := by decide +kernel
theorem dX0_setKind_38 : decode cX0_setKind 38 = .ok (.iload_n 3, 1) := by decide +kernel
theorem dX0_setKind_39 : decode cX0_setKind 39 = .ok (.ireturn, 1) := by decide +kernel
set_option maxRecDepth 20000 in
theorem ggX0_setRounds_X0_requireRounds : GoodIn wsX0_setRounds wsX0_requireRounds := goodIn_ca (goodIn_r _ [5, 6, 7] (by decide +kernel) (by decide +kernel)) (goodIn_sub (fun _ h => List.mem_cons_of_mem _ (List.mem_append_right _ h)) (by decide +kernel))
set_option maxRecDepth 20000 in
theorem gX0_setRounds_X0_requireRounds : GoodIn wsX0_setRounds (va_wsS RX0 65 yX0_requireRounds wsX0_requireRounds) := goodIn_app (goodIn_of _ (by decide +kernel)) ggX0_setRounds_X0_requireRounds
theorem dX0_setRounds_0 : decode cX0_setRounds 0 = .ok (.iload_n 1, 1) := by decide +kernel
theorem dX0_setRounds_1 : decode cX0_setRounds 1 = .ok (.invokestatic 65, 3) := by decide +kernel
theorem dX0_setRounds_4 : decode cX0_setRounds 4 = .ok (.aload_n 0, 1) := by decide +kernel
theorem dX0_setRounds_5 : decode cX0_setRounds 5 = .ok (.getfield 7, 3) := by decide +kernel
theorem dX0_setRounds_8 : decode cX0_setRounds 8 = .ok (.istore_n 2, 1) := by decide +kernel
theorem dX0_setRounds_9 : decode cX0_setRounds 9 = .ok (.aload_n 0, 1) := by decide +kernel
theorem dX0_setRounds_10 : decode cX0_setRounds 10 = .ok (.iload_n 1, 1) := by decide +kernel
theorem dX0_setRounds_11 : decode cX0_setRounds 11 = .ok (.putfield 7, 3) := by decide +kernel
theorem dX0_setRounds_14 : decode cX0_setRounds 14 = .ok (.iload_n 2, 1) := by decide +kernel
theorem dX0_setRounds_15 : decode cX0_setRounds 15 = .ok (.ireturn, 1) := by decide +kernel
set_option maxRecDepth 20000 in
theorem ggX0_hold_X0_requireGeneral : GoodIn wsX0_hold wsX0_requireGeneral := goodIn_ca (goodIn_r _ [6, 7, 8, 9, 10, 11, 5, 12, 13, 79, 80, 81, 82, 83, 84, 85, 86, 87, 88, 89, 90, 91, 92, 93, 94, 95, 96] (by decide +kernel) (by decide +kernel)) (goodIn_sub (fun _ h => List.mem_cons_of_mem _ (List.mem_append_left _ (List.mem_append_right _ h))) (by decide +kernel))
set_option maxRecDepth 20000 in
theorem gX0_hold_X0_requireGeneral : GoodIn wsX0_hold (wsV RX0 56 RX0 yX0_requireGeneral wsX0_requireGeneral) := goodIn_app (goodIn_of _ (by decide +kernel)) ggX0_hold_X0_requireGeneral
theorem dX0_hold_0 : decode cX0_hold 0 = .ok (.aload_n 0, 1) := by decide +kernel
theorem dX0_hold_1 : decode cX0_hold 1 = .ok (.iload_n 1, 1) := by decide +kernel
theorem dX0_hold_2 : decode cX0_hold 2 = .ok (.invokevirtual 56, 3) := by decide +kernel
theorem dX0_hold_5 : decode cX0_hold 5 = .ok (.iload_n 2, 1) := by decide +kernel
theorem dX0_hold_6 : decode cX0_hold 6 = .ok (.invokestatic 68, 3) := by decide +kernel
theorem dX0_hold_9 : decode cX0_hold 9 = .ok (.aload_n 0, 1) := by decide +kernel
theorem dX0_hold_10 : decode cX0_hold 10 = .ok (.iload_n 1, 1) := by decide +kernel
theorem dX0_hold_11 : decode cX0_hold 11 = .ok (.iload_n 2, 1) := by decide +kernel
theorem dX0_hold_12 : decode cX0_hold 12 = .ok (.aload_n 0, 1) := by decide +kernel
theorem dX0_hold_13 : decode cX0_hold 13 = .ok (.getfield 7, 3) := by decide +kernel
theorem dX0_hold_16 : decode cX0_hold 16 = .ok (.invokevirtual 71, 3) := by decide +kernel
theorem dX0_hold_19 : decode cX0_hold 19 = .ok (.aload_n 0, 1) := by decide +kernel
theorem dX0_hold_20 : decode cX0_hold 20 = .ok (.iload_n 1, 1) := by decide +kernel
theorem dX0_hold_21 : decode cX0_hold 21 = .ok (.iload_n 2, 1) := by decide +kernel
theorem dX0_hold_22 : decode cX0_hold 22 = .ok (.invokevirtual 75, 3) := by decide +kernel
theorem dX0_hold_25 : decode cX0_hold 25 = .ok (.aload_n 0, 1) := by decide +kernel
theorem dX0_hold_26 : decode cX0_hold 26 = .ok (.iload_n 1, 1) := by decide +kernel
theorem dX0_hold_27 : decode cX0_hold 27 = .ok (.iload_n 2, 1) := by decide +kernel
theorem dX0_hold_28 : decode cX0_hold 28 = .ok (.invokevirtual 79, 3) := by decide +kernel
theorem dX0_hold_31 : decode cX0_hold 31 = .ok (.ireturn, 1) := by decide +kernel
set_option maxRecDepth 20000 in
theorem ggX0_does_X0_requirePresent : GoodIn wsX0_does wsX0_requirePresent := goodIn_ca (goodIn_r _ [6, 7, 8, 9, 10, 11, 12, 13, 5, 14, 15, 16, 17, 18, 19, 26, 27, 28, 29, 30, 31, 32, 33, 34, 35, 36, 37, 38, 39, 40, 41, 42, 43] (by decide +kernel) (by decide +kernel)) (goodIn_sub (fun _ h => List.mem_cons_of_mem _ (List.mem_append_left _ (List.mem_append_right _ h))) (by decide +kernel))
set_option maxRecDepth 20000 in
theorem gX0_does_X0_requirePresent : GoodIn wsX0_does (wsV RX0 83 RX0 yX0_requirePresent wsX0_requirePresent) := goodIn_app (goodIn_of _ (by decide +kernel)) ggX0_does_X0_requirePresent
theorem dX0_does_0 : decode cX0_does 0 = .ok (.aload_n 0, 1) := by decide +kernel
theorem dX0_does_1 : decode cX0_does 1 = .ok (.iload_n 1, 1) := by decide +kernel
theorem dX0_does_2 : decode cX0_does 2 = .ok (.invokevirtual 83, 3) := by decide +kernel
theorem dX0_does_5 : decode cX0_does 5 = .ok (.aload_n 0, 1) := by decide +kernel
theorem dX0_does_6 : decode cX0_does 6 = .ok (.invokevirtual 86, 3) := by decide +kernel
theorem dX0_does_9 : decode cX0_does 9 = .ok (.aload_n 0, 1) := by decide +kernel
theorem dX0_does_10 : decode cX0_does 10 = .ok (.getfield 26, 3) := by decide +kernel
theorem dX0_does_13 : decode cX0_does 13 = .ok (.iload_n 1, 1) := by decide +kernel
theorem dX0_does_14 : decode cX0_does 14 = .ok (.iaload, 1) := by decide +kernel
theorem dX0_does_15 : decode cX0_does 15 = .ok (.ireturn, 1) := by decide +kernel
set_option maxRecDepth 20000 in
theorem ggX0_took_X0_requirePresent : GoodIn wsX0_took wsX0_requirePresent := goodIn_ca (goodIn_r _ [9, 10, 11, 12, 13, 14, 15, 16, 8, 17, 18, 19, 20, 21, 22, 27, 28, 29, 30, 31, 32, 33, 34, 35, 36, 37, 38, 39, 40, 41, 42, 43, 44] (by decide +kernel) (by decide +kernel)) (goodIn_sub (fun _ h => List.mem_cons_of_mem _ (List.mem_append_right _ h)) (by decide +kernel))
set_option maxRecDepth 20000 in
theorem gX0_took_X0_requirePresent : GoodIn wsX0_took (wsV RX0 83 RX0 yX0_requirePresent wsX0_requirePresent) := goodIn_app (goodIn_of _ (by decide +kernel)) ggX0_took_X0_requirePresent
theorem dX0_took_0 : decode cX0_took 0 = .ok (.aload_n 0, 1) := by decide +kernel
theorem dX0_took_1 : decode cX0_took 1 = .ok (.iload_n 1, 1) := by decide +kernel
theorem dX0_took_2 : decode cX0_took 2 = .ok (.invokevirtual 83, 3) := by decide +kernel
theorem dX0_took_5 : decode cX0_took 5 = .ok (.aload_n 0, 1) := by decide +kernel
theorem dX0_took_6 : decode cX0_took 6 = .ok (.iload_n 2, 1) := by decide +kernel
theorem dX0_took_7 : decode cX0_took 7 = .ok (.invokevirtual 83, 3) := by decide +kernel
theorem dX0_took_10 : decode cX0_took 10 = .ok (.aload_n 0, 1) := by decide +kernel
theorem dX0_took_11 : decode cX0_took 11 = .ok (.invokevirtual 86, 3) := by decide +kernel
theorem dX0_took_14 : decode cX0_took 14 = .ok (.iload_n 1, 1) := by decide +kernel
theorem dX0_took_15 : decode cX0_took 15 = .ok (.aload_n 0, 1) := by decide +kernel
theorem dX0_took_16 : decode cX0_took 16 = .ok (.getfield 89, 3) := by decide +kernel
theorem dX0_took_19 : decode cX0_took 19 = .ok (.if_icmp .ne 13, 3) := by decide +kernel
theorem dX0_took_22 : decode cX0_took 22 = .ok (.new 49, 3) := by decide +kernel
theorem dX0_took_25 : decode cX0_took 25 = .ok (.dup, 1) := by decide +kernel
theorem dX0_took_26 : decode cX0_took 26 = .ok (.ldc 92, 2) := by decide +kernel
theorem dX0_took_28 : decode cX0_took 28 = .ok (.invokespecial 53, 3) := by decide +kernel
theorem dX0_took_31 : decode cX0_took 31 = .ok (.athrow, 1) := by decide +kernel
theorem dX0_took_32 : decode cX0_took 32 = .ok (.aload_n 0, 1) := by decide +kernel
theorem dX0_took_33 : decode cX0_took 33 = .ok (.getfield 31, 3) := by decide +kernel
theorem dX0_took_36 : decode cX0_took 36 = .ok (.iload_n 1, 1) := by decide +kernel
theorem dX0_took_37 : decode cX0_took 37 = .ok (.aaload, 1) := by decide +kernel
theorem dX0_took_38 : decode cX0_took 38 = .ok (.iload_n 2, 1) := by decide +kernel
theorem dX0_took_39 : decode cX0_took 39 = .ok (.iaload, 1) := by decide +kernel
theorem dX0_took_40 : decode cX0_took 40 = .ok (.ireturn, 1) := by decide +kernel
set_option maxRecDepth 20000 in
theorem ggX0_count_X0_counted : GoodIn wsX0_count wsX0_counted := goodIn_r _ [7, 8, 9, 10, 11, 12, 13, 6, 14, 15, 16, 17, 18, 19, 20, 21, 22, 23, 24, 25, 26, 27, 28, 29, 30, 31, 32, 33, 34, 35, 36, 37, 38, 39, 40, 41, 42, 43, 44, 45, 46] (by decide +kernel) (by decide +kernel)
set_option maxRecDepth 20000 in
theorem gX0_count_X0_counted : GoodIn wsX0_count (wsV RX0 96 RX0 yX0_counted wsX0_counted) := goodIn_app (goodIn_of _ (by decide +kernel)) ggX0_count_X0_counted
theorem dX0_count_0 : decode cX0_count 0 = .ok (.iload_n 1, 1) := by decide +kernel
theorem dX0_count_1 : decode cX0_count 1 = .ok (.ifCond .lt 9, 3) := by decide +kernel
theorem dX0_count_4 : decode cX0_count 4 = .ok (.iload_n 1, 1) := by decide +kernel
theorem dX0_count_5 : decode cX0_count 5 = .ok (.bipush 8, 2) := by decide +kernel
theorem dX0_count_7 : decode cX0_count 7 = .ok (.if_icmp .le 13, 3) := by decide +kernel
theorem dX0_count_10 : decode cX0_count 10 = .ok (.new 60, 3) := by decide +kernel
theorem dX0_count_13 : decode cX0_count 13 = .ok (.dup, 1) := by decide +kernel
theorem dX0_count_14 : decode cX0_count 14 = .ok (.ldc 94, 2) := by decide +kernel
theorem dX0_count_16 : decode cX0_count 16 = .ok (.invokespecial 64, 3) := by decide +kernel
theorem dX0_count_19 : decode cX0_count 19 = .ok (.athrow, 1) := by decide +kernel
theorem dX0_count_20 : decode cX0_count 20 = .ok (.aload_n 0, 1) := by decide +kernel
theorem dX0_count_21 : decode cX0_count 21 = .ok (.iload_n 1, 1) := by decide +kernel
theorem dX0_count_22 : decode cX0_count 22 = .ok (.invokevirtual 96, 3) := by decide +kernel
theorem dX0_count_25 : decode cX0_count 25 = .ok (.ireturn, 1) := by decide +kernel
set_option maxRecDepth 20000 in
theorem ggX0_told_X0_requireGeneral : GoodIn wsX0_told wsX0_requireGeneral := goodIn_ca (goodIn_r _ [7, 1, 2, 8, 9, 10, 6, 11, 12, 21, 22, 23, 24, 25, 26, 27, 28, 29, 30, 31, 32, 33, 34, 35, 36, 37, 38] (by decide +kernel) (by decide +kernel)) (goodIn_sub (fun _ h => List.mem_cons_of_mem _ (List.mem_append_right _ h)) (by decide +kernel))
set_option maxRecDepth 20000 in
theorem gX0_told_X0_requireGeneral : GoodIn wsX0_told (wsV RX0 56 RX0 yX0_requireGeneral wsX0_requireGeneral) := goodIn_app (goodIn_of _ (by decide +kernel)) ggX0_told_X0_requireGeneral
theorem dX0_told_0 : decode cX0_told 0 = .ok (.aload_n 0, 1) := by decide +kernel
theorem dX0_told_1 : decode cX0_told 1 = .ok (.iload_n 1, 1) := by decide +kernel
theorem dX0_told_2 : decode cX0_told 2 = .ok (.invokevirtual 56, 3) := by decide +kernel
theorem dX0_told_5 : decode cX0_told 5 = .ok (.iload_n 2, 1) := by decide +kernel
theorem dX0_told_6 : decode cX0_told 6 = .ok (.ifCond .lt 8, 3) := by decide +kernel
theorem dX0_told_9 : decode cX0_told 9 = .ok (.iload_n 2, 1) := by decide +kernel
theorem dX0_told_10 : decode cX0_told 10 = .ok (.iconst 3, 1) := by decide +kernel
theorem dX0_told_11 : decode cX0_told 11 = .ok (.if_icmp .le 13, 3) := by decide +kernel
theorem dX0_told_14 : decode cX0_told 14 = .ok (.new 60, 3) := by decide +kernel
theorem dX0_told_17 : decode cX0_told 17 = .ok (.dup, 1) := by decide +kernel
theorem dX0_told_18 : decode cX0_told 18 = .ok (.ldc 100, 2) := by decide +kernel
theorem dX0_told_20 : decode cX0_told 20 = .ok (.invokespecial 64, 3) := by decide +kernel
theorem dX0_told_23 : decode cX0_told 23 = .ok (.athrow, 1) := by decide +kernel
theorem dX0_told_24 : decode cX0_told 24 = .ok (.aload_n 0, 1) := by decide +kernel
theorem dX0_told_25 : decode cX0_told 25 = .ok (.iload_n 1, 1) := by decide +kernel
theorem dX0_told_26 : decode cX0_told 26 = .ok (.iload_n 2, 1) := by decide +kernel
theorem dX0_told_27 : decode cX0_told 27 = .ok (.invokevirtual 102, 3) := by decide +kernel
theorem dX0_told_30 : decode cX0_told 30 = .ok (.ireturn, 1) := by decide +kernel
set_option maxRecDepth 20000 in
theorem ggX0_hears_X0_requireGeneral : GoodIn wsX0_hears wsX0_requireGeneral := goodIn_ca (goodIn_r _ [8, 9, 10, 11, 12, 13, 7, 14, 15, 22, 23, 24, 25, 26, 27, 28, 29, 30, 31, 32, 33, 34, 35, 36, 37, 38, 39] (by decide +kernel) (by decide +kernel)) (goodIn_sub (fun _ h => List.mem_cons_of_mem _ (List.mem_append_right _ h)) (by decide +kernel))
set_option maxRecDepth 20000 in
theorem gX0_hears_X0_requireGeneral : GoodIn wsX0_hears (wsV RX0 56 RX0 yX0_requireGeneral wsX0_requireGeneral) := goodIn_app (goodIn_of _ (by decide +kernel)) ggX0_hears_X0_requireGeneral
theorem dX0_hears_0 : decode cX0_hears 0 = .ok (.aload_n 0, 1) := by decide +kernel
theorem dX0_hears_1 : decode cX0_hears 1 = .ok (.iload_n 1, 1) := by decide +kernel
theorem dX0_hears_2 : decode cX0_hears 2 = .ok (.invokevirtual 56, 3) := by decide +kernel
theorem dX0_hears_5 : decode cX0_hears 5 = .ok (.aload_n 0, 1) := by decide +kernel
theorem dX0_hears_6 : decode cX0_hears 6 = .ok (.iload_n 2, 1) := by decide +kernel
theorem dX0_hears_7 : decode cX0_hears 7 = .ok (.invokevirtual 56, 3) := by decide +kernel
theorem dX0_hears_10 : decode cX0_hears 10 = .ok (.iload_n 1, 1) := by decide +kernel
theorem dX0_hears_11 : decode cX0_hears 11 = .ok (.iload_n 2, 1) := by decide +kernel
theorem dX0_hears_12 : decode cX0_hears 12 = .ok (.if_icmp .ne 13, 3) := by decide +kernel
theorem dX0_hears_15 : decode cX0_hears 15 = .ok (.new 105, 3) := by decide +kernel
theorem dX0_hears_18 : decode cX0_hears 18 = .ok (.dup, 1) := by decide +kernel
theorem dX0_hears_19 : decode cX0_hears 19 = .ok (.ldc 107, 2) := by decide +kernel
theorem dX0_hears_21 : decode cX0_hears 21 = .ok (.invokespecial 109, 3) := by decide +kernel
theorem dX0_hears_24 : decode cX0_hears 24 = .ok (.athrow, 1) := by decide +kernel
theorem dX0_hears_25 : decode cX0_hears 25 = .ok (.iload_n 3, 1) := by decide +kernel
theorem dX0_hears_26 : decode cX0_hears 26 = .ok (.invokestatic 68, 3) := by decide +kernel
theorem dX0_hears_29 : decode cX0_hears 29 = .ok (.aload_n 0, 1) := by decide +kernel
theorem dX0_hears_30 : decode cX0_hears 30 = .ok (.getfield 13, 3) := by decide +kernel
theorem dX0_hears_33 : decode cX0_hears 33 = .ok (.iload_n 1, 1) := by decide +kernel
theorem dX0_hears_34 : decode cX0_hears 34 = .ok (.iaload, 1) := by decide +kernel
theorem dX0_hears_35 : decode cX0_hears 35 = .ok (.iload_n 1, 1) := by decide +kernel
theorem dX0_hears_36 : decode cX0_hears 36 = .ok (.iload_n 2, 1) := by decide +kernel
theorem dX0_hears_37 : decode cX0_hears 37 = .ok (.iload_n 3, 1) := by decide +kernel
theorem dX0_hears_38 : decode cX0_hears 38 = .ok (.invokestatic 110, 3) := by decide +kernel
theorem dX0_hears_41 : decode cX0_hears 41 = .ok (.ireturn, 1) := by decide +kernel
set_option maxRecDepth 20000 in
theorem ggX0_would_X0_requireGeneral : GoodIn wsX0_would wsX0_requireGeneral := goodIn_ca (goodIn_r _ [6, 7, 8, 9, 10, 11, 5, 12, 13, 57, 58, 59, 60, 61, 62, 63, 64, 65, 66, 67, 68, 69, 70, 71, 72, 73, 74] (by decide +kernel) (by decide +kernel)) (goodIn_sub (fun _ h => List.mem_cons_of_mem _ (List.mem_append_left _ (List.mem_append_right _ h))) (by decide +kernel))
set_option maxRecDepth 20000 in
theorem gX0_would_X0_requireGeneral : GoodIn wsX0_would (wsV RX0 56 RX0 yX0_requireGeneral wsX0_requireGeneral) := goodIn_app (goodIn_of _ (by decide +kernel)) ggX0_would_X0_requireGeneral
theorem dX0_would_0 : decode cX0_would 0 = .ok (.aload_n 0, 1) := by decide +kernel
theorem dX0_would_1 : decode cX0_would 1 = .ok (.iload_n 1, 1) := by decide +kernel
theorem dX0_would_2 : decode cX0_would 2 = .ok (.invokevirtual 56, 3) := by decide +kernel
theorem dX0_would_5 : decode cX0_would 5 = .ok (.aload_n 0, 1) := by decide +kernel
theorem dX0_would_6 : decode cX0_would 6 = .ok (.iload_n 3, 1) := by decide +kernel
theorem dX0_would_7 : decode cX0_would 7 = .ok (.invokevirtual 56, 3) := by decide +kernel
theorem dX0_would_10 : decode cX0_would 10 = .ok (.iload_n 2, 1) := by decide +kernel
theorem dX0_would_11 : decode cX0_would 11 = .ok (.invokestatic 68, 3) := by decide +kernel
theorem dX0_would_14 : decode cX0_would 14 = .ok (.aload_n 0, 1) := by decide +kernel
theorem dX0_would_15 : decode cX0_would 15 = .ok (.iload_n 1, 1) := by decide +kernel
theorem dX0_would_16 : decode cX0_would 16 = .ok (.iload_n 2, 1) := by decide +kernel
theorem dX0_would_17 : decode cX0_would 17 = .ok (.aload_n 0, 1) := by decide +kernel
theorem dX0_would_18 : decode cX0_would 18 = .ok (.getfield 7, 3) := by decide +kernel
theorem dX0_would_21 : decode cX0_would 21 = .ok (.invokevirtual 71, 3) := by decide +kernel
theorem dX0_would_24 : decode cX0_would 24 = .ok (.aload_n 0, 1) := by decide +kernel
theorem dX0_would_25 : decode cX0_would 25 = .ok (.iload_n 3, 1) := by decide +kernel
theorem dX0_would_26 : decode cX0_would 26 = .ok (.iload_n 1, 1) := by decide +kernel
theorem dX0_would_27 : decode cX0_would 27 = .ok (.iload_n 2, 1) := by decide +kernel
theorem dX0_would_28 : decode cX0_would 28 = .ok (.invokevirtual 114, 3) := by decide +kernel
theorem dX0_would_31 : decode cX0_would 31 = .ok (.ireturn, 1) := by decide +kernel
set_option maxRecDepth 20000 in
theorem ggX0_agrees_X0_requireGeneral : GoodIn wsX0_agrees wsX0_requireGeneral := goodIn_ca (goodIn_r _ [6, 7, 8, 9, 10, 11, 5, 12, 13, 61, 62, 63, 64, 65, 66, 67, 68, 69, 70, 71, 72, 73, 74, 75, 76, 77, 78] (by decide +kernel) (by decide +kernel)) (goodIn_sub (fun _ h => List.mem_cons_of_mem _ (List.mem_append_left _ (List.mem_append_right _ h))) (by decide +kernel))
set_option maxRecDepth 20000 in
theorem gX0_agrees_X0_requireGeneral : GoodIn wsX0_agrees (wsV RX0 56 RX0 yX0_requireGeneral wsX0_requireGeneral) := goodIn_app (goodIn_of _ (by decide +kernel)) ggX0_agrees_X0_requireGeneral
theorem dX0_agrees_0 : decode cX0_agrees 0 = .ok (.aload_n 0, 1) := by decide +kernel
theorem dX0_agrees_1 : decode cX0_agrees 1 = .ok (.iload_n 1, 1) := by decide +kernel
theorem dX0_agrees_2 : decode cX0_agrees 2 = .ok (.invokevirtual 56, 3) := by decide +kernel
theorem dX0_agrees_5 : decode cX0_agrees 5 = .ok (.iload_n 2, 1) := by decide +kernel
theorem dX0_agrees_6 : decode cX0_agrees 6 = .ok (.invokestatic 68, 3) := by decide +kernel
theorem dX0_agrees_9 : decode cX0_agrees 9 = .ok (.aload_n 0, 1) := by decide +kernel
theorem dX0_agrees_10 : decode cX0_agrees 10 = .ok (.iload_n 1, 1) := by decide +kernel
theorem dX0_agrees_11 : decode cX0_agrees 11 = .ok (.iload_n 2, 1) := by decide +kernel
theorem dX0_agrees_12 : decode cX0_agrees 12 = .ok (.aload_n 0, 1) := by decide +kernel
theorem dX0_agrees_13 : decode cX0_agrees 13 = .ok (.getfield 7, 3) := by decide +kernel
theorem dX0_agrees_16 : decode cX0_agrees 16 = .ok (.invokevirtual 118, 3) := by decide +kernel
theorem dX0_agrees_19 : decode cX0_agrees 19 = .ok (.ireturn, 1) := by decide +kernel
set_option maxRecDepth 20000 in
theorem ggX0_messengers_X0_requireRounds : GoodIn wsX0_messengers wsX0_requireRounds := goodIn_ca (goodIn_r _ [5, 6, 7] (by decide +kernel) (by decide +kernel)) (goodIn_sub (fun _ h => List.mem_cons_of_mem _ (List.mem_append_right _ h)) (by decide +kernel))
set_option maxRecDepth 20000 in
theorem gX0_messengers_X0_requireRounds : GoodIn wsX0_messengers (va_wsS RX0 65 yX0_requireRounds wsX0_requireRounds) := goodIn_app (goodIn_of _ (by decide +kernel)) ggX0_messengers_X0_requireRounds
set_option maxRecDepth 20000 in
theorem ggX0_messengers_X0_messengersAmong : GoodIn wsX0_messengers wsX0_messengersAmong := goodIn_r _ [10] (by decide +kernel) (by decide +kernel)
set_option maxRecDepth 20000 in
theorem gX0_messengers_X0_messengersAmong : GoodIn wsX0_messengers (va_wsS RX0 122 yX0_messengersAmong wsX0_messengersAmong) := goodIn_app (goodIn_of _ (by decide +kernel)) ggX0_messengers_X0_messengersAmong
theorem dX0_messengers_0 : decode cX0_messengers 0 = .ok (.iload_n 1, 1) := by decide +kernel
theorem dX0_messengers_1 : decode cX0_messengers 1 = .ok (.invokestatic 65, 3) := by decide +kernel
theorem dX0_messengers_4 : decode cX0_messengers 4 = .ok (.aload_n 0, 1) := by decide +kernel
theorem dX0_messengers_5 : decode cX0_messengers 5 = .ok (.getfield 46, 3) := by decide +kernel
theorem dX0_messengers_8 : decode cX0_messengers 8 = .ok (.iload_n 1, 1) := by decide +kernel
theorem dX0_messengers_9 : decode cX0_messengers 9 = .ok (.invokestatic 122, 3) := by decide +kernel
theorem dX0_messengers_12 : decode cX0_messengers 12 = .ok (.ireturn, 1) := by decide +kernel
set_option maxRecDepth 20000 in
theorem ggX0_needs_X0_alwaysAgree : GoodIn wsX0_needs wsX0_alwaysAgree := goodIn_r _ [5, 6, 7, 8, 9, 4, 10, 11, 12, 13, 14, 15, 16, 17, 18, 19, 20, 21, 22, 23, 24, 25, 26, 27, 28, 29, 30, 31, 32, 33, 34, 35, 36, 37, 38, 39, 40, 41, 42, 43, 44, 45, 46, 47, 48, 49, 50, 51, 52, 53, 54, 55, 56, 57, 58, 59, 60, 61, 62, 63, 64, 65, 66, 67, 68, 69, 70] (by decide +kernel) (by decide +kernel)
set_option maxRecDepth 20000 in
theorem gX0_needs_X0_alwaysAgree : GoodIn wsX0_needs (wsV RX0 125 RX0 yX0_alwaysAgree wsX0_alwaysAgree) := goodIn_app (goodIn_of _ (by decide +kernel)) ggX0_needs_X0_alwaysAgree
theorem dX0_needs_0 : decode cX0_needs 0 = .ok (.iconst 0, 1) := by decide +kernel
theorem dX0_needs_1 : decode cX0_needs 1 = .ok (.istore_n 1, 1) := by decide +kernel
theorem dX0_needs_2 : decode cX0_needs 2 = .ok (.iload_n 1, 1) := by decide +kernel
theorem dX0_needs_3 : decode cX0_needs 3 = .ok (.iconst 3, 1) := by decide +kernel
theorem dX0_needs_4 : decode cX0_needs 4 = .ok (.if_icmp .gt 19, 3) := by decide +kernel
theorem dX0_needs_7 : decode cX0_needs 7 = .ok (.aload_n 0, 1) := by decide +kernel
theorem dX0_needs_8 : decode cX0_needs 8 = .ok (.iload_n 1, 1) := by decide +kernel
theorem dX0_needs_9 : decode cX0_needs 9 = .ok (.invokevirtual 125, 3) := by decide +kernel
theorem dX0_needs_12 : decode cX0_needs 12 = .ok (.ifCond .eq 5, 3) := by decide +kernel
theorem dX0_needs_15 : decode cX0_needs 15 = .ok (.iload_n 1, 1) := by decide +kernel
theorem dX0_needs_16 : decode cX0_needs 16 = .ok (.ireturn, 1) := by decide +kernel
theorem dX0_needs_17 : decode cX0_needs 17 = .ok (.iinc 1 1, 3) := by decide +kernel
theorem dX0_needs_20 : decode cX0_needs 20 = .ok (.goto (-18), 3) := by decide +kernel
theorem dX0_needs_23 : decode cX0_needs 23 = .ok (.iconst (-1), 1) := by decide +kernel
theorem dX0_needs_24 : decode cX0_needs 24 = .ok (.ireturn, 1) := by decide +kernel
set_option maxRecDepth 20000 in
theorem ggX0_found_X0_requireGeneral : GoodIn wsX0_found wsX0_requireGeneral := goodIn_ca (goodIn_r _ [6, 7, 8, 9, 10, 11, 5, 12, 1, 21, 22, 23, 24, 25, 26, 27, 28, 29, 30, 31, 32, 33, 34, 35, 36, 37, 38] (by decide +kernel) (by decide +kernel)) (goodIn_sub (fun _ h => List.mem_cons_of_mem _ (List.mem_append_right _ h)) (by decide +kernel))
set_option maxRecDepth 20000 in
theorem gX0_found_X0_requireGeneral : GoodIn wsX0_found (wsV RX0 56 RX0 yX0_requireGeneral wsX0_requireGeneral) := goodIn_app (goodIn_of _ (by decide +kernel)) ggX0_found_X0_requireGeneral
theorem dX0_found_0 : decode cX0_found 0 = .ok (.aload_n 0, 1) := by decide +kernel
theorem dX0_found_1 : decode cX0_found 1 = .ok (.iload_n 1, 1) := by decide +kernel
theorem dX0_found_2 : decode cX0_found 2 = .ok (.invokevirtual 56, 3) := by decide +kernel
theorem dX0_found_5 : decode cX0_found 5 = .ok (.iconst 0, 1) := by decide +kernel
theorem dX0_found_6 : decode cX0_found 6 = .ok (.istore_n 2, 1) := by decide +kernel
theorem dX0_found_7 : decode cX0_found 7 = .ok (.iconst 0, 1) := by decide +kernel
theorem dX0_found_8 : decode cX0_found 8 = .ok (.istore_n 3, 1) := by decide +kernel
theorem dX0_found_9 : decode cX0_found 9 = .ok (.iload_n 3, 1) := by decide +kernel
theorem dX0_found_10 : decode cX0_found 10 = .ok (.aload_n 0, 1) := by decide +kernel
theorem dX0_found_11 : decode cX0_found 11 = .ok (.getfield 46, 3) := by decide +kernel
theorem dX0_found_14 : decode cX0_found 14 = .ok (.if_icmp .ge 26, 3) := by decide +kernel
theorem dX0_found_17 : decode cX0_found 17 = .ok (.iload_n 3, 1) := by decide +kernel
theorem dX0_found_18 : decode cX0_found 18 = .ok (.iload_n 1, 1) := by decide +kernel
theorem dX0_found_19 : decode cX0_found 19 = .ok (.if_icmp .eq 15, 3) := by decide +kernel
theorem dX0_found_22 : decode cX0_found 22 = .ok (.aload_n 0, 1) := by decide +kernel
theorem dX0_found_23 : decode cX0_found 23 = .ok (.iload_n 1, 1) := by decide +kernel
theorem dX0_found_24 : decode cX0_found 24 = .ok (.iload_n 3, 1) := by decide +kernel
theorem dX0_found_25 : decode cX0_found 25 = .ok (.invokevirtual 129, 3) := by decide +kernel
theorem dX0_found_28 : decode cX0_found 28 = .ok (.ifCond .eq 6, 3) := by decide +kernel
theorem dX0_found_31 : decode cX0_found 31 = .ok (.iinc 2 1, 3) := by decide +kernel
theorem dX0_found_34 : decode cX0_found 34 = .ok (.iinc 3 1, 3) := by decide +kernel
theorem dX0_found_37 : decode cX0_found 37 = .ok (.goto (-28), 3) := by decide +kernel
theorem dX0_found_40 : decode cX0_found 40 = .ok (.iload_n 2, 1) := by decide +kernel
theorem dX0_found_41 : decode cX0_found 41 = .ok (.ireturn, 1) := by decide +kernel
theorem dX0_mean_0 : decode cX0_mean 0 = .ok (.aload_n 0, 1) := by decide +kernel
theorem dX0_mean_1 : decode cX0_mean 1 = .ok (.getfield 133, 3) := by decide +kernel
theorem dX0_mean_4 : decode cX0_mean 4 = .ok (.ifCond .ne 7, 3) := by decide +kernel
theorem dX0_mean_7 : decode cX0_mean 7 = .ok (.dconst 0, 1) := by decide +kernel
theorem dX0_mean_8 : decode cX0_mean 8 = .ok (.goto 14, 3) := by decide +kernel
theorem dX0_mean_11 : decode cX0_mean 11 = .ok (.aload_n 0, 1) := by decide +kernel
theorem dX0_mean_12 : decode cX0_mean 12 = .ok (.getfield 136, 3) := by decide +kernel
theorem dX0_mean_15 : decode cX0_mean 15 = .ok (.i2d, 1) := by decide +kernel
theorem dX0_mean_16 : decode cX0_mean 16 = .ok (.aload_n 0, 1) := by decide +kernel
theorem dX0_mean_17 : decode cX0_mean 17 = .ok (.getfield 133, 3) := by decide +kernel
theorem dX0_mean_20 : decode cX0_mean 20 = .ok (.i2d, 1) := by decide +kernel
theorem dX0_mean_21 : decode cX0_mean 21 = .ok (.ddiv, 1) := by decide +kernel
theorem dX0_mean_22 : decode cX0_mean 22 = .ok (.dreturn, 1) := by decide +kernel
set_option maxRecDepth 20000 in
theorem ggX0_digest_X0_counted : GoodIn wsX0_digest wsX0_counted := goodIn_r _ [10, 2, 5, 11, 12, 13, 14, 9, 15, 16, 17, 18, 19, 20, 21, 22, 23, 24, 25, 26, 27, 3, 4, 84, 85, 86, 87, 88, 89, 90, 91, 92, 93, 94, 95, 96, 97, 98, 99, 100, 101] (by decide +kernel) (by decide +kernel)
set_option maxRecDepth 20000 in
theorem gX0_digest_X0_counted : GoodIn wsX0_digest (wsV RX0 96 RX0 yX0_counted wsX0_counted) := goodIn_app (goodIn_of _ (by decide +kernel)) ggX0_digest_X0_counted
set_option maxRecDepth 20000 in
theorem ggX0_digest_X0_mixed : GoodIn wsX0_digest wsX0_mixed := goodIn_r _ [30, 31] (by decide +kernel) (by decide +kernel)
set_option maxRecDepth 20000 in
theorem gX0_digest_X0_mixed : GoodIn wsX0_digest (va_wsS RX0 141 yX0_mixed wsX0_mixed) := goodIn_app (goodIn_of _ (by decide +kernel)) ggX0_digest_X0_mixed
theorem dX0_digest_0 : decode cX0_digest 0 = .ok (.ldc2_w 139, 3) := by decide +kernel
theorem dX0_digest_3 : decode cX0_digest 3 = .ok (.lstore_n 1, 1) := by decide +kernel
theorem dX0_digest_4 : decode cX0_digest 4 = .ok (.iconst 0, 1) := by decide +kernel
theorem dX0_digest_5 : decode cX0_digest 5 = .ok (.istore_n 3, 1) := by decide +kernel
theorem dX0_digest_6 : decode cX0_digest 6 = .ok (.iload_n 3, 1) := by decide +kernel
theorem dX0_digest_7 : decode cX0_digest 7 = .ok (.bipush 8, 2) := by decide +kernel
theorem dX0_digest_9 : decode cX0_digest 9 = .ok (.if_icmp .gt 20, 3) := by decide +kernel
theorem dX0_digest_12 : decode cX0_digest 12 = .ok (.lload_n 1, 1) := by decide +kernel
theorem dX0_digest_13 : decode cX0_digest 13 = .ok (.aload_n 0, 1) := by decide +kernel
theorem dX0_digest_14 : decode cX0_digest 14 = .ok (.iload_n 3, 1) := by decide +kernel
theorem dX0_digest_15 : decode cX0_digest 15 = .ok (.invokevirtual 96, 3) := by decide +kernel
theorem dX0_digest_18 : decode cX0_digest 18 = .ok (.i2l, 1) := by decide +kernel
theorem dX0_digest_19 : decode cX0_digest 19 = .ok (.invokestatic 141, 3) := by decide +kernel
theorem dX0_digest_22 : decode cX0_digest 22 = .ok (.lstore_n 1, 1) := by decide +kernel
theorem dX0_digest_23 : decode cX0_digest 23 = .ok (.iinc 3 1, 3) := by decide +kernel
theorem dX0_digest_26 : decode cX0_digest 26 = .ok (.goto (-20), 3) := by decide +kernel
theorem dX0_digest_29 : decode cX0_digest 29 = .ok (.iconst 0, 1) := by decide +kernel
theorem dX0_digest_30 : decode cX0_digest 30 = .ok (.istore_n 3, 1) := by decide +kernel
theorem dX0_digest_31 : decode cX0_digest 31 = .ok (.iload_n 3, 1) := by decide +kernel
theorem dX0_digest_32 : decode cX0_digest 32 = .ok (.aload_n 0, 1) := by decide +kernel
theorem dX0_digest_33 : decode cX0_digest 33 = .ok (.getfield 46, 3) := by decide +kernel
theorem dX0_digest_36 : decode cX0_digest 36 = .ok (.if_icmp .ge 37, 3) := by decide +kernel
theorem dX0_digest_39 : decode cX0_digest 39 = .ok (.iconst 0, 1) := by decide +kernel
theorem dX0_digest_40 : decode cX0_digest 40 = .ok (.istore 4, 2) := by decide +kernel
theorem dX0_digest_42 : decode cX0_digest 42 = .ok (.iload 4, 2) := by decide +kernel
theorem dX0_digest_44 : decode cX0_digest 44 = .ok (.iconst 3, 1) := by decide +kernel
theorem dX0_digest_45 : decode cX0_digest 45 = .ok (.if_icmp .gt 22, 3) := by decide +kernel
theorem dX0_digest_48 : decode cX0_digest 48 = .ok (.lload_n 1, 1) := by decide +kernel
theorem dX0_digest_49 : decode cX0_digest 49 = .ok (.aload_n 0, 1) := by decide +kernel
theorem dX0_digest_50 : decode cX0_digest 50 = .ok (.iload_n 3, 1) := by decide +kernel
theorem dX0_digest_51 : decode cX0_digest 51 = .ok (.iload 4, 2) := by decide +kernel
theorem dX0_digest_53 : decode cX0_digest 53 = .ok (.invokevirtual 102, 3) := by decide +kernel
theorem dX0_digest_56 : decode cX0_digest 56 = .ok (.i2l, 1) := by decide +kernel
theorem dX0_digest_57 : decode cX0_digest 57 = .ok (.invokestatic 141, 3) := by decide +kernel
theorem dX0_digest_60 : decode cX0_digest 60 = .ok (.lstore_n 1, 1) := by decide +kernel
theorem dX0_digest_61 : decode cX0_digest 61 = .ok (.iinc 4 1, 3) := by decide +kernel
theorem dX0_digest_64 : decode cX0_digest 64 = .ok (.goto (-22), 3) := by decide +kernel
theorem dX0_digest_67 : decode cX0_digest 67 = .ok (.iinc 3 1, 3) := by decide +kernel
theorem dX0_digest_70 : decode cX0_digest 70 = .ok (.goto (-39), 3) := by decide +kernel
theorem dX0_digest_73 : decode cX0_digest 73 = .ok (.iconst 0, 1) := by decide +kernel
theorem dX0_digest_74 : decode cX0_digest 74 = .ok (.istore_n 3, 1) := by decide +kernel
theorem dX0_digest_75 : decode cX0_digest 75 = .ok (.iload_n 3, 1) := by decide +kernel
theorem dX0_digest_76 : decode cX0_digest 76 = .ok (.aload_n 0, 1) := by decide +kernel
theorem dX0_digest_77 : decode cX0_digest 77 = .ok (.getfield 145, 3) := by decide +kernel
theorem dX0_digest_80 : decode cX0_digest 80 = .ok (.if_icmp .ge 21, 3) := by decide +kernel
theorem dX0_digest_83 : decode cX0_digest 83 = .ok (.lload_n 1, 1) := by decide +kernel
theorem dX0_digest_84 : decode cX0_digest 84 = .ok (.aload_n 0, 1) := by decide +kernel
theorem dX0_digest_85 : decode cX0_digest 85 = .ok (.getfield 26, 3) := by decide +kernel
theorem dX0_digest_88 : decode cX0_digest 88 = .ok (.iload_n 3, 1) := by decide +kernel
theorem dX0_digest_89 : decode cX0_digest 89 = .ok (.iaload, 1) := by decide +kernel
theorem dX0_digest_90 : decode cX0_digest 90 = .ok (.i2l, 1) := by decide +kernel
theorem dX0_digest_91 : decode cX0_digest 91 = .ok (.invokestatic 141, 3) := by decide +kernel
theorem dX0_digest_94 : decode cX0_digest 94 = .ok (.lstore_n 1, 1) := by decide +kernel
theorem dX0_digest_95 : decode cX0_digest 95 = .ok (.iinc 3 1, 3) := by decide +kernel
theorem dX0_digest_98 : decode cX0_digest 98 = .ok (.goto (-23), 3) := by decide +kernel
theorem dX0_digest_101 : decode cX0_digest 101 = .ok (.iconst 0, 1) := by decide +kernel
theorem dX0_digest_102 : decode cX0_digest 102 = .ok (.istore_n 3, 1) := by decide +kernel
theorem dX0_digest_103 : decode cX0_digest 103 = .ok (.iload_n 3, 1) := by decide +kernel
theorem dX0_digest_104 : decode cX0_digest 104 = .ok (.aload_n 0, 1) := by decide +kernel
theorem dX0_digest_105 : decode cX0_digest 105 = .ok (.getfield 46, 3) := by decide +kernel
theorem dX0_digest_108 : decode cX0_digest 108 = .ok (.if_icmp .ge 48, 3) := by decide +kernel
theorem dX0_digest_111 : decode cX0_digest 111 = .ok (.iconst 0, 1) := by decide +kernel
theorem dX0_digest_112 : decode cX0_digest 112 = .ok (.istore 4, 2) := by decide +kernel
theorem dX0_digest_114 : decode cX0_digest 114 = .ok (.iload 4, 2) := by decide +kernel
theorem dX0_digest_116 : decode cX0_digest 116 = .ok (.iconst 1, 1) := by decide +kernel
theorem dX0_digest_117 : decode cX0_digest 117 = .ok (.if_icmp .gt 33, 3) := by decide +kernel
theorem dX0_digest_120 : decode cX0_digest 120 = .ok (.lload_n 1, 1) := by decide +kernel
theorem dX0_digest_121 : decode cX0_digest 121 = .ok (.aload_n 0, 1) := by decide +kernel
theorem dX0_digest_122 : decode cX0_digest 122 = .ok (.iload_n 3, 1) := by decide +kernel
theorem dX0_digest_123 : decode cX0_digest 123 = .ok (.iload 4, 2) := by decide +kernel
theorem dX0_digest_125 : decode cX0_digest 125 = .ok (.aload_n 0, 1) := by decide +kernel
theorem dX0_digest_126 : decode cX0_digest 126 = .ok (.getfield 7, 3) := by decide +kernel
theorem dX0_digest_129 : decode cX0_digest 129 = .ok (.invokevirtual 118, 3) := by decide +kernel
theorem dX0_digest_132 : decode cX0_digest 132 = .ok (.ifCond .eq 7, 3) := by decide +kernel
theorem dX0_digest_135 : decode cX0_digest 135 = .ok (.lconst 1, 1) := by decide +kernel
theorem dX0_digest_136 : decode cX0_digest 136 = .ok (.goto 4, 3) := by decide +kernel
theorem dX0_digest_139 : decode cX0_digest 139 = .ok (.lconst 0, 1) := by decide +kernel
theorem dX0_digest_140 : decode cX0_digest 140 = .ok (.invokestatic 141, 3) := by decide +kernel
theorem dX0_digest_143 : decode cX0_digest 143 = .ok (.lstore_n 1, 1) := by decide +kernel
theorem dX0_digest_144 : decode cX0_digest 144 = .ok (.iinc 4 1, 3) := by decide +kernel
theorem dX0_digest_147 : decode cX0_digest 147 = .ok (.goto (-33), 3) := by decide +kernel
theorem dX0_digest_150 : decode cX0_digest 150 = .ok (.iinc 3 1, 3) := by decide +kernel
theorem dX0_digest_153 : decode cX0_digest 153 = .ok (.goto (-50), 3) := by decide +kernel
theorem dX0_digest_156 : decode cX0_digest 156 = .ok (.lload_n 1, 1) := by decide +kernel
theorem dX0_digest_157 : decode cX0_digest 157 = .ok (.lreturn, 1) := by decide +kernel
theorem dX0_isGeneral_0 : decode cX0_isGeneral 0 = .ok (.iload_n 1, 1) := by decide +kernel
theorem dX0_isGeneral_1 : decode cX0_isGeneral 1 = .ok (.ifCond .lt 15, 3) := by decide +kernel
theorem dX0_isGeneral_4 : decode cX0_isGeneral 4 = .ok (.iload_n 1, 1) := by decide +kernel
theorem dX0_isGeneral_5 : decode cX0_isGeneral 5 = .ok (.aload_n 0, 1) := by decide +kernel
theorem dX0_isGeneral_6 : decode cX0_isGeneral 6 = .ok (.getfield 46, 3) := by decide +kernel
theorem dX0_isGeneral_9 : decode cX0_isGeneral 9 = .ok (.if_icmp .ge 7, 3) := by decide +kernel
theorem dX0_isGeneral_12 : decode cX0_isGeneral 12 = .ok (.iconst 1, 1) := by decide +kernel
theorem dX0_isGeneral_13 : decode cX0_isGeneral 13 = .ok (.goto 4, 3) := by decide +kernel
theorem dX0_isGeneral_16 : decode cX0_isGeneral 16 = .ok (.iconst 0, 1) := by decide +kernel
theorem dX0_isGeneral_17 : decode cX0_isGeneral 17 = .ok (.ireturn, 1) := by decide +kernel
set_option maxRecDepth 20000 in
theorem ggX0_requireGeneral_X0_isGeneral : GoodIn wsX0_requireGeneral wsX0_isGeneral := goodIn_r _ [7, 8, 9, 10, 11, 12, 13, 14, 15, 16, 17, 18, 19, 20, 21, 22, 23, 24, 25, 26] (by decide +kernel) (by decide +kernel)
set_option maxRecDepth 20000 in
theorem gX0_requireGeneral_X0_isGeneral : GoodIn wsX0_requireGeneral (wsV RX0 148 RX0 yX0_isGeneral wsX0_isGeneral) := goodIn_app (goodIn_of _ (by decide +kernel)) ggX0_requireGeneral_X0_isGeneral
theorem dX0_requireGeneral_0 : decode cX0_requireGeneral 0 = .ok (.aload_n 0, 1) := by decide +kernel
theorem dX0_requireGeneral_1 : decode cX0_requireGeneral 1 = .ok (.iload_n 1, 1) := by decide +kernel
theorem dX0_requireGeneral_2 : decode cX0_requireGeneral 2 = .ok (.invokevirtual 148, 3) := by decide +kernel
theorem dX0_requireGeneral_5 : decode cX0_requireGeneral 5 = .ok (.ifCond .ne 13, 3) := by decide +kernel
theorem dX0_requireGeneral_8 : decode cX0_requireGeneral 8 = .ok (.new 60, 3) := by decide +kernel
theorem dX0_requireGeneral_11 : decode cX0_requireGeneral 11 = .ok (.dup, 1) := by decide +kernel
theorem dX0_requireGeneral_12 : decode cX0_requireGeneral 12 = .ok (.ldc 151, 2) := by decide +kernel
theorem dX0_requireGeneral_14 : decode cX0_requireGeneral 14 = .ok (.invokespecial 64, 3) := by decide +kernel
theorem dX0_requireGeneral_17 : decode cX0_requireGeneral 17 = .ok (.athrow, 1) := by decide +kernel
theorem dX0_requireGeneral_18 : decode cX0_requireGeneral 18 = .ok (.return_, 1) := by decide +kernel
set_option maxRecDepth 20000 in
theorem ggX0_requirePresent_X0_requireGeneral : GoodIn wsX0_requirePresent wsX0_requireGeneral := goodIn_ca (goodIn_r _ [9, 1, 2, 10, 11, 12, 8, 13, 14, 15, 16, 17, 18, 19, 20, 21, 22, 23, 24, 25, 26, 27, 28, 29, 30, 31, 32] (by decide +kernel) (by decide +kernel)) (goodIn_sub (fun _ h => List.mem_cons_of_mem _ (List.mem_append_right _ h)) (by decide +kernel))
set_option maxRecDepth 20000 in
theorem gX0_requirePresent_X0_requireGeneral : GoodIn wsX0_requirePresent (wsV RX0 56 RX0 yX0_requireGeneral wsX0_requireGeneral) := goodIn_app (goodIn_of _ (by decide +kernel)) ggX0_requirePresent_X0_requireGeneral
theorem dX0_requirePresent_0 : decode cX0_requirePresent 0 = .ok (.aload_n 0, 1) := by decide +kernel
theorem dX0_requirePresent_1 : decode cX0_requirePresent 1 = .ok (.iload_n 1, 1) := by decide +kernel
theorem dX0_requirePresent_2 : decode cX0_requirePresent 2 = .ok (.invokevirtual 56, 3) := by decide +kernel
theorem dX0_requirePresent_5 : decode cX0_requirePresent 5 = .ok (.aload_n 0, 1) := by decide +kernel
theorem dX0_requirePresent_6 : decode cX0_requirePresent 6 = .ok (.getfield 133, 3) := by decide +kernel
theorem dX0_requirePresent_9 : decode cX0_requirePresent 9 = .ok (.ifCond .le 21, 3) := by decide +kernel
theorem dX0_requirePresent_12 : decode cX0_requirePresent 12 = .ok (.iload_n 1, 1) := by decide +kernel
theorem dX0_requirePresent_13 : decode cX0_requirePresent 13 = .ok (.aload_n 0, 1) := by decide +kernel
theorem dX0_requirePresent_14 : decode cX0_requirePresent 14 = .ok (.getfield 145, 3) := by decide +kernel
theorem dX0_requirePresent_17 : decode cX0_requirePresent 17 = .ok (.if_icmp .lt 13, 3) := by decide +kernel
theorem dX0_requirePresent_20 : decode cX0_requirePresent 20 = .ok (.new 60, 3) := by decide +kernel
theorem dX0_requirePresent_23 : decode cX0_requirePresent 23 = .ok (.dup, 1) := by decide +kernel
theorem dX0_requirePresent_24 : decode cX0_requirePresent 24 = .ok (.ldc 153, 2) := by decide +kernel
theorem dX0_requirePresent_26 : decode cX0_requirePresent 26 = .ok (.invokespecial 64, 3) := by decide +kernel
theorem dX0_requirePresent_29 : decode cX0_requirePresent 29 = .ok (.athrow, 1) := by decide +kernel
theorem dX0_requirePresent_30 : decode cX0_requirePresent 30 = .ok (.return_, 1) := by decide +kernel
theorem dX0_requireRounds_0 : decode cX0_requireRounds 0 = .ok (.iload_n 0, 1) := by decide +kernel
theorem dX0_requireRounds_1 : decode cX0_requireRounds 1 = .ok (.ifCond .lt 8, 3) := by decide +kernel
theorem dX0_requireRounds_4 : decode cX0_requireRounds 4 = .ok (.iload_n 0, 1) := by decide +kernel
theorem dX0_requireRounds_5 : decode cX0_requireRounds 5 = .ok (.iconst 3, 1) := by decide +kernel
theorem dX0_requireRounds_6 : decode cX0_requireRounds 6 = .ok (.if_icmp .le 13, 3) := by decide +kernel
theorem dX0_requireRounds_9 : decode cX0_requireRounds 9 = .ok (.new 105, 3) := by decide +kernel
theorem dX0_requireRounds_12 : decode cX0_requireRounds 12 = .ok (.dup, 1) := by decide +kernel
theorem dX0_requireRounds_13 : decode cX0_requireRounds 13 = .ok (.ldc 159, 2) := by decide +kernel
theorem dX0_requireRounds_15 : decode cX0_requireRounds 15 = .ok (.invokespecial 109, 3) := by decide +kernel
theorem dX0_requireRounds_18 : decode cX0_requireRounds 18 = .ok (.athrow, 1) := by decide +kernel
theorem dX0_requireRounds_19 : decode cX0_requireRounds 19 = .ok (.return_, 1) := by decide +kernel
theorem dX0_alwaysAgree_0 : decode cX0_alwaysAgree 0 = .ok (.iconst 0, 1) := by decide +kernel
theorem dX0_alwaysAgree_1 : decode cX0_alwaysAgree 1 = .ok (.istore_n 2, 1) := by decide +kernel
theorem dX0_alwaysAgree_2 : decode cX0_alwaysAgree 2 = .ok (.iload_n 2, 1) := by decide +kernel
theorem dX0_alwaysAgree_3 : decode cX0_alwaysAgree 3 = .ok (.aload_n 0, 1) := by decide +kernel
theorem dX0_alwaysAgree_4 : decode cX0_alwaysAgree 4 = .ok (.getfield 46, 3) := by decide +kernel
theorem dX0_alwaysAgree_7 : decode cX0_alwaysAgree 7 = .ok (.if_icmp .ge 34, 3) := by decide +kernel
theorem dX0_alwaysAgree_10 : decode cX0_alwaysAgree 10 = .ok (.iconst 0, 1) := by decide +kernel
theorem dX0_alwaysAgree_11 : decode cX0_alwaysAgree 11 = .ok (.istore_n 3, 1) := by decide +kernel
theorem dX0_alwaysAgree_12 : decode cX0_alwaysAgree 12 = .ok (.iload_n 3, 1) := by decide +kernel
theorem dX0_alwaysAgree_13 : decode cX0_alwaysAgree 13 = .ok (.iconst 1, 1) := by decide +kernel
theorem dX0_alwaysAgree_14 : decode cX0_alwaysAgree 14 = .ok (.if_icmp .gt 21, 3) := by decide +kernel
theorem dX0_alwaysAgree_17 : decode cX0_alwaysAgree 17 = .ok (.aload_n 0, 1) := by decide +kernel
theorem dX0_alwaysAgree_18 : decode cX0_alwaysAgree 18 = .ok (.iload_n 2, 1) := by decide +kernel
theorem dX0_alwaysAgree_19 : decode cX0_alwaysAgree 19 = .ok (.iload_n 3, 1) := by decide +kernel
theorem dX0_alwaysAgree_20 : decode cX0_alwaysAgree 20 = .ok (.iload_n 1, 1) := by decide +kernel
theorem dX0_alwaysAgree_21 : decode cX0_alwaysAgree 21 = .ok (.invokevirtual 118, 3) := by decide +kernel
theorem dX0_alwaysAgree_24 : decode cX0_alwaysAgree 24 = .ok (.ifCond .ne 5, 3) := by decide +kernel
theorem dX0_alwaysAgree_27 : decode cX0_alwaysAgree 27 = .ok (.iconst 0, 1) := by decide +kernel
theorem dX0_alwaysAgree_28 : decode cX0_alwaysAgree 28 = .ok (.ireturn, 1) := by decide +kernel
theorem dX0_alwaysAgree_29 : decode cX0_alwaysAgree 29 = .ok (.iinc 3 1, 3) := by decide +kernel
theorem dX0_alwaysAgree_32 : decode cX0_alwaysAgree 32 = .ok (.goto (-20), 3) := by decide +kernel
theorem dX0_alwaysAgree_35 : decode cX0_alwaysAgree 35 = .ok (.iinc 2 1, 3) := by decide +kernel
theorem dX0_alwaysAgree_38 : decode cX0_alwaysAgree 38 = .ok (.goto (-36), 3) := by decide +kernel
theorem dX0_alwaysAgree_41 : decode cX0_alwaysAgree 41 = .ok (.iconst 1, 1) := by decide +kernel
theorem dX0_alwaysAgree_42 : decode cX0_alwaysAgree 42 = .ok (.ireturn, 1) := by decide +kernel
theorem dX0_messengersAmong_0 : decode cX0_messengersAmong 0 = .ok (.iconst 1, 1) := by decide +kernel
theorem dX0_messengersAmong_1 : decode cX0_messengersAmong 1 = .ok (.istore_n 2, 1) := by decide +kernel
theorem dX0_messengersAmong_2 : decode cX0_messengersAmong 2 = .ok (.iconst 0, 1) := by decide +kernel
theorem dX0_messengersAmong_3 : decode cX0_messengersAmong 3 = .ok (.istore_n 3, 1) := by decide +kernel
theorem dX0_messengersAmong_4 : decode cX0_messengersAmong 4 = .ok (.iconst 0, 1) := by decide +kernel
theorem dX0_messengersAmong_5 : decode cX0_messengersAmong 5 = .ok (.istore 4, 2) := by decide +kernel
theorem dX0_messengersAmong_7 : decode cX0_messengersAmong 7 = .ok (.iload 4, 2) := by decide +kernel
theorem dX0_messengersAmong_9 : decode cX0_messengersAmong 9 = .ok (.iload_n 1, 1) := by decide +kernel
theorem dX0_messengersAmong_10 : decode cX0_messengersAmong 10 = .ok (.if_icmp .gt 30, 3) := by decide +kernel
theorem dX0_messengersAmong_13 : decode cX0_messengersAmong 13 = .ok (.iload 4, 2) := by decide +kernel
theorem dX0_messengersAmong_15 : decode cX0_messengersAmong 15 = .ok (.iload_n 0, 1) := by decide +kernel
theorem dX0_messengersAmong_16 : decode cX0_messengersAmong 16 = .ok (.iconst 1, 1) := by decide +kernel
theorem dX0_messengersAmong_17 : decode cX0_messengersAmong 17 = .ok (.isub, 1) := by decide +kernel
theorem dX0_messengersAmong_18 : decode cX0_messengersAmong 18 = .ok (.if_icmp .ge 22, 3) := by decide +kernel
theorem dX0_messengersAmong_21 : decode cX0_messengersAmong 21 = .ok (.iload_n 2, 1) := by decide +kernel
theorem dX0_messengersAmong_22 : decode cX0_messengersAmong 22 = .ok (.iload_n 0, 1) := by decide +kernel
theorem dX0_messengersAmong_23 : decode cX0_messengersAmong 23 = .ok (.iconst 1, 1) := by decide +kernel
theorem dX0_messengersAmong_24 : decode cX0_messengersAmong 24 = .ok (.isub, 1) := by decide +kernel
theorem dX0_messengersAmong_25 : decode cX0_messengersAmong 25 = .ok (.iload 4, 2) := by decide +kernel
theorem dX0_messengersAmong_27 : decode cX0_messengersAmong 27 = .ok (.isub, 1) := by decide +kernel
theorem dX0_messengersAmong_28 : decode cX0_messengersAmong 28 = .ok (.imul, 1) := by decide +kernel
theorem dX0_messengersAmong_29 : decode cX0_messengersAmong 29 = .ok (.istore_n 2, 1) := by decide +kernel
theorem dX0_messengersAmong_30 : decode cX0_messengersAmong 30 = .ok (.iload_n 3, 1) := by decide +kernel
theorem dX0_messengersAmong_31 : decode cX0_messengersAmong 31 = .ok (.iload_n 2, 1) := by decide +kernel
theorem dX0_messengersAmong_32 : decode cX0_messengersAmong 32 = .ok (.iadd, 1) := by decide +kernel
theorem dX0_messengersAmong_33 : decode cX0_messengersAmong 33 = .ok (.istore_n 3, 1) := by decide +kernel
theorem dX0_messengersAmong_34 : decode cX0_messengersAmong 34 = .ok (.iinc 4 1, 3) := by decide +kernel
theorem dX0_messengersAmong_37 : decode cX0_messengersAmong 37 = .ok (.goto (-30), 3) := by decide +kernel
theorem dX0_messengersAmong_40 : decode cX0_messengersAmong 40 = .ok (.iload_n 3, 1) := by decide +kernel
theorem dX0_messengersAmong_41 : decode cX0_messengersAmong 41 = .ok (.ireturn, 1) := by decide +kernel
set_option maxRecDepth 20000 in
theorem ggX0_counted_X0_liarsNow : GoodIn wsX0_counted wsX0_liarsNow := goodIn_r _ [8, 1, 9, 23, 24, 25, 26, 27, 28, 29, 30, 31, 32, 33, 34, 35, 36, 37, 38, 39, 40] (by decide +kernel) (by decide +kernel)
set_option maxRecDepth 20000 in
theorem gX0_counted_X0_liarsNow : GoodIn wsX0_counted (wsV RX0 187 RX0 yX0_liarsNow wsX0_liarsNow) := goodIn_app (goodIn_of _ (by decide +kernel)) ggX0_counted_X0_liarsNow
theorem dX0_counted_0 : decode cX0_counted 0 = .ok (.iload_n 1, 1) := by decide +kernel
theorem dX0_counted_1 : decode cX0_counted 1 = .ok (.tableswitch 51 0 3 #[31, 36, 41, 46], 31) := by decide +kernel
theorem dX0_counted_32 : decode cX0_counted 32 = .ok (.aload_n 0, 1) := by decide +kernel
theorem dX0_counted_33 : decode cX0_counted 33 = .ok (.getfield 46, 3) := by decide +kernel
theorem dX0_counted_36 : decode cX0_counted 36 = .ok (.ireturn, 1) := by decide +kernel
theorem dX0_counted_37 : decode cX0_counted 37 = .ok (.aload_n 0, 1) := by decide +kernel
theorem dX0_counted_38 : decode cX0_counted 38 = .ok (.getfield 7, 3) := by decide +kernel
theorem dX0_counted_41 : decode cX0_counted 41 = .ok (.ireturn, 1) := by decide +kernel
theorem dX0_counted_42 : decode cX0_counted 42 = .ok (.aload_n 0, 1) := by decide +kernel
theorem dX0_counted_43 : decode cX0_counted 43 = .ok (.invokevirtual 187, 3) := by decide +kernel
theorem dX0_counted_46 : decode cX0_counted 46 = .ok (.ireturn, 1) := by decide +kernel
theorem dX0_counted_47 : decode cX0_counted 47 = .ok (.aload_n 0, 1) := by decide +kernel
theorem dX0_counted_48 : decode cX0_counted 48 = .ok (.getfield 133, 3) := by decide +kernel
theorem dX0_counted_51 : decode cX0_counted 51 = .ok (.ireturn, 1) := by decide +kernel
theorem dX0_counted_52 : decode cX0_counted 52 = .ok (.aload_n 0, 1) := by decide +kernel
theorem dX0_counted_53 : decode cX0_counted 53 = .ok (.getfield 133, 3) := by decide +kernel
theorem dX0_counted_56 : decode cX0_counted 56 = .ok (.ifCond .ne 7, 3) := by decide +kernel
theorem dX0_counted_59 : decode cX0_counted 59 = .ok (.iconst (-1), 1) := by decide +kernel
theorem dX0_counted_60 : decode cX0_counted 60 = .ok (.goto 8, 3) := by decide +kernel
theorem dX0_counted_63 : decode cX0_counted 63 = .ok (.aload_n 0, 1) := by decide +kernel
theorem dX0_counted_64 : decode cX0_counted 64 = .ok (.iload_n 1, 1) := by decide +kernel
theorem dX0_counted_65 : decode cX0_counted 65 = .ok (.invokevirtual 191, 3) := by decide +kernel
theorem dX0_counted_68 : decode cX0_counted 68 = .ok (.ireturn, 1) := by decide +kernel
theorem dX0_liarsNow_0 : decode cX0_liarsNow 0 = .ok (.iconst 0, 1) := by decide +kernel
theorem dX0_liarsNow_1 : decode cX0_liarsNow 1 = .ok (.istore_n 1, 1) := by decide +kernel
theorem dX0_liarsNow_2 : decode cX0_liarsNow 2 = .ok (.iconst 0, 1) := by decide +kernel
theorem dX0_liarsNow_3 : decode cX0_liarsNow 3 = .ok (.istore_n 2, 1) := by decide +kernel
theorem dX0_liarsNow_4 : decode cX0_liarsNow 4 = .ok (.iload_n 2, 1) := by decide +kernel
theorem dX0_liarsNow_5 : decode cX0_liarsNow 5 = .ok (.aload_n 0, 1) := by decide +kernel
theorem dX0_liarsNow_6 : decode cX0_liarsNow 6 = .ok (.getfield 46, 3) := by decide +kernel
theorem dX0_liarsNow_9 : decode cX0_liarsNow 9 = .ok (.if_icmp .ge 21, 3) := by decide +kernel
theorem dX0_liarsNow_12 : decode cX0_liarsNow 12 = .ok (.aload_n 0, 1) := by decide +kernel
theorem dX0_liarsNow_13 : decode cX0_liarsNow 13 = .ok (.getfield 13, 3) := by decide +kernel
theorem dX0_liarsNow_16 : decode cX0_liarsNow 16 = .ok (.iload_n 2, 1) := by decide +kernel
theorem dX0_liarsNow_17 : decode cX0_liarsNow 17 = .ok (.iaload, 1) := by decide +kernel
theorem dX0_liarsNow_18 : decode cX0_liarsNow 18 = .ok (.ifCond .eq 6, 3) := by decide +kernel
theorem dX0_liarsNow_21 : decode cX0_liarsNow 21 = .ok (.iinc 1 1, 3) := by decide +kernel
theorem dX0_liarsNow_24 : decode cX0_liarsNow 24 = .ok (.iinc 2 1, 3) := by decide +kernel
theorem dX0_liarsNow_27 : decode cX0_liarsNow 27 = .ok (.goto (-23), 3) := by decide +kernel
theorem dX0_liarsNow_30 : decode cX0_liarsNow 30 = .ok (.iload_n 1, 1) := by decide +kernel
theorem dX0_liarsNow_31 : decode cX0_liarsNow 31 = .ok (.ireturn, 1) := by decide +kernel
theorem dX0_mixed_0 : decode cX0_mixed 0 = .ok (.lload_n 0, 1) := by decide +kernel
theorem dX0_mixed_1 : decode cX0_mixed 1 = .ok (.ldc2_w 197, 3) := by decide +kernel
theorem dX0_mixed_4 : decode cX0_mixed 4 = .ok (.lmul, 1) := by decide +kernel
theorem dX0_mixed_5 : decode cX0_mixed 5 = .ok (.lload_n 2, 1) := by decide +kernel
theorem dX0_mixed_6 : decode cX0_mixed 6 = .ok (.ladd, 1) := by decide +kernel
theorem dX0_mixed_7 : decode cX0_mixed 7 = .ok (.lreturn, 1) := by decide +kernel
