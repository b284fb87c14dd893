theorem dX0_init_0 : decode cX0_init 0 = .ok (.aload_n 0, 1) := by decide +kernel
theorem dX0_init_1 : decode cX0_init 1 = .ok (.invokespecial 3, 3) := by decide +kernel
theorem dX0_init_4 : decode cX0_init 4 = .ok (.aload_n 0, 1) := by decide +kernel
theorem dX0_init_5 : decode cX0_init 5 = .ok (.bipush 20, 2) := by decide +kernel
theorem dX0_init_7 : decode cX0_init 7 = .ok (.newarray .int, 2) := by decide +kernel
theorem dX0_init_9 : decode cX0_init 9 = .ok (.putfield 11, 3) := by decide +kernel
theorem dX0_init_12 : decode cX0_init 12 = .ok (.aload_n 0, 1) := by decide +kernel
theorem dX0_init_13 : decode cX0_init 13 = .ok (.bipush 20, 2) := by decide +kernel
theorem dX0_init_15 : decode cX0_init 15 = .ok (.newarray .int, 2) := by decide +kernel
theorem dX0_init_17 : decode cX0_init 17 = .ok (.putfield 17, 3) := by decide +kernel
theorem dX0_init_20 : decode cX0_init 20 = .ok (.return_, 1) := by decide +kernel
theorem dX0_isFull_0 : decode cX0_isFull 0 = .ok (.aload_n 0, 1) := by decide +kernel
theorem dX0_isFull_1 : decode cX0_isFull 1 = .ok (.getfield 20, 3) := by decide +kernel
theorem dX0_isFull_4 : decode cX0_isFull 4 = .ok (.bipush 20, 2) := by decide +kernel
theorem dX0_isFull_6 : decode cX0_isFull 6 = .ok (.if_icmp .lt 7, 3) := by decide +kernel
theorem dX0_isFull_9 : decode cX0_isFull 9 = .ok (.iconst 1, 1) := by decide +kernel
theorem dX0_isFull_10 : decode cX0_isFull 10 = .ok (.goto 4, 3) := by decide +kernel
theorem dX0_isFull_13 : decode cX0_isFull 13 = .ok (.iconst 0, 1) := by decide +kernel
theorem dX0_isFull_14 : decode cX0_isFull 14 = .ok (.ireturn, 1) := by decide +kernel
theorem dX0_enter_0 : decode cX0_enter 0 = .ok (.aload_n 0, 1) := by decide +kernel
theorem dX0_enter_1 : decode cX0_enter 1 = .ok (.getfield 11, 3) := by decide +kernel
theorem dX0_enter_4 : decode cX0_enter 4 = .ok (.aload_n 0, 1) := by decide +kernel
theorem dX0_enter_5 : decode cX0_enter 5 = .ok (.getfield 20, 3) := by decide +kernel
theorem dX0_enter_8 : decode cX0_enter 8 = .ok (.iload_n 1, 1) := by decide +kernel
theorem dX0_enter_9 : decode cX0_enter 9 = .ok (.iastore, 1) := by decide +kernel
theorem dX0_enter_10 : decode cX0_enter 10 = .ok (.aload_n 0, 1) := by decide +kernel
theorem dX0_enter_11 : decode cX0_enter 11 = .ok (.getfield 17, 3) := by decide +kernel
theorem dX0_enter_14 : decode cX0_enter 14 = .ok (.aload_n 0, 1) := by decide +kernel
theorem dX0_enter_15 : decode cX0_enter 15 = .ok (.getfield 20, 3) := by decide +kernel
theorem dX0_enter_18 : decode cX0_enter 18 = .ok (.iload_n 2, 1) := by decide +kernel
theorem dX0_enter_19 : decode cX0_enter 19 = .ok (.iastore, 1) := by decide +kernel
theorem dX0_enter_20 : decode cX0_enter 20 = .ok (.aload_n 0, 1) := by decide +kernel
theorem dX0_enter_21 : decode cX0_enter 21 = .ok (.dup, 1) := by decide +kernel
theorem dX0_enter_22 : decode cX0_enter 22 = .ok (.getfield 20, 3) := by decide +kernel
theorem dX0_enter_25 : decode cX0_enter 25 = .ok (.iconst 1, 1) := by decide +kernel
theorem dX0_enter_26 : decode cX0_enter 26 = .ok (.iadd, 1) := by decide +kernel
theorem dX0_enter_27 : decode cX0_enter 27 = .ok (.putfield 20, 3) := by decide +kernel
theorem dX0_enter_30 : decode cX0_enter 30 = .ok (.return_, 1) := by decide +kernel
theorem dX0_firstWrong_0 : decode cX0_firstWrong 0 = .ok (.iconst 0, 1) := by decide +kernel
theorem dX0_firstWrong_1 : decode cX0_firstWrong 1 = .ok (.istore_n 3, 1) := by decide +kernel
theorem dX0_firstWrong_2 : decode cX0_firstWrong 2 = .ok (.iload_n 3, 1) := by decide +kernel
theorem dX0_firstWrong_3 : decode cX0_firstWrong 3 = .ok (.aload_n 0, 1) := by decide +kernel
theorem dX0_firstWrong_4 : decode cX0_firstWrong 4 = .ok (.getfield 20, 3) := by decide +kernel
theorem dX0_firstWrong_7 : decode cX0_firstWrong 7 = .ok (.if_icmp .ge 21, 3) := by decide +kernel
theorem dX0_firstWrong_10 : decode cX0_firstWrong 10 = .ok (.aload_n 0, 1) := by decide +kernel
theorem dX0_firstWrong_11 : decode cX0_firstWrong 11 = .ok (.iload_n 3, 1) := by decide +kernel
theorem dX0_firstWrong_12 : decode cX0_firstWrong 12 = .ok (.aload_n 1, 1) := by decide +kernel
theorem dX0_firstWrong_13 : decode cX0_firstWrong 13 = .ok (.aload_n 2, 1) := by decide +kernel
theorem dX0_firstWrong_14 : decode cX0_firstWrong 14 = .ok (.invokevirtual 24, 3) := by decide +kernel
theorem dX0_firstWrong_17 : decode cX0_firstWrong 17 = .ok (.ifCond .ne 5, 3) := by decide +kernel
theorem dX0_firstWrong_20 : decode cX0_firstWrong 20 = .ok (.iload_n 3, 1) := by decide +kernel
theorem dX0_firstWrong_21 : decode cX0_firstWrong 21 = .ok (.ireturn, 1) := by decide +kernel
theorem dX0_firstWrong_22 : decode cX0_firstWrong 22 = .ok (.iinc 3 1, 3) := by decide +kernel
theorem dX0_firstWrong_25 : decode cX0_firstWrong 25 = .ok (.goto (-23), 3) := by decide +kernel
theorem dX0_firstWrong_28 : decode cX0_firstWrong 28 = .ok (.iconst (-1), 1) := by decide +kernel
theorem dX0_firstWrong_29 : decode cX0_firstWrong 29 = .ok (.ireturn, 1) := by decide +kernel
theorem dX0_isTrue_0 : decode cX0_isTrue 0 = .ok (.aload_n 0, 1) := by decide +kernel
theorem dX0_isTrue_1 : decode cX0_isTrue 1 = .ok (.getfield 11, 3) := by decide +kernel
theorem dX0_isTrue_4 : decode cX0_isTrue 4 = .ok (.iload_n 1, 1) := by decide +kernel
theorem dX0_isTrue_5 : decode cX0_isTrue 5 = .ok (.iaload, 1) := by decide +kernel
theorem dX0_isTrue_6 : decode cX0_isTrue 6 = .ok (.aload_n 2, 1) := by decide +kernel
theorem dX0_isTrue_7 : decode cX0_isTrue 7 = .ok (.getfield 28, 3) := by decide +kernel
theorem dX0_isTrue_10 : decode cX0_isTrue 10 = .ok (.if_icmp .lt 5, 3) := by decide +kernel
theorem dX0_isTrue_13 : decode cX0_isTrue 13 = .ok (.iconst 0, 1) := by decide +kernel
theorem dX0_isTrue_14 : decode cX0_isTrue 14 = .ok (.ireturn, 1) := by decide +kernel
theorem dX0_isTrue_15 : decode cX0_isTrue 15 = .ok (.aload_n 2, 1) := by decide +kernel
theorem dX0_isTrue_16 : decode cX0_isTrue 16 = .ok (.getfield 31, 3) := by decide +kernel
theorem dX0_isTrue_19 : decode cX0_isTrue 19 = .ok (.aload_n 0, 1) := by decide +kernel
theorem dX0_isTrue_20 : decode cX0_isTrue 20 = .ok (.getfield 11, 3) := by decide +kernel
theorem dX0_isTrue_23 : decode cX0_isTrue 23 = .ok (.iload_n 1, 1) := by decide +kernel
theorem dX0_isTrue_24 : decode cX0_isTrue 24 = .ok (.iaload, 1) := by decide +kernel
theorem dX0_isTrue_25 : decode cX0_isTrue 25 = .ok (.aaload, 1) := by decide +kernel
theorem dX0_isTrue_26 : decode cX0_isTrue 26 = .ok (.astore 4, 2) := by decide +kernel
theorem dX0_isTrue_28 : decode cX0_isTrue 28 = .ok (.aload_n 3, 1) := by decide +kernel
theorem dX0_isTrue_29 : decode cX0_isTrue 29 = .ok (.aload 4, 2) := by decide +kernel
theorem dX0_isTrue_31 : decode cX0_isTrue 31 = .ok (.invokevirtual 35, 3) := by decide +kernel
theorem dX0_isTrue_34 : decode cX0_isTrue 34 = .ok (.ifCond .eq 22, 3) := by decide +kernel
theorem dX0_isTrue_37 : decode cX0_isTrue 37 = .ok (.aload_n 3, 1) := by decide +kernel
theorem dX0_isTrue_38 : decode cX0_isTrue 38 = .ok (.aload 4, 2) := by decide +kernel
theorem dX0_isTrue_40 : decode cX0_isTrue 40 = .ok (.invokevirtual 41, 3) := by decide +kernel
theorem dX0_isTrue_43 : decode cX0_isTrue 43 = .ok (.aload_n 0, 1) := by decide +kernel
theorem dX0_isTrue_44 : decode cX0_isTrue 44 = .ok (.getfield 17, 3) := by decide +kernel
theorem dX0_isTrue_47 : decode cX0_isTrue 47 = .ok (.iload_n 1, 1) := by decide +kernel
theorem dX0_isTrue_48 : decode cX0_isTrue 48 = .ok (.iaload, 1) := by decide +kernel
theorem dX0_isTrue_49 : decode cX0_isTrue 49 = .ok (.if_icmp .ne 7, 3) := by decide +kernel
theorem dX0_isTrue_52 : decode cX0_isTrue 52 = .ok (.iconst 1, 1) := by decide +kernel
theorem dX0_isTrue_53 : decode cX0_isTrue 53 = .ok (.goto 4, 3) := by decide +kernel
theorem dX0_isTrue_56 : decode cX0_isTrue 56 = .ok (.iconst 0, 1) := by decide +kernel
theorem dX0_isTrue_57 : decode cX0_isTrue 57 = .ok (.ireturn, 1) := by decide +kernel
theorem dX1_init_0 : decode cX1_init 0 = .ok (.aload_n 0, 1) := by decide +kernel
theorem dX1_init_1 : decode cX1_init 1 = .ok (.invokespecial 1, 3) := by decide +kernel
theorem dX1_init_4 : decode cX1_init 4 = .ok (.aload_n 0, 1) := by decide +kernel
theorem dX1_init_5 : decode cX1_init 5 = .ok (.iload_n 1, 1) := by decide +kernel
theorem dX1_init_6 : decode cX1_init 6 = .ok (.newarray .int, 2) := by decide +kernel
theorem dX1_init_8 : decode cX1_init 8 = .ok (.putfield 7, 3) := by decide +kernel
theorem dX1_init_11 : decode cX1_init 11 = .ok (.return_, 1) := by decide +kernel
theorem dX1_begin_0 : decode cX1_begin 0 = .ok (.aload_n 0, 1) := by decide +kernel
theorem dX1_begin_1 : decode cX1_begin 1 = .ok (.iload_n 1, 1) := by decide +kernel
theorem dX1_begin_2 : decode cX1_begin 2 = .ok (.aload_n 0, 1) := by decide +kernel
theorem dX1_begin_3 : decode cX1_begin 3 = .ok (.getfield 7, 3) := by decide +kernel
theorem dX1_begin_6 : decode cX1_begin 6 = .ok (.arraylength, 1) := by decide +kernel
theorem dX1_begin_7 : decode cX1_begin 7 = .ok (.invokestatic 13, 3) := by decide +kernel
theorem dX1_begin_10 : decode cX1_begin 10 = .ok (.putfield 19, 3) := by decide +kernel
theorem dX1_begin_13 : decode cX1_begin 13 = .ok (.iconst 0, 1) := by decide +kernel
theorem dX1_begin_14 : decode cX1_begin 14 = .ok (.istore_n 2, 1) := by decide +kernel
theorem dX1_begin_15 : decode cX1_begin 15 = .ok (.iload_n 2, 1) := by decide +kernel
theorem dX1_begin_16 : decode cX1_begin 16 = .ok (.aload_n 0, 1) := by decide +kernel
theorem dX1_begin_17 : decode cX1_begin 17 = .ok (.getfield 19, 3) := by decide +kernel
theorem dX1_begin_20 : decode cX1_begin 20 = .ok (.if_icmp .ge 16, 3) := by decide +kernel
theorem dX1_begin_23 : decode cX1_begin 23 = .ok (.aload_n 0, 1) := by decide +kernel
theorem dX1_begin_24 : decode cX1_begin 24 = .ok (.getfield 7, 3) := by decide +kernel
theorem dX1_begin_27 : decode cX1_begin 27 = .ok (.iload_n 2, 1) := by decide +kernel
theorem dX1_begin_28 : decode cX1_begin 28 = .ok (.iload_n 2, 1) := by decide +kernel
theorem dX1_begin_29 : decode cX1_begin 29 = .ok (.iastore, 1) := by decide +kernel
theorem dX1_begin_30 : decode cX1_begin 30 = .ok (.iinc 2 1, 3) := by decide +kernel
theorem dX1_begin_33 : decode cX1_begin 33 = .ok (.goto (-18), 3) := by decide +kernel
theorem dX1_begin_36 : decode cX1_begin 36 = .ok (.return_, 1) := by decide +kernel
theorem dX1_least_0 : decode cX1_least 0 = .ok (.iload_n 1, 1) := by decide +kernel
theorem dX1_least_1 : decode cX1_least 1 = .ok (.istore_n 2, 1) := by decide +kernel
theorem dX1_least_2 : decode cX1_least 2 = .ok (.iconst 0, 1) := by decide +kernel
theorem dX1_least_3 : decode cX1_least 3 = .ok (.istore_n 3, 1) := by decide +kernel
theorem dX1_least_4 : decode cX1_least 4 = .ok (.iload_n 3, 1) := by decide +kernel
theorem dX1_least_5 : decode cX1_least 5 = .ok (.aload_n 0, 1) := by decide +kernel
theorem dX1_least_6 : decode cX1_least 6 = .ok (.getfield 19, 3) := by decide +kernel
theorem dX1_least_9 : decode cX1_least 9 = .ok (.if_icmp .ge 43, 3) := by decide +kernel
theorem dX1_least_12 : decode cX1_least 12 = .ok (.aload_n 0, 1) := by decide +kernel
theorem dX1_least_13 : decode cX1_least 13 = .ok (.getfield 7, 3) := by decide +kernel
theorem dX1_least_16 : decode cX1_least 16 = .ok (.iload_n 2, 1) := by decide +kernel
theorem dX1_least_17 : decode cX1_least 17 = .ok (.iaload, 1) := by decide +kernel
theorem dX1_least_18 : decode cX1_least 18 = .ok (.iload_n 2, 1) := by decide +kernel
theorem dX1_least_19 : decode cX1_least 19 = .ok (.if_icmp .eq 33, 3) := by decide +kernel
theorem dX1_least_22 : decode cX1_least 22 = .ok (.aload_n 0, 1) := by decide +kernel
theorem dX1_least_23 : decode cX1_least 23 = .ok (.getfield 7, 3) := by decide +kernel
theorem dX1_least_26 : decode cX1_least 26 = .ok (.iload_n 2, 1) := by decide +kernel
theorem dX1_least_27 : decode cX1_least 27 = .ok (.aload_n 0, 1) := by decide +kernel
theorem dX1_least_28 : decode cX1_least 28 = .ok (.getfield 7, 3) := by decide +kernel
theorem dX1_least_31 : decode cX1_least 31 = .ok (.aload_n 0, 1) := by decide +kernel
theorem dX1_least_32 : decode cX1_least 32 = .ok (.getfield 7, 3) := by decide +kernel
theorem dX1_least_35 : decode cX1_least 35 = .ok (.iload_n 2, 1) := by decide +kernel
theorem dX1_least_36 : decode cX1_least 36 = .ok (.iaload, 1) := by decide +kernel
theorem dX1_least_37 : decode cX1_least 37 = .ok (.iaload, 1) := by decide +kernel
theorem dX1_least_38 : decode cX1_least 38 = .ok (.iastore, 1) := by decide +kernel
theorem dX1_least_39 : decode cX1_least 39 = .ok (.aload_n 0, 1) := by decide +kernel
theorem dX1_least_40 : decode cX1_least 40 = .ok (.getfield 7, 3) := by decide +kernel
theorem dX1_least_43 : decode cX1_least 43 = .ok (.iload_n 2, 1) := by decide +kernel
theorem dX1_least_44 : decode cX1_least 44 = .ok (.iaload, 1) := by decide +kernel
theorem dX1_least_45 : decode cX1_least 45 = .ok (.istore_n 2, 1) := by decide +kernel
theorem dX1_least_46 : decode cX1_least 46 = .ok (.iinc 3 1, 3) := by decide +kernel
theorem dX1_least_49 : decode cX1_least 49 = .ok (.goto (-45), 3) := by decide +kernel
theorem dX1_least_52 : decode cX1_least 52 = .ok (.iload_n 2, 1) := by decide +kernel
theorem dX1_least_53 : decode cX1_least 53 = .ok (.ireturn, 1) := by decide +kernel
theorem dX1_join_0 : decode cX1_join 0 = .ok (.aload_n 0, 1) := by decide +kernel
theorem dX1_join_1 : decode cX1_join 1 = .ok (.iload_n 1, 1) := by decide +kernel
theorem dX1_join_2 : decode cX1_join 2 = .ok (.invokevirtual 23, 3) := by decide +kernel
theorem dX1_join_5 : decode cX1_join 5 = .ok (.istore_n 3, 1) := by decide +kernel
theorem dX1_join_6 : decode cX1_join 6 = .ok (.aload_n 0, 1) := by decide +kernel
theorem dX1_join_7 : decode cX1_join 7 = .ok (.iload_n 2, 1) := by decide +kernel
theorem dX1_join_8 : decode cX1_join 8 = .ok (.invokevirtual 23, 3) := by decide +kernel
theorem dX1_join_11 : decode cX1_join 11 = .ok (.istore 4, 2) := by decide +kernel
theorem dX1_join_13 : decode cX1_join 13 = .ok (.iload_n 3, 1) := by decide +kernel
theorem dX1_join_14 : decode cX1_join 14 = .ok (.iload 4, 2) := by decide +kernel
theorem dX1_join_16 : decode cX1_join 16 = .ok (.if_icmp .ge 14, 3) := by decide +kernel
theorem dX1_join_19 : decode cX1_join 19 = .ok (.aload_n 0, 1) := by decide +kernel
theorem dX1_join_20 : decode cX1_join 20 = .ok (.getfield 7, 3) := by decide +kernel
theorem dX1_join_23 : decode cX1_join 23 = .ok (.iload 4, 2) := by decide +kernel
theorem dX1_join_25 : decode cX1_join 25 = .ok (.iload_n 3, 1) := by decide +kernel
theorem dX1_join_26 : decode cX1_join 26 = .ok (.iastore, 1) := by decide +kernel
theorem dX1_join_27 : decode cX1_join 27 = .ok (.goto 11, 3) := by decide +kernel
theorem dX1_join_30 : decode cX1_join 30 = .ok (.aload_n 0, 1) := by decide +kernel
theorem dX1_join_31 : decode cX1_join 31 = .ok (.getfield 7, 3) := by decide +kernel
theorem dX1_join_34 : decode cX1_join 34 = .ok (.iload_n 3, 1) := by decide +kernel
theorem dX1_join_35 : decode cX1_join 35 = .ok (.iload 4, 2) := by decide +kernel
theorem dX1_join_37 : decode cX1_join 37 = .ok (.iastore, 1) := by decide +kernel
theorem dX1_join_38 : decode cX1_join 38 = .ok (.return_, 1) := by decide +kernel
theorem dX1_countClasses_0 : decode cX1_countClasses 0 = .ok (.iconst 0, 1) := by decide +kernel
theorem dX1_countClasses_1 : decode cX1_countClasses 1 = .ok (.istore_n 1, 1) := by decide +kernel
theorem dX1_countClasses_2 : decode cX1_countClasses 2 = .ok (.iconst 0, 1) := by decide +kernel
theorem dX1_countClasses_3 : decode cX1_countClasses 3 = .ok (.istore_n 2, 1) := by decide +kernel
theorem dX1_countClasses_4 : decode cX1_countClasses 4 = .ok (.iload_n 2, 1) := by decide +kernel
theorem dX1_countClasses_5 : decode cX1_countClasses 5 = .ok (.aload_n 0, 1) := by decide +kernel
theorem dX1_countClasses_6 : decode cX1_countClasses 6 = .ok (.getfield 19, 3) := by decide +kernel
theorem dX1_countClasses_9 : decode cX1_countClasses 9 = .ok (.if_icmp .ge 27, 3) := by decide +kernel
theorem dX1_countClasses_12 : decode cX1_countClasses 12 = .ok (.iload_n 1, 1) := by decide +kernel
theorem dX1_countClasses_13 : decode cX1_countClasses 13 = .ok (.aload_n 0, 1) := by decide +kernel
theorem dX1_countClasses_14 : decode cX1_countClasses 14 = .ok (.getfield 7, 3) := by decide +kernel
theorem dX1_countClasses_17 : decode cX1_countClasses 17 = .ok (.iload_n 2, 1) := by decide +kernel
theorem dX1_countClasses_18 : decode cX1_countClasses 18 = .ok (.iaload, 1) := by decide +kernel
theorem dX1_countClasses_19 : decode cX1_countClasses 19 = .ok (.iload_n 2, 1) := by decide +kernel
theorem dX1_countClasses_20 : decode cX1_countClasses 20 = .ok (.if_icmp .ne 7, 3) := by decide +kernel
theorem dX1_countClasses_23 : decode cX1_countClasses 23 = .ok (.iconst 1, 1) := by decide +kernel
theorem dX1_countClasses_24 : decode cX1_countClasses 24 = .ok (.goto 4, 3) := by decide +kernel
theorem dX1_countClasses_27 : decode cX1_countClasses 27 = .ok (.iconst 0, 1) := by decide +kernel
theorem dX1_countClasses_28 : decode cX1_countClasses 28 = .ok (.iadd, 1) := by decide +kernel
theorem dX1_countClasses_29 : decode cX1_countClasses 29 = .ok (.istore_n 1, 1) := by decide +kernel
theorem dX1_countClasses_30 : decode cX1_countClasses 30 = .ok (.iinc 2 1, 3) := by decide +kernel
theorem dX1_countClasses_33 : decode cX1_countClasses 33 = .ok (.goto (-29), 3) := by decide +kernel
theorem dX1_countClasses_36 : decode cX1_countClasses 36 = .ok (.iload_n 1, 1) := by decide +kernel
theorem dX1_countClasses_37 : decode cX1_countClasses 37 = .ok (.ireturn, 1) := by decide +kernel
theorem dX1_numberThem_0 : decode cX1_numberThem 0 = .ok (.iconst 0, 1) := by decide +kernel
theorem dX1_numberThem_1 : decode cX1_numberThem 1 = .ok (.istore_n 2, 1) := by decide +kernel
theorem dX1_numberThem_2 : decode cX1_numberThem 2 = .ok (.iconst 0, 1) := by decide +kernel
theorem dX1_numberThem_3 : decode cX1_numberThem 3 = .ok (.istore_n 3, 1) := by decide +kernel
theorem dX1_numberThem_4 : decode cX1_numberThem 4 = .ok (.iload_n 3, 1) := by decide +kernel
theorem dX1_numberThem_5 : decode cX1_numberThem 5 = .ok (.aload_n 0, 1) := by decide +kernel
theorem dX1_numberThem_6 : decode cX1_numberThem 6 = .ok (.getfield 19, 3) := by decide +kernel
theorem dX1_numberThem_9 : decode cX1_numberThem 9 = .ok (.if_icmp .ge 39, 3) := by decide +kernel
theorem dX1_numberThem_12 : decode cX1_numberThem 12 = .ok (.aload_n 0, 1) := by decide +kernel
theorem dX1_numberThem_13 : decode cX1_numberThem 13 = .ok (.iload_n 3, 1) := by decide +kernel
theorem dX1_numberThem_14 : decode cX1_numberThem 14 = .ok (.invokevirtual 23, 3) := by decide +kernel
theorem dX1_numberThem_17 : decode cX1_numberThem 17 = .ok (.istore 4, 2) := by decide +kernel
theorem dX1_numberThem_19 : decode cX1_numberThem 19 = .ok (.iload 4, 2) := by decide +kernel
theorem dX1_numberThem_21 : decode cX1_numberThem 21 = .ok (.iload_n 3, 1) := by decide +kernel
theorem dX1_numberThem_22 : decode cX1_numberThem 22 = .ok (.if_icmp .ne 13, 3) := by decide +kernel
theorem dX1_numberThem_25 : decode cX1_numberThem 25 = .ok (.aload_n 1, 1) := by decide +kernel
theorem dX1_numberThem_26 : decode cX1_numberThem 26 = .ok (.iload_n 3, 1) := by decide +kernel
theorem dX1_numberThem_27 : decode cX1_numberThem 27 = .ok (.iload_n 2, 1) := by decide +kernel
theorem dX1_numberThem_28 : decode cX1_numberThem 28 = .ok (.iastore, 1) := by decide +kernel
theorem dX1_numberThem_29 : decode cX1_numberThem 29 = .ok (.iinc 2 1, 3) := by decide +kernel
theorem dX1_numberThem_32 : decode cX1_numberThem 32 = .ok (.goto 10, 3) := by decide +kernel
theorem dX1_numberThem_35 : decode cX1_numberThem 35 = .ok (.aload_n 1, 1) := by decide +kernel
theorem dX1_numberThem_36 : decode cX1_numberThem 36 = .ok (.iload_n 3, 1) := by decide +kernel
theorem dX1_numberThem_37 : decode cX1_numberThem 37 = .ok (.aload_n 1, 1) := by decide +kernel
theorem dX1_numberThem_38 : decode cX1_numberThem 38 = .ok (.iload 4, 2) := by decide +kernel
theorem dX1_numberThem_40 : decode cX1_numberThem 40 = .ok (.iaload, 1) := by decide +kernel
theorem dX1_numberThem_41 : decode cX1_numberThem 41 = .ok (.iastore, 1) := by decide +kernel
theorem dX1_numberThem_42 : decode cX1_numberThem 42 = .ok (.iinc 3 1, 3) := by decide +kernel
theorem dX1_numberThem_45 : decode cX1_numberThem 45 = .ok (.goto (-41), 3) := by decide +kernel
theorem dX1_numberThem_48 : decode cX1_numberThem 48 = .ok (.iload_n 2, 1) := by decide +kernel
theorem dX1_numberThem_49 : decode cX1_numberThem 49 = .ok (.ireturn, 1) := by decide +kernel
theorem dX2_init_0 : decode cX2_init 0 = .ok (.aload_n 0, 1) := by decide +kernel
theorem dX2_init_1 : decode cX2_init 1 = .ok (.invokespecial 1, 3) := by decide +kernel
theorem dX2_init_4 : decode cX2_init 4 = .ok (.return_, 1) := by decide +kernel
theorem dX2_below_0 : decode cX2_below 0 = .ok (.aload_n 0, 1) := by decide +kernel
theorem dX2_below_1 : decode cX2_below 1 = .ok (.ldc2_w 7, 3) := by decide +kernel
theorem dX2_below_4 : decode cX2_below 4 = .ok (.aload_n 0, 1) := by decide +kernel
theorem dX2_below_5 : decode cX2_below 5 = .ok (.getfield 9, 3) := by decide +kernel
theorem dX2_below_8 : decode cX2_below 8 = .ok (.i2l, 1) := by decide +kernel
theorem dX2_below_9 : decode cX2_below 9 = .ok (.lmul, 1) := by decide +kernel
theorem dX2_below_10 : decode cX2_below 10 = .ok (.ldc2_w 15, 3) := by decide +kernel
theorem dX2_below_13 : decode cX2_below 13 = .ok (.ladd, 1) := by decide +kernel
theorem dX2_below_14 : decode cX2_below 14 = .ok (.ldc2_w 17, 3) := by decide +kernel
theorem dX2_below_17 : decode cX2_below 17 = .ok (.lrem, 1) := by decide +kernel
theorem dX2_below_18 : decode cX2_below 18 = .ok (.l2i, 1) := by decide +kernel
theorem dX2_below_19 : decode cX2_below 19 = .ok (.putfield 9, 3) := by decide +kernel
theorem dX2_below_22 : decode cX2_below 22 = .ok (.iload_n 1, 1) := by decide +kernel
theorem dX2_below_23 : decode cX2_below 23 = .ok (.ifCond .le 15, 3) := by decide +kernel
theorem dX2_below_26 : decode cX2_below 26 = .ok (.aload_n 0, 1) := by decide +kernel
theorem dX2_below_27 : decode cX2_below 27 = .ok (.getfield 9, 3) := by decide +kernel
theorem dX2_below_30 : decode cX2_below 30 = .ok (.ldc 19, 2) := by decide +kernel
theorem dX2_below_32 : decode cX2_below 32 = .ok (.idiv, 1) := by decide +kernel
theorem dX2_below_33 : decode cX2_below 33 = .ok (.iload_n 1, 1) := by decide +kernel
theorem dX2_below_34 : decode cX2_below 34 = .ok (.irem, 1) := by decide +kernel
theorem dX2_below_35 : decode cX2_below 35 = .ok (.goto 4, 3) := by decide +kernel
theorem dX2_below_38 : decode cX2_below 38 = .ok (.iconst 0, 1) := by decide +kernel
theorem dX2_below_39 : decode cX2_below 39 = .ok (.ireturn, 1) := by decide +kernel
theorem dX3_init_0 : decode cX3_init 0 = .ok (.aload_n 0, 1) := by decide +kernel
theorem dX3_init_1 : decode cX3_init 1 = .ok (.invokespecial 1, 3) := by decide +kernel
theorem dX3_init_4 : decode cX3_init 4 = .ok (.aload_n 0, 1) := by decide +kernel
theorem dX3_init_5 : decode cX3_init 5 = .ok (.new 7, 3) := by decide +kernel
theorem dX3_init_8 : decode cX3_init 8 = .ok (.dup, 1) := by decide +kernel
theorem dX3_init_9 : decode cX3_init 9 = .ok (.invokespecial 9, 3) := by decide +kernel
theorem dX3_init_12 : decode cX3_init 12 = .ok (.putfield 10, 3) := by decide +kernel
theorem dX3_init_15 : decode cX3_init 15 = .ok (.return_, 1) := by decide +kernel
theorem dX3_save_0 : decode cX3_save 0 = .ok (.aload_n 0, 1) := by decide +kernel
theorem dX3_save_1 : decode cX3_save 1 = .ok (.getfield 10, 3) := by decide +kernel
theorem dX3_save_4 : decode cX3_save 4 = .ok (.aload_n 1, 1) := by decide +kernel
theorem dX3_save_5 : decode cX3_save 5 = .ok (.invokevirtual 16, 3) := by decide +kernel
theorem dX3_save_8 : decode cX3_save 8 = .ok (.aload_n 0, 1) := by decide +kernel
theorem dX3_save_9 : decode cX3_save 9 = .ok (.aload_n 2, 1) := by decide +kernel
theorem dX3_save_10 : decode cX3_save 10 = .ok (.getfield 20, 3) := by decide +kernel
theorem dX3_save_13 : decode cX3_save 13 = .ok (.putfield 26, 3) := by decide +kernel
theorem dX3_save_16 : decode cX3_save 16 = .ok (.aload_n 0, 1) := by decide +kernel
theorem dX3_save_17 : decode cX3_save 17 = .ok (.iconst 1, 1) := by decide +kernel
theorem dX3_save_18 : decode cX3_save 18 = .ok (.putfield 27, 3) := by decide +kernel
theorem dX3_save_21 : decode cX3_save 21 = .ok (.return_, 1) := by decide +kernel
theorem dX3_load_0 : decode cX3_load 0 = .ok (.aload_n 1, 1) := by decide +kernel
theorem dX3_load_1 : decode cX3_load 1 = .ok (.aload_n 0, 1) := by decide +kernel
theorem dX3_load_2 : decode cX3_load 2 = .ok (.getfield 10, 3) := by decide +kernel
theorem dX3_load_5 : decode cX3_load 5 = .ok (.invokevirtual 16, 3) := by decide +kernel
theorem dX3_load_8 : decode cX3_load 8 = .ok (.aload_n 2, 1) := by decide +kernel
theorem dX3_load_9 : decode cX3_load 9 = .ok (.aload_n 0, 1) := by decide +kernel
theorem dX3_load_10 : decode cX3_load 10 = .ok (.getfield 26, 3) := by decide +kernel
theorem dX3_load_13 : decode cX3_load 13 = .ok (.putfield 20, 3) := by decide +kernel
theorem dX3_load_16 : decode cX3_load 16 = .ok (.return_, 1) := by decide +kernel
theorem dX4_init_0 : decode cX4_init 0 = .ok (.aload_n 0, 1) := by decide +kernel
theorem dX4_init_1 : decode cX4_init 1 = .ok (.invokespecial 1, 3) := by decide +kernel
theorem dX4_init_4 : decode cX4_init 4 = .ok (.aload_n 0, 1) := by decide +kernel
theorem dX4_init_5 : decode cX4_init 5 = .ok (.bipush 72, 2) := by decide +kernel
theorem dX4_init_7 : decode cX4_init 7 = .ok (.newarray .int, 2) := by decide +kernel
theorem dX4_init_9 : decode cX4_init 9 = .ok (.putfield 9, 3) := by decide +kernel
theorem dX4_init_12 : decode cX4_init 12 = .ok (.return_, 1) := by decide +kernel
theorem dX4_read_0 : decode cX4_read 0 = .ok (.aload_n 0, 1) := by decide +kernel
theorem dX4_read_1 : decode cX4_read 1 = .ok (.iconst 0, 1) := by decide +kernel
theorem dX4_read_2 : decode cX4_read 2 = .ok (.putfield 15, 3) := by decide +kernel
theorem dX4_read_5 : decode cX4_read 5 = .ok (.iconst 0, 1) := by decide +kernel
theorem dX4_read_6 : decode cX4_read 6 = .ok (.istore_n 3, 1) := by decide +kernel
theorem dX4_read_7 : decode cX4_read 7 = .ok (.iload_n 3, 1) := by decide +kernel
theorem dX4_read_8 : decode cX4_read 8 = .ok (.aload_n 1, 1) := by decide +kernel
theorem dX4_read_9 : decode cX4_read 9 = .ok (.invokevirtual 19, 3) := by decide +kernel
theorem dX4_read_12 : decode cX4_read 12 = .ok (.if_icmp .ge 62, 3) := by decide +kernel
theorem dX4_read_15 : decode cX4_read 15 = .ok (.iconst 0, 1) := by decide +kernel
theorem dX4_read_16 : decode cX4_read 16 = .ok (.istore 4, 2) := by decide +kernel
theorem dX4_read_18 : decode cX4_read 18 = .ok (.iload 4, 2) := by decide +kernel
theorem dX4_read_20 : decode cX4_read 20 = .ok (.iconst 4, 1) := by decide +kernel
theorem dX4_read_21 : decode cX4_read 21 = .ok (.if_icmp .ge 47, 3) := by decide +kernel
theorem dX4_read_24 : decode cX4_read 24 = .ok (.aload_n 1, 1) := by decide +kernel
theorem dX4_read_25 : decode cX4_read 25 = .ok (.iload_n 3, 1) := by decide +kernel
theorem dX4_read_26 : decode cX4_read 26 = .ok (.iload 4, 2) := by decide +kernel
theorem dX4_read_28 : decode cX4_read 28 = .ok (.invokevirtual 25, 3) := by decide +kernel
theorem dX4_read_31 : decode cX4_read 31 = .ok (.istore 5, 2) := by decide +kernel
theorem dX4_read_33 : decode cX4_read 33 = .ok (.aload_n 1, 1) := by decide +kernel
theorem dX4_read_34 : decode cX4_read 34 = .ok (.iload_n 3, 1) := by decide +kernel
theorem dX4_read_35 : decode cX4_read 35 = .ok (.invokevirtual 29, 3) := by decide +kernel
theorem dX4_read_38 : decode cX4_read 38 = .ok (.ifCond .eq 24, 3) := by decide +kernel
theorem dX4_read_41 : decode cX4_read 41 = .ok (.iload 5, 2) := by decide +kernel
theorem dX4_read_43 : decode cX4_read 43 = .ok (.ifCond .lt 19, 3) := by decide +kernel
theorem dX4_read_46 : decode cX4_read 46 = .ok (.aload_n 0, 1) := by decide +kernel
theorem dX4_read_47 : decode cX4_read 47 = .ok (.iload_n 3, 1) := by decide +kernel
theorem dX4_read_48 : decode cX4_read 48 = .ok (.iload 4, 2) := by decide +kernel
theorem dX4_read_50 : decode cX4_read 50 = .ok (.iload 5, 2) := by decide +kernel
theorem dX4_read_52 : decode cX4_read 52 = .ok (.aload_n 1, 1) := by decide +kernel
theorem dX4_read_53 : decode cX4_read 53 = .ok (.getfield 33, 3) := by decide +kernel
theorem dX4_read_56 : decode cX4_read 56 = .ok (.iload_n 3, 1) := by decide +kernel
theorem dX4_read_57 : decode cX4_read 57 = .ok (.iaload, 1) := by decide +kernel
theorem dX4_read_58 : decode cX4_read 58 = .ok (.aload_n 2, 1) := by decide +kernel
theorem dX4_read_59 : decode cX4_read 59 = .ok (.invokevirtual 36, 3) := by decide +kernel
theorem dX4_read_62 : decode cX4_read 62 = .ok (.iinc 4 1, 3) := by decide +kernel
theorem dX4_read_65 : decode cX4_read 65 = .ok (.goto (-47), 3) := by decide +kernel
theorem dX4_read_68 : decode cX4_read 68 = .ok (.iinc 3 1, 3) := by decide +kernel
theorem dX4_read_71 : decode cX4_read 71 = .ok (.goto (-64), 3) := by decide +kernel
theorem dX4_read_74 : decode cX4_read 74 = .ok (.return_, 1) := by decide +kernel
theorem dX4_enter_0 : decode cX4_enter 0 = .ok (.iconst 4, 1) := by decide +kernel
theorem dX4_enter_1 : decode cX4_enter 1 = .ok (.aload_n 0, 1) := by decide +kernel
theorem dX4_enter_2 : decode cX4_enter 2 = .ok (.getfield 15, 3) := by decide +kernel
theorem dX4_enter_5 : decode cX4_enter 5 = .ok (.imul, 1) := by decide +kernel
theorem dX4_enter_6 : decode cX4_enter 6 = .ok (.istore 6, 2) := by decide +kernel
theorem dX4_enter_8 : decode cX4_enter 8 = .ok (.iload 6, 2) := by decide +kernel
theorem dX4_enter_10 : decode cX4_enter 10 = .ok (.iconst 3, 1) := by decide +kernel
theorem dX4_enter_11 : decode cX4_enter 11 = .ok (.iadd, 1) := by decide +kernel
theorem dX4_enter_12 : decode cX4_enter 12 = .ok (.aload_n 0, 1) := by decide +kernel
theorem dX4_enter_13 : decode cX4_enter 13 = .ok (.getfield 9, 3) := by decide +kernel
theorem dX4_enter_16 : decode cX4_enter 16 = .ok (.arraylength, 1) := by decide +kernel
theorem dX4_enter_17 : decode cX4_enter 17 = .ok (.if_icmp .lt 4, 3) := by decide +kernel
theorem dX4_enter_20 : decode cX4_enter 20 = .ok (.return_, 1) := by decide +kernel
theorem dX4_enter_21 : decode cX4_enter 21 = .ok (.iload_n 1, 1) := by decide +kernel
theorem dX4_enter_22 : decode cX4_enter 22 = .ok (.iconst 4, 1) := by decide +kernel
theorem dX4_enter_23 : decode cX4_enter 23 = .ok (.idiv, 1) := by decide +kernel
theorem dX4_enter_24 : decode cX4_enter 24 = .ok (.istore 7, 2) := by decide +kernel
theorem dX4_enter_26 : decode cX4_enter 26 = .ok (.iload 4, 2) := by decide +kernel
theorem dX4_enter_28 : decode cX4_enter 28 = .ok (.iconst 4, 1) := by decide +kernel
theorem dX4_enter_29 : decode cX4_enter 29 = .ok (.idiv, 1) := by decide +kernel
theorem dX4_enter_30 : decode cX4_enter 30 = .ok (.istore 8, 2) := by decide +kernel
theorem dX4_enter_32 : decode cX4_enter 32 = .ok (.aload_n 0, 1) := by decide +kernel
theorem dX4_enter_33 : decode cX4_enter 33 = .ok (.getfield 9, 3) := by decide +kernel
theorem dX4_enter_36 : decode cX4_enter 36 = .ok (.iload 6, 2) := by decide +kernel
theorem dX4_enter_38 : decode cX4_enter 38 = .ok (.bipush 7, 2) := by decide +kernel
theorem dX4_enter_40 : decode cX4_enter 40 = .ok (.iload 7, 2) := by decide +kernel
theorem dX4_enter_42 : decode cX4_enter 42 = .ok (.imul, 1) := by decide +kernel
theorem dX4_enter_43 : decode cX4_enter 43 = .ok (.iload_n 2, 1) := by decide +kernel
theorem dX4_enter_44 : decode cX4_enter 44 = .ok (.iadd, 1) := by decide +kernel
theorem dX4_enter_45 : decode cX4_enter 45 = .ok (.iastore, 1) := by decide +kernel
theorem dX4_enter_46 : decode cX4_enter 46 = .ok (.aload_n 0, 1) := by decide +kernel
theorem dX4_enter_47 : decode cX4_enter 47 = .ok (.getfield 9, 3) := by decide +kernel
theorem dX4_enter_50 : decode cX4_enter 50 = .ok (.iload 6, 2) := by decide +kernel
theorem dX4_enter_52 : decode cX4_enter 52 = .ok (.iconst 1, 1) := by decide +kernel
theorem dX4_enter_53 : decode cX4_enter 53 = .ok (.iadd, 1) := by decide +kernel
theorem dX4_enter_54 : decode cX4_enter 54 = .ok (.bipush 7, 2) := by decide +kernel
theorem dX4_enter_56 : decode cX4_enter 56 = .ok (.iload 7, 2) := by decide +kernel
theorem dX4_enter_58 : decode cX4_enter 58 = .ok (.imul, 1) := by decide +kernel
theorem dX4_enter_59 : decode cX4_enter 59 = .ok (.iload_n 2, 1) := by decide +kernel
theorem dX4_enter_60 : decode cX4_enter 60 = .ok (.iload_n 1, 1) := by decide +kernel
theorem dX4_enter_61 : decode cX4_enter 61 = .ok (.iconst 4, 1) := by decide +kernel
theorem dX4_enter_62 : decode cX4_enter 62 = .ok (.irem, 1) := by decide +kernel
theorem dX4_enter_63 : decode cX4_enter 63 = .ok (.invokestatic 40, 3) := by decide +kernel
theorem dX4_enter_66 : decode cX4_enter 66 = .ok (.iadd, 1) := by decide +kernel
theorem dX4_enter_67 : decode cX4_enter 67 = .ok (.iastore, 1) := by decide +kernel
theorem dX4_enter_68 : decode cX4_enter 68 = .ok (.aload_n 0, 1) := by decide +kernel
theorem dX4_enter_69 : decode cX4_enter 69 = .ok (.getfield 9, 3) := by decide +kernel
theorem dX4_enter_72 : decode cX4_enter 72 = .ok (.iload 6, 2) := by decide +kernel
theorem dX4_enter_74 : decode cX4_enter 74 = .ok (.iconst 2, 1) := by decide +kernel
theorem dX4_enter_75 : decode cX4_enter 75 = .ok (.iadd, 1) := by decide +kernel
theorem dX4_enter_76 : decode cX4_enter 76 = .ok (.bipush 7, 2) := by decide +kernel
theorem dX4_enter_78 : decode cX4_enter 78 = .ok (.iload 8, 2) := by decide +kernel
theorem dX4_enter_80 : decode cX4_enter 80 = .ok (.imul, 1) := by decide +kernel
theorem dX4_enter_81 : decode cX4_enter 81 = .ok (.iload_n 3, 1) := by decide +kernel
theorem dX4_enter_82 : decode cX4_enter 82 = .ok (.iconst 4, 1) := by decide +kernel
theorem dX4_enter_83 : decode cX4_enter 83 = .ok (.irem, 1) := by decide +kernel
theorem dX4_enter_84 : decode cX4_enter 84 = .ok (.iadd, 1) := by decide +kernel
theorem dX4_enter_85 : decode cX4_enter 85 = .ok (.iastore, 1) := by decide +kernel
theorem dX4_enter_86 : decode cX4_enter 86 = .ok (.aload_n 0, 1) := by decide +kernel
theorem dX4_enter_87 : decode cX4_enter 87 = .ok (.getfield 9, 3) := by decide +kernel
theorem dX4_enter_90 : decode cX4_enter 90 = .ok (.iload 6, 2) := by decide +kernel
theorem dX4_enter_92 : decode cX4_enter 92 = .ok (.iconst 3, 1) := by decide +kernel
theorem dX4_enter_93 : decode cX4_enter 93 = .ok (.iadd, 1) := by decide +kernel
theorem dX4_enter_94 : decode cX4_enter 94 = .ok (.bipush 7, 2) := by decide +kernel
theorem dX4_enter_96 : decode cX4_enter 96 = .ok (.iload 8, 2) := by decide +kernel
theorem dX4_enter_98 : decode cX4_enter 98 = .ok (.imul, 1) := by decide +kernel
theorem dX4_enter_99 : decode cX4_enter 99 = .ok (.iload_n 3, 1) := by decide +kernel
theorem dX4_enter_100 : decode cX4_enter 100 = .ok (.iconst 4, 1) := by decide +kernel
theorem dX4_enter_101 : decode cX4_enter 101 = .ok (.irem, 1) := by decide +kernel
theorem dX4_enter_102 : decode cX4_enter 102 = .ok (.iload 4, 2) := by decide +kernel
theorem dX4_enter_104 : decode cX4_enter 104 = .ok (.iconst 4, 1) := by decide +kernel
theorem dX4_enter_105 : decode cX4_enter 105 = .ok (.irem, 1) := by decide +kernel
theorem dX4_enter_106 : decode cX4_enter 106 = .ok (.invokestatic 40, 3) := by decide +kernel
theorem dX4_enter_109 : decode cX4_enter 109 = .ok (.iadd, 1) := by decide +kernel
theorem dX4_enter_110 : decode cX4_enter 110 = .ok (.iastore, 1) := by decide +kernel
theorem dX4_enter_111 : decode cX4_enter 111 = .ok (.aload 5, 2) := by decide +kernel
theorem dX4_enter_113 : decode cX4_enter 113 = .ok (.getfield 43, 3) := by decide +kernel
theorem dX4_enter_116 : decode cX4_enter 116 = .ok (.astore 9, 2) := by decide +kernel
theorem dX4_enter_118 : decode cX4_enter 118 = .ok (.aload 9, 2) := by decide +kernel
theorem dX4_enter_120 : decode cX4_enter 120 = .ok (.aload_n 0, 1) := by decide +kernel
theorem dX4_enter_121 : decode cX4_enter 121 = .ok (.getfield 9, 3) := by decide +kernel
theorem dX4_enter_124 : decode cX4_enter 124 = .ok (.iload 6, 2) := by decide +kernel
theorem dX4_enter_126 : decode cX4_enter 126 = .ok (.iaload, 1) := by decide +kernel
theorem dX4_enter_127 : decode cX4_enter 127 = .ok (.iaload, 1) := by decide +kernel
theorem dX4_enter_128 : decode cX4_enter 128 = .ok (.aload 9, 2) := by decide +kernel
theorem dX4_enter_130 : decode cX4_enter 130 = .ok (.aload_n 0, 1) := by decide +kernel
theorem dX4_enter_131 : decode cX4_enter 131 = .ok (.getfield 9, 3) := by decide +kernel
theorem dX4_enter_134 : decode cX4_enter 134 = .ok (.iload 6, 2) := by decide +kernel
theorem dX4_enter_136 : decode cX4_enter 136 = .ok (.iconst 1, 1) := by decide +kernel
theorem dX4_enter_137 : decode cX4_enter 137 = .ok (.iadd, 1) := by decide +kernel
theorem dX4_enter_138 : decode cX4_enter 138 = .ok (.iaload, 1) := by decide +kernel
theorem dX4_enter_139 : decode cX4_enter 139 = .ok (.iaload, 1) := by decide +kernel
theorem dX4_enter_140 : decode cX4_enter 140 = .ok (.iadd, 1) := by decide +kernel
theorem dX4_enter_141 : decode cX4_enter 141 = .ok (.aload 9, 2) := by decide +kernel
theorem dX4_enter_143 : decode cX4_enter 143 = .ok (.aload_n 0, 1) := by decide +kernel
theorem dX4_enter_144 : decode cX4_enter 144 = .ok (.getfield 9, 3) := by decide +kernel
theorem dX4_enter_147 : decode cX4_enter 147 = .ok (.iload 6, 2) := by decide +kernel
theorem dX4_enter_149 : decode cX4_enter 149 = .ok (.iconst 2, 1) := by decide +kernel
theorem dX4_enter_150 : decode cX4_enter 150 = .ok (.iadd, 1) := by decide +kernel
theorem dX4_enter_151 : decode cX4_enter 151 = .ok (.iaload, 1) := by decide +kernel
theorem dX4_enter_152 : decode cX4_enter 152 = .ok (.iaload, 1) := by decide +kernel
theorem dX4_enter_153 : decode cX4_enter 153 = .ok (.iadd, 1) := by decide +kernel
theorem dX4_enter_154 : decode cX4_enter 154 = .ok (.aload 9, 2) := by decide +kernel
theorem dX4_enter_156 : decode cX4_enter 156 = .ok (.aload_n 0, 1) := by decide +kernel
theorem dX4_enter_157 : decode cX4_enter 157 = .ok (.getfield 9, 3) := by decide +kernel
theorem dX4_enter_160 : decode cX4_enter 160 = .ok (.iload 6, 2) := by decide +kernel
theorem dX4_enter_162 : decode cX4_enter 162 = .ok (.iconst 3, 1) := by decide +kernel
theorem dX4_enter_163 : decode cX4_enter 163 = .ok (.iadd, 1) := by decide +kernel
theorem dX4_enter_164 : decode cX4_enter 164 = .ok (.iaload, 1) := by decide +kernel
theorem dX4_enter_165 : decode cX4_enter 165 = .ok (.iaload, 1) := by decide +kernel
theorem dX4_enter_166 : decode cX4_enter 166 = .ok (.iadd, 1) := by decide +kernel
theorem dX4_enter_167 : decode cX4_enter 167 = .ok (.ifCond .le 13, 3) := by decide +kernel
theorem dX4_enter_170 : decode cX4_enter 170 = .ok (.aload_n 0, 1) := by decide +kernel
theorem dX4_enter_171 : decode cX4_enter 171 = .ok (.dup, 1) := by decide +kernel
theorem dX4_enter_172 : decode cX4_enter 172 = .ok (.getfield 15, 3) := by decide +kernel
theorem dX4_enter_175 : decode cX4_enter 175 = .ok (.iconst 1, 1) := by decide +kernel
theorem dX4_enter_176 : decode cX4_enter 176 = .ok (.iadd, 1) := by decide +kernel
theorem dX4_enter_177 : decode cX4_enter 177 = .ok (.putfield 15, 3) := by decide +kernel
theorem dX4_enter_180 : decode cX4_enter 180 = .ok (.return_, 1) := by decide +kernel
theorem dX4_holds_0 : decode cX4_holds 0 = .ok (.aload_n 1, 1) := by decide +kernel
theorem dX4_holds_1 : decode cX4_holds 1 = .ok (.getfield 43, 3) := by decide +kernel
theorem dX4_holds_4 : decode cX4_holds 4 = .ok (.astore_n 2, 1) := by decide +kernel
theorem dX4_holds_5 : decode cX4_holds 5 = .ok (.iconst 0, 1) := by decide +kernel
theorem dX4_holds_6 : decode cX4_holds 6 = .ok (.istore_n 3, 1) := by decide +kernel
theorem dX4_holds_7 : decode cX4_holds 7 = .ok (.iload_n 3, 1) := by decide +kernel
theorem dX4_holds_8 : decode cX4_holds 8 = .ok (.iconst 4, 1) := by decide +kernel
theorem dX4_holds_9 : decode cX4_holds 9 = .ok (.aload_n 0, 1) := by decide +kernel
theorem dX4_holds_10 : decode cX4_holds 10 = .ok (.getfield 15, 3) := by decide +kernel
theorem dX4_holds_13 : decode cX4_holds 13 = .ok (.imul, 1) := by decide +kernel
theorem dX4_holds_14 : decode cX4_holds 14 = .ok (.if_icmp .ge 54, 3) := by decide +kernel
theorem dX4_holds_17 : decode cX4_holds 17 = .ok (.aload_n 2, 1) := by decide +kernel
theorem dX4_holds_18 : decode cX4_holds 18 = .ok (.aload_n 0, 1) := by decide +kernel
theorem dX4_holds_19 : decode cX4_holds 19 = .ok (.getfield 9, 3) := by decide +kernel
theorem dX4_holds_22 : decode cX4_holds 22 = .ok (.iload_n 3, 1) := by decide +kernel
theorem dX4_holds_23 : decode cX4_holds 23 = .ok (.iaload, 1) := by decide +kernel
theorem dX4_holds_24 : decode cX4_holds 24 = .ok (.iaload, 1) := by decide +kernel
theorem dX4_holds_25 : decode cX4_holds 25 = .ok (.aload_n 2, 1) := by decide +kernel
theorem dX4_holds_26 : decode cX4_holds 26 = .ok (.aload_n 0, 1) := by decide +kernel
theorem dX4_holds_27 : decode cX4_holds 27 = .ok (.getfield 9, 3) := by decide +kernel
theorem dX4_holds_30 : decode cX4_holds 30 = .ok (.iload_n 3, 1) := by decide +kernel
theorem dX4_holds_31 : decode cX4_holds 31 = .ok (.iconst 1, 1) := by decide +kernel
theorem dX4_holds_32 : decode cX4_holds 32 = .ok (.iadd, 1) := by decide +kernel
theorem dX4_holds_33 : decode cX4_holds 33 = .ok (.iaload, 1) := by decide +kernel
theorem dX4_holds_34 : decode cX4_holds 34 = .ok (.iaload, 1) := by decide +kernel
theorem dX4_holds_35 : decode cX4_holds 35 = .ok (.iadd, 1) := by decide +kernel
theorem dX4_holds_36 : decode cX4_holds 36 = .ok (.aload_n 2, 1) := by decide +kernel
theorem dX4_holds_37 : decode cX4_holds 37 = .ok (.aload_n 0, 1) := by decide +kernel
theorem dX4_holds_38 : decode cX4_holds 38 = .ok (.getfield 9, 3) := by decide +kernel
theorem dX4_holds_41 : decode cX4_holds 41 = .ok (.iload_n 3, 1) := by decide +kernel
theorem dX4_holds_42 : decode cX4_holds 42 = .ok (.iconst 2, 1) := by decide +kernel
theorem dX4_holds_43 : decode cX4_holds 43 = .ok (.iadd, 1) := by decide +kernel
theorem dX4_holds_44 : decode cX4_holds 44 = .ok (.iaload, 1) := by decide +kernel
theorem dX4_holds_45 : decode cX4_holds 45 = .ok (.iaload, 1) := by decide +kernel
theorem dX4_holds_46 : decode cX4_holds 46 = .ok (.aload_n 2, 1) := by decide +kernel
theorem dX4_holds_47 : decode cX4_holds 47 = .ok (.aload_n 0, 1) := by decide +kernel
theorem dX4_holds_48 : decode cX4_holds 48 = .ok (.getfield 9, 3) := by decide +kernel
theorem dX4_holds_51 : decode cX4_holds 51 = .ok (.iload_n 3, 1) := by decide +kernel
theorem dX4_holds_52 : decode cX4_holds 52 = .ok (.iconst 3, 1) := by decide +kernel
theorem dX4_holds_53 : decode cX4_holds 53 = .ok (.iadd, 1) := by decide +kernel
theorem dX4_holds_54 : decode cX4_holds 54 = .ok (.iaload, 1) := by decide +kernel
theorem dX4_holds_55 : decode cX4_holds 55 = .ok (.iaload, 1) := by decide +kernel
theorem dX4_holds_56 : decode cX4_holds 56 = .ok (.iadd, 1) := by decide +kernel
theorem dX4_holds_57 : decode cX4_holds 57 = .ok (.if_icmp .eq 5, 3) := by decide +kernel
theorem dX4_holds_60 : decode cX4_holds 60 = .ok (.iconst 0, 1) := by decide +kernel
theorem dX4_holds_61 : decode cX4_holds 61 = .ok (.ireturn, 1) := by decide +kernel
theorem dX4_holds_62 : decode cX4_holds 62 = .ok (.iinc 3 4, 3) := by decide +kernel
theorem dX4_holds_65 : decode cX4_holds 65 = .ok (.goto (-58), 3) := by decide +kernel
theorem dX4_holds_68 : decode cX4_holds 68 = .ok (.iconst 1, 1) := by decide +kernel
theorem dX4_holds_69 : decode cX4_holds 69 = .ok (.ireturn, 1) := by decide +kernel
theorem dX5_init_0 : decode cX5_init 0 = .ok (.aload_n 0, 1) := by decide +kernel
theorem dX5_init_1 : decode cX5_init 1 = .ok (.invokespecial 1, 3) := by decide +kernel
theorem dX5_init_4 : decode cX5_init 4 = .ok (.aload_n 0, 1) := by decide +kernel
theorem dX5_init_5 : decode cX5_init 5 = .ok (.bipush 16, 2) := by decide +kernel
theorem dX5_init_7 : decode cX5_init 7 = .ok (.anewarray 9, 3) := by decide +kernel
theorem dX5_init_10 : decode cX5_init 10 = .ok (.putfield 11, 3) := by decide +kernel
theorem dX5_init_13 : decode cX5_init 13 = .ok (.iconst 0, 1) := by decide +kernel
theorem dX5_init_14 : decode cX5_init 14 = .ok (.istore_n 1, 1) := by decide +kernel
theorem dX5_init_15 : decode cX5_init 15 = .ok (.iload_n 1, 1) := by decide +kernel
theorem dX5_init_16 : decode cX5_init 16 = .ok (.aload_n 0, 1) := by decide +kernel
theorem dX5_init_17 : decode cX5_init 17 = .ok (.getfield 11, 3) := by decide +kernel
theorem dX5_init_20 : decode cX5_init 20 = .ok (.arraylength, 1) := by decide +kernel
theorem dX5_init_21 : decode cX5_init 21 = .ok (.if_icmp .ge 22, 3) := by decide +kernel
theorem dX5_init_24 : decode cX5_init 24 = .ok (.aload_n 0, 1) := by decide +kernel
theorem dX5_init_25 : decode cX5_init 25 = .ok (.getfield 11, 3) := by decide +kernel
theorem dX5_init_28 : decode cX5_init 28 = .ok (.iload_n 1, 1) := by decide +kernel
theorem dX5_init_29 : decode cX5_init 29 = .ok (.new 9, 3) := by decide +kernel
theorem dX5_init_32 : decode cX5_init 32 = .ok (.dup, 1) := by decide +kernel
theorem dX5_init_33 : decode cX5_init 33 = .ok (.invokespecial 17, 3) := by decide +kernel
theorem dX5_init_36 : decode cX5_init 36 = .ok (.aastore, 1) := by decide +kernel
theorem dX5_init_37 : decode cX5_init 37 = .ok (.iinc 1 1, 3) := by decide +kernel
theorem dX5_init_40 : decode cX5_init 40 = .ok (.goto (-25), 3) := by decide +kernel
theorem dX5_init_43 : decode cX5_init 43 = .ok (.return_, 1) := by decide +kernel
theorem dX5_record_0 : decode cX5_record 0 = .ok (.aload_n 0, 1) := by decide +kernel
theorem dX5_record_1 : decode cX5_record 1 = .ok (.getfield 11, 3) := by decide +kernel
theorem dX5_record_4 : decode cX5_record 4 = .ok (.aload_n 0, 1) := by decide +kernel
theorem dX5_record_5 : decode cX5_record 5 = .ok (.getfield 18, 3) := by decide +kernel
theorem dX5_record_8 : decode cX5_record 8 = .ok (.aaload, 1) := by decide +kernel
theorem dX5_record_9 : decode cX5_record 9 = .ok (.aload_n 1, 1) := by decide +kernel
theorem dX5_record_10 : decode cX5_record 10 = .ok (.invokevirtual 22, 3) := by decide +kernel
theorem dX5_record_13 : decode cX5_record 13 = .ok (.aload_n 0, 1) := by decide +kernel
theorem dX5_record_14 : decode cX5_record 14 = .ok (.aload_n 0, 1) := by decide +kernel
theorem dX5_record_15 : decode cX5_record 15 = .ok (.getfield 18, 3) := by decide +kernel
theorem dX5_record_18 : decode cX5_record 18 = .ok (.iconst 1, 1) := by decide +kernel
theorem dX5_record_19 : decode cX5_record 19 = .ok (.iadd, 1) := by decide +kernel
theorem dX5_record_20 : decode cX5_record 20 = .ok (.bipush 16, 2) := by decide +kernel
theorem dX5_record_22 : decode cX5_record 22 = .ok (.irem, 1) := by decide +kernel
theorem dX5_record_23 : decode cX5_record 23 = .ok (.putfield 18, 3) := by decide +kernel
theorem dX5_record_26 : decode cX5_record 26 = .ok (.aload_n 0, 1) := by decide +kernel
theorem dX5_record_27 : decode cX5_record 27 = .ok (.aload_n 0, 1) := by decide +kernel
theorem dX5_record_28 : decode cX5_record 28 = .ok (.getfield 26, 3) := by decide +kernel
theorem dX5_record_31 : decode cX5_record 31 = .ok (.iconst 1, 1) := by decide +kernel
theorem dX5_record_32 : decode cX5_record 32 = .ok (.iadd, 1) := by decide +kernel
theorem dX5_record_33 : decode cX5_record 33 = .ok (.bipush 16, 2) := by decide +kernel
theorem dX5_record_35 : decode cX5_record 35 = .ok (.invokestatic 29, 3) := by decide +kernel
theorem dX5_record_38 : decode cX5_record 38 = .ok (.putfield 26, 3) := by decide +kernel
theorem dX5_record_41 : decode cX5_record 41 = .ok (.return_, 1) := by decide +kernel
theorem dX5_restore_0 : decode cX5_restore 0 = .ok (.aload_n 0, 1) := by decide +kernel
theorem dX5_restore_1 : decode cX5_restore 1 = .ok (.aload_n 0, 1) := by decide +kernel
theorem dX5_restore_2 : decode cX5_restore 2 = .ok (.getfield 18, 3) := by decide +kernel
theorem dX5_restore_5 : decode cX5_restore 5 = .ok (.iload_n 1, 1) := by decide +kernel
theorem dX5_restore_6 : decode cX5_restore 6 = .ok (.isub, 1) := by decide +kernel
theorem dX5_restore_7 : decode cX5_restore 7 = .ok (.bipush 16, 2) := by decide +kernel
theorem dX5_restore_9 : decode cX5_restore 9 = .ok (.invokestatic 35, 3) := by decide +kernel
theorem dX5_restore_12 : decode cX5_restore 12 = .ok (.putfield 18, 3) := by decide +kernel
theorem dX5_restore_15 : decode cX5_restore 15 = .ok (.aload_n 0, 1) := by decide +kernel
theorem dX5_restore_16 : decode cX5_restore 16 = .ok (.dup, 1) := by decide +kernel
theorem dX5_restore_17 : decode cX5_restore 17 = .ok (.getfield 26, 3) := by decide +kernel
theorem dX5_restore_20 : decode cX5_restore 20 = .ok (.iload_n 1, 1) := by decide +kernel
theorem dX5_restore_21 : decode cX5_restore 21 = .ok (.isub, 1) := by decide +kernel
theorem dX5_restore_22 : decode cX5_restore 22 = .ok (.putfield 26, 3) := by decide +kernel
theorem dX5_restore_25 : decode cX5_restore 25 = .ok (.aload_n 2, 1) := by decide +kernel
theorem dX5_restore_26 : decode cX5_restore 26 = .ok (.aload_n 0, 1) := by decide +kernel
theorem dX5_restore_27 : decode cX5_restore 27 = .ok (.getfield 11, 3) := by decide +kernel
theorem dX5_restore_30 : decode cX5_restore 30 = .ok (.aload_n 0, 1) := by decide +kernel
theorem dX5_restore_31 : decode cX5_restore 31 = .ok (.getfield 18, 3) := by decide +kernel
theorem dX5_restore_34 : decode cX5_restore 34 = .ok (.aaload, 1) := by decide +kernel
theorem dX5_restore_35 : decode cX5_restore 35 = .ok (.invokevirtual 22, 3) := by decide +kernel
theorem dX5_restore_38 : decode cX5_restore 38 = .ok (.return_, 1) := by decide +kernel
theorem dX6_together_0 : decode cX6_together 0 = .ok (.iconst 3, 1) := by decide +kernel
theorem dX6_together_1 : decode cX6_together 1 = .ok (.iload_n 0, 1) := by decide +kernel
theorem dX6_together_2 : decode cX6_together 2 = .ok (.iload_n 1, 1) := by decide +kernel
theorem dX6_together_3 : decode cX6_together 3 = .ok (.ixor, 1) := by decide +kernel
theorem dX6_together_4 : decode cX6_together 4 = .ok (.iadd, 1) := by decide +kernel
theorem dX6_together_5 : decode cX6_together 5 = .ok (.ireturn, 1) := by decide +kernel
theorem dX7_init_0 : decode cX7_init 0 = .ok (.aload_n 0, 1) := by decide +kernel
theorem dX7_init_1 : decode cX7_init 1 = .ok (.invokespecial 1, 3) := by decide +kernel
theorem dX7_init_4 : decode cX7_init 4 = .ok (.aload_n 0, 1) := by decide +kernel
theorem dX7_init_5 : decode cX7_init 5 = .ok (.bipush 21, 2) := by decide +kernel
theorem dX7_init_7 : decode cX7_init 7 = .ok (.newarray .int, 2) := by decide +kernel
theorem dX7_init_9 : decode cX7_init 9 = .ok (.putfield 9, 3) := by decide +kernel
theorem dX7_init_12 : decode cX7_init 12 = .ok (.return_, 1) := by decide +kernel
theorem dX7_clear_0 : decode cX7_clear 0 = .ok (.aload_n 0, 1) := by decide +kernel
theorem dX7_clear_1 : decode cX7_clear 1 = .ok (.getfield 9, 3) := by decide +kernel
theorem dX7_clear_4 : decode cX7_clear 4 = .ok (.iconst 0, 1) := by decide +kernel
theorem dX7_clear_5 : decode cX7_clear 5 = .ok (.invokestatic 15, 3) := by decide +kernel
theorem dX7_clear_8 : decode cX7_clear 8 = .ok (.return_, 1) := by decide +kernel
theorem dX7_copyFrom_0 : decode cX7_copyFrom 0 = .ok (.aload_n 1, 1) := by decide +kernel
theorem dX7_copyFrom_1 : decode cX7_copyFrom 1 = .ok (.getfield 9, 3) := by decide +kernel
theorem dX7_copyFrom_4 : decode cX7_copyFrom 4 = .ok (.iconst 0, 1) := by decide +kernel
theorem dX7_copyFrom_5 : decode cX7_copyFrom 5 = .ok (.aload_n 0, 1) := by decide +kernel
theorem dX7_copyFrom_6 : decode cX7_copyFrom 6 = .ok (.getfield 9, 3) := by decide +kernel
theorem dX7_copyFrom_9 : decode cX7_copyFrom 9 = .ok (.iconst 0, 1) := by decide +kernel
theorem dX7_copyFrom_10 : decode cX7_copyFrom 10 = .ok (.aload_n 0, 1) := by decide +kernel
theorem dX7_copyFrom_11 : decode cX7_copyFrom 11 = .ok (.getfield 9, 3) := by decide +kernel
theorem dX7_copyFrom_14 : decode cX7_copyFrom 14 = .ok (.arraylength, 1) := by decide +kernel
theorem dX7_copyFrom_15 : decode cX7_copyFrom 15 = .ok (.invokestatic 21, 3) := by decide +kernel
theorem dX7_copyFrom_18 : decode cX7_copyFrom 18 = .ok (.return_, 1) := by decide +kernel
theorem dX7_fillSum_0 : decode cX7_fillSum 0 = .ok (.iconst 0, 1) := by decide +kernel
theorem dX7_fillSum_1 : decode cX7_fillSum 1 = .ok (.istore_n 3, 1) := by decide +kernel
theorem dX7_fillSum_2 : decode cX7_fillSum 2 = .ok (.iload_n 3, 1) := by decide +kernel
theorem dX7_fillSum_3 : decode cX7_fillSum 3 = .ok (.bipush 21, 2) := by decide +kernel
theorem dX7_fillSum_5 : decode cX7_fillSum 5 = .ok (.if_icmp .ge 28, 3) := by decide +kernel
theorem dX7_fillSum_8 : decode cX7_fillSum 8 = .ok (.aload_n 0, 1) := by decide +kernel
theorem dX7_fillSum_9 : decode cX7_fillSum 9 = .ok (.getfield 9, 3) := by decide +kernel
theorem dX7_fillSum_12 : decode cX7_fillSum 12 = .ok (.iload_n 3, 1) := by decide +kernel
theorem dX7_fillSum_13 : decode cX7_fillSum 13 = .ok (.aload_n 1, 1) := by decide +kernel
theorem dX7_fillSum_14 : decode cX7_fillSum 14 = .ok (.getfield 9, 3) := by decide +kernel
theorem dX7_fillSum_17 : decode cX7_fillSum 17 = .ok (.iload_n 3, 1) := by decide +kernel
theorem dX7_fillSum_18 : decode cX7_fillSum 18 = .ok (.iaload, 1) := by decide +kernel
theorem dX7_fillSum_19 : decode cX7_fillSum 19 = .ok (.aload_n 2, 1) := by decide +kernel
theorem dX7_fillSum_20 : decode cX7_fillSum 20 = .ok (.getfield 9, 3) := by decide +kernel
theorem dX7_fillSum_23 : decode cX7_fillSum 23 = .ok (.iload_n 3, 1) := by decide +kernel
theorem dX7_fillSum_24 : decode cX7_fillSum 24 = .ok (.iaload, 1) := by decide +kernel
theorem dX7_fillSum_25 : decode cX7_fillSum 25 = .ok (.iadd, 1) := by decide +kernel
theorem dX7_fillSum_26 : decode cX7_fillSum 26 = .ok (.iastore, 1) := by decide +kernel
theorem dX7_fillSum_27 : decode cX7_fillSum 27 = .ok (.iinc 3 1, 3) := by decide +kernel
theorem dX7_fillSum_30 : decode cX7_fillSum 30 = .ok (.goto (-28), 3) := by decide +kernel
theorem dX7_fillSum_33 : decode cX7_fillSum 33 = .ok (.return_, 1) := by decide +kernel
theorem dX7_total_0 : decode cX7_total 0 = .ok (.iconst 0, 1) := by decide +kernel
theorem dX7_total_1 : decode cX7_total 1 = .ok (.istore_n 1, 1) := by decide +kernel
theorem dX7_total_2 : decode cX7_total 2 = .ok (.iconst 0, 1) := by decide +kernel
theorem dX7_total_3 : decode cX7_total 3 = .ok (.istore_n 2, 1) := by decide +kernel
theorem dX7_total_4 : decode cX7_total 4 = .ok (.iload_n 2, 1) := by decide +kernel
theorem dX7_total_5 : decode cX7_total 5 = .ok (.bipush 21, 2) := by decide +kernel
theorem dX7_total_7 : decode cX7_total 7 = .ok (.if_icmp .ge 18, 3) := by decide +kernel
theorem dX7_total_10 : decode cX7_total 10 = .ok (.iload_n 1, 1) := by decide +kernel
theorem dX7_total_11 : decode cX7_total 11 = .ok (.aload_n 0, 1) := by decide +kernel
theorem dX7_total_12 : decode cX7_total 12 = .ok (.getfield 9, 3) := by decide +kernel
theorem dX7_total_15 : decode cX7_total 15 = .ok (.iload_n 2, 1) := by decide +kernel
theorem dX7_total_16 : decode cX7_total 16 = .ok (.iaload, 1) := by decide +kernel
theorem dX7_total_17 : decode cX7_total 17 = .ok (.iadd, 1) := by decide +kernel
theorem dX7_total_18 : decode cX7_total 18 = .ok (.istore_n 1, 1) := by decide +kernel
theorem dX7_total_19 : decode cX7_total 19 = .ok (.iinc 2 1, 3) := by decide +kernel
theorem dX7_total_22 : decode cX7_total 22 = .ok (.goto (-18), 3) := by decide +kernel
theorem dX7_total_25 : decode cX7_total 25 = .ok (.iload_n 1, 1) := by decide +kernel
theorem dX7_total_26 : decode cX7_total 26 = .ok (.ireturn, 1) := by decide +kernel
theorem dX7_most_0 : decode cX7_most 0 = .ok (.iconst 0, 1) := by decide +kernel
theorem dX7_most_1 : decode cX7_most 1 = .ok (.istore_n 1, 1) := by decide +kernel
theorem dX7_most_2 : decode cX7_most 2 = .ok (.iconst 0, 1) := by decide +kernel
theorem dX7_most_3 : decode cX7_most 3 = .ok (.istore_n 2, 1) := by decide +kernel
theorem dX7_most_4 : decode cX7_most 4 = .ok (.iload_n 2, 1) := by decide +kernel
theorem dX7_most_5 : decode cX7_most 5 = .ok (.bipush 21, 2) := by decide +kernel
theorem dX7_most_7 : decode cX7_most 7 = .ok (.if_icmp .ge 20, 3) := by decide +kernel
theorem dX7_most_10 : decode cX7_most 10 = .ok (.iload_n 1, 1) := by decide +kernel
theorem dX7_most_11 : decode cX7_most 11 = .ok (.aload_n 0, 1) := by decide +kernel
theorem dX7_most_12 : decode cX7_most 12 = .ok (.getfield 9, 3) := by decide +kernel
theorem dX7_most_15 : decode cX7_most 15 = .ok (.iload_n 2, 1) := by decide +kernel
theorem dX7_most_16 : decode cX7_most 16 = .ok (.iaload, 1) := by decide +kernel
theorem dX7_most_17 : decode cX7_most 17 = .ok (.invokestatic 27, 3) := by decide +kernel
theorem dX7_most_20 : decode cX7_most 20 = .ok (.istore_n 1, 1) := by decide +kernel
theorem dX7_most_21 : decode cX7_most 21 = .ok (.iinc 2 1, 3) := by decide +kernel
theorem dX7_most_24 : decode cX7_most 24 = .ok (.goto (-20), 3) := by decide +kernel
theorem dX7_most_27 : decode cX7_most 27 = .ok (.iload_n 1, 1) := by decide +kernel
theorem dX7_most_28 : decode cX7_most 28 = .ok (.ireturn, 1) := by decide +kernel
theorem dX7_crosses_0 : decode cX7_crosses 0 = .ok (.iconst 0, 1) := by decide +kernel
theorem dX7_crosses_1 : decode cX7_crosses 1 = .ok (.istore_n 1, 1) := by decide +kernel
theorem dX7_crosses_2 : decode cX7_crosses 2 = .ok (.iload_n 1, 1) := by decide +kernel
theorem dX7_crosses_3 : decode cX7_crosses 3 = .ok (.iconst 3, 1) := by decide +kernel
theorem dX7_crosses_4 : decode cX7_crosses 4 = .ok (.if_icmp .ge 54, 3) := by decide +kernel
theorem dX7_crosses_7 : decode cX7_crosses 7 = .ok (.iconst 0, 1) := by decide +kernel
theorem dX7_crosses_8 : decode cX7_crosses 8 = .ok (.istore_n 2, 1) := by decide +kernel
theorem dX7_crosses_9 : decode cX7_crosses 9 = .ok (.iconst 4, 1) := by decide +kernel
theorem dX7_crosses_10 : decode cX7_crosses 10 = .ok (.istore_n 3, 1) := by decide +kernel
theorem dX7_crosses_11 : decode cX7_crosses 11 = .ok (.iload_n 3, 1) := by decide +kernel
theorem dX7_crosses_12 : decode cX7_crosses 12 = .ok (.bipush 7, 2) := by decide +kernel
theorem dX7_crosses_14 : decode cX7_crosses 14 = .ok (.if_icmp .ge 31, 3) := by decide +kernel
theorem dX7_crosses_17 : decode cX7_crosses 17 = .ok (.iload_n 2, 1) := by decide +kernel
theorem dX7_crosses_18 : decode cX7_crosses 18 = .ok (.aload_n 0, 1) := by decide +kernel
theorem dX7_crosses_19 : decode cX7_crosses 19 = .ok (.getfield 9, 3) := by decide +kernel
theorem dX7_crosses_22 : decode cX7_crosses 22 = .ok (.bipush 7, 2) := by decide +kernel
theorem dX7_crosses_24 : decode cX7_crosses 24 = .ok (.iload_n 1, 1) := by decide +kernel
theorem dX7_crosses_25 : decode cX7_crosses 25 = .ok (.imul, 1) := by decide +kernel
theorem dX7_crosses_26 : decode cX7_crosses 26 = .ok (.iload_n 3, 1) := by decide +kernel
theorem dX7_crosses_27 : decode cX7_crosses 27 = .ok (.iadd, 1) := by decide +kernel
theorem dX7_crosses_28 : decode cX7_crosses 28 = .ok (.iaload, 1) := by decide +kernel
theorem dX7_crosses_29 : decode cX7_crosses 29 = .ok (.ifCond .le 7, 3) := by decide +kernel
theorem dX7_crosses_32 : decode cX7_crosses 32 = .ok (.iconst 1, 1) := by decide +kernel
theorem dX7_crosses_33 : decode cX7_crosses 33 = .ok (.goto 4, 3) := by decide +kernel
theorem dX7_crosses_36 : decode cX7_crosses 36 = .ok (.iconst 0, 1) := by decide +kernel
theorem dX7_crosses_37 : decode cX7_crosses 37 = .ok (.iadd, 1) := by decide +kernel
theorem dX7_crosses_38 : decode cX7_crosses 38 = .ok (.istore_n 2, 1) := by decide +kernel
theorem dX7_crosses_39 : decode cX7_crosses 39 = .ok (.iinc 3 1, 3) := by decide +kernel
theorem dX7_crosses_42 : decode cX7_crosses 42 = .ok (.goto (-31), 3) := by decide +kernel
theorem dX7_crosses_45 : decode cX7_crosses 45 = .ok (.iload_n 2, 1) := by decide +kernel
theorem dX7_crosses_46 : decode cX7_crosses 46 = .ok (.iconst 1, 1) := by decide +kernel
theorem dX7_crosses_47 : decode cX7_crosses 47 = .ok (.if_icmp .le 5, 3) := by decide +kernel
theorem dX7_crosses_50 : decode cX7_crosses 50 = .ok (.iconst 1, 1) := by decide +kernel
theorem dX7_crosses_51 : decode cX7_crosses 51 = .ok (.ireturn, 1) := by decide +kernel
theorem dX7_crosses_52 : decode cX7_crosses 52 = .ok (.iinc 1 1, 3) := by decide +kernel
theorem dX7_crosses_55 : decode cX7_crosses 55 = .ok (.goto (-53), 3) := by decide +kernel
theorem dX7_crosses_58 : decode cX7_crosses 58 = .ok (.iconst 0, 1) := by decide +kernel
theorem dX7_crosses_59 : decode cX7_crosses 59 = .ok (.ireturn, 1) := by decide +kernel
theorem dX7_arcsAt_0 : decode cX7_arcsAt 0 = .ok (.aload_n 0, 1) := by decide +kernel
theorem dX7_arcsAt_1 : decode cX7_arcsAt 1 = .ok (.getfield 9, 3) := by decide +kernel
theorem dX7_arcsAt_4 : decode cX7_arcsAt 4 = .ok (.bipush 7, 2) := by decide +kernel
theorem dX7_arcsAt_6 : decode cX7_arcsAt 6 = .ok (.iload_n 1, 1) := by decide +kernel
theorem dX7_arcsAt_7 : decode cX7_arcsAt 7 = .ok (.imul, 1) := by decide +kernel
theorem dX7_arcsAt_8 : decode cX7_arcsAt 8 = .ok (.iload_n 3, 1) := by decide +kernel
theorem dX7_arcsAt_9 : decode cX7_arcsAt 9 = .ok (.iadd, 1) := by decide +kernel
theorem dX7_arcsAt_10 : decode cX7_arcsAt 10 = .ok (.iaload, 1) := by decide +kernel
theorem dX7_arcsAt_11 : decode cX7_arcsAt 11 = .ok (.aload_n 0, 1) := by decide +kernel
theorem dX7_arcsAt_12 : decode cX7_arcsAt 12 = .ok (.getfield 9, 3) := by decide +kernel
theorem dX7_arcsAt_15 : decode cX7_arcsAt 15 = .ok (.bipush 7, 2) := by decide +kernel
theorem dX7_arcsAt_17 : decode cX7_arcsAt 17 = .ok (.iload_n 1, 1) := by decide +kernel
theorem dX7_arcsAt_18 : decode cX7_arcsAt 18 = .ok (.imul, 1) := by decide +kernel
theorem dX7_arcsAt_19 : decode cX7_arcsAt 19 = .ok (.iload_n 3, 1) := by decide +kernel
theorem dX7_arcsAt_20 : decode cX7_arcsAt 20 = .ok (.iload_n 2, 1) := by decide +kernel
theorem dX7_arcsAt_21 : decode cX7_arcsAt 21 = .ok (.invokestatic 33, 3) := by decide +kernel
theorem dX7_arcsAt_24 : decode cX7_arcsAt 24 = .ok (.iadd, 1) := by decide +kernel
theorem dX7_arcsAt_25 : decode cX7_arcsAt 25 = .ok (.iaload, 1) := by decide +kernel
theorem dX7_arcsAt_26 : decode cX7_arcsAt 26 = .ok (.iadd, 1) := by decide +kernel
theorem dX7_arcsAt_27 : decode cX7_arcsAt 27 = .ok (.ireturn, 1) := by decide +kernel
theorem dX7_arcsOn_0 : decode cX7_arcsOn 0 = .ok (.iconst 0, 1) := by decide +kernel
theorem dX7_arcsOn_1 : decode cX7_arcsOn 1 = .ok (.istore_n 3, 1) := by decide +kernel
theorem dX7_arcsOn_2 : decode cX7_arcsOn 2 = .ok (.iconst 0, 1) := by decide +kernel
theorem dX7_arcsOn_3 : decode cX7_arcsOn 3 = .ok (.istore 4, 2) := by decide +kernel
theorem dX7_arcsOn_5 : decode cX7_arcsOn 5 = .ok (.iload 4, 2) := by decide +kernel
theorem dX7_arcsOn_7 : decode cX7_arcsOn 7 = .ok (.iconst 4, 1) := by decide +kernel
theorem dX7_arcsOn_8 : decode cX7_arcsOn 8 = .ok (.if_icmp .ge 30, 3) := by decide +kernel
theorem dX7_arcsOn_11 : decode cX7_arcsOn 11 = .ok (.iload_n 3, 1) := by decide +kernel
theorem dX7_arcsOn_12 : decode cX7_arcsOn 12 = .ok (.iload 4, 2) := by decide +kernel
theorem dX7_arcsOn_14 : decode cX7_arcsOn 14 = .ok (.iload_n 2, 1) := by decide +kernel
theorem dX7_arcsOn_15 : decode cX7_arcsOn 15 = .ok (.if_icmp .ne 7, 3) := by decide +kernel
theorem dX7_arcsOn_18 : decode cX7_arcsOn 18 = .ok (.iconst 0, 1) := by decide +kernel
theorem dX7_arcsOn_19 : decode cX7_arcsOn 19 = .ok (.goto 11, 3) := by decide +kernel
theorem dX7_arcsOn_22 : decode cX7_arcsOn 22 = .ok (.aload_n 0, 1) := by decide +kernel
theorem dX7_arcsOn_23 : decode cX7_arcsOn 23 = .ok (.iload_n 1, 1) := by decide +kernel
theorem dX7_arcsOn_24 : decode cX7_arcsOn 24 = .ok (.iload_n 2, 1) := by decide +kernel
theorem dX7_arcsOn_25 : decode cX7_arcsOn 25 = .ok (.iload 4, 2) := by decide +kernel
theorem dX7_arcsOn_27 : decode cX7_arcsOn 27 = .ok (.invokevirtual 36, 3) := by decide +kernel
theorem dX7_arcsOn_30 : decode cX7_arcsOn 30 = .ok (.iadd, 1) := by decide +kernel
theorem dX7_arcsOn_31 : decode cX7_arcsOn 31 = .ok (.istore_n 3, 1) := by decide +kernel
theorem dX7_arcsOn_32 : decode cX7_arcsOn 32 = .ok (.iinc 4 1, 3) := by decide +kernel
theorem dX7_arcsOn_35 : decode cX7_arcsOn 35 = .ok (.goto (-30), 3) := by decide +kernel
theorem dX7_arcsOn_38 : decode cX7_arcsOn 38 = .ok (.iload_n 3, 1) := by decide +kernel
theorem dX7_arcsOn_39 : decode cX7_arcsOn 39 = .ok (.ireturn, 1) := by decide +kernel
theorem dX7_weightOn_0 : decode cX7_weightOn 0 = .ok (.getstatic 40, 3) := by decide +kernel
theorem dX7_weightOn_3 : decode cX7_weightOn 3 = .ok (.iload_n 2, 1) := by decide +kernel
theorem dX7_weightOn_4 : decode cX7_weightOn 4 = .ok (.iaload, 1) := by decide +kernel
theorem dX7_weightOn_5 : decode cX7_weightOn 5 = .ok (.istore_n 3, 1) := by decide +kernel
theorem dX7_weightOn_6 : decode cX7_weightOn 6 = .ok (.getstatic 43, 3) := by decide +kernel
theorem dX7_weightOn_9 : decode cX7_weightOn 9 = .ok (.iload_n 2, 1) := by decide +kernel
theorem dX7_weightOn_10 : decode cX7_weightOn 10 = .ok (.iaload, 1) := by decide +kernel
theorem dX7_weightOn_11 : decode cX7_weightOn 11 = .ok (.istore 4, 2) := by decide +kernel
theorem dX7_weightOn_13 : decode cX7_weightOn 13 = .ok (.aload_n 0, 1) := by decide +kernel
theorem dX7_weightOn_14 : decode cX7_weightOn 14 = .ok (.getfield 9, 3) := by decide +kernel
theorem dX7_weightOn_17 : decode cX7_weightOn 17 = .ok (.bipush 7, 2) := by decide +kernel
theorem dX7_weightOn_19 : decode cX7_weightOn 19 = .ok (.iload_n 1, 1) := by decide +kernel
theorem dX7_weightOn_20 : decode cX7_weightOn 20 = .ok (.imul, 1) := by decide +kernel
theorem dX7_weightOn_21 : decode cX7_weightOn 21 = .ok (.iload_n 3, 1) := by decide +kernel
theorem dX7_weightOn_22 : decode cX7_weightOn 22 = .ok (.iadd, 1) := by decide +kernel
theorem dX7_weightOn_23 : decode cX7_weightOn 23 = .ok (.iaload, 1) := by decide +kernel
theorem dX7_weightOn_24 : decode cX7_weightOn 24 = .ok (.aload_n 0, 1) := by decide +kernel
theorem dX7_weightOn_25 : decode cX7_weightOn 25 = .ok (.getfield 9, 3) := by decide +kernel
theorem dX7_weightOn_28 : decode cX7_weightOn 28 = .ok (.bipush 7, 2) := by decide +kernel
theorem dX7_weightOn_30 : decode cX7_weightOn 30 = .ok (.iload_n 1, 1) := by decide +kernel
theorem dX7_weightOn_31 : decode cX7_weightOn 31 = .ok (.imul, 1) := by decide +kernel
theorem dX7_weightOn_32 : decode cX7_weightOn 32 = .ok (.iload 4, 2) := by decide +kernel
theorem dX7_weightOn_34 : decode cX7_weightOn 34 = .ok (.iadd, 1) := by decide +kernel
theorem dX7_weightOn_35 : decode cX7_weightOn 35 = .ok (.iaload, 1) := by decide +kernel
theorem dX7_weightOn_36 : decode cX7_weightOn 36 = .ok (.iadd, 1) := by decide +kernel
theorem dX7_weightOn_37 : decode cX7_weightOn 37 = .ok (.istore 5, 2) := by decide +kernel
theorem dX7_weightOn_39 : decode cX7_weightOn 39 = .ok (.iconst 4, 1) := by decide +kernel
theorem dX7_weightOn_40 : decode cX7_weightOn 40 = .ok (.istore 6, 2) := by decide +kernel
theorem dX7_weightOn_42 : decode cX7_weightOn 42 = .ok (.iload 6, 2) := by decide +kernel
theorem dX7_weightOn_44 : decode cX7_weightOn 44 = .ok (.bipush 7, 2) := by decide +kernel
theorem dX7_weightOn_46 : decode cX7_weightOn 46 = .ok (.if_icmp .ge 41, 3) := by decide +kernel
theorem dX7_weightOn_49 : decode cX7_weightOn 49 = .ok (.iload 5, 2) := by decide +kernel
theorem dX7_weightOn_51 : decode cX7_weightOn 51 = .ok (.iload 6, 2) := by decide +kernel
theorem dX7_weightOn_53 : decode cX7_weightOn 53 = .ok (.iload_n 3, 1) := by decide +kernel
theorem dX7_weightOn_54 : decode cX7_weightOn 54 = .ok (.iload 4, 2) := by decide +kernel
theorem dX7_weightOn_56 : decode cX7_weightOn 56 = .ok (.invokestatic 33, 3) := by decide +kernel
theorem dX7_weightOn_59 : decode cX7_weightOn 59 = .ok (.if_icmp .ne 7, 3) := by decide +kernel
theorem dX7_weightOn_62 : decode cX7_weightOn 62 = .ok (.iconst 0, 1) := by decide +kernel
theorem dX7_weightOn_63 : decode cX7_weightOn 63 = .ok (.goto 15, 3) := by decide +kernel
theorem dX7_weightOn_66 : decode cX7_weightOn 66 = .ok (.aload_n 0, 1) := by decide +kernel
theorem dX7_weightOn_67 : decode cX7_weightOn 67 = .ok (.getfield 9, 3) := by decide +kernel
theorem dX7_weightOn_70 : decode cX7_weightOn 70 = .ok (.bipush 7, 2) := by decide +kernel
theorem dX7_weightOn_72 : decode cX7_weightOn 72 = .ok (.iload_n 1, 1) := by decide +kernel
theorem dX7_weightOn_73 : decode cX7_weightOn 73 = .ok (.imul, 1) := by decide +kernel
theorem dX7_weightOn_74 : decode cX7_weightOn 74 = .ok (.iload 6, 2) := by decide +kernel
theorem dX7_weightOn_76 : decode cX7_weightOn 76 = .ok (.iadd, 1) := by decide +kernel
theorem dX7_weightOn_77 : decode cX7_weightOn 77 = .ok (.iaload, 1) := by decide +kernel
theorem dX7_weightOn_78 : decode cX7_weightOn 78 = .ok (.iadd, 1) := by decide +kernel
theorem dX7_weightOn_79 : decode cX7_weightOn 79 = .ok (.istore 5, 2) := by decide +kernel
theorem dX7_weightOn_81 : decode cX7_weightOn 81 = .ok (.iinc 6 1, 3) := by decide +kernel
theorem dX7_weightOn_84 : decode cX7_weightOn 84 = .ok (.goto (-42), 3) := by decide +kernel
theorem dX7_weightOn_87 : decode cX7_weightOn 87 = .ok (.iload 5, 2) := by decide +kernel
theorem dX7_weightOn_89 : decode cX7_weightOn 89 = .ok (.ireturn, 1) := by decide +kernel
theorem dX8_init_0 : decode cX8_init 0 = .ok (.aload_n 0, 1) := by decide +kernel
theorem dX8_init_1 : decode cX8_init 1 = .ok (.invokespecial 1, 3) := by decide +kernel
theorem dX8_init_4 : decode cX8_init 4 = .ok (.aload_n 0, 1) := by decide +kernel
theorem dX8_init_5 : decode cX8_init 5 = .ok (.new 7, 3) := by decide +kernel
theorem dX8_init_8 : decode cX8_init 8 = .ok (.dup, 1) := by decide +kernel
theorem dX8_init_9 : decode cX8_init 9 = .ok (.bipush 12, 2) := by decide +kernel
theorem dX8_init_11 : decode cX8_init 11 = .ok (.invokespecial 11, 3) := by decide +kernel
theorem dX8_init_14 : decode cX8_init 14 = .ok (.putfield 14, 3) := by decide +kernel
theorem dX8_init_17 : decode cX8_init 17 = .ok (.aload_n 0, 1) := by decide +kernel
theorem dX8_init_18 : decode cX8_init 18 = .ok (.new 7, 3) := by decide +kernel
theorem dX8_init_21 : decode cX8_init 21 = .ok (.dup, 1) := by decide +kernel
theorem dX8_init_22 : decode cX8_init 22 = .ok (.bipush 18, 2) := by decide +kernel
theorem dX8_init_24 : decode cX8_init 24 = .ok (.invokespecial 11, 3) := by decide +kernel
theorem dX8_init_27 : decode cX8_init 27 = .ok (.putfield 20, 3) := by decide +kernel
theorem dX8_init_30 : decode cX8_init 30 = .ok (.aload_n 0, 1) := by decide +kernel
theorem dX8_init_31 : decode cX8_init 31 = .ok (.new 7, 3) := by decide +kernel
theorem dX8_init_34 : decode cX8_init 34 = .ok (.dup, 1) := by decide +kernel
theorem dX8_init_35 : decode cX8_init 35 = .ok (.bipush 48, 2) := by decide +kernel
theorem dX8_init_37 : decode cX8_init 37 = .ok (.invokespecial 11, 3) := by decide +kernel
theorem dX8_init_40 : decode cX8_init 40 = .ok (.putfield 23, 3) := by decide +kernel
theorem dX8_init_43 : decode cX8_init 43 = .ok (.aload_n 0, 1) := by decide +kernel
theorem dX8_init_44 : decode cX8_init 44 = .ok (.bipush 12, 2) := by decide +kernel
theorem dX8_init_46 : decode cX8_init 46 = .ok (.newarray .int, 2) := by decide +kernel
theorem dX8_init_48 : decode cX8_init 48 = .ok (.putfield 26, 3) := by decide +kernel
theorem dX8_init_51 : decode cX8_init 51 = .ok (.aload_n 0, 1) := by decide +kernel
theorem dX8_init_52 : decode cX8_init 52 = .ok (.bipush 18, 2) := by decide +kernel
theorem dX8_init_54 : decode cX8_init 54 = .ok (.newarray .int, 2) := by decide +kernel
theorem dX8_init_56 : decode cX8_init 56 = .ok (.putfield 30, 3) := by decide +kernel
theorem dX8_init_59 : decode cX8_init 59 = .ok (.aload_n 0, 1) := by decide +kernel
theorem dX8_init_60 : decode cX8_init 60 = .ok (.bipush 18, 2) := by decide +kernel
theorem dX8_init_62 : decode cX8_init 62 = .ok (.newarray .int, 2) := by decide +kernel
theorem dX8_init_64 : decode cX8_init 64 = .ok (.putfield 33, 3) := by decide +kernel
theorem dX8_init_67 : decode cX8_init 67 = .ok (.aload_n 0, 1) := by decide +kernel
theorem dX8_init_68 : decode cX8_init 68 = .ok (.bipush 18, 2) := by decide +kernel
theorem dX8_init_70 : decode cX8_init 70 = .ok (.newarray .int, 2) := by decide +kernel
theorem dX8_init_72 : decode cX8_init 72 = .ok (.putfield 36, 3) := by decide +kernel
theorem dX8_init_75 : decode cX8_init 75 = .ok (.return_, 1) := by decide +kernel
theorem dX8_read_0 : decode cX8_read 0 = .ok (.aload_n 0, 1) := by decide +kernel
theorem dX8_read_1 : decode cX8_read 1 = .ok (.getfield 14, 3) := by decide +kernel
theorem dX8_read_4 : decode cX8_read 4 = .ok (.iconst 4, 1) := by decide +kernel
theorem dX8_read_5 : decode cX8_read 5 = .ok (.aload_n 1, 1) := by decide +kernel
theorem dX8_read_6 : decode cX8_read 6 = .ok (.getfield 39, 3) := by decide +kernel
theorem dX8_read_9 : decode cX8_read 9 = .ok (.imul, 1) := by decide +kernel
theorem dX8_read_10 : decode cX8_read 10 = .ok (.invokevirtual 45, 3) := by decide +kernel
theorem dX8_read_13 : decode cX8_read 13 = .ok (.aload_n 0, 1) := by decide +kernel
theorem dX8_read_14 : decode cX8_read 14 = .ok (.getfield 20, 3) := by decide +kernel
theorem dX8_read_17 : decode cX8_read 17 = .ok (.bipush 6, 2) := by decide +kernel
theorem dX8_read_19 : decode cX8_read 19 = .ok (.aload_n 1, 1) := by decide +kernel
theorem dX8_read_20 : decode cX8_read 20 = .ok (.getfield 39, 3) := by decide +kernel
theorem dX8_read_23 : decode cX8_read 23 = .ok (.imul, 1) := by decide +kernel
theorem dX8_read_24 : decode cX8_read 24 = .ok (.invokevirtual 45, 3) := by decide +kernel
theorem dX8_read_27 : decode cX8_read 27 = .ok (.aload_n 0, 1) := by decide +kernel
theorem dX8_read_28 : decode cX8_read 28 = .ok (.getfield 23, 3) := by decide +kernel
theorem dX8_read_31 : decode cX8_read 31 = .ok (.bipush 16, 2) := by decide +kernel
theorem dX8_read_33 : decode cX8_read 33 = .ok (.aload_n 1, 1) := by decide +kernel
theorem dX8_read_34 : decode cX8_read 34 = .ok (.getfield 39, 3) := by decide +kernel
theorem dX8_read_37 : decode cX8_read 37 = .ok (.imul, 1) := by decide +kernel
theorem dX8_read_38 : decode cX8_read 38 = .ok (.invokevirtual 45, 3) := by decide +kernel
theorem dX8_read_41 : decode cX8_read 41 = .ok (.iconst 0, 1) := by decide +kernel
theorem dX8_read_42 : decode cX8_read 42 = .ok (.istore_n 2, 1) := by decide +kernel
theorem dX8_read_43 : decode cX8_read 43 = .ok (.iload_n 2, 1) := by decide +kernel
theorem dX8_read_44 : decode cX8_read 44 = .ok (.aload_n 1, 1) := by decide +kernel
theorem dX8_read_45 : decode cX8_read 45 = .ok (.invokevirtual 48, 3) := by decide +kernel
theorem dX8_read_48 : decode cX8_read 48 = .ok (.if_icmp .ge 23, 3) := by decide +kernel
theorem dX8_read_51 : decode cX8_read 51 = .ok (.aload_n 1, 1) := by decide +kernel
theorem dX8_read_52 : decode cX8_read 52 = .ok (.iload_n 2, 1) := by decide +kernel
theorem dX8_read_53 : decode cX8_read 53 = .ok (.invokevirtual 52, 3) := by decide +kernel
theorem dX8_read_56 : decode cX8_read 56 = .ok (.ifCond .eq 9, 3) := by decide +kernel
theorem dX8_read_59 : decode cX8_read 59 = .ok (.aload_n 0, 1) := by decide +kernel
theorem dX8_read_60 : decode cX8_read 60 = .ok (.aload_n 1, 1) := by decide +kernel
theorem dX8_read_61 : decode cX8_read 61 = .ok (.iload_n 2, 1) := by decide +kernel
theorem dX8_read_62 : decode cX8_read 62 = .ok (.invokevirtual 56, 3) := by decide +kernel
theorem dX8_read_65 : decode cX8_read 65 = .ok (.iinc 2 1, 3) := by decide +kernel
theorem dX8_read_68 : decode cX8_read 68 = .ok (.goto (-25), 3) := by decide +kernel
theorem dX8_read_71 : decode cX8_read 71 = .ok (.aload_n 0, 1) := by decide +kernel
theorem dX8_read_72 : decode cX8_read 72 = .ok (.aload_n 0, 1) := by decide +kernel
theorem dX8_read_73 : decode cX8_read 73 = .ok (.getfield 14, 3) := by decide +kernel
theorem dX8_read_76 : decode cX8_read 76 = .ok (.aload_n 0, 1) := by decide +kernel
theorem dX8_read_77 : decode cX8_read 77 = .ok (.getfield 26, 3) := by decide +kernel
theorem dX8_read_80 : decode cX8_read 80 = .ok (.invokevirtual 60, 3) := by decide +kernel
theorem dX8_read_83 : decode cX8_read 83 = .ok (.putfield 64, 3) := by decide +kernel
theorem dX8_read_86 : decode cX8_read 86 = .ok (.aload_n 0, 1) := by decide +kernel
theorem dX8_read_87 : decode cX8_read 87 = .ok (.aload_n 0, 1) := by decide +kernel
theorem dX8_read_88 : decode cX8_read 88 = .ok (.getfield 20, 3) := by decide +kernel
theorem dX8_read_91 : decode cX8_read 91 = .ok (.aload_n 0, 1) := by decide +kernel
theorem dX8_read_92 : decode cX8_read 92 = .ok (.getfield 30, 3) := by decide +kernel
theorem dX8_read_95 : decode cX8_read 95 = .ok (.invokevirtual 60, 3) := by decide +kernel
theorem dX8_read_98 : decode cX8_read 98 = .ok (.putfield 67, 3) := by decide +kernel
theorem dX8_read_101 : decode cX8_read 101 = .ok (.aload_n 0, 1) := by decide +kernel
theorem dX8_read_102 : decode cX8_read 102 = .ok (.bipush 6, 2) := by decide +kernel
theorem dX8_read_104 : decode cX8_read 104 = .ok (.aload_n 1, 1) := by decide +kernel
theorem dX8_read_105 : decode cX8_read 105 = .ok (.getfield 39, 3) := by decide +kernel
theorem dX8_read_108 : decode cX8_read 108 = .ok (.imul, 1) := by decide +kernel
theorem dX8_read_109 : decode cX8_read 109 = .ok (.invokevirtual 70, 3) := by decide +kernel
theorem dX8_read_112 : decode cX8_read 112 = .ok (.return_, 1) := by decide +kernel
theorem dX8_joinFaces_0 : decode cX8_joinFaces 0 = .ok (.iload_n 2, 1) := by decide +kernel
theorem dX8_joinFaces_1 : decode cX8_joinFaces 1 = .ok (.iconst 4, 1) := by decide +kernel
theorem dX8_joinFaces_2 : decode cX8_joinFaces 2 = .ok (.irem, 1) := by decide +kernel
theorem dX8_joinFaces_3 : decode cX8_joinFaces 3 = .ok (.istore_n 3, 1) := by decide +kernel
theorem dX8_joinFaces_4 : decode cX8_joinFaces 4 = .ok (.iconst 0, 1) := by decide +kernel
theorem dX8_joinFaces_5 : decode cX8_joinFaces 5 = .ok (.istore 4, 2) := by decide +kernel
theorem dX8_joinFaces_7 : decode cX8_joinFaces 7 = .ok (.iload 4, 2) := by decide +kernel
theorem dX8_joinFaces_9 : decode cX8_joinFaces 9 = .ok (.iconst 4, 1) := by decide +kernel
theorem dX8_joinFaces_10 : decode cX8_joinFaces 10 = .ok (.if_icmp .ge 101, 3) := by decide +kernel
theorem dX8_joinFaces_13 : decode cX8_joinFaces 13 = .ok (.iload_n 2, 1) := by decide +kernel
theorem dX8_joinFaces_14 : decode cX8_joinFaces 14 = .ok (.iload_n 3, 1) := by decide +kernel
theorem dX8_joinFaces_15 : decode cX8_joinFaces 15 = .ok (.isub, 1) := by decide +kernel
theorem dX8_joinFaces_16 : decode cX8_joinFaces 16 = .ok (.iload 4, 2) := by decide +kernel
theorem dX8_joinFaces_18 : decode cX8_joinFaces 18 = .ok (.iadd, 1) := by decide +kernel
theorem dX8_joinFaces_19 : decode cX8_joinFaces 19 = .ok (.istore 5, 2) := by decide +kernel
theorem dX8_joinFaces_21 : decode cX8_joinFaces 21 = .ok (.aload_n 1, 1) := by decide +kernel
theorem dX8_joinFaces_22 : decode cX8_joinFaces 22 = .ok (.iload_n 2, 1) := by decide +kernel
theorem dX8_joinFaces_23 : decode cX8_joinFaces 23 = .ok (.iload 4, 2) := by decide +kernel
theorem dX8_joinFaces_25 : decode cX8_joinFaces 25 = .ok (.invokevirtual 73, 3) := by decide +kernel
theorem dX8_joinFaces_28 : decode cX8_joinFaces 28 = .ok (.istore 6, 2) := by decide +kernel
theorem dX8_joinFaces_30 : decode cX8_joinFaces 30 = .ok (.iload 6, 2) := by decide +kernel
theorem dX8_joinFaces_32 : decode cX8_joinFaces 32 = .ok (.ifCond .ge 6, 3) := by decide +kernel
theorem dX8_joinFaces_35 : decode cX8_joinFaces 35 = .ok (.goto 70, 3) := by decide +kernel
theorem dX8_joinFaces_38 : decode cX8_joinFaces 38 = .ok (.aload_n 0, 1) := by decide +kernel
theorem dX8_joinFaces_39 : decode cX8_joinFaces 39 = .ok (.getfield 14, 3) := by decide +kernel
theorem dX8_joinFaces_42 : decode cX8_joinFaces 42 = .ok (.iload 5, 2) := by decide +kernel
theorem dX8_joinFaces_44 : decode cX8_joinFaces 44 = .ok (.iload 6, 2) := by decide +kernel
theorem dX8_joinFaces_46 : decode cX8_joinFaces 46 = .ok (.invokevirtual 77, 3) := by decide +kernel
theorem dX8_joinFaces_49 : decode cX8_joinFaces 49 = .ok (.iconst 0, 1) := by decide +kernel
theorem dX8_joinFaces_50 : decode cX8_joinFaces 50 = .ok (.istore 7, 2) := by decide +kernel
theorem dX8_joinFaces_52 : decode cX8_joinFaces 52 = .ok (.iload 7, 2) := by decide +kernel
theorem dX8_joinFaces_54 : decode cX8_joinFaces 54 = .ok (.iconst 4, 1) := by decide +kernel
theorem dX8_joinFaces_55 : decode cX8_joinFaces 55 = .ok (.if_icmp .ge 50, 3) := by decide +kernel
theorem dX8_joinFaces_58 : decode cX8_joinFaces 58 = .ok (.aload_n 1, 1) := by decide +kernel
theorem dX8_joinFaces_59 : decode cX8_joinFaces 59 = .ok (.iload_n 2, 1) := by decide +kernel
theorem dX8_joinFaces_60 : decode cX8_joinFaces 60 = .ok (.iload 7, 2) := by decide +kernel
theorem dX8_joinFaces_62 : decode cX8_joinFaces 62 = .ok (.invokevirtual 73, 3) := by decide +kernel
theorem dX8_joinFaces_65 : decode cX8_joinFaces 65 = .ok (.istore 8, 2) := by decide +kernel
theorem dX8_joinFaces_67 : decode cX8_joinFaces 67 = .ok (.iload 7, 2) := by decide +kernel
theorem dX8_joinFaces_69 : decode cX8_joinFaces 69 = .ok (.iload 4, 2) := by decide +kernel
theorem dX8_joinFaces_71 : decode cX8_joinFaces 71 = .ok (.if_icmp .eq 28, 3) := by decide +kernel
theorem dX8_joinFaces_74 : decode cX8_joinFaces 74 = .ok (.iload 8, 2) := by decide +kernel
theorem dX8_joinFaces_76 : decode cX8_joinFaces 76 = .ok (.ifCond .lt 23, 3) := by decide +kernel
theorem dX8_joinFaces_79 : decode cX8_joinFaces 79 = .ok (.aload_n 0, 1) := by decide +kernel
theorem dX8_joinFaces_80 : decode cX8_joinFaces 80 = .ok (.iconst 4, 1) := by decide +kernel
theorem dX8_joinFaces_81 : decode cX8_joinFaces 81 = .ok (.iload 5, 2) := by decide +kernel
theorem dX8_joinFaces_83 : decode cX8_joinFaces 83 = .ok (.imul, 1) := by decide +kernel
theorem dX8_joinFaces_84 : decode cX8_joinFaces 84 = .ok (.iload 7, 2) := by decide +kernel
theorem dX8_joinFaces_86 : decode cX8_joinFaces 86 = .ok (.iadd, 1) := by decide +kernel
theorem dX8_joinFaces_87 : decode cX8_joinFaces 87 = .ok (.iconst 4, 1) := by decide +kernel
theorem dX8_joinFaces_88 : decode cX8_joinFaces 88 = .ok (.iload 6, 2) := by decide +kernel
theorem dX8_joinFaces_90 : decode cX8_joinFaces 90 = .ok (.imul, 1) := by decide +kernel
theorem dX8_joinFaces_91 : decode cX8_joinFaces 91 = .ok (.iload 8, 2) := by decide +kernel
theorem dX8_joinFaces_93 : decode cX8_joinFaces 93 = .ok (.iconst 4, 1) := by decide +kernel
theorem dX8_joinFaces_94 : decode cX8_joinFaces 94 = .ok (.irem, 1) := by decide +kernel
theorem dX8_joinFaces_95 : decode cX8_joinFaces 95 = .ok (.iadd, 1) := by decide +kernel
theorem dX8_joinFaces_96 : decode cX8_joinFaces 96 = .ok (.invokevirtual 81, 3) := by decide +kernel
theorem dX8_joinFaces_99 : decode cX8_joinFaces 99 = .ok (.iinc 7 1, 3) := by decide +kernel
theorem dX8_joinFaces_102 : decode cX8_joinFaces 102 = .ok (.goto (-50), 3) := by decide +kernel
theorem dX8_joinFaces_105 : decode cX8_joinFaces 105 = .ok (.iinc 4 1, 3) := by decide +kernel
theorem dX8_joinFaces_108 : decode cX8_joinFaces 108 = .ok (.goto (-101), 3) := by decide +kernel
theorem dX8_joinFaces_111 : decode cX8_joinFaces 111 = .ok (.return_, 1) := by decide +kernel
theorem dX8_joinArrows_0 : decode cX8_joinArrows 0 = .ok (.aload_n 0, 1) := by decide +kernel
theorem dX8_joinArrows_1 : decode cX8_joinArrows 1 = .ok (.getfield 23, 3) := by decide +kernel
theorem dX8_joinArrows_4 : decode cX8_joinArrows 4 = .ok (.iload_n 1, 1) := by decide +kernel
theorem dX8_joinArrows_5 : decode cX8_joinArrows 5 = .ok (.iload_n 2, 1) := by decide +kernel
theorem dX8_joinArrows_6 : decode cX8_joinArrows 6 = .ok (.invokevirtual 77, 3) := by decide +kernel
theorem dX8_joinArrows_9 : decode cX8_joinArrows 9 = .ok (.aload_n 0, 1) := by decide +kernel
theorem dX8_joinArrows_10 : decode cX8_joinArrows 10 = .ok (.getfield 20, 3) := by decide +kernel
theorem dX8_joinArrows_13 : decode cX8_joinArrows 13 = .ok (.iload_n 1, 1) := by decide +kernel
theorem dX8_joinArrows_14 : decode cX8_joinArrows 14 = .ok (.invokestatic 84, 3) := by decide +kernel
theorem dX8_joinArrows_17 : decode cX8_joinArrows 17 = .ok (.iload_n 2, 1) := by decide +kernel
theorem dX8_joinArrows_18 : decode cX8_joinArrows 18 = .ok (.invokestatic 84, 3) := by decide +kernel
theorem dX8_joinArrows_21 : decode cX8_joinArrows 21 = .ok (.invokevirtual 77, 3) := by decide +kernel
theorem dX8_joinArrows_24 : decode cX8_joinArrows 24 = .ok (.return_, 1) := by decide +kernel
theorem dX8_edgeOf_0 : decode cX8_edgeOf 0 = .ok (.bipush 6, 2) := by decide +kernel
theorem dX8_edgeOf_2 : decode cX8_edgeOf 2 = .ok (.iload_n 0, 1) := by decide +kernel
theorem dX8_edgeOf_3 : decode cX8_edgeOf 3 = .ok (.bipush 16, 2) := by decide +kernel
theorem dX8_edgeOf_5 : decode cX8_edgeOf 5 = .ok (.idiv, 1) := by decide +kernel
theorem dX8_edgeOf_6 : decode cX8_edgeOf 6 = .ok (.imul, 1) := by decide +kernel
theorem dX8_edgeOf_7 : decode cX8_edgeOf 7 = .ok (.getstatic 88, 3) := by decide +kernel
theorem dX8_edgeOf_10 : decode cX8_edgeOf 10 = .ok (.iload_n 0, 1) := by decide +kernel
theorem dX8_edgeOf_11 : decode cX8_edgeOf 11 = .ok (.bipush 16, 2) := by decide +kernel
theorem dX8_edgeOf_13 : decode cX8_edgeOf 13 = .ok (.irem, 1) := by decide +kernel
theorem dX8_edgeOf_14 : decode cX8_edgeOf 14 = .ok (.iaload, 1) := by decide +kernel
theorem dX8_edgeOf_15 : decode cX8_edgeOf 15 = .ok (.iadd, 1) := by decide +kernel
theorem dX8_edgeOf_16 : decode cX8_edgeOf 16 = .ok (.ireturn, 1) := by decide +kernel
theorem dX8_measureLines_0 : decode cX8_measureLines 0 = .ok (.aload_n 0, 1) := by decide +kernel
theorem dX8_measureLines_1 : decode cX8_measureLines 1 = .ok (.getfield 33, 3) := by decide +kernel
theorem dX8_measureLines_4 : decode cX8_measureLines 4 = .ok (.iconst 0, 1) := by decide +kernel
theorem dX8_measureLines_5 : decode cX8_measureLines 5 = .ok (.invokestatic 91, 3) := by decide +kernel
theorem dX8_measureLines_8 : decode cX8_measureLines 8 = .ok (.iload_n 1, 1) := by decide +kernel
theorem dX8_measureLines_9 : decode cX8_measureLines 9 = .ok (.iconst 1, 1) := by decide +kernel
theorem dX8_measureLines_10 : decode cX8_measureLines 10 = .ok (.isub, 1) := by decide +kernel
theorem dX8_measureLines_11 : decode cX8_measureLines 11 = .ok (.istore_n 2, 1) := by decide +kernel
theorem dX8_measureLines_12 : decode cX8_measureLines 12 = .ok (.iload_n 2, 1) := by decide +kernel
theorem dX8_measureLines_13 : decode cX8_measureLines 13 = .ok (.ifCond .lt 36, 3) := by decide +kernel
theorem dX8_measureLines_16 : decode cX8_measureLines 16 = .ok (.aload_n 0, 1) := by decide +kernel
theorem dX8_measureLines_17 : decode cX8_measureLines 17 = .ok (.getfield 33, 3) := by decide +kernel
theorem dX8_measureLines_20 : decode cX8_measureLines 20 = .ok (.aload_n 0, 1) := by decide +kernel
theorem dX8_measureLines_21 : decode cX8_measureLines 21 = .ok (.getfield 30, 3) := by decide +kernel
theorem dX8_measureLines_24 : decode cX8_measureLines 24 = .ok (.iload_n 2, 1) := by decide +kernel
theorem dX8_measureLines_25 : decode cX8_measureLines 25 = .ok (.iaload, 1) := by decide +kernel
theorem dX8_measureLines_26 : decode cX8_measureLines 26 = .ok (.dup2, 1) := by decide +kernel
theorem dX8_measureLines_27 : decode cX8_measureLines 27 = .ok (.iaload, 1) := by decide +kernel
theorem dX8_measureLines_28 : decode cX8_measureLines 28 = .ok (.iconst 1, 1) := by decide +kernel
theorem dX8_measureLines_29 : decode cX8_measureLines 29 = .ok (.iadd, 1) := by decide +kernel
theorem dX8_measureLines_30 : decode cX8_measureLines 30 = .ok (.iastore, 1) := by decide +kernel
theorem dX8_measureLines_31 : decode cX8_measureLines 31 = .ok (.aload_n 0, 1) := by decide +kernel
theorem dX8_measureLines_32 : decode cX8_measureLines 32 = .ok (.getfield 36, 3) := by decide +kernel
theorem dX8_measureLines_35 : decode cX8_measureLines 35 = .ok (.aload_n 0, 1) := by decide +kernel
theorem dX8_measureLines_36 : decode cX8_measureLines 36 = .ok (.getfield 30, 3) := by decide +kernel
theorem dX8_measureLines_39 : decode cX8_measureLines 39 = .ok (.iload_n 2, 1) := by decide +kernel
theorem dX8_measureLines_40 : decode cX8_measureLines 40 = .ok (.iaload, 1) := by decide +kernel
theorem dX8_measureLines_41 : decode cX8_measureLines 41 = .ok (.iload_n 2, 1) := by decide +kernel
theorem dX8_measureLines_42 : decode cX8_measureLines 42 = .ok (.iastore, 1) := by decide +kernel
theorem dX8_measureLines_43 : decode cX8_measureLines 43 = .ok (.iinc 2 (-1), 3) := by decide +kernel
theorem dX8_measureLines_46 : decode cX8_measureLines 46 = .ok (.goto (-34), 3) := by decide +kernel
theorem dX8_measureLines_49 : decode cX8_measureLines 49 = .ok (.return_, 1) := by decide +kernel
theorem dX8_isReversed_0 : decode cX8_isReversed 0 = .ok (.aload_n 0, 1) := by decide +kernel
theorem dX8_isReversed_1 : decode cX8_isReversed 1 = .ok (.getfield 36, 3) := by decide +kernel
theorem dX8_isReversed_4 : decode cX8_isReversed 4 = .ok (.iload_n 1, 1) := by decide +kernel
theorem dX8_isReversed_5 : decode cX8_isReversed 5 = .ok (.iaload, 1) := by decide +kernel
theorem dX8_isReversed_6 : decode cX8_isReversed 6 = .ok (.istore_n 2, 1) := by decide +kernel
theorem dX8_isReversed_7 : decode cX8_isReversed 7 = .ok (.bipush 16, 2) := by decide +kernel
theorem dX8_isReversed_9 : decode cX8_isReversed 9 = .ok (.iload_n 2, 1) := by decide +kernel
theorem dX8_isReversed_10 : decode cX8_isReversed 10 = .ok (.bipush 6, 2) := by decide +kernel
theorem dX8_isReversed_12 : decode cX8_isReversed 12 = .ok (.idiv, 1) := by decide +kernel
theorem dX8_isReversed_13 : decode cX8_isReversed 13 = .ok (.imul, 1) := by decide +kernel
theorem dX8_isReversed_14 : decode cX8_isReversed 14 = .ok (.istore_n 3, 1) := by decide +kernel
theorem dX8_isReversed_15 : decode cX8_isReversed 15 = .ok (.getstatic 97, 3) := by decide +kernel
theorem dX8_isReversed_18 : decode cX8_isReversed 18 = .ok (.iload_n 2, 1) := by decide +kernel
theorem dX8_isReversed_19 : decode cX8_isReversed 19 = .ok (.bipush 6, 2) := by decide +kernel
theorem dX8_isReversed_21 : decode cX8_isReversed 21 = .ok (.irem, 1) := by decide +kernel
theorem dX8_isReversed_22 : decode cX8_isReversed 22 = .ok (.iaload, 1) := by decide +kernel
theorem dX8_isReversed_23 : decode cX8_isReversed 23 = .ok (.istore 4, 2) := by decide +kernel
theorem dX8_isReversed_25 : decode cX8_isReversed 25 = .ok (.getstatic 100, 3) := by decide +kernel
theorem dX8_isReversed_28 : decode cX8_isReversed 28 = .ok (.iload_n 2, 1) := by decide +kernel
theorem dX8_isReversed_29 : decode cX8_isReversed 29 = .ok (.bipush 6, 2) := by decide +kernel
theorem dX8_isReversed_31 : decode cX8_isReversed 31 = .ok (.irem, 1) := by decide +kernel
theorem dX8_isReversed_32 : decode cX8_isReversed 32 = .ok (.iaload, 1) := by decide +kernel
theorem dX8_isReversed_33 : decode cX8_isReversed 33 = .ok (.istore 5, 2) := by decide +kernel
theorem dX8_isReversed_35 : decode cX8_isReversed 35 = .ok (.aload_n 0, 1) := by decide +kernel
theorem dX8_isReversed_36 : decode cX8_isReversed 36 = .ok (.getfield 23, 3) := by decide +kernel
theorem dX8_isReversed_39 : decode cX8_isReversed 39 = .ok (.iload_n 3, 1) := by decide +kernel
theorem dX8_isReversed_40 : decode cX8_isReversed 40 = .ok (.iconst 4, 1) := by decide +kernel
theorem dX8_isReversed_41 : decode cX8_isReversed 41 = .ok (.iload 4, 2) := by decide +kernel
theorem dX8_isReversed_43 : decode cX8_isReversed 43 = .ok (.imul, 1) := by decide +kernel
theorem dX8_isReversed_44 : decode cX8_isReversed 44 = .ok (.iadd, 1) := by decide +kernel
theorem dX8_isReversed_45 : decode cX8_isReversed 45 = .ok (.iload 5, 2) := by decide +kernel
theorem dX8_isReversed_47 : decode cX8_isReversed 47 = .ok (.iadd, 1) := by decide +kernel
theorem dX8_isReversed_48 : decode cX8_isReversed 48 = .ok (.invokevirtual 103, 3) := by decide +kernel
theorem dX8_isReversed_51 : decode cX8_isReversed 51 = .ok (.aload_n 0, 1) := by decide +kernel
theorem dX8_isReversed_52 : decode cX8_isReversed 52 = .ok (.getfield 23, 3) := by decide +kernel
theorem dX8_isReversed_55 : decode cX8_isReversed 55 = .ok (.iload_n 3, 1) := by decide +kernel
theorem dX8_isReversed_56 : decode cX8_isReversed 56 = .ok (.iconst 4, 1) := by decide +kernel
theorem dX8_isReversed_57 : decode cX8_isReversed 57 = .ok (.iload 5, 2) := by decide +kernel
theorem dX8_isReversed_59 : decode cX8_isReversed 59 = .ok (.imul, 1) := by decide +kernel
theorem dX8_isReversed_60 : decode cX8_isReversed 60 = .ok (.iadd, 1) := by decide +kernel
theorem dX8_isReversed_61 : decode cX8_isReversed 61 = .ok (.iload 4, 2) := by decide +kernel
theorem dX8_isReversed_63 : decode cX8_isReversed 63 = .ok (.iadd, 1) := by decide +kernel
theorem dX8_isReversed_64 : decode cX8_isReversed 64 = .ok (.invokevirtual 103, 3) := by decide +kernel
theorem dX8_isReversed_67 : decode cX8_isReversed 67 = .ok (.if_icmp .ne 7, 3) := by decide +kernel
theorem dX8_isReversed_70 : decode cX8_isReversed 70 = .ok (.iconst 1, 1) := by decide +kernel
theorem dX8_isReversed_71 : decode cX8_isReversed 71 = .ok (.goto 4, 3) := by decide +kernel
theorem dX8_isReversed_74 : decode cX8_isReversed 74 = .ok (.iconst 0, 1) := by decide +kernel
theorem dX8_isReversed_75 : decode cX8_isReversed 75 = .ok (.ireturn, 1) := by decide +kernel
theorem dX8_reversedLines_0 : decode cX8_reversedLines 0 = .ok (.iconst 0, 1) := by decide +kernel
theorem dX8_reversedLines_1 : decode cX8_reversedLines 1 = .ok (.istore_n 1, 1) := by decide +kernel
theorem dX8_reversedLines_2 : decode cX8_reversedLines 2 = .ok (.iconst 0, 1) := by decide +kernel
theorem dX8_reversedLines_3 : decode cX8_reversedLines 3 = .ok (.istore_n 2, 1) := by decide +kernel
theorem dX8_reversedLines_4 : decode cX8_reversedLines 4 = .ok (.iload_n 2, 1) := by decide +kernel
theorem dX8_reversedLines_5 : decode cX8_reversedLines 5 = .ok (.aload_n 0, 1) := by decide +kernel
theorem dX8_reversedLines_6 : decode cX8_reversedLines 6 = .ok (.getfield 67, 3) := by decide +kernel
theorem dX8_reversedLines_9 : decode cX8_reversedLines 9 = .ok (.if_icmp .ge 25, 3) := by decide +kernel
theorem dX8_reversedLines_12 : decode cX8_reversedLines 12 = .ok (.iload_n 1, 1) := by decide +kernel
theorem dX8_reversedLines_13 : decode cX8_reversedLines 13 = .ok (.aload_n 0, 1) := by decide +kernel
theorem dX8_reversedLines_14 : decode cX8_reversedLines 14 = .ok (.iload_n 2, 1) := by decide +kernel
theorem dX8_reversedLines_15 : decode cX8_reversedLines 15 = .ok (.invokevirtual 106, 3) := by decide +kernel
theorem dX8_reversedLines_18 : decode cX8_reversedLines 18 = .ok (.ifCond .eq 7, 3) := by decide +kernel
theorem dX8_reversedLines_21 : decode cX8_reversedLines 21 = .ok (.iconst 1, 1) := by decide +kernel
theorem dX8_reversedLines_22 : decode cX8_reversedLines 22 = .ok (.goto 4, 3) := by decide +kernel
theorem dX8_reversedLines_25 : decode cX8_reversedLines 25 = .ok (.iconst 0, 1) := by decide +kernel
theorem dX8_reversedLines_26 : decode cX8_reversedLines 26 = .ok (.iadd, 1) := by decide +kernel
theorem dX8_reversedLines_27 : decode cX8_reversedLines 27 = .ok (.istore_n 1, 1) := by decide +kernel
theorem dX8_reversedLines_28 : decode cX8_reversedLines 28 = .ok (.iinc 2 1, 3) := by decide +kernel
theorem dX8_reversedLines_31 : decode cX8_reversedLines 31 = .ok (.goto (-27), 3) := by decide +kernel
theorem dX8_reversedLines_34 : decode cX8_reversedLines 34 = .ok (.iload_n 1, 1) := by decide +kernel
theorem dX8_reversedLines_35 : decode cX8_reversedLines 35 = .ok (.ireturn, 1) := by decide +kernel
theorem dX9_init_0 : decode cX9_init 0 = .ok (.aload_n 0, 1) := by decide +kernel
theorem dX9_init_1 : decode cX9_init 1 = .ok (.invokespecial 3, 3) := by decide +kernel
theorem dX9_init_4 : decode cX9_init 4 = .ok (.aload_n 0, 1) := by decide +kernel
theorem dX9_init_5 : decode cX9_init 5 = .ok (.new 9, 3) := by decide +kernel
theorem dX9_init_8 : decode cX9_init 8 = .ok (.dup, 1) := by decide +kernel
theorem dX9_init_9 : decode cX9_init 9 = .ok (.invokespecial 11, 3) := by decide +kernel
theorem dX9_init_12 : decode cX9_init 12 = .ok (.putfield 12, 3) := by decide +kernel
theorem dX9_init_15 : decode cX9_init 15 = .ok (.aload_n 0, 1) := by decide +kernel
theorem dX9_init_16 : decode cX9_init 16 = .ok (.new 18, 3) := by decide +kernel
theorem dX9_init_19 : decode cX9_init 19 = .ok (.dup, 1) := by decide +kernel
theorem dX9_init_20 : decode cX9_init 20 = .ok (.invokespecial 20, 3) := by decide +kernel
theorem dX9_init_23 : decode cX9_init 23 = .ok (.putfield 21, 3) := by decide +kernel
theorem dX9_init_26 : decode cX9_init 26 = .ok (.aload_n 0, 1) := by decide +kernel
theorem dX9_init_27 : decode cX9_init 27 = .ok (.new 25, 3) := by decide +kernel
theorem dX9_init_30 : decode cX9_init 30 = .ok (.dup, 1) := by decide +kernel
theorem dX9_init_31 : decode cX9_init 31 = .ok (.invokespecial 27, 3) := by decide +kernel
theorem dX9_init_34 : decode cX9_init 34 = .ok (.putfield 28, 3) := by decide +kernel
theorem dX9_init_37 : decode cX9_init 37 = .ok (.aload_n 0, 1) := by decide +kernel
theorem dX9_init_38 : decode cX9_init 38 = .ok (.new 32, 3) := by decide +kernel
theorem dX9_init_41 : decode cX9_init 41 = .ok (.dup, 1) := by decide +kernel
theorem dX9_init_42 : decode cX9_init 42 = .ok (.sipush 420, 3) := by decide +kernel
theorem dX9_init_45 : decode cX9_init 45 = .ok (.invokespecial 36, 3) := by decide +kernel
theorem dX9_init_48 : decode cX9_init 48 = .ok (.putfield 39, 3) := by decide +kernel
theorem dX9_init_51 : decode cX9_init 51 = .ok (.aload_n 0, 1) := by decide +kernel
theorem dX9_init_52 : decode cX9_init 52 = .ok (.new 32, 3) := by decide +kernel
theorem dX9_init_55 : decode cX9_init 55 = .ok (.dup, 1) := by decide +kernel
theorem dX9_init_56 : decode cX9_init 56 = .ok (.sipush 840, 3) := by decide +kernel
theorem dX9_init_59 : decode cX9_init 59 = .ok (.invokespecial 36, 3) := by decide +kernel
theorem dX9_init_62 : decode cX9_init 62 = .ok (.putfield 43, 3) := by decide +kernel
theorem dX9_init_65 : decode cX9_init 65 = .ok (.aload_n 0, 1) := by decide +kernel
theorem dX9_init_66 : decode cX9_init 66 = .ok (.bipush 21, 2) := by decide +kernel
theorem dX9_init_68 : decode cX9_init 68 = .ok (.newarray .int, 2) := by decide +kernel
theorem dX9_init_70 : decode cX9_init 70 = .ok (.putfield 46, 3) := by decide +kernel
theorem dX9_init_73 : decode cX9_init 73 = .ok (.aload_n 0, 1) := by decide +kernel
theorem dX9_init_74 : decode cX9_init 74 = .ok (.new 50, 3) := by decide +kernel
theorem dX9_init_77 : decode cX9_init 77 = .ok (.dup, 1) := by decide +kernel
theorem dX9_init_78 : decode cX9_init 78 = .ok (.invokespecial 52, 3) := by decide +kernel
theorem dX9_init_81 : decode cX9_init 81 = .ok (.putfield 53, 3) := by decide +kernel
theorem dX9_init_84 : decode cX9_init 84 = .ok (.aload_n 0, 1) := by decide +kernel
theorem dX9_init_85 : decode cX9_init 85 = .ok (.new 50, 3) := by decide +kernel
theorem dX9_init_88 : decode cX9_init 88 = .ok (.dup, 1) := by decide +kernel
theorem dX9_init_89 : decode cX9_init 89 = .ok (.invokespecial 52, 3) := by decide +kernel
theorem dX9_init_92 : decode cX9_init 92 = .ok (.putfield 57, 3) := by decide +kernel
theorem dX9_init_95 : decode cX9_init 95 = .ok (.aload_n 0, 1) := by decide +kernel
theorem dX9_init_96 : decode cX9_init 96 = .ok (.bipush 21, 2) := by decide +kernel
theorem dX9_init_98 : decode cX9_init 98 = .ok (.newarray .int, 2) := by decide +kernel
theorem dX9_init_100 : decode cX9_init 100 = .ok (.putfield 60, 3) := by decide +kernel
theorem dX9_init_103 : decode cX9_init 103 = .ok (.return_, 1) := by decide +kernel
theorem dX9_matches_0 : decode cX9_matches 0 = .ok (.aload_n 0, 1) := by decide +kernel
theorem dX9_matches_1 : decode cX9_matches 1 = .ok (.getfield 28, 3) := by decide +kernel
theorem dX9_matches_4 : decode cX9_matches 4 = .ok (.aload_n 0, 1) := by decide +kernel
theorem dX9_matches_5 : decode cX9_matches 5 = .ok (.getfield 12, 3) := by decide +kernel
theorem dX9_matches_8 : decode cX9_matches 8 = .ok (.aload_n 1, 1) := by decide +kernel
theorem dX9_matches_9 : decode cX9_matches 9 = .ok (.invokevirtual 63, 3) := by decide +kernel
theorem dX9_matches_12 : decode cX9_matches 12 = .ok (.aload_n 0, 1) := by decide +kernel
theorem dX9_matches_13 : decode cX9_matches 13 = .ok (.getfield 28, 3) := by decide +kernel
theorem dX9_matches_16 : decode cX9_matches 16 = .ok (.aload_n 1, 1) := by decide +kernel
theorem dX9_matches_17 : decode cX9_matches 17 = .ok (.invokevirtual 67, 3) := by decide +kernel
theorem dX9_matches_20 : decode cX9_matches 20 = .ok (.ireturn, 1) := by decide +kernel
theorem dX9_isNormal_0 : decode cX9_isNormal 0 = .ok (.aload_n 1, 1) := by decide +kernel
theorem dX9_isNormal_1 : decode cX9_isNormal 1 = .ok (.invokevirtual 71, 3) := by decide +kernel
theorem dX9_isNormal_4 : decode cX9_isNormal 4 = .ok (.ifCond .ne 15, 3) := by decide +kernel
theorem dX9_isNormal_7 : decode cX9_isNormal 7 = .ok (.aload_n 0, 1) := by decide +kernel
theorem dX9_isNormal_8 : decode cX9_isNormal 8 = .ok (.aload_n 1, 1) := by decide +kernel
theorem dX9_isNormal_9 : decode cX9_isNormal 9 = .ok (.invokevirtual 75, 3) := by decide +kernel
theorem dX9_isNormal_12 : decode cX9_isNormal 12 = .ok (.ifCond .eq 7, 3) := by decide +kernel
theorem dX9_isNormal_15 : decode cX9_isNormal 15 = .ok (.iconst 1, 1) := by decide +kernel
theorem dX9_isNormal_16 : decode cX9_isNormal 16 = .ok (.goto 4, 3) := by decide +kernel
theorem dX9_isNormal_19 : decode cX9_isNormal 19 = .ok (.iconst 0, 1) := by decide +kernel
theorem dX9_isNormal_20 : decode cX9_isNormal 20 = .ok (.ireturn, 1) := by decide +kernel
theorem dX9_ofNormal_0 : decode cX9_ofNormal 0 = .ok (.iload_n 2, 1) := by decide +kernel
theorem dX9_ofNormal_1 : decode cX9_ofNormal 1 = .ok (.tableswitch 67 3 8 #[39, 67, 49, 67, 55, 61], 39) := by decide +kernel
theorem dX9_ofNormal_40 : decode cX9_ofNormal 40 = .ok (.aload_n 0, 1) := by decide +kernel
theorem dX9_ofNormal_41 : decode cX9_ofNormal 41 = .ok (.aload_n 1, 1) := by decide +kernel
theorem dX9_ofNormal_42 : decode cX9_ofNormal 42 = .ok (.invokevirtual 78, 3) := by decide +kernel
theorem dX9_ofNormal_45 : decode cX9_ofNormal 45 = .ok (.sipush 1000, 3) := by decide +kernel
theorem dX9_ofNormal_48 : decode cX9_ofNormal 48 = .ok (.iadd, 1) := by decide +kernel
theorem dX9_ofNormal_49 : decode cX9_ofNormal 49 = .ok (.ireturn, 1) := by decide +kernel
theorem dX9_ofNormal_50 : decode cX9_ofNormal 50 = .ok (.aload_n 0, 1) := by decide +kernel
theorem dX9_ofNormal_51 : decode cX9_ofNormal 51 = .ok (.aload_n 1, 1) := by decide +kernel
theorem dX9_ofNormal_52 : decode cX9_ofNormal 52 = .ok (.invokevirtual 82, 3) := by decide +kernel
theorem dX9_ofNormal_55 : decode cX9_ofNormal 55 = .ok (.ireturn, 1) := by decide +kernel
theorem dX9_ofNormal_56 : decode cX9_ofNormal 56 = .ok (.aload_n 0, 1) := by decide +kernel
theorem dX9_ofNormal_57 : decode cX9_ofNormal 57 = .ok (.aload_n 1, 1) := by decide +kernel
theorem dX9_ofNormal_58 : decode cX9_ofNormal 58 = .ok (.invokevirtual 85, 3) := by decide +kernel
theorem dX9_ofNormal_61 : decode cX9_ofNormal 61 = .ok (.ireturn, 1) := by decide +kernel
theorem dX9_ofNormal_62 : decode cX9_ofNormal 62 = .ok (.aload_n 0, 1) := by decide +kernel
theorem dX9_ofNormal_63 : decode cX9_ofNormal 63 = .ok (.aload_n 1, 1) := by decide +kernel
theorem dX9_ofNormal_64 : decode cX9_ofNormal 64 = .ok (.invokevirtual 88, 3) := by decide +kernel
theorem dX9_ofNormal_67 : decode cX9_ofNormal 67 = .ok (.ireturn, 1) := by decide +kernel
theorem dX9_ofNormal_68 : decode cX9_ofNormal 68 = .ok (.aload_n 0, 1) := by decide +kernel
theorem dX9_ofNormal_69 : decode cX9_ofNormal 69 = .ok (.aload_n 1, 1) := by decide +kernel
theorem dX9_ofNormal_70 : decode cX9_ofNormal 70 = .ok (.invokevirtual 91, 3) := by decide +kernel
theorem dX9_ofNormal_73 : decode cX9_ofNormal 73 = .ok (.iload_n 2, 1) := by decide +kernel
theorem dX9_ofNormal_74 : decode cX9_ofNormal 74 = .ok (.iconst 4, 1) := by decide +kernel
theorem dX9_ofNormal_75 : decode cX9_ofNormal 75 = .ok (.if_icmp .ne 10, 3) := by decide +kernel
theorem dX9_ofNormal_78 : decode cX9_ofNormal 78 = .ok (.aload_n 0, 1) := by decide +kernel
theorem dX9_ofNormal_79 : decode cX9_ofNormal 79 = .ok (.getfield 95, 3) := by decide +kernel
theorem dX9_ofNormal_82 : decode cX9_ofNormal 82 = .ok (.goto 7, 3) := by decide +kernel
theorem dX9_ofNormal_85 : decode cX9_ofNormal 85 = .ok (.aload_n 0, 1) := by decide +kernel
theorem dX9_ofNormal_86 : decode cX9_ofNormal 86 = .ok (.getfield 99, 3) := by decide +kernel
theorem dX9_ofNormal_89 : decode cX9_ofNormal 89 = .ok (.ireturn, 1) := by decide +kernel
theorem dX9_characteristic_0 : decode cX9_characteristic 0 = .ok (.aload_n 1, 1) := by decide +kernel
theorem dX9_characteristic_1 : decode cX9_characteristic 1 = .ok (.invokevirtual 102, 3) := by decide +kernel
theorem dX9_characteristic_4 : decode cX9_characteristic 4 = .ok (.istore_n 2, 1) := by decide +kernel
theorem dX9_characteristic_5 : decode cX9_characteristic 5 = .ok (.iconst 0, 1) := by decide +kernel
theorem dX9_characteristic_6 : decode cX9_characteristic 6 = .ok (.istore_n 3, 1) := by decide +kernel
theorem dX9_characteristic_7 : decode cX9_characteristic 7 = .ok (.iload_n 3, 1) := by decide +kernel
theorem dX9_characteristic_8 : decode cX9_characteristic 8 = .ok (.aload_n 0, 1) := by decide +kernel
theorem dX9_characteristic_9 : decode cX9_characteristic 9 = .ok (.getfield 21, 3) := by decide +kernel
theorem dX9_characteristic_12 : decode cX9_characteristic 12 = .ok (.getfield 106, 3) := by decide +kernel
theorem dX9_characteristic_15 : decode cX9_characteristic 15 = .ok (.if_icmp .ge 37, 3) := by decide +kernel
theorem dX9_characteristic_18 : decode cX9_characteristic 18 = .ok (.aload_n 0, 1) := by decide +kernel
theorem dX9_characteristic_19 : decode cX9_characteristic 19 = .ok (.getfield 21, 3) := by decide +kernel
theorem dX9_characteristic_22 : decode cX9_characteristic 22 = .ok (.getfield 109, 3) := by decide +kernel
theorem dX9_characteristic_25 : decode cX9_characteristic 25 = .ok (.iload_n 3, 1) := by decide +kernel
theorem dX9_characteristic_26 : decode cX9_characteristic 26 = .ok (.iaload, 1) := by decide +kernel
theorem dX9_characteristic_27 : decode cX9_characteristic 27 = .ok (.istore 4, 2) := by decide +kernel
theorem dX9_characteristic_29 : decode cX9_characteristic 29 = .ok (.iload_n 2, 1) := by decide +kernel
theorem dX9_characteristic_30 : decode cX9_characteristic 30 = .ok (.aload_n 1, 1) := by decide +kernel
theorem dX9_characteristic_31 : decode cX9_characteristic 31 = .ok (.iload 4, 2) := by decide +kernel
theorem dX9_characteristic_33 : decode cX9_characteristic 33 = .ok (.bipush 6, 2) := by decide +kernel
theorem dX9_characteristic_35 : decode cX9_characteristic 35 = .ok (.idiv, 1) := by decide +kernel
theorem dX9_characteristic_36 : decode cX9_characteristic 36 = .ok (.iload 4, 2) := by decide +kernel
theorem dX9_characteristic_38 : decode cX9_characteristic 38 = .ok (.bipush 6, 2) := by decide +kernel
theorem dX9_characteristic_40 : decode cX9_characteristic 40 = .ok (.irem, 1) := by decide +kernel
theorem dX9_characteristic_41 : decode cX9_characteristic 41 = .ok (.invokevirtual 112, 3) := by decide +kernel
theorem dX9_characteristic_44 : decode cX9_characteristic 44 = .ok (.iadd, 1) := by decide +kernel
theorem dX9_characteristic_45 : decode cX9_characteristic 45 = .ok (.istore_n 2, 1) := by decide +kernel
theorem dX9_characteristic_46 : decode cX9_characteristic 46 = .ok (.iinc 3 1, 3) := by decide +kernel
theorem dX9_characteristic_49 : decode cX9_characteristic 49 = .ok (.goto (-42), 3) := by decide +kernel
theorem dX9_characteristic_52 : decode cX9_characteristic 52 = .ok (.iconst 0, 1) := by decide +kernel
theorem dX9_characteristic_53 : decode cX9_characteristic 53 = .ok (.istore_n 3, 1) := by decide +kernel
theorem dX9_characteristic_54 : decode cX9_characteristic 54 = .ok (.iload_n 3, 1) := by decide +kernel
theorem dX9_characteristic_55 : decode cX9_characteristic 55 = .ok (.aload_n 0, 1) := by decide +kernel
theorem dX9_characteristic_56 : decode cX9_characteristic 56 = .ok (.getfield 12, 3) := by decide +kernel
theorem dX9_characteristic_59 : decode cX9_characteristic 59 = .ok (.invokevirtual 116, 3) := by decide +kernel
theorem dX9_characteristic_62 : decode cX9_characteristic 62 = .ok (.if_icmp .ge 45, 3) := by decide +kernel
theorem dX9_characteristic_65 : decode cX9_characteristic 65 = .ok (.aload_n 0, 1) := by decide +kernel
theorem dX9_characteristic_66 : decode cX9_characteristic 66 = .ok (.getfield 12, 3) := by decide +kernel
theorem dX9_characteristic_69 : decode cX9_characteristic 69 = .ok (.getfield 119, 3) := by decide +kernel
theorem dX9_characteristic_72 : decode cX9_characteristic 72 = .ok (.iload_n 3, 1) := by decide +kernel
theorem dX9_characteristic_73 : decode cX9_characteristic 73 = .ok (.iaload, 1) := by decide +kernel
theorem dX9_characteristic_74 : decode cX9_characteristic 74 = .ok (.ifCond .lt 14, 3) := by decide +kernel
theorem dX9_characteristic_77 : decode cX9_characteristic 77 = .ok (.aload_n 0, 1) := by decide +kernel
theorem dX9_characteristic_78 : decode cX9_characteristic 78 = .ok (.getfield 12, 3) := by decide +kernel
theorem dX9_characteristic_81 : decode cX9_characteristic 81 = .ok (.iload_n 3, 1) := by decide +kernel
theorem dX9_characteristic_82 : decode cX9_characteristic 82 = .ok (.invokevirtual 122, 3) := by decide +kernel
theorem dX9_characteristic_85 : decode cX9_characteristic 85 = .ok (.ifCond .eq 16, 3) := by decide +kernel
theorem dX9_characteristic_88 : decode cX9_characteristic 88 = .ok (.iload_n 2, 1) := by decide +kernel
theorem dX9_characteristic_89 : decode cX9_characteristic 89 = .ok (.aload_n 1, 1) := by decide +kernel
theorem dX9_characteristic_90 : decode cX9_characteristic 90 = .ok (.iload_n 3, 1) := by decide +kernel
theorem dX9_characteristic_91 : decode cX9_characteristic 91 = .ok (.iconst 4, 1) := by decide +kernel
theorem dX9_characteristic_92 : decode cX9_characteristic 92 = .ok (.idiv, 1) := by decide +kernel
theorem dX9_characteristic_93 : decode cX9_characteristic 93 = .ok (.iload_n 3, 1) := by decide +kernel
theorem dX9_characteristic_94 : decode cX9_characteristic 94 = .ok (.iconst 4, 1) := by decide +kernel
theorem dX9_characteristic_95 : decode cX9_characteristic 95 = .ok (.irem, 1) := by decide +kernel
theorem dX9_characteristic_96 : decode cX9_characteristic 96 = .ok (.invokevirtual 126, 3) := by decide +kernel
theorem dX9_characteristic_99 : decode cX9_characteristic 99 = .ok (.isub, 1) := by decide +kernel
theorem dX9_characteristic_100 : decode cX9_characteristic 100 = .ok (.istore_n 2, 1) := by decide +kernel
theorem dX9_characteristic_101 : decode cX9_characteristic 101 = .ok (.iinc 3 1, 3) := by decide +kernel
theorem dX9_characteristic_104 : decode cX9_characteristic 104 = .ok (.goto (-50), 3) := by decide +kernel
theorem dX9_characteristic_107 : decode cX9_characteristic 107 = .ok (.iload_n 2, 1) := by decide +kernel
theorem dX9_characteristic_108 : decode cX9_characteristic 108 = .ok (.ireturn, 1) := by decide +kernel
theorem dX9_boundary_0 : decode cX9_boundary 0 = .ok (.iconst 0, 1) := by decide +kernel
theorem dX9_boundary_1 : decode cX9_boundary 1 = .ok (.istore_n 2, 1) := by decide +kernel
theorem dX9_boundary_2 : decode cX9_boundary 2 = .ok (.iconst 0, 1) := by decide +kernel
theorem dX9_boundary_3 : decode cX9_boundary 3 = .ok (.istore_n 3, 1) := by decide +kernel
theorem dX9_boundary_4 : decode cX9_boundary 4 = .ok (.iload_n 3, 1) := by decide +kernel
theorem dX9_boundary_5 : decode cX9_boundary 5 = .ok (.aload_n 0, 1) := by decide +kernel
theorem dX9_boundary_6 : decode cX9_boundary 6 = .ok (.getfield 12, 3) := by decide +kernel
theorem dX9_boundary_9 : decode cX9_boundary 9 = .ok (.invokevirtual 116, 3) := by decide +kernel
theorem dX9_boundary_12 : decode cX9_boundary 12 = .ok (.if_icmp .ge 38, 3) := by decide +kernel
theorem dX9_boundary_15 : decode cX9_boundary 15 = .ok (.iload_n 2, 1) := by decide +kernel
theorem dX9_boundary_16 : decode cX9_boundary 16 = .ok (.aload_n 0, 1) := by decide +kernel
theorem dX9_boundary_17 : decode cX9_boundary 17 = .ok (.getfield 12, 3) := by decide +kernel
theorem dX9_boundary_20 : decode cX9_boundary 20 = .ok (.getfield 119, 3) := by decide +kernel
theorem dX9_boundary_23 : decode cX9_boundary 23 = .ok (.iload_n 3, 1) := by decide +kernel
theorem dX9_boundary_24 : decode cX9_boundary 24 = .ok (.iaload, 1) := by decide +kernel
theorem dX9_boundary_25 : decode cX9_boundary 25 = .ok (.ifCond .ge 16, 3) := by decide +kernel
theorem dX9_boundary_28 : decode cX9_boundary 28 = .ok (.aload_n 1, 1) := by decide +kernel
theorem dX9_boundary_29 : decode cX9_boundary 29 = .ok (.iload_n 3, 1) := by decide +kernel
theorem dX9_boundary_30 : decode cX9_boundary 30 = .ok (.iconst 4, 1) := by decide +kernel
theorem dX9_boundary_31 : decode cX9_boundary 31 = .ok (.idiv, 1) := by decide +kernel
theorem dX9_boundary_32 : decode cX9_boundary 32 = .ok (.iload_n 3, 1) := by decide +kernel
theorem dX9_boundary_33 : decode cX9_boundary 33 = .ok (.iconst 4, 1) := by decide +kernel
theorem dX9_boundary_34 : decode cX9_boundary 34 = .ok (.irem, 1) := by decide +kernel
theorem dX9_boundary_35 : decode cX9_boundary 35 = .ok (.invokevirtual 126, 3) := by decide +kernel
theorem dX9_boundary_38 : decode cX9_boundary 38 = .ok (.goto 4, 3) := by decide +kernel
theorem dX9_boundary_41 : decode cX9_boundary 41 = .ok (.iconst 0, 1) := by decide +kernel
theorem dX9_boundary_42 : decode cX9_boundary 42 = .ok (.iadd, 1) := by decide +kernel
theorem dX9_boundary_43 : decode cX9_boundary 43 = .ok (.istore_n 2, 1) := by decide +kernel
theorem dX9_boundary_44 : decode cX9_boundary 44 = .ok (.iinc 3 1, 3) := by decide +kernel
theorem dX9_boundary_47 : decode cX9_boundary 47 = .ok (.goto (-43), 3) := by decide +kernel
theorem dX9_boundary_50 : decode cX9_boundary 50 = .ok (.iload_n 2, 1) := by decide +kernel
theorem dX9_boundary_51 : decode cX9_boundary 51 = .ok (.ireturn, 1) := by decide +kernel
theorem dX9_type_0 : decode cX9_type 0 = .ok (.aload_n 0, 1) := by decide +kernel
theorem dX9_type_1 : decode cX9_type 1 = .ok (.aload_n 1, 1) := by decide +kernel
theorem dX9_type_2 : decode cX9_type 2 = .ok (.invokevirtual 91, 3) := by decide +kernel
theorem dX9_type_5 : decode cX9_type 5 = .ok (.aload_n 0, 1) := by decide +kernel
theorem dX9_type_6 : decode cX9_type 6 = .ok (.getfield 95, 3) := by decide +kernel
theorem dX9_type_9 : decode cX9_type 9 = .ok (.iconst 1, 1) := by decide +kernel
theorem dX9_type_10 : decode cX9_type 10 = .ok (.if_icmp .eq 5, 3) := by decide +kernel
theorem dX9_type_13 : decode cX9_type 13 = .ok (.iconst 0, 1) := by decide +kernel
theorem dX9_type_14 : decode cX9_type 14 = .ok (.ireturn, 1) := by decide +kernel
theorem dX9_type_15 : decode cX9_type 15 = .ok (.aload_n 0, 1) := by decide +kernel
theorem dX9_type_16 : decode cX9_type 16 = .ok (.aload_n 1, 1) := by decide +kernel
theorem dX9_type_17 : decode cX9_type 17 = .ok (.invokevirtual 82, 3) := by decide +kernel
theorem dX9_type_20 : decode cX9_type 20 = .ok (.ifCond .le 5, 3) := by decide +kernel
theorem dX9_type_23 : decode cX9_type 23 = .ok (.iconst 1, 1) := by decide +kernel
theorem dX9_type_24 : decode cX9_type 24 = .ok (.ireturn, 1) := by decide +kernel
theorem dX9_type_25 : decode cX9_type 25 = .ok (.aload_n 0, 1) := by decide +kernel
theorem dX9_type_26 : decode cX9_type 26 = .ok (.aload_n 1, 1) := by decide +kernel
theorem dX9_type_27 : decode cX9_type 27 = .ok (.invokevirtual 78, 3) := by decide +kernel
theorem dX9_type_30 : decode cX9_type 30 = .ok (.tableswitch 44 0 2 #[30, 28, 26], 26) := by decide +kernel
theorem dX9_type_56 : decode cX9_type 56 = .ok (.iconst 2, 1) := by decide +kernel
theorem dX9_type_57 : decode cX9_type 57 = .ok (.ireturn, 1) := by decide +kernel
theorem dX9_type_58 : decode cX9_type 58 = .ok (.iconst 3, 1) := by decide +kernel
theorem dX9_type_59 : decode cX9_type 59 = .ok (.ireturn, 1) := by decide +kernel
theorem dX9_type_60 : decode cX9_type 60 = .ok (.aload_n 0, 1) := by decide +kernel
theorem dX9_type_61 : decode cX9_type 61 = .ok (.getfield 99, 3) := by decide +kernel
theorem dX9_type_64 : decode cX9_type 64 = .ok (.iconst 1, 1) := by decide +kernel
theorem dX9_type_65 : decode cX9_type 65 = .ok (.if_icmp .ne 7, 3) := by decide +kernel
theorem dX9_type_68 : decode cX9_type 68 = .ok (.iconst 4, 1) := by decide +kernel
theorem dX9_type_69 : decode cX9_type 69 = .ok (.goto 4, 3) := by decide +kernel
theorem dX9_type_72 : decode cX9_type 72 = .ok (.iconst 5, 1) := by decide +kernel
theorem dX9_type_73 : decode cX9_type 73 = .ok (.ireturn, 1) := by decide +kernel
theorem dX9_type_74 : decode cX9_type 74 = .ok (.bipush 6, 2) := by decide +kernel
theorem dX9_type_76 : decode cX9_type 76 = .ok (.ireturn, 1) := by decide +kernel
theorem dX9_trace_0 : decode cX9_trace 0 = .ok (.iconst 0, 1) := by decide +kernel
theorem dX9_trace_1 : decode cX9_trace 1 = .ok (.istore_n 2, 1) := by decide +kernel
theorem dX9_trace_2 : decode cX9_trace 2 = .ok (.iconst 0, 1) := by decide +kernel
theorem dX9_trace_3 : decode cX9_trace 3 = .ok (.istore_n 3, 1) := by decide +kernel
theorem dX9_trace_4 : decode cX9_trace 4 = .ok (.iload_n 3, 1) := by decide +kernel
theorem dX9_trace_5 : decode cX9_trace 5 = .ok (.bipush 21, 2) := by decide +kernel
theorem dX9_trace_7 : decode cX9_trace 7 = .ok (.if_icmp .ge 25, 3) := by decide +kernel
theorem dX9_trace_10 : decode cX9_trace 10 = .ok (.aload_n 0, 1) := by decide +kernel
theorem dX9_trace_11 : decode cX9_trace 11 = .ok (.getfield 46, 3) := by decide +kernel
theorem dX9_trace_14 : decode cX9_trace 14 = .ok (.iload_n 3, 1) := by decide +kernel
theorem dX9_trace_15 : decode cX9_trace 15 = .ok (.iload_n 2, 1) := by decide +kernel
theorem dX9_trace_16 : decode cX9_trace 16 = .ok (.iastore, 1) := by decide +kernel
theorem dX9_trace_17 : decode cX9_trace 17 = .ok (.iload_n 2, 1) := by decide +kernel
theorem dX9_trace_18 : decode cX9_trace 18 = .ok (.aload_n 1, 1) := by decide +kernel
theorem dX9_trace_19 : decode cX9_trace 19 = .ok (.getfield 129, 3) := by decide +kernel
theorem dX9_trace_22 : decode cX9_trace 22 = .ok (.iload_n 3, 1) := by decide +kernel
theorem dX9_trace_23 : decode cX9_trace 23 = .ok (.iaload, 1) := by decide +kernel
theorem dX9_trace_24 : decode cX9_trace 24 = .ok (.iadd, 1) := by decide +kernel
theorem dX9_trace_25 : decode cX9_trace 25 = .ok (.istore_n 2, 1) := by decide +kernel
theorem dX9_trace_26 : decode cX9_trace 26 = .ok (.iinc 3 1, 3) := by decide +kernel
theorem dX9_trace_29 : decode cX9_trace 29 = .ok (.goto (-25), 3) := by decide +kernel
theorem dX9_trace_32 : decode cX9_trace 32 = .ok (.aload_n 0, 1) := by decide +kernel
theorem dX9_trace_33 : decode cX9_trace 33 = .ok (.getfield 39, 3) := by decide +kernel
theorem dX9_trace_36 : decode cX9_trace 36 = .ok (.iload_n 2, 1) := by decide +kernel
theorem dX9_trace_37 : decode cX9_trace 37 = .ok (.invokevirtual 132, 3) := by decide +kernel
theorem dX9_trace_40 : decode cX9_trace 40 = .ok (.aload_n 0, 1) := by decide +kernel
theorem dX9_trace_41 : decode cX9_trace 41 = .ok (.getfield 43, 3) := by decide +kernel
theorem dX9_trace_44 : decode cX9_trace 44 = .ok (.iconst 2, 1) := by decide +kernel
theorem dX9_trace_45 : decode cX9_trace 45 = .ok (.iload_n 2, 1) := by decide +kernel
theorem dX9_trace_46 : decode cX9_trace 46 = .ok (.imul, 1) := by decide +kernel
theorem dX9_trace_47 : decode cX9_trace 47 = .ok (.invokevirtual 132, 3) := by decide +kernel
theorem dX9_trace_50 : decode cX9_trace 50 = .ok (.iconst 0, 1) := by decide +kernel
theorem dX9_trace_51 : decode cX9_trace 51 = .ok (.istore_n 3, 1) := by decide +kernel
theorem dX9_trace_52 : decode cX9_trace 52 = .ok (.iload_n 3, 1) := by decide +kernel
theorem dX9_trace_53 : decode cX9_trace 53 = .ok (.aload_n 0, 1) := by decide +kernel
theorem dX9_trace_54 : decode cX9_trace 54 = .ok (.getfield 12, 3) := by decide +kernel
theorem dX9_trace_57 : decode cX9_trace 57 = .ok (.invokevirtual 116, 3) := by decide +kernel
theorem dX9_trace_60 : decode cX9_trace 60 = .ok (.if_icmp .ge 26, 3) := by decide +kernel
theorem dX9_trace_63 : decode cX9_trace 63 = .ok (.aload_n 0, 1) := by decide +kernel
theorem dX9_trace_64 : decode cX9_trace 64 = .ok (.getfield 12, 3) := by decide +kernel
theorem dX9_trace_67 : decode cX9_trace 67 = .ok (.iload_n 3, 1) := by decide +kernel
theorem dX9_trace_68 : decode cX9_trace 68 = .ok (.invokevirtual 122, 3) := by decide +kernel
theorem dX9_trace_71 : decode cX9_trace 71 = .ok (.ifCond .eq 9, 3) := by decide +kernel
theorem dX9_trace_74 : decode cX9_trace 74 = .ok (.aload_n 0, 1) := by decide +kernel
theorem dX9_trace_75 : decode cX9_trace 75 = .ok (.aload_n 1, 1) := by decide +kernel
theorem dX9_trace_76 : decode cX9_trace 76 = .ok (.iload_n 3, 1) := by decide +kernel
theorem dX9_trace_77 : decode cX9_trace 77 = .ok (.invokevirtual 135, 3) := by decide +kernel
theorem dX9_trace_80 : decode cX9_trace 80 = .ok (.iinc 3 1, 3) := by decide +kernel
theorem dX9_trace_83 : decode cX9_trace 83 = .ok (.goto (-31), 3) := by decide +kernel
theorem dX9_trace_86 : decode cX9_trace 86 = .ok (.aload_n 0, 1) := by decide +kernel
theorem dX9_trace_87 : decode cX9_trace 87 = .ok (.aload_n 0, 1) := by decide +kernel
theorem dX9_trace_88 : decode cX9_trace 88 = .ok (.getfield 39, 3) := by decide +kernel
theorem dX9_trace_91 : decode cX9_trace 91 = .ok (.invokevirtual 139, 3) := by decide +kernel
theorem dX9_trace_94 : decode cX9_trace 94 = .ok (.putfield 95, 3) := by decide +kernel
theorem dX9_trace_97 : decode cX9_trace 97 = .ok (.aload_n 0, 1) := by decide +kernel
theorem dX9_trace_98 : decode cX9_trace 98 = .ok (.aload_n 0, 1) := by decide +kernel
theorem dX9_trace_99 : decode cX9_trace 99 = .ok (.getfield 43, 3) := by decide +kernel
theorem dX9_trace_102 : decode cX9_trace 102 = .ok (.invokevirtual 139, 3) := by decide +kernel
theorem dX9_trace_105 : decode cX9_trace 105 = .ok (.aload_n 0, 1) := by decide +kernel
theorem dX9_trace_106 : decode cX9_trace 106 = .ok (.getfield 95, 3) := by decide +kernel
theorem dX9_trace_109 : decode cX9_trace 109 = .ok (.isub, 1) := by decide +kernel
theorem dX9_trace_110 : decode cX9_trace 110 = .ok (.putfield 99, 3) := by decide +kernel
theorem dX9_trace_113 : decode cX9_trace 113 = .ok (.return_, 1) := by decide +kernel
theorem dX9_joinPieces_0 : decode cX9_joinPieces 0 = .ok (.iconst 0, 1) := by decide +kernel
theorem dX9_joinPieces_1 : decode cX9_joinPieces 1 = .ok (.istore_n 3, 1) := by decide +kernel
theorem dX9_joinPieces_2 : decode cX9_joinPieces 2 = .ok (.iload_n 3, 1) := by decide +kernel
theorem dX9_joinPieces_3 : decode cX9_joinPieces 3 = .ok (.iconst 4, 1) := by decide +kernel
theorem dX9_joinPieces_4 : decode cX9_joinPieces 4 = .ok (.if_icmp .ge 131, 3) := by decide +kernel
theorem dX9_joinPieces_7 : decode cX9_joinPieces 7 = .ok (.aload_n 0, 1) := by decide +kernel
theorem dX9_joinPieces_8 : decode cX9_joinPieces 8 = .ok (.getfield 12, 3) := by decide +kernel
theorem dX9_joinPieces_11 : decode cX9_joinPieces 11 = .ok (.iload_n 2, 1) := by decide +kernel
theorem dX9_joinPieces_12 : decode cX9_joinPieces 12 = .ok (.iload_n 3, 1) := by decide +kernel
theorem dX9_joinPieces_13 : decode cX9_joinPieces 13 = .ok (.invokevirtual 142, 3) := by decide +kernel
theorem dX9_joinPieces_16 : decode cX9_joinPieces 16 = .ok (.istore 4, 2) := by decide +kernel
theorem dX9_joinPieces_18 : decode cX9_joinPieces 18 = .ok (.iload 4, 2) := by decide +kernel
theorem dX9_joinPieces_20 : decode cX9_joinPieces 20 = .ok (.ifCond .ge 6, 3) := by decide +kernel
theorem dX9_joinPieces_23 : decode cX9_joinPieces 23 = .ok (.goto 106, 3) := by decide +kernel
theorem dX9_joinPieces_26 : decode cX9_joinPieces 26 = .ok (.aload_n 1, 1) := by decide +kernel
theorem dX9_joinPieces_27 : decode cX9_joinPieces 27 = .ok (.iload_n 2, 1) := by decide +kernel
theorem dX9_joinPieces_28 : decode cX9_joinPieces 28 = .ok (.iconst 4, 1) := by decide +kernel
theorem dX9_joinPieces_29 : decode cX9_joinPieces 29 = .ok (.idiv, 1) := by decide +kernel
theorem dX9_joinPieces_30 : decode cX9_joinPieces 30 = .ok (.iload_n 2, 1) := by decide +kernel
theorem dX9_joinPieces_31 : decode cX9_joinPieces 31 = .ok (.iconst 4, 1) := by decide +kernel
theorem dX9_joinPieces_32 : decode cX9_joinPieces 32 = .ok (.irem, 1) := by decide +kernel
theorem dX9_joinPieces_33 : decode cX9_joinPieces 33 = .ok (.iload_n 3, 1) := by decide +kernel
theorem dX9_joinPieces_34 : decode cX9_joinPieces 34 = .ok (.invokevirtual 145, 3) := by decide +kernel
theorem dX9_joinPieces_37 : decode cX9_joinPieces 37 = .ok (.istore 5, 2) := by decide +kernel
theorem dX9_joinPieces_39 : decode cX9_joinPieces 39 = .ok (.iconst 0, 1) := by decide +kernel
theorem dX9_joinPieces_40 : decode cX9_joinPieces 40 = .ok (.istore 6, 2) := by decide +kernel
theorem dX9_joinPieces_42 : decode cX9_joinPieces 42 = .ok (.iload 6, 2) := by decide +kernel
theorem dX9_joinPieces_44 : decode cX9_joinPieces 44 = .ok (.iload 5, 2) := by decide +kernel
theorem dX9_joinPieces_46 : decode cX9_joinPieces 46 = .ok (.if_icmp .ge 83, 3) := by decide +kernel
theorem dX9_joinPieces_49 : decode cX9_joinPieces 49 = .ok (.aload_n 0, 1) := by decide +kernel
theorem dX9_joinPieces_50 : decode cX9_joinPieces 50 = .ok (.aload_n 1, 1) := by decide +kernel
theorem dX9_joinPieces_51 : decode cX9_joinPieces 51 = .ok (.iload_n 2, 1) := by decide +kernel
theorem dX9_joinPieces_52 : decode cX9_joinPieces 52 = .ok (.iload_n 3, 1) := by decide +kernel
theorem dX9_joinPieces_53 : decode cX9_joinPieces 53 = .ok (.iload 6, 2) := by decide +kernel
theorem dX9_joinPieces_55 : decode cX9_joinPieces 55 = .ok (.invokevirtual 149, 3) := by decide +kernel
theorem dX9_joinPieces_58 : decode cX9_joinPieces 58 = .ok (.istore 7, 2) := by decide +kernel
theorem dX9_joinPieces_60 : decode cX9_joinPieces 60 = .ok (.aload_n 0, 1) := by decide +kernel
theorem dX9_joinPieces_61 : decode cX9_joinPieces 61 = .ok (.aload_n 1, 1) := by decide +kernel
theorem dX9_joinPieces_62 : decode cX9_joinPieces 62 = .ok (.aload_n 0, 1) := by decide +kernel
theorem dX9_joinPieces_63 : decode cX9_joinPieces 63 = .ok (.getfield 12, 3) := by decide +kernel
theorem dX9_joinPieces_66 : decode cX9_joinPieces 66 = .ok (.getfield 119, 3) := by decide +kernel
theorem dX9_joinPieces_69 : decode cX9_joinPieces 69 = .ok (.iload_n 2, 1) := by decide +kernel
theorem dX9_joinPieces_70 : decode cX9_joinPieces 70 = .ok (.iaload, 1) := by decide +kernel
theorem dX9_joinPieces_71 : decode cX9_joinPieces 71 = .ok (.iload 4, 2) := by decide +kernel
theorem dX9_joinPieces_73 : decode cX9_joinPieces 73 = .ok (.iconst 4, 1) := by decide +kernel
theorem dX9_joinPieces_74 : decode cX9_joinPieces 74 = .ok (.irem, 1) := by decide +kernel
theorem dX9_joinPieces_75 : decode cX9_joinPieces 75 = .ok (.iload 6, 2) := by decide +kernel
theorem dX9_joinPieces_77 : decode cX9_joinPieces 77 = .ok (.invokevirtual 149, 3) := by decide +kernel
theorem dX9_joinPieces_80 : decode cX9_joinPieces 80 = .ok (.istore 8, 2) := by decide +kernel
theorem dX9_joinPieces_82 : decode cX9_joinPieces 82 = .ok (.aload_n 0, 1) := by decide +kernel
theorem dX9_joinPieces_83 : decode cX9_joinPieces 83 = .ok (.getfield 39, 3) := by decide +kernel
theorem dX9_joinPieces_86 : decode cX9_joinPieces 86 = .ok (.iload 7, 2) := by decide +kernel
theorem dX9_joinPieces_88 : decode cX9_joinPieces 88 = .ok (.iconst 2, 1) := by decide +kernel
theorem dX9_joinPieces_89 : decode cX9_joinPieces 89 = .ok (.idiv, 1) := by decide +kernel
theorem dX9_joinPieces_90 : decode cX9_joinPieces 90 = .ok (.iload 8, 2) := by decide +kernel
theorem dX9_joinPieces_92 : decode cX9_joinPieces 92 = .ok (.iconst 2, 1) := by decide +kernel
theorem dX9_joinPieces_93 : decode cX9_joinPieces 93 = .ok (.idiv, 1) := by decide +kernel
theorem dX9_joinPieces_94 : decode cX9_joinPieces 94 = .ok (.invokevirtual 153, 3) := by decide +kernel
theorem dX9_joinPieces_97 : decode cX9_joinPieces 97 = .ok (.aload_n 0, 1) := by decide +kernel
theorem dX9_joinPieces_98 : decode cX9_joinPieces 98 = .ok (.getfield 43, 3) := by decide +kernel
theorem dX9_joinPieces_101 : decode cX9_joinPieces 101 = .ok (.iload 7, 2) := by decide +kernel
theorem dX9_joinPieces_103 : decode cX9_joinPieces 103 = .ok (.iload 8, 2) := by decide +kernel
theorem dX9_joinPieces_105 : decode cX9_joinPieces 105 = .ok (.invokevirtual 153, 3) := by decide +kernel
theorem dX9_joinPieces_108 : decode cX9_joinPieces 108 = .ok (.aload_n 0, 1) := by decide +kernel
theorem dX9_joinPieces_109 : decode cX9_joinPieces 109 = .ok (.getfield 43, 3) := by decide +kernel
theorem dX9_joinPieces_112 : decode cX9_joinPieces 112 = .ok (.iload 7, 2) := by decide +kernel
theorem dX9_joinPieces_114 : decode cX9_joinPieces 114 = .ok (.iconst 1, 1) := by decide +kernel
theorem dX9_joinPieces_115 : decode cX9_joinPieces 115 = .ok (.ixor, 1) := by decide +kernel
theorem dX9_joinPieces_116 : decode cX9_joinPieces 116 = .ok (.iload 8, 2) := by decide +kernel
theorem dX9_joinPieces_118 : decode cX9_joinPieces 118 = .ok (.iconst 1, 1) := by decide +kernel
theorem dX9_joinPieces_119 : decode cX9_joinPieces 119 = .ok (.ixor, 1) := by decide +kernel
theorem dX9_joinPieces_120 : decode cX9_joinPieces 120 = .ok (.invokevirtual 153, 3) := by decide +kernel
theorem dX9_joinPieces_123 : decode cX9_joinPieces 123 = .ok (.iinc 6 1, 3) := by decide +kernel
theorem dX9_joinPieces_126 : decode cX9_joinPieces 126 = .ok (.goto (-84), 3) := by decide +kernel
theorem dX9_joinPieces_129 : decode cX9_joinPieces 129 = .ok (.iinc 3 1, 3) := by decide +kernel
theorem dX9_joinPieces_132 : decode cX9_joinPieces 132 = .ok (.goto (-130), 3) := by decide +kernel
theorem dX9_joinPieces_135 : decode cX9_joinPieces 135 = .ok (.return_, 1) := by decide +kernel
theorem dX9_sideAt_0 : decode cX9_sideAt 0 = .ok (.iload_n 2, 1) := by decide +kernel
theorem dX9_sideAt_1 : decode cX9_sideAt 1 = .ok (.iconst 4, 1) := by decide +kernel
theorem dX9_sideAt_2 : decode cX9_sideAt 2 = .ok (.idiv, 1) := by decide +kernel
theorem dX9_sideAt_3 : decode cX9_sideAt 3 = .ok (.istore 5, 2) := by decide +kernel
theorem dX9_sideAt_5 : decode cX9_sideAt 5 = .ok (.iload_n 2, 1) := by decide +kernel
theorem dX9_sideAt_6 : decode cX9_sideAt 6 = .ok (.iconst 4, 1) := by decide +kernel
theorem dX9_sideAt_7 : decode cX9_sideAt 7 = .ok (.irem, 1) := by decide +kernel
theorem dX9_sideAt_8 : decode cX9_sideAt 8 = .ok (.istore 6, 2) := by decide +kernel
theorem dX9_sideAt_10 : decode cX9_sideAt 10 = .ok (.aload_n 1, 1) := by decide +kernel
theorem dX9_sideAt_11 : decode cX9_sideAt 11 = .ok (.getfield 129, 3) := by decide +kernel
theorem dX9_sideAt_14 : decode cX9_sideAt 14 = .ok (.bipush 7, 2) := by decide +kernel
theorem dX9_sideAt_16 : decode cX9_sideAt 16 = .ok (.iload 5, 2) := by decide +kernel
theorem dX9_sideAt_18 : decode cX9_sideAt 18 = .ok (.imul, 1) := by decide +kernel
theorem dX9_sideAt_19 : decode cX9_sideAt 19 = .ok (.iload_n 3, 1) := by decide +kernel
theorem dX9_sideAt_20 : decode cX9_sideAt 20 = .ok (.iadd, 1) := by decide +kernel
theorem dX9_sideAt_21 : decode cX9_sideAt 21 = .ok (.iaload, 1) := by decide +kernel
theorem dX9_sideAt_22 : decode cX9_sideAt 22 = .ok (.istore 7, 2) := by decide +kernel
theorem dX9_sideAt_24 : decode cX9_sideAt 24 = .ok (.iload 4, 2) := by decide +kernel
theorem dX9_sideAt_26 : decode cX9_sideAt 26 = .ok (.iload 7, 2) := by decide +kernel
theorem dX9_sideAt_28 : decode cX9_sideAt 28 = .ok (.if_icmp .ge 21, 3) := by decide +kernel
theorem dX9_sideAt_31 : decode cX9_sideAt 31 = .ok (.iconst 2, 1) := by decide +kernel
theorem dX9_sideAt_32 : decode cX9_sideAt 32 = .ok (.aload_n 0, 1) := by decide +kernel
theorem dX9_sideAt_33 : decode cX9_sideAt 33 = .ok (.getfield 46, 3) := by decide +kernel
theorem dX9_sideAt_36 : decode cX9_sideAt 36 = .ok (.bipush 7, 2) := by decide +kernel
theorem dX9_sideAt_38 : decode cX9_sideAt 38 = .ok (.iload 5, 2) := by decide +kernel
theorem dX9_sideAt_40 : decode cX9_sideAt 40 = .ok (.imul, 1) := by decide +kernel
theorem dX9_sideAt_41 : decode cX9_sideAt 41 = .ok (.iload_n 3, 1) := by decide +kernel
theorem dX9_sideAt_42 : decode cX9_sideAt 42 = .ok (.iadd, 1) := by decide +kernel
theorem dX9_sideAt_43 : decode cX9_sideAt 43 = .ok (.iaload, 1) := by decide +kernel
theorem dX9_sideAt_44 : decode cX9_sideAt 44 = .ok (.iload 4, 2) := by decide +kernel
theorem dX9_sideAt_46 : decode cX9_sideAt 46 = .ok (.iadd, 1) := by decide +kernel
theorem dX9_sideAt_47 : decode cX9_sideAt 47 = .ok (.imul, 1) := by decide +kernel
theorem dX9_sideAt_48 : decode cX9_sideAt 48 = .ok (.ireturn, 1) := by decide +kernel
theorem dX9_sideAt_49 : decode cX9_sideAt 49 = .ok (.bipush 7, 2) := by decide +kernel
theorem dX9_sideAt_51 : decode cX9_sideAt 51 = .ok (.iload 5, 2) := by decide +kernel
theorem dX9_sideAt_53 : decode cX9_sideAt 53 = .ok (.imul, 1) := by decide +kernel
theorem dX9_sideAt_54 : decode cX9_sideAt 54 = .ok (.iload_n 3, 1) := by decide +kernel
theorem dX9_sideAt_55 : decode cX9_sideAt 55 = .ok (.iload 6, 2) := by decide +kernel
theorem dX9_sideAt_57 : decode cX9_sideAt 57 = .ok (.invokestatic 157, 3) := by decide +kernel
theorem dX9_sideAt_60 : decode cX9_sideAt 60 = .ok (.iadd, 1) := by decide +kernel
theorem dX9_sideAt_61 : decode cX9_sideAt 61 = .ok (.istore 8, 2) := by decide +kernel
theorem dX9_sideAt_63 : decode cX9_sideAt 63 = .ok (.iload 4, 2) := by decide +kernel
theorem dX9_sideAt_65 : decode cX9_sideAt 65 = .ok (.iload 7, 2) := by decide +kernel
theorem dX9_sideAt_67 : decode cX9_sideAt 67 = .ok (.isub, 1) := by decide +kernel
theorem dX9_sideAt_68 : decode cX9_sideAt 68 = .ok (.istore 9, 2) := by decide +kernel
theorem dX9_sideAt_70 : decode cX9_sideAt 70 = .ok (.iload_n 3, 1) := by decide +kernel
theorem dX9_sideAt_71 : decode cX9_sideAt 71 = .ok (.ifCond .eq 8, 3) := by decide +kernel
theorem dX9_sideAt_74 : decode cX9_sideAt 74 = .ok (.iload 6, 2) := by decide +kernel
theorem dX9_sideAt_76 : decode cX9_sideAt 76 = .ok (.ifCond .ne 16, 3) := by decide +kernel
theorem dX9_sideAt_79 : decode cX9_sideAt 79 = .ok (.iconst 2, 1) := by decide +kernel
theorem dX9_sideAt_80 : decode cX9_sideAt 80 = .ok (.aload_n 0, 1) := by decide +kernel
theorem dX9_sideAt_81 : decode cX9_sideAt 81 = .ok (.getfield 46, 3) := by decide +kernel
theorem dX9_sideAt_84 : decode cX9_sideAt 84 = .ok (.iload 8, 2) := by decide +kernel
theorem dX9_sideAt_86 : decode cX9_sideAt 86 = .ok (.iaload, 1) := by decide +kernel
theorem dX9_sideAt_87 : decode cX9_sideAt 87 = .ok (.iload 9, 2) := by decide +kernel
theorem dX9_sideAt_89 : decode cX9_sideAt 89 = .ok (.iadd, 1) := by decide +kernel
theorem dX9_sideAt_90 : decode cX9_sideAt 90 = .ok (.imul, 1) := by decide +kernel
theorem dX9_sideAt_91 : decode cX9_sideAt 91 = .ok (.ireturn, 1) := by decide +kernel
theorem dX9_sideAt_92 : decode cX9_sideAt 92 = .ok (.iconst 2, 1) := by decide +kernel
theorem dX9_sideAt_93 : decode cX9_sideAt 93 = .ok (.aload_n 0, 1) := by decide +kernel
theorem dX9_sideAt_94 : decode cX9_sideAt 94 = .ok (.getfield 46, 3) := by decide +kernel
theorem dX9_sideAt_97 : decode cX9_sideAt 97 = .ok (.iload 8, 2) := by decide +kernel
theorem dX9_sideAt_99 : decode cX9_sideAt 99 = .ok (.iaload, 1) := by decide +kernel
theorem dX9_sideAt_100 : decode cX9_sideAt 100 = .ok (.aload_n 1, 1) := by decide +kernel
theorem dX9_sideAt_101 : decode cX9_sideAt 101 = .ok (.getfield 129, 3) := by decide +kernel
theorem dX9_sideAt_104 : decode cX9_sideAt 104 = .ok (.iload 8, 2) := by decide +kernel
theorem dX9_sideAt_106 : decode cX9_sideAt 106 = .ok (.iaload, 1) := by decide +kernel
theorem dX9_sideAt_107 : decode cX9_sideAt 107 = .ok (.iadd, 1) := by decide +kernel
theorem dX9_sideAt_108 : decode cX9_sideAt 108 = .ok (.iconst 1, 1) := by decide +kernel
theorem dX9_sideAt_109 : decode cX9_sideAt 109 = .ok (.isub, 1) := by decide +kernel
theorem dX9_sideAt_110 : decode cX9_sideAt 110 = .ok (.iload 9, 2) := by decide +kernel
theorem dX9_sideAt_112 : decode cX9_sideAt 112 = .ok (.isub, 1) := by decide +kernel
theorem dX9_sideAt_113 : decode cX9_sideAt 113 = .ok (.imul, 1) := by decide +kernel
theorem dX9_sideAt_114 : decode cX9_sideAt 114 = .ok (.iconst 1, 1) := by decide +kernel
theorem dX9_sideAt_115 : decode cX9_sideAt 115 = .ok (.iadd, 1) := by decide +kernel
theorem dX9_sideAt_116 : decode cX9_sideAt 116 = .ok (.ireturn, 1) := by decide +kernel
theorem dX9_fillLink_0 : decode cX9_fillLink 0 = .ok (.aload_n 2, 1) := by decide +kernel
theorem dX9_fillLink_1 : decode cX9_fillLink 1 = .ok (.invokevirtual 160, 3) := by decide +kernel
theorem dX9_fillLink_4 : decode cX9_fillLink 4 = .ok (.iconst 0, 1) := by decide +kernel
theorem dX9_fillLink_5 : decode cX9_fillLink 5 = .ok (.istore_n 3, 1) := by decide +kernel
theorem dX9_fillLink_6 : decode cX9_fillLink 6 = .ok (.iload_n 3, 1) := by decide +kernel
theorem dX9_fillLink_7 : decode cX9_fillLink 7 = .ok (.iconst 4, 1) := by decide +kernel
theorem dX9_fillLink_8 : decode cX9_fillLink 8 = .ok (.aload_n 0, 1) := by decide +kernel
theorem dX9_fillLink_9 : decode cX9_fillLink 9 = .ok (.getfield 12, 3) := by decide +kernel
theorem dX9_fillLink_12 : decode cX9_fillLink 12 = .ok (.getfield 163, 3) := by decide +kernel
theorem dX9_fillLink_15 : decode cX9_fillLink 15 = .ok (.imul, 1) := by decide +kernel
theorem dX9_fillLink_16 : decode cX9_fillLink 16 = .ok (.if_icmp .ge 38, 3) := by decide +kernel
theorem dX9_fillLink_19 : decode cX9_fillLink 19 = .ok (.aload_n 0, 1) := by decide +kernel
theorem dX9_fillLink_20 : decode cX9_fillLink 20 = .ok (.getfield 21, 3) := by decide +kernel
theorem dX9_fillLink_23 : decode cX9_fillLink 23 = .ok (.getfield 166, 3) := by decide +kernel
theorem dX9_fillLink_26 : decode cX9_fillLink 26 = .ok (.iload_n 3, 1) := by decide +kernel
theorem dX9_fillLink_27 : decode cX9_fillLink 27 = .ok (.iaload, 1) := by decide +kernel
theorem dX9_fillLink_28 : decode cX9_fillLink 28 = .ok (.iload_n 1, 1) := by decide +kernel
theorem dX9_fillLink_29 : decode cX9_fillLink 29 = .ok (.if_icmp .ne 19, 3) := by decide +kernel
theorem dX9_fillLink_32 : decode cX9_fillLink 32 = .ok (.aload_n 2, 1) := by decide +kernel
theorem dX9_fillLink_33 : decode cX9_fillLink 33 = .ok (.getfield 129, 3) := by decide +kernel
theorem dX9_fillLink_36 : decode cX9_fillLink 36 = .ok (.bipush 7, 2) := by decide +kernel
theorem dX9_fillLink_38 : decode cX9_fillLink 38 = .ok (.iload_n 3, 1) := by decide +kernel
theorem dX9_fillLink_39 : decode cX9_fillLink 39 = .ok (.iconst 4, 1) := by decide +kernel
theorem dX9_fillLink_40 : decode cX9_fillLink 40 = .ok (.idiv, 1) := by decide +kernel
theorem dX9_fillLink_41 : decode cX9_fillLink 41 = .ok (.imul, 1) := by decide +kernel
theorem dX9_fillLink_42 : decode cX9_fillLink 42 = .ok (.iload_n 3, 1) := by decide +kernel
theorem dX9_fillLink_43 : decode cX9_fillLink 43 = .ok (.iconst 4, 1) := by decide +kernel
theorem dX9_fillLink_44 : decode cX9_fillLink 44 = .ok (.irem, 1) := by decide +kernel
theorem dX9_fillLink_45 : decode cX9_fillLink 45 = .ok (.iadd, 1) := by decide +kernel
theorem dX9_fillLink_46 : decode cX9_fillLink 46 = .ok (.iconst 1, 1) := by decide +kernel
theorem dX9_fillLink_47 : decode cX9_fillLink 47 = .ok (.iastore, 1) := by decide +kernel
theorem dX9_fillLink_48 : decode cX9_fillLink 48 = .ok (.iinc 3 1, 3) := by decide +kernel
theorem dX9_fillLink_51 : decode cX9_fillLink 51 = .ok (.goto (-45), 3) := by decide +kernel
theorem dX9_fillLink_54 : decode cX9_fillLink 54 = .ok (.return_, 1) := by decide +kernel
theorem dX9_isGood_0 : decode cX9_isGood 0 = .ok (.aload_n 0, 1) := by decide +kernel
theorem dX9_isGood_1 : decode cX9_isGood 1 = .ok (.iload_n 1, 1) := by decide +kernel
theorem dX9_isGood_2 : decode cX9_isGood 2 = .ok (.aload_n 0, 1) := by decide +kernel
theorem dX9_isGood_3 : decode cX9_isGood 3 = .ok (.getfield 53, 3) := by decide +kernel
theorem dX9_isGood_6 : decode cX9_isGood 6 = .ok (.invokevirtual 169, 3) := by decide +kernel
theorem dX9_isGood_9 : decode cX9_isGood 9 = .ok (.aload_n 0, 1) := by decide +kernel
theorem dX9_isGood_10 : decode cX9_isGood 10 = .ok (.aload_n 0, 1) := by decide +kernel
theorem dX9_isGood_11 : decode cX9_isGood 11 = .ok (.getfield 53, 3) := by decide +kernel
theorem dX9_isGood_14 : decode cX9_isGood 14 = .ok (.invokevirtual 91, 3) := by decide +kernel
theorem dX9_isGood_17 : decode cX9_isGood 17 = .ok (.aload_n 0, 1) := by decide +kernel
theorem dX9_isGood_18 : decode cX9_isGood 18 = .ok (.aload_n 0, 1) := by decide +kernel
theorem dX9_isGood_19 : decode cX9_isGood 19 = .ok (.getfield 53, 3) := by decide +kernel
theorem dX9_isGood_22 : decode cX9_isGood 22 = .ok (.invokevirtual 82, 3) := by decide +kernel
theorem dX9_isGood_25 : decode cX9_isGood 25 = .ok (.ifCond .le 7, 3) := by decide +kernel
theorem dX9_isGood_28 : decode cX9_isGood 28 = .ok (.iconst 1, 1) := by decide +kernel
theorem dX9_isGood_29 : decode cX9_isGood 29 = .ok (.goto 4, 3) := by decide +kernel
theorem dX9_isGood_32 : decode cX9_isGood 32 = .ok (.iconst 2, 1) := by decide +kernel
theorem dX9_isGood_33 : decode cX9_isGood 33 = .ok (.istore_n 2, 1) := by decide +kernel
theorem dX9_isGood_34 : decode cX9_isGood 34 = .ok (.aload_n 0, 1) := by decide +kernel
theorem dX9_isGood_35 : decode cX9_isGood 35 = .ok (.getfield 95, 3) := by decide +kernel
theorem dX9_isGood_38 : decode cX9_isGood 38 = .ok (.iconst 1, 1) := by decide +kernel
theorem dX9_isGood_39 : decode cX9_isGood 39 = .ok (.if_icmp .ne 19, 3) := by decide +kernel
theorem dX9_isGood_42 : decode cX9_isGood 42 = .ok (.aload_n 0, 1) := by decide +kernel
theorem dX9_isGood_43 : decode cX9_isGood 43 = .ok (.aload_n 0, 1) := by decide +kernel
theorem dX9_isGood_44 : decode cX9_isGood 44 = .ok (.getfield 53, 3) := by decide +kernel
theorem dX9_isGood_47 : decode cX9_isGood 47 = .ok (.invokevirtual 78, 3) := by decide +kernel
theorem dX9_isGood_50 : decode cX9_isGood 50 = .ok (.iload_n 2, 1) := by decide +kernel
theorem dX9_isGood_51 : decode cX9_isGood 51 = .ok (.if_icmp .ne 7, 3) := by decide +kernel
theorem dX9_isGood_54 : decode cX9_isGood 54 = .ok (.iconst 1, 1) := by decide +kernel
theorem dX9_isGood_55 : decode cX9_isGood 55 = .ok (.goto 4, 3) := by decide +kernel
theorem dX9_isGood_58 : decode cX9_isGood 58 = .ok (.iconst 0, 1) := by decide +kernel
theorem dX9_isGood_59 : decode cX9_isGood 59 = .ok (.ireturn, 1) := by decide +kernel
theorem dX9_goodVertices_0 : decode cX9_goodVertices 0 = .ok (.iconst 0, 1) := by decide +kernel
theorem dX9_goodVertices_1 : decode cX9_goodVertices 1 = .ok (.istore_n 1, 1) := by decide +kernel
theorem dX9_goodVertices_2 : decode cX9_goodVertices 2 = .ok (.iconst 0, 1) := by decide +kernel
theorem dX9_goodVertices_3 : decode cX9_goodVertices 3 = .ok (.istore_n 2, 1) := by decide +kernel
theorem dX9_goodVertices_4 : decode cX9_goodVertices 4 = .ok (.iload_n 2, 1) := by decide +kernel
theorem dX9_goodVertices_5 : decode cX9_goodVertices 5 = .ok (.aload_n 0, 1) := by decide +kernel
theorem dX9_goodVertices_6 : decode cX9_goodVertices 6 = .ok (.getfield 21, 3) := by decide +kernel
theorem dX9_goodVertices_9 : decode cX9_goodVertices 9 = .ok (.getfield 173, 3) := by decide +kernel
theorem dX9_goodVertices_12 : decode cX9_goodVertices 12 = .ok (.if_icmp .ge 25, 3) := by decide +kernel
theorem dX9_goodVertices_15 : decode cX9_goodVertices 15 = .ok (.iload_n 1, 1) := by decide +kernel
theorem dX9_goodVertices_16 : decode cX9_goodVertices 16 = .ok (.aload_n 0, 1) := by decide +kernel
theorem dX9_goodVertices_17 : decode cX9_goodVertices 17 = .ok (.iload_n 2, 1) := by decide +kernel
theorem dX9_goodVertices_18 : decode cX9_goodVertices 18 = .ok (.invokevirtual 176, 3) := by decide +kernel
theorem dX9_goodVertices_21 : decode cX9_goodVertices 21 = .ok (.ifCond .eq 7, 3) := by decide +kernel
theorem dX9_goodVertices_24 : decode cX9_goodVertices 24 = .ok (.iconst 1, 1) := by decide +kernel
theorem dX9_goodVertices_25 : decode cX9_goodVertices 25 = .ok (.goto 4, 3) := by decide +kernel
theorem dX9_goodVertices_28 : decode cX9_goodVertices 28 = .ok (.iconst 0, 1) := by decide +kernel
theorem dX9_goodVertices_29 : decode cX9_goodVertices 29 = .ok (.iadd, 1) := by decide +kernel
theorem dX9_goodVertices_30 : decode cX9_goodVertices 30 = .ok (.istore_n 1, 1) := by decide +kernel
theorem dX9_goodVertices_31 : decode cX9_goodVertices 31 = .ok (.iinc 2 1, 3) := by decide +kernel
theorem dX9_goodVertices_34 : decode cX9_goodVertices 34 = .ok (.goto (-30), 3) := by decide +kernel
theorem dX9_goodVertices_37 : decode cX9_goodVertices 37 = .ok (.iload_n 1, 1) := by decide +kernel
theorem dX9_goodVertices_38 : decode cX9_goodVertices 38 = .ok (.ireturn, 1) := by decide +kernel
theorem dX9_wholeCharacteristic_0 : decode cX9_wholeCharacteristic 0 = .ok (.aload_n 0, 1) := by decide +kernel
theorem dX9_wholeCharacteristic_1 : decode cX9_wholeCharacteristic 1 = .ok (.getfield 12, 3) := by decide +kernel
theorem dX9_wholeCharacteristic_4 : decode cX9_wholeCharacteristic 4 = .ok (.invokevirtual 116, 3) := by decide +kernel
theorem dX9_wholeCharacteristic_7 : decode cX9_wholeCharacteristic 7 = .ok (.aload_n 0, 1) := by decide +kernel
theorem dX9_wholeCharacteristic_8 : decode cX9_wholeCharacteristic 8 = .ok (.getfield 12, 3) := by decide +kernel
theorem dX9_wholeCharacteristic_11 : decode cX9_wholeCharacteristic 11 = .ok (.invokevirtual 179, 3) := by decide +kernel
theorem dX9_wholeCharacteristic_14 : decode cX9_wholeCharacteristic 14 = .ok (.iadd, 1) := by decide +kernel
theorem dX9_wholeCharacteristic_15 : decode cX9_wholeCharacteristic 15 = .ok (.iconst 2, 1) := by decide +kernel
theorem dX9_wholeCharacteristic_16 : decode cX9_wholeCharacteristic 16 = .ok (.idiv, 1) := by decide +kernel
theorem dX9_wholeCharacteristic_17 : decode cX9_wholeCharacteristic 17 = .ok (.istore_n 1, 1) := by decide +kernel
theorem dX9_wholeCharacteristic_18 : decode cX9_wholeCharacteristic 18 = .ok (.aload_n 0, 1) := by decide +kernel
theorem dX9_wholeCharacteristic_19 : decode cX9_wholeCharacteristic 19 = .ok (.getfield 21, 3) := by decide +kernel
theorem dX9_wholeCharacteristic_22 : decode cX9_wholeCharacteristic 22 = .ok (.getfield 173, 3) := by decide +kernel
theorem dX9_wholeCharacteristic_25 : decode cX9_wholeCharacteristic 25 = .ok (.aload_n 0, 1) := by decide +kernel
theorem dX9_wholeCharacteristic_26 : decode cX9_wholeCharacteristic 26 = .ok (.getfield 21, 3) := by decide +kernel
theorem dX9_wholeCharacteristic_29 : decode cX9_wholeCharacteristic 29 = .ok (.getfield 106, 3) := by decide +kernel
theorem dX9_wholeCharacteristic_32 : decode cX9_wholeCharacteristic 32 = .ok (.isub, 1) := by decide +kernel
theorem dX9_wholeCharacteristic_33 : decode cX9_wholeCharacteristic 33 = .ok (.iload_n 1, 1) := by decide +kernel
theorem dX9_wholeCharacteristic_34 : decode cX9_wholeCharacteristic 34 = .ok (.iadd, 1) := by decide +kernel
theorem dX9_wholeCharacteristic_35 : decode cX9_wholeCharacteristic 35 = .ok (.aload_n 0, 1) := by decide +kernel
theorem dX9_wholeCharacteristic_36 : decode cX9_wholeCharacteristic 36 = .ok (.getfield 12, 3) := by decide +kernel
theorem dX9_wholeCharacteristic_39 : decode cX9_wholeCharacteristic 39 = .ok (.getfield 163, 3) := by decide +kernel
theorem dX9_wholeCharacteristic_42 : decode cX9_wholeCharacteristic 42 = .ok (.isub, 1) := by decide +kernel
theorem dX9_wholeCharacteristic_43 : decode cX9_wholeCharacteristic 43 = .ok (.ireturn, 1) := by decide +kernel
theorem dX9_splits_0 : decode cX9_splits 0 = .ok (.aload_n 1, 1) := by decide +kernel
theorem dX9_splits_1 : decode cX9_splits 1 = .ok (.invokestatic 182, 3) := by decide +kernel
theorem dX9_splits_4 : decode cX9_splits 4 = .ok (.istore_n 2, 1) := by decide +kernel
theorem dX9_splits_5 : decode cX9_splits 5 = .ok (.iload_n 2, 1) := by decide +kernel
theorem dX9_splits_6 : decode cX9_splits 6 = .ok (.sipush 6000, 3) := by decide +kernel
theorem dX9_splits_9 : decode cX9_splits 9 = .ok (.if_icmp .le 5, 3) := by decide +kernel
theorem dX9_splits_12 : decode cX9_splits 12 = .ok (.iconst (-1), 1) := by decide +kernel
theorem dX9_splits_13 : decode cX9_splits 13 = .ok (.ireturn, 1) := by decide +kernel
theorem dX9_splits_14 : decode cX9_splits 14 = .ok (.aload_n 0, 1) := by decide +kernel
theorem dX9_splits_15 : decode cX9_splits 15 = .ok (.getfield 28, 3) := by decide +kernel
theorem dX9_splits_18 : decode cX9_splits 18 = .ok (.aload_n 0, 1) := by decide +kernel
theorem dX9_splits_19 : decode cX9_splits 19 = .ok (.getfield 12, 3) := by decide +kernel
theorem dX9_splits_22 : decode cX9_splits 22 = .ok (.aload_n 1, 1) := by decide +kernel
theorem dX9_splits_23 : decode cX9_splits 23 = .ok (.invokevirtual 63, 3) := by decide +kernel
theorem dX9_splits_26 : decode cX9_splits 26 = .ok (.aload_n 0, 1) := by decide +kernel
theorem dX9_splits_27 : decode cX9_splits 27 = .ok (.aload_n 1, 1) := by decide +kernel
theorem dX9_splits_28 : decode cX9_splits 28 = .ok (.invokevirtual 185, 3) := by decide +kernel
theorem dX9_splits_31 : decode cX9_splits 31 = .ok (.aload_n 0, 1) := by decide +kernel
theorem dX9_splits_32 : decode cX9_splits 32 = .ok (.getfield 57, 3) := by decide +kernel
theorem dX9_splits_35 : decode cX9_splits 35 = .ok (.invokevirtual 160, 3) := by decide +kernel
theorem dX9_splits_38 : decode cX9_splits 38 = .ok (.iconst 1, 1) := by decide +kernel
theorem dX9_splits_39 : decode cX9_splits 39 = .ok (.istore_n 3, 1) := by decide +kernel
theorem dX9_splits_40 : decode cX9_splits 40 = .ok (.iconst 2, 1) := by decide +kernel
theorem dX9_splits_41 : decode cX9_splits 41 = .ok (.iload_n 3, 1) := by decide +kernel
theorem dX9_splits_42 : decode cX9_splits 42 = .ok (.imul, 1) := by decide +kernel
theorem dX9_splits_43 : decode cX9_splits 43 = .ok (.iload_n 2, 1) := by decide +kernel
theorem dX9_splits_44 : decode cX9_splits 44 = .ok (.if_icmp .ge 30, 3) := by decide +kernel
theorem dX9_splits_47 : decode cX9_splits 47 = .ok (.aload_n 0, 1) := by decide +kernel
theorem dX9_splits_48 : decode cX9_splits 48 = .ok (.aload_n 1, 1) := by decide +kernel
theorem dX9_splits_49 : decode cX9_splits 49 = .ok (.invokevirtual 188, 3) := by decide +kernel
theorem dX9_splits_52 : decode cX9_splits 52 = .ok (.aload_n 0, 1) := by decide +kernel
theorem dX9_splits_53 : decode cX9_splits 53 = .ok (.getfield 28, 3) := by decide +kernel
theorem dX9_splits_56 : decode cX9_splits 56 = .ok (.aload_n 0, 1) := by decide +kernel
theorem dX9_splits_57 : decode cX9_splits 57 = .ok (.getfield 57, 3) := by decide +kernel
theorem dX9_splits_60 : decode cX9_splits 60 = .ok (.invokevirtual 67, 3) := by decide +kernel
theorem dX9_splits_63 : decode cX9_splits 63 = .ok (.ifCond .eq 5, 3) := by decide +kernel
theorem dX9_splits_66 : decode cX9_splits 66 = .ok (.iconst 1, 1) := by decide +kernel
theorem dX9_splits_67 : decode cX9_splits 67 = .ok (.ireturn, 1) := by decide +kernel
theorem dX9_splits_68 : decode cX9_splits 68 = .ok (.iinc 3 1, 3) := by decide +kernel
theorem dX9_splits_71 : decode cX9_splits 71 = .ok (.goto (-31), 3) := by decide +kernel
theorem dX9_splits_74 : decode cX9_splits 74 = .ok (.iconst 0, 1) := by decide +kernel
theorem dX9_splits_75 : decode cX9_splits 75 = .ok (.ireturn, 1) := by decide +kernel
theorem dX9_countParts_0 : decode cX9_countParts 0 = .ok (.iconst 1, 1) := by decide +kernel
theorem dX9_countParts_1 : decode cX9_countParts 1 = .ok (.istore_n 1, 1) := by decide +kernel
theorem dX9_countParts_2 : decode cX9_countParts 2 = .ok (.iconst 0, 1) := by decide +kernel
theorem dX9_countParts_3 : decode cX9_countParts 3 = .ok (.istore_n 2, 1) := by decide +kernel
theorem dX9_countParts_4 : decode cX9_countParts 4 = .ok (.iload_n 2, 1) := by decide +kernel
theorem dX9_countParts_5 : decode cX9_countParts 5 = .ok (.bipush 21, 2) := by decide +kernel
theorem dX9_countParts_7 : decode cX9_countParts 7 = .ok (.if_icmp .ge 27, 3) := by decide +kernel
theorem dX9_countParts_10 : decode cX9_countParts 10 = .ok (.iload_n 1, 1) := by decide +kernel
theorem dX9_countParts_11 : decode cX9_countParts 11 = .ok (.sipush 6000, 3) := by decide +kernel
theorem dX9_countParts_14 : decode cX9_countParts 14 = .ok (.if_icmp .gt 20, 3) := by decide +kernel
theorem dX9_countParts_17 : decode cX9_countParts 17 = .ok (.iload_n 1, 1) := by decide +kernel
theorem dX9_countParts_18 : decode cX9_countParts 18 = .ok (.aload_n 0, 1) := by decide +kernel
theorem dX9_countParts_19 : decode cX9_countParts 19 = .ok (.getfield 129, 3) := by decide +kernel
theorem dX9_countParts_22 : decode cX9_countParts 22 = .ok (.iload_n 2, 1) := by decide +kernel
theorem dX9_countParts_23 : decode cX9_countParts 23 = .ok (.iaload, 1) := by decide +kernel
theorem dX9_countParts_24 : decode cX9_countParts 24 = .ok (.iconst 1, 1) := by decide +kernel
theorem dX9_countParts_25 : decode cX9_countParts 25 = .ok (.iadd, 1) := by decide +kernel
theorem dX9_countParts_26 : decode cX9_countParts 26 = .ok (.imul, 1) := by decide +kernel
theorem dX9_countParts_27 : decode cX9_countParts 27 = .ok (.istore_n 1, 1) := by decide +kernel
theorem dX9_countParts_28 : decode cX9_countParts 28 = .ok (.iinc 2 1, 3) := by decide +kernel
theorem dX9_countParts_31 : decode cX9_countParts 31 = .ok (.goto (-27), 3) := by decide +kernel
theorem dX9_countParts_34 : decode cX9_countParts 34 = .ok (.iload_n 1, 1) := by decide +kernel
theorem dX9_countParts_35 : decode cX9_countParts 35 = .ok (.ireturn, 1) := by decide +kernel
theorem dX9_listUsed_0 : decode cX9_listUsed 0 = .ok (.aload_n 0, 1) := by decide +kernel
theorem dX9_listUsed_1 : decode cX9_listUsed 1 = .ok (.iconst 0, 1) := by decide +kernel
theorem dX9_listUsed_2 : decode cX9_listUsed 2 = .ok (.putfield 191, 3) := by decide +kernel
