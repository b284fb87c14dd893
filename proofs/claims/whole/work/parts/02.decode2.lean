theorem dX9_listUsed_5 : decode cX9_listUsed 5 = .ok (.iconst 0, 1) := by decide +kernel
theorem dX9_listUsed_6 : decode cX9_listUsed 6 = .ok (.istore_n 2, 1) := by decide +kernel
theorem dX9_listUsed_7 : decode cX9_listUsed 7 = .ok (.iload_n 2, 1) := by decide +kernel
theorem dX9_listUsed_8 : decode cX9_listUsed 8 = .ok (.bipush 21, 2) := by decide +kernel
theorem dX9_listUsed_10 : decode cX9_listUsed 10 = .ok (.if_icmp .ge 38, 3) := by decide +kernel
theorem dX9_listUsed_13 : decode cX9_listUsed 13 = .ok (.aload_n 1, 1) := by decide +kernel
theorem dX9_listUsed_14 : decode cX9_listUsed 14 = .ok (.getfield 129, 3) := by decide +kernel
theorem dX9_listUsed_17 : decode cX9_listUsed 17 = .ok (.iload_n 2, 1) := by decide +kernel
theorem dX9_listUsed_18 : decode cX9_listUsed 18 = .ok (.iaload, 1) := by decide +kernel
theorem dX9_listUsed_19 : decode cX9_listUsed 19 = .ok (.ifCond .le 23, 3) := by decide +kernel
theorem dX9_listUsed_22 : decode cX9_listUsed 22 = .ok (.aload_n 0, 1) := by decide +kernel
theorem dX9_listUsed_23 : decode cX9_listUsed 23 = .ok (.getfield 60, 3) := by decide +kernel
theorem dX9_listUsed_26 : decode cX9_listUsed 26 = .ok (.aload_n 0, 1) := by decide +kernel
theorem dX9_listUsed_27 : decode cX9_listUsed 27 = .ok (.getfield 191, 3) := by decide +kernel
theorem dX9_listUsed_30 : decode cX9_listUsed 30 = .ok (.iload_n 2, 1) := by decide +kernel
theorem dX9_listUsed_31 : decode cX9_listUsed 31 = .ok (.iastore, 1) := by decide +kernel
theorem dX9_listUsed_32 : decode cX9_listUsed 32 = .ok (.aload_n 0, 1) := by decide +kernel
theorem dX9_listUsed_33 : decode cX9_listUsed 33 = .ok (.dup, 1) := by decide +kernel
theorem dX9_listUsed_34 : decode cX9_listUsed 34 = .ok (.getfield 191, 3) := by decide +kernel
theorem dX9_listUsed_37 : decode cX9_listUsed 37 = .ok (.iconst 1, 1) := by decide +kernel
theorem dX9_listUsed_38 : decode cX9_listUsed 38 = .ok (.iadd, 1) := by decide +kernel
theorem dX9_listUsed_39 : decode cX9_listUsed 39 = .ok (.putfield 191, 3) := by decide +kernel
theorem dX9_listUsed_42 : decode cX9_listUsed 42 = .ok (.iinc 2 1, 3) := by decide +kernel
theorem dX9_listUsed_45 : decode cX9_listUsed 45 = .ok (.goto (-38), 3) := by decide +kernel
theorem dX9_listUsed_48 : decode cX9_listUsed 48 = .ok (.return_, 1) := by decide +kernel
theorem dX9_nextPart_0 : decode cX9_nextPart 0 = .ok (.iconst 0, 1) := by decide +kernel
theorem dX9_nextPart_1 : decode cX9_nextPart 1 = .ok (.istore_n 2, 1) := by decide +kernel
theorem dX9_nextPart_2 : decode cX9_nextPart 2 = .ok (.iload_n 2, 1) := by decide +kernel
theorem dX9_nextPart_3 : decode cX9_nextPart 3 = .ok (.aload_n 0, 1) := by decide +kernel
theorem dX9_nextPart_4 : decode cX9_nextPart 4 = .ok (.getfield 191, 3) := by decide +kernel
theorem dX9_nextPart_7 : decode cX9_nextPart 7 = .ok (.if_icmp .ge 58, 3) := by decide +kernel
theorem dX9_nextPart_10 : decode cX9_nextPart 10 = .ok (.aload_n 0, 1) := by decide +kernel
theorem dX9_nextPart_11 : decode cX9_nextPart 11 = .ok (.getfield 60, 3) := by decide +kernel
theorem dX9_nextPart_14 : decode cX9_nextPart 14 = .ok (.iload_n 2, 1) := by decide +kernel
theorem dX9_nextPart_15 : decode cX9_nextPart 15 = .ok (.iaload, 1) := by decide +kernel
theorem dX9_nextPart_16 : decode cX9_nextPart 16 = .ok (.istore_n 3, 1) := by decide +kernel
theorem dX9_nextPart_17 : decode cX9_nextPart 17 = .ok (.aload_n 0, 1) := by decide +kernel
theorem dX9_nextPart_18 : decode cX9_nextPart 18 = .ok (.getfield 57, 3) := by decide +kernel
theorem dX9_nextPart_21 : decode cX9_nextPart 21 = .ok (.getfield 129, 3) := by decide +kernel
theorem dX9_nextPart_24 : decode cX9_nextPart 24 = .ok (.iload_n 3, 1) := by decide +kernel
theorem dX9_nextPart_25 : decode cX9_nextPart 25 = .ok (.iaload, 1) := by decide +kernel
theorem dX9_nextPart_26 : decode cX9_nextPart 26 = .ok (.aload_n 1, 1) := by decide +kernel
theorem dX9_nextPart_27 : decode cX9_nextPart 27 = .ok (.getfield 129, 3) := by decide +kernel
theorem dX9_nextPart_30 : decode cX9_nextPart 30 = .ok (.iload_n 3, 1) := by decide +kernel
theorem dX9_nextPart_31 : decode cX9_nextPart 31 = .ok (.iaload, 1) := by decide +kernel
theorem dX9_nextPart_32 : decode cX9_nextPart 32 = .ok (.if_icmp .ge 17, 3) := by decide +kernel
theorem dX9_nextPart_35 : decode cX9_nextPart 35 = .ok (.aload_n 0, 1) := by decide +kernel
theorem dX9_nextPart_36 : decode cX9_nextPart 36 = .ok (.getfield 57, 3) := by decide +kernel
theorem dX9_nextPart_39 : decode cX9_nextPart 39 = .ok (.getfield 129, 3) := by decide +kernel
theorem dX9_nextPart_42 : decode cX9_nextPart 42 = .ok (.iload_n 3, 1) := by decide +kernel
theorem dX9_nextPart_43 : decode cX9_nextPart 43 = .ok (.dup2, 1) := by decide +kernel
theorem dX9_nextPart_44 : decode cX9_nextPart 44 = .ok (.iaload, 1) := by decide +kernel
theorem dX9_nextPart_45 : decode cX9_nextPart 45 = .ok (.iconst 1, 1) := by decide +kernel
theorem dX9_nextPart_46 : decode cX9_nextPart 46 = .ok (.iadd, 1) := by decide +kernel
theorem dX9_nextPart_47 : decode cX9_nextPart 47 = .ok (.iastore, 1) := by decide +kernel
theorem dX9_nextPart_48 : decode cX9_nextPart 48 = .ok (.return_, 1) := by decide +kernel
theorem dX9_nextPart_49 : decode cX9_nextPart 49 = .ok (.aload_n 0, 1) := by decide +kernel
theorem dX9_nextPart_50 : decode cX9_nextPart 50 = .ok (.getfield 57, 3) := by decide +kernel
theorem dX9_nextPart_53 : decode cX9_nextPart 53 = .ok (.getfield 129, 3) := by decide +kernel
theorem dX9_nextPart_56 : decode cX9_nextPart 56 = .ok (.iload_n 3, 1) := by decide +kernel
theorem dX9_nextPart_57 : decode cX9_nextPart 57 = .ok (.iconst 0, 1) := by decide +kernel
theorem dX9_nextPart_58 : decode cX9_nextPart 58 = .ok (.iastore, 1) := by decide +kernel
theorem dX9_nextPart_59 : decode cX9_nextPart 59 = .ok (.iinc 2 1, 3) := by decide +kernel
theorem dX9_nextPart_62 : decode cX9_nextPart 62 = .ok (.goto (-60), 3) := by decide +kernel
theorem dX9_nextPart_65 : decode cX9_nextPart 65 = .ok (.return_, 1) := by decide +kernel
theorem dX10_init_0 : decode cX10_init 0 = .ok (.aload_n 0, 1) := by decide +kernel
theorem dX10_init_1 : decode cX10_init 1 = .ok (.invokespecial 3, 3) := by decide +kernel
theorem dX10_init_4 : decode cX10_init 4 = .ok (.aload_n 0, 1) := by decide +kernel
theorem dX10_init_5 : decode cX10_init 5 = .ok (.bipush 12, 2) := by decide +kernel
theorem dX10_init_7 : decode cX10_init 7 = .ok (.newarray .int, 2) := by decide +kernel
theorem dX10_init_9 : decode cX10_init 9 = .ok (.putfield 11, 3) := by decide +kernel
theorem dX10_init_12 : decode cX10_init 12 = .ok (.aload_n 0, 1) := by decide +kernel
theorem dX10_init_13 : decode cX10_init 13 = .ok (.bipush 12, 2) := by decide +kernel
theorem dX10_init_15 : decode cX10_init 15 = .ok (.newarray .int, 2) := by decide +kernel
theorem dX10_init_17 : decode cX10_init 17 = .ok (.putfield 17, 3) := by decide +kernel
theorem dX10_init_20 : decode cX10_init 20 = .ok (.aload_n 0, 1) := by decide +kernel
theorem dX10_init_21 : decode cX10_init 21 = .ok (.bipush 6, 2) := by decide +kernel
theorem dX10_init_23 : decode cX10_init 23 = .ok (.anewarray 20, 3) := by decide +kernel
theorem dX10_init_26 : decode cX10_init 26 = .ok (.putfield 22, 3) := by decide +kernel
theorem dX10_init_29 : decode cX10_init 29 = .ok (.iconst 0, 1) := by decide +kernel
theorem dX10_init_30 : decode cX10_init 30 = .ok (.istore_n 1, 1) := by decide +kernel
theorem dX10_init_31 : decode cX10_init 31 = .ok (.iload_n 1, 1) := by decide +kernel
theorem dX10_init_32 : decode cX10_init 32 = .ok (.aload_n 0, 1) := by decide +kernel
theorem dX10_init_33 : decode cX10_init 33 = .ok (.getfield 22, 3) := by decide +kernel
theorem dX10_init_36 : decode cX10_init 36 = .ok (.arraylength, 1) := by decide +kernel
theorem dX10_init_37 : decode cX10_init 37 = .ok (.if_icmp .ge 22, 3) := by decide +kernel
theorem dX10_init_40 : decode cX10_init 40 = .ok (.aload_n 0, 1) := by decide +kernel
theorem dX10_init_41 : decode cX10_init 41 = .ok (.getfield 22, 3) := by decide +kernel
theorem dX10_init_44 : decode cX10_init 44 = .ok (.iload_n 1, 1) := by decide +kernel
theorem dX10_init_45 : decode cX10_init 45 = .ok (.new 20, 3) := by decide +kernel
theorem dX10_init_48 : decode cX10_init 48 = .ok (.dup, 1) := by decide +kernel
theorem dX10_init_49 : decode cX10_init 49 = .ok (.invokespecial 26, 3) := by decide +kernel
theorem dX10_init_52 : decode cX10_init 52 = .ok (.aastore, 1) := by decide +kernel
theorem dX10_init_53 : decode cX10_init 53 = .ok (.iinc 1 1, 3) := by decide +kernel
theorem dX10_init_56 : decode cX10_init 56 = .ok (.goto (-25), 3) := by decide +kernel
theorem dX10_init_59 : decode cX10_init 59 = .ok (.aload_n 0, 1) := by decide +kernel
theorem dX10_init_60 : decode cX10_init 60 = .ok (.iconst 1, 1) := by decide +kernel
theorem dX10_init_61 : decode cX10_init 61 = .ok (.putfield 27, 3) := by decide +kernel
theorem dX10_init_64 : decode cX10_init 64 = .ok (.aload_n 0, 1) := by decide +kernel
theorem dX10_init_65 : decode cX10_init 65 = .ok (.getfield 11, 3) := by decide +kernel
theorem dX10_init_68 : decode cX10_init 68 = .ok (.iconst (-1), 1) := by decide +kernel
theorem dX10_init_69 : decode cX10_init 69 = .ok (.invokestatic 31, 3) := by decide +kernel
theorem dX10_init_72 : decode cX10_init 72 = .ok (.return_, 1) := by decide +kernel
theorem dX10_begin_0 : decode cX10_begin 0 = .ok (.aload_n 0, 1) := by decide +kernel
theorem dX10_begin_1 : decode cX10_begin 1 = .ok (.iload_n 1, 1) := by decide +kernel
theorem dX10_begin_2 : decode cX10_begin 2 = .ok (.putfield 27, 3) := by decide +kernel
theorem dX10_begin_5 : decode cX10_begin 5 = .ok (.aload_n 0, 1) := by decide +kernel
theorem dX10_begin_6 : decode cX10_begin 6 = .ok (.iconst 0, 1) := by decide +kernel
theorem dX10_begin_7 : decode cX10_begin 7 = .ok (.putfield 37, 3) := by decide +kernel
theorem dX10_begin_10 : decode cX10_begin 10 = .ok (.aload_n 0, 1) := by decide +kernel
theorem dX10_begin_11 : decode cX10_begin 11 = .ok (.getfield 11, 3) := by decide +kernel
theorem dX10_begin_14 : decode cX10_begin 14 = .ok (.iconst (-1), 1) := by decide +kernel
theorem dX10_begin_15 : decode cX10_begin 15 = .ok (.invokestatic 31, 3) := by decide +kernel
theorem dX10_begin_18 : decode cX10_begin 18 = .ok (.return_, 1) := by decide +kernel
theorem dX10_copyFrom_0 : decode cX10_copyFrom 0 = .ok (.aload_n 0, 1) := by decide +kernel
theorem dX10_copyFrom_1 : decode cX10_copyFrom 1 = .ok (.aload_n 1, 1) := by decide +kernel
theorem dX10_copyFrom_2 : decode cX10_copyFrom 2 = .ok (.getfield 27, 3) := by decide +kernel
theorem dX10_copyFrom_5 : decode cX10_copyFrom 5 = .ok (.putfield 27, 3) := by decide +kernel
theorem dX10_copyFrom_8 : decode cX10_copyFrom 8 = .ok (.aload_n 0, 1) := by decide +kernel
theorem dX10_copyFrom_9 : decode cX10_copyFrom 9 = .ok (.aload_n 1, 1) := by decide +kernel
theorem dX10_copyFrom_10 : decode cX10_copyFrom 10 = .ok (.getfield 37, 3) := by decide +kernel
theorem dX10_copyFrom_13 : decode cX10_copyFrom 13 = .ok (.putfield 37, 3) := by decide +kernel
theorem dX10_copyFrom_16 : decode cX10_copyFrom 16 = .ok (.aload_n 1, 1) := by decide +kernel
theorem dX10_copyFrom_17 : decode cX10_copyFrom 17 = .ok (.getfield 11, 3) := by decide +kernel
theorem dX10_copyFrom_20 : decode cX10_copyFrom 20 = .ok (.iconst 0, 1) := by decide +kernel
theorem dX10_copyFrom_21 : decode cX10_copyFrom 21 = .ok (.aload_n 0, 1) := by decide +kernel
theorem dX10_copyFrom_22 : decode cX10_copyFrom 22 = .ok (.getfield 11, 3) := by decide +kernel
theorem dX10_copyFrom_25 : decode cX10_copyFrom 25 = .ok (.iconst 0, 1) := by decide +kernel
theorem dX10_copyFrom_26 : decode cX10_copyFrom 26 = .ok (.aload_n 0, 1) := by decide +kernel
theorem dX10_copyFrom_27 : decode cX10_copyFrom 27 = .ok (.getfield 11, 3) := by decide +kernel
theorem dX10_copyFrom_30 : decode cX10_copyFrom 30 = .ok (.arraylength, 1) := by decide +kernel
theorem dX10_copyFrom_31 : decode cX10_copyFrom 31 = .ok (.invokestatic 40, 3) := by decide +kernel
theorem dX10_copyFrom_34 : decode cX10_copyFrom 34 = .ok (.aload_n 1, 1) := by decide +kernel
theorem dX10_copyFrom_35 : decode cX10_copyFrom 35 = .ok (.getfield 17, 3) := by decide +kernel
theorem dX10_copyFrom_38 : decode cX10_copyFrom 38 = .ok (.iconst 0, 1) := by decide +kernel
theorem dX10_copyFrom_39 : decode cX10_copyFrom 39 = .ok (.aload_n 0, 1) := by decide +kernel
theorem dX10_copyFrom_40 : decode cX10_copyFrom 40 = .ok (.getfield 17, 3) := by decide +kernel
theorem dX10_copyFrom_43 : decode cX10_copyFrom 43 = .ok (.iconst 0, 1) := by decide +kernel
theorem dX10_copyFrom_44 : decode cX10_copyFrom 44 = .ok (.aload_n 0, 1) := by decide +kernel
theorem dX10_copyFrom_45 : decode cX10_copyFrom 45 = .ok (.getfield 17, 3) := by decide +kernel
theorem dX10_copyFrom_48 : decode cX10_copyFrom 48 = .ok (.arraylength, 1) := by decide +kernel
theorem dX10_copyFrom_49 : decode cX10_copyFrom 49 = .ok (.invokestatic 40, 3) := by decide +kernel
theorem dX10_copyFrom_52 : decode cX10_copyFrom 52 = .ok (.iconst 0, 1) := by decide +kernel
theorem dX10_copyFrom_53 : decode cX10_copyFrom 53 = .ok (.istore_n 2, 1) := by decide +kernel
theorem dX10_copyFrom_54 : decode cX10_copyFrom 54 = .ok (.iload_n 2, 1) := by decide +kernel
theorem dX10_copyFrom_55 : decode cX10_copyFrom 55 = .ok (.aload_n 0, 1) := by decide +kernel
theorem dX10_copyFrom_56 : decode cX10_copyFrom 56 = .ok (.getfield 37, 3) := by decide +kernel
theorem dX10_copyFrom_59 : decode cX10_copyFrom 59 = .ok (.if_icmp .ge 24, 3) := by decide +kernel
theorem dX10_copyFrom_62 : decode cX10_copyFrom 62 = .ok (.aload_n 0, 1) := by decide +kernel
theorem dX10_copyFrom_63 : decode cX10_copyFrom 63 = .ok (.getfield 22, 3) := by decide +kernel
theorem dX10_copyFrom_66 : decode cX10_copyFrom 66 = .ok (.iload_n 2, 1) := by decide +kernel
theorem dX10_copyFrom_67 : decode cX10_copyFrom 67 = .ok (.aaload, 1) := by decide +kernel
theorem dX10_copyFrom_68 : decode cX10_copyFrom 68 = .ok (.aload_n 1, 1) := by decide +kernel
theorem dX10_copyFrom_69 : decode cX10_copyFrom 69 = .ok (.getfield 22, 3) := by decide +kernel
theorem dX10_copyFrom_72 : decode cX10_copyFrom 72 = .ok (.iload_n 2, 1) := by decide +kernel
theorem dX10_copyFrom_73 : decode cX10_copyFrom 73 = .ok (.aaload, 1) := by decide +kernel
theorem dX10_copyFrom_74 : decode cX10_copyFrom 74 = .ok (.invokevirtual 46, 3) := by decide +kernel
theorem dX10_copyFrom_77 : decode cX10_copyFrom 77 = .ok (.iinc 2 1, 3) := by decide +kernel
theorem dX10_copyFrom_80 : decode cX10_copyFrom 80 = .ok (.goto (-26), 3) := by decide +kernel
theorem dX10_copyFrom_83 : decode cX10_copyFrom 83 = .ok (.return_, 1) := by decide +kernel
theorem dX10_faces_0 : decode cX10_faces 0 = .ok (.iconst 4, 1) := by decide +kernel
theorem dX10_faces_1 : decode cX10_faces 1 = .ok (.aload_n 0, 1) := by decide +kernel
theorem dX10_faces_2 : decode cX10_faces 2 = .ok (.getfield 27, 3) := by decide +kernel
theorem dX10_faces_5 : decode cX10_faces 5 = .ok (.imul, 1) := by decide +kernel
theorem dX10_faces_6 : decode cX10_faces 6 = .ok (.ireturn, 1) := by decide +kernel
theorem dX10_freeFaces_0 : decode cX10_freeFaces 0 = .ok (.iconst 0, 1) := by decide +kernel
theorem dX10_freeFaces_1 : decode cX10_freeFaces 1 = .ok (.istore_n 1, 1) := by decide +kernel
theorem dX10_freeFaces_2 : decode cX10_freeFaces 2 = .ok (.iconst 0, 1) := by decide +kernel
theorem dX10_freeFaces_3 : decode cX10_freeFaces 3 = .ok (.istore_n 2, 1) := by decide +kernel
theorem dX10_freeFaces_4 : decode cX10_freeFaces 4 = .ok (.iload_n 2, 1) := by decide +kernel
theorem dX10_freeFaces_5 : decode cX10_freeFaces 5 = .ok (.aload_n 0, 1) := by decide +kernel
theorem dX10_freeFaces_6 : decode cX10_freeFaces 6 = .ok (.invokevirtual 50, 3) := by decide +kernel
theorem dX10_freeFaces_9 : decode cX10_freeFaces 9 = .ok (.if_icmp .ge 26, 3) := by decide +kernel
theorem dX10_freeFaces_12 : decode cX10_freeFaces 12 = .ok (.iload_n 1, 1) := by decide +kernel
theorem dX10_freeFaces_13 : decode cX10_freeFaces 13 = .ok (.aload_n 0, 1) := by decide +kernel
theorem dX10_freeFaces_14 : decode cX10_freeFaces 14 = .ok (.getfield 11, 3) := by decide +kernel
theorem dX10_freeFaces_17 : decode cX10_freeFaces 17 = .ok (.iload_n 2, 1) := by decide +kernel
theorem dX10_freeFaces_18 : decode cX10_freeFaces 18 = .ok (.iaload, 1) := by decide +kernel
theorem dX10_freeFaces_19 : decode cX10_freeFaces 19 = .ok (.ifCond .ge 7, 3) := by decide +kernel
theorem dX10_freeFaces_22 : decode cX10_freeFaces 22 = .ok (.iconst 1, 1) := by decide +kernel
theorem dX10_freeFaces_23 : decode cX10_freeFaces 23 = .ok (.goto 4, 3) := by decide +kernel
theorem dX10_freeFaces_26 : decode cX10_freeFaces 26 = .ok (.iconst 0, 1) := by decide +kernel
theorem dX10_freeFaces_27 : decode cX10_freeFaces 27 = .ok (.iadd, 1) := by decide +kernel
theorem dX10_freeFaces_28 : decode cX10_freeFaces 28 = .ok (.istore_n 1, 1) := by decide +kernel
theorem dX10_freeFaces_29 : decode cX10_freeFaces 29 = .ok (.iinc 2 1, 3) := by decide +kernel
theorem dX10_freeFaces_32 : decode cX10_freeFaces 32 = .ok (.goto (-28), 3) := by decide +kernel
theorem dX10_freeFaces_35 : decode cX10_freeFaces 35 = .ok (.iload_n 1, 1) := by decide +kernel
theorem dX10_freeFaces_36 : decode cX10_freeFaces 36 = .ok (.ireturn, 1) := by decide +kernel
theorem dX10_canFasten_0 : decode cX10_canFasten 0 = .ok (.iload_n 1, 1) := by decide +kernel
theorem dX10_canFasten_1 : decode cX10_canFasten 1 = .ok (.iload_n 2, 1) := by decide +kernel
theorem dX10_canFasten_2 : decode cX10_canFasten 2 = .ok (.if_icmp .eq 25, 3) := by decide +kernel
theorem dX10_canFasten_5 : decode cX10_canFasten 5 = .ok (.aload_n 0, 1) := by decide +kernel
theorem dX10_canFasten_6 : decode cX10_canFasten 6 = .ok (.getfield 11, 3) := by decide +kernel
theorem dX10_canFasten_9 : decode cX10_canFasten 9 = .ok (.iload_n 1, 1) := by decide +kernel
theorem dX10_canFasten_10 : decode cX10_canFasten 10 = .ok (.iaload, 1) := by decide +kernel
theorem dX10_canFasten_11 : decode cX10_canFasten 11 = .ok (.ifCond .ge 16, 3) := by decide +kernel
theorem dX10_canFasten_14 : decode cX10_canFasten 14 = .ok (.aload_n 0, 1) := by decide +kernel
theorem dX10_canFasten_15 : decode cX10_canFasten 15 = .ok (.getfield 11, 3) := by decide +kernel
theorem dX10_canFasten_18 : decode cX10_canFasten 18 = .ok (.iload_n 2, 1) := by decide +kernel
theorem dX10_canFasten_19 : decode cX10_canFasten 19 = .ok (.iaload, 1) := by decide +kernel
theorem dX10_canFasten_20 : decode cX10_canFasten 20 = .ok (.ifCond .ge 7, 3) := by decide +kernel
theorem dX10_canFasten_23 : decode cX10_canFasten 23 = .ok (.iconst 1, 1) := by decide +kernel
theorem dX10_canFasten_24 : decode cX10_canFasten 24 = .ok (.goto 4, 3) := by decide +kernel
theorem dX10_canFasten_27 : decode cX10_canFasten 27 = .ok (.iconst 0, 1) := by decide +kernel
theorem dX10_canFasten_28 : decode cX10_canFasten 28 = .ok (.ireturn, 1) := by decide +kernel
theorem dX10_fasten_0 : decode cX10_fasten 0 = .ok (.aload_n 0, 1) := by decide +kernel
theorem dX10_fasten_1 : decode cX10_fasten 1 = .ok (.getfield 11, 3) := by decide +kernel
theorem dX10_fasten_4 : decode cX10_fasten 4 = .ok (.iload_n 1, 1) := by decide +kernel
theorem dX10_fasten_5 : decode cX10_fasten 5 = .ok (.iload_n 2, 1) := by decide +kernel
theorem dX10_fasten_6 : decode cX10_fasten 6 = .ok (.iastore, 1) := by decide +kernel
theorem dX10_fasten_7 : decode cX10_fasten 7 = .ok (.aload_n 0, 1) := by decide +kernel
theorem dX10_fasten_8 : decode cX10_fasten 8 = .ok (.getfield 11, 3) := by decide +kernel
theorem dX10_fasten_11 : decode cX10_fasten 11 = .ok (.iload_n 2, 1) := by decide +kernel
theorem dX10_fasten_12 : decode cX10_fasten 12 = .ok (.iload_n 1, 1) := by decide +kernel
theorem dX10_fasten_13 : decode cX10_fasten 13 = .ok (.iastore, 1) := by decide +kernel
theorem dX10_fasten_14 : decode cX10_fasten 14 = .ok (.aload_n 0, 1) := by decide +kernel
theorem dX10_fasten_15 : decode cX10_fasten 15 = .ok (.getfield 17, 3) := by decide +kernel
theorem dX10_fasten_18 : decode cX10_fasten 18 = .ok (.iload_n 1, 1) := by decide +kernel
theorem dX10_fasten_19 : decode cX10_fasten 19 = .ok (.iload_n 3, 1) := by decide +kernel
theorem dX10_fasten_20 : decode cX10_fasten 20 = .ok (.iastore, 1) := by decide +kernel
theorem dX10_fasten_21 : decode cX10_fasten 21 = .ok (.aload_n 0, 1) := by decide +kernel
theorem dX10_fasten_22 : decode cX10_fasten 22 = .ok (.getfield 17, 3) := by decide +kernel
theorem dX10_fasten_25 : decode cX10_fasten 25 = .ok (.iload_n 2, 1) := by decide +kernel
theorem dX10_fasten_26 : decode cX10_fasten 26 = .ok (.getstatic 54, 3) := by decide +kernel
theorem dX10_fasten_29 : decode cX10_fasten 29 = .ok (.iload_n 3, 1) := by decide +kernel
theorem dX10_fasten_30 : decode cX10_fasten 30 = .ok (.iaload, 1) := by decide +kernel
theorem dX10_fasten_31 : decode cX10_fasten 31 = .ok (.iastore, 1) := by decide +kernel
theorem dX10_fasten_32 : decode cX10_fasten 32 = .ok (.aload_n 0, 1) := by decide +kernel
theorem dX10_fasten_33 : decode cX10_fasten 33 = .ok (.iconst 0, 1) := by decide +kernel
theorem dX10_fasten_34 : decode cX10_fasten 34 = .ok (.putfield 37, 3) := by decide +kernel
theorem dX10_fasten_37 : decode cX10_fasten 37 = .ok (.return_, 1) := by decide +kernel
theorem dX10_loosen_0 : decode cX10_loosen 0 = .ok (.aload_n 0, 1) := by decide +kernel
theorem dX10_loosen_1 : decode cX10_loosen 1 = .ok (.getfield 11, 3) := by decide +kernel
theorem dX10_loosen_4 : decode cX10_loosen 4 = .ok (.iload_n 1, 1) := by decide +kernel
theorem dX10_loosen_5 : decode cX10_loosen 5 = .ok (.iaload, 1) := by decide +kernel
theorem dX10_loosen_6 : decode cX10_loosen 6 = .ok (.istore_n 2, 1) := by decide +kernel
theorem dX10_loosen_7 : decode cX10_loosen 7 = .ok (.iload_n 2, 1) := by decide +kernel
theorem dX10_loosen_8 : decode cX10_loosen 8 = .ok (.ifCond .lt 22, 3) := by decide +kernel
theorem dX10_loosen_11 : decode cX10_loosen 11 = .ok (.aload_n 0, 1) := by decide +kernel
theorem dX10_loosen_12 : decode cX10_loosen 12 = .ok (.getfield 11, 3) := by decide +kernel
theorem dX10_loosen_15 : decode cX10_loosen 15 = .ok (.iload_n 1, 1) := by decide +kernel
theorem dX10_loosen_16 : decode cX10_loosen 16 = .ok (.iconst (-1), 1) := by decide +kernel
theorem dX10_loosen_17 : decode cX10_loosen 17 = .ok (.iastore, 1) := by decide +kernel
theorem dX10_loosen_18 : decode cX10_loosen 18 = .ok (.aload_n 0, 1) := by decide +kernel
theorem dX10_loosen_19 : decode cX10_loosen 19 = .ok (.getfield 11, 3) := by decide +kernel
theorem dX10_loosen_22 : decode cX10_loosen 22 = .ok (.iload_n 2, 1) := by decide +kernel
theorem dX10_loosen_23 : decode cX10_loosen 23 = .ok (.iconst (-1), 1) := by decide +kernel
theorem dX10_loosen_24 : decode cX10_loosen 24 = .ok (.iastore, 1) := by decide +kernel
theorem dX10_loosen_25 : decode cX10_loosen 25 = .ok (.aload_n 0, 1) := by decide +kernel
theorem dX10_loosen_26 : decode cX10_loosen 26 = .ok (.iconst 0, 1) := by decide +kernel
theorem dX10_loosen_27 : decode cX10_loosen 27 = .ok (.putfield 37, 3) := by decide +kernel
theorem dX10_loosen_30 : decode cX10_loosen 30 = .ok (.return_, 1) := by decide +kernel
theorem dX10_leads_0 : decode cX10_leads 0 = .ok (.aload_n 0, 1) := by decide +kernel
theorem dX10_leads_1 : decode cX10_leads 1 = .ok (.getfield 11, 3) := by decide +kernel
theorem dX10_leads_4 : decode cX10_leads 4 = .ok (.iload_n 1, 1) := by decide +kernel
theorem dX10_leads_5 : decode cX10_leads 5 = .ok (.iaload, 1) := by decide +kernel
theorem dX10_leads_6 : decode cX10_leads 6 = .ok (.iload_n 1, 1) := by decide +kernel
theorem dX10_leads_7 : decode cX10_leads 7 = .ok (.if_icmp .le 7, 3) := by decide +kernel
theorem dX10_leads_10 : decode cX10_leads 10 = .ok (.iconst 1, 1) := by decide +kernel
theorem dX10_leads_11 : decode cX10_leads 11 = .ok (.goto 4, 3) := by decide +kernel
theorem dX10_leads_14 : decode cX10_leads 14 = .ok (.iconst 0, 1) := by decide +kernel
theorem dX10_leads_15 : decode cX10_leads 15 = .ok (.ireturn, 1) := by decide +kernel
theorem dX10_across_0 : decode cX10_across 0 = .ok (.iload_n 1, 1) := by decide +kernel
theorem dX10_across_1 : decode cX10_across 1 = .ok (.iconst 4, 1) := by decide +kernel
theorem dX10_across_2 : decode cX10_across 2 = .ok (.irem, 1) := by decide +kernel
theorem dX10_across_3 : decode cX10_across 3 = .ok (.istore_n 3, 1) := by decide +kernel
theorem dX10_across_4 : decode cX10_across 4 = .ok (.aload_n 0, 1) := by decide +kernel
theorem dX10_across_5 : decode cX10_across 5 = .ok (.getfield 11, 3) := by decide +kernel
theorem dX10_across_8 : decode cX10_across 8 = .ok (.iload_n 1, 1) := by decide +kernel
theorem dX10_across_9 : decode cX10_across 9 = .ok (.iaload, 1) := by decide +kernel
theorem dX10_across_10 : decode cX10_across 10 = .ok (.istore 4, 2) := by decide +kernel
theorem dX10_across_12 : decode cX10_across 12 = .ok (.iload_n 2, 1) := by decide +kernel
theorem dX10_across_13 : decode cX10_across 13 = .ok (.iload_n 3, 1) := by decide +kernel
theorem dX10_across_14 : decode cX10_across 14 = .ok (.if_icmp .eq 8, 3) := by decide +kernel
theorem dX10_across_17 : decode cX10_across 17 = .ok (.iload 4, 2) := by decide +kernel
theorem dX10_across_19 : decode cX10_across 19 = .ok (.ifCond .ge 5, 3) := by decide +kernel
theorem dX10_across_22 : decode cX10_across 22 = .ok (.iconst (-1), 1) := by decide +kernel
theorem dX10_across_23 : decode cX10_across 23 = .ok (.ireturn, 1) := by decide +kernel
theorem dX10_across_24 : decode cX10_across 24 = .ok (.getstatic 57, 3) := by decide +kernel
theorem dX10_across_27 : decode cX10_across 27 = .ok (.iconst 3, 1) := by decide +kernel
theorem dX10_across_28 : decode cX10_across 28 = .ok (.aload_n 0, 1) := by decide +kernel
theorem dX10_across_29 : decode cX10_across 29 = .ok (.getfield 17, 3) := by decide +kernel
theorem dX10_across_32 : decode cX10_across 32 = .ok (.iload_n 1, 1) := by decide +kernel
theorem dX10_across_33 : decode cX10_across 33 = .ok (.iaload, 1) := by decide +kernel
theorem dX10_across_34 : decode cX10_across 34 = .ok (.imul, 1) := by decide +kernel
theorem dX10_across_35 : decode cX10_across 35 = .ok (.iload_n 2, 1) := by decide +kernel
theorem dX10_across_36 : decode cX10_across 36 = .ok (.iload_n 3, 1) := by decide +kernel
theorem dX10_across_37 : decode cX10_across 37 = .ok (.if_icmp .ge 7, 3) := by decide +kernel
theorem dX10_across_40 : decode cX10_across 40 = .ok (.iload_n 2, 1) := by decide +kernel
theorem dX10_across_41 : decode cX10_across 41 = .ok (.goto 6, 3) := by decide +kernel
theorem dX10_across_44 : decode cX10_across 44 = .ok (.iload_n 2, 1) := by decide +kernel
theorem dX10_across_45 : decode cX10_across 45 = .ok (.iconst 1, 1) := by decide +kernel
theorem dX10_across_46 : decode cX10_across 46 = .ok (.isub, 1) := by decide +kernel
theorem dX10_across_47 : decode cX10_across 47 = .ok (.iadd, 1) := by decide +kernel
theorem dX10_across_48 : decode cX10_across 48 = .ok (.iaload, 1) := by decide +kernel
theorem dX10_across_49 : decode cX10_across 49 = .ok (.istore 5, 2) := by decide +kernel
theorem dX10_across_51 : decode cX10_across 51 = .ok (.iload 4, 2) := by decide +kernel
theorem dX10_across_53 : decode cX10_across 53 = .ok (.iconst 4, 1) := by decide +kernel
theorem dX10_across_54 : decode cX10_across 54 = .ok (.irem, 1) := by decide +kernel
theorem dX10_across_55 : decode cX10_across 55 = .ok (.istore 6, 2) := by decide +kernel
theorem dX10_across_57 : decode cX10_across 57 = .ok (.iload 4, 2) := by decide +kernel
theorem dX10_across_59 : decode cX10_across 59 = .ok (.iload 6, 2) := by decide +kernel
theorem dX10_across_61 : decode cX10_across 61 = .ok (.isub, 1) := by decide +kernel
theorem dX10_across_62 : decode cX10_across 62 = .ok (.iload 5, 2) := by decide +kernel
theorem dX10_across_64 : decode cX10_across 64 = .ok (.iload 6, 2) := by decide +kernel
theorem dX10_across_66 : decode cX10_across 66 = .ok (.if_icmp .ge 8, 3) := by decide +kernel
theorem dX10_across_69 : decode cX10_across 69 = .ok (.iload 5, 2) := by decide +kernel
theorem dX10_across_71 : decode cX10_across 71 = .ok (.goto 7, 3) := by decide +kernel
theorem dX10_across_74 : decode cX10_across 74 = .ok (.iload 5, 2) := by decide +kernel
theorem dX10_across_76 : decode cX10_across 76 = .ok (.iconst 1, 1) := by decide +kernel
theorem dX10_across_77 : decode cX10_across 77 = .ok (.iadd, 1) := by decide +kernel
theorem dX10_across_78 : decode cX10_across 78 = .ok (.iadd, 1) := by decide +kernel
theorem dX10_across_79 : decode cX10_across 79 = .ok (.ireturn, 1) := by decide +kernel
theorem dX10_isFull_0 : decode cX10_isFull 0 = .ok (.aload_n 0, 1) := by decide +kernel
theorem dX10_isFull_1 : decode cX10_isFull 1 = .ok (.getfield 37, 3) := by decide +kernel
theorem dX10_isFull_4 : decode cX10_isFull 4 = .ok (.bipush 6, 2) := by decide +kernel
theorem dX10_isFull_6 : decode cX10_isFull 6 = .ok (.if_icmp .lt 7, 3) := by decide +kernel
theorem dX10_isFull_9 : decode cX10_isFull 9 = .ok (.iconst 1, 1) := by decide +kernel
theorem dX10_isFull_10 : decode cX10_isFull 10 = .ok (.goto 4, 3) := by decide +kernel
theorem dX10_isFull_13 : decode cX10_isFull 13 = .ok (.iconst 0, 1) := by decide +kernel
theorem dX10_isFull_14 : decode cX10_isFull 14 = .ok (.ireturn, 1) := by decide +kernel
theorem dX10_lastGrown_0 : decode cX10_lastGrown 0 = .ok (.aload_n 0, 1) := by decide +kernel
theorem dX10_lastGrown_1 : decode cX10_lastGrown 1 = .ok (.dup, 1) := by decide +kernel
theorem dX10_lastGrown_2 : decode cX10_lastGrown 2 = .ok (.getfield 37, 3) := by decide +kernel
theorem dX10_lastGrown_5 : decode cX10_lastGrown 5 = .ok (.iconst 1, 1) := by decide +kernel
theorem dX10_lastGrown_6 : decode cX10_lastGrown 6 = .ok (.iadd, 1) := by decide +kernel
theorem dX10_lastGrown_7 : decode cX10_lastGrown 7 = .ok (.putfield 37, 3) := by decide +kernel
theorem dX10_lastGrown_10 : decode cX10_lastGrown 10 = .ok (.aload_n 0, 1) := by decide +kernel
theorem dX10_lastGrown_11 : decode cX10_lastGrown 11 = .ok (.getfield 37, 3) := by decide +kernel
theorem dX10_lastGrown_14 : decode cX10_lastGrown 14 = .ok (.iconst 1, 1) := by decide +kernel
theorem dX10_lastGrown_15 : decode cX10_lastGrown 15 = .ok (.isub, 1) := by decide +kernel
theorem dX10_lastGrown_16 : decode cX10_lastGrown 16 = .ok (.ireturn, 1) := by decide +kernel
theorem dX10_dropSheet_0 : decode cX10_dropSheet 0 = .ok (.iload_n 1, 1) := by decide +kernel
theorem dX10_dropSheet_1 : decode cX10_dropSheet 1 = .ok (.istore_n 2, 1) := by decide +kernel
theorem dX10_dropSheet_2 : decode cX10_dropSheet 2 = .ok (.iload_n 2, 1) := by decide +kernel
theorem dX10_dropSheet_3 : decode cX10_dropSheet 3 = .ok (.iconst 1, 1) := by decide +kernel
theorem dX10_dropSheet_4 : decode cX10_dropSheet 4 = .ok (.iadd, 1) := by decide +kernel
theorem dX10_dropSheet_5 : decode cX10_dropSheet 5 = .ok (.aload_n 0, 1) := by decide +kernel
theorem dX10_dropSheet_6 : decode cX10_dropSheet 6 = .ok (.getfield 37, 3) := by decide +kernel
theorem dX10_dropSheet_9 : decode cX10_dropSheet 9 = .ok (.if_icmp .ge 26, 3) := by decide +kernel
theorem dX10_dropSheet_12 : decode cX10_dropSheet 12 = .ok (.aload_n 0, 1) := by decide +kernel
theorem dX10_dropSheet_13 : decode cX10_dropSheet 13 = .ok (.getfield 22, 3) := by decide +kernel
theorem dX10_dropSheet_16 : decode cX10_dropSheet 16 = .ok (.iload_n 2, 1) := by decide +kernel
theorem dX10_dropSheet_17 : decode cX10_dropSheet 17 = .ok (.aaload, 1) := by decide +kernel
theorem dX10_dropSheet_18 : decode cX10_dropSheet 18 = .ok (.aload_n 0, 1) := by decide +kernel
theorem dX10_dropSheet_19 : decode cX10_dropSheet 19 = .ok (.getfield 22, 3) := by decide +kernel
theorem dX10_dropSheet_22 : decode cX10_dropSheet 22 = .ok (.iload_n 2, 1) := by decide +kernel
theorem dX10_dropSheet_23 : decode cX10_dropSheet 23 = .ok (.iconst 1, 1) := by decide +kernel
theorem dX10_dropSheet_24 : decode cX10_dropSheet 24 = .ok (.iadd, 1) := by decide +kernel
theorem dX10_dropSheet_25 : decode cX10_dropSheet 25 = .ok (.aaload, 1) := by decide +kernel
theorem dX10_dropSheet_26 : decode cX10_dropSheet 26 = .ok (.invokevirtual 46, 3) := by decide +kernel
theorem dX10_dropSheet_29 : decode cX10_dropSheet 29 = .ok (.iinc 2 1, 3) := by decide +kernel
theorem dX10_dropSheet_32 : decode cX10_dropSheet 32 = .ok (.goto (-30), 3) := by decide +kernel
theorem dX10_dropSheet_35 : decode cX10_dropSheet 35 = .ok (.aload_n 0, 1) := by decide +kernel
theorem dX10_dropSheet_36 : decode cX10_dropSheet 36 = .ok (.dup, 1) := by decide +kernel
theorem dX10_dropSheet_37 : decode cX10_dropSheet 37 = .ok (.getfield 37, 3) := by decide +kernel
theorem dX10_dropSheet_40 : decode cX10_dropSheet 40 = .ok (.iconst 1, 1) := by decide +kernel
theorem dX10_dropSheet_41 : decode cX10_dropSheet 41 = .ok (.isub, 1) := by decide +kernel
theorem dX10_dropSheet_42 : decode cX10_dropSheet 42 = .ok (.putfield 37, 3) := by decide +kernel
theorem dX10_dropSheet_45 : decode cX10_dropSheet 45 = .ok (.return_, 1) := by decide +kernel
theorem dX11_init_0 : decode cX11_init 0 = .ok (.aload_n 0, 1) := by decide +kernel
theorem dX11_init_1 : decode cX11_init 1 = .ok (.invokespecial 1, 3) := by decide +kernel
theorem dX11_init_4 : decode cX11_init 4 = .ok (.aload_n 0, 1) := by decide +kernel
theorem dX11_init_5 : decode cX11_init 5 = .ok (.new 7, 3) := by decide +kernel
theorem dX11_init_8 : decode cX11_init 8 = .ok (.dup, 1) := by decide +kernel
theorem dX11_init_9 : decode cX11_init 9 = .ok (.invokespecial 9, 3) := by decide +kernel
theorem dX11_init_12 : decode cX11_init 12 = .ok (.putfield 10, 3) := by decide +kernel
theorem dX11_init_15 : decode cX11_init 15 = .ok (.aload_n 0, 1) := by decide +kernel
theorem dX11_init_16 : decode cX11_init 16 = .ok (.aload_n 0, 1) := by decide +kernel
theorem dX11_init_17 : decode cX11_init 17 = .ok (.getfield 10, 3) := by decide +kernel
theorem dX11_init_20 : decode cX11_init 20 = .ok (.getfield 16, 3) := by decide +kernel
theorem dX11_init_23 : decode cX11_init 23 = .ok (.putfield 20, 3) := by decide +kernel
theorem dX11_init_26 : decode cX11_init 26 = .ok (.aload_n 0, 1) := by decide +kernel
theorem dX11_init_27 : decode cX11_init 27 = .ok (.aload_n 0, 1) := by decide +kernel
theorem dX11_init_28 : decode cX11_init 28 = .ok (.getfield 10, 3) := by decide +kernel
theorem dX11_init_31 : decode cX11_init 31 = .ok (.getfield 21, 3) := by decide +kernel
theorem dX11_init_34 : decode cX11_init 34 = .ok (.putfield 25, 3) := by decide +kernel
theorem dX11_init_37 : decode cX11_init 37 = .ok (.aload_n 0, 1) := by decide +kernel
theorem dX11_init_38 : decode cX11_init 38 = .ok (.new 26, 3) := by decide +kernel
theorem dX11_init_41 : decode cX11_init 41 = .ok (.dup, 1) := by decide +kernel
theorem dX11_init_42 : decode cX11_init 42 = .ok (.invokespecial 28, 3) := by decide +kernel
theorem dX11_init_45 : decode cX11_init 45 = .ok (.putfield 29, 3) := by decide +kernel
theorem dX11_init_48 : decode cX11_init 48 = .ok (.aload_n 0, 1) := by decide +kernel
theorem dX11_init_49 : decode cX11_init 49 = .ok (.new 33, 3) := by decide +kernel
theorem dX11_init_52 : decode cX11_init 52 = .ok (.dup, 1) := by decide +kernel
theorem dX11_init_53 : decode cX11_init 53 = .ok (.invokespecial 35, 3) := by decide +kernel
theorem dX11_init_56 : decode cX11_init 56 = .ok (.putfield 36, 3) := by decide +kernel
theorem dX11_init_59 : decode cX11_init 59 = .ok (.aload_n 0, 1) := by decide +kernel
theorem dX11_init_60 : decode cX11_init 60 = .ok (.new 40, 3) := by decide +kernel
theorem dX11_init_63 : decode cX11_init 63 = .ok (.dup, 1) := by decide +kernel
theorem dX11_init_64 : decode cX11_init 64 = .ok (.invokespecial 42, 3) := by decide +kernel
theorem dX11_init_67 : decode cX11_init 67 = .ok (.putfield 43, 3) := by decide +kernel
theorem dX11_init_70 : decode cX11_init 70 = .ok (.aload_n 0, 1) := by decide +kernel
theorem dX11_init_71 : decode cX11_init 71 = .ok (.iconst 2, 1) := by decide +kernel
theorem dX11_init_72 : decode cX11_init 72 = .ok (.anewarray 49, 3) := by decide +kernel
theorem dX11_init_75 : decode cX11_init 75 = .ok (.putfield 51, 3) := by decide +kernel
theorem dX11_init_78 : decode cX11_init 78 = .ok (.iconst 0, 1) := by decide +kernel
theorem dX11_init_79 : decode cX11_init 79 = .ok (.istore_n 1, 1) := by decide +kernel
theorem dX11_init_80 : decode cX11_init 80 = .ok (.iload_n 1, 1) := by decide +kernel
theorem dX11_init_81 : decode cX11_init 81 = .ok (.aload_n 0, 1) := by decide +kernel
theorem dX11_init_82 : decode cX11_init 82 = .ok (.getfield 51, 3) := by decide +kernel
theorem dX11_init_85 : decode cX11_init 85 = .ok (.arraylength, 1) := by decide +kernel
theorem dX11_init_86 : decode cX11_init 86 = .ok (.if_icmp .ge 22, 3) := by decide +kernel
theorem dX11_init_89 : decode cX11_init 89 = .ok (.aload_n 0, 1) := by decide +kernel
theorem dX11_init_90 : decode cX11_init 90 = .ok (.getfield 51, 3) := by decide +kernel
theorem dX11_init_93 : decode cX11_init 93 = .ok (.iload_n 1, 1) := by decide +kernel
theorem dX11_init_94 : decode cX11_init 94 = .ok (.new 49, 3) := by decide +kernel
theorem dX11_init_97 : decode cX11_init 97 = .ok (.dup, 1) := by decide +kernel
theorem dX11_init_98 : decode cX11_init 98 = .ok (.invokespecial 55, 3) := by decide +kernel
theorem dX11_init_101 : decode cX11_init 101 = .ok (.aastore, 1) := by decide +kernel
theorem dX11_init_102 : decode cX11_init 102 = .ok (.iinc 1 1, 3) := by decide +kernel
theorem dX11_init_105 : decode cX11_init 105 = .ok (.goto (-25), 3) := by decide +kernel
theorem dX11_init_108 : decode cX11_init 108 = .ok (.return_, 1) := by decide +kernel
theorem dX11_told_0 : decode cX11_told 0 = .ok (.iload_n 1, 1) := by decide +kernel
theorem dX11_told_1 : decode cX11_told 1 = .ok (.tableswitch 103 0 11 #[63, 71, 103, 103, 103, 103, 103, 79, 103, 87, 103, 95], 63) := by decide +kernel
theorem dX11_told_64 : decode cX11_told 64 = .ok (.aload_n 0, 1) := by decide +kernel
theorem dX11_told_65 : decode cX11_told 65 = .ok (.getfield 20, 3) := by decide +kernel
theorem dX11_told_68 : decode cX11_told 68 = .ok (.getfield 56, 3) := by decide +kernel
theorem dX11_told_71 : decode cX11_told 71 = .ok (.ireturn, 1) := by decide +kernel
theorem dX11_told_72 : decode cX11_told 72 = .ok (.aload_n 0, 1) := by decide +kernel
theorem dX11_told_73 : decode cX11_told 73 = .ok (.getfield 20, 3) := by decide +kernel
theorem dX11_told_76 : decode cX11_told 76 = .ok (.invokevirtual 62, 3) := by decide +kernel
theorem dX11_told_79 : decode cX11_told 79 = .ok (.ireturn, 1) := by decide +kernel
theorem dX11_told_80 : decode cX11_told 80 = .ok (.aload_n 0, 1) := by decide +kernel
theorem dX11_told_81 : decode cX11_told 81 = .ok (.getfield 20, 3) := by decide +kernel
theorem dX11_told_84 : decode cX11_told 84 = .ok (.getfield 66, 3) := by decide +kernel
theorem dX11_told_87 : decode cX11_told 87 = .ok (.ireturn, 1) := by decide +kernel
theorem dX11_told_88 : decode cX11_told 88 = .ok (.aload_n 0, 1) := by decide +kernel
theorem dX11_told_89 : decode cX11_told 89 = .ok (.getfield 36, 3) := by decide +kernel
theorem dX11_told_92 : decode cX11_told 92 = .ok (.getfield 69, 3) := by decide +kernel
theorem dX11_told_95 : decode cX11_told 95 = .ok (.ireturn, 1) := by decide +kernel
theorem dX11_told_96 : decode cX11_told 96 = .ok (.aload_n 0, 1) := by decide +kernel
theorem dX11_told_97 : decode cX11_told 97 = .ok (.getfield 29, 3) := by decide +kernel
theorem dX11_told_100 : decode cX11_told 100 = .ok (.getfield 70, 3) := by decide +kernel
theorem dX11_told_103 : decode cX11_told 103 = .ok (.ireturn, 1) := by decide +kernel
theorem dX11_told_104 : decode cX11_told 104 = .ok (.iload_n 1, 1) := by decide +kernel
theorem dX11_told_105 : decode cX11_told 105 = .ok (.ifCond .lt 9, 3) := by decide +kernel
theorem dX11_told_108 : decode cX11_told 108 = .ok (.iload_n 1, 1) := by decide +kernel
theorem dX11_told_109 : decode cX11_told 109 = .ok (.bipush 11, 2) := by decide +kernel
theorem dX11_told_111 : decode cX11_told 111 = .ok (.if_icmp .le 6, 3) := by decide +kernel
theorem dX11_told_114 : decode cX11_told 114 = .ok (.ldc 71, 2) := by decide +kernel
theorem dX11_told_116 : decode cX11_told 116 = .ok (.ireturn, 1) := by decide +kernel
theorem dX11_told_117 : decode cX11_told 117 = .ok (.aload_n 0, 1) := by decide +kernel
theorem dX11_told_118 : decode cX11_told 118 = .ok (.getfield 25, 3) := by decide +kernel
theorem dX11_told_121 : decode cX11_told 121 = .ok (.aload_n 0, 1) := by decide +kernel
theorem dX11_told_122 : decode cX11_told 122 = .ok (.getfield 20, 3) := by decide +kernel
theorem dX11_told_125 : decode cX11_told 125 = .ok (.invokevirtual 72, 3) := by decide +kernel
theorem dX11_told_128 : decode cX11_told 128 = .ok (.iload_n 1, 1) := by decide +kernel
theorem dX11_told_129 : decode cX11_told 129 = .ok (.tableswitch 119 2 8 #[43, 51, 59, 67, 75, 119, 108], 43) := by decide +kernel
theorem dX11_told_172 : decode cX11_told 172 = .ok (.aload_n 0, 1) := by decide +kernel
theorem dX11_told_173 : decode cX11_told 173 = .ok (.getfield 25, 3) := by decide +kernel
theorem dX11_told_176 : decode cX11_told 176 = .ok (.getfield 78, 3) := by decide +kernel
theorem dX11_told_179 : decode cX11_told 179 = .ok (.ireturn, 1) := by decide +kernel
theorem dX11_told_180 : decode cX11_told 180 = .ok (.aload_n 0, 1) := by decide +kernel
theorem dX11_told_181 : decode cX11_told 181 = .ok (.getfield 25, 3) := by decide +kernel
theorem dX11_told_184 : decode cX11_told 184 = .ok (.getfield 81, 3) := by decide +kernel
theorem dX11_told_187 : decode cX11_told 187 = .ok (.ireturn, 1) := by decide +kernel
theorem dX11_told_188 : decode cX11_told 188 = .ok (.aload_n 0, 1) := by decide +kernel
theorem dX11_told_189 : decode cX11_told 189 = .ok (.getfield 25, 3) := by decide +kernel
theorem dX11_told_192 : decode cX11_told 192 = .ok (.invokevirtual 84, 3) := by decide +kernel
theorem dX11_told_195 : decode cX11_told 195 = .ok (.ireturn, 1) := by decide +kernel
theorem dX11_told_196 : decode cX11_told 196 = .ok (.aload_n 0, 1) := by decide +kernel
theorem dX11_told_197 : decode cX11_told 197 = .ok (.getfield 10, 3) := by decide +kernel
theorem dX11_told_200 : decode cX11_told 200 = .ok (.invokevirtual 87, 3) := by decide +kernel
theorem dX11_told_203 : decode cX11_told 203 = .ok (.ireturn, 1) := by decide +kernel
theorem dX11_told_204 : decode cX11_told 204 = .ok (.aload_n 0, 1) := by decide +kernel
theorem dX11_told_205 : decode cX11_told 205 = .ok (.getfield 25, 3) := by decide +kernel
theorem dX11_told_208 : decode cX11_told 208 = .ok (.invokevirtual 84, 3) := by decide +kernel
theorem dX11_told_211 : decode cX11_told 211 = .ok (.ifCond .ne 24, 3) := by decide +kernel
theorem dX11_told_214 : decode cX11_told 214 = .ok (.aload_n 0, 1) := by decide +kernel
theorem dX11_told_215 : decode cX11_told 215 = .ok (.getfield 10, 3) := by decide +kernel
theorem dX11_told_218 : decode cX11_told 218 = .ok (.invokevirtual 87, 3) := by decide +kernel
theorem dX11_told_221 : decode cX11_told 221 = .ok (.aload_n 0, 1) := by decide +kernel
theorem dX11_told_222 : decode cX11_told 222 = .ok (.getfield 25, 3) := by decide +kernel
theorem dX11_told_225 : decode cX11_told 225 = .ok (.getfield 78, 3) := by decide +kernel
theorem dX11_told_228 : decode cX11_told 228 = .ok (.if_icmp .ne 7, 3) := by decide +kernel
theorem dX11_told_231 : decode cX11_told 231 = .ok (.iconst 1, 1) := by decide +kernel
theorem dX11_told_232 : decode cX11_told 232 = .ok (.goto 4, 3) := by decide +kernel
theorem dX11_told_235 : decode cX11_told 235 = .ok (.iconst 0, 1) := by decide +kernel
theorem dX11_told_236 : decode cX11_told 236 = .ok (.ireturn, 1) := by decide +kernel
theorem dX11_told_237 : decode cX11_told 237 = .ok (.aload_n 0, 1) := by decide +kernel
theorem dX11_told_238 : decode cX11_told 238 = .ok (.getfield 10, 3) := by decide +kernel
theorem dX11_told_241 : decode cX11_told 241 = .ok (.invokevirtual 90, 3) := by decide +kernel
theorem dX11_told_244 : decode cX11_told 244 = .ok (.bipush 100, 2) := by decide +kernel
theorem dX11_told_246 : decode cX11_told 246 = .ok (.iadd, 1) := by decide +kernel
theorem dX11_told_247 : decode cX11_told 247 = .ok (.ireturn, 1) := by decide +kernel
theorem dX11_told_248 : decode cX11_told 248 = .ok (.aload_n 0, 1) := by decide +kernel
theorem dX11_told_249 : decode cX11_told 249 = .ok (.getfield 36, 3) := by decide +kernel
theorem dX11_told_252 : decode cX11_told 252 = .ok (.aload_n 0, 1) := by decide +kernel
theorem dX11_told_253 : decode cX11_told 253 = .ok (.getfield 20, 3) := by decide +kernel
theorem dX11_told_256 : decode cX11_told 256 = .ok (.aload_n 0, 1) := by decide +kernel
theorem dX11_told_257 : decode cX11_told 257 = .ok (.getfield 10, 3) := by decide +kernel
theorem dX11_told_260 : decode cX11_told 260 = .ok (.invokevirtual 93, 3) := by decide +kernel
theorem dX11_told_263 : decode cX11_told 263 = .ok (.ireturn, 1) := by decide +kernel
theorem dX11_wall_0 : decode cX11_wall 0 = .ok (.aload_n 0, 1) := by decide +kernel
theorem dX11_wall_1 : decode cX11_wall 1 = .ok (.iload_n 1, 1) := by decide +kernel
theorem dX11_wall_2 : decode cX11_wall 2 = .ok (.iload_n 2, 1) := by decide +kernel
theorem dX11_wall_3 : decode cX11_wall 3 = .ok (.invokevirtual 97, 3) := by decide +kernel
theorem dX11_wall_6 : decode cX11_wall 6 = .ok (.ifCond .ne 6, 3) := by decide +kernel
theorem dX11_wall_9 : decode cX11_wall 9 = .ok (.ldc 101, 2) := by decide +kernel
theorem dX11_wall_11 : decode cX11_wall 11 = .ok (.ireturn, 1) := by decide +kernel
theorem dX11_wall_12 : decode cX11_wall 12 = .ok (.iload_n 3, 1) := by decide +kernel
theorem dX11_wall_13 : decode cX11_wall 13 = .ok (.ifCond .lt 8, 3) := by decide +kernel
theorem dX11_wall_16 : decode cX11_wall 16 = .ok (.iload_n 3, 1) := by decide +kernel
theorem dX11_wall_17 : decode cX11_wall 17 = .ok (.iconst 2, 1) := by decide +kernel
theorem dX11_wall_18 : decode cX11_wall 18 = .ok (.if_icmp .le 6, 3) := by decide +kernel
theorem dX11_wall_21 : decode cX11_wall 21 = .ok (.ldc 71, 2) := by decide +kernel
theorem dX11_wall_23 : decode cX11_wall 23 = .ok (.ireturn, 1) := by decide +kernel
theorem dX11_wall_24 : decode cX11_wall 24 = .ok (.iconst 4, 1) := by decide +kernel
theorem dX11_wall_25 : decode cX11_wall 25 = .ok (.iload_n 1, 1) := by decide +kernel
theorem dX11_wall_26 : decode cX11_wall 26 = .ok (.imul, 1) := by decide +kernel
theorem dX11_wall_27 : decode cX11_wall 27 = .ok (.iload_n 2, 1) := by decide +kernel
theorem dX11_wall_28 : decode cX11_wall 28 = .ok (.iadd, 1) := by decide +kernel
theorem dX11_wall_29 : decode cX11_wall 29 = .ok (.istore 4, 2) := by decide +kernel
theorem dX11_wall_31 : decode cX11_wall 31 = .ok (.aload_n 0, 1) := by decide +kernel
theorem dX11_wall_32 : decode cX11_wall 32 = .ok (.getfield 20, 3) := by decide +kernel
theorem dX11_wall_35 : decode cX11_wall 35 = .ok (.getfield 102, 3) := by decide +kernel
theorem dX11_wall_38 : decode cX11_wall 38 = .ok (.iload 4, 2) := by decide +kernel
theorem dX11_wall_40 : decode cX11_wall 40 = .ok (.iaload, 1) := by decide +kernel
theorem dX11_wall_41 : decode cX11_wall 41 = .ok (.istore 5, 2) := by decide +kernel
theorem dX11_wall_43 : decode cX11_wall 43 = .ok (.iload 5, 2) := by decide +kernel
theorem dX11_wall_45 : decode cX11_wall 45 = .ok (.ifCond .ge 5, 3) := by decide +kernel
theorem dX11_wall_48 : decode cX11_wall 48 = .ok (.iconst (-1), 1) := by decide +kernel
theorem dX11_wall_49 : decode cX11_wall 49 = .ok (.ireturn, 1) := by decide +kernel
theorem dX11_wall_50 : decode cX11_wall 50 = .ok (.iload_n 3, 1) := by decide +kernel
theorem dX11_wall_51 : decode cX11_wall 51 = .ok (.lookupswitch 35 #[(0, 25), (1, 30)], 25) := by decide +kernel
theorem dX11_wall_76 : decode cX11_wall 76 = .ok (.iload 5, 2) := by decide +kernel
theorem dX11_wall_78 : decode cX11_wall 78 = .ok (.iconst 4, 1) := by decide +kernel
theorem dX11_wall_79 : decode cX11_wall 79 = .ok (.idiv, 1) := by decide +kernel
theorem dX11_wall_80 : decode cX11_wall 80 = .ok (.ireturn, 1) := by decide +kernel
theorem dX11_wall_81 : decode cX11_wall 81 = .ok (.iload 5, 2) := by decide +kernel
theorem dX11_wall_83 : decode cX11_wall 83 = .ok (.iconst 4, 1) := by decide +kernel
theorem dX11_wall_84 : decode cX11_wall 84 = .ok (.irem, 1) := by decide +kernel
theorem dX11_wall_85 : decode cX11_wall 85 = .ok (.ireturn, 1) := by decide +kernel
theorem dX11_wall_86 : decode cX11_wall 86 = .ok (.aload_n 0, 1) := by decide +kernel
theorem dX11_wall_87 : decode cX11_wall 87 = .ok (.getfield 20, 3) := by decide +kernel
theorem dX11_wall_90 : decode cX11_wall 90 = .ok (.getfield 106, 3) := by decide +kernel
theorem dX11_wall_93 : decode cX11_wall 93 = .ok (.iload 4, 2) := by decide +kernel
theorem dX11_wall_95 : decode cX11_wall 95 = .ok (.iaload, 1) := by decide +kernel
theorem dX11_wall_96 : decode cX11_wall 96 = .ok (.ireturn, 1) := by decide +kernel
theorem dX11_corner_0 : decode cX11_corner 0 = .ok (.aload_n 0, 1) := by decide +kernel
theorem dX11_corner_1 : decode cX11_corner 1 = .ok (.iload_n 1, 1) := by decide +kernel
theorem dX11_corner_2 : decode cX11_corner 2 = .ok (.iload_n 2, 1) := by decide +kernel
theorem dX11_corner_3 : decode cX11_corner 3 = .ok (.invokevirtual 97, 3) := by decide +kernel
theorem dX11_corner_6 : decode cX11_corner 6 = .ok (.ifCond .ne 6, 3) := by decide +kernel
theorem dX11_corner_9 : decode cX11_corner 9 = .ok (.ldc 101, 2) := by decide +kernel
theorem dX11_corner_11 : decode cX11_corner 11 = .ok (.ireturn, 1) := by decide +kernel
theorem dX11_corner_12 : decode cX11_corner 12 = .ok (.iload_n 3, 1) := by decide +kernel
theorem dX11_corner_13 : decode cX11_corner 13 = .ok (.ifCond .lt 8, 3) := by decide +kernel
theorem dX11_corner_16 : decode cX11_corner 16 = .ok (.iload_n 3, 1) := by decide +kernel
theorem dX11_corner_17 : decode cX11_corner 17 = .ok (.iconst 4, 1) := by decide +kernel
theorem dX11_corner_18 : decode cX11_corner 18 = .ok (.if_icmp .le 6, 3) := by decide +kernel
theorem dX11_corner_21 : decode cX11_corner 21 = .ok (.ldc 71, 2) := by decide +kernel
theorem dX11_corner_23 : decode cX11_corner 23 = .ok (.ireturn, 1) := by decide +kernel
theorem dX11_corner_24 : decode cX11_corner 24 = .ok (.iload_n 3, 1) := by decide +kernel
theorem dX11_corner_25 : decode cX11_corner 25 = .ok (.ifCond .le 19, 3) := by decide +kernel
theorem dX11_corner_28 : decode cX11_corner 28 = .ok (.aload_n 0, 1) := by decide +kernel
theorem dX11_corner_29 : decode cX11_corner 29 = .ok (.getfield 20, 3) := by decide +kernel
theorem dX11_corner_32 : decode cX11_corner 32 = .ok (.iconst 4, 1) := by decide +kernel
theorem dX11_corner_33 : decode cX11_corner 33 = .ok (.iload_n 1, 1) := by decide +kernel
theorem dX11_corner_34 : decode cX11_corner 34 = .ok (.imul, 1) := by decide +kernel
theorem dX11_corner_35 : decode cX11_corner 35 = .ok (.iload_n 3, 1) := by decide +kernel
theorem dX11_corner_36 : decode cX11_corner 36 = .ok (.iadd, 1) := by decide +kernel
theorem dX11_corner_37 : decode cX11_corner 37 = .ok (.iconst 1, 1) := by decide +kernel
theorem dX11_corner_38 : decode cX11_corner 38 = .ok (.isub, 1) := by decide +kernel
theorem dX11_corner_39 : decode cX11_corner 39 = .ok (.iload_n 2, 1) := by decide +kernel
theorem dX11_corner_40 : decode cX11_corner 40 = .ok (.invokevirtual 109, 3) := by decide +kernel
theorem dX11_corner_43 : decode cX11_corner 43 = .ok (.ireturn, 1) := by decide +kernel
theorem dX11_corner_44 : decode cX11_corner 44 = .ok (.aload_n 0, 1) := by decide +kernel
theorem dX11_corner_45 : decode cX11_corner 45 = .ok (.getfield 25, 3) := by decide +kernel
theorem dX11_corner_48 : decode cX11_corner 48 = .ok (.aload_n 0, 1) := by decide +kernel
theorem dX11_corner_49 : decode cX11_corner 49 = .ok (.getfield 20, 3) := by decide +kernel
theorem dX11_corner_52 : decode cX11_corner 52 = .ok (.invokevirtual 72, 3) := by decide +kernel
theorem dX11_corner_55 : decode cX11_corner 55 = .ok (.aload_n 0, 1) := by decide +kernel
theorem dX11_corner_56 : decode cX11_corner 56 = .ok (.getfield 25, 3) := by decide +kernel
theorem dX11_corner_59 : decode cX11_corner 59 = .ok (.getfield 113, 3) := by decide +kernel
theorem dX11_corner_62 : decode cX11_corner 62 = .ok (.iconst 4, 1) := by decide +kernel
theorem dX11_corner_63 : decode cX11_corner 63 = .ok (.iload_n 1, 1) := by decide +kernel
theorem dX11_corner_64 : decode cX11_corner 64 = .ok (.imul, 1) := by decide +kernel
theorem dX11_corner_65 : decode cX11_corner 65 = .ok (.iload_n 2, 1) := by decide +kernel
theorem dX11_corner_66 : decode cX11_corner 66 = .ok (.iadd, 1) := by decide +kernel
theorem dX11_corner_67 : decode cX11_corner 67 = .ok (.iaload, 1) := by decide +kernel
theorem dX11_corner_68 : decode cX11_corner 68 = .ok (.ireturn, 1) := by decide +kernel
theorem dX11_edge_0 : decode cX11_edge 0 = .ok (.aload_n 0, 1) := by decide +kernel
theorem dX11_edge_1 : decode cX11_edge 1 = .ok (.iload_n 1, 1) := by decide +kernel
theorem dX11_edge_2 : decode cX11_edge 2 = .ok (.iload_n 2, 1) := by decide +kernel
theorem dX11_edge_3 : decode cX11_edge 3 = .ok (.invokevirtual 116, 3) := by decide +kernel
theorem dX11_edge_6 : decode cX11_edge 6 = .ok (.ifCond .ne 6, 3) := by decide +kernel
theorem dX11_edge_9 : decode cX11_edge 9 = .ok (.ldc 101, 2) := by decide +kernel
theorem dX11_edge_11 : decode cX11_edge 11 = .ok (.ireturn, 1) := by decide +kernel
theorem dX11_edge_12 : decode cX11_edge 12 = .ok (.iload_n 3, 1) := by decide +kernel
theorem dX11_edge_13 : decode cX11_edge 13 = .ok (.ifCond .lt 8, 3) := by decide +kernel
theorem dX11_edge_16 : decode cX11_edge 16 = .ok (.iload_n 3, 1) := by decide +kernel
theorem dX11_edge_17 : decode cX11_edge 17 = .ok (.iconst 2, 1) := by decide +kernel
theorem dX11_edge_18 : decode cX11_edge 18 = .ok (.if_icmp .le 6, 3) := by decide +kernel
theorem dX11_edge_21 : decode cX11_edge 21 = .ok (.ldc 71, 2) := by decide +kernel
theorem dX11_edge_23 : decode cX11_edge 23 = .ok (.ireturn, 1) := by decide +kernel
theorem dX11_edge_24 : decode cX11_edge 24 = .ok (.aload_n 0, 1) := by decide +kernel
theorem dX11_edge_25 : decode cX11_edge 25 = .ok (.getfield 25, 3) := by decide +kernel
theorem dX11_edge_28 : decode cX11_edge 28 = .ok (.aload_n 0, 1) := by decide +kernel
theorem dX11_edge_29 : decode cX11_edge 29 = .ok (.getfield 20, 3) := by decide +kernel
theorem dX11_edge_32 : decode cX11_edge 32 = .ok (.invokevirtual 72, 3) := by decide +kernel
theorem dX11_edge_35 : decode cX11_edge 35 = .ok (.aload_n 0, 1) := by decide +kernel
theorem dX11_edge_36 : decode cX11_edge 36 = .ok (.getfield 25, 3) := by decide +kernel
theorem dX11_edge_39 : decode cX11_edge 39 = .ok (.getfield 119, 3) := by decide +kernel
theorem dX11_edge_42 : decode cX11_edge 42 = .ok (.bipush 6, 2) := by decide +kernel
theorem dX11_edge_44 : decode cX11_edge 44 = .ok (.iload_n 1, 1) := by decide +kernel
theorem dX11_edge_45 : decode cX11_edge 45 = .ok (.imul, 1) := by decide +kernel
theorem dX11_edge_46 : decode cX11_edge 46 = .ok (.iload_n 2, 1) := by decide +kernel
theorem dX11_edge_47 : decode cX11_edge 47 = .ok (.iadd, 1) := by decide +kernel
theorem dX11_edge_48 : decode cX11_edge 48 = .ok (.iaload, 1) := by decide +kernel
theorem dX11_edge_49 : decode cX11_edge 49 = .ok (.istore 4, 2) := by decide +kernel
theorem dX11_edge_51 : decode cX11_edge 51 = .ok (.iload_n 3, 1) := by decide +kernel
theorem dX11_edge_52 : decode cX11_edge 52 = .ok (.lookupswitch 42 #[(0, 28), (1, 31)], 28) := by decide +kernel
theorem dX11_edge_80 : decode cX11_edge 80 = .ok (.iload 4, 2) := by decide +kernel
theorem dX11_edge_82 : decode cX11_edge 82 = .ok (.ireturn, 1) := by decide +kernel
theorem dX11_edge_83 : decode cX11_edge 83 = .ok (.aload_n 0, 1) := by decide +kernel
theorem dX11_edge_84 : decode cX11_edge 84 = .ok (.getfield 25, 3) := by decide +kernel
theorem dX11_edge_87 : decode cX11_edge 87 = .ok (.getfield 122, 3) := by decide +kernel
theorem dX11_edge_90 : decode cX11_edge 90 = .ok (.iload 4, 2) := by decide +kernel
theorem dX11_edge_92 : decode cX11_edge 92 = .ok (.iaload, 1) := by decide +kernel
theorem dX11_edge_93 : decode cX11_edge 93 = .ok (.ireturn, 1) := by decide +kernel
theorem dX11_edge_94 : decode cX11_edge 94 = .ok (.aload_n 0, 1) := by decide +kernel
theorem dX11_edge_95 : decode cX11_edge 95 = .ok (.getfield 25, 3) := by decide +kernel
theorem dX11_edge_98 : decode cX11_edge 98 = .ok (.iload 4, 2) := by decide +kernel
theorem dX11_edge_100 : decode cX11_edge 100 = .ok (.invokevirtual 125, 3) := by decide +kernel
theorem dX11_edge_103 : decode cX11_edge 103 = .ok (.ifCond .eq 7, 3) := by decide +kernel
theorem dX11_edge_106 : decode cX11_edge 106 = .ok (.iconst 1, 1) := by decide +kernel
theorem dX11_edge_107 : decode cX11_edge 107 = .ok (.goto 4, 3) := by decide +kernel
theorem dX11_edge_110 : decode cX11_edge 110 = .ok (.iconst 0, 1) := by decide +kernel
theorem dX11_edge_111 : decode cX11_edge 111 = .ok (.ireturn, 1) := by decide +kernel
theorem dX11_pieces_0 : decode cX11_pieces 0 = .ok (.aload_n 0, 1) := by decide +kernel
theorem dX11_pieces_1 : decode cX11_pieces 1 = .ok (.iload_n 1, 1) := by decide +kernel
theorem dX11_pieces_2 : decode cX11_pieces 2 = .ok (.invokevirtual 129, 3) := by decide +kernel
theorem dX11_pieces_5 : decode cX11_pieces 5 = .ok (.ifCond .eq 11, 3) := by decide +kernel
theorem dX11_pieces_8 : decode cX11_pieces 8 = .ok (.aload_n 0, 1) := by decide +kernel
theorem dX11_pieces_9 : decode cX11_pieces 9 = .ok (.iload_n 2, 1) := by decide +kernel
theorem dX11_pieces_10 : decode cX11_pieces 10 = .ok (.invokevirtual 132, 3) := by decide +kernel
theorem dX11_pieces_13 : decode cX11_pieces 13 = .ok (.ifCond .ne 6, 3) := by decide +kernel
theorem dX11_pieces_16 : decode cX11_pieces 16 = .ok (.ldc 101, 2) := by decide +kernel
theorem dX11_pieces_18 : decode cX11_pieces 18 = .ok (.ireturn, 1) := by decide +kernel
theorem dX11_pieces_19 : decode cX11_pieces 19 = .ok (.iload_n 3, 1) := by decide +kernel
theorem dX11_pieces_20 : decode cX11_pieces 20 = .ok (.invokestatic 135, 3) := by decide +kernel
theorem dX11_pieces_23 : decode cX11_pieces 23 = .ok (.ifCond .ne 6, 3) := by decide +kernel
theorem dX11_pieces_26 : decode cX11_pieces 26 = .ok (.ldc 71, 2) := by decide +kernel
theorem dX11_pieces_28 : decode cX11_pieces 28 = .ok (.ireturn, 1) := by decide +kernel
theorem dX11_pieces_29 : decode cX11_pieces 29 = .ok (.aload_n 0, 1) := by decide +kernel
theorem dX11_pieces_30 : decode cX11_pieces 30 = .ok (.getfield 20, 3) := by decide +kernel
theorem dX11_pieces_33 : decode cX11_pieces 33 = .ok (.getfield 138, 3) := by decide +kernel
theorem dX11_pieces_36 : decode cX11_pieces 36 = .ok (.iload_n 1, 1) := by decide +kernel
theorem dX11_pieces_37 : decode cX11_pieces 37 = .ok (.aaload, 1) := by decide +kernel
theorem dX11_pieces_38 : decode cX11_pieces 38 = .ok (.getfield 142, 3) := by decide +kernel
theorem dX11_pieces_41 : decode cX11_pieces 41 = .ok (.bipush 7, 2) := by decide +kernel
theorem dX11_pieces_43 : decode cX11_pieces 43 = .ok (.iload_n 2, 1) := by decide +kernel
theorem dX11_pieces_44 : decode cX11_pieces 44 = .ok (.imul, 1) := by decide +kernel
theorem dX11_pieces_45 : decode cX11_pieces 45 = .ok (.iload_n 3, 1) := by decide +kernel
theorem dX11_pieces_46 : decode cX11_pieces 46 = .ok (.iadd, 1) := by decide +kernel
theorem dX11_pieces_47 : decode cX11_pieces 47 = .ok (.iaload, 1) := by decide +kernel
theorem dX11_pieces_48 : decode cX11_pieces 48 = .ok (.ireturn, 1) := by decide +kernel
theorem dX11_surface_0 : decode cX11_surface 0 = .ok (.aload_n 0, 1) := by decide +kernel
theorem dX11_surface_1 : decode cX11_surface 1 = .ok (.iload_n 1, 1) := by decide +kernel
theorem dX11_surface_2 : decode cX11_surface 2 = .ok (.invokevirtual 129, 3) := by decide +kernel
theorem dX11_surface_5 : decode cX11_surface 5 = .ok (.ifCond .ne 6, 3) := by decide +kernel
theorem dX11_surface_8 : decode cX11_surface 8 = .ok (.ldc 101, 2) := by decide +kernel
theorem dX11_surface_10 : decode cX11_surface 10 = .ok (.ireturn, 1) := by decide +kernel
theorem dX11_surface_11 : decode cX11_surface 11 = .ok (.iload_n 2, 1) := by decide +kernel
theorem dX11_surface_12 : decode cX11_surface 12 = .ok (.ifCond .lt 9, 3) := by decide +kernel
theorem dX11_surface_15 : decode cX11_surface 15 = .ok (.iload_n 2, 1) := by decide +kernel
theorem dX11_surface_16 : decode cX11_surface 16 = .ok (.bipush 8, 2) := by decide +kernel
theorem dX11_surface_18 : decode cX11_surface 18 = .ok (.if_icmp .le 6, 3) := by decide +kernel
theorem dX11_surface_21 : decode cX11_surface 21 = .ok (.ldc 71, 2) := by decide +kernel
theorem dX11_surface_23 : decode cX11_surface 23 = .ok (.ireturn, 1) := by decide +kernel
theorem dX11_surface_24 : decode cX11_surface 24 = .ok (.aload_n 0, 1) := by decide +kernel
theorem dX11_surface_25 : decode cX11_surface 25 = .ok (.getfield 20, 3) := by decide +kernel
theorem dX11_surface_28 : decode cX11_surface 28 = .ok (.getfield 138, 3) := by decide +kernel
theorem dX11_surface_31 : decode cX11_surface 31 = .ok (.iload_n 1, 1) := by decide +kernel
theorem dX11_surface_32 : decode cX11_surface 32 = .ok (.aaload, 1) := by decide +kernel
theorem dX11_surface_33 : decode cX11_surface 33 = .ok (.astore_n 3, 1) := by decide +kernel
theorem dX11_surface_34 : decode cX11_surface 34 = .ok (.iload_n 2, 1) := by decide +kernel
theorem dX11_surface_35 : decode cX11_surface 35 = .ok (.tableswitch 60 0 2 #[25, 42, 55], 25) := by decide +kernel
theorem dX11_surface_60 : decode cX11_surface 60 = .ok (.aload_n 0, 1) := by decide +kernel
theorem dX11_surface_61 : decode cX11_surface 61 = .ok (.getfield 10, 3) := by decide +kernel
theorem dX11_surface_64 : decode cX11_surface 64 = .ok (.aload_n 3, 1) := by decide +kernel
theorem dX11_surface_65 : decode cX11_surface 65 = .ok (.invokevirtual 147, 3) := by decide +kernel
theorem dX11_surface_68 : decode cX11_surface 68 = .ok (.ifCond .eq 7, 3) := by decide +kernel
theorem dX11_surface_71 : decode cX11_surface 71 = .ok (.iconst 1, 1) := by decide +kernel
theorem dX11_surface_72 : decode cX11_surface 72 = .ok (.goto 4, 3) := by decide +kernel
theorem dX11_surface_75 : decode cX11_surface 75 = .ok (.iconst 0, 1) := by decide +kernel
theorem dX11_surface_76 : decode cX11_surface 76 = .ok (.ireturn, 1) := by decide +kernel
theorem dX11_surface_77 : decode cX11_surface 77 = .ok (.aload_n 3, 1) := by decide +kernel
theorem dX11_surface_78 : decode cX11_surface 78 = .ok (.invokevirtual 151, 3) := by decide +kernel
theorem dX11_surface_81 : decode cX11_surface 81 = .ok (.ifCond .eq 7, 3) := by decide +kernel
theorem dX11_surface_84 : decode cX11_surface 84 = .ok (.iconst 1, 1) := by decide +kernel
theorem dX11_surface_85 : decode cX11_surface 85 = .ok (.goto 4, 3) := by decide +kernel
theorem dX11_surface_88 : decode cX11_surface 88 = .ok (.iconst 0, 1) := by decide +kernel
theorem dX11_surface_89 : decode cX11_surface 89 = .ok (.ireturn, 1) := by decide +kernel
theorem dX11_surface_90 : decode cX11_surface 90 = .ok (.aload_n 3, 1) := by decide +kernel
theorem dX11_surface_91 : decode cX11_surface 91 = .ok (.invokevirtual 155, 3) := by decide +kernel
theorem dX11_surface_94 : decode cX11_surface 94 = .ok (.ireturn, 1) := by decide +kernel
theorem dX11_surface_95 : decode cX11_surface 95 = .ok (.aload_n 0, 1) := by decide +kernel
theorem dX11_surface_96 : decode cX11_surface 96 = .ok (.getfield 10, 3) := by decide +kernel
theorem dX11_surface_99 : decode cX11_surface 99 = .ok (.aload_n 3, 1) := by decide +kernel
theorem dX11_surface_100 : decode cX11_surface 100 = .ok (.invokevirtual 158, 3) := by decide +kernel
theorem dX11_surface_103 : decode cX11_surface 103 = .ok (.ifCond .ne 5, 3) := by decide +kernel
theorem dX11_surface_106 : decode cX11_surface 106 = .ok (.iconst (-1), 1) := by decide +kernel
theorem dX11_surface_107 : decode cX11_surface 107 = .ok (.ireturn, 1) := by decide +kernel
theorem dX11_surface_108 : decode cX11_surface 108 = .ok (.aload_n 0, 1) := by decide +kernel
theorem dX11_surface_109 : decode cX11_surface 109 = .ok (.getfield 25, 3) := by decide +kernel
theorem dX11_surface_112 : decode cX11_surface 112 = .ok (.aload_n 0, 1) := by decide +kernel
theorem dX11_surface_113 : decode cX11_surface 113 = .ok (.getfield 20, 3) := by decide +kernel
theorem dX11_surface_116 : decode cX11_surface 116 = .ok (.invokevirtual 72, 3) := by decide +kernel
theorem dX11_surface_119 : decode cX11_surface 119 = .ok (.aload_n 0, 1) := by decide +kernel
theorem dX11_surface_120 : decode cX11_surface 120 = .ok (.getfield 10, 3) := by decide +kernel
theorem dX11_surface_123 : decode cX11_surface 123 = .ok (.aload_n 3, 1) := by decide +kernel
theorem dX11_surface_124 : decode cX11_surface 124 = .ok (.iload_n 2, 1) := by decide +kernel
theorem dX11_surface_125 : decode cX11_surface 125 = .ok (.invokevirtual 161, 3) := by decide +kernel
theorem dX11_surface_128 : decode cX11_surface 128 = .ok (.ireturn, 1) := by decide +kernel
theorem dX11_weight_0 : decode cX11_weight 0 = .ok (.aload_n 0, 1) := by decide +kernel
theorem dX11_weight_1 : decode cX11_weight 1 = .ok (.iload_n 1, 1) := by decide +kernel
theorem dX11_weight_2 : decode cX11_weight 2 = .ok (.invokevirtual 129, 3) := by decide +kernel
theorem dX11_weight_5 : decode cX11_weight 5 = .ok (.ifCond .eq 12, 3) := by decide +kernel
theorem dX11_weight_8 : decode cX11_weight 8 = .ok (.aload_n 0, 1) := by decide +kernel
theorem dX11_weight_9 : decode cX11_weight 9 = .ok (.iload_n 2, 1) := by decide +kernel
theorem dX11_weight_10 : decode cX11_weight 10 = .ok (.iload_n 3, 1) := by decide +kernel
theorem dX11_weight_11 : decode cX11_weight 11 = .ok (.invokevirtual 116, 3) := by decide +kernel
theorem dX11_weight_14 : decode cX11_weight 14 = .ok (.ifCond .ne 6, 3) := by decide +kernel
theorem dX11_weight_17 : decode cX11_weight 17 = .ok (.ldc 101, 2) := by decide +kernel
theorem dX11_weight_19 : decode cX11_weight 19 = .ok (.ireturn, 1) := by decide +kernel
theorem dX11_weight_20 : decode cX11_weight 20 = .ok (.aload_n 0, 1) := by decide +kernel
theorem dX11_weight_21 : decode cX11_weight 21 = .ok (.getfield 20, 3) := by decide +kernel
theorem dX11_weight_24 : decode cX11_weight 24 = .ok (.getfield 138, 3) := by decide +kernel
theorem dX11_weight_27 : decode cX11_weight 27 = .ok (.iload_n 1, 1) := by decide +kernel
theorem dX11_weight_28 : decode cX11_weight 28 = .ok (.aaload, 1) := by decide +kernel
theorem dX11_weight_29 : decode cX11_weight 29 = .ok (.iload_n 2, 1) := by decide +kernel
theorem dX11_weight_30 : decode cX11_weight 30 = .ok (.iload_n 3, 1) := by decide +kernel
theorem dX11_weight_31 : decode cX11_weight 31 = .ok (.invokevirtual 165, 3) := by decide +kernel
theorem dX11_weight_34 : decode cX11_weight 34 = .ok (.ireturn, 1) := by decide +kernel
theorem dX11_arcs_0 : decode cX11_arcs 0 = .ok (.aload_n 0, 1) := by decide +kernel
theorem dX11_arcs_1 : decode cX11_arcs 1 = .ok (.iload_n 1, 1) := by decide +kernel
theorem dX11_arcs_2 : decode cX11_arcs 2 = .ok (.invokevirtual 129, 3) := by decide +kernel
theorem dX11_arcs_5 : decode cX11_arcs 5 = .ok (.ifCond .eq 28, 3) := by decide +kernel
theorem dX11_arcs_8 : decode cX11_arcs 8 = .ok (.aload_n 0, 1) := by decide +kernel
theorem dX11_arcs_9 : decode cX11_arcs 9 = .ok (.iload_n 2, 1) := by decide +kernel
theorem dX11_arcs_10 : decode cX11_arcs 10 = .ok (.iload_n 3, 1) := by decide +kernel
theorem dX11_arcs_11 : decode cX11_arcs 11 = .ok (.invokevirtual 97, 3) := by decide +kernel
theorem dX11_arcs_14 : decode cX11_arcs 14 = .ok (.ifCond .eq 19, 3) := by decide +kernel
theorem dX11_arcs_17 : decode cX11_arcs 17 = .ok (.aload_n 0, 1) := by decide +kernel
theorem dX11_arcs_18 : decode cX11_arcs 18 = .ok (.iload_n 2, 1) := by decide +kernel
theorem dX11_arcs_19 : decode cX11_arcs 19 = .ok (.iload 4, 2) := by decide +kernel
theorem dX11_arcs_21 : decode cX11_arcs 21 = .ok (.invokevirtual 97, 3) := by decide +kernel
theorem dX11_arcs_24 : decode cX11_arcs 24 = .ok (.ifCond .eq 9, 3) := by decide +kernel
theorem dX11_arcs_27 : decode cX11_arcs 27 = .ok (.iload 4, 2) := by decide +kernel
theorem dX11_arcs_29 : decode cX11_arcs 29 = .ok (.iload_n 3, 1) := by decide +kernel
theorem dX11_arcs_30 : decode cX11_arcs 30 = .ok (.if_icmp .ne 6, 3) := by decide +kernel
theorem dX11_arcs_33 : decode cX11_arcs 33 = .ok (.ldc 101, 2) := by decide +kernel
theorem dX11_arcs_35 : decode cX11_arcs 35 = .ok (.ireturn, 1) := by decide +kernel
theorem dX11_arcs_36 : decode cX11_arcs 36 = .ok (.aload_n 0, 1) := by decide +kernel
theorem dX11_arcs_37 : decode cX11_arcs 37 = .ok (.getfield 20, 3) := by decide +kernel
theorem dX11_arcs_40 : decode cX11_arcs 40 = .ok (.getfield 138, 3) := by decide +kernel
theorem dX11_arcs_43 : decode cX11_arcs 43 = .ok (.iload_n 1, 1) := by decide +kernel
theorem dX11_arcs_44 : decode cX11_arcs 44 = .ok (.aaload, 1) := by decide +kernel
theorem dX11_arcs_45 : decode cX11_arcs 45 = .ok (.iload_n 2, 1) := by decide +kernel
theorem dX11_arcs_46 : decode cX11_arcs 46 = .ok (.iload_n 3, 1) := by decide +kernel
theorem dX11_arcs_47 : decode cX11_arcs 47 = .ok (.iload 4, 2) := by decide +kernel
theorem dX11_arcs_49 : decode cX11_arcs 49 = .ok (.invokevirtual 168, 3) := by decide +kernel
theorem dX11_arcs_52 : decode cX11_arcs 52 = .ok (.ireturn, 1) := by decide +kernel
theorem dX11_bodies_0 : decode cX11_bodies 0 = .ok (.iload_n 1, 1) := by decide +kernel
theorem dX11_bodies_1 : decode cX11_bodies 1 = .ok (.iconst 1, 1) := by decide +kernel
theorem dX11_bodies_2 : decode cX11_bodies 2 = .ok (.if_icmp .lt 8, 3) := by decide +kernel
theorem dX11_bodies_5 : decode cX11_bodies 5 = .ok (.iload_n 1, 1) := by decide +kernel
theorem dX11_bodies_6 : decode cX11_bodies 6 = .ok (.iconst 3, 1) := by decide +kernel
theorem dX11_bodies_7 : decode cX11_bodies 7 = .ok (.if_icmp .le 6, 3) := by decide +kernel
theorem dX11_bodies_10 : decode cX11_bodies 10 = .ok (.ldc 71, 2) := by decide +kernel
theorem dX11_bodies_12 : decode cX11_bodies 12 = .ok (.ireturn, 1) := by decide +kernel
theorem dX11_bodies_13 : decode cX11_bodies 13 = .ok (.aload_n 0, 1) := by decide +kernel
theorem dX11_bodies_14 : decode cX11_bodies 14 = .ok (.getfield 29, 3) := by decide +kernel
theorem dX11_bodies_17 : decode cX11_bodies 17 = .ok (.aload_n 0, 1) := by decide +kernel
theorem dX11_bodies_18 : decode cX11_bodies 18 = .ok (.getfield 20, 3) := by decide +kernel
theorem dX11_bodies_21 : decode cX11_bodies 21 = .ok (.invokevirtual 172, 3) := by decide +kernel
theorem dX11_bodies_24 : decode cX11_bodies 24 = .ok (.aload_n 0, 1) := by decide +kernel
theorem dX11_bodies_25 : decode cX11_bodies 25 = .ok (.getfield 20, 3) := by decide +kernel
theorem dX11_bodies_28 : decode cX11_bodies 28 = .ok (.getfield 56, 3) := by decide +kernel
theorem dX11_bodies_31 : decode cX11_bodies 31 = .ok (.istore_n 2, 1) := by decide +kernel
theorem dX11_bodies_32 : decode cX11_bodies 32 = .ok (.aload_n 0, 1) := by decide +kernel
theorem dX11_bodies_33 : decode cX11_bodies 33 = .ok (.getfield 20, 3) := by decide +kernel
theorem dX11_bodies_36 : decode cX11_bodies 36 = .ok (.iload_n 1, 1) := by decide +kernel
theorem dX11_bodies_37 : decode cX11_bodies 37 = .ok (.invokevirtual 175, 3) := by decide +kernel
theorem dX11_bodies_40 : decode cX11_bodies 40 = .ok (.iload_n 2, 1) := by decide +kernel
theorem dX11_bodies_41 : decode cX11_bodies 41 = .ok (.ireturn, 1) := by decide +kernel
theorem dX11_glue_0 : decode cX11_glue 0 = .ok (.aload_n 0, 1) := by decide +kernel
theorem dX11_glue_1 : decode cX11_glue 1 = .ok (.iload_n 1, 1) := by decide +kernel
theorem dX11_glue_2 : decode cX11_glue 2 = .ok (.iload_n 2, 1) := by decide +kernel
theorem dX11_glue_3 : decode cX11_glue 3 = .ok (.invokevirtual 97, 3) := by decide +kernel
theorem dX11_glue_6 : decode cX11_glue 6 = .ok (.ifCond .eq 13, 3) := by decide +kernel
theorem dX11_glue_9 : decode cX11_glue 9 = .ok (.aload_n 0, 1) := by decide +kernel
theorem dX11_glue_10 : decode cX11_glue 10 = .ok (.iload_n 3, 1) := by decide +kernel
theorem dX11_glue_11 : decode cX11_glue 11 = .ok (.iload 4, 2) := by decide +kernel
theorem dX11_glue_13 : decode cX11_glue 13 = .ok (.invokevirtual 97, 3) := by decide +kernel
theorem dX11_glue_16 : decode cX11_glue 16 = .ok (.ifCond .ne 6, 3) := by decide +kernel
theorem dX11_glue_19 : decode cX11_glue 19 = .ok (.ldc 101, 2) := by decide +kernel
theorem dX11_glue_21 : decode cX11_glue 21 = .ok (.ireturn, 1) := by decide +kernel
theorem dX11_glue_22 : decode cX11_glue 22 = .ok (.iload 5, 2) := by decide +kernel
theorem dX11_glue_24 : decode cX11_glue 24 = .ok (.ifCond .lt 9, 3) := by decide +kernel
theorem dX11_glue_27 : decode cX11_glue 27 = .ok (.iload 5, 2) := by decide +kernel
theorem dX11_glue_29 : decode cX11_glue 29 = .ok (.iconst 5, 1) := by decide +kernel
theorem dX11_glue_30 : decode cX11_glue 30 = .ok (.if_icmp .le 6, 3) := by decide +kernel
theorem dX11_glue_33 : decode cX11_glue 33 = .ok (.ldc 71, 2) := by decide +kernel
theorem dX11_glue_35 : decode cX11_glue 35 = .ok (.ireturn, 1) := by decide +kernel
theorem dX11_glue_36 : decode cX11_glue 36 = .ok (.aload_n 0, 1) := by decide +kernel
theorem dX11_glue_37 : decode cX11_glue 37 = .ok (.getfield 20, 3) := by decide +kernel
theorem dX11_glue_40 : decode cX11_glue 40 = .ok (.iconst 4, 1) := by decide +kernel
theorem dX11_glue_41 : decode cX11_glue 41 = .ok (.iload_n 1, 1) := by decide +kernel
theorem dX11_glue_42 : decode cX11_glue 42 = .ok (.imul, 1) := by decide +kernel
theorem dX11_glue_43 : decode cX11_glue 43 = .ok (.iload_n 2, 1) := by decide +kernel
theorem dX11_glue_44 : decode cX11_glue 44 = .ok (.iadd, 1) := by decide +kernel
theorem dX11_glue_45 : decode cX11_glue 45 = .ok (.iconst 4, 1) := by decide +kernel
theorem dX11_glue_46 : decode cX11_glue 46 = .ok (.iload_n 3, 1) := by decide +kernel
theorem dX11_glue_47 : decode cX11_glue 47 = .ok (.imul, 1) := by decide +kernel
theorem dX11_glue_48 : decode cX11_glue 48 = .ok (.iload 4, 2) := by decide +kernel
theorem dX11_glue_50 : decode cX11_glue 50 = .ok (.iadd, 1) := by decide +kernel
theorem dX11_glue_51 : decode cX11_glue 51 = .ok (.invokevirtual 179, 3) := by decide +kernel
theorem dX11_glue_54 : decode cX11_glue 54 = .ok (.ifCond .ne 6, 3) := by decide +kernel
theorem dX11_glue_57 : decode cX11_glue 57 = .ok (.ldc 182, 2) := by decide +kernel
theorem dX11_glue_59 : decode cX11_glue 59 = .ok (.ireturn, 1) := by decide +kernel
theorem dX11_glue_60 : decode cX11_glue 60 = .ok (.aload_n 0, 1) := by decide +kernel
theorem dX11_glue_61 : decode cX11_glue 61 = .ok (.getfield 29, 3) := by decide +kernel
theorem dX11_glue_64 : decode cX11_glue 64 = .ok (.aload_n 0, 1) := by decide +kernel
theorem dX11_glue_65 : decode cX11_glue 65 = .ok (.getfield 20, 3) := by decide +kernel
theorem dX11_glue_68 : decode cX11_glue 68 = .ok (.invokevirtual 172, 3) := by decide +kernel
theorem dX11_glue_71 : decode cX11_glue 71 = .ok (.aload_n 0, 1) := by decide +kernel
theorem dX11_glue_72 : decode cX11_glue 72 = .ok (.getfield 20, 3) := by decide +kernel
theorem dX11_glue_75 : decode cX11_glue 75 = .ok (.iconst 4, 1) := by decide +kernel
theorem dX11_glue_76 : decode cX11_glue 76 = .ok (.iload_n 1, 1) := by decide +kernel
theorem dX11_glue_77 : decode cX11_glue 77 = .ok (.imul, 1) := by decide +kernel
theorem dX11_glue_78 : decode cX11_glue 78 = .ok (.iload_n 2, 1) := by decide +kernel
theorem dX11_glue_79 : decode cX11_glue 79 = .ok (.iadd, 1) := by decide +kernel
theorem dX11_glue_80 : decode cX11_glue 80 = .ok (.iconst 4, 1) := by decide +kernel
theorem dX11_glue_81 : decode cX11_glue 81 = .ok (.iload_n 3, 1) := by decide +kernel
theorem dX11_glue_82 : decode cX11_glue 82 = .ok (.imul, 1) := by decide +kernel
theorem dX11_glue_83 : decode cX11_glue 83 = .ok (.iload 4, 2) := by decide +kernel
theorem dX11_glue_85 : decode cX11_glue 85 = .ok (.iadd, 1) := by decide +kernel
theorem dX11_glue_86 : decode cX11_glue 86 = .ok (.iload 5, 2) := by decide +kernel
theorem dX11_glue_88 : decode cX11_glue 88 = .ok (.invokevirtual 183, 3) := by decide +kernel
theorem dX11_glue_91 : decode cX11_glue 91 = .ok (.aload_n 0, 1) := by decide +kernel
theorem dX11_glue_92 : decode cX11_glue 92 = .ok (.getfield 20, 3) := by decide +kernel
theorem dX11_glue_95 : decode cX11_glue 95 = .ok (.invokevirtual 62, 3) := by decide +kernel
theorem dX11_glue_98 : decode cX11_glue 98 = .ok (.ireturn, 1) := by decide +kernel
theorem dX11_free_0 : decode cX11_free 0 = .ok (.aload_n 0, 1) := by decide +kernel
theorem dX11_free_1 : decode cX11_free 1 = .ok (.iload_n 1, 1) := by decide +kernel
theorem dX11_free_2 : decode cX11_free 2 = .ok (.iload_n 2, 1) := by decide +kernel
theorem dX11_free_3 : decode cX11_free 3 = .ok (.invokevirtual 97, 3) := by decide +kernel
theorem dX11_free_6 : decode cX11_free 6 = .ok (.ifCond .ne 6, 3) := by decide +kernel
theorem dX11_free_9 : decode cX11_free 9 = .ok (.ldc 101, 2) := by decide +kernel
theorem dX11_free_11 : decode cX11_free 11 = .ok (.ireturn, 1) := by decide +kernel
theorem dX11_free_12 : decode cX11_free 12 = .ok (.aload_n 0, 1) := by decide +kernel
theorem dX11_free_13 : decode cX11_free 13 = .ok (.getfield 20, 3) := by decide +kernel
theorem dX11_free_16 : decode cX11_free 16 = .ok (.getfield 102, 3) := by decide +kernel
theorem dX11_free_19 : decode cX11_free 19 = .ok (.iconst 4, 1) := by decide +kernel
theorem dX11_free_20 : decode cX11_free 20 = .ok (.iload_n 1, 1) := by decide +kernel
theorem dX11_free_21 : decode cX11_free 21 = .ok (.imul, 1) := by decide +kernel
theorem dX11_free_22 : decode cX11_free 22 = .ok (.iload_n 2, 1) := by decide +kernel
theorem dX11_free_23 : decode cX11_free 23 = .ok (.iadd, 1) := by decide +kernel
theorem dX11_free_24 : decode cX11_free 24 = .ok (.iaload, 1) := by decide +kernel
theorem dX11_free_25 : decode cX11_free 25 = .ok (.ifCond .ge 6, 3) := by decide +kernel
theorem dX11_free_28 : decode cX11_free 28 = .ok (.ldc 182, 2) := by decide +kernel
theorem dX11_free_30 : decode cX11_free 30 = .ok (.ireturn, 1) := by decide +kernel
theorem dX11_free_31 : decode cX11_free 31 = .ok (.aload_n 0, 1) := by decide +kernel
theorem dX11_free_32 : decode cX11_free 32 = .ok (.getfield 29, 3) := by decide +kernel
theorem dX11_free_35 : decode cX11_free 35 = .ok (.aload_n 0, 1) := by decide +kernel
theorem dX11_free_36 : decode cX11_free 36 = .ok (.getfield 20, 3) := by decide +kernel
theorem dX11_free_39 : decode cX11_free 39 = .ok (.invokevirtual 172, 3) := by decide +kernel
theorem dX11_free_42 : decode cX11_free 42 = .ok (.aload_n 0, 1) := by decide +kernel
theorem dX11_free_43 : decode cX11_free 43 = .ok (.getfield 20, 3) := by decide +kernel
theorem dX11_free_46 : decode cX11_free 46 = .ok (.iconst 4, 1) := by decide +kernel
theorem dX11_free_47 : decode cX11_free 47 = .ok (.iload_n 1, 1) := by decide +kernel
theorem dX11_free_48 : decode cX11_free 48 = .ok (.imul, 1) := by decide +kernel
theorem dX11_free_49 : decode cX11_free 49 = .ok (.iload_n 2, 1) := by decide +kernel
theorem dX11_free_50 : decode cX11_free 50 = .ok (.iadd, 1) := by decide +kernel
theorem dX11_free_51 : decode cX11_free 51 = .ok (.invokevirtual 187, 3) := by decide +kernel
theorem dX11_free_54 : decode cX11_free 54 = .ok (.aload_n 0, 1) := by decide +kernel
theorem dX11_free_55 : decode cX11_free 55 = .ok (.getfield 20, 3) := by decide +kernel
theorem dX11_free_58 : decode cX11_free 58 = .ok (.invokevirtual 62, 3) := by decide +kernel
theorem dX11_free_61 : decode cX11_free 61 = .ok (.ireturn, 1) := by decide +kernel
theorem dX11_put_0 : decode cX11_put 0 = .ok (.aload_n 0, 1) := by decide +kernel
theorem dX11_put_1 : decode cX11_put 1 = .ok (.getfield 20, 3) := by decide +kernel
theorem dX11_put_4 : decode cX11_put 4 = .ok (.invokevirtual 190, 3) := by decide +kernel
theorem dX11_put_7 : decode cX11_put 7 = .ok (.ifCond .eq 6, 3) := by decide +kernel
theorem dX11_put_10 : decode cX11_put 10 = .ok (.ldc 193, 2) := by decide +kernel
theorem dX11_put_12 : decode cX11_put 12 = .ok (.ireturn, 1) := by decide +kernel
theorem dX11_put_13 : decode cX11_put 13 = .ok (.aload_n 0, 1) := by decide +kernel
theorem dX11_put_14 : decode cX11_put 14 = .ok (.getfield 29, 3) := by decide +kernel
theorem dX11_put_17 : decode cX11_put 17 = .ok (.aload_n 0, 1) := by decide +kernel
theorem dX11_put_18 : decode cX11_put 18 = .ok (.getfield 20, 3) := by decide +kernel
theorem dX11_put_21 : decode cX11_put 21 = .ok (.invokevirtual 172, 3) := by decide +kernel
theorem dX11_put_24 : decode cX11_put 24 = .ok (.aload_n 0, 1) := by decide +kernel
theorem dX11_put_25 : decode cX11_put 25 = .ok (.getfield 20, 3) := by decide +kernel
theorem dX11_put_28 : decode cX11_put 28 = .ok (.getfield 138, 3) := by decide +kernel
theorem dX11_put_31 : decode cX11_put 31 = .ok (.aload_n 0, 1) := by decide +kernel
theorem dX11_put_32 : decode cX11_put 32 = .ok (.getfield 20, 3) := by decide +kernel
theorem dX11_put_35 : decode cX11_put 35 = .ok (.getfield 66, 3) := by decide +kernel
theorem dX11_put_38 : decode cX11_put 38 = .ok (.aaload, 1) := by decide +kernel
theorem dX11_put_39 : decode cX11_put 39 = .ok (.invokevirtual 194, 3) := by decide +kernel
theorem dX11_put_42 : decode cX11_put 42 = .ok (.aload_n 0, 1) := by decide +kernel
theorem dX11_put_43 : decode cX11_put 43 = .ok (.getfield 20, 3) := by decide +kernel
theorem dX11_put_46 : decode cX11_put 46 = .ok (.invokevirtual 197, 3) := by decide +kernel
theorem dX11_put_49 : decode cX11_put 49 = .ok (.ireturn, 1) := by decide +kernel
theorem dX11_piece_0 : decode cX11_piece 0 = .ok (.aload_n 0, 1) := by decide +kernel
theorem dX11_piece_1 : decode cX11_piece 1 = .ok (.iload_n 1, 1) := by decide +kernel
theorem dX11_piece_2 : decode cX11_piece 2 = .ok (.invokevirtual 129, 3) := by decide +kernel
theorem dX11_piece_5 : decode cX11_piece 5 = .ok (.ifCond .eq 11, 3) := by decide +kernel
theorem dX11_piece_8 : decode cX11_piece 8 = .ok (.aload_n 0, 1) := by decide +kernel
theorem dX11_piece_9 : decode cX11_piece 9 = .ok (.iload_n 2, 1) := by decide +kernel
theorem dX11_piece_10 : decode cX11_piece 10 = .ok (.invokevirtual 132, 3) := by decide +kernel
theorem dX11_piece_13 : decode cX11_piece 13 = .ok (.ifCond .ne 6, 3) := by decide +kernel
theorem dX11_piece_16 : decode cX11_piece 16 = .ok (.ldc 101, 2) := by decide +kernel
theorem dX11_piece_18 : decode cX11_piece 18 = .ok (.ireturn, 1) := by decide +kernel
theorem dX11_piece_19 : decode cX11_piece 19 = .ok (.iload_n 3, 1) := by decide +kernel
theorem dX11_piece_20 : decode cX11_piece 20 = .ok (.invokestatic 135, 3) := by decide +kernel
theorem dX11_piece_23 : decode cX11_piece 23 = .ok (.ifCond .eq 15, 3) := by decide +kernel
theorem dX11_piece_26 : decode cX11_piece 26 = .ok (.iload 4, 2) := by decide +kernel
theorem dX11_piece_28 : decode cX11_piece 28 = .ok (.ifCond .lt 10, 3) := by decide +kernel
theorem dX11_piece_31 : decode cX11_piece 31 = .ok (.iload 4, 2) := by decide +kernel
theorem dX11_piece_33 : decode cX11_piece 33 = .ok (.bipush 20, 2) := by decide +kernel
theorem dX11_piece_35 : decode cX11_piece 35 = .ok (.if_icmp .le 6, 3) := by decide +kernel
theorem dX11_piece_38 : decode cX11_piece 38 = .ok (.ldc 71, 2) := by decide +kernel
theorem dX11_piece_40 : decode cX11_piece 40 = .ok (.ireturn, 1) := by decide +kernel
theorem dX11_piece_41 : decode cX11_piece 41 = .ok (.aload_n 0, 1) := by decide +kernel
theorem dX11_piece_42 : decode cX11_piece 42 = .ok (.getfield 29, 3) := by decide +kernel
theorem dX11_piece_45 : decode cX11_piece 45 = .ok (.aload_n 0, 1) := by decide +kernel
theorem dX11_piece_46 : decode cX11_piece 46 = .ok (.getfield 20, 3) := by decide +kernel
theorem dX11_piece_49 : decode cX11_piece 49 = .ok (.invokevirtual 172, 3) := by decide +kernel
theorem dX11_piece_52 : decode cX11_piece 52 = .ok (.aload_n 0, 1) := by decide +kernel
theorem dX11_piece_53 : decode cX11_piece 53 = .ok (.getfield 20, 3) := by decide +kernel
theorem dX11_piece_56 : decode cX11_piece 56 = .ok (.getfield 138, 3) := by decide +kernel
theorem dX11_piece_59 : decode cX11_piece 59 = .ok (.iload_n 1, 1) := by decide +kernel
theorem dX11_piece_60 : decode cX11_piece 60 = .ok (.aaload, 1) := by decide +kernel
theorem dX11_piece_61 : decode cX11_piece 61 = .ok (.getfield 142, 3) := by decide +kernel
theorem dX11_piece_64 : decode cX11_piece 64 = .ok (.astore 5, 2) := by decide +kernel
theorem dX11_piece_66 : decode cX11_piece 66 = .ok (.aload 5, 2) := by decide +kernel
theorem dX11_piece_68 : decode cX11_piece 68 = .ok (.bipush 7, 2) := by decide +kernel
theorem dX11_piece_70 : decode cX11_piece 70 = .ok (.iload_n 2, 1) := by decide +kernel
theorem dX11_piece_71 : decode cX11_piece 71 = .ok (.imul, 1) := by decide +kernel
theorem dX11_piece_72 : decode cX11_piece 72 = .ok (.iload_n 3, 1) := by decide +kernel
theorem dX11_piece_73 : decode cX11_piece 73 = .ok (.iadd, 1) := by decide +kernel
theorem dX11_piece_74 : decode cX11_piece 74 = .ok (.iaload, 1) := by decide +kernel
theorem dX11_piece_75 : decode cX11_piece 75 = .ok (.istore 6, 2) := by decide +kernel
theorem dX11_piece_77 : decode cX11_piece 77 = .ok (.aload 5, 2) := by decide +kernel
theorem dX11_piece_79 : decode cX11_piece 79 = .ok (.bipush 7, 2) := by decide +kernel
theorem dX11_piece_81 : decode cX11_piece 81 = .ok (.iload_n 2, 1) := by decide +kernel
theorem dX11_piece_82 : decode cX11_piece 82 = .ok (.imul, 1) := by decide +kernel
theorem dX11_piece_83 : decode cX11_piece 83 = .ok (.iload_n 3, 1) := by decide +kernel
theorem dX11_piece_84 : decode cX11_piece 84 = .ok (.iadd, 1) := by decide +kernel
theorem dX11_piece_85 : decode cX11_piece 85 = .ok (.iload 4, 2) := by decide +kernel
theorem dX11_piece_87 : decode cX11_piece 87 = .ok (.iastore, 1) := by decide +kernel
theorem dX11_piece_88 : decode cX11_piece 88 = .ok (.iload 6, 2) := by decide +kernel
theorem dX11_piece_90 : decode cX11_piece 90 = .ok (.ireturn, 1) := by decide +kernel
theorem dX11_about_0 : decode cX11_about 0 = .ok (.aload_n 0, 1) := by decide +kernel
theorem dX11_about_1 : decode cX11_about 1 = .ok (.getfield 25, 3) := by decide +kernel
theorem dX11_about_4 : decode cX11_about 4 = .ok (.aload_n 0, 1) := by decide +kernel
theorem dX11_about_5 : decode cX11_about 5 = .ok (.getfield 20, 3) := by decide +kernel
theorem dX11_about_8 : decode cX11_about 8 = .ok (.invokevirtual 72, 3) := by decide +kernel
theorem dX11_about_11 : decode cX11_about 11 = .ok (.iload_n 1, 1) := by decide +kernel
theorem dX11_about_12 : decode cX11_about 12 = .ok (.ifCond .lt 14, 3) := by decide +kernel
theorem dX11_about_15 : decode cX11_about 15 = .ok (.iload_n 1, 1) := by decide +kernel
theorem dX11_about_16 : decode cX11_about 16 = .ok (.aload_n 0, 1) := by decide +kernel
theorem dX11_about_17 : decode cX11_about 17 = .ok (.getfield 25, 3) := by decide +kernel
theorem dX11_about_20 : decode cX11_about 20 = .ok (.getfield 78, 3) := by decide +kernel
theorem dX11_about_23 : decode cX11_about 23 = .ok (.if_icmp .lt 6, 3) := by decide +kernel
theorem dX11_about_26 : decode cX11_about 26 = .ok (.ldc 101, 2) := by decide +kernel
theorem dX11_about_28 : decode cX11_about 28 = .ok (.ireturn, 1) := by decide +kernel
theorem dX11_about_29 : decode cX11_about 29 = .ok (.aload_n 0, 1) := by decide +kernel
theorem dX11_about_30 : decode cX11_about 30 = .ok (.getfield 20, 3) := by decide +kernel
theorem dX11_about_33 : decode cX11_about 33 = .ok (.invokevirtual 190, 3) := by decide +kernel
theorem dX11_about_36 : decode cX11_about 36 = .ok (.ifCond .eq 6, 3) := by decide +kernel
theorem dX11_about_39 : decode cX11_about 39 = .ok (.ldc 193, 2) := by decide +kernel
theorem dX11_about_41 : decode cX11_about 41 = .ok (.ireturn, 1) := by decide +kernel
theorem dX11_about_42 : decode cX11_about 42 = .ok (.aload_n 0, 1) := by decide +kernel
theorem dX11_about_43 : decode cX11_about 43 = .ok (.getfield 29, 3) := by decide +kernel
theorem dX11_about_46 : decode cX11_about 46 = .ok (.aload_n 0, 1) := by decide +kernel
theorem dX11_about_47 : decode cX11_about 47 = .ok (.getfield 20, 3) := by decide +kernel
theorem dX11_about_50 : decode cX11_about 50 = .ok (.invokevirtual 172, 3) := by decide +kernel
theorem dX11_about_53 : decode cX11_about 53 = .ok (.aload_n 0, 1) := by decide +kernel
theorem dX11_about_54 : decode cX11_about 54 = .ok (.getfield 10, 3) := by decide +kernel
theorem dX11_about_57 : decode cX11_about 57 = .ok (.iload_n 1, 1) := by decide +kernel
theorem dX11_about_58 : decode cX11_about 58 = .ok (.aload_n 0, 1) := by decide +kernel
theorem dX11_about_59 : decode cX11_about 59 = .ok (.getfield 20, 3) := by decide +kernel
theorem dX11_about_62 : decode cX11_about 62 = .ok (.getfield 138, 3) := by decide +kernel
theorem dX11_about_65 : decode cX11_about 65 = .ok (.aload_n 0, 1) := by decide +kernel
theorem dX11_about_66 : decode cX11_about 66 = .ok (.getfield 20, 3) := by decide +kernel
theorem dX11_about_69 : decode cX11_about 69 = .ok (.getfield 66, 3) := by decide +kernel
theorem dX11_about_72 : decode cX11_about 72 = .ok (.aaload, 1) := by decide +kernel
theorem dX11_about_73 : decode cX11_about 73 = .ok (.invokevirtual 200, 3) := by decide +kernel
theorem dX11_about_76 : decode cX11_about 76 = .ok (.aload_n 0, 1) := by decide +kernel
theorem dX11_about_77 : decode cX11_about 77 = .ok (.getfield 20, 3) := by decide +kernel
theorem dX11_about_80 : decode cX11_about 80 = .ok (.invokevirtual 197, 3) := by decide +kernel
theorem dX11_about_83 : decode cX11_about 83 = .ok (.ireturn, 1) := by decide +kernel
theorem dX11_add_0 : decode cX11_add 0 = .ok (.aload_n 0, 1) := by decide +kernel
theorem dX11_add_1 : decode cX11_add 1 = .ok (.iload_n 1, 1) := by decide +kernel
theorem dX11_add_2 : decode cX11_add 2 = .ok (.invokevirtual 129, 3) := by decide +kernel
theorem dX11_add_5 : decode cX11_add 5 = .ok (.ifCond .eq 11, 3) := by decide +kernel
theorem dX11_add_8 : decode cX11_add 8 = .ok (.aload_n 0, 1) := by decide +kernel
theorem dX11_add_9 : decode cX11_add 9 = .ok (.iload_n 2, 1) := by decide +kernel
theorem dX11_add_10 : decode cX11_add 10 = .ok (.invokevirtual 129, 3) := by decide +kernel
theorem dX11_add_13 : decode cX11_add 13 = .ok (.ifCond .ne 6, 3) := by decide +kernel
theorem dX11_add_16 : decode cX11_add 16 = .ok (.ldc 101, 2) := by decide +kernel
theorem dX11_add_18 : decode cX11_add 18 = .ok (.ireturn, 1) := by decide +kernel
theorem dX11_add_19 : decode cX11_add 19 = .ok (.aload_n 0, 1) := by decide +kernel
theorem dX11_add_20 : decode cX11_add 20 = .ok (.getfield 20, 3) := by decide +kernel
theorem dX11_add_23 : decode cX11_add 23 = .ok (.invokevirtual 190, 3) := by decide +kernel
theorem dX11_add_26 : decode cX11_add 26 = .ok (.ifCond .eq 6, 3) := by decide +kernel
theorem dX11_add_29 : decode cX11_add 29 = .ok (.ldc 193, 2) := by decide +kernel
theorem dX11_add_31 : decode cX11_add 31 = .ok (.ireturn, 1) := by decide +kernel
theorem dX11_add_32 : decode cX11_add 32 = .ok (.aload_n 0, 1) := by decide +kernel
theorem dX11_add_33 : decode cX11_add 33 = .ok (.getfield 20, 3) := by decide +kernel
theorem dX11_add_36 : decode cX11_add 36 = .ok (.getfield 138, 3) := by decide +kernel
theorem dX11_add_39 : decode cX11_add 39 = .ok (.aload_n 0, 1) := by decide +kernel
theorem dX11_add_40 : decode cX11_add 40 = .ok (.getfield 20, 3) := by decide +kernel
theorem dX11_add_43 : decode cX11_add 43 = .ok (.getfield 66, 3) := by decide +kernel
theorem dX11_add_46 : decode cX11_add 46 = .ok (.aaload, 1) := by decide +kernel
theorem dX11_add_47 : decode cX11_add 47 = .ok (.astore_n 3, 1) := by decide +kernel
theorem dX11_add_48 : decode cX11_add 48 = .ok (.aload_n 3, 1) := by decide +kernel
theorem dX11_add_49 : decode cX11_add 49 = .ok (.aload_n 0, 1) := by decide +kernel
theorem dX11_add_50 : decode cX11_add 50 = .ok (.getfield 20, 3) := by decide +kernel
theorem dX11_add_53 : decode cX11_add 53 = .ok (.getfield 138, 3) := by decide +kernel
theorem dX11_add_56 : decode cX11_add 56 = .ok (.iload_n 1, 1) := by decide +kernel
theorem dX11_add_57 : decode cX11_add 57 = .ok (.aaload, 1) := by decide +kernel
theorem dX11_add_58 : decode cX11_add 58 = .ok (.aload_n 0, 1) := by decide +kernel
theorem dX11_add_59 : decode cX11_add 59 = .ok (.getfield 20, 3) := by decide +kernel
theorem dX11_add_62 : decode cX11_add 62 = .ok (.getfield 138, 3) := by decide +kernel
theorem dX11_add_65 : decode cX11_add 65 = .ok (.iload_n 2, 1) := by decide +kernel
theorem dX11_add_66 : decode cX11_add 66 = .ok (.aaload, 1) := by decide +kernel
theorem dX11_add_67 : decode cX11_add 67 = .ok (.invokevirtual 204, 3) := by decide +kernel
theorem dX11_add_70 : decode cX11_add 70 = .ok (.aload_n 3, 1) := by decide +kernel
theorem dX11_add_71 : decode cX11_add 71 = .ok (.invokevirtual 151, 3) := by decide +kernel
theorem dX11_add_74 : decode cX11_add 74 = .ok (.ifCond .ne 12, 3) := by decide +kernel
theorem dX11_add_77 : decode cX11_add 77 = .ok (.aload_n 3, 1) := by decide +kernel
theorem dX11_add_78 : decode cX11_add 78 = .ok (.invokevirtual 208, 3) := by decide +kernel
theorem dX11_add_81 : decode cX11_add 81 = .ok (.bipush 20, 2) := by decide +kernel
theorem dX11_add_83 : decode cX11_add 83 = .ok (.if_icmp .le 6, 3) := by decide +kernel
theorem dX11_add_86 : decode cX11_add 86 = .ok (.ldc 182, 2) := by decide +kernel
theorem dX11_add_88 : decode cX11_add 88 = .ok (.ireturn, 1) := by decide +kernel
theorem dX11_add_89 : decode cX11_add 89 = .ok (.aload_n 0, 1) := by decide +kernel
theorem dX11_add_90 : decode cX11_add 90 = .ok (.getfield 29, 3) := by decide +kernel
theorem dX11_add_93 : decode cX11_add 93 = .ok (.aload_n 0, 1) := by decide +kernel
theorem dX11_add_94 : decode cX11_add 94 = .ok (.getfield 20, 3) := by decide +kernel
theorem dX11_add_97 : decode cX11_add 97 = .ok (.invokevirtual 172, 3) := by decide +kernel
theorem dX11_add_100 : decode cX11_add 100 = .ok (.aload_n 0, 1) := by decide +kernel
theorem dX11_add_101 : decode cX11_add 101 = .ok (.getfield 20, 3) := by decide +kernel
theorem dX11_add_104 : decode cX11_add 104 = .ok (.invokevirtual 197, 3) := by decide +kernel
theorem dX11_add_107 : decode cX11_add 107 = .ok (.ireturn, 1) := by decide +kernel
theorem dX11_take_0 : decode cX11_take 0 = .ok (.aload_n 0, 1) := by decide +kernel
theorem dX11_take_1 : decode cX11_take 1 = .ok (.iload_n 1, 1) := by decide +kernel
theorem dX11_take_2 : decode cX11_take 2 = .ok (.invokevirtual 129, 3) := by decide +kernel
theorem dX11_take_5 : decode cX11_take 5 = .ok (.ifCond .ne 6, 3) := by decide +kernel
theorem dX11_take_8 : decode cX11_take 8 = .ok (.ldc 101, 2) := by decide +kernel
theorem dX11_take_10 : decode cX11_take 10 = .ok (.ireturn, 1) := by decide +kernel
theorem dX11_take_11 : decode cX11_take 11 = .ok (.aload_n 0, 1) := by decide +kernel
theorem dX11_take_12 : decode cX11_take 12 = .ok (.getfield 29, 3) := by decide +kernel
theorem dX11_take_15 : decode cX11_take 15 = .ok (.aload_n 0, 1) := by decide +kernel
theorem dX11_take_16 : decode cX11_take 16 = .ok (.getfield 20, 3) := by decide +kernel
theorem dX11_take_19 : decode cX11_take 19 = .ok (.invokevirtual 172, 3) := by decide +kernel
theorem dX11_take_22 : decode cX11_take 22 = .ok (.aload_n 0, 1) := by decide +kernel
theorem dX11_take_23 : decode cX11_take 23 = .ok (.getfield 20, 3) := by decide +kernel
theorem dX11_take_26 : decode cX11_take 26 = .ok (.iload_n 1, 1) := by decide +kernel
theorem dX11_take_27 : decode cX11_take 27 = .ok (.invokevirtual 211, 3) := by decide +kernel
theorem dX11_take_30 : decode cX11_take 30 = .ok (.aload_n 0, 1) := by decide +kernel
theorem dX11_take_31 : decode cX11_take 31 = .ok (.getfield 20, 3) := by decide +kernel
theorem dX11_take_34 : decode cX11_take 34 = .ok (.getfield 66, 3) := by decide +kernel
theorem dX11_take_37 : decode cX11_take 37 = .ok (.ireturn, 1) := by decide +kernel
theorem dX11_drift_0 : decode cX11_drift 0 = .ok (.iload_n 1, 1) := by decide +kernel
theorem dX11_drift_1 : decode cX11_drift 1 = .ok (.iconst 1, 1) := by decide +kernel
theorem dX11_drift_2 : decode cX11_drift 2 = .ok (.if_icmp .lt 9, 3) := by decide +kernel
theorem dX11_drift_5 : decode cX11_drift 5 = .ok (.iload_n 1, 1) := by decide +kernel
theorem dX11_drift_6 : decode cX11_drift 6 = .ok (.bipush 12, 2) := by decide +kernel
theorem dX11_drift_8 : decode cX11_drift 8 = .ok (.if_icmp .le 6, 3) := by decide +kernel
theorem dX11_drift_11 : decode cX11_drift 11 = .ok (.ldc 71, 2) := by decide +kernel
theorem dX11_drift_13 : decode cX11_drift 13 = .ok (.ireturn, 1) := by decide +kernel
theorem dX11_drift_14 : decode cX11_drift 14 = .ok (.iconst 0, 1) := by decide +kernel
theorem dX11_drift_15 : decode cX11_drift 15 = .ok (.istore_n 2, 1) := by decide +kernel
theorem dX11_drift_16 : decode cX11_drift 16 = .ok (.iload_n 2, 1) := by decide +kernel
theorem dX11_drift_17 : decode cX11_drift 17 = .ok (.iload_n 1, 1) := by decide +kernel
theorem dX11_drift_18 : decode cX11_drift 18 = .ok (.if_icmp .ge 24, 3) := by decide +kernel
theorem dX11_drift_21 : decode cX11_drift 21 = .ok (.aload_n 0, 1) := by decide +kernel
theorem dX11_drift_22 : decode cX11_drift 22 = .ok (.getfield 29, 3) := by decide +kernel
theorem dX11_drift_25 : decode cX11_drift 25 = .ok (.aload_n 0, 1) := by decide +kernel
theorem dX11_drift_26 : decode cX11_drift 26 = .ok (.getfield 20, 3) := by decide +kernel
theorem dX11_drift_29 : decode cX11_drift 29 = .ok (.invokevirtual 172, 3) := by decide +kernel
theorem dX11_drift_32 : decode cX11_drift 32 = .ok (.aload_n 0, 1) := by decide +kernel
theorem dX11_drift_33 : decode cX11_drift 33 = .ok (.invokevirtual 214, 3) := by decide +kernel
theorem dX11_drift_36 : decode cX11_drift 36 = .ok (.iinc 2 1, 3) := by decide +kernel
theorem dX11_drift_39 : decode cX11_drift 39 = .ok (.goto (-23), 3) := by decide +kernel
theorem dX11_drift_42 : decode cX11_drift 42 = .ok (.aload_n 0, 1) := by decide +kernel
theorem dX11_drift_43 : decode cX11_drift 43 = .ok (.getfield 20, 3) := by decide +kernel
theorem dX11_drift_46 : decode cX11_drift 46 = .ok (.invokevirtual 62, 3) := by decide +kernel
theorem dX11_drift_49 : decode cX11_drift 49 = .ok (.ireturn, 1) := by decide +kernel
theorem dX11_undo_0 : decode cX11_undo 0 = .ok (.iload_n 1, 1) := by decide +kernel
theorem dX11_undo_1 : decode cX11_undo 1 = .ok (.iconst 1, 1) := by decide +kernel
theorem dX11_undo_2 : decode cX11_undo 2 = .ok (.if_icmp .lt 9, 3) := by decide +kernel
theorem dX11_undo_5 : decode cX11_undo 5 = .ok (.iload_n 1, 1) := by decide +kernel
theorem dX11_undo_6 : decode cX11_undo 6 = .ok (.bipush 16, 2) := by decide +kernel
theorem dX11_undo_8 : decode cX11_undo 8 = .ok (.if_icmp .le 6, 3) := by decide +kernel
theorem dX11_undo_11 : decode cX11_undo 11 = .ok (.ldc 71, 2) := by decide +kernel
theorem dX11_undo_13 : decode cX11_undo 13 = .ok (.ireturn, 1) := by decide +kernel
theorem dX11_undo_14 : decode cX11_undo 14 = .ok (.iload_n 1, 1) := by decide +kernel
theorem dX11_undo_15 : decode cX11_undo 15 = .ok (.aload_n 0, 1) := by decide +kernel
theorem dX11_undo_16 : decode cX11_undo 16 = .ok (.getfield 29, 3) := by decide +kernel
theorem dX11_undo_19 : decode cX11_undo 19 = .ok (.getfield 70, 3) := by decide +kernel
theorem dX11_undo_22 : decode cX11_undo 22 = .ok (.if_icmp .le 6, 3) := by decide +kernel
theorem dX11_undo_25 : decode cX11_undo 25 = .ok (.ldc 182, 2) := by decide +kernel
theorem dX11_undo_27 : decode cX11_undo 27 = .ok (.ireturn, 1) := by decide +kernel
theorem dX11_undo_28 : decode cX11_undo 28 = .ok (.aload_n 0, 1) := by decide +kernel
theorem dX11_undo_29 : decode cX11_undo 29 = .ok (.getfield 29, 3) := by decide +kernel
theorem dX11_undo_32 : decode cX11_undo 32 = .ok (.iload_n 1, 1) := by decide +kernel
theorem dX11_undo_33 : decode cX11_undo 33 = .ok (.aload_n 0, 1) := by decide +kernel
theorem dX11_undo_34 : decode cX11_undo 34 = .ok (.getfield 20, 3) := by decide +kernel
theorem dX11_undo_37 : decode cX11_undo 37 = .ok (.invokevirtual 217, 3) := by decide +kernel
theorem dX11_undo_40 : decode cX11_undo 40 = .ok (.aload_n 0, 1) := by decide +kernel
theorem dX11_undo_41 : decode cX11_undo 41 = .ok (.getfield 20, 3) := by decide +kernel
theorem dX11_undo_44 : decode cX11_undo 44 = .ok (.getfield 66, 3) := by decide +kernel
theorem dX11_undo_47 : decode cX11_undo 47 = .ok (.ireturn, 1) := by decide +kernel
theorem dX11_write_0 : decode cX11_write 0 = .ok (.aload_n 0, 1) := by decide +kernel
theorem dX11_write_1 : decode cX11_write 1 = .ok (.iload_n 1, 1) := by decide +kernel
theorem dX11_write_2 : decode cX11_write 2 = .ok (.invokevirtual 129, 3) := by decide +kernel
theorem dX11_write_5 : decode cX11_write 5 = .ok (.ifCond .ne 6, 3) := by decide +kernel
theorem dX11_write_8 : decode cX11_write 8 = .ok (.ldc 101, 2) := by decide +kernel
theorem dX11_write_10 : decode cX11_write 10 = .ok (.ireturn, 1) := by decide +kernel
theorem dX11_write_11 : decode cX11_write 11 = .ok (.aload_n 0, 1) := by decide +kernel
theorem dX11_write_12 : decode cX11_write 12 = .ok (.getfield 36, 3) := by decide +kernel
theorem dX11_write_15 : decode cX11_write 15 = .ok (.invokevirtual 221, 3) := by decide +kernel
theorem dX11_write_18 : decode cX11_write 18 = .ok (.ifCond .eq 6, 3) := by decide +kernel
theorem dX11_write_21 : decode cX11_write 21 = .ok (.ldc 193, 2) := by decide +kernel
theorem dX11_write_23 : decode cX11_write 23 = .ok (.ireturn, 1) := by decide +kernel
theorem dX11_write_24 : decode cX11_write 24 = .ok (.aload_n 0, 1) := by decide +kernel
theorem dX11_write_25 : decode cX11_write 25 = .ok (.getfield 36, 3) := by decide +kernel
theorem dX11_write_28 : decode cX11_write 28 = .ok (.iload_n 1, 1) := by decide +kernel
theorem dX11_write_29 : decode cX11_write 29 = .ok (.iload_n 2, 1) := by decide +kernel
theorem dX11_write_30 : decode cX11_write 30 = .ok (.invokevirtual 222, 3) := by decide +kernel
theorem dX11_write_33 : decode cX11_write 33 = .ok (.aload_n 0, 1) := by decide +kernel
theorem dX11_write_34 : decode cX11_write 34 = .ok (.getfield 36, 3) := by decide +kernel
theorem dX11_write_37 : decode cX11_write 37 = .ok (.getfield 69, 3) := by decide +kernel
theorem dX11_write_40 : decode cX11_write 40 = .ok (.ireturn, 1) := by decide +kernel
theorem dX11_tear_0 : decode cX11_tear 0 = .ok (.aload_n 0, 1) := by decide +kernel
theorem dX11_tear_1 : decode cX11_tear 1 = .ok (.getfield 36, 3) := by decide +kernel
theorem dX11_tear_4 : decode cX11_tear 4 = .ok (.getfield 69, 3) := by decide +kernel
theorem dX11_tear_7 : decode cX11_tear 7 = .ok (.istore_n 1, 1) := by decide +kernel
theorem dX11_tear_8 : decode cX11_tear 8 = .ok (.aload_n 0, 1) := by decide +kernel
theorem dX11_tear_9 : decode cX11_tear 9 = .ok (.getfield 36, 3) := by decide +kernel
theorem dX11_tear_12 : decode cX11_tear 12 = .ok (.iconst 0, 1) := by decide +kernel
theorem dX11_tear_13 : decode cX11_tear 13 = .ok (.putfield 69, 3) := by decide +kernel
theorem dX11_tear_16 : decode cX11_tear 16 = .ok (.iload_n 1, 1) := by decide +kernel
theorem dX11_tear_17 : decode cX11_tear 17 = .ok (.ireturn, 1) := by decide +kernel
theorem dX11_seed_0 : decode cX11_seed 0 = .ok (.iload_n 1, 1) := by decide +kernel
theorem dX11_seed_1 : decode cX11_seed 1 = .ok (.ifCond .ge 6, 3) := by decide +kernel
theorem dX11_seed_4 : decode cX11_seed 4 = .ok (.ldc 71, 2) := by decide +kernel
theorem dX11_seed_6 : decode cX11_seed 6 = .ok (.ireturn, 1) := by decide +kernel
theorem dX11_seed_7 : decode cX11_seed 7 = .ok (.aload_n 0, 1) := by decide +kernel
theorem dX11_seed_8 : decode cX11_seed 8 = .ok (.getfield 43, 3) := by decide +kernel
theorem dX11_seed_11 : decode cX11_seed 11 = .ok (.getfield 226, 3) := by decide +kernel
theorem dX11_seed_14 : decode cX11_seed 14 = .ok (.istore_n 2, 1) := by decide +kernel
theorem dX11_seed_15 : decode cX11_seed 15 = .ok (.aload_n 0, 1) := by decide +kernel
theorem dX11_seed_16 : decode cX11_seed 16 = .ok (.getfield 43, 3) := by decide +kernel
theorem dX11_seed_19 : decode cX11_seed 19 = .ok (.iload_n 1, 1) := by decide +kernel
theorem dX11_seed_20 : decode cX11_seed 20 = .ok (.putfield 226, 3) := by decide +kernel
theorem dX11_seed_23 : decode cX11_seed 23 = .ok (.iload_n 2, 1) := by decide +kernel
theorem dX11_seed_24 : decode cX11_seed 24 = .ok (.ireturn, 1) := by decide +kernel
theorem dX11_keep_0 : decode cX11_keep 0 = .ok (.aload_n 0, 1) := by decide +kernel
theorem dX11_keep_1 : decode cX11_keep 1 = .ok (.iload_n 1, 1) := by decide +kernel
theorem dX11_keep_2 : decode cX11_keep 2 = .ok (.invokevirtual 229, 3) := by decide +kernel
theorem dX11_keep_5 : decode cX11_keep 5 = .ok (.ifCond .ne 6, 3) := by decide +kernel
theorem dX11_keep_8 : decode cX11_keep 8 = .ok (.ldc 101, 2) := by decide +kernel
theorem dX11_keep_10 : decode cX11_keep 10 = .ok (.ireturn, 1) := by decide +kernel
theorem dX11_keep_11 : decode cX11_keep 11 = .ok (.aload_n 0, 1) := by decide +kernel
theorem dX11_keep_12 : decode cX11_keep 12 = .ok (.getfield 51, 3) := by decide +kernel
theorem dX11_keep_15 : decode cX11_keep 15 = .ok (.iload_n 1, 1) := by decide +kernel
theorem dX11_keep_16 : decode cX11_keep 16 = .ok (.aaload, 1) := by decide +kernel
theorem dX11_keep_17 : decode cX11_keep 17 = .ok (.aload_n 0, 1) := by decide +kernel
theorem dX11_keep_18 : decode cX11_keep 18 = .ok (.getfield 20, 3) := by decide +kernel
theorem dX11_keep_21 : decode cX11_keep 21 = .ok (.aload_n 0, 1) := by decide +kernel
theorem dX11_keep_22 : decode cX11_keep 22 = .ok (.getfield 43, 3) := by decide +kernel
theorem dX11_keep_25 : decode cX11_keep 25 = .ok (.invokevirtual 232, 3) := by decide +kernel
theorem dX11_keep_28 : decode cX11_keep 28 = .ok (.aload_n 0, 1) := by decide +kernel
theorem dX11_keep_29 : decode cX11_keep 29 = .ok (.getfield 29, 3) := by decide +kernel
theorem dX11_keep_32 : decode cX11_keep 32 = .ok (.iconst 0, 1) := by decide +kernel
theorem dX11_keep_33 : decode cX11_keep 33 = .ok (.putfield 70, 3) := by decide +kernel
theorem dX11_keep_36 : decode cX11_keep 36 = .ok (.iconst 1, 1) := by decide +kernel
theorem dX11_keep_37 : decode cX11_keep 37 = .ok (.ireturn, 1) := by decide +kernel
theorem dX11_goBack_0 : decode cX11_goBack 0 = .ok (.aload_n 0, 1) := by decide +kernel
theorem dX11_goBack_1 : decode cX11_goBack 1 = .ok (.iload_n 1, 1) := by decide +kernel
theorem dX11_goBack_2 : decode cX11_goBack 2 = .ok (.invokevirtual 229, 3) := by decide +kernel
theorem dX11_goBack_5 : decode cX11_goBack 5 = .ok (.ifCond .ne 6, 3) := by decide +kernel
theorem dX11_goBack_8 : decode cX11_goBack 8 = .ok (.ldc 101, 2) := by decide +kernel
theorem dX11_goBack_10 : decode cX11_goBack 10 = .ok (.ireturn, 1) := by decide +kernel
theorem dX11_goBack_11 : decode cX11_goBack 11 = .ok (.aload_n 0, 1) := by decide +kernel
theorem dX11_goBack_12 : decode cX11_goBack 12 = .ok (.getfield 51, 3) := by decide +kernel
theorem dX11_goBack_15 : decode cX11_goBack 15 = .ok (.iload_n 1, 1) := by decide +kernel
theorem dX11_goBack_16 : decode cX11_goBack 16 = .ok (.aaload, 1) := by decide +kernel
theorem dX11_goBack_17 : decode cX11_goBack 17 = .ok (.getfield 236, 3) := by decide +kernel
theorem dX11_goBack_20 : decode cX11_goBack 20 = .ok (.ifCond .ne 6, 3) := by decide +kernel
theorem dX11_goBack_23 : decode cX11_goBack 23 = .ok (.ldc 182, 2) := by decide +kernel
theorem dX11_goBack_25 : decode cX11_goBack 25 = .ok (.ireturn, 1) := by decide +kernel
theorem dX11_goBack_26 : decode cX11_goBack 26 = .ok (.aload_n 0, 1) := by decide +kernel
theorem dX11_goBack_27 : decode cX11_goBack 27 = .ok (.getfield 51, 3) := by decide +kernel
theorem dX11_goBack_30 : decode cX11_goBack 30 = .ok (.iload_n 1, 1) := by decide +kernel
theorem dX11_goBack_31 : decode cX11_goBack 31 = .ok (.aaload, 1) := by decide +kernel
theorem dX11_goBack_32 : decode cX11_goBack 32 = .ok (.aload_n 0, 1) := by decide +kernel
theorem dX11_goBack_33 : decode cX11_goBack 33 = .ok (.getfield 20, 3) := by decide +kernel
theorem dX11_goBack_36 : decode cX11_goBack 36 = .ok (.aload_n 0, 1) := by decide +kernel
theorem dX11_goBack_37 : decode cX11_goBack 37 = .ok (.getfield 43, 3) := by decide +kernel
theorem dX11_goBack_40 : decode cX11_goBack 40 = .ok (.invokevirtual 240, 3) := by decide +kernel
theorem dX11_goBack_43 : decode cX11_goBack 43 = .ok (.aload_n 0, 1) := by decide +kernel
theorem dX11_goBack_44 : decode cX11_goBack 44 = .ok (.getfield 29, 3) := by decide +kernel
theorem dX11_goBack_47 : decode cX11_goBack 47 = .ok (.iconst 0, 1) := by decide +kernel
theorem dX11_goBack_48 : decode cX11_goBack 48 = .ok (.putfield 70, 3) := by decide +kernel
theorem dX11_goBack_51 : decode cX11_goBack 51 = .ok (.iconst 1, 1) := by decide +kernel
theorem dX11_goBack_52 : decode cX11_goBack 52 = .ok (.ireturn, 1) := by decide +kernel
theorem dX11_hasBody_0 : decode cX11_hasBody 0 = .ok (.iload_n 1, 1) := by decide +kernel
theorem dX11_hasBody_1 : decode cX11_hasBody 1 = .ok (.ifCond .lt 18, 3) := by decide +kernel
theorem dX11_hasBody_4 : decode cX11_hasBody 4 = .ok (.iload_n 1, 1) := by decide +kernel
theorem dX11_hasBody_5 : decode cX11_hasBody 5 = .ok (.aload_n 0, 1) := by decide +kernel
theorem dX11_hasBody_6 : decode cX11_hasBody 6 = .ok (.getfield 20, 3) := by decide +kernel
theorem dX11_hasBody_9 : decode cX11_hasBody 9 = .ok (.getfield 56, 3) := by decide +kernel
theorem dX11_hasBody_12 : decode cX11_hasBody 12 = .ok (.if_icmp .ge 7, 3) := by decide +kernel
theorem dX11_hasBody_15 : decode cX11_hasBody 15 = .ok (.iconst 1, 1) := by decide +kernel
theorem dX11_hasBody_16 : decode cX11_hasBody 16 = .ok (.goto 4, 3) := by decide +kernel
theorem dX11_hasBody_19 : decode cX11_hasBody 19 = .ok (.iconst 0, 1) := by decide +kernel
theorem dX11_hasBody_20 : decode cX11_hasBody 20 = .ok (.ireturn, 1) := by decide +kernel
theorem dX11_hasFace_0 : decode cX11_hasFace 0 = .ok (.aload_n 0, 1) := by decide +kernel
theorem dX11_hasFace_1 : decode cX11_hasFace 1 = .ok (.iload_n 1, 1) := by decide +kernel
theorem dX11_hasFace_2 : decode cX11_hasFace 2 = .ok (.invokevirtual 132, 3) := by decide +kernel
theorem dX11_hasFace_5 : decode cX11_hasFace 5 = .ok (.ifCond .eq 16, 3) := by decide +kernel
theorem dX11_hasFace_8 : decode cX11_hasFace 8 = .ok (.iload_n 2, 1) := by decide +kernel
theorem dX11_hasFace_9 : decode cX11_hasFace 9 = .ok (.ifCond .lt 12, 3) := by decide +kernel
theorem dX11_hasFace_12 : decode cX11_hasFace 12 = .ok (.iload_n 2, 1) := by decide +kernel
theorem dX11_hasFace_13 : decode cX11_hasFace 13 = .ok (.iconst 4, 1) := by decide +kernel
theorem dX11_hasFace_14 : decode cX11_hasFace 14 = .ok (.if_icmp .ge 7, 3) := by decide +kernel
theorem dX11_hasFace_17 : decode cX11_hasFace 17 = .ok (.iconst 1, 1) := by decide +kernel
theorem dX11_hasFace_18 : decode cX11_hasFace 18 = .ok (.goto 4, 3) := by decide +kernel
theorem dX11_hasFace_21 : decode cX11_hasFace 21 = .ok (.iconst 0, 1) := by decide +kernel
theorem dX11_hasFace_22 : decode cX11_hasFace 22 = .ok (.ireturn, 1) := by decide +kernel
theorem dX11_hasEdge_0 : decode cX11_hasEdge 0 = .ok (.aload_n 0, 1) := by decide +kernel
theorem dX11_hasEdge_1 : decode cX11_hasEdge 1 = .ok (.iload_n 1, 1) := by decide +kernel
theorem dX11_hasEdge_2 : decode cX11_hasEdge 2 = .ok (.invokevirtual 132, 3) := by decide +kernel
theorem dX11_hasEdge_5 : decode cX11_hasEdge 5 = .ok (.ifCond .eq 17, 3) := by decide +kernel
theorem dX11_hasEdge_8 : decode cX11_hasEdge 8 = .ok (.iload_n 2, 1) := by decide +kernel
theorem dX11_hasEdge_9 : decode cX11_hasEdge 9 = .ok (.ifCond .lt 13, 3) := by decide +kernel
theorem dX11_hasEdge_12 : decode cX11_hasEdge 12 = .ok (.iload_n 2, 1) := by decide +kernel
theorem dX11_hasEdge_13 : decode cX11_hasEdge 13 = .ok (.bipush 6, 2) := by decide +kernel
theorem dX11_hasEdge_15 : decode cX11_hasEdge 15 = .ok (.if_icmp .ge 7, 3) := by decide +kernel
theorem dX11_hasEdge_18 : decode cX11_hasEdge 18 = .ok (.iconst 1, 1) := by decide +kernel
theorem dX11_hasEdge_19 : decode cX11_hasEdge 19 = .ok (.goto 4, 3) := by decide +kernel
theorem dX11_hasEdge_22 : decode cX11_hasEdge 22 = .ok (.iconst 0, 1) := by decide +kernel
theorem dX11_hasEdge_23 : decode cX11_hasEdge 23 = .ok (.ireturn, 1) := by decide +kernel
theorem dX11_hasSurface_0 : decode cX11_hasSurface 0 = .ok (.iload_n 1, 1) := by decide +kernel
theorem dX11_hasSurface_1 : decode cX11_hasSurface 1 = .ok (.ifCond .lt 18, 3) := by decide +kernel
theorem dX11_hasSurface_4 : decode cX11_hasSurface 4 = .ok (.iload_n 1, 1) := by decide +kernel
theorem dX11_hasSurface_5 : decode cX11_hasSurface 5 = .ok (.aload_n 0, 1) := by decide +kernel
theorem dX11_hasSurface_6 : decode cX11_hasSurface 6 = .ok (.getfield 20, 3) := by decide +kernel
theorem dX11_hasSurface_9 : decode cX11_hasSurface 9 = .ok (.getfield 66, 3) := by decide +kernel
theorem dX11_hasSurface_12 : decode cX11_hasSurface 12 = .ok (.if_icmp .ge 7, 3) := by decide +kernel
theorem dX11_hasSurface_15 : decode cX11_hasSurface 15 = .ok (.iconst 1, 1) := by decide +kernel
theorem dX11_hasSurface_16 : decode cX11_hasSurface 16 = .ok (.goto 4, 3) := by decide +kernel
theorem dX11_hasSurface_19 : decode cX11_hasSurface 19 = .ok (.iconst 0, 1) := by decide +kernel
theorem dX11_hasSurface_20 : decode cX11_hasSurface 20 = .ok (.ireturn, 1) := by decide +kernel
theorem dX11_hasImage_0 : decode cX11_hasImage 0 = .ok (.iload_n 1, 1) := by decide +kernel
theorem dX11_hasImage_1 : decode cX11_hasImage 1 = .ok (.ifCond .lt 16, 3) := by decide +kernel
theorem dX11_hasImage_4 : decode cX11_hasImage 4 = .ok (.iload_n 1, 1) := by decide +kernel
theorem dX11_hasImage_5 : decode cX11_hasImage 5 = .ok (.aload_n 0, 1) := by decide +kernel
theorem dX11_hasImage_6 : decode cX11_hasImage 6 = .ok (.getfield 51, 3) := by decide +kernel
theorem dX11_hasImage_9 : decode cX11_hasImage 9 = .ok (.arraylength, 1) := by decide +kernel
theorem dX11_hasImage_10 : decode cX11_hasImage 10 = .ok (.if_icmp .ge 7, 3) := by decide +kernel
theorem dX11_hasImage_13 : decode cX11_hasImage 13 = .ok (.iconst 1, 1) := by decide +kernel
theorem dX11_hasImage_14 : decode cX11_hasImage 14 = .ok (.goto 4, 3) := by decide +kernel
theorem dX11_hasImage_17 : decode cX11_hasImage 17 = .ok (.iconst 0, 1) := by decide +kernel
theorem dX11_hasImage_18 : decode cX11_hasImage 18 = .ok (.ireturn, 1) := by decide +kernel
theorem dX11_isKind_0 : decode cX11_isKind 0 = .ok (.iload_n 0, 1) := by decide +kernel
theorem dX11_isKind_1 : decode cX11_isKind 1 = .ok (.ifCond .lt 13, 3) := by decide +kernel
theorem dX11_isKind_4 : decode cX11_isKind 4 = .ok (.iload_n 0, 1) := by decide +kernel
theorem dX11_isKind_5 : decode cX11_isKind 5 = .ok (.bipush 7, 2) := by decide +kernel
theorem dX11_isKind_7 : decode cX11_isKind 7 = .ok (.if_icmp .ge 7, 3) := by decide +kernel
theorem dX11_isKind_10 : decode cX11_isKind 10 = .ok (.iconst 1, 1) := by decide +kernel
theorem dX11_isKind_11 : decode cX11_isKind 11 = .ok (.goto 4, 3) := by decide +kernel
theorem dX11_isKind_14 : decode cX11_isKind 14 = .ok (.iconst 0, 1) := by decide +kernel
theorem dX11_isKind_15 : decode cX11_isKind 15 = .ok (.ireturn, 1) := by decide +kernel
theorem dX11_driftOnce_0 : decode cX11_driftOnce 0 = .ok (.aload_n 0, 1) := by decide +kernel
theorem dX11_driftOnce_1 : decode cX11_driftOnce 1 = .ok (.getfield 43, 3) := by decide +kernel
theorem dX11_driftOnce_4 : decode cX11_driftOnce 4 = .ok (.aload_n 0, 1) := by decide +kernel
theorem dX11_driftOnce_5 : decode cX11_driftOnce 5 = .ok (.getfield 20, 3) := by decide +kernel
theorem dX11_driftOnce_8 : decode cX11_driftOnce 8 = .ok (.getfield 56, 3) := by decide +kernel
theorem dX11_driftOnce_11 : decode cX11_driftOnce 11 = .ok (.invokevirtual 243, 3) := by decide +kernel
theorem dX11_driftOnce_14 : decode cX11_driftOnce 14 = .ok (.istore_n 1, 1) := by decide +kernel
theorem dX11_driftOnce_15 : decode cX11_driftOnce 15 = .ok (.aload_n 0, 1) := by decide +kernel
theorem dX11_driftOnce_16 : decode cX11_driftOnce 16 = .ok (.getfield 43, 3) := by decide +kernel
theorem dX11_driftOnce_19 : decode cX11_driftOnce 19 = .ok (.iconst 4, 1) := by decide +kernel
theorem dX11_driftOnce_20 : decode cX11_driftOnce 20 = .ok (.invokevirtual 243, 3) := by decide +kernel
theorem dX11_driftOnce_23 : decode cX11_driftOnce 23 = .ok (.istore_n 2, 1) := by decide +kernel
theorem dX11_driftOnce_24 : decode cX11_driftOnce 24 = .ok (.aload_n 0, 1) := by decide +kernel
theorem dX11_driftOnce_25 : decode cX11_driftOnce 25 = .ok (.getfield 43, 3) := by decide +kernel
theorem dX11_driftOnce_28 : decode cX11_driftOnce 28 = .ok (.aload_n 0, 1) := by decide +kernel
theorem dX11_driftOnce_29 : decode cX11_driftOnce 29 = .ok (.getfield 20, 3) := by decide +kernel
theorem dX11_driftOnce_32 : decode cX11_driftOnce 32 = .ok (.getfield 56, 3) := by decide +kernel
theorem dX11_driftOnce_35 : decode cX11_driftOnce 35 = .ok (.invokevirtual 243, 3) := by decide +kernel
theorem dX11_driftOnce_38 : decode cX11_driftOnce 38 = .ok (.istore_n 3, 1) := by decide +kernel
theorem dX11_driftOnce_39 : decode cX11_driftOnce 39 = .ok (.aload_n 0, 1) := by decide +kernel
theorem dX11_driftOnce_40 : decode cX11_driftOnce 40 = .ok (.getfield 43, 3) := by decide +kernel
theorem dX11_driftOnce_43 : decode cX11_driftOnce 43 = .ok (.iconst 4, 1) := by decide +kernel
theorem dX11_driftOnce_44 : decode cX11_driftOnce 44 = .ok (.invokevirtual 243, 3) := by decide +kernel
theorem dX11_driftOnce_47 : decode cX11_driftOnce 47 = .ok (.istore 4, 2) := by decide +kernel
theorem dX11_driftOnce_49 : decode cX11_driftOnce 49 = .ok (.aload_n 0, 1) := by decide +kernel
theorem dX11_driftOnce_50 : decode cX11_driftOnce 50 = .ok (.getfield 43, 3) := by decide +kernel
theorem dX11_driftOnce_53 : decode cX11_driftOnce 53 = .ok (.bipush 6, 2) := by decide +kernel
theorem dX11_driftOnce_55 : decode cX11_driftOnce 55 = .ok (.invokevirtual 243, 3) := by decide +kernel
theorem dX11_driftOnce_58 : decode cX11_driftOnce 58 = .ok (.istore 5, 2) := by decide +kernel
theorem dX11_driftOnce_60 : decode cX11_driftOnce 60 = .ok (.aload_n 0, 1) := by decide +kernel
theorem dX11_driftOnce_61 : decode cX11_driftOnce 61 = .ok (.getfield 20, 3) := by decide +kernel
theorem dX11_driftOnce_64 : decode cX11_driftOnce 64 = .ok (.iconst 4, 1) := by decide +kernel
theorem dX11_driftOnce_65 : decode cX11_driftOnce 65 = .ok (.iload_n 1, 1) := by decide +kernel
theorem dX11_driftOnce_66 : decode cX11_driftOnce 66 = .ok (.imul, 1) := by decide +kernel
theorem dX11_driftOnce_67 : decode cX11_driftOnce 67 = .ok (.iload_n 2, 1) := by decide +kernel
theorem dX11_driftOnce_68 : decode cX11_driftOnce 68 = .ok (.iadd, 1) := by decide +kernel
theorem dX11_driftOnce_69 : decode cX11_driftOnce 69 = .ok (.iconst 4, 1) := by decide +kernel
theorem dX11_driftOnce_70 : decode cX11_driftOnce 70 = .ok (.iload_n 3, 1) := by decide +kernel
theorem dX11_driftOnce_71 : decode cX11_driftOnce 71 = .ok (.imul, 1) := by decide +kernel
theorem dX11_driftOnce_72 : decode cX11_driftOnce 72 = .ok (.iload 4, 2) := by decide +kernel
theorem dX11_driftOnce_74 : decode cX11_driftOnce 74 = .ok (.iadd, 1) := by decide +kernel
theorem dX11_driftOnce_75 : decode cX11_driftOnce 75 = .ok (.invokevirtual 179, 3) := by decide +kernel
theorem dX11_driftOnce_78 : decode cX11_driftOnce 78 = .ok (.ifCond .eq 23, 3) := by decide +kernel
theorem dX11_driftOnce_81 : decode cX11_driftOnce 81 = .ok (.aload_n 0, 1) := by decide +kernel
theorem dX11_driftOnce_82 : decode cX11_driftOnce 82 = .ok (.getfield 20, 3) := by decide +kernel
theorem dX11_driftOnce_85 : decode cX11_driftOnce 85 = .ok (.iconst 4, 1) := by decide +kernel
theorem dX11_driftOnce_86 : decode cX11_driftOnce 86 = .ok (.iload_n 1, 1) := by decide +kernel
theorem dX11_driftOnce_87 : decode cX11_driftOnce 87 = .ok (.imul, 1) := by decide +kernel
theorem dX11_driftOnce_88 : decode cX11_driftOnce 88 = .ok (.iload_n 2, 1) := by decide +kernel
theorem dX11_driftOnce_89 : decode cX11_driftOnce 89 = .ok (.iadd, 1) := by decide +kernel
theorem dX11_driftOnce_90 : decode cX11_driftOnce 90 = .ok (.iconst 4, 1) := by decide +kernel
theorem dX11_driftOnce_91 : decode cX11_driftOnce 91 = .ok (.iload_n 3, 1) := by decide +kernel
theorem dX11_driftOnce_92 : decode cX11_driftOnce 92 = .ok (.imul, 1) := by decide +kernel
theorem dX11_driftOnce_93 : decode cX11_driftOnce 93 = .ok (.iload 4, 2) := by decide +kernel
theorem dX11_driftOnce_95 : decode cX11_driftOnce 95 = .ok (.iadd, 1) := by decide +kernel
theorem dX11_driftOnce_96 : decode cX11_driftOnce 96 = .ok (.iload 5, 2) := by decide +kernel
theorem dX11_driftOnce_98 : decode cX11_driftOnce 98 = .ok (.invokevirtual 183, 3) := by decide +kernel
theorem dX11_driftOnce_101 : decode cX11_driftOnce 101 = .ok (.return_, 1) := by decide +kernel
theorem dX12_init_0 : decode cX12_init 0 = .ok (.aload_n 0, 1) := by decide +kernel
theorem dX12_init_1 : decode cX12_init 1 = .ok (.invokespecial 1, 3) := by decide +kernel
theorem dX12_init_4 : decode cX12_init 4 = .ok (.aload_n 0, 1) := by decide +kernel
theorem dX12_init_5 : decode cX12_init 5 = .ok (.sipush 2909, 3) := by decide +kernel
theorem dX12_init_8 : decode cX12_init 8 = .ok (.newarray .int, 2) := by decide +kernel
theorem dX12_init_10 : decode cX12_init 10 = .ok (.putfield 7, 3) := by decide +kernel
theorem dX12_init_13 : decode cX12_init 13 = .ok (.aload_n 0, 1) := by decide +kernel
theorem dX12_init_14 : decode cX12_init 14 = .ok (.iconst 2, 1) := by decide +kernel
theorem dX12_init_15 : decode cX12_init 15 = .ok (.newarray .int, 2) := by decide +kernel
theorem dX12_init_17 : decode cX12_init 17 = .ok (.putfield 13, 3) := by decide +kernel
theorem dX12_init_20 : decode cX12_init 20 = .ok (.aload_n 0, 1) := by decide +kernel
theorem dX12_init_21 : decode cX12_init 21 = .ok (.bipush 20, 2) := by decide +kernel
theorem dX12_init_23 : decode cX12_init 23 = .ok (.newarray .int, 2) := by decide +kernel
theorem dX12_init_25 : decode cX12_init 25 = .ok (.putfield 16, 3) := by decide +kernel
theorem dX12_init_28 : decode cX12_init 28 = .ok (.aload_n 0, 1) := by decide +kernel
theorem dX12_init_29 : decode cX12_init 29 = .ok (.bipush 20, 2) := by decide +kernel
theorem dX12_init_31 : decode cX12_init 31 = .ok (.newarray .int, 2) := by decide +kernel
theorem dX12_init_33 : decode cX12_init 33 = .ok (.putfield 19, 3) := by decide +kernel
theorem dX12_init_36 : decode cX12_init 36 = .ok (.aload_n 0, 1) := by decide +kernel
theorem dX12_init_37 : decode cX12_init 37 = .ok (.bipush 12, 2) := by decide +kernel
theorem dX12_init_39 : decode cX12_init 39 = .ok (.newarray .int, 2) := by decide +kernel
theorem dX12_init_41 : decode cX12_init 41 = .ok (.putfield 22, 3) := by decide +kernel
theorem dX12_init_44 : decode cX12_init 44 = .ok (.aload_n 0, 1) := by decide +kernel
theorem dX12_init_45 : decode cX12_init 45 = .ok (.bipush 18, 2) := by decide +kernel
theorem dX12_init_47 : decode cX12_init 47 = .ok (.newarray .int, 2) := by decide +kernel
theorem dX12_init_49 : decode cX12_init 49 = .ok (.putfield 25, 3) := by decide +kernel
theorem dX12_init_52 : decode cX12_init 52 = .ok (.aload_n 0, 1) := by decide +kernel
theorem dX12_init_53 : decode cX12_init 53 = .ok (.bipush 36, 2) := by decide +kernel
theorem dX12_init_55 : decode cX12_init 55 = .ok (.newarray .int, 2) := by decide +kernel
theorem dX12_init_57 : decode cX12_init 57 = .ok (.putfield 28, 3) := by decide +kernel
theorem dX12_init_60 : decode cX12_init 60 = .ok (.aload_n 0, 1) := by decide +kernel
theorem dX12_init_61 : decode cX12_init 61 = .ok (.sipush 420, 3) := by decide +kernel
theorem dX12_init_64 : decode cX12_init 64 = .ok (.newarray .int, 2) := by decide +kernel
theorem dX12_init_66 : decode cX12_init 66 = .ok (.putfield 31, 3) := by decide +kernel
theorem dX12_init_69 : decode cX12_init 69 = .ok (.aload_n 0, 1) := by decide +kernel
theorem dX12_init_70 : decode cX12_init 70 = .ok (.sipush 840, 3) := by decide +kernel
theorem dX12_init_73 : decode cX12_init 73 = .ok (.newarray .int, 2) := by decide +kernel
theorem dX12_init_75 : decode cX12_init 75 = .ok (.putfield 34, 3) := by decide +kernel
theorem dX12_init_78 : decode cX12_init 78 = .ok (.aload_n 0, 1) := by decide +kernel
theorem dX12_init_79 : decode cX12_init 79 = .ok (.getfield 7, 3) := by decide +kernel
theorem dX12_init_82 : decode cX12_init 82 = .ok (.iconst 0, 1) := by decide +kernel
theorem dX12_init_83 : decode cX12_init 83 = .ok (.iconst 1, 1) := by decide +kernel
theorem dX12_init_84 : decode cX12_init 84 = .ok (.iastore, 1) := by decide +kernel
theorem dX12_init_85 : decode cX12_init 85 = .ok (.aload_n 0, 1) := by decide +kernel
theorem dX12_init_86 : decode cX12_init 86 = .ok (.invokevirtual 37, 3) := by decide +kernel
theorem dX12_init_89 : decode cX12_init 89 = .ok (.return_, 1) := by decide +kernel
theorem dX12_in_0 : decode cX12_in 0 = .ok (.iload_n 0, 1) := by decide +kernel
theorem dX12_in_1 : decode cX12_in 1 = .ok (.iload_n 1, 1) := by decide +kernel
theorem dX12_in_2 : decode cX12_in 2 = .ok (.if_icmp .lt 12, 3) := by decide +kernel
theorem dX12_in_5 : decode cX12_in 5 = .ok (.iload_n 0, 1) := by decide +kernel
theorem dX12_in_6 : decode cX12_in 6 = .ok (.iload_n 2, 1) := by decide +kernel
theorem dX12_in_7 : decode cX12_in 7 = .ok (.if_icmp .gt 7, 3) := by decide +kernel
theorem dX12_in_10 : decode cX12_in 10 = .ok (.iconst 1, 1) := by decide +kernel
theorem dX12_in_11 : decode cX12_in 11 = .ok (.goto 4, 3) := by decide +kernel
theorem dX12_in_14 : decode cX12_in 14 = .ok (.iconst 0, 1) := by decide +kernel
theorem dX12_in_15 : decode cX12_in 15 = .ok (.ireturn, 1) := by decide +kernel
theorem dX12_copyRow_0 : decode cX12_copyRow 0 = .ok (.iconst 0, 1) := by decide +kernel
theorem dX12_copyRow_1 : decode cX12_copyRow 1 = .ok (.istore_n 3, 1) := by decide +kernel
theorem dX12_copyRow_2 : decode cX12_copyRow 2 = .ok (.iload_n 3, 1) := by decide +kernel
theorem dX12_copyRow_3 : decode cX12_copyRow 3 = .ok (.sipush 152, 3) := by decide +kernel
theorem dX12_copyRow_6 : decode cX12_copyRow 6 = .ok (.if_icmp .ge 25, 3) := by decide +kernel
theorem dX12_copyRow_9 : decode cX12_copyRow 9 = .ok (.aload_n 0, 1) := by decide +kernel
theorem dX12_copyRow_10 : decode cX12_copyRow 10 = .ok (.getfield 7, 3) := by decide +kernel
theorem dX12_copyRow_13 : decode cX12_copyRow 13 = .ok (.iload_n 2, 1) := by decide +kernel
theorem dX12_copyRow_14 : decode cX12_copyRow 14 = .ok (.iload_n 3, 1) := by decide +kernel
theorem dX12_copyRow_15 : decode cX12_copyRow 15 = .ok (.iadd, 1) := by decide +kernel
theorem dX12_copyRow_16 : decode cX12_copyRow 16 = .ok (.aload_n 0, 1) := by decide +kernel
theorem dX12_copyRow_17 : decode cX12_copyRow 17 = .ok (.getfield 7, 3) := by decide +kernel
theorem dX12_copyRow_20 : decode cX12_copyRow 20 = .ok (.iload_n 1, 1) := by decide +kernel
theorem dX12_copyRow_21 : decode cX12_copyRow 21 = .ok (.iload_n 3, 1) := by decide +kernel
theorem dX12_copyRow_22 : decode cX12_copyRow 22 = .ok (.iadd, 1) := by decide +kernel
theorem dX12_copyRow_23 : decode cX12_copyRow 23 = .ok (.iaload, 1) := by decide +kernel
theorem dX12_copyRow_24 : decode cX12_copyRow 24 = .ok (.iastore, 1) := by decide +kernel
theorem dX12_copyRow_25 : decode cX12_copyRow 25 = .ok (.iinc 3 1, 3) := by decide +kernel
theorem dX12_copyRow_28 : decode cX12_copyRow 28 = .ok (.goto (-26), 3) := by decide +kernel
theorem dX12_copyRow_31 : decode cX12_copyRow 31 = .ok (.return_, 1) := by decide +kernel
theorem dX12_unglueAll_0 : decode cX12_unglueAll 0 = .ok (.iconst 0, 1) := by decide +kernel
theorem dX12_unglueAll_1 : decode cX12_unglueAll 1 = .ok (.istore_n 1, 1) := by decide +kernel
theorem dX12_unglueAll_2 : decode cX12_unglueAll 2 = .ok (.iload_n 1, 1) := by decide +kernel
theorem dX12_unglueAll_3 : decode cX12_unglueAll 3 = .ok (.bipush 12, 2) := by decide +kernel
theorem dX12_unglueAll_5 : decode cX12_unglueAll 5 = .ok (.if_icmp .ge 28, 3) := by decide +kernel
theorem dX12_unglueAll_8 : decode cX12_unglueAll 8 = .ok (.aload_n 0, 1) := by decide +kernel
theorem dX12_unglueAll_9 : decode cX12_unglueAll 9 = .ok (.getfield 7, 3) := by decide +kernel
theorem dX12_unglueAll_12 : decode cX12_unglueAll 12 = .ok (.iconst 2, 1) := by decide +kernel
theorem dX12_unglueAll_13 : decode cX12_unglueAll 13 = .ok (.iload_n 1, 1) := by decide +kernel
theorem dX12_unglueAll_14 : decode cX12_unglueAll 14 = .ok (.iadd, 1) := by decide +kernel
theorem dX12_unglueAll_15 : decode cX12_unglueAll 15 = .ok (.iconst (-1), 1) := by decide +kernel
theorem dX12_unglueAll_16 : decode cX12_unglueAll 16 = .ok (.iastore, 1) := by decide +kernel
theorem dX12_unglueAll_17 : decode cX12_unglueAll 17 = .ok (.aload_n 0, 1) := by decide +kernel
theorem dX12_unglueAll_18 : decode cX12_unglueAll 18 = .ok (.getfield 7, 3) := by decide +kernel
theorem dX12_unglueAll_21 : decode cX12_unglueAll 21 = .ok (.bipush 14, 2) := by decide +kernel
theorem dX12_unglueAll_23 : decode cX12_unglueAll 23 = .ok (.iload_n 1, 1) := by decide +kernel
theorem dX12_unglueAll_24 : decode cX12_unglueAll 24 = .ok (.iadd, 1) := by decide +kernel
theorem dX12_unglueAll_25 : decode cX12_unglueAll 25 = .ok (.iconst (-1), 1) := by decide +kernel
theorem dX12_unglueAll_26 : decode cX12_unglueAll 26 = .ok (.iastore, 1) := by decide +kernel
theorem dX12_unglueAll_27 : decode cX12_unglueAll 27 = .ok (.iinc 1 1, 3) := by decide +kernel
theorem dX12_unglueAll_30 : decode cX12_unglueAll 30 = .ok (.goto (-28), 3) := by decide +kernel
theorem dX12_unglueAll_33 : decode cX12_unglueAll 33 = .ok (.return_, 1) := by decide +kernel
theorem dX12_isBody_0 : decode cX12_isBody 0 = .ok (.iload_n 1, 1) := by decide +kernel
theorem dX12_isBody_1 : decode cX12_isBody 1 = .ok (.iconst 0, 1) := by decide +kernel
theorem dX12_isBody_2 : decode cX12_isBody 2 = .ok (.aload_n 0, 1) := by decide +kernel
theorem dX12_isBody_3 : decode cX12_isBody 3 = .ok (.getfield 7, 3) := by decide +kernel
theorem dX12_isBody_6 : decode cX12_isBody 6 = .ok (.iconst 0, 1) := by decide +kernel
theorem dX12_isBody_7 : decode cX12_isBody 7 = .ok (.iaload, 1) := by decide +kernel
theorem dX12_isBody_8 : decode cX12_isBody 8 = .ok (.iconst 1, 1) := by decide +kernel
theorem dX12_isBody_9 : decode cX12_isBody 9 = .ok (.isub, 1) := by decide +kernel
theorem dX12_isBody_10 : decode cX12_isBody 10 = .ok (.invokestatic 40, 3) := by decide +kernel
theorem dX12_isBody_13 : decode cX12_isBody 13 = .ok (.ireturn, 1) := by decide +kernel
theorem dX12_isSide_0 : decode cX12_isSide 0 = .ok (.iload_n 0, 1) := by decide +kernel
theorem dX12_isSide_1 : decode cX12_isSide 1 = .ok (.iconst 0, 1) := by decide +kernel
theorem dX12_isSide_2 : decode cX12_isSide 2 = .ok (.iconst 3, 1) := by decide +kernel
theorem dX12_isSide_3 : decode cX12_isSide 3 = .ok (.invokestatic 40, 3) := by decide +kernel
theorem dX12_isSide_6 : decode cX12_isSide 6 = .ok (.ireturn, 1) := by decide +kernel
theorem dX12_isSurface_0 : decode cX12_isSurface 0 = .ok (.iload_n 1, 1) := by decide +kernel
theorem dX12_isSurface_1 : decode cX12_isSurface 1 = .ok (.iconst 0, 1) := by decide +kernel
theorem dX12_isSurface_2 : decode cX12_isSurface 2 = .ok (.aload_n 0, 1) := by decide +kernel
theorem dX12_isSurface_3 : decode cX12_isSurface 3 = .ok (.getfield 7, 3) := by decide +kernel
theorem dX12_isSurface_6 : decode cX12_isSurface 6 = .ok (.iconst 1, 1) := by decide +kernel
theorem dX12_isSurface_7 : decode cX12_isSurface 7 = .ok (.iaload, 1) := by decide +kernel
theorem dX12_isSurface_8 : decode cX12_isSurface 8 = .ok (.iconst 1, 1) := by decide +kernel
theorem dX12_isSurface_9 : decode cX12_isSurface 9 = .ok (.isub, 1) := by decide +kernel
theorem dX12_isSurface_10 : decode cX12_isSurface 10 = .ok (.invokestatic 40, 3) := by decide +kernel
theorem dX12_isSurface_13 : decode cX12_isSurface 13 = .ok (.ireturn, 1) := by decide +kernel
theorem dX12_surfaceAt_0 : decode cX12_surfaceAt 0 = .ok (.bipush 26, 2) := by decide +kernel
theorem dX12_surfaceAt_2 : decode cX12_surfaceAt 2 = .ok (.bipush 21, 2) := by decide +kernel
theorem dX12_surfaceAt_4 : decode cX12_surfaceAt 4 = .ok (.iload_n 0, 1) := by decide +kernel
theorem dX12_surfaceAt_5 : decode cX12_surfaceAt 5 = .ok (.imul, 1) := by decide +kernel
theorem dX12_surfaceAt_6 : decode cX12_surfaceAt 6 = .ok (.iadd, 1) := by decide +kernel
theorem dX12_surfaceAt_7 : decode cX12_surfaceAt 7 = .ok (.ireturn, 1) := by decide +kernel
theorem dX12_place_0 : decode cX12_place 0 = .ok (.iload_n 0, 1) := by decide +kernel
theorem dX12_place_1 : decode cX12_place 1 = .ok (.ifCond .ne 8, 3) := by decide +kernel
theorem dX12_place_4 : decode cX12_place 4 = .ok (.bipush 12, 2) := by decide +kernel
theorem dX12_place_6 : decode cX12_place 6 = .ok (.goto 47, 3) := by decide +kernel
theorem dX12_place_9 : decode cX12_place 9 = .ok (.iload_n 0, 1) := by decide +kernel
theorem dX12_place_10 : decode cX12_place 10 = .ok (.iconst 1, 1) := by decide +kernel
theorem dX12_place_11 : decode cX12_place 11 = .ok (.if_icmp .ne 8, 3) := by decide +kernel
theorem dX12_place_14 : decode cX12_place 14 = .ok (.bipush 21, 2) := by decide +kernel
theorem dX12_place_16 : decode cX12_place 16 = .ok (.goto 37, 3) := by decide +kernel
theorem dX12_place_19 : decode cX12_place 19 = .ok (.iload_n 0, 1) := by decide +kernel
theorem dX12_place_20 : decode cX12_place 20 = .ok (.iconst 2, 1) := by decide +kernel
theorem dX12_place_21 : decode cX12_place 21 = .ok (.if_icmp .ne 8, 3) := by decide +kernel
theorem dX12_place_24 : decode cX12_place 24 = .ok (.bipush 102, 2) := by decide +kernel
theorem dX12_place_26 : decode cX12_place 26 = .ok (.goto 27, 3) := by decide +kernel
theorem dX12_place_29 : decode cX12_place 29 = .ok (.iload_n 0, 1) := by decide +kernel
theorem dX12_place_30 : decode cX12_place 30 = .ok (.iconst 3, 1) := by decide +kernel
theorem dX12_place_31 : decode cX12_place 31 = .ok (.if_icmp .ne 8, 3) := by decide +kernel
theorem dX12_place_34 : decode cX12_place 34 = .ok (.bipush 120, 2) := by decide +kernel
theorem dX12_place_36 : decode cX12_place 36 = .ok (.goto 17, 3) := by decide +kernel
theorem dX12_place_39 : decode cX12_place 39 = .ok (.iload_n 0, 1) := by decide +kernel
theorem dX12_place_40 : decode cX12_place 40 = .ok (.iconst 4, 1) := by decide +kernel
theorem dX12_place_41 : decode cX12_place 41 = .ok (.if_icmp .ne 9, 3) := by decide +kernel
theorem dX12_place_44 : decode cX12_place 44 = .ok (.sipush 201, 3) := by decide +kernel
theorem dX12_place_47 : decode cX12_place 47 = .ok (.goto 6, 3) := by decide +kernel
theorem dX12_place_50 : decode cX12_place 50 = .ok (.sipush 210, 3) := by decide +kernel
theorem dX12_place_53 : decode cX12_place 53 = .ok (.istore_n 2, 1) := by decide +kernel
theorem dX12_place_54 : decode cX12_place 54 = .ok (.iload_n 1, 1) := by decide +kernel
theorem dX12_place_55 : decode cX12_place 55 = .ok (.ifCond .ne 10, 3) := by decide +kernel
theorem dX12_place_58 : decode cX12_place 58 = .ok (.iload_n 2, 1) := by decide +kernel
theorem dX12_place_59 : decode cX12_place 59 = .ok (.bipush 100, 2) := by decide +kernel
theorem dX12_place_61 : decode cX12_place 61 = .ok (.idiv, 1) := by decide +kernel
theorem dX12_place_62 : decode cX12_place 62 = .ok (.goto 22, 3) := by decide +kernel
theorem dX12_place_65 : decode cX12_place 65 = .ok (.iload_n 1, 1) := by decide +kernel
theorem dX12_place_66 : decode cX12_place 66 = .ok (.iconst 1, 1) := by decide +kernel
theorem dX12_place_67 : decode cX12_place 67 = .ok (.if_icmp .ne 13, 3) := by decide +kernel
theorem dX12_place_70 : decode cX12_place 70 = .ok (.iload_n 2, 1) := by decide +kernel
theorem dX12_place_71 : decode cX12_place 71 = .ok (.bipush 10, 2) := by decide +kernel
theorem dX12_place_73 : decode cX12_place 73 = .ok (.idiv, 1) := by decide +kernel
theorem dX12_place_74 : decode cX12_place 74 = .ok (.bipush 10, 2) := by decide +kernel
theorem dX12_place_76 : decode cX12_place 76 = .ok (.irem, 1) := by decide +kernel
theorem dX12_place_77 : decode cX12_place 77 = .ok (.goto 7, 3) := by decide +kernel
theorem dX12_place_80 : decode cX12_place 80 = .ok (.iload_n 2, 1) := by decide +kernel
theorem dX12_place_81 : decode cX12_place 81 = .ok (.bipush 10, 2) := by decide +kernel
theorem dX12_place_83 : decode cX12_place 83 = .ok (.irem, 1) := by decide +kernel
theorem dX12_place_84 : decode cX12_place 84 = .ok (.ireturn, 1) := by decide +kernel
theorem dX12_turnedBack_0 : decode cX12_turnedBack 0 = .ok (.iload_n 0, 1) := by decide +kernel
theorem dX12_turnedBack_1 : decode cX12_turnedBack 1 = .ok (.iconst 3, 1) := by decide +kernel
theorem dX12_turnedBack_2 : decode cX12_turnedBack 2 = .ok (.if_icmp .ne 7, 3) := by decide +kernel
theorem dX12_turnedBack_5 : decode cX12_turnedBack 5 = .ok (.iconst 4, 1) := by decide +kernel
theorem dX12_turnedBack_6 : decode cX12_turnedBack 6 = .ok (.goto 13, 3) := by decide +kernel
theorem dX12_turnedBack_9 : decode cX12_turnedBack 9 = .ok (.iload_n 0, 1) := by decide +kernel
theorem dX12_turnedBack_10 : decode cX12_turnedBack 10 = .ok (.iconst 4, 1) := by decide +kernel
theorem dX12_turnedBack_11 : decode cX12_turnedBack 11 = .ok (.if_icmp .ne 7, 3) := by decide +kernel
theorem dX12_turnedBack_14 : decode cX12_turnedBack 14 = .ok (.iconst 3, 1) := by decide +kernel
theorem dX12_turnedBack_15 : decode cX12_turnedBack 15 = .ok (.goto 4, 3) := by decide +kernel
theorem dX12_turnedBack_18 : decode cX12_turnedBack 18 = .ok (.iload_n 0, 1) := by decide +kernel
theorem dX12_turnedBack_19 : decode cX12_turnedBack 19 = .ok (.ireturn, 1) := by decide +kernel
theorem dX12_isFree_0 : decode cX12_isFree 0 = .ok (.aload_n 0, 1) := by decide +kernel
theorem dX12_isFree_1 : decode cX12_isFree 1 = .ok (.getfield 7, 3) := by decide +kernel
theorem dX12_isFree_4 : decode cX12_isFree 4 = .ok (.iconst 2, 1) := by decide +kernel
theorem dX12_isFree_5 : decode cX12_isFree 5 = .ok (.iload_n 1, 1) := by decide +kernel
theorem dX12_isFree_6 : decode cX12_isFree 6 = .ok (.iadd, 1) := by decide +kernel
theorem dX12_isFree_7 : decode cX12_isFree 7 = .ok (.iaload, 1) := by decide +kernel
theorem dX12_isFree_8 : decode cX12_isFree 8 = .ok (.iconst (-1), 1) := by decide +kernel
theorem dX12_isFree_9 : decode cX12_isFree 9 = .ok (.if_icmp .ne 7, 3) := by decide +kernel
theorem dX12_isFree_12 : decode cX12_isFree 12 = .ok (.iconst 1, 1) := by decide +kernel
theorem dX12_isFree_13 : decode cX12_isFree 13 = .ok (.goto 4, 3) := by decide +kernel
theorem dX12_isFree_16 : decode cX12_isFree 16 = .ok (.iconst 0, 1) := by decide +kernel
theorem dX12_isFree_17 : decode cX12_isFree 17 = .ok (.ireturn, 1) := by decide +kernel
theorem dX12_goesTo_0 : decode cX12_goesTo 0 = .ok (.iload_n 1, 1) := by decide +kernel
theorem dX12_goesTo_1 : decode cX12_goesTo 1 = .ok (.iconst 4, 1) := by decide +kernel
theorem dX12_goesTo_2 : decode cX12_goesTo 2 = .ok (.irem, 1) := by decide +kernel
theorem dX12_goesTo_3 : decode cX12_goesTo 3 = .ok (.istore_n 3, 1) := by decide +kernel
theorem dX12_goesTo_4 : decode cX12_goesTo 4 = .ok (.aload_n 0, 1) := by decide +kernel
theorem dX12_goesTo_5 : decode cX12_goesTo 5 = .ok (.getfield 7, 3) := by decide +kernel
theorem dX12_goesTo_8 : decode cX12_goesTo 8 = .ok (.iconst 2, 1) := by decide +kernel
theorem dX12_goesTo_9 : decode cX12_goesTo 9 = .ok (.iload_n 1, 1) := by decide +kernel
theorem dX12_goesTo_10 : decode cX12_goesTo 10 = .ok (.iadd, 1) := by decide +kernel
theorem dX12_goesTo_11 : decode cX12_goesTo 11 = .ok (.iaload, 1) := by decide +kernel
theorem dX12_goesTo_12 : decode cX12_goesTo 12 = .ok (.istore 4, 2) := by decide +kernel
theorem dX12_goesTo_14 : decode cX12_goesTo 14 = .ok (.iload 4, 2) := by decide +kernel
theorem dX12_goesTo_16 : decode cX12_goesTo 16 = .ok (.iconst 4, 1) := by decide +kernel
theorem dX12_goesTo_17 : decode cX12_goesTo 17 = .ok (.irem, 1) := by decide +kernel
theorem dX12_goesTo_18 : decode cX12_goesTo 18 = .ok (.istore 5, 2) := by decide +kernel
theorem dX12_goesTo_20 : decode cX12_goesTo 20 = .ok (.aload_n 0, 1) := by decide +kernel
theorem dX12_goesTo_21 : decode cX12_goesTo 21 = .ok (.getfield 7, 3) := by decide +kernel
theorem dX12_goesTo_24 : decode cX12_goesTo 24 = .ok (.bipush 14, 2) := by decide +kernel
theorem dX12_goesTo_26 : decode cX12_goesTo 26 = .ok (.iload_n 1, 1) := by decide +kernel
theorem dX12_goesTo_27 : decode cX12_goesTo 27 = .ok (.iadd, 1) := by decide +kernel
theorem dX12_goesTo_28 : decode cX12_goesTo 28 = .ok (.iaload, 1) := by decide +kernel
theorem dX12_goesTo_29 : decode cX12_goesTo 29 = .ok (.iload_n 2, 1) := by decide +kernel
theorem dX12_goesTo_30 : decode cX12_goesTo 30 = .ok (.iload_n 3, 1) := by decide +kernel
theorem dX12_goesTo_31 : decode cX12_goesTo 31 = .ok (.if_icmp .le 9, 3) := by decide +kernel
theorem dX12_goesTo_34 : decode cX12_goesTo 34 = .ok (.iload_n 2, 1) := by decide +kernel
theorem dX12_goesTo_35 : decode cX12_goesTo 35 = .ok (.iconst 1, 1) := by decide +kernel
theorem dX12_goesTo_36 : decode cX12_goesTo 36 = .ok (.isub, 1) := by decide +kernel
theorem dX12_goesTo_37 : decode cX12_goesTo 37 = .ok (.goto 4, 3) := by decide +kernel
theorem dX12_goesTo_40 : decode cX12_goesTo 40 = .ok (.iload_n 2, 1) := by decide +kernel
theorem dX12_goesTo_41 : decode cX12_goesTo 41 = .ok (.invokestatic 44, 3) := by decide +kernel
theorem dX12_goesTo_44 : decode cX12_goesTo 44 = .ok (.istore 6, 2) := by decide +kernel
theorem dX12_goesTo_46 : decode cX12_goesTo 46 = .ok (.iconst 4, 1) := by decide +kernel
theorem dX12_goesTo_47 : decode cX12_goesTo 47 = .ok (.iload 4, 2) := by decide +kernel
theorem dX12_goesTo_49 : decode cX12_goesTo 49 = .ok (.iconst 4, 1) := by decide +kernel
theorem dX12_goesTo_50 : decode cX12_goesTo 50 = .ok (.idiv, 1) := by decide +kernel
theorem dX12_goesTo_51 : decode cX12_goesTo 51 = .ok (.imul, 1) := by decide +kernel
theorem dX12_goesTo_52 : decode cX12_goesTo 52 = .ok (.iload 6, 2) := by decide +kernel
theorem dX12_goesTo_54 : decode cX12_goesTo 54 = .ok (.iload 5, 2) := by decide +kernel
theorem dX12_goesTo_56 : decode cX12_goesTo 56 = .ok (.if_icmp .lt 10, 3) := by decide +kernel
theorem dX12_goesTo_59 : decode cX12_goesTo 59 = .ok (.iload 6, 2) := by decide +kernel
theorem dX12_goesTo_61 : decode cX12_goesTo 61 = .ok (.iconst 1, 1) := by decide +kernel
theorem dX12_goesTo_62 : decode cX12_goesTo 62 = .ok (.iadd, 1) := by decide +kernel
theorem dX12_goesTo_63 : decode cX12_goesTo 63 = .ok (.goto 5, 3) := by decide +kernel
theorem dX12_goesTo_66 : decode cX12_goesTo 66 = .ok (.iload 6, 2) := by decide +kernel
theorem dX12_goesTo_68 : decode cX12_goesTo 68 = .ok (.iadd, 1) := by decide +kernel
theorem dX12_goesTo_69 : decode cX12_goesTo 69 = .ok (.ireturn, 1) := by decide +kernel
theorem dX12_walls_0 : decode cX12_walls 0 = .ok (.iconst 4, 1) := by decide +kernel
theorem dX12_walls_1 : decode cX12_walls 1 = .ok (.aload_n 0, 1) := by decide +kernel
theorem dX12_walls_2 : decode cX12_walls 2 = .ok (.getfield 7, 3) := by decide +kernel
theorem dX12_walls_5 : decode cX12_walls 5 = .ok (.iconst 0, 1) := by decide +kernel
theorem dX12_walls_6 : decode cX12_walls 6 = .ok (.iaload, 1) := by decide +kernel
theorem dX12_walls_7 : decode cX12_walls 7 = .ok (.imul, 1) := by decide +kernel
theorem dX12_walls_8 : decode cX12_walls 8 = .ok (.ireturn, 1) := by decide +kernel
theorem dX12_freeMany_0 : decode cX12_freeMany 0 = .ok (.iconst 0, 1) := by decide +kernel
theorem dX12_freeMany_1 : decode cX12_freeMany 1 = .ok (.istore_n 1, 1) := by decide +kernel
theorem dX12_freeMany_2 : decode cX12_freeMany 2 = .ok (.iconst 0, 1) := by decide +kernel
theorem dX12_freeMany_3 : decode cX12_freeMany 3 = .ok (.istore_n 2, 1) := by decide +kernel
theorem dX12_freeMany_4 : decode cX12_freeMany 4 = .ok (.iload_n 2, 1) := by decide +kernel
theorem dX12_freeMany_5 : decode cX12_freeMany 5 = .ok (.aload_n 0, 1) := by decide +kernel
theorem dX12_freeMany_6 : decode cX12_freeMany 6 = .ok (.invokevirtual 48, 3) := by decide +kernel
theorem dX12_freeMany_9 : decode cX12_freeMany 9 = .ok (.if_icmp .ge 25, 3) := by decide +kernel
theorem dX12_freeMany_12 : decode cX12_freeMany 12 = .ok (.iload_n 1, 1) := by decide +kernel
theorem dX12_freeMany_13 : decode cX12_freeMany 13 = .ok (.aload_n 0, 1) := by decide +kernel
theorem dX12_freeMany_14 : decode cX12_freeMany 14 = .ok (.iload_n 2, 1) := by decide +kernel
theorem dX12_freeMany_15 : decode cX12_freeMany 15 = .ok (.invokevirtual 52, 3) := by decide +kernel
theorem dX12_freeMany_18 : decode cX12_freeMany 18 = .ok (.ifCond .eq 7, 3) := by decide +kernel
theorem dX12_freeMany_21 : decode cX12_freeMany 21 = .ok (.iconst 1, 1) := by decide +kernel
theorem dX12_freeMany_22 : decode cX12_freeMany 22 = .ok (.goto 4, 3) := by decide +kernel
theorem dX12_freeMany_25 : decode cX12_freeMany 25 = .ok (.iconst 0, 1) := by decide +kernel
theorem dX12_freeMany_26 : decode cX12_freeMany 26 = .ok (.iadd, 1) := by decide +kernel
theorem dX12_freeMany_27 : decode cX12_freeMany 27 = .ok (.istore_n 1, 1) := by decide +kernel
theorem dX12_freeMany_28 : decode cX12_freeMany 28 = .ok (.iinc 2 1, 3) := by decide +kernel
theorem dX12_freeMany_31 : decode cX12_freeMany 31 = .ok (.goto (-27), 3) := by decide +kernel
theorem dX12_freeMany_34 : decode cX12_freeMany 34 = .ok (.iload_n 1, 1) := by decide +kernel
theorem dX12_freeMany_35 : decode cX12_freeMany 35 = .ok (.ireturn, 1) := by decide +kernel
theorem dX12_edgeOf_0 : decode cX12_edgeOf 0 = .ok (.iload_n 0, 1) := by decide +kernel
theorem dX12_edgeOf_1 : decode cX12_edgeOf 1 = .ok (.iload_n 1, 1) := by decide +kernel
theorem dX12_edgeOf_2 : decode cX12_edgeOf 2 = .ok (.if_icmp .ge 7, 3) := by decide +kernel
theorem dX12_edgeOf_5 : decode cX12_edgeOf 5 = .ok (.iload_n 0, 1) := by decide +kernel
theorem dX12_edgeOf_6 : decode cX12_edgeOf 6 = .ok (.goto 4, 3) := by decide +kernel
theorem dX12_edgeOf_9 : decode cX12_edgeOf 9 = .ok (.iload_n 1, 1) := by decide +kernel
theorem dX12_edgeOf_10 : decode cX12_edgeOf 10 = .ok (.istore_n 2, 1) := by decide +kernel
theorem dX12_edgeOf_11 : decode cX12_edgeOf 11 = .ok (.iload_n 0, 1) := by decide +kernel
theorem dX12_edgeOf_12 : decode cX12_edgeOf 12 = .ok (.iload_n 1, 1) := by decide +kernel
theorem dX12_edgeOf_13 : decode cX12_edgeOf 13 = .ok (.if_icmp .ge 7, 3) := by decide +kernel
theorem dX12_edgeOf_16 : decode cX12_edgeOf 16 = .ok (.iload_n 1, 1) := by decide +kernel
theorem dX12_edgeOf_17 : decode cX12_edgeOf 17 = .ok (.goto 4, 3) := by decide +kernel
theorem dX12_edgeOf_20 : decode cX12_edgeOf 20 = .ok (.iload_n 0, 1) := by decide +kernel
theorem dX12_edgeOf_21 : decode cX12_edgeOf 21 = .ok (.istore_n 3, 1) := by decide +kernel
theorem dX12_edgeOf_22 : decode cX12_edgeOf 22 = .ok (.iload_n 2, 1) := by decide +kernel
theorem dX12_edgeOf_23 : decode cX12_edgeOf 23 = .ok (.ifCond .ne 9, 3) := by decide +kernel
theorem dX12_edgeOf_26 : decode cX12_edgeOf 26 = .ok (.iload_n 3, 1) := by decide +kernel
theorem dX12_edgeOf_27 : decode cX12_edgeOf 27 = .ok (.iconst 1, 1) := by decide +kernel
theorem dX12_edgeOf_28 : decode cX12_edgeOf 28 = .ok (.isub, 1) := by decide +kernel
theorem dX12_edgeOf_29 : decode cX12_edgeOf 29 = .ok (.goto 6, 3) := by decide +kernel
theorem dX12_edgeOf_32 : decode cX12_edgeOf 32 = .ok (.iload_n 2, 1) := by decide +kernel
theorem dX12_edgeOf_33 : decode cX12_edgeOf 33 = .ok (.iload_n 3, 1) := by decide +kernel
theorem dX12_edgeOf_34 : decode cX12_edgeOf 34 = .ok (.iadd, 1) := by decide +kernel
theorem dX12_edgeOf_35 : decode cX12_edgeOf 35 = .ok (.ireturn, 1) := by decide +kernel
theorem dX12_lowOf_0 : decode cX12_lowOf 0 = .ok (.iload_n 0, 1) := by decide +kernel
theorem dX12_lowOf_1 : decode cX12_lowOf 1 = .ok (.iconst 3, 1) := by decide +kernel
theorem dX12_lowOf_2 : decode cX12_lowOf 2 = .ok (.if_icmp .ge 7, 3) := by decide +kernel
theorem dX12_lowOf_5 : decode cX12_lowOf 5 = .ok (.iconst 0, 1) := by decide +kernel
theorem dX12_lowOf_6 : decode cX12_lowOf 6 = .ok (.goto 13, 3) := by decide +kernel
theorem dX12_lowOf_9 : decode cX12_lowOf 9 = .ok (.iload_n 0, 1) := by decide +kernel
theorem dX12_lowOf_10 : decode cX12_lowOf 10 = .ok (.iconst 5, 1) := by decide +kernel
theorem dX12_lowOf_11 : decode cX12_lowOf 11 = .ok (.if_icmp .ge 7, 3) := by decide +kernel
theorem dX12_lowOf_14 : decode cX12_lowOf 14 = .ok (.iconst 1, 1) := by decide +kernel
theorem dX12_lowOf_15 : decode cX12_lowOf 15 = .ok (.goto 4, 3) := by decide +kernel
theorem dX12_lowOf_18 : decode cX12_lowOf 18 = .ok (.iconst 2, 1) := by decide +kernel
theorem dX12_lowOf_19 : decode cX12_lowOf 19 = .ok (.ireturn, 1) := by decide +kernel
theorem dX12_highOf_0 : decode cX12_highOf 0 = .ok (.iload_n 0, 1) := by decide +kernel
theorem dX12_highOf_1 : decode cX12_highOf 1 = .ok (.iconst 3, 1) := by decide +kernel
theorem dX12_highOf_2 : decode cX12_highOf 2 = .ok (.if_icmp .ge 9, 3) := by decide +kernel
theorem dX12_highOf_5 : decode cX12_highOf 5 = .ok (.iload_n 0, 1) := by decide +kernel
theorem dX12_highOf_6 : decode cX12_highOf 6 = .ok (.iconst 1, 1) := by decide +kernel
theorem dX12_highOf_7 : decode cX12_highOf 7 = .ok (.iadd, 1) := by decide +kernel
theorem dX12_highOf_8 : decode cX12_highOf 8 = .ok (.goto 9, 3) := by decide +kernel
theorem dX12_highOf_11 : decode cX12_highOf 11 = .ok (.iload_n 0, 1) := by decide +kernel
theorem dX12_highOf_12 : decode cX12_highOf 12 = .ok (.iload_n 0, 1) := by decide +kernel
theorem dX12_highOf_13 : decode cX12_highOf 13 = .ok (.invokestatic 56, 3) := by decide +kernel
theorem dX12_highOf_16 : decode cX12_highOf 16 = .ok (.isub, 1) := by decide +kernel
theorem dX12_highOf_17 : decode cX12_highOf 17 = .ok (.ireturn, 1) := by decide +kernel
theorem dX12_alike_0 : decode cX12_alike 0 = .ok (.aload_n 0, 1) := by decide +kernel
theorem dX12_alike_1 : decode cX12_alike 1 = .ok (.iload_n 2, 1) := by decide +kernel
theorem dX12_alike_2 : decode cX12_alike 2 = .ok (.iaload, 1) := by decide +kernel
theorem dX12_alike_3 : decode cX12_alike 3 = .ok (.aload_n 0, 1) := by decide +kernel
theorem dX12_alike_4 : decode cX12_alike 4 = .ok (.iload_n 3, 1) := by decide +kernel
theorem dX12_alike_5 : decode cX12_alike 5 = .ok (.iaload, 1) := by decide +kernel
theorem dX12_alike_6 : decode cX12_alike 6 = .ok (.if_icmp .ge 9, 3) := by decide +kernel
theorem dX12_alike_9 : decode cX12_alike 9 = .ok (.aload_n 0, 1) := by decide +kernel
theorem dX12_alike_10 : decode cX12_alike 10 = .ok (.iload_n 2, 1) := by decide +kernel
theorem dX12_alike_11 : decode cX12_alike 11 = .ok (.iaload, 1) := by decide +kernel
theorem dX12_alike_12 : decode cX12_alike 12 = .ok (.goto 6, 3) := by decide +kernel
theorem dX12_alike_15 : decode cX12_alike 15 = .ok (.aload_n 0, 1) := by decide +kernel
theorem dX12_alike_16 : decode cX12_alike 16 = .ok (.iload_n 3, 1) := by decide +kernel
theorem dX12_alike_17 : decode cX12_alike 17 = .ok (.iaload, 1) := by decide +kernel
theorem dX12_alike_18 : decode cX12_alike 18 = .ok (.istore 4, 2) := by decide +kernel
theorem dX12_alike_20 : decode cX12_alike 20 = .ok (.aload_n 0, 1) := by decide +kernel
theorem dX12_alike_21 : decode cX12_alike 21 = .ok (.iload_n 2, 1) := by decide +kernel
theorem dX12_alike_22 : decode cX12_alike 22 = .ok (.iaload, 1) := by decide +kernel
theorem dX12_alike_23 : decode cX12_alike 23 = .ok (.aload_n 0, 1) := by decide +kernel
theorem dX12_alike_24 : decode cX12_alike 24 = .ok (.iload_n 3, 1) := by decide +kernel
theorem dX12_alike_25 : decode cX12_alike 25 = .ok (.iaload, 1) := by decide +kernel
theorem dX12_alike_26 : decode cX12_alike 26 = .ok (.if_icmp .ge 9, 3) := by decide +kernel
theorem dX12_alike_29 : decode cX12_alike 29 = .ok (.aload_n 0, 1) := by decide +kernel
theorem dX12_alike_30 : decode cX12_alike 30 = .ok (.iload_n 3, 1) := by decide +kernel
theorem dX12_alike_31 : decode cX12_alike 31 = .ok (.iaload, 1) := by decide +kernel
theorem dX12_alike_32 : decode cX12_alike 32 = .ok (.goto 6, 3) := by decide +kernel
theorem dX12_alike_35 : decode cX12_alike 35 = .ok (.aload_n 0, 1) := by decide +kernel
theorem dX12_alike_36 : decode cX12_alike 36 = .ok (.iload_n 2, 1) := by decide +kernel
theorem dX12_alike_37 : decode cX12_alike 37 = .ok (.iaload, 1) := by decide +kernel
theorem dX12_alike_38 : decode cX12_alike 38 = .ok (.istore 5, 2) := by decide +kernel
theorem dX12_alike_40 : decode cX12_alike 40 = .ok (.iconst 0, 1) := by decide +kernel
theorem dX12_alike_41 : decode cX12_alike 41 = .ok (.istore 6, 2) := by decide +kernel
theorem dX12_alike_43 : decode cX12_alike 43 = .ok (.iload 6, 2) := by decide +kernel
theorem dX12_alike_45 : decode cX12_alike 45 = .ok (.iload_n 1, 1) := by decide +kernel
theorem dX12_alike_46 : decode cX12_alike 46 = .ok (.if_icmp .ge 38, 3) := by decide +kernel
theorem dX12_alike_49 : decode cX12_alike 49 = .ok (.iload 4, 2) := by decide +kernel
theorem dX12_alike_51 : decode cX12_alike 51 = .ok (.iload 5, 2) := by decide +kernel
theorem dX12_alike_53 : decode cX12_alike 53 = .ok (.if_icmp .eq 31, 3) := by decide +kernel
