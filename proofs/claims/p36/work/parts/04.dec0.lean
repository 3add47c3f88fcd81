theorem dX0_init_0 : decode cX0_init 0 = .ok (.aload_n 0, 1) := by decide +kernel
theorem dX0_init_1 : decode cX0_init 1 = .ok (.invokespecial 3, 3) := by decide +kernel
theorem dX0_init_4 : decode cX0_init 4 = .ok (.aload_n 0, 1) := by decide +kernel
theorem dX0_init_5 : decode cX0_init 5 = .ok (.new 9, 3) := by decide +kernel
theorem dX0_init_8 : decode cX0_init 8 = .ok (.dup, 1) := by decide +kernel
theorem dX0_init_9 : decode cX0_init 9 = .ok (.bipush 10, 2) := by decide +kernel
theorem dX0_init_11 : decode cX0_init 11 = .ok (.invokespecial 11, 3) := by decide +kernel
theorem dX0_init_14 : decode cX0_init 14 = .ok (.putfield 14, 3) := by decide +kernel
theorem dX0_init_17 : decode cX0_init 17 = .ok (.aload_n 0, 1) := by decide +kernel
theorem dX0_init_18 : decode cX0_init 18 = .ok (.new 9, 3) := by decide +kernel
theorem dX0_init_21 : decode cX0_init 21 = .ok (.dup, 1) := by decide +kernel
theorem dX0_init_22 : decode cX0_init 22 = .ok (.bipush 10, 2) := by decide +kernel
theorem dX0_init_24 : decode cX0_init 24 = .ok (.invokespecial 11, 3) := by decide +kernel
theorem dX0_init_27 : decode cX0_init 27 = .ok (.putfield 20, 3) := by decide +kernel
theorem dX0_init_30 : decode cX0_init 30 = .ok (.aload_n 0, 1) := by decide +kernel
theorem dX0_init_31 : decode cX0_init 31 = .ok (.new 9, 3) := by decide +kernel
theorem dX0_init_34 : decode cX0_init 34 = .ok (.dup, 1) := by decide +kernel
theorem dX0_init_35 : decode cX0_init 35 = .ok (.bipush 10, 2) := by decide +kernel
theorem dX0_init_37 : decode cX0_init 37 = .ok (.invokespecial 11, 3) := by decide +kernel
theorem dX0_init_40 : decode cX0_init 40 = .ok (.putfield 23, 3) := by decide +kernel
theorem dX0_init_43 : decode cX0_init 43 = .ok (.aload_n 0, 1) := by decide +kernel
theorem dX0_init_44 : decode cX0_init 44 = .ok (.new 9, 3) := by decide +kernel
theorem dX0_init_47 : decode cX0_init 47 = .ok (.dup, 1) := by decide +kernel
theorem dX0_init_48 : decode cX0_init 48 = .ok (.bipush 10, 2) := by decide +kernel
theorem dX0_init_50 : decode cX0_init 50 = .ok (.invokespecial 11, 3) := by decide +kernel
theorem dX0_init_53 : decode cX0_init 53 = .ok (.putfield 26, 3) := by decide +kernel
theorem dX0_init_56 : decode cX0_init 56 = .ok (.return_, 1) := by decide +kernel
theorem dX0_sitterOf_0 : decode cX0_sitterOf 0 = .ok (.aload_n 0, 1) := by decide +kernel
theorem dX0_sitterOf_1 : decode cX0_sitterOf 1 = .ok (.getfield 23, 3) := by decide +kernel
theorem dX0_sitterOf_4 : decode cX0_sitterOf 4 = .ok (.iload_n 1, 1) := by decide +kernel
theorem dX0_sitterOf_5 : decode cX0_sitterOf 5 = .ok (.invokevirtual 29, 3) := by decide +kernel
theorem dX0_sitterOf_8 : decode cX0_sitterOf 8 = .ok (.ireturn, 1) := by decide +kernel
theorem dX0_byTurns_0 : decode cX0_byTurns 0 = .ok (.aload_n 0, 1) := by decide +kernel
theorem dX0_byTurns_1 : decode cX0_byTurns 1 = .ok (.aload_n 1, 1) := by decide +kernel
theorem dX0_byTurns_2 : decode cX0_byTurns 2 = .ok (.invokevirtual 33, 3) := by decide +kernel
theorem dX0_byTurns_5 : decode cX0_byTurns 5 = .ok (.iconst 0, 1) := by decide +kernel
theorem dX0_byTurns_6 : decode cX0_byTurns 6 = .ok (.istore_n 2, 1) := by decide +kernel
theorem dX0_byTurns_7 : decode cX0_byTurns 7 = .ok (.iload_n 2, 1) := by decide +kernel
theorem dX0_byTurns_8 : decode cX0_byTurns 8 = .ok (.bipush 100, 2) := by decide +kernel
theorem dX0_byTurns_10 : decode cX0_byTurns 10 = .ok (.if_icmp .ge 76, 3) := by decide +kernel
theorem dX0_byTurns_13 : decode cX0_byTurns 13 = .ok (.aload_n 0, 1) := by decide +kernel
theorem dX0_byTurns_14 : decode cX0_byTurns 14 = .ok (.aload_n 1, 1) := by decide +kernel
theorem dX0_byTurns_15 : decode cX0_byTurns 15 = .ok (.invokevirtual 37, 3) := by decide +kernel
theorem dX0_byTurns_18 : decode cX0_byTurns 18 = .ok (.istore_n 3, 1) := by decide +kernel
theorem dX0_byTurns_19 : decode cX0_byTurns 19 = .ok (.iload_n 3, 1) := by decide +kernel
theorem dX0_byTurns_20 : decode cX0_byTurns 20 = .ok (.iconst (-1), 1) := by decide +kernel
theorem dX0_byTurns_21 : decode cX0_byTurns 21 = .ok (.if_icmp .ne 4, 3) := by decide +kernel
theorem dX0_byTurns_24 : decode cX0_byTurns 24 = .ok (.return_, 1) := by decide +kernel
theorem dX0_byTurns_25 : decode cX0_byTurns 25 = .ok (.aload_n 0, 1) := by decide +kernel
theorem dX0_byTurns_26 : decode cX0_byTurns 26 = .ok (.aload_n 1, 1) := by decide +kernel
theorem dX0_byTurns_27 : decode cX0_byTurns 27 = .ok (.iload_n 3, 1) := by decide +kernel
theorem dX0_byTurns_28 : decode cX0_byTurns 28 = .ok (.invokevirtual 41, 3) := by decide +kernel
theorem dX0_byTurns_31 : decode cX0_byTurns 31 = .ok (.istore 4, 2) := by decide +kernel
theorem dX0_byTurns_33 : decode cX0_byTurns 33 = .ok (.aload_n 0, 1) := by decide +kernel
theorem dX0_byTurns_34 : decode cX0_byTurns 34 = .ok (.getfield 26, 3) := by decide +kernel
theorem dX0_byTurns_37 : decode cX0_byTurns 37 = .ok (.iload 4, 2) := by decide +kernel
theorem dX0_byTurns_39 : decode cX0_byTurns 39 = .ok (.invokevirtual 29, 3) := by decide +kernel
theorem dX0_byTurns_42 : decode cX0_byTurns 42 = .ok (.istore 5, 2) := by decide +kernel
theorem dX0_byTurns_44 : decode cX0_byTurns 44 = .ok (.aload_n 1, 1) := by decide +kernel
theorem dX0_byTurns_45 : decode cX0_byTurns 45 = .ok (.iload 4, 2) := by decide +kernel
theorem dX0_byTurns_47 : decode cX0_byTurns 47 = .ok (.iload_n 3, 1) := by decide +kernel
theorem dX0_byTurns_48 : decode cX0_byTurns 48 = .ok (.invokevirtual 45, 3) := by decide +kernel
theorem dX0_byTurns_51 : decode cX0_byTurns 51 = .ok (.ifCond .eq 29, 3) := by decide +kernel
theorem dX0_byTurns_54 : decode cX0_byTurns 54 = .ok (.iload 5, 2) := by decide +kernel
theorem dX0_byTurns_56 : decode cX0_byTurns 56 = .ok (.iconst (-1), 1) := by decide +kernel
theorem dX0_byTurns_57 : decode cX0_byTurns 57 = .ok (.if_icmp .eq 16, 3) := by decide +kernel
theorem dX0_byTurns_60 : decode cX0_byTurns 60 = .ok (.aload_n 1, 1) := by decide +kernel
theorem dX0_byTurns_61 : decode cX0_byTurns 61 = .ok (.getfield 51, 3) := by decide +kernel
theorem dX0_byTurns_64 : decode cX0_byTurns 64 = .ok (.iload_n 3, 1) := by decide +kernel
theorem dX0_byTurns_65 : decode cX0_byTurns 65 = .ok (.iload 5, 2) := by decide +kernel
theorem dX0_byTurns_67 : decode cX0_byTurns 67 = .ok (.invokevirtual 55, 3) := by decide +kernel
theorem dX0_byTurns_70 : decode cX0_byTurns 70 = .ok (.ifCond .eq 10, 3) := by decide +kernel
theorem dX0_byTurns_73 : decode cX0_byTurns 73 = .ok (.aload_n 0, 1) := by decide +kernel
theorem dX0_byTurns_74 : decode cX0_byTurns 74 = .ok (.iload 4, 2) := by decide +kernel
theorem dX0_byTurns_76 : decode cX0_byTurns 76 = .ok (.iload_n 3, 1) := by decide +kernel
theorem dX0_byTurns_77 : decode cX0_byTurns 77 = .ok (.invokevirtual 60, 3) := by decide +kernel
theorem dX0_byTurns_80 : decode cX0_byTurns 80 = .ok (.iinc 2 1, 3) := by decide +kernel
theorem dX0_byTurns_83 : decode cX0_byTurns 83 = .ok (.goto (-76), 3) := by decide +kernel
theorem dX0_byTurns_86 : decode cX0_byTurns 86 = .ok (.return_, 1) := by decide +kernel
theorem dX0_byRounds_0 : decode cX0_byRounds 0 = .ok (.aload_n 0, 1) := by decide +kernel
theorem dX0_byRounds_1 : decode cX0_byRounds 1 = .ok (.aload_n 1, 1) := by decide +kernel
theorem dX0_byRounds_2 : decode cX0_byRounds 2 = .ok (.invokevirtual 33, 3) := by decide +kernel
theorem dX0_byRounds_5 : decode cX0_byRounds 5 = .ok (.iconst 0, 1) := by decide +kernel
theorem dX0_byRounds_6 : decode cX0_byRounds 6 = .ok (.istore_n 2, 1) := by decide +kernel
theorem dX0_byRounds_7 : decode cX0_byRounds 7 = .ok (.iload_n 2, 1) := by decide +kernel
theorem dX0_byRounds_8 : decode cX0_byRounds 8 = .ok (.bipush 100, 2) := by decide +kernel
theorem dX0_byRounds_10 : decode cX0_byRounds 10 = .ok (.if_icmp .ge 65, 3) := by decide +kernel
theorem dX0_byRounds_13 : decode cX0_byRounds 13 = .ok (.aload_n 0, 1) := by decide +kernel
theorem dX0_byRounds_14 : decode cX0_byRounds 14 = .ok (.aload_n 1, 1) := by decide +kernel
theorem dX0_byRounds_15 : decode cX0_byRounds 15 = .ok (.invokevirtual 64, 3) := by decide +kernel
theorem dX0_byRounds_18 : decode cX0_byRounds 18 = .ok (.ifCond .ne 4, 3) := by decide +kernel
theorem dX0_byRounds_21 : decode cX0_byRounds 21 = .ok (.return_, 1) := by decide +kernel
theorem dX0_byRounds_22 : decode cX0_byRounds 22 = .ok (.iconst 0, 1) := by decide +kernel
theorem dX0_byRounds_23 : decode cX0_byRounds 23 = .ok (.istore_n 3, 1) := by decide +kernel
theorem dX0_byRounds_24 : decode cX0_byRounds 24 = .ok (.iload_n 3, 1) := by decide +kernel
theorem dX0_byRounds_25 : decode cX0_byRounds 25 = .ok (.aload_n 1, 1) := by decide +kernel
theorem dX0_byRounds_26 : decode cX0_byRounds 26 = .ok (.getfield 68, 3) := by decide +kernel
theorem dX0_byRounds_29 : decode cX0_byRounds 29 = .ok (.getfield 72, 3) := by decide +kernel
theorem dX0_byRounds_32 : decode cX0_byRounds 32 = .ok (.if_icmp .ge 37, 3) := by decide +kernel
theorem dX0_byRounds_35 : decode cX0_byRounds 35 = .ok (.aload_n 0, 1) := by decide +kernel
theorem dX0_byRounds_36 : decode cX0_byRounds 36 = .ok (.aload_n 1, 1) := by decide +kernel
theorem dX0_byRounds_37 : decode cX0_byRounds 37 = .ok (.iload_n 3, 1) := by decide +kernel
theorem dX0_byRounds_38 : decode cX0_byRounds 38 = .ok (.invokevirtual 78, 3) := by decide +kernel
theorem dX0_byRounds_41 : decode cX0_byRounds 41 = .ok (.istore 4, 2) := by decide +kernel
theorem dX0_byRounds_43 : decode cX0_byRounds 43 = .ok (.iload 4, 2) := by decide +kernel
theorem dX0_byRounds_45 : decode cX0_byRounds 45 = .ok (.aload_n 0, 1) := by decide +kernel
theorem dX0_byRounds_46 : decode cX0_byRounds 46 = .ok (.getfield 26, 3) := by decide +kernel
theorem dX0_byRounds_49 : decode cX0_byRounds 49 = .ok (.iload_n 3, 1) := by decide +kernel
theorem dX0_byRounds_50 : decode cX0_byRounds 50 = .ok (.invokevirtual 29, 3) := by decide +kernel
theorem dX0_byRounds_53 : decode cX0_byRounds 53 = .ok (.if_icmp .eq 10, 3) := by decide +kernel
theorem dX0_byRounds_56 : decode cX0_byRounds 56 = .ok (.aload_n 0, 1) := by decide +kernel
theorem dX0_byRounds_57 : decode cX0_byRounds 57 = .ok (.iload_n 3, 1) := by decide +kernel
theorem dX0_byRounds_58 : decode cX0_byRounds 58 = .ok (.iload 4, 2) := by decide +kernel
theorem dX0_byRounds_60 : decode cX0_byRounds 60 = .ok (.invokevirtual 60, 3) := by decide +kernel
theorem dX0_byRounds_63 : decode cX0_byRounds 63 = .ok (.iinc 3 1, 3) := by decide +kernel
theorem dX0_byRounds_66 : decode cX0_byRounds 66 = .ok (.goto (-42), 3) := by decide +kernel
theorem dX0_byRounds_69 : decode cX0_byRounds 69 = .ok (.iinc 2 1, 3) := by decide +kernel
theorem dX0_byRounds_72 : decode cX0_byRounds 72 = .ok (.goto (-65), 3) := by decide +kernel
theorem dX0_byRounds_75 : decode cX0_byRounds 75 = .ok (.return_, 1) := by decide +kernel
theorem dX0_begin_0 : decode cX0_begin 0 = .ok (.iconst 0, 1) := by decide +kernel
theorem dX0_begin_1 : decode cX0_begin 1 = .ok (.istore_n 2, 1) := by decide +kernel
theorem dX0_begin_2 : decode cX0_begin 2 = .ok (.iload_n 2, 1) := by decide +kernel
theorem dX0_begin_3 : decode cX0_begin 3 = .ok (.aload_n 1, 1) := by decide +kernel
theorem dX0_begin_4 : decode cX0_begin 4 = .ok (.getfield 51, 3) := by decide +kernel
theorem dX0_begin_7 : decode cX0_begin 7 = .ok (.getfield 81, 3) := by decide +kernel
theorem dX0_begin_10 : decode cX0_begin 10 = .ok (.if_icmp .ge 84, 3) := by decide +kernel
theorem dX0_begin_13 : decode cX0_begin 13 = .ok (.iconst 0, 1) := by decide +kernel
theorem dX0_begin_14 : decode cX0_begin 14 = .ok (.istore_n 3, 1) := by decide +kernel
theorem dX0_begin_15 : decode cX0_begin 15 = .ok (.iconst 0, 1) := by decide +kernel
theorem dX0_begin_16 : decode cX0_begin 16 = .ok (.istore 4, 2) := by decide +kernel
theorem dX0_begin_18 : decode cX0_begin 18 = .ok (.iload 4, 2) := by decide +kernel
theorem dX0_begin_20 : decode cX0_begin 20 = .ok (.aload_n 1, 1) := by decide +kernel
theorem dX0_begin_21 : decode cX0_begin 21 = .ok (.getfield 68, 3) := by decide +kernel
theorem dX0_begin_24 : decode cX0_begin 24 = .ok (.getfield 72, 3) := by decide +kernel
theorem dX0_begin_27 : decode cX0_begin 27 = .ok (.if_icmp .ge 28, 3) := by decide +kernel
theorem dX0_begin_30 : decode cX0_begin 30 = .ok (.aload_n 1, 1) := by decide +kernel
theorem dX0_begin_31 : decode cX0_begin 31 = .ok (.iload_n 2, 1) := by decide +kernel
theorem dX0_begin_32 : decode cX0_begin 32 = .ok (.iload 4, 2) := by decide +kernel
theorem dX0_begin_34 : decode cX0_begin 34 = .ok (.invokevirtual 82, 3) := by decide +kernel
theorem dX0_begin_37 : decode cX0_begin 37 = .ok (.bipush 6, 2) := by decide +kernel
theorem dX0_begin_39 : decode cX0_begin 39 = .ok (.if_icmp .lt 10, 3) := by decide +kernel
theorem dX0_begin_42 : decode cX0_begin 42 = .ok (.iload_n 3, 1) := by decide +kernel
theorem dX0_begin_43 : decode cX0_begin 43 = .ok (.iconst 1, 1) := by decide +kernel
theorem dX0_begin_44 : decode cX0_begin 44 = .ok (.iload 4, 2) := by decide +kernel
theorem dX0_begin_46 : decode cX0_begin 46 = .ok (.ishl, 1) := by decide +kernel
theorem dX0_begin_47 : decode cX0_begin 47 = .ok (.ior, 1) := by decide +kernel
theorem dX0_begin_48 : decode cX0_begin 48 = .ok (.istore_n 3, 1) := by decide +kernel
theorem dX0_begin_49 : decode cX0_begin 49 = .ok (.iinc 4 1, 3) := by decide +kernel
theorem dX0_begin_52 : decode cX0_begin 52 = .ok (.goto (-34), 3) := by decide +kernel
theorem dX0_begin_55 : decode cX0_begin 55 = .ok (.aload_n 0, 1) := by decide +kernel
theorem dX0_begin_56 : decode cX0_begin 56 = .ok (.getfield 14, 3) := by decide +kernel
theorem dX0_begin_59 : decode cX0_begin 59 = .ok (.iload_n 2, 1) := by decide +kernel
theorem dX0_begin_60 : decode cX0_begin 60 = .ok (.aload_n 1, 1) := by decide +kernel
theorem dX0_begin_61 : decode cX0_begin 61 = .ok (.getfield 51, 3) := by decide +kernel
theorem dX0_begin_64 : decode cX0_begin 64 = .ok (.iload_n 2, 1) := by decide +kernel
theorem dX0_begin_65 : decode cX0_begin 65 = .ok (.invokevirtual 86, 3) := by decide +kernel
theorem dX0_begin_68 : decode cX0_begin 68 = .ok (.ifCond .eq 7, 3) := by decide +kernel
theorem dX0_begin_71 : decode cX0_begin 71 = .ok (.iconst 0, 1) := by decide +kernel
theorem dX0_begin_72 : decode cX0_begin 72 = .ok (.goto 4, 3) := by decide +kernel
theorem dX0_begin_75 : decode cX0_begin 75 = .ok (.iload_n 3, 1) := by decide +kernel
theorem dX0_begin_76 : decode cX0_begin 76 = .ok (.invokevirtual 90, 3) := by decide +kernel
theorem dX0_begin_79 : decode cX0_begin 79 = .ok (.aload_n 0, 1) := by decide +kernel
theorem dX0_begin_80 : decode cX0_begin 80 = .ok (.getfield 23, 3) := by decide +kernel
theorem dX0_begin_83 : decode cX0_begin 83 = .ok (.iload_n 2, 1) := by decide +kernel
theorem dX0_begin_84 : decode cX0_begin 84 = .ok (.iconst (-1), 1) := by decide +kernel
theorem dX0_begin_85 : decode cX0_begin 85 = .ok (.invokevirtual 90, 3) := by decide +kernel
theorem dX0_begin_88 : decode cX0_begin 88 = .ok (.iinc 2 1, 3) := by decide +kernel
theorem dX0_begin_91 : decode cX0_begin 91 = .ok (.goto (-89), 3) := by decide +kernel
theorem dX0_begin_94 : decode cX0_begin 94 = .ok (.iconst 0, 1) := by decide +kernel
theorem dX0_begin_95 : decode cX0_begin 95 = .ok (.istore_n 2, 1) := by decide +kernel
theorem dX0_begin_96 : decode cX0_begin 96 = .ok (.iload_n 2, 1) := by decide +kernel
theorem dX0_begin_97 : decode cX0_begin 97 = .ok (.aload_n 1, 1) := by decide +kernel
theorem dX0_begin_98 : decode cX0_begin 98 = .ok (.getfield 68, 3) := by decide +kernel
theorem dX0_begin_101 : decode cX0_begin 101 = .ok (.getfield 72, 3) := by decide +kernel
theorem dX0_begin_104 : decode cX0_begin 104 = .ok (.if_icmp .ge 18, 3) := by decide +kernel
theorem dX0_begin_107 : decode cX0_begin 107 = .ok (.aload_n 0, 1) := by decide +kernel
theorem dX0_begin_108 : decode cX0_begin 108 = .ok (.getfield 26, 3) := by decide +kernel
theorem dX0_begin_111 : decode cX0_begin 111 = .ok (.iload_n 2, 1) := by decide +kernel
theorem dX0_begin_112 : decode cX0_begin 112 = .ok (.iconst (-1), 1) := by decide +kernel
theorem dX0_begin_113 : decode cX0_begin 113 = .ok (.invokevirtual 90, 3) := by decide +kernel
theorem dX0_begin_116 : decode cX0_begin 116 = .ok (.iinc 2 1, 3) := by decide +kernel
theorem dX0_begin_119 : decode cX0_begin 119 = .ok (.goto (-23), 3) := by decide +kernel
theorem dX0_begin_122 : decode cX0_begin 122 = .ok (.return_, 1) := by decide +kernel
theorem dX0_canAsk_0 : decode cX0_canAsk 0 = .ok (.aload_n 0, 1) := by decide +kernel
theorem dX0_canAsk_1 : decode cX0_canAsk 1 = .ok (.getfield 23, 3) := by decide +kernel
theorem dX0_canAsk_4 : decode cX0_canAsk 4 = .ok (.iload_n 1, 1) := by decide +kernel
theorem dX0_canAsk_5 : decode cX0_canAsk 5 = .ok (.invokevirtual 29, 3) := by decide +kernel
theorem dX0_canAsk_8 : decode cX0_canAsk 8 = .ok (.iconst (-1), 1) := by decide +kernel
theorem dX0_canAsk_9 : decode cX0_canAsk 9 = .ok (.if_icmp .ne 18, 3) := by decide +kernel
theorem dX0_canAsk_12 : decode cX0_canAsk 12 = .ok (.aload_n 0, 1) := by decide +kernel
theorem dX0_canAsk_13 : decode cX0_canAsk 13 = .ok (.getfield 14, 3) := by decide +kernel
theorem dX0_canAsk_16 : decode cX0_canAsk 16 = .ok (.iload_n 1, 1) := by decide +kernel
theorem dX0_canAsk_17 : decode cX0_canAsk 17 = .ok (.invokevirtual 29, 3) := by decide +kernel
theorem dX0_canAsk_20 : decode cX0_canAsk 20 = .ok (.ifCond .eq 7, 3) := by decide +kernel
theorem dX0_canAsk_23 : decode cX0_canAsk 23 = .ok (.iconst 1, 1) := by decide +kernel
theorem dX0_canAsk_24 : decode cX0_canAsk 24 = .ok (.goto 4, 3) := by decide +kernel
theorem dX0_canAsk_27 : decode cX0_canAsk 27 = .ok (.iconst 0, 1) := by decide +kernel
theorem dX0_canAsk_28 : decode cX0_canAsk 28 = .ok (.ireturn, 1) := by decide +kernel
theorem dX0_lowestThatCanAsk_0 : decode cX0_lowestThatCanAsk 0 = .ok (.iconst 0, 1) := by decide +kernel
theorem dX0_lowestThatCanAsk_1 : decode cX0_lowestThatCanAsk 1 = .ok (.istore_n 2, 1) := by decide +kernel
theorem dX0_lowestThatCanAsk_2 : decode cX0_lowestThatCanAsk 2 = .ok (.iload_n 2, 1) := by decide +kernel
theorem dX0_lowestThatCanAsk_3 : decode cX0_lowestThatCanAsk 3 = .ok (.aload_n 1, 1) := by decide +kernel
theorem dX0_lowestThatCanAsk_4 : decode cX0_lowestThatCanAsk 4 = .ok (.getfield 51, 3) := by decide +kernel
theorem dX0_lowestThatCanAsk_7 : decode cX0_lowestThatCanAsk 7 = .ok (.getfield 81, 3) := by decide +kernel
theorem dX0_lowestThatCanAsk_10 : decode cX0_lowestThatCanAsk 10 = .ok (.if_icmp .ge 19, 3) := by decide +kernel
theorem dX0_lowestThatCanAsk_13 : decode cX0_lowestThatCanAsk 13 = .ok (.aload_n 0, 1) := by decide +kernel
theorem dX0_lowestThatCanAsk_14 : decode cX0_lowestThatCanAsk 14 = .ok (.iload_n 2, 1) := by decide +kernel
theorem dX0_lowestThatCanAsk_15 : decode cX0_lowestThatCanAsk 15 = .ok (.invokevirtual 93, 3) := by decide +kernel
theorem dX0_lowestThatCanAsk_18 : decode cX0_lowestThatCanAsk 18 = .ok (.ifCond .eq 5, 3) := by decide +kernel
theorem dX0_lowestThatCanAsk_21 : decode cX0_lowestThatCanAsk 21 = .ok (.iload_n 2, 1) := by decide +kernel
theorem dX0_lowestThatCanAsk_22 : decode cX0_lowestThatCanAsk 22 = .ok (.ireturn, 1) := by decide +kernel
theorem dX0_lowestThatCanAsk_23 : decode cX0_lowestThatCanAsk 23 = .ok (.iinc 2 1, 3) := by decide +kernel
theorem dX0_lowestThatCanAsk_26 : decode cX0_lowestThatCanAsk 26 = .ok (.goto (-24), 3) := by decide +kernel
theorem dX0_lowestThatCanAsk_29 : decode cX0_lowestThatCanAsk 29 = .ok (.iconst (-1), 1) := by decide +kernel
theorem dX0_lowestThatCanAsk_30 : decode cX0_lowestThatCanAsk 30 = .ok (.ireturn, 1) := by decide +kernel
theorem dX0_askNext_0 : decode cX0_askNext 0 = .ok (.iconst (-1), 1) := by decide +kernel
theorem dX0_askNext_1 : decode cX0_askNext 1 = .ok (.istore_n 3, 1) := by decide +kernel
theorem dX0_askNext_2 : decode cX0_askNext 2 = .ok (.iconst 0, 1) := by decide +kernel
theorem dX0_askNext_3 : decode cX0_askNext 3 = .ok (.istore 4, 2) := by decide +kernel
theorem dX0_askNext_5 : decode cX0_askNext 5 = .ok (.iconst 0, 1) := by decide +kernel
theorem dX0_askNext_6 : decode cX0_askNext 6 = .ok (.istore 5, 2) := by decide +kernel
theorem dX0_askNext_8 : decode cX0_askNext 8 = .ok (.iload 5, 2) := by decide +kernel
theorem dX0_askNext_10 : decode cX0_askNext 10 = .ok (.aload_n 1, 1) := by decide +kernel
theorem dX0_askNext_11 : decode cX0_askNext 11 = .ok (.getfield 68, 3) := by decide +kernel
theorem dX0_askNext_14 : decode cX0_askNext 14 = .ok (.getfield 72, 3) := by decide +kernel
theorem dX0_askNext_17 : decode cX0_askNext 17 = .ok (.if_icmp .ge 62, 3) := by decide +kernel
theorem dX0_askNext_20 : decode cX0_askNext 20 = .ok (.aload_n 0, 1) := by decide +kernel
theorem dX0_askNext_21 : decode cX0_askNext 21 = .ok (.getfield 14, 3) := by decide +kernel
theorem dX0_askNext_24 : decode cX0_askNext 24 = .ok (.iload_n 2, 1) := by decide +kernel
theorem dX0_askNext_25 : decode cX0_askNext 25 = .ok (.invokevirtual 29, 3) := by decide +kernel
theorem dX0_askNext_28 : decode cX0_askNext 28 = .ok (.iload 5, 2) := by decide +kernel
theorem dX0_askNext_30 : decode cX0_askNext 30 = .ok (.ishr, 1) := by decide +kernel
theorem dX0_askNext_31 : decode cX0_askNext 31 = .ok (.iconst 1, 1) := by decide +kernel
theorem dX0_askNext_32 : decode cX0_askNext 32 = .ok (.iand, 1) := by decide +kernel
theorem dX0_askNext_33 : decode cX0_askNext 33 = .ok (.iconst 1, 1) := by decide +kernel
theorem dX0_askNext_34 : decode cX0_askNext 34 = .ok (.if_icmp .ne 7, 3) := by decide +kernel
theorem dX0_askNext_37 : decode cX0_askNext 37 = .ok (.iconst 1, 1) := by decide +kernel
theorem dX0_askNext_38 : decode cX0_askNext 38 = .ok (.goto 4, 3) := by decide +kernel
theorem dX0_askNext_41 : decode cX0_askNext 41 = .ok (.iconst 0, 1) := by decide +kernel
theorem dX0_askNext_42 : decode cX0_askNext 42 = .ok (.istore 6, 2) := by decide +kernel
theorem dX0_askNext_44 : decode cX0_askNext 44 = .ok (.iload 6, 2) := by decide +kernel
theorem dX0_askNext_46 : decode cX0_askNext 46 = .ok (.ifCond .eq 27, 3) := by decide +kernel
theorem dX0_askNext_49 : decode cX0_askNext 49 = .ok (.aload_n 1, 1) := by decide +kernel
theorem dX0_askNext_50 : decode cX0_askNext 50 = .ok (.iload_n 2, 1) := by decide +kernel
theorem dX0_askNext_51 : decode cX0_askNext 51 = .ok (.iload 5, 2) := by decide +kernel
theorem dX0_askNext_53 : decode cX0_askNext 53 = .ok (.invokevirtual 82, 3) := by decide +kernel
theorem dX0_askNext_56 : decode cX0_askNext 56 = .ok (.iload 4, 2) := by decide +kernel
theorem dX0_askNext_58 : decode cX0_askNext 58 = .ok (.if_icmp .le 15, 3) := by decide +kernel
theorem dX0_askNext_61 : decode cX0_askNext 61 = .ok (.iload 5, 2) := by decide +kernel
theorem dX0_askNext_63 : decode cX0_askNext 63 = .ok (.istore_n 3, 1) := by decide +kernel
theorem dX0_askNext_64 : decode cX0_askNext 64 = .ok (.aload_n 1, 1) := by decide +kernel
theorem dX0_askNext_65 : decode cX0_askNext 65 = .ok (.iload_n 2, 1) := by decide +kernel
theorem dX0_askNext_66 : decode cX0_askNext 66 = .ok (.iload 5, 2) := by decide +kernel
theorem dX0_askNext_68 : decode cX0_askNext 68 = .ok (.invokevirtual 82, 3) := by decide +kernel
theorem dX0_askNext_71 : decode cX0_askNext 71 = .ok (.istore 4, 2) := by decide +kernel
theorem dX0_askNext_73 : decode cX0_askNext 73 = .ok (.iinc 5 1, 3) := by decide +kernel
theorem dX0_askNext_76 : decode cX0_askNext 76 = .ok (.goto (-68), 3) := by decide +kernel
theorem dX0_askNext_79 : decode cX0_askNext 79 = .ok (.aload_n 0, 1) := by decide +kernel
theorem dX0_askNext_80 : decode cX0_askNext 80 = .ok (.getfield 14, 3) := by decide +kernel
theorem dX0_askNext_83 : decode cX0_askNext 83 = .ok (.iload_n 2, 1) := by decide +kernel
theorem dX0_askNext_84 : decode cX0_askNext 84 = .ok (.aload_n 0, 1) := by decide +kernel
theorem dX0_askNext_85 : decode cX0_askNext 85 = .ok (.getfield 14, 3) := by decide +kernel
theorem dX0_askNext_88 : decode cX0_askNext 88 = .ok (.iload_n 2, 1) := by decide +kernel
theorem dX0_askNext_89 : decode cX0_askNext 89 = .ok (.invokevirtual 29, 3) := by decide +kernel
theorem dX0_askNext_92 : decode cX0_askNext 92 = .ok (.iconst 1, 1) := by decide +kernel
theorem dX0_askNext_93 : decode cX0_askNext 93 = .ok (.iload_n 3, 1) := by decide +kernel
theorem dX0_askNext_94 : decode cX0_askNext 94 = .ok (.ishl, 1) := by decide +kernel
theorem dX0_askNext_95 : decode cX0_askNext 95 = .ok (.iconst (-1), 1) := by decide +kernel
theorem dX0_askNext_96 : decode cX0_askNext 96 = .ok (.ixor, 1) := by decide +kernel
theorem dX0_askNext_97 : decode cX0_askNext 97 = .ok (.iand, 1) := by decide +kernel
theorem dX0_askNext_98 : decode cX0_askNext 98 = .ok (.invokevirtual 90, 3) := by decide +kernel
theorem dX0_askNext_101 : decode cX0_askNext 101 = .ok (.iload_n 3, 1) := by decide +kernel
theorem dX0_askNext_102 : decode cX0_askNext 102 = .ok (.ireturn, 1) := by decide +kernel
theorem dX0_askAtOnce_0 : decode cX0_askAtOnce 0 = .ok (.iconst 0, 1) := by decide +kernel
theorem dX0_askAtOnce_1 : decode cX0_askAtOnce 1 = .ok (.istore_n 2, 1) := by decide +kernel
theorem dX0_askAtOnce_2 : decode cX0_askAtOnce 2 = .ok (.iconst 0, 1) := by decide +kernel
theorem dX0_askAtOnce_3 : decode cX0_askAtOnce 3 = .ok (.istore_n 3, 1) := by decide +kernel
theorem dX0_askAtOnce_4 : decode cX0_askAtOnce 4 = .ok (.iload_n 3, 1) := by decide +kernel
theorem dX0_askAtOnce_5 : decode cX0_askAtOnce 5 = .ok (.aload_n 1, 1) := by decide +kernel
theorem dX0_askAtOnce_6 : decode cX0_askAtOnce 6 = .ok (.getfield 51, 3) := by decide +kernel
theorem dX0_askAtOnce_9 : decode cX0_askAtOnce 9 = .ok (.getfield 81, 3) := by decide +kernel
theorem dX0_askAtOnce_12 : decode cX0_askAtOnce 12 = .ok (.if_icmp .ge 54, 3) := by decide +kernel
theorem dX0_askAtOnce_15 : decode cX0_askAtOnce 15 = .ok (.aload_n 0, 1) := by decide +kernel
theorem dX0_askAtOnce_16 : decode cX0_askAtOnce 16 = .ok (.iload_n 3, 1) := by decide +kernel
theorem dX0_askAtOnce_17 : decode cX0_askAtOnce 17 = .ok (.invokevirtual 93, 3) := by decide +kernel
theorem dX0_askAtOnce_20 : decode cX0_askAtOnce 20 = .ok (.istore 4, 2) := by decide +kernel
theorem dX0_askAtOnce_22 : decode cX0_askAtOnce 22 = .ok (.aload_n 0, 1) := by decide +kernel
theorem dX0_askAtOnce_23 : decode cX0_askAtOnce 23 = .ok (.getfield 20, 3) := by decide +kernel
theorem dX0_askAtOnce_26 : decode cX0_askAtOnce 26 = .ok (.iload_n 3, 1) := by decide +kernel
theorem dX0_askAtOnce_27 : decode cX0_askAtOnce 27 = .ok (.iload 4, 2) := by decide +kernel
theorem dX0_askAtOnce_29 : decode cX0_askAtOnce 29 = .ok (.ifCond .eq 12, 3) := by decide +kernel
theorem dX0_askAtOnce_32 : decode cX0_askAtOnce 32 = .ok (.aload_n 0, 1) := by decide +kernel
theorem dX0_askAtOnce_33 : decode cX0_askAtOnce 33 = .ok (.aload_n 1, 1) := by decide +kernel
theorem dX0_askAtOnce_34 : decode cX0_askAtOnce 34 = .ok (.iload_n 3, 1) := by decide +kernel
theorem dX0_askAtOnce_35 : decode cX0_askAtOnce 35 = .ok (.invokevirtual 41, 3) := by decide +kernel
theorem dX0_askAtOnce_38 : decode cX0_askAtOnce 38 = .ok (.goto 4, 3) := by decide +kernel
theorem dX0_askAtOnce_41 : decode cX0_askAtOnce 41 = .ok (.iconst (-1), 1) := by decide +kernel
theorem dX0_askAtOnce_42 : decode cX0_askAtOnce 42 = .ok (.invokevirtual 90, 3) := by decide +kernel
theorem dX0_askAtOnce_45 : decode cX0_askAtOnce 45 = .ok (.iload_n 2, 1) := by decide +kernel
theorem dX0_askAtOnce_46 : decode cX0_askAtOnce 46 = .ok (.ifCond .ne 8, 3) := by decide +kernel
theorem dX0_askAtOnce_49 : decode cX0_askAtOnce 49 = .ok (.iload 4, 2) := by decide +kernel
theorem dX0_askAtOnce_51 : decode cX0_askAtOnce 51 = .ok (.ifCond .eq 7, 3) := by decide +kernel
theorem dX0_askAtOnce_54 : decode cX0_askAtOnce 54 = .ok (.iconst 1, 1) := by decide +kernel
theorem dX0_askAtOnce_55 : decode cX0_askAtOnce 55 = .ok (.goto 4, 3) := by decide +kernel
theorem dX0_askAtOnce_58 : decode cX0_askAtOnce 58 = .ok (.iconst 0, 1) := by decide +kernel
theorem dX0_askAtOnce_59 : decode cX0_askAtOnce 59 = .ok (.istore_n 2, 1) := by decide +kernel
theorem dX0_askAtOnce_60 : decode cX0_askAtOnce 60 = .ok (.iinc 3 1, 3) := by decide +kernel
theorem dX0_askAtOnce_63 : decode cX0_askAtOnce 63 = .ok (.goto (-59), 3) := by decide +kernel
theorem dX0_askAtOnce_66 : decode cX0_askAtOnce 66 = .ok (.iload_n 2, 1) := by decide +kernel
theorem dX0_askAtOnce_67 : decode cX0_askAtOnce 67 = .ok (.ireturn, 1) := by decide +kernel
theorem dX0_bestOfAsking_0 : decode cX0_bestOfAsking 0 = .ok (.aload_n 0, 1) := by decide +kernel
theorem dX0_bestOfAsking_1 : decode cX0_bestOfAsking 1 = .ok (.getfield 26, 3) := by decide +kernel
theorem dX0_bestOfAsking_4 : decode cX0_bestOfAsking 4 = .ok (.iload_n 2, 1) := by decide +kernel
theorem dX0_bestOfAsking_5 : decode cX0_bestOfAsking 5 = .ok (.invokevirtual 29, 3) := by decide +kernel
theorem dX0_bestOfAsking_8 : decode cX0_bestOfAsking 8 = .ok (.istore_n 3, 1) := by decide +kernel
theorem dX0_bestOfAsking_9 : decode cX0_bestOfAsking 9 = .ok (.iconst 0, 1) := by decide +kernel
theorem dX0_bestOfAsking_10 : decode cX0_bestOfAsking 10 = .ok (.istore 4, 2) := by decide +kernel
theorem dX0_bestOfAsking_12 : decode cX0_bestOfAsking 12 = .ok (.iload 4, 2) := by decide +kernel
theorem dX0_bestOfAsking_14 : decode cX0_bestOfAsking 14 = .ok (.aload_n 1, 1) := by decide +kernel
theorem dX0_bestOfAsking_15 : decode cX0_bestOfAsking 15 = .ok (.getfield 51, 3) := by decide +kernel
theorem dX0_bestOfAsking_18 : decode cX0_bestOfAsking 18 = .ok (.getfield 81, 3) := by decide +kernel
theorem dX0_bestOfAsking_21 : decode cX0_bestOfAsking 21 = .ok (.if_icmp .ge 53, 3) := by decide +kernel
theorem dX0_bestOfAsking_24 : decode cX0_bestOfAsking 24 = .ok (.aload_n 0, 1) := by decide +kernel
theorem dX0_bestOfAsking_25 : decode cX0_bestOfAsking 25 = .ok (.getfield 20, 3) := by decide +kernel
theorem dX0_bestOfAsking_28 : decode cX0_bestOfAsking 28 = .ok (.iload 4, 2) := by decide +kernel
theorem dX0_bestOfAsking_30 : decode cX0_bestOfAsking 30 = .ok (.invokevirtual 29, 3) := by decide +kernel
theorem dX0_bestOfAsking_33 : decode cX0_bestOfAsking 33 = .ok (.iload_n 2, 1) := by decide +kernel
theorem dX0_bestOfAsking_34 : decode cX0_bestOfAsking 34 = .ok (.if_icmp .ne 34, 3) := by decide +kernel
theorem dX0_bestOfAsking_37 : decode cX0_bestOfAsking 37 = .ok (.aload_n 1, 1) := by decide +kernel
theorem dX0_bestOfAsking_38 : decode cX0_bestOfAsking 38 = .ok (.iload_n 2, 1) := by decide +kernel
theorem dX0_bestOfAsking_39 : decode cX0_bestOfAsking 39 = .ok (.iload 4, 2) := by decide +kernel
theorem dX0_bestOfAsking_41 : decode cX0_bestOfAsking 41 = .ok (.invokevirtual 45, 3) := by decide +kernel
theorem dX0_bestOfAsking_44 : decode cX0_bestOfAsking 44 = .ok (.ifCond .eq 24, 3) := by decide +kernel
theorem dX0_bestOfAsking_47 : decode cX0_bestOfAsking 47 = .ok (.iload_n 3, 1) := by decide +kernel
theorem dX0_bestOfAsking_48 : decode cX0_bestOfAsking 48 = .ok (.iconst (-1), 1) := by decide +kernel
theorem dX0_bestOfAsking_49 : decode cX0_bestOfAsking 49 = .ok (.if_icmp .eq 16, 3) := by decide +kernel
theorem dX0_bestOfAsking_52 : decode cX0_bestOfAsking 52 = .ok (.aload_n 1, 1) := by decide +kernel
theorem dX0_bestOfAsking_53 : decode cX0_bestOfAsking 53 = .ok (.getfield 51, 3) := by decide +kernel
theorem dX0_bestOfAsking_56 : decode cX0_bestOfAsking 56 = .ok (.iload 4, 2) := by decide +kernel
theorem dX0_bestOfAsking_58 : decode cX0_bestOfAsking 58 = .ok (.iload_n 3, 1) := by decide +kernel
theorem dX0_bestOfAsking_59 : decode cX0_bestOfAsking 59 = .ok (.invokevirtual 55, 3) := by decide +kernel
theorem dX0_bestOfAsking_62 : decode cX0_bestOfAsking 62 = .ok (.ifCond .eq 6, 3) := by decide +kernel
theorem dX0_bestOfAsking_65 : decode cX0_bestOfAsking 65 = .ok (.iload 4, 2) := by decide +kernel
theorem dX0_bestOfAsking_67 : decode cX0_bestOfAsking 67 = .ok (.istore_n 3, 1) := by decide +kernel
theorem dX0_bestOfAsking_68 : decode cX0_bestOfAsking 68 = .ok (.iinc 4 1, 3) := by decide +kernel
theorem dX0_bestOfAsking_71 : decode cX0_bestOfAsking 71 = .ok (.goto (-59), 3) := by decide +kernel
theorem dX0_bestOfAsking_74 : decode cX0_bestOfAsking 74 = .ok (.iload_n 3, 1) := by decide +kernel
theorem dX0_bestOfAsking_75 : decode cX0_bestOfAsking 75 = .ok (.ireturn, 1) := by decide +kernel
theorem dX0_move_0 : decode cX0_move 0 = .ok (.aload_n 0, 1) := by decide +kernel
theorem dX0_move_1 : decode cX0_move 1 = .ok (.getfield 23, 3) := by decide +kernel
theorem dX0_move_4 : decode cX0_move 4 = .ok (.aload_n 0, 1) := by decide +kernel
theorem dX0_move_5 : decode cX0_move 5 = .ok (.getfield 26, 3) := by decide +kernel
theorem dX0_move_8 : decode cX0_move 8 = .ok (.iload_n 1, 1) := by decide +kernel
theorem dX0_move_9 : decode cX0_move 9 = .ok (.invokevirtual 29, 3) := by decide +kernel
theorem dX0_move_12 : decode cX0_move 12 = .ok (.iconst (-1), 1) := by decide +kernel
theorem dX0_move_13 : decode cX0_move 13 = .ok (.invokevirtual 90, 3) := by decide +kernel
theorem dX0_move_16 : decode cX0_move 16 = .ok (.aload_n 0, 1) := by decide +kernel
theorem dX0_move_17 : decode cX0_move 17 = .ok (.getfield 23, 3) := by decide +kernel
theorem dX0_move_20 : decode cX0_move 20 = .ok (.iload_n 2, 1) := by decide +kernel
theorem dX0_move_21 : decode cX0_move 21 = .ok (.iload_n 1, 1) := by decide +kernel
theorem dX0_move_22 : decode cX0_move 22 = .ok (.invokevirtual 90, 3) := by decide +kernel
theorem dX0_move_25 : decode cX0_move 25 = .ok (.aload_n 0, 1) := by decide +kernel
theorem dX0_move_26 : decode cX0_move 26 = .ok (.getfield 26, 3) := by decide +kernel
theorem dX0_move_29 : decode cX0_move 29 = .ok (.iload_n 1, 1) := by decide +kernel
theorem dX0_move_30 : decode cX0_move 30 = .ok (.iload_n 2, 1) := by decide +kernel
theorem dX0_move_31 : decode cX0_move 31 = .ok (.invokevirtual 90, 3) := by decide +kernel
theorem dX0_move_34 : decode cX0_move 34 = .ok (.return_, 1) := by decide +kernel
theorem dX1_init_0 : decode cX1_init 0 = .ok (.aload_n 0, 1) := by decide +kernel
theorem dX1_init_1 : decode cX1_init 1 = .ok (.invokespecial 3, 3) := by decide +kernel
theorem dX1_init_4 : decode cX1_init 4 = .ok (.aload_n 0, 1) := by decide +kernel
theorem dX1_init_5 : decode cX1_init 5 = .ok (.bipush 10, 2) := by decide +kernel
theorem dX1_init_7 : decode cX1_init 7 = .ok (.putfield 9, 3) := by decide +kernel
theorem dX1_init_10 : decode cX1_init 10 = .ok (.return_, 1) := by decide +kernel
theorem dX1_copy_0 : decode cX1_copy 0 = .ok (.aload_n 0, 1) := by decide +kernel
theorem dX1_copy_1 : decode cX1_copy 1 = .ok (.aload_n 1, 1) := by decide +kernel
theorem dX1_copy_2 : decode cX1_copy 2 = .ok (.getfield 9, 3) := by decide +kernel
theorem dX1_copy_5 : decode cX1_copy 5 = .ok (.putfield 9, 3) := by decide +kernel
theorem dX1_copy_8 : decode cX1_copy 8 = .ok (.aload_n 0, 1) := by decide +kernel
theorem dX1_copy_9 : decode cX1_copy 9 = .ok (.aload_n 1, 1) := by decide +kernel
theorem dX1_copy_10 : decode cX1_copy 10 = .ok (.getfield 15, 3) := by decide +kernel
theorem dX1_copy_13 : decode cX1_copy 13 = .ok (.putfield 15, 3) := by decide +kernel
theorem dX1_copy_16 : decode cX1_copy 16 = .ok (.aload_n 0, 1) := by decide +kernel
theorem dX1_copy_17 : decode cX1_copy 17 = .ok (.aload_n 1, 1) := by decide +kernel
theorem dX1_copy_18 : decode cX1_copy 18 = .ok (.getfield 18, 3) := by decide +kernel
theorem dX1_copy_21 : decode cX1_copy 21 = .ok (.putfield 18, 3) := by decide +kernel
theorem dX1_copy_24 : decode cX1_copy 24 = .ok (.aload_n 0, 1) := by decide +kernel
theorem dX1_copy_25 : decode cX1_copy 25 = .ok (.aload_n 1, 1) := by decide +kernel
theorem dX1_copy_26 : decode cX1_copy 26 = .ok (.getfield 21, 3) := by decide +kernel
theorem dX1_copy_29 : decode cX1_copy 29 = .ok (.putfield 21, 3) := by decide +kernel
theorem dX1_copy_32 : decode cX1_copy 32 = .ok (.aload_n 0, 1) := by decide +kernel
theorem dX1_copy_33 : decode cX1_copy 33 = .ok (.aload_n 1, 1) := by decide +kernel
theorem dX1_copy_34 : decode cX1_copy 34 = .ok (.getfield 24, 3) := by decide +kernel
theorem dX1_copy_37 : decode cX1_copy 37 = .ok (.putfield 24, 3) := by decide +kernel
theorem dX1_copy_40 : decode cX1_copy 40 = .ok (.aload_n 0, 1) := by decide +kernel
theorem dX1_copy_41 : decode cX1_copy 41 = .ok (.aload_n 1, 1) := by decide +kernel
theorem dX1_copy_42 : decode cX1_copy 42 = .ok (.getfield 27, 3) := by decide +kernel
theorem dX1_copy_45 : decode cX1_copy 45 = .ok (.putfield 27, 3) := by decide +kernel
theorem dX1_copy_48 : decode cX1_copy 48 = .ok (.aload_n 0, 1) := by decide +kernel
theorem dX1_copy_49 : decode cX1_copy 49 = .ok (.aload_n 1, 1) := by decide +kernel
theorem dX1_copy_50 : decode cX1_copy 50 = .ok (.getfield 30, 3) := by decide +kernel
theorem dX1_copy_53 : decode cX1_copy 53 = .ok (.putfield 30, 3) := by decide +kernel
theorem dX1_copy_56 : decode cX1_copy 56 = .ok (.return_, 1) := by decide +kernel
theorem dX2_init_0 : decode cX2_init 0 = .ok (.aload_n 0, 1) := by decide +kernel
theorem dX2_init_1 : decode cX2_init 1 = .ok (.invokespecial 3, 3) := by decide +kernel
theorem dX2_init_4 : decode cX2_init 4 = .ok (.aload_n 0, 1) := by decide +kernel
theorem dX2_init_5 : decode cX2_init 5 = .ok (.new 9, 3) := by decide +kernel
theorem dX2_init_8 : decode cX2_init 8 = .ok (.dup, 1) := by decide +kernel
theorem dX2_init_9 : decode cX2_init 9 = .ok (.bipush 10, 2) := by decide +kernel
theorem dX2_init_11 : decode cX2_init 11 = .ok (.invokespecial 11, 3) := by decide +kernel
theorem dX2_init_14 : decode cX2_init 14 = .ok (.putfield 14, 3) := by decide +kernel
theorem dX2_init_17 : decode cX2_init 17 = .ok (.aload_n 0, 1) := by decide +kernel
theorem dX2_init_18 : decode cX2_init 18 = .ok (.new 9, 3) := by decide +kernel
theorem dX2_init_21 : decode cX2_init 21 = .ok (.dup, 1) := by decide +kernel
theorem dX2_init_22 : decode cX2_init 22 = .ok (.bipush 10, 2) := by decide +kernel
theorem dX2_init_24 : decode cX2_init 24 = .ok (.invokespecial 11, 3) := by decide +kernel
theorem dX2_init_27 : decode cX2_init 27 = .ok (.putfield 20, 3) := by decide +kernel
theorem dX2_init_30 : decode cX2_init 30 = .ok (.aload_n 0, 1) := by decide +kernel
theorem dX2_init_31 : decode cX2_init 31 = .ok (.new 9, 3) := by decide +kernel
theorem dX2_init_34 : decode cX2_init 34 = .ok (.dup, 1) := by decide +kernel
theorem dX2_init_35 : decode cX2_init 35 = .ok (.bipush 10, 2) := by decide +kernel
theorem dX2_init_37 : decode cX2_init 37 = .ok (.invokespecial 11, 3) := by decide +kernel
theorem dX2_init_40 : decode cX2_init 40 = .ok (.putfield 23, 3) := by decide +kernel
theorem dX2_init_43 : decode cX2_init 43 = .ok (.aload_n 0, 1) := by decide +kernel
theorem dX2_init_44 : decode cX2_init 44 = .ok (.new 9, 3) := by decide +kernel
theorem dX2_init_47 : decode cX2_init 47 = .ok (.dup, 1) := by decide +kernel
theorem dX2_init_48 : decode cX2_init 48 = .ok (.bipush 10, 2) := by decide +kernel
theorem dX2_init_50 : decode cX2_init 50 = .ok (.invokespecial 11, 3) := by decide +kernel
theorem dX2_init_53 : decode cX2_init 53 = .ok (.putfield 26, 3) := by decide +kernel
theorem dX2_init_56 : decode cX2_init 56 = .ok (.aload_n 0, 1) := by decide +kernel
theorem dX2_init_57 : decode cX2_init 57 = .ok (.new 9, 3) := by decide +kernel
theorem dX2_init_60 : decode cX2_init 60 = .ok (.dup, 1) := by decide +kernel
theorem dX2_init_61 : decode cX2_init 61 = .ok (.bipush 10, 2) := by decide +kernel
theorem dX2_init_63 : decode cX2_init 63 = .ok (.invokespecial 11, 3) := by decide +kernel
theorem dX2_init_66 : decode cX2_init 66 = .ok (.putfield 29, 3) := by decide +kernel
theorem dX2_init_69 : decode cX2_init 69 = .ok (.aload_n 0, 1) := by decide +kernel
theorem dX2_init_70 : decode cX2_init 70 = .ok (.new 9, 3) := by decide +kernel
theorem dX2_init_73 : decode cX2_init 73 = .ok (.dup, 1) := by decide +kernel
theorem dX2_init_74 : decode cX2_init 74 = .ok (.bipush 10, 2) := by decide +kernel
theorem dX2_init_76 : decode cX2_init 76 = .ok (.invokespecial 11, 3) := by decide +kernel
theorem dX2_init_79 : decode cX2_init 79 = .ok (.putfield 32, 3) := by decide +kernel
theorem dX2_init_82 : decode cX2_init 82 = .ok (.aload_n 0, 1) := by decide +kernel
theorem dX2_init_83 : decode cX2_init 83 = .ok (.new 9, 3) := by decide +kernel
theorem dX2_init_86 : decode cX2_init 86 = .ok (.dup, 1) := by decide +kernel
theorem dX2_init_87 : decode cX2_init 87 = .ok (.bipush 10, 2) := by decide +kernel
theorem dX2_init_89 : decode cX2_init 89 = .ok (.invokespecial 11, 3) := by decide +kernel
theorem dX2_init_92 : decode cX2_init 92 = .ok (.putfield 35, 3) := by decide +kernel
theorem dX2_init_95 : decode cX2_init 95 = .ok (.return_, 1) := by decide +kernel
theorem dX2_bring_0 : decode cX2_bring 0 = .ok (.aload_n 0, 1) := by decide +kernel
theorem dX2_bring_1 : decode cX2_bring 1 = .ok (.getfield 38, 3) := by decide +kernel
theorem dX2_bring_4 : decode cX2_bring 4 = .ok (.istore_n 3, 1) := by decide +kernel
theorem dX2_bring_5 : decode cX2_bring 5 = .ok (.aload_n 0, 1) := by decide +kernel
theorem dX2_bring_6 : decode cX2_bring 6 = .ok (.getfield 14, 3) := by decide +kernel
theorem dX2_bring_9 : decode cX2_bring 9 = .ok (.iload_n 3, 1) := by decide +kernel
theorem dX2_bring_10 : decode cX2_bring 10 = .ok (.iload_n 1, 1) := by decide +kernel
theorem dX2_bring_11 : decode cX2_bring 11 = .ok (.invokevirtual 42, 3) := by decide +kernel
theorem dX2_bring_14 : decode cX2_bring 14 = .ok (.aload_n 0, 1) := by decide +kernel
theorem dX2_bring_15 : decode cX2_bring 15 = .ok (.getfield 20, 3) := by decide +kernel
theorem dX2_bring_18 : decode cX2_bring 18 = .ok (.iload_n 3, 1) := by decide +kernel
theorem dX2_bring_19 : decode cX2_bring 19 = .ok (.iload_n 2, 1) := by decide +kernel
theorem dX2_bring_20 : decode cX2_bring 20 = .ok (.invokevirtual 42, 3) := by decide +kernel
theorem dX2_bring_23 : decode cX2_bring 23 = .ok (.aload_n 0, 1) := by decide +kernel
theorem dX2_bring_24 : decode cX2_bring 24 = .ok (.getfield 23, 3) := by decide +kernel
theorem dX2_bring_27 : decode cX2_bring 27 = .ok (.iload_n 3, 1) := by decide +kernel
theorem dX2_bring_28 : decode cX2_bring 28 = .ok (.iconst 0, 1) := by decide +kernel
theorem dX2_bring_29 : decode cX2_bring 29 = .ok (.invokevirtual 42, 3) := by decide +kernel
theorem dX2_bring_32 : decode cX2_bring 32 = .ok (.aload_n 0, 1) := by decide +kernel
theorem dX2_bring_33 : decode cX2_bring 33 = .ok (.getfield 26, 3) := by decide +kernel
theorem dX2_bring_36 : decode cX2_bring 36 = .ok (.iload_n 3, 1) := by decide +kernel
theorem dX2_bring_37 : decode cX2_bring 37 = .ok (.iconst 3, 1) := by decide +kernel
theorem dX2_bring_38 : decode cX2_bring 38 = .ok (.invokevirtual 42, 3) := by decide +kernel
theorem dX2_bring_41 : decode cX2_bring 41 = .ok (.aload_n 0, 1) := by decide +kernel
theorem dX2_bring_42 : decode cX2_bring 42 = .ok (.getfield 29, 3) := by decide +kernel
theorem dX2_bring_45 : decode cX2_bring 45 = .ok (.iload_n 3, 1) := by decide +kernel
theorem dX2_bring_46 : decode cX2_bring 46 = .ok (.iconst 0, 1) := by decide +kernel
theorem dX2_bring_47 : decode cX2_bring 47 = .ok (.invokevirtual 42, 3) := by decide +kernel
theorem dX2_bring_50 : decode cX2_bring 50 = .ok (.aload_n 0, 1) := by decide +kernel
theorem dX2_bring_51 : decode cX2_bring 51 = .ok (.getfield 32, 3) := by decide +kernel
theorem dX2_bring_54 : decode cX2_bring 54 = .ok (.iload_n 3, 1) := by decide +kernel
theorem dX2_bring_55 : decode cX2_bring 55 = .ok (.iconst 0, 1) := by decide +kernel
theorem dX2_bring_56 : decode cX2_bring 56 = .ok (.invokevirtual 42, 3) := by decide +kernel
theorem dX2_bring_59 : decode cX2_bring 59 = .ok (.aload_n 0, 1) := by decide +kernel
theorem dX2_bring_60 : decode cX2_bring 60 = .ok (.getfield 35, 3) := by decide +kernel
theorem dX2_bring_63 : decode cX2_bring 63 = .ok (.iload_n 3, 1) := by decide +kernel
theorem dX2_bring_64 : decode cX2_bring 64 = .ok (.iconst (-1), 1) := by decide +kernel
theorem dX2_bring_65 : decode cX2_bring 65 = .ok (.invokevirtual 42, 3) := by decide +kernel
theorem dX2_bring_68 : decode cX2_bring 68 = .ok (.aload_n 0, 1) := by decide +kernel
theorem dX2_bring_69 : decode cX2_bring 69 = .ok (.dup, 1) := by decide +kernel
theorem dX2_bring_70 : decode cX2_bring 70 = .ok (.getfield 38, 3) := by decide +kernel
theorem dX2_bring_73 : decode cX2_bring 73 = .ok (.iconst 1, 1) := by decide +kernel
theorem dX2_bring_74 : decode cX2_bring 74 = .ok (.iadd, 1) := by decide +kernel
theorem dX2_bring_75 : decode cX2_bring 75 = .ok (.putfield 38, 3) := by decide +kernel
theorem dX2_bring_78 : decode cX2_bring 78 = .ok (.iload_n 3, 1) := by decide +kernel
theorem dX2_bring_79 : decode cX2_bring 79 = .ok (.ireturn, 1) := by decide +kernel
theorem dX2_has_0 : decode cX2_has 0 = .ok (.iload_n 1, 1) := by decide +kernel
theorem dX2_has_1 : decode cX2_has 1 = .ok (.ifCond .lt 15, 3) := by decide +kernel
theorem dX2_has_4 : decode cX2_has 4 = .ok (.iload_n 1, 1) := by decide +kernel
theorem dX2_has_5 : decode cX2_has 5 = .ok (.aload_n 0, 1) := by decide +kernel
theorem dX2_has_6 : decode cX2_has 6 = .ok (.getfield 38, 3) := by decide +kernel
theorem dX2_has_9 : decode cX2_has 9 = .ok (.if_icmp .ge 7, 3) := by decide +kernel
theorem dX2_has_12 : decode cX2_has 12 = .ok (.iconst 1, 1) := by decide +kernel
theorem dX2_has_13 : decode cX2_has 13 = .ok (.goto 4, 3) := by decide +kernel
theorem dX2_has_16 : decode cX2_has 16 = .ok (.iconst 0, 1) := by decide +kernel
theorem dX2_has_17 : decode cX2_has 17 = .ok (.ireturn, 1) := by decide +kernel
theorem dX2_isFallen_0 : decode cX2_isFallen 0 = .ok (.aload_n 0, 1) := by decide +kernel
theorem dX2_isFallen_1 : decode cX2_isFallen 1 = .ok (.getfield 26, 3) := by decide +kernel
theorem dX2_isFallen_4 : decode cX2_isFallen 4 = .ok (.iload_n 1, 1) := by decide +kernel
theorem dX2_isFallen_5 : decode cX2_isFallen 5 = .ok (.invokevirtual 46, 3) := by decide +kernel
theorem dX2_isFallen_8 : decode cX2_isFallen 8 = .ok (.ifCond .ne 7, 3) := by decide +kernel
theorem dX2_isFallen_11 : decode cX2_isFallen 11 = .ok (.iconst 1, 1) := by decide +kernel
theorem dX2_isFallen_12 : decode cX2_isFallen 12 = .ok (.goto 4, 3) := by decide +kernel
theorem dX2_isFallen_15 : decode cX2_isFallen 15 = .ok (.iconst 0, 1) := by decide +kernel
theorem dX2_isFallen_16 : decode cX2_isFallen 16 = .ok (.ireturn, 1) := by decide +kernel
theorem dX2_isTaken_0 : decode cX2_isTaken 0 = .ok (.aload_n 0, 1) := by decide +kernel
theorem dX2_isTaken_1 : decode cX2_isTaken 1 = .ok (.getfield 35, 3) := by decide +kernel
theorem dX2_isTaken_4 : decode cX2_isTaken 4 = .ok (.iload_n 1, 1) := by decide +kernel
theorem dX2_isTaken_5 : decode cX2_isTaken 5 = .ok (.invokevirtual 46, 3) := by decide +kernel
theorem dX2_isTaken_8 : decode cX2_isTaken 8 = .ok (.iconst (-1), 1) := by decide +kernel
theorem dX2_isTaken_9 : decode cX2_isTaken 9 = .ok (.if_icmp .eq 7, 3) := by decide +kernel
theorem dX2_isTaken_12 : decode cX2_isTaken 12 = .ok (.iconst 1, 1) := by decide +kernel
theorem dX2_isTaken_13 : decode cX2_isTaken 13 = .ok (.goto 4, 3) := by decide +kernel
theorem dX2_isTaken_16 : decode cX2_isTaken 16 = .ok (.iconst 0, 1) := by decide +kernel
theorem dX2_isTaken_17 : decode cX2_isTaken 17 = .ok (.ireturn, 1) := by decide +kernel
theorem dX2_comfort_0 : decode cX2_comfort 0 = .ok (.aload_n 0, 1) := by decide +kernel
theorem dX2_comfort_1 : decode cX2_comfort 1 = .ok (.getfield 23, 3) := by decide +kernel
theorem dX2_comfort_4 : decode cX2_comfort 4 = .ok (.iload_n 1, 1) := by decide +kernel
theorem dX2_comfort_5 : decode cX2_comfort 5 = .ok (.invokevirtual 46, 3) := by decide +kernel
theorem dX2_comfort_8 : decode cX2_comfort 8 = .ok (.iconst 3, 1) := by decide +kernel
theorem dX2_comfort_9 : decode cX2_comfort 9 = .ok (.aload_n 0, 1) := by decide +kernel
theorem dX2_comfort_10 : decode cX2_comfort 10 = .ok (.getfield 29, 3) := by decide +kernel
theorem dX2_comfort_13 : decode cX2_comfort 13 = .ok (.iload_n 1, 1) := by decide +kernel
theorem dX2_comfort_14 : decode cX2_comfort 14 = .ok (.invokevirtual 46, 3) := by decide +kernel
theorem dX2_comfort_17 : decode cX2_comfort 17 = .ok (.imul, 1) := by decide +kernel
theorem dX2_comfort_18 : decode cX2_comfort 18 = .ok (.iadd, 1) := by decide +kernel
theorem dX2_comfort_19 : decode cX2_comfort 19 = .ok (.ireturn, 1) := by decide +kernel
theorem dX2_fallen_0 : decode cX2_fallen 0 = .ok (.iconst 0, 1) := by decide +kernel
theorem dX2_fallen_1 : decode cX2_fallen 1 = .ok (.istore_n 1, 1) := by decide +kernel
theorem dX2_fallen_2 : decode cX2_fallen 2 = .ok (.iconst 0, 1) := by decide +kernel
theorem dX2_fallen_3 : decode cX2_fallen 3 = .ok (.istore_n 2, 1) := by decide +kernel
theorem dX2_fallen_4 : decode cX2_fallen 4 = .ok (.iload_n 2, 1) := by decide +kernel
theorem dX2_fallen_5 : decode cX2_fallen 5 = .ok (.aload_n 0, 1) := by decide +kernel
theorem dX2_fallen_6 : decode cX2_fallen 6 = .ok (.getfield 38, 3) := by decide +kernel
theorem dX2_fallen_9 : decode cX2_fallen 9 = .ok (.if_icmp .ge 20, 3) := by decide +kernel
theorem dX2_fallen_12 : decode cX2_fallen 12 = .ok (.aload_n 0, 1) := by decide +kernel
theorem dX2_fallen_13 : decode cX2_fallen 13 = .ok (.iload_n 2, 1) := by decide +kernel
theorem dX2_fallen_14 : decode cX2_fallen 14 = .ok (.invokevirtual 50, 3) := by decide +kernel
theorem dX2_fallen_17 : decode cX2_fallen 17 = .ok (.ifCond .eq 6, 3) := by decide +kernel
theorem dX2_fallen_20 : decode cX2_fallen 20 = .ok (.iinc 1 1, 3) := by decide +kernel
theorem dX2_fallen_23 : decode cX2_fallen 23 = .ok (.iinc 2 1, 3) := by decide +kernel
theorem dX2_fallen_26 : decode cX2_fallen 26 = .ok (.goto (-22), 3) := by decide +kernel
theorem dX2_fallen_29 : decode cX2_fallen 29 = .ok (.iload_n 1, 1) := by decide +kernel
theorem dX2_fallen_30 : decode cX2_fallen 30 = .ok (.ireturn, 1) := by decide +kernel
theorem dX2_isRather_0 : decode cX2_isRather 0 = .ok (.aload_n 0, 1) := by decide +kernel
theorem dX2_isRather_1 : decode cX2_isRather 1 = .ok (.iload_n 1, 1) := by decide +kernel
theorem dX2_isRather_2 : decode cX2_isRather 2 = .ok (.invokevirtual 54, 3) := by decide +kernel
theorem dX2_isRather_5 : decode cX2_isRather 5 = .ok (.aload_n 0, 1) := by decide +kernel
theorem dX2_isRather_6 : decode cX2_isRather 6 = .ok (.iload_n 2, 1) := by decide +kernel
theorem dX2_isRather_7 : decode cX2_isRather 7 = .ok (.invokevirtual 54, 3) := by decide +kernel
theorem dX2_isRather_10 : decode cX2_isRather 10 = .ok (.isub, 1) := by decide +kernel
theorem dX2_isRather_11 : decode cX2_isRather 11 = .ok (.istore_n 3, 1) := by decide +kernel
theorem dX2_isRather_12 : decode cX2_isRather 12 = .ok (.iload_n 3, 1) := by decide +kernel
theorem dX2_isRather_13 : decode cX2_isRather 13 = .ok (.ifCond .gt 12, 3) := by decide +kernel
theorem dX2_isRather_16 : decode cX2_isRather 16 = .ok (.iload_n 3, 1) := by decide +kernel
theorem dX2_isRather_17 : decode cX2_isRather 17 = .ok (.ifCond .ne 12, 3) := by decide +kernel
theorem dX2_isRather_20 : decode cX2_isRather 20 = .ok (.iload_n 1, 1) := by decide +kernel
theorem dX2_isRather_21 : decode cX2_isRather 21 = .ok (.iload_n 2, 1) := by decide +kernel
theorem dX2_isRather_22 : decode cX2_isRather 22 = .ok (.if_icmp .ge 7, 3) := by decide +kernel
theorem dX2_isRather_25 : decode cX2_isRather 25 = .ok (.iconst 1, 1) := by decide +kernel
theorem dX2_isRather_26 : decode cX2_isRather 26 = .ok (.goto 4, 3) := by decide +kernel
theorem dX2_isRather_29 : decode cX2_isRather 29 = .ok (.iconst 0, 1) := by decide +kernel
theorem dX2_isRather_30 : decode cX2_isRather 30 = .ok (.ireturn, 1) := by decide +kernel
theorem dX2_isAhead_0 : decode cX2_isAhead 0 = .ok (.aload_n 0, 1) := by decide +kernel
theorem dX2_isAhead_1 : decode cX2_isAhead 1 = .ok (.getfield 32, 3) := by decide +kernel
theorem dX2_isAhead_4 : decode cX2_isAhead 4 = .ok (.iload_n 1, 1) := by decide +kernel
theorem dX2_isAhead_5 : decode cX2_isAhead 5 = .ok (.invokevirtual 46, 3) := by decide +kernel
theorem dX2_isAhead_8 : decode cX2_isAhead 8 = .ok (.aload_n 0, 1) := by decide +kernel
theorem dX2_isAhead_9 : decode cX2_isAhead 9 = .ok (.getfield 32, 3) := by decide +kernel
theorem dX2_isAhead_12 : decode cX2_isAhead 12 = .ok (.iload_n 2, 1) := by decide +kernel
theorem dX2_isAhead_13 : decode cX2_isAhead 13 = .ok (.invokevirtual 46, 3) := by decide +kernel
theorem dX2_isAhead_16 : decode cX2_isAhead 16 = .ok (.isub, 1) := by decide +kernel
theorem dX2_isAhead_17 : decode cX2_isAhead 17 = .ok (.istore_n 3, 1) := by decide +kernel
theorem dX2_isAhead_18 : decode cX2_isAhead 18 = .ok (.iload_n 3, 1) := by decide +kernel
theorem dX2_isAhead_19 : decode cX2_isAhead 19 = .ok (.ifCond .gt 16, 3) := by decide +kernel
theorem dX2_isAhead_22 : decode cX2_isAhead 22 = .ok (.iload_n 3, 1) := by decide +kernel
theorem dX2_isAhead_23 : decode cX2_isAhead 23 = .ok (.ifCond .ne 16, 3) := by decide +kernel
theorem dX2_isAhead_26 : decode cX2_isAhead 26 = .ok (.aload_n 0, 1) := by decide +kernel
theorem dX2_isAhead_27 : decode cX2_isAhead 27 = .ok (.iload_n 1, 1) := by decide +kernel
theorem dX2_isAhead_28 : decode cX2_isAhead 28 = .ok (.iload_n 2, 1) := by decide +kernel
theorem dX2_isAhead_29 : decode cX2_isAhead 29 = .ok (.invokevirtual 57, 3) := by decide +kernel
theorem dX2_isAhead_32 : decode cX2_isAhead 32 = .ok (.ifCond .eq 7, 3) := by decide +kernel
theorem dX2_isAhead_35 : decode cX2_isAhead 35 = .ok (.iconst 1, 1) := by decide +kernel
theorem dX2_isAhead_36 : decode cX2_isAhead 36 = .ok (.goto 4, 3) := by decide +kernel
theorem dX2_isAhead_39 : decode cX2_isAhead 39 = .ok (.iconst 0, 1) := by decide +kernel
theorem dX2_isAhead_40 : decode cX2_isAhead 40 = .ok (.ireturn, 1) := by decide +kernel
theorem dX2_copy_0 : decode cX2_copy 0 = .ok (.aload_n 0, 1) := by decide +kernel
theorem dX2_copy_1 : decode cX2_copy 1 = .ok (.aload_n 1, 1) := by decide +kernel
theorem dX2_copy_2 : decode cX2_copy 2 = .ok (.getfield 38, 3) := by decide +kernel
theorem dX2_copy_5 : decode cX2_copy 5 = .ok (.putfield 38, 3) := by decide +kernel
theorem dX2_copy_8 : decode cX2_copy 8 = .ok (.aload_n 0, 1) := by decide +kernel
theorem dX2_copy_9 : decode cX2_copy 9 = .ok (.getfield 14, 3) := by decide +kernel
theorem dX2_copy_12 : decode cX2_copy 12 = .ok (.aload_n 1, 1) := by decide +kernel
theorem dX2_copy_13 : decode cX2_copy 13 = .ok (.getfield 14, 3) := by decide +kernel
theorem dX2_copy_16 : decode cX2_copy 16 = .ok (.invokevirtual 61, 3) := by decide +kernel
theorem dX2_copy_19 : decode cX2_copy 19 = .ok (.aload_n 0, 1) := by decide +kernel
theorem dX2_copy_20 : decode cX2_copy 20 = .ok (.getfield 20, 3) := by decide +kernel
theorem dX2_copy_23 : decode cX2_copy 23 = .ok (.aload_n 1, 1) := by decide +kernel
theorem dX2_copy_24 : decode cX2_copy 24 = .ok (.getfield 20, 3) := by decide +kernel
theorem dX2_copy_27 : decode cX2_copy 27 = .ok (.invokevirtual 61, 3) := by decide +kernel
theorem dX2_copy_30 : decode cX2_copy 30 = .ok (.aload_n 0, 1) := by decide +kernel
theorem dX2_copy_31 : decode cX2_copy 31 = .ok (.getfield 23, 3) := by decide +kernel
theorem dX2_copy_34 : decode cX2_copy 34 = .ok (.aload_n 1, 1) := by decide +kernel
theorem dX2_copy_35 : decode cX2_copy 35 = .ok (.getfield 23, 3) := by decide +kernel
theorem dX2_copy_38 : decode cX2_copy 38 = .ok (.invokevirtual 61, 3) := by decide +kernel
theorem dX2_copy_41 : decode cX2_copy 41 = .ok (.aload_n 0, 1) := by decide +kernel
theorem dX2_copy_42 : decode cX2_copy 42 = .ok (.getfield 26, 3) := by decide +kernel
theorem dX2_copy_45 : decode cX2_copy 45 = .ok (.aload_n 1, 1) := by decide +kernel
theorem dX2_copy_46 : decode cX2_copy 46 = .ok (.getfield 26, 3) := by decide +kernel
theorem dX2_copy_49 : decode cX2_copy 49 = .ok (.invokevirtual 61, 3) := by decide +kernel
theorem dX2_copy_52 : decode cX2_copy 52 = .ok (.aload_n 0, 1) := by decide +kernel
theorem dX2_copy_53 : decode cX2_copy 53 = .ok (.getfield 29, 3) := by decide +kernel
theorem dX2_copy_56 : decode cX2_copy 56 = .ok (.aload_n 1, 1) := by decide +kernel
theorem dX2_copy_57 : decode cX2_copy 57 = .ok (.getfield 29, 3) := by decide +kernel
theorem dX2_copy_60 : decode cX2_copy 60 = .ok (.invokevirtual 61, 3) := by decide +kernel
theorem dX2_copy_63 : decode cX2_copy 63 = .ok (.aload_n 0, 1) := by decide +kernel
theorem dX2_copy_64 : decode cX2_copy 64 = .ok (.getfield 32, 3) := by decide +kernel
theorem dX2_copy_67 : decode cX2_copy 67 = .ok (.aload_n 1, 1) := by decide +kernel
theorem dX2_copy_68 : decode cX2_copy 68 = .ok (.getfield 32, 3) := by decide +kernel
theorem dX2_copy_71 : decode cX2_copy 71 = .ok (.invokevirtual 61, 3) := by decide +kernel
theorem dX2_copy_74 : decode cX2_copy 74 = .ok (.aload_n 0, 1) := by decide +kernel
theorem dX2_copy_75 : decode cX2_copy 75 = .ok (.getfield 35, 3) := by decide +kernel
theorem dX2_copy_78 : decode cX2_copy 78 = .ok (.aload_n 1, 1) := by decide +kernel
theorem dX2_copy_79 : decode cX2_copy 79 = .ok (.getfield 35, 3) := by decide +kernel
theorem dX2_copy_82 : decode cX2_copy 82 = .ok (.invokevirtual 61, 3) := by decide +kernel
theorem dX2_copy_85 : decode cX2_copy 85 = .ok (.return_, 1) := by decide +kernel
theorem dX3_init_0 : decode cX3_init 0 = .ok (.aload_n 0, 1) := by decide +kernel
theorem dX3_init_1 : decode cX3_init 1 = .ok (.invokespecial 3, 3) := by decide +kernel
theorem dX3_init_4 : decode cX3_init 4 = .ok (.aload_n 0, 1) := by decide +kernel
theorem dX3_init_5 : decode cX3_init 5 = .ok (.bipush 9, 2) := by decide +kernel
theorem dX3_init_7 : decode cX3_init 7 = .ok (.anewarray 9, 3) := by decide +kernel
theorem dX3_init_10 : decode cX3_init 10 = .ok (.putfield 11, 3) := by decide +kernel
theorem dX3_init_13 : decode cX3_init 13 = .ok (.iconst 0, 1) := by decide +kernel
theorem dX3_init_14 : decode cX3_init 14 = .ok (.istore_n 1, 1) := by decide +kernel
theorem dX3_init_15 : decode cX3_init 15 = .ok (.iload_n 1, 1) := by decide +kernel
theorem dX3_init_16 : decode cX3_init 16 = .ok (.aload_n 0, 1) := by decide +kernel
theorem dX3_init_17 : decode cX3_init 17 = .ok (.getfield 11, 3) := by decide +kernel
theorem dX3_init_20 : decode cX3_init 20 = .ok (.arraylength, 1) := by decide +kernel
theorem dX3_init_21 : decode cX3_init 21 = .ok (.if_icmp .ge 22, 3) := by decide +kernel
theorem dX3_init_24 : decode cX3_init 24 = .ok (.aload_n 0, 1) := by decide +kernel
theorem dX3_init_25 : decode cX3_init 25 = .ok (.getfield 11, 3) := by decide +kernel
theorem dX3_init_28 : decode cX3_init 28 = .ok (.iload_n 1, 1) := by decide +kernel
theorem dX3_init_29 : decode cX3_init 29 = .ok (.new 9, 3) := by decide +kernel
theorem dX3_init_32 : decode cX3_init 32 = .ok (.dup, 1) := by decide +kernel
theorem dX3_init_33 : decode cX3_init 33 = .ok (.invokespecial 15, 3) := by decide +kernel
theorem dX3_init_36 : decode cX3_init 36 = .ok (.aastore, 1) := by decide +kernel
theorem dX3_init_37 : decode cX3_init 37 = .ok (.iinc 1 1, 3) := by decide +kernel
theorem dX3_init_40 : decode cX3_init 40 = .ok (.goto (-25), 3) := by decide +kernel
theorem dX3_init_43 : decode cX3_init 43 = .ok (.return_, 1) := by decide +kernel
theorem dX3_count_0 : decode cX3_count 0 = .ok (.aload_n 0, 1) := by decide +kernel
theorem dX3_count_1 : decode cX3_count 1 = .ok (.getfield 16, 3) := by decide +kernel
theorem dX3_count_4 : decode cX3_count 4 = .ok (.ireturn, 1) := by decide +kernel
theorem dX3_mark_0 : decode cX3_mark 0 = .ok (.aload_n 0, 1) := by decide +kernel
theorem dX3_mark_1 : decode cX3_mark 1 = .ok (.invokevirtual 20, 3) := by decide +kernel
theorem dX3_mark_4 : decode cX3_mark 4 = .ok (.astore_n 2, 1) := by decide +kernel
theorem dX3_mark_5 : decode cX3_mark 5 = .ok (.aload_n 2, 1) := by decide +kernel
theorem dX3_mark_6 : decode cX3_mark 6 = .ok (.ifnull 8, 3) := by decide +kernel
theorem dX3_mark_9 : decode cX3_mark 9 = .ok (.aload_n 2, 1) := by decide +kernel
theorem dX3_mark_10 : decode cX3_mark 10 = .ok (.aload_n 1, 1) := by decide +kernel
theorem dX3_mark_11 : decode cX3_mark 11 = .ok (.invokevirtual 24, 3) := by decide +kernel
theorem dX3_mark_14 : decode cX3_mark 14 = .ok (.return_, 1) := by decide +kernel
theorem dX3_keep_0 : decode cX3_keep 0 = .ok (.aload_n 0, 1) := by decide +kernel
theorem dX3_keep_1 : decode cX3_keep 1 = .ok (.aload_n 0, 1) := by decide +kernel
theorem dX3_keep_2 : decode cX3_keep 2 = .ok (.getfield 28, 3) := by decide +kernel
theorem dX3_keep_5 : decode cX3_keep 5 = .ok (.iconst 1, 1) := by decide +kernel
theorem dX3_keep_6 : decode cX3_keep 6 = .ok (.iadd, 1) := by decide +kernel
theorem dX3_keep_7 : decode cX3_keep 7 = .ok (.bipush 9, 2) := by decide +kernel
theorem dX3_keep_9 : decode cX3_keep 9 = .ok (.irem, 1) := by decide +kernel
theorem dX3_keep_10 : decode cX3_keep 10 = .ok (.putfield 28, 3) := by decide +kernel
theorem dX3_keep_13 : decode cX3_keep 13 = .ok (.aload_n 0, 1) := by decide +kernel
theorem dX3_keep_14 : decode cX3_keep 14 = .ok (.aload_n 0, 1) := by decide +kernel
theorem dX3_keep_15 : decode cX3_keep 15 = .ok (.getfield 16, 3) := by decide +kernel
theorem dX3_keep_18 : decode cX3_keep 18 = .ok (.iconst 1, 1) := by decide +kernel
theorem dX3_keep_19 : decode cX3_keep 19 = .ok (.iadd, 1) := by decide +kernel
theorem dX3_keep_20 : decode cX3_keep 20 = .ok (.bipush 8, 2) := by decide +kernel
theorem dX3_keep_22 : decode cX3_keep 22 = .ok (.invokestatic 31, 3) := by decide +kernel
theorem dX3_keep_25 : decode cX3_keep 25 = .ok (.putfield 16, 3) := by decide +kernel
theorem dX3_keep_28 : decode cX3_keep 28 = .ok (.return_, 1) := by decide +kernel
theorem dX3_stepBack_0 : decode cX3_stepBack 0 = .ok (.aload_n 0, 1) := by decide +kernel
theorem dX3_stepBack_1 : decode cX3_stepBack 1 = .ok (.aload_n 0, 1) := by decide +kernel
theorem dX3_stepBack_2 : decode cX3_stepBack 2 = .ok (.getfield 28, 3) := by decide +kernel
theorem dX3_stepBack_5 : decode cX3_stepBack 5 = .ok (.bipush 8, 2) := by decide +kernel
theorem dX3_stepBack_7 : decode cX3_stepBack 7 = .ok (.iadd, 1) := by decide +kernel
theorem dX3_stepBack_8 : decode cX3_stepBack 8 = .ok (.bipush 9, 2) := by decide +kernel
theorem dX3_stepBack_10 : decode cX3_stepBack 10 = .ok (.irem, 1) := by decide +kernel
theorem dX3_stepBack_11 : decode cX3_stepBack 11 = .ok (.putfield 28, 3) := by decide +kernel
theorem dX3_stepBack_14 : decode cX3_stepBack 14 = .ok (.aload_n 0, 1) := by decide +kernel
theorem dX3_stepBack_15 : decode cX3_stepBack 15 = .ok (.aload_n 0, 1) := by decide +kernel
theorem dX3_stepBack_16 : decode cX3_stepBack 16 = .ok (.getfield 16, 3) := by decide +kernel
theorem dX3_stepBack_19 : decode cX3_stepBack 19 = .ok (.iconst 1, 1) := by decide +kernel
theorem dX3_stepBack_20 : decode cX3_stepBack 20 = .ok (.isub, 1) := by decide +kernel
theorem dX3_stepBack_21 : decode cX3_stepBack 21 = .ok (.iconst 0, 1) := by decide +kernel
theorem dX3_stepBack_22 : decode cX3_stepBack 22 = .ok (.invokestatic 37, 3) := by decide +kernel
theorem dX3_stepBack_25 : decode cX3_stepBack 25 = .ok (.putfield 16, 3) := by decide +kernel
theorem dX3_stepBack_28 : decode cX3_stepBack 28 = .ok (.return_, 1) := by decide +kernel
theorem dX3_bringBack_0 : decode cX3_bringBack 0 = .ok (.aload_n 0, 1) := by decide +kernel
theorem dX3_bringBack_1 : decode cX3_bringBack 1 = .ok (.invokevirtual 20, 3) := by decide +kernel
theorem dX3_bringBack_4 : decode cX3_bringBack 4 = .ok (.astore_n 2, 1) := by decide +kernel
theorem dX3_bringBack_5 : decode cX3_bringBack 5 = .ok (.aload_n 2, 1) := by decide +kernel
theorem dX3_bringBack_6 : decode cX3_bringBack 6 = .ok (.ifnull 8, 3) := by decide +kernel
theorem dX3_bringBack_9 : decode cX3_bringBack 9 = .ok (.aload_n 1, 1) := by decide +kernel
theorem dX3_bringBack_10 : decode cX3_bringBack 10 = .ok (.aload_n 2, 1) := by decide +kernel
theorem dX3_bringBack_11 : decode cX3_bringBack 11 = .ok (.invokevirtual 24, 3) := by decide +kernel
theorem dX3_bringBack_14 : decode cX3_bringBack 14 = .ok (.return_, 1) := by decide +kernel
theorem dX3_forget_0 : decode cX3_forget 0 = .ok (.aload_n 0, 1) := by decide +kernel
theorem dX3_forget_1 : decode cX3_forget 1 = .ok (.iconst 0, 1) := by decide +kernel
theorem dX3_forget_2 : decode cX3_forget 2 = .ok (.putfield 16, 3) := by decide +kernel
theorem dX3_forget_5 : decode cX3_forget 5 = .ok (.return_, 1) := by decide +kernel
theorem dX3_marked_0 : decode cX3_marked 0 = .ok (.aload_n 0, 1) := by decide +kernel
theorem dX3_marked_1 : decode cX3_marked 1 = .ok (.getfield 28, 3) := by decide +kernel
theorem dX3_marked_4 : decode cX3_marked 4 = .ok (.ifCond .lt 27, 3) := by decide +kernel
theorem dX3_marked_7 : decode cX3_marked 7 = .ok (.aload_n 0, 1) := by decide +kernel
theorem dX3_marked_8 : decode cX3_marked 8 = .ok (.getfield 28, 3) := by decide +kernel
theorem dX3_marked_11 : decode cX3_marked 11 = .ok (.aload_n 0, 1) := by decide +kernel
theorem dX3_marked_12 : decode cX3_marked 12 = .ok (.getfield 11, 3) := by decide +kernel
theorem dX3_marked_15 : decode cX3_marked 15 = .ok (.arraylength, 1) := by decide +kernel
theorem dX3_marked_16 : decode cX3_marked 16 = .ok (.if_icmp .ge 15, 3) := by decide +kernel
theorem dX3_marked_19 : decode cX3_marked 19 = .ok (.aload_n 0, 1) := by decide +kernel
theorem dX3_marked_20 : decode cX3_marked 20 = .ok (.getfield 11, 3) := by decide +kernel
theorem dX3_marked_23 : decode cX3_marked 23 = .ok (.aload_n 0, 1) := by decide +kernel
theorem dX3_marked_24 : decode cX3_marked 24 = .ok (.getfield 28, 3) := by decide +kernel
theorem dX3_marked_27 : decode cX3_marked 27 = .ok (.aaload, 1) := by decide +kernel
theorem dX3_marked_28 : decode cX3_marked 28 = .ok (.goto 4, 3) := by decide +kernel
theorem dX3_marked_31 : decode cX3_marked 31 = .ok (.aconst_null, 1) := by decide +kernel
theorem dX3_marked_32 : decode cX3_marked 32 = .ok (.areturn, 1) := by decide +kernel
theorem dX4_init_0 : decode cX4_init 0 = .ok (.aload_n 0, 1) := by decide +kernel
theorem dX4_init_1 : decode cX4_init 1 = .ok (.invokespecial 3, 3) := by decide +kernel
theorem dX4_init_4 : decode cX4_init 4 = .ok (.aload_n 0, 1) := by decide +kernel
theorem dX4_init_5 : decode cX4_init 5 = .ok (.new 9, 3) := by decide +kernel
theorem dX4_init_8 : decode cX4_init 8 = .ok (.dup, 1) := by decide +kernel
theorem dX4_init_9 : decode cX4_init 9 = .ok (.bipush 10, 2) := by decide +kernel
theorem dX4_init_11 : decode cX4_init 11 = .ok (.invokespecial 11, 3) := by decide +kernel
theorem dX4_init_14 : decode cX4_init 14 = .ok (.putfield 14, 3) := by decide +kernel
theorem dX4_init_17 : decode cX4_init 17 = .ok (.aload_n 0, 1) := by decide +kernel
theorem dX4_init_18 : decode cX4_init 18 = .ok (.new 9, 3) := by decide +kernel
theorem dX4_init_21 : decode cX4_init 21 = .ok (.dup, 1) := by decide +kernel
theorem dX4_init_22 : decode cX4_init 22 = .ok (.bipush 10, 2) := by decide +kernel
theorem dX4_init_24 : decode cX4_init 24 = .ok (.invokespecial 11, 3) := by decide +kernel
theorem dX4_init_27 : decode cX4_init 27 = .ok (.putfield 20, 3) := by decide +kernel
theorem dX4_init_30 : decode cX4_init 30 = .ok (.aload_n 0, 1) := by decide +kernel
theorem dX4_init_31 : decode cX4_init 31 = .ok (.new 9, 3) := by decide +kernel
theorem dX4_init_34 : decode cX4_init 34 = .ok (.dup, 1) := by decide +kernel
theorem dX4_init_35 : decode cX4_init 35 = .ok (.bipush 10, 2) := by decide +kernel
theorem dX4_init_37 : decode cX4_init 37 = .ok (.invokespecial 11, 3) := by decide +kernel
theorem dX4_init_40 : decode cX4_init 40 = .ok (.putfield 23, 3) := by decide +kernel
theorem dX4_init_43 : decode cX4_init 43 = .ok (.aload_n 0, 1) := by decide +kernel
theorem dX4_init_44 : decode cX4_init 44 = .ok (.new 9, 3) := by decide +kernel
theorem dX4_init_47 : decode cX4_init 47 = .ok (.dup, 1) := by decide +kernel
theorem dX4_init_48 : decode cX4_init 48 = .ok (.bipush 10, 2) := by decide +kernel
theorem dX4_init_50 : decode cX4_init 50 = .ok (.invokespecial 11, 3) := by decide +kernel
theorem dX4_init_53 : decode cX4_init 53 = .ok (.putfield 26, 3) := by decide +kernel
theorem dX4_init_56 : decode cX4_init 56 = .ok (.aload_n 0, 1) := by decide +kernel
theorem dX4_init_57 : decode cX4_init 57 = .ok (.new 9, 3) := by decide +kernel
theorem dX4_init_60 : decode cX4_init 60 = .ok (.dup, 1) := by decide +kernel
theorem dX4_init_61 : decode cX4_init 61 = .ok (.bipush 10, 2) := by decide +kernel
theorem dX4_init_63 : decode cX4_init 63 = .ok (.invokespecial 11, 3) := by decide +kernel
theorem dX4_init_66 : decode cX4_init 66 = .ok (.putfield 29, 3) := by decide +kernel
theorem dX4_init_69 : decode cX4_init 69 = .ok (.aload_n 0, 1) := by decide +kernel
theorem dX4_init_70 : decode cX4_init 70 = .ok (.new 9, 3) := by decide +kernel
theorem dX4_init_73 : decode cX4_init 73 = .ok (.dup, 1) := by decide +kernel
theorem dX4_init_74 : decode cX4_init 74 = .ok (.bipush 10, 2) := by decide +kernel
theorem dX4_init_76 : decode cX4_init 76 = .ok (.invokespecial 11, 3) := by decide +kernel
theorem dX4_init_79 : decode cX4_init 79 = .ok (.putfield 32, 3) := by decide +kernel
theorem dX4_init_82 : decode cX4_init 82 = .ok (.aload_n 0, 1) := by decide +kernel
theorem dX4_init_83 : decode cX4_init 83 = .ok (.new 9, 3) := by decide +kernel
theorem dX4_init_86 : decode cX4_init 86 = .ok (.dup, 1) := by decide +kernel
theorem dX4_init_87 : decode cX4_init 87 = .ok (.bipush 10, 2) := by decide +kernel
theorem dX4_init_89 : decode cX4_init 89 = .ok (.invokespecial 11, 3) := by decide +kernel
theorem dX4_init_92 : decode cX4_init 92 = .ok (.putfield 35, 3) := by decide +kernel
theorem dX4_init_95 : decode cX4_init 95 = .ok (.return_, 1) := by decide +kernel
theorem dX4_bring_0 : decode cX4_bring 0 = .ok (.aload_n 0, 1) := by decide +kernel
theorem dX4_bring_1 : decode cX4_bring 1 = .ok (.getfield 38, 3) := by decide +kernel
theorem dX4_bring_4 : decode cX4_bring 4 = .ok (.istore 4, 2) := by decide +kernel
theorem dX4_bring_6 : decode cX4_bring 6 = .ok (.aload_n 0, 1) := by decide +kernel
theorem dX4_bring_7 : decode cX4_bring 7 = .ok (.getfield 14, 3) := by decide +kernel
theorem dX4_bring_10 : decode cX4_bring 10 = .ok (.iload 4, 2) := by decide +kernel
theorem dX4_bring_12 : decode cX4_bring 12 = .ok (.iload_n 1, 1) := by decide +kernel
theorem dX4_bring_13 : decode cX4_bring 13 = .ok (.invokevirtual 42, 3) := by decide +kernel
theorem dX4_bring_16 : decode cX4_bring 16 = .ok (.aload_n 0, 1) := by decide +kernel
theorem dX4_bring_17 : decode cX4_bring 17 = .ok (.getfield 20, 3) := by decide +kernel
theorem dX4_bring_20 : decode cX4_bring 20 = .ok (.iload 4, 2) := by decide +kernel
theorem dX4_bring_22 : decode cX4_bring 22 = .ok (.iload_n 2, 1) := by decide +kernel
theorem dX4_bring_23 : decode cX4_bring 23 = .ok (.invokevirtual 42, 3) := by decide +kernel
theorem dX4_bring_26 : decode cX4_bring 26 = .ok (.aload_n 0, 1) := by decide +kernel
theorem dX4_bring_27 : decode cX4_bring 27 = .ok (.getfield 23, 3) := by decide +kernel
theorem dX4_bring_30 : decode cX4_bring 30 = .ok (.iload 4, 2) := by decide +kernel
theorem dX4_bring_32 : decode cX4_bring 32 = .ok (.iload_n 3, 1) := by decide +kernel
theorem dX4_bring_33 : decode cX4_bring 33 = .ok (.invokevirtual 42, 3) := by decide +kernel
theorem dX4_bring_36 : decode cX4_bring 36 = .ok (.aload_n 0, 1) := by decide +kernel
theorem dX4_bring_37 : decode cX4_bring 37 = .ok (.getfield 26, 3) := by decide +kernel
theorem dX4_bring_40 : decode cX4_bring 40 = .ok (.iload 4, 2) := by decide +kernel
theorem dX4_bring_42 : decode cX4_bring 42 = .ok (.bipush 8, 2) := by decide +kernel
theorem dX4_bring_44 : decode cX4_bring 44 = .ok (.invokevirtual 42, 3) := by decide +kernel
theorem dX4_bring_47 : decode cX4_bring 47 = .ok (.aload_n 0, 1) := by decide +kernel
theorem dX4_bring_48 : decode cX4_bring 48 = .ok (.getfield 29, 3) := by decide +kernel
theorem dX4_bring_51 : decode cX4_bring 51 = .ok (.iload 4, 2) := by decide +kernel
theorem dX4_bring_53 : decode cX4_bring 53 = .ok (.iconst 0, 1) := by decide +kernel
theorem dX4_bring_54 : decode cX4_bring 54 = .ok (.invokevirtual 42, 3) := by decide +kernel
theorem dX4_bring_57 : decode cX4_bring 57 = .ok (.aload_n 0, 1) := by decide +kernel
theorem dX4_bring_58 : decode cX4_bring 58 = .ok (.getfield 32, 3) := by decide +kernel
theorem dX4_bring_61 : decode cX4_bring 61 = .ok (.iload 4, 2) := by decide +kernel
theorem dX4_bring_63 : decode cX4_bring 63 = .ok (.iconst (-1), 1) := by decide +kernel
theorem dX4_bring_64 : decode cX4_bring 64 = .ok (.invokevirtual 42, 3) := by decide +kernel
theorem dX4_bring_67 : decode cX4_bring 67 = .ok (.aload_n 0, 1) := by decide +kernel
theorem dX4_bring_68 : decode cX4_bring 68 = .ok (.getfield 35, 3) := by decide +kernel
theorem dX4_bring_71 : decode cX4_bring 71 = .ok (.iload 4, 2) := by decide +kernel
theorem dX4_bring_73 : decode cX4_bring 73 = .ok (.iconst 0, 1) := by decide +kernel
theorem dX4_bring_74 : decode cX4_bring 74 = .ok (.invokevirtual 42, 3) := by decide +kernel
theorem dX4_bring_77 : decode cX4_bring 77 = .ok (.aload_n 0, 1) := by decide +kernel
theorem dX4_bring_78 : decode cX4_bring 78 = .ok (.dup, 1) := by decide +kernel
theorem dX4_bring_79 : decode cX4_bring 79 = .ok (.getfield 38, 3) := by decide +kernel
theorem dX4_bring_82 : decode cX4_bring 82 = .ok (.iconst 1, 1) := by decide +kernel
theorem dX4_bring_83 : decode cX4_bring 83 = .ok (.iadd, 1) := by decide +kernel
theorem dX4_bring_84 : decode cX4_bring 84 = .ok (.putfield 38, 3) := by decide +kernel
theorem dX4_bring_87 : decode cX4_bring 87 = .ok (.iload 4, 2) := by decide +kernel
theorem dX4_bring_89 : decode cX4_bring 89 = .ok (.ireturn, 1) := by decide +kernel
theorem dX4_has_0 : decode cX4_has 0 = .ok (.iload_n 1, 1) := by decide +kernel
theorem dX4_has_1 : decode cX4_has 1 = .ok (.ifCond .lt 15, 3) := by decide +kernel
theorem dX4_has_4 : decode cX4_has 4 = .ok (.iload_n 1, 1) := by decide +kernel
theorem dX4_has_5 : decode cX4_has 5 = .ok (.aload_n 0, 1) := by decide +kernel
theorem dX4_has_6 : decode cX4_has 6 = .ok (.getfield 38, 3) := by decide +kernel
theorem dX4_has_9 : decode cX4_has 9 = .ok (.if_icmp .ge 7, 3) := by decide +kernel
theorem dX4_has_12 : decode cX4_has 12 = .ok (.iconst 1, 1) := by decide +kernel
theorem dX4_has_13 : decode cX4_has 13 = .ok (.goto 4, 3) := by decide +kernel
theorem dX4_has_16 : decode cX4_has 16 = .ok (.iconst 0, 1) := by decide +kernel
theorem dX4_has_17 : decode cX4_has 17 = .ok (.ireturn, 1) := by decide +kernel
theorem dX4_sits_0 : decode cX4_sits 0 = .ok (.aload_n 0, 1) := by decide +kernel
theorem dX4_sits_1 : decode cX4_sits 1 = .ok (.getfield 32, 3) := by decide +kernel
theorem dX4_sits_4 : decode cX4_sits 4 = .ok (.iload_n 1, 1) := by decide +kernel
theorem dX4_sits_5 : decode cX4_sits 5 = .ok (.invokevirtual 46, 3) := by decide +kernel
theorem dX4_sits_8 : decode cX4_sits 8 = .ok (.iconst (-1), 1) := by decide +kernel
theorem dX4_sits_9 : decode cX4_sits 9 = .ok (.if_icmp .eq 7, 3) := by decide +kernel
theorem dX4_sits_12 : decode cX4_sits 12 = .ok (.iconst 1, 1) := by decide +kernel
theorem dX4_sits_13 : decode cX4_sits 13 = .ok (.goto 4, 3) := by decide +kernel
theorem dX4_sits_16 : decode cX4_sits 16 = .ok (.iconst 0, 1) := by decide +kernel
theorem dX4_sits_17 : decode cX4_sits 17 = .ok (.ireturn, 1) := by decide +kernel
theorem dX4_sitting_0 : decode cX4_sitting 0 = .ok (.iconst 0, 1) := by decide +kernel
theorem dX4_sitting_1 : decode cX4_sitting 1 = .ok (.istore_n 1, 1) := by decide +kernel
theorem dX4_sitting_2 : decode cX4_sitting 2 = .ok (.iconst 0, 1) := by decide +kernel
theorem dX4_sitting_3 : decode cX4_sitting 3 = .ok (.istore_n 2, 1) := by decide +kernel
theorem dX4_sitting_4 : decode cX4_sitting 4 = .ok (.iload_n 2, 1) := by decide +kernel
theorem dX4_sitting_5 : decode cX4_sitting 5 = .ok (.aload_n 0, 1) := by decide +kernel
theorem dX4_sitting_6 : decode cX4_sitting 6 = .ok (.getfield 38, 3) := by decide +kernel
theorem dX4_sitting_9 : decode cX4_sitting 9 = .ok (.if_icmp .ge 20, 3) := by decide +kernel
theorem dX4_sitting_12 : decode cX4_sitting 12 = .ok (.aload_n 0, 1) := by decide +kernel
theorem dX4_sitting_13 : decode cX4_sitting 13 = .ok (.iload_n 2, 1) := by decide +kernel
theorem dX4_sitting_14 : decode cX4_sitting 14 = .ok (.invokevirtual 50, 3) := by decide +kernel
theorem dX4_sitting_17 : decode cX4_sitting 17 = .ok (.ifCond .eq 6, 3) := by decide +kernel
theorem dX4_sitting_20 : decode cX4_sitting 20 = .ok (.iinc 1 1, 3) := by decide +kernel
theorem dX4_sitting_23 : decode cX4_sitting 23 = .ok (.iinc 2 1, 3) := by decide +kernel
theorem dX4_sitting_26 : decode cX4_sitting 26 = .ok (.goto (-22), 3) := by decide +kernel
theorem dX4_sitting_29 : decode cX4_sitting 29 = .ok (.iload_n 1, 1) := by decide +kernel
theorem dX4_sitting_30 : decode cX4_sitting 30 = .ok (.ireturn, 1) := by decide +kernel
theorem dX4_allCoins_0 : decode cX4_allCoins 0 = .ok (.iconst 0, 1) := by decide +kernel
theorem dX4_allCoins_1 : decode cX4_allCoins 1 = .ok (.istore_n 1, 1) := by decide +kernel
theorem dX4_allCoins_2 : decode cX4_allCoins 2 = .ok (.iconst 0, 1) := by decide +kernel
theorem dX4_allCoins_3 : decode cX4_allCoins 3 = .ok (.istore_n 2, 1) := by decide +kernel
theorem dX4_allCoins_4 : decode cX4_allCoins 4 = .ok (.iload_n 2, 1) := by decide +kernel
theorem dX4_allCoins_5 : decode cX4_allCoins 5 = .ok (.aload_n 0, 1) := by decide +kernel
theorem dX4_allCoins_6 : decode cX4_allCoins 6 = .ok (.getfield 38, 3) := by decide +kernel
theorem dX4_allCoins_9 : decode cX4_allCoins 9 = .ok (.if_icmp .ge 20, 3) := by decide +kernel
theorem dX4_allCoins_12 : decode cX4_allCoins 12 = .ok (.iload_n 1, 1) := by decide +kernel
theorem dX4_allCoins_13 : decode cX4_allCoins 13 = .ok (.aload_n 0, 1) := by decide +kernel
theorem dX4_allCoins_14 : decode cX4_allCoins 14 = .ok (.getfield 26, 3) := by decide +kernel
theorem dX4_allCoins_17 : decode cX4_allCoins 17 = .ok (.iload_n 2, 1) := by decide +kernel
theorem dX4_allCoins_18 : decode cX4_allCoins 18 = .ok (.invokevirtual 46, 3) := by decide +kernel
theorem dX4_allCoins_21 : decode cX4_allCoins 21 = .ok (.iadd, 1) := by decide +kernel
theorem dX4_allCoins_22 : decode cX4_allCoins 22 = .ok (.istore_n 1, 1) := by decide +kernel
theorem dX4_allCoins_23 : decode cX4_allCoins 23 = .ok (.iinc 2 1, 3) := by decide +kernel
theorem dX4_allCoins_26 : decode cX4_allCoins 26 = .ok (.goto (-22), 3) := by decide +kernel
theorem dX4_allCoins_29 : decode cX4_allCoins 29 = .ok (.iload_n 1, 1) := by decide +kernel
theorem dX4_allCoins_30 : decode cX4_allCoins 30 = .ok (.ireturn, 1) := by decide +kernel
theorem dX4_highestBidder_0 : decode cX4_highestBidder 0 = .ok (.iconst (-1), 1) := by decide +kernel
theorem dX4_highestBidder_1 : decode cX4_highestBidder 1 = .ok (.istore_n 2, 1) := by decide +kernel
theorem dX4_highestBidder_2 : decode cX4_highestBidder 2 = .ok (.iconst 0, 1) := by decide +kernel
theorem dX4_highestBidder_3 : decode cX4_highestBidder 3 = .ok (.istore_n 3, 1) := by decide +kernel
theorem dX4_highestBidder_4 : decode cX4_highestBidder 4 = .ok (.iconst 0, 1) := by decide +kernel
theorem dX4_highestBidder_5 : decode cX4_highestBidder 5 = .ok (.istore 4, 2) := by decide +kernel
theorem dX4_highestBidder_7 : decode cX4_highestBidder 7 = .ok (.iload 4, 2) := by decide +kernel
theorem dX4_highestBidder_9 : decode cX4_highestBidder 9 = .ok (.aload_n 0, 1) := by decide +kernel
theorem dX4_highestBidder_10 : decode cX4_highestBidder 10 = .ok (.getfield 38, 3) := by decide +kernel
theorem dX4_highestBidder_13 : decode cX4_highestBidder 13 = .ok (.if_icmp .ge 41, 3) := by decide +kernel
theorem dX4_highestBidder_16 : decode cX4_highestBidder 16 = .ok (.iload 4, 2) := by decide +kernel
theorem dX4_highestBidder_18 : decode cX4_highestBidder 18 = .ok (.iload_n 1, 1) := by decide +kernel
theorem dX4_highestBidder_19 : decode cX4_highestBidder 19 = .ok (.if_icmp .eq 29, 3) := by decide +kernel
theorem dX4_highestBidder_22 : decode cX4_highestBidder 22 = .ok (.aload_n 0, 1) := by decide +kernel
theorem dX4_highestBidder_23 : decode cX4_highestBidder 23 = .ok (.getfield 29, 3) := by decide +kernel
theorem dX4_highestBidder_26 : decode cX4_highestBidder 26 = .ok (.iload 4, 2) := by decide +kernel
theorem dX4_highestBidder_28 : decode cX4_highestBidder 28 = .ok (.invokevirtual 46, 3) := by decide +kernel
theorem dX4_highestBidder_31 : decode cX4_highestBidder 31 = .ok (.iload_n 3, 1) := by decide +kernel
theorem dX4_highestBidder_32 : decode cX4_highestBidder 32 = .ok (.if_icmp .le 16, 3) := by decide +kernel
theorem dX4_highestBidder_35 : decode cX4_highestBidder 35 = .ok (.iload 4, 2) := by decide +kernel
theorem dX4_highestBidder_37 : decode cX4_highestBidder 37 = .ok (.istore_n 2, 1) := by decide +kernel
theorem dX4_highestBidder_38 : decode cX4_highestBidder 38 = .ok (.aload_n 0, 1) := by decide +kernel
theorem dX4_highestBidder_39 : decode cX4_highestBidder 39 = .ok (.getfield 29, 3) := by decide +kernel
theorem dX4_highestBidder_42 : decode cX4_highestBidder 42 = .ok (.iload 4, 2) := by decide +kernel
theorem dX4_highestBidder_44 : decode cX4_highestBidder 44 = .ok (.invokevirtual 46, 3) := by decide +kernel
theorem dX4_highestBidder_47 : decode cX4_highestBidder 47 = .ok (.istore_n 3, 1) := by decide +kernel
theorem dX4_highestBidder_48 : decode cX4_highestBidder 48 = .ok (.iinc 4 1, 3) := by decide +kernel
theorem dX4_highestBidder_51 : decode cX4_highestBidder 51 = .ok (.goto (-44), 3) := by decide +kernel
theorem dX4_highestBidder_54 : decode cX4_highestBidder 54 = .ok (.iload_n 2, 1) := by decide +kernel
theorem dX4_highestBidder_55 : decode cX4_highestBidder 55 = .ok (.ireturn, 1) := by decide +kernel
theorem dX4_forgetBids_0 : decode cX4_forgetBids 0 = .ok (.iconst 0, 1) := by decide +kernel
theorem dX4_forgetBids_1 : decode cX4_forgetBids 1 = .ok (.istore_n 1, 1) := by decide +kernel
theorem dX4_forgetBids_2 : decode cX4_forgetBids 2 = .ok (.iload_n 1, 1) := by decide +kernel
theorem dX4_forgetBids_3 : decode cX4_forgetBids 3 = .ok (.aload_n 0, 1) := by decide +kernel
theorem dX4_forgetBids_4 : decode cX4_forgetBids 4 = .ok (.getfield 38, 3) := by decide +kernel
theorem dX4_forgetBids_7 : decode cX4_forgetBids 7 = .ok (.if_icmp .ge 18, 3) := by decide +kernel
theorem dX4_forgetBids_10 : decode cX4_forgetBids 10 = .ok (.aload_n 0, 1) := by decide +kernel
theorem dX4_forgetBids_11 : decode cX4_forgetBids 11 = .ok (.getfield 29, 3) := by decide +kernel
theorem dX4_forgetBids_14 : decode cX4_forgetBids 14 = .ok (.iload_n 1, 1) := by decide +kernel
theorem dX4_forgetBids_15 : decode cX4_forgetBids 15 = .ok (.iconst 0, 1) := by decide +kernel
theorem dX4_forgetBids_16 : decode cX4_forgetBids 16 = .ok (.invokevirtual 42, 3) := by decide +kernel
theorem dX4_forgetBids_19 : decode cX4_forgetBids 19 = .ok (.iinc 1 1, 3) := by decide +kernel
theorem dX4_forgetBids_22 : decode cX4_forgetBids 22 = .ok (.goto (-20), 3) := by decide +kernel
theorem dX4_forgetBids_25 : decode cX4_forgetBids 25 = .ok (.return_, 1) := by decide +kernel
theorem dX4_isAhead_0 : decode cX4_isAhead 0 = .ok (.aload_n 0, 1) := by decide +kernel
theorem dX4_isAhead_1 : decode cX4_isAhead 1 = .ok (.getfield 26, 3) := by decide +kernel
theorem dX4_isAhead_4 : decode cX4_isAhead 4 = .ok (.iload_n 1, 1) := by decide +kernel
theorem dX4_isAhead_5 : decode cX4_isAhead 5 = .ok (.invokevirtual 46, 3) := by decide +kernel
theorem dX4_isAhead_8 : decode cX4_isAhead 8 = .ok (.aload_n 0, 1) := by decide +kernel
theorem dX4_isAhead_9 : decode cX4_isAhead 9 = .ok (.getfield 26, 3) := by decide +kernel
theorem dX4_isAhead_12 : decode cX4_isAhead 12 = .ok (.iload_n 2, 1) := by decide +kernel
theorem dX4_isAhead_13 : decode cX4_isAhead 13 = .ok (.invokevirtual 46, 3) := by decide +kernel
theorem dX4_isAhead_16 : decode cX4_isAhead 16 = .ok (.isub, 1) := by decide +kernel
theorem dX4_isAhead_17 : decode cX4_isAhead 17 = .ok (.istore_n 3, 1) := by decide +kernel
theorem dX4_isAhead_18 : decode cX4_isAhead 18 = .ok (.iload_n 3, 1) := by decide +kernel
theorem dX4_isAhead_19 : decode cX4_isAhead 19 = .ok (.ifCond .eq 13, 3) := by decide +kernel
theorem dX4_isAhead_22 : decode cX4_isAhead 22 = .ok (.iload_n 3, 1) := by decide +kernel
theorem dX4_isAhead_23 : decode cX4_isAhead 23 = .ok (.ifCond .le 7, 3) := by decide +kernel
theorem dX4_isAhead_26 : decode cX4_isAhead 26 = .ok (.iconst 1, 1) := by decide +kernel
theorem dX4_isAhead_27 : decode cX4_isAhead 27 = .ok (.goto 4, 3) := by decide +kernel
theorem dX4_isAhead_30 : decode cX4_isAhead 30 = .ok (.iconst 0, 1) := by decide +kernel
theorem dX4_isAhead_31 : decode cX4_isAhead 31 = .ok (.ireturn, 1) := by decide +kernel
theorem dX4_isAhead_32 : decode cX4_isAhead 32 = .ok (.aload_n 0, 1) := by decide +kernel
theorem dX4_isAhead_33 : decode cX4_isAhead 33 = .ok (.iload_n 1, 1) := by decide +kernel
theorem dX4_isAhead_34 : decode cX4_isAhead 34 = .ok (.invokevirtual 50, 3) := by decide +kernel
theorem dX4_isAhead_37 : decode cX4_isAhead 37 = .ok (.aload_n 0, 1) := by decide +kernel
theorem dX4_isAhead_38 : decode cX4_isAhead 38 = .ok (.iload_n 2, 1) := by decide +kernel
theorem dX4_isAhead_39 : decode cX4_isAhead 39 = .ok (.invokevirtual 50, 3) := by decide +kernel
theorem dX4_isAhead_42 : decode cX4_isAhead 42 = .ok (.if_icmp .eq 9, 3) := by decide +kernel
theorem dX4_isAhead_45 : decode cX4_isAhead 45 = .ok (.aload_n 0, 1) := by decide +kernel
theorem dX4_isAhead_46 : decode cX4_isAhead 46 = .ok (.iload_n 1, 1) := by decide +kernel
theorem dX4_isAhead_47 : decode cX4_isAhead 47 = .ok (.invokevirtual 50, 3) := by decide +kernel
theorem dX4_isAhead_50 : decode cX4_isAhead 50 = .ok (.ireturn, 1) := by decide +kernel
theorem dX4_isAhead_51 : decode cX4_isAhead 51 = .ok (.iload_n 1, 1) := by decide +kernel
theorem dX4_isAhead_52 : decode cX4_isAhead 52 = .ok (.iload_n 2, 1) := by decide +kernel
theorem dX4_isAhead_53 : decode cX4_isAhead 53 = .ok (.if_icmp .ge 7, 3) := by decide +kernel
theorem dX4_isAhead_56 : decode cX4_isAhead 56 = .ok (.iconst 1, 1) := by decide +kernel
theorem dX4_isAhead_57 : decode cX4_isAhead 57 = .ok (.goto 4, 3) := by decide +kernel
theorem dX4_isAhead_60 : decode cX4_isAhead 60 = .ok (.iconst 0, 1) := by decide +kernel
theorem dX4_isAhead_61 : decode cX4_isAhead 61 = .ok (.ireturn, 1) := by decide +kernel
theorem dX4_copy_0 : decode cX4_copy 0 = .ok (.aload_n 0, 1) := by decide +kernel
theorem dX4_copy_1 : decode cX4_copy 1 = .ok (.aload_n 1, 1) := by decide +kernel
theorem dX4_copy_2 : decode cX4_copy 2 = .ok (.getfield 38, 3) := by decide +kernel
theorem dX4_copy_5 : decode cX4_copy 5 = .ok (.putfield 38, 3) := by decide +kernel
theorem dX4_copy_8 : decode cX4_copy 8 = .ok (.aload_n 0, 1) := by decide +kernel
theorem dX4_copy_9 : decode cX4_copy 9 = .ok (.getfield 14, 3) := by decide +kernel
theorem dX4_copy_12 : decode cX4_copy 12 = .ok (.aload_n 1, 1) := by decide +kernel
theorem dX4_copy_13 : decode cX4_copy 13 = .ok (.getfield 14, 3) := by decide +kernel
theorem dX4_copy_16 : decode cX4_copy 16 = .ok (.invokevirtual 54, 3) := by decide +kernel
theorem dX4_copy_19 : decode cX4_copy 19 = .ok (.aload_n 0, 1) := by decide +kernel
theorem dX4_copy_20 : decode cX4_copy 20 = .ok (.getfield 20, 3) := by decide +kernel
theorem dX4_copy_23 : decode cX4_copy 23 = .ok (.aload_n 1, 1) := by decide +kernel
theorem dX4_copy_24 : decode cX4_copy 24 = .ok (.getfield 20, 3) := by decide +kernel
theorem dX4_copy_27 : decode cX4_copy 27 = .ok (.invokevirtual 54, 3) := by decide +kernel
theorem dX4_copy_30 : decode cX4_copy 30 = .ok (.aload_n 0, 1) := by decide +kernel
theorem dX4_copy_31 : decode cX4_copy 31 = .ok (.getfield 23, 3) := by decide +kernel
theorem dX4_copy_34 : decode cX4_copy 34 = .ok (.aload_n 1, 1) := by decide +kernel
theorem dX4_copy_35 : decode cX4_copy 35 = .ok (.getfield 23, 3) := by decide +kernel
theorem dX4_copy_38 : decode cX4_copy 38 = .ok (.invokevirtual 54, 3) := by decide +kernel
theorem dX4_copy_41 : decode cX4_copy 41 = .ok (.aload_n 0, 1) := by decide +kernel
theorem dX4_copy_42 : decode cX4_copy 42 = .ok (.getfield 26, 3) := by decide +kernel
theorem dX4_copy_45 : decode cX4_copy 45 = .ok (.aload_n 1, 1) := by decide +kernel
theorem dX4_copy_46 : decode cX4_copy 46 = .ok (.getfield 26, 3) := by decide +kernel
theorem dX4_copy_49 : decode cX4_copy 49 = .ok (.invokevirtual 54, 3) := by decide +kernel
theorem dX4_copy_52 : decode cX4_copy 52 = .ok (.aload_n 0, 1) := by decide +kernel
theorem dX4_copy_53 : decode cX4_copy 53 = .ok (.getfield 29, 3) := by decide +kernel
theorem dX4_copy_56 : decode cX4_copy 56 = .ok (.aload_n 1, 1) := by decide +kernel
theorem dX4_copy_57 : decode cX4_copy 57 = .ok (.getfield 29, 3) := by decide +kernel
theorem dX4_copy_60 : decode cX4_copy 60 = .ok (.invokevirtual 54, 3) := by decide +kernel
theorem dX4_copy_63 : decode cX4_copy 63 = .ok (.aload_n 0, 1) := by decide +kernel
theorem dX4_copy_64 : decode cX4_copy 64 = .ok (.getfield 32, 3) := by decide +kernel
theorem dX4_copy_67 : decode cX4_copy 67 = .ok (.aload_n 1, 1) := by decide +kernel
theorem dX4_copy_68 : decode cX4_copy 68 = .ok (.getfield 32, 3) := by decide +kernel
theorem dX4_copy_71 : decode cX4_copy 71 = .ok (.invokevirtual 54, 3) := by decide +kernel
theorem dX4_copy_74 : decode cX4_copy 74 = .ok (.aload_n 0, 1) := by decide +kernel
theorem dX4_copy_75 : decode cX4_copy 75 = .ok (.getfield 35, 3) := by decide +kernel
theorem dX4_copy_78 : decode cX4_copy 78 = .ok (.aload_n 1, 1) := by decide +kernel
theorem dX4_copy_79 : decode cX4_copy 79 = .ok (.getfield 35, 3) := by decide +kernel
theorem dX4_copy_82 : decode cX4_copy 82 = .ok (.invokevirtual 54, 3) := by decide +kernel
theorem dX4_copy_85 : decode cX4_copy 85 = .ok (.return_, 1) := by decide +kernel
theorem dX5_init_0 : decode cX5_init 0 = .ok (.aload_n 0, 1) := by decide +kernel
theorem dX5_init_1 : decode cX5_init 1 = .ok (.invokespecial 3, 3) := by decide +kernel
theorem dX5_init_4 : decode cX5_init 4 = .ok (.aload_n 0, 1) := by decide +kernel
theorem dX5_init_5 : decode cX5_init 5 = .ok (.new 9, 3) := by decide +kernel
theorem dX5_init_8 : decode cX5_init 8 = .ok (.dup, 1) := by decide +kernel
theorem dX5_init_9 : decode cX5_init 9 = .ok (.bipush 60, 2) := by decide +kernel
theorem dX5_init_11 : decode cX5_init 11 = .ok (.invokespecial 11, 3) := by decide +kernel
theorem dX5_init_14 : decode cX5_init 14 = .ok (.putfield 14, 3) := by decide +kernel
theorem dX5_init_17 : decode cX5_init 17 = .ok (.aload_n 0, 1) := by decide +kernel
theorem dX5_init_18 : decode cX5_init 18 = .ok (.new 20, 3) := by decide +kernel
theorem dX5_init_21 : decode cX5_init 21 = .ok (.dup, 1) := by decide +kernel
theorem dX5_init_22 : decode cX5_init 22 = .ok (.bipush 30, 2) := by decide +kernel
theorem dX5_init_24 : decode cX5_init 24 = .ok (.invokespecial 22, 3) := by decide +kernel
theorem dX5_init_27 : decode cX5_init 27 = .ok (.putfield 23, 3) := by decide +kernel
theorem dX5_init_30 : decode cX5_init 30 = .ok (.aload_n 0, 1) := by decide +kernel
theorem dX5_init_31 : decode cX5_init 31 = .ok (.new 20, 3) := by decide +kernel
theorem dX5_init_34 : decode cX5_init 34 = .ok (.dup, 1) := by decide +kernel
theorem dX5_init_35 : decode cX5_init 35 = .ok (.bipush 30, 2) := by decide +kernel
theorem dX5_init_37 : decode cX5_init 37 = .ok (.invokespecial 22, 3) := by decide +kernel
theorem dX5_init_40 : decode cX5_init 40 = .ok (.putfield 27, 3) := by decide +kernel
theorem dX5_init_43 : decode cX5_init 43 = .ok (.aload_n 0, 1) := by decide +kernel
theorem dX5_init_44 : decode cX5_init 44 = .ok (.new 20, 3) := by decide +kernel
theorem dX5_init_47 : decode cX5_init 47 = .ok (.dup, 1) := by decide +kernel
theorem dX5_init_48 : decode cX5_init 48 = .ok (.bipush 30, 2) := by decide +kernel
theorem dX5_init_50 : decode cX5_init 50 = .ok (.invokespecial 22, 3) := by decide +kernel
theorem dX5_init_53 : decode cX5_init 53 = .ok (.putfield 30, 3) := by decide +kernel
theorem dX5_init_56 : decode cX5_init 56 = .ok (.aload_n 0, 1) := by decide +kernel
theorem dX5_init_57 : decode cX5_init 57 = .ok (.new 20, 3) := by decide +kernel
theorem dX5_init_60 : decode cX5_init 60 = .ok (.dup, 1) := by decide +kernel
theorem dX5_init_61 : decode cX5_init 61 = .ok (.bipush 30, 2) := by decide +kernel
theorem dX5_init_63 : decode cX5_init 63 = .ok (.invokespecial 22, 3) := by decide +kernel
theorem dX5_init_66 : decode cX5_init 66 = .ok (.putfield 33, 3) := by decide +kernel
theorem dX5_init_69 : decode cX5_init 69 = .ok (.return_, 1) := by decide +kernel
theorem dX5_count_0 : decode cX5_count 0 = .ok (.aload_n 0, 1) := by decide +kernel
theorem dX5_count_1 : decode cX5_count 1 = .ok (.getfield 36, 3) := by decide +kernel
theorem dX5_count_4 : decode cX5_count 4 = .ok (.ireturn, 1) := by decide +kernel
theorem dX5_read_0 : decode cX5_read 0 = .ok (.aload_n 0, 1) := by decide +kernel
theorem dX5_read_1 : decode cX5_read 1 = .ok (.iconst 0, 1) := by decide +kernel
theorem dX5_read_2 : decode cX5_read 2 = .ok (.putfield 40, 3) := by decide +kernel
theorem dX5_read_5 : decode cX5_read 5 = .ok (.aload_n 0, 1) := by decide +kernel
theorem dX5_read_6 : decode cX5_read 6 = .ok (.iconst 0, 1) := by decide +kernel
theorem dX5_read_7 : decode cX5_read 7 = .ok (.putfield 36, 3) := by decide +kernel
theorem dX5_read_10 : decode cX5_read 10 = .ok (.iconst 0, 1) := by decide +kernel
theorem dX5_read_11 : decode cX5_read 11 = .ok (.istore_n 1, 1) := by decide +kernel
theorem dX5_read_12 : decode cX5_read 12 = .ok (.iload_n 1, 1) := by decide +kernel
theorem dX5_read_13 : decode cX5_read 13 = .ok (.bipush 30, 2) := by decide +kernel
theorem dX5_read_15 : decode cX5_read 15 = .ok (.if_icmp .ge 72, 3) := by decide +kernel
theorem dX5_read_18 : decode cX5_read 18 = .ok (.aload_n 0, 1) := by decide +kernel
theorem dX5_read_19 : decode cX5_read 19 = .ok (.aload_n 0, 1) := by decide +kernel
theorem dX5_read_20 : decode cX5_read 20 = .ok (.getfield 14, 3) := by decide +kernel
theorem dX5_read_23 : decode cX5_read 23 = .ok (.aload_n 0, 1) := by decide +kernel
theorem dX5_read_24 : decode cX5_read 24 = .ok (.getfield 40, 3) := by decide +kernel
theorem dX5_read_27 : decode cX5_read 27 = .ok (.invokevirtual 43, 3) := by decide +kernel
theorem dX5_read_30 : decode cX5_read 30 = .ok (.invokevirtual 47, 3) := by decide +kernel
theorem dX5_read_33 : decode cX5_read 33 = .ok (.ifCond .ne 8, 3) := by decide +kernel
theorem dX5_read_36 : decode cX5_read 36 = .ok (.aload_n 0, 1) := by decide +kernel
theorem dX5_read_37 : decode cX5_read 37 = .ok (.getfield 40, 3) := by decide +kernel
theorem dX5_read_40 : decode cX5_read 40 = .ok (.ireturn, 1) := by decide +kernel
theorem dX5_read_41 : decode cX5_read 41 = .ok (.aload_n 0, 1) := by decide +kernel
theorem dX5_read_42 : decode cX5_read 42 = .ok (.dup, 1) := by decide +kernel
theorem dX5_read_43 : decode cX5_read 43 = .ok (.getfield 36, 3) := by decide +kernel
theorem dX5_read_46 : decode cX5_read 46 = .ok (.iconst 1, 1) := by decide +kernel
theorem dX5_read_47 : decode cX5_read 47 = .ok (.iadd, 1) := by decide +kernel
theorem dX5_read_48 : decode cX5_read 48 = .ok (.putfield 36, 3) := by decide +kernel
theorem dX5_read_51 : decode cX5_read 51 = .ok (.aload_n 0, 1) := by decide +kernel
theorem dX5_read_52 : decode cX5_read 52 = .ok (.getfield 40, 3) := by decide +kernel
theorem dX5_read_55 : decode cX5_read 55 = .ok (.aload_n 0, 1) := by decide +kernel
theorem dX5_read_56 : decode cX5_read 56 = .ok (.getfield 14, 3) := by decide +kernel
theorem dX5_read_59 : decode cX5_read 59 = .ok (.invokevirtual 51, 3) := by decide +kernel
theorem dX5_read_62 : decode cX5_read 62 = .ok (.if_icmp .ne 5, 3) := by decide +kernel
theorem dX5_read_65 : decode cX5_read 65 = .ok (.iconst (-1), 1) := by decide +kernel
theorem dX5_read_66 : decode cX5_read 66 = .ok (.ireturn, 1) := by decide +kernel
theorem dX5_read_67 : decode cX5_read 67 = .ok (.aload_n 0, 1) := by decide +kernel
theorem dX5_read_68 : decode cX5_read 68 = .ok (.bipush 59, 2) := by decide +kernel
theorem dX5_read_70 : decode cX5_read 70 = .ok (.invokevirtual 55, 3) := by decide +kernel
theorem dX5_read_73 : decode cX5_read 73 = .ok (.ifCond .ne 8, 3) := by decide +kernel
theorem dX5_read_76 : decode cX5_read 76 = .ok (.aload_n 0, 1) := by decide +kernel
theorem dX5_read_77 : decode cX5_read 77 = .ok (.getfield 40, 3) := by decide +kernel
theorem dX5_read_80 : decode cX5_read 80 = .ok (.ireturn, 1) := by decide +kernel
theorem dX5_read_81 : decode cX5_read 81 = .ok (.iinc 1 1, 3) := by decide +kernel
theorem dX5_read_84 : decode cX5_read 84 = .ok (.goto (-72), 3) := by decide +kernel
theorem dX5_read_87 : decode cX5_read 87 = .ok (.aload_n 0, 1) := by decide +kernel
theorem dX5_read_88 : decode cX5_read 88 = .ok (.getfield 40, 3) := by decide +kernel
theorem dX5_read_91 : decode cX5_read 91 = .ok (.ireturn, 1) := by decide +kernel
theorem dX5_readOrder_0 : decode cX5_readOrder 0 = .ok (.aload_n 0, 1) := by decide +kernel
theorem dX5_readOrder_1 : decode cX5_readOrder 1 = .ok (.getfield 23, 3) := by decide +kernel
theorem dX5_readOrder_4 : decode cX5_readOrder 4 = .ok (.aload_n 0, 1) := by decide +kernel
theorem dX5_readOrder_5 : decode cX5_readOrder 5 = .ok (.getfield 36, 3) := by decide +kernel
theorem dX5_readOrder_8 : decode cX5_readOrder 8 = .ok (.iload_n 1, 1) := by decide +kernel
theorem dX5_readOrder_9 : decode cX5_readOrder 9 = .ok (.invokevirtual 58, 3) := by decide +kernel
theorem dX5_readOrder_12 : decode cX5_readOrder 12 = .ok (.iload_n 1, 1) := by decide +kernel
theorem dX5_readOrder_13 : decode cX5_readOrder 13 = .ok (.tableswitch 299 97 117 #[99, 233, 274, 299, 299, 299, 299, 105, 299, 299, 299, 299, 141, 299, 299, 274, 299, 274, 188, 274, 274], 99) := by decide +kernel
theorem dX5_readOrder_112 : decode cX5_readOrder 112 = .ok (.aload_n 0, 1) := by decide +kernel
theorem dX5_readOrder_113 : decode cX5_readOrder 113 = .ok (.iload_n 1, 1) := by decide +kernel
theorem dX5_readOrder_114 : decode cX5_readOrder 114 = .ok (.invokevirtual 55, 3) := by decide +kernel
theorem dX5_readOrder_117 : decode cX5_readOrder 117 = .ok (.ireturn, 1) := by decide +kernel
theorem dX5_readOrder_118 : decode cX5_readOrder 118 = .ok (.aload_n 0, 1) := by decide +kernel
theorem dX5_readOrder_119 : decode cX5_readOrder 119 = .ok (.iload_n 1, 1) := by decide +kernel
theorem dX5_readOrder_120 : decode cX5_readOrder 120 = .ok (.invokevirtual 55, 3) := by decide +kernel
theorem dX5_readOrder_123 : decode cX5_readOrder 123 = .ok (.ifCond .eq 29, 3) := by decide +kernel
theorem dX5_readOrder_126 : decode cX5_readOrder 126 = .ok (.aload_n 0, 1) := by decide +kernel
theorem dX5_readOrder_127 : decode cX5_readOrder 127 = .ok (.aload_n 0, 1) := by decide +kernel
theorem dX5_readOrder_128 : decode cX5_readOrder 128 = .ok (.getfield 27, 3) := by decide +kernel
theorem dX5_readOrder_131 : decode cX5_readOrder 131 = .ok (.invokevirtual 62, 3) := by decide +kernel
theorem dX5_readOrder_134 : decode cX5_readOrder 134 = .ok (.ifCond .eq 18, 3) := by decide +kernel
theorem dX5_readOrder_137 : decode cX5_readOrder 137 = .ok (.aload_n 0, 1) := by decide +kernel
theorem dX5_readOrder_138 : decode cX5_readOrder 138 = .ok (.aload_n 0, 1) := by decide +kernel
theorem dX5_readOrder_139 : decode cX5_readOrder 139 = .ok (.getfield 30, 3) := by decide +kernel
theorem dX5_readOrder_142 : decode cX5_readOrder 142 = .ok (.invokevirtual 62, 3) := by decide +kernel
theorem dX5_readOrder_145 : decode cX5_readOrder 145 = .ok (.ifCond .eq 7, 3) := by decide +kernel
theorem dX5_readOrder_148 : decode cX5_readOrder 148 = .ok (.iconst 1, 1) := by decide +kernel
theorem dX5_readOrder_149 : decode cX5_readOrder 149 = .ok (.goto 4, 3) := by decide +kernel
theorem dX5_readOrder_152 : decode cX5_readOrder 152 = .ok (.iconst 0, 1) := by decide +kernel
theorem dX5_readOrder_153 : decode cX5_readOrder 153 = .ok (.ireturn, 1) := by decide +kernel
theorem dX5_readOrder_154 : decode cX5_readOrder 154 = .ok (.aload_n 0, 1) := by decide +kernel
theorem dX5_readOrder_155 : decode cX5_readOrder 155 = .ok (.iload_n 1, 1) := by decide +kernel
theorem dX5_readOrder_156 : decode cX5_readOrder 156 = .ok (.invokevirtual 55, 3) := by decide +kernel
theorem dX5_readOrder_159 : decode cX5_readOrder 159 = .ok (.ifCond .eq 40, 3) := by decide +kernel
theorem dX5_readOrder_162 : decode cX5_readOrder 162 = .ok (.aload_n 0, 1) := by decide +kernel
theorem dX5_readOrder_163 : decode cX5_readOrder 163 = .ok (.aload_n 0, 1) := by decide +kernel
theorem dX5_readOrder_164 : decode cX5_readOrder 164 = .ok (.getfield 27, 3) := by decide +kernel
theorem dX5_readOrder_167 : decode cX5_readOrder 167 = .ok (.invokevirtual 62, 3) := by decide +kernel
theorem dX5_readOrder_170 : decode cX5_readOrder 170 = .ok (.ifCond .eq 29, 3) := by decide +kernel
theorem dX5_readOrder_173 : decode cX5_readOrder 173 = .ok (.aload_n 0, 1) := by decide +kernel
theorem dX5_readOrder_174 : decode cX5_readOrder 174 = .ok (.aload_n 0, 1) := by decide +kernel
theorem dX5_readOrder_175 : decode cX5_readOrder 175 = .ok (.getfield 30, 3) := by decide +kernel
theorem dX5_readOrder_178 : decode cX5_readOrder 178 = .ok (.invokevirtual 62, 3) := by decide +kernel
theorem dX5_readOrder_181 : decode cX5_readOrder 181 = .ok (.ifCond .eq 18, 3) := by decide +kernel
theorem dX5_readOrder_184 : decode cX5_readOrder 184 = .ok (.aload_n 0, 1) := by decide +kernel
theorem dX5_readOrder_185 : decode cX5_readOrder 185 = .ok (.aload_n 0, 1) := by decide +kernel
theorem dX5_readOrder_186 : decode cX5_readOrder 186 = .ok (.getfield 33, 3) := by decide +kernel
theorem dX5_readOrder_189 : decode cX5_readOrder 189 = .ok (.invokevirtual 62, 3) := by decide +kernel
theorem dX5_readOrder_192 : decode cX5_readOrder 192 = .ok (.ifCond .eq 7, 3) := by decide +kernel
theorem dX5_readOrder_195 : decode cX5_readOrder 195 = .ok (.iconst 1, 1) := by decide +kernel
theorem dX5_readOrder_196 : decode cX5_readOrder 196 = .ok (.goto 4, 3) := by decide +kernel
theorem dX5_readOrder_199 : decode cX5_readOrder 199 = .ok (.iconst 0, 1) := by decide +kernel
theorem dX5_readOrder_200 : decode cX5_readOrder 200 = .ok (.ireturn, 1) := by decide +kernel
theorem dX5_readOrder_201 : decode cX5_readOrder 201 = .ok (.aload_n 0, 1) := by decide +kernel
theorem dX5_readOrder_202 : decode cX5_readOrder 202 = .ok (.iload_n 1, 1) := by decide +kernel
theorem dX5_readOrder_203 : decode cX5_readOrder 203 = .ok (.invokevirtual 55, 3) := by decide +kernel
theorem dX5_readOrder_206 : decode cX5_readOrder 206 = .ok (.ifCond .eq 38, 3) := by decide +kernel
theorem dX5_readOrder_209 : decode cX5_readOrder 209 = .ok (.aload_n 0, 1) := by decide +kernel
theorem dX5_readOrder_210 : decode cX5_readOrder 210 = .ok (.aload_n 0, 1) := by decide +kernel
theorem dX5_readOrder_211 : decode cX5_readOrder 211 = .ok (.getfield 27, 3) := by decide +kernel
theorem dX5_readOrder_214 : decode cX5_readOrder 214 = .ok (.invokevirtual 62, 3) := by decide +kernel
theorem dX5_readOrder_217 : decode cX5_readOrder 217 = .ok (.ifCond .eq 27, 3) := by decide +kernel
theorem dX5_readOrder_220 : decode cX5_readOrder 220 = .ok (.aload_n 0, 1) := by decide +kernel
theorem dX5_readOrder_221 : decode cX5_readOrder 221 = .ok (.bipush 58, 2) := by decide +kernel
theorem dX5_readOrder_223 : decode cX5_readOrder 223 = .ok (.invokevirtual 55, 3) := by decide +kernel
theorem dX5_readOrder_226 : decode cX5_readOrder 226 = .ok (.ifCond .eq 18, 3) := by decide +kernel
theorem dX5_readOrder_229 : decode cX5_readOrder 229 = .ok (.aload_n 0, 1) := by decide +kernel
theorem dX5_readOrder_230 : decode cX5_readOrder 230 = .ok (.aload_n 0, 1) := by decide +kernel
theorem dX5_readOrder_231 : decode cX5_readOrder 231 = .ok (.getfield 30, 3) := by decide +kernel
theorem dX5_readOrder_234 : decode cX5_readOrder 234 = .ok (.invokevirtual 62, 3) := by decide +kernel
theorem dX5_readOrder_237 : decode cX5_readOrder 237 = .ok (.ifCond .eq 7, 3) := by decide +kernel
theorem dX5_readOrder_240 : decode cX5_readOrder 240 = .ok (.iconst 1, 1) := by decide +kernel
theorem dX5_readOrder_241 : decode cX5_readOrder 241 = .ok (.goto 4, 3) := by decide +kernel
theorem dX5_readOrder_244 : decode cX5_readOrder 244 = .ok (.iconst 0, 1) := by decide +kernel
theorem dX5_readOrder_245 : decode cX5_readOrder 245 = .ok (.ireturn, 1) := by decide +kernel
theorem dX5_readOrder_246 : decode cX5_readOrder 246 = .ok (.aload_n 0, 1) := by decide +kernel
theorem dX5_readOrder_247 : decode cX5_readOrder 247 = .ok (.iload_n 1, 1) := by decide +kernel
theorem dX5_readOrder_248 : decode cX5_readOrder 248 = .ok (.invokevirtual 55, 3) := by decide +kernel
theorem dX5_readOrder_251 : decode cX5_readOrder 251 = .ok (.ifCond .eq 34, 3) := by decide +kernel
theorem dX5_readOrder_254 : decode cX5_readOrder 254 = .ok (.aload_n 0, 1) := by decide +kernel
theorem dX5_readOrder_255 : decode cX5_readOrder 255 = .ok (.aload_n 0, 1) := by decide +kernel
theorem dX5_readOrder_256 : decode cX5_readOrder 256 = .ok (.getfield 27, 3) := by decide +kernel
theorem dX5_readOrder_259 : decode cX5_readOrder 259 = .ok (.invokevirtual 62, 3) := by decide +kernel
theorem dX5_readOrder_262 : decode cX5_readOrder 262 = .ok (.ifCond .eq 23, 3) := by decide +kernel
theorem dX5_readOrder_265 : decode cX5_readOrder 265 = .ok (.aload_n 0, 1) := by decide +kernel
theorem dX5_readOrder_266 : decode cX5_readOrder 266 = .ok (.bipush 61, 2) := by decide +kernel
theorem dX5_readOrder_268 : decode cX5_readOrder 268 = .ok (.invokevirtual 55, 3) := by decide +kernel
theorem dX5_readOrder_271 : decode cX5_readOrder 271 = .ok (.ifCond .eq 14, 3) := by decide +kernel
theorem dX5_readOrder_274 : decode cX5_readOrder 274 = .ok (.aload_n 0, 1) := by decide +kernel
theorem dX5_readOrder_275 : decode cX5_readOrder 275 = .ok (.invokevirtual 66, 3) := by decide +kernel
theorem dX5_readOrder_278 : decode cX5_readOrder 278 = .ok (.ifCond .eq 7, 3) := by decide +kernel
theorem dX5_readOrder_281 : decode cX5_readOrder 281 = .ok (.iconst 1, 1) := by decide +kernel
theorem dX5_readOrder_282 : decode cX5_readOrder 282 = .ok (.goto 4, 3) := by decide +kernel
theorem dX5_readOrder_285 : decode cX5_readOrder 285 = .ok (.iconst 0, 1) := by decide +kernel
theorem dX5_readOrder_286 : decode cX5_readOrder 286 = .ok (.ireturn, 1) := by decide +kernel
theorem dX5_readOrder_287 : decode cX5_readOrder 287 = .ok (.aload_n 0, 1) := by decide +kernel
theorem dX5_readOrder_288 : decode cX5_readOrder 288 = .ok (.iload_n 1, 1) := by decide +kernel
theorem dX5_readOrder_289 : decode cX5_readOrder 289 = .ok (.invokevirtual 55, 3) := by decide +kernel
theorem dX5_readOrder_292 : decode cX5_readOrder 292 = .ok (.ifCond .eq 18, 3) := by decide +kernel
theorem dX5_readOrder_295 : decode cX5_readOrder 295 = .ok (.aload_n 0, 1) := by decide +kernel
theorem dX5_readOrder_296 : decode cX5_readOrder 296 = .ok (.aload_n 0, 1) := by decide +kernel
theorem dX5_readOrder_297 : decode cX5_readOrder 297 = .ok (.getfield 27, 3) := by decide +kernel
theorem dX5_readOrder_300 : decode cX5_readOrder 300 = .ok (.invokevirtual 62, 3) := by decide +kernel
theorem dX5_readOrder_303 : decode cX5_readOrder 303 = .ok (.ifCond .eq 7, 3) := by decide +kernel
theorem dX5_readOrder_306 : decode cX5_readOrder 306 = .ok (.iconst 1, 1) := by decide +kernel
theorem dX5_readOrder_307 : decode cX5_readOrder 307 = .ok (.goto 4, 3) := by decide +kernel
theorem dX5_readOrder_310 : decode cX5_readOrder 310 = .ok (.iconst 0, 1) := by decide +kernel
theorem dX5_readOrder_311 : decode cX5_readOrder 311 = .ok (.ireturn, 1) := by decide +kernel
theorem dX5_readOrder_312 : decode cX5_readOrder 312 = .ok (.iconst 0, 1) := by decide +kernel
theorem dX5_readOrder_313 : decode cX5_readOrder 313 = .ok (.ireturn, 1) := by decide +kernel
theorem dX5_readSign_0 : decode cX5_readSign 0 = .ok (.aload_n 0, 1) := by decide +kernel
theorem dX5_readSign_1 : decode cX5_readSign 1 = .ok (.getfield 14, 3) := by decide +kernel
theorem dX5_readSign_4 : decode cX5_readSign 4 = .ok (.aload_n 0, 1) := by decide +kernel
theorem dX5_readSign_5 : decode cX5_readSign 5 = .ok (.getfield 40, 3) := by decide +kernel
theorem dX5_readSign_8 : decode cX5_readSign 8 = .ok (.invokevirtual 43, 3) := by decide +kernel
theorem dX5_readSign_11 : decode cX5_readSign 11 = .ok (.iload_n 1, 1) := by decide +kernel
theorem dX5_readSign_12 : decode cX5_readSign 12 = .ok (.if_icmp .eq 5, 3) := by decide +kernel
theorem dX5_readSign_15 : decode cX5_readSign 15 = .ok (.iconst 0, 1) := by decide +kernel
theorem dX5_readSign_16 : decode cX5_readSign 16 = .ok (.ireturn, 1) := by decide +kernel
theorem dX5_readSign_17 : decode cX5_readSign 17 = .ok (.aload_n 0, 1) := by decide +kernel
theorem dX5_readSign_18 : decode cX5_readSign 18 = .ok (.dup, 1) := by decide +kernel
theorem dX5_readSign_19 : decode cX5_readSign 19 = .ok (.getfield 40, 3) := by decide +kernel
theorem dX5_readSign_22 : decode cX5_readSign 22 = .ok (.iconst 1, 1) := by decide +kernel
theorem dX5_readSign_23 : decode cX5_readSign 23 = .ok (.iadd, 1) := by decide +kernel
theorem dX5_readSign_24 : decode cX5_readSign 24 = .ok (.putfield 40, 3) := by decide +kernel
theorem dX5_readSign_27 : decode cX5_readSign 27 = .ok (.iconst 1, 1) := by decide +kernel
theorem dX5_readSign_28 : decode cX5_readSign 28 = .ok (.ireturn, 1) := by decide +kernel
theorem dX5_readDigit_0 : decode cX5_readDigit 0 = .ok (.aload_n 0, 1) := by decide +kernel
theorem dX5_readDigit_1 : decode cX5_readDigit 1 = .ok (.getfield 14, 3) := by decide +kernel
theorem dX5_readDigit_4 : decode cX5_readDigit 4 = .ok (.aload_n 0, 1) := by decide +kernel
theorem dX5_readDigit_5 : decode cX5_readDigit 5 = .ok (.getfield 40, 3) := by decide +kernel
theorem dX5_readDigit_8 : decode cX5_readDigit 8 = .ok (.invokevirtual 43, 3) := by decide +kernel
theorem dX5_readDigit_11 : decode cX5_readDigit 11 = .ok (.invokestatic 70, 3) := by decide +kernel
theorem dX5_readDigit_14 : decode cX5_readDigit 14 = .ok (.ifCond .ne 5, 3) := by decide +kernel
theorem dX5_readDigit_17 : decode cX5_readDigit 17 = .ok (.iconst 0, 1) := by decide +kernel
theorem dX5_readDigit_18 : decode cX5_readDigit 18 = .ok (.ireturn, 1) := by decide +kernel
theorem dX5_readDigit_19 : decode cX5_readDigit 19 = .ok (.aload_n 1, 1) := by decide +kernel
theorem dX5_readDigit_20 : decode cX5_readDigit 20 = .ok (.aload_n 0, 1) := by decide +kernel
theorem dX5_readDigit_21 : decode cX5_readDigit 21 = .ok (.getfield 36, 3) := by decide +kernel
theorem dX5_readDigit_24 : decode cX5_readDigit 24 = .ok (.aload_n 0, 1) := by decide +kernel
theorem dX5_readDigit_25 : decode cX5_readDigit 25 = .ok (.getfield 14, 3) := by decide +kernel
theorem dX5_readDigit_28 : decode cX5_readDigit 28 = .ok (.aload_n 0, 1) := by decide +kernel
theorem dX5_readDigit_29 : decode cX5_readDigit 29 = .ok (.getfield 40, 3) := by decide +kernel
theorem dX5_readDigit_32 : decode cX5_readDigit 32 = .ok (.invokevirtual 43, 3) := by decide +kernel
theorem dX5_readDigit_35 : decode cX5_readDigit 35 = .ok (.bipush 48, 2) := by decide +kernel
theorem dX5_readDigit_37 : decode cX5_readDigit 37 = .ok (.isub, 1) := by decide +kernel
theorem dX5_readDigit_38 : decode cX5_readDigit 38 = .ok (.invokevirtual 58, 3) := by decide +kernel
theorem dX5_readDigit_41 : decode cX5_readDigit 41 = .ok (.aload_n 0, 1) := by decide +kernel
theorem dX5_readDigit_42 : decode cX5_readDigit 42 = .ok (.dup, 1) := by decide +kernel
theorem dX5_readDigit_43 : decode cX5_readDigit 43 = .ok (.getfield 40, 3) := by decide +kernel
theorem dX5_readDigit_46 : decode cX5_readDigit 46 = .ok (.iconst 1, 1) := by decide +kernel
theorem dX5_readDigit_47 : decode cX5_readDigit 47 = .ok (.iadd, 1) := by decide +kernel
theorem dX5_readDigit_48 : decode cX5_readDigit 48 = .ok (.putfield 40, 3) := by decide +kernel
theorem dX5_readDigit_51 : decode cX5_readDigit 51 = .ok (.iconst 1, 1) := by decide +kernel
theorem dX5_readDigit_52 : decode cX5_readDigit 52 = .ok (.ireturn, 1) := by decide +kernel
theorem dX5_readCoins_0 : decode cX5_readCoins 0 = .ok (.aload_n 0, 1) := by decide +kernel
theorem dX5_readCoins_1 : decode cX5_readCoins 1 = .ok (.aload_n 0, 1) := by decide +kernel
theorem dX5_readCoins_2 : decode cX5_readCoins 2 = .ok (.getfield 30, 3) := by decide +kernel
theorem dX5_readCoins_5 : decode cX5_readCoins 5 = .ok (.invokevirtual 62, 3) := by decide +kernel
theorem dX5_readCoins_8 : decode cX5_readCoins 8 = .ok (.ifCond .ne 5, 3) := by decide +kernel
theorem dX5_readCoins_11 : decode cX5_readCoins 11 = .ok (.iconst 0, 1) := by decide +kernel
theorem dX5_readCoins_12 : decode cX5_readCoins 12 = .ok (.ireturn, 1) := by decide +kernel
theorem dX5_readCoins_13 : decode cX5_readCoins 13 = .ok (.aload_n 0, 1) := by decide +kernel
theorem dX5_readCoins_14 : decode cX5_readCoins 14 = .ok (.getfield 14, 3) := by decide +kernel
theorem dX5_readCoins_17 : decode cX5_readCoins 17 = .ok (.aload_n 0, 1) := by decide +kernel
theorem dX5_readCoins_18 : decode cX5_readCoins 18 = .ok (.getfield 40, 3) := by decide +kernel
theorem dX5_readCoins_21 : decode cX5_readCoins 21 = .ok (.invokevirtual 43, 3) := by decide +kernel
theorem dX5_readCoins_24 : decode cX5_readCoins 24 = .ok (.invokestatic 70, 3) := by decide +kernel
theorem dX5_readCoins_27 : decode cX5_readCoins 27 = .ok (.ifCond .eq 53, 3) := by decide +kernel
theorem dX5_readCoins_30 : decode cX5_readCoins 30 = .ok (.aload_n 0, 1) := by decide +kernel
theorem dX5_readCoins_31 : decode cX5_readCoins 31 = .ok (.getfield 30, 3) := by decide +kernel
theorem dX5_readCoins_34 : decode cX5_readCoins 34 = .ok (.aload_n 0, 1) := by decide +kernel
theorem dX5_readCoins_35 : decode cX5_readCoins 35 = .ok (.getfield 36, 3) := by decide +kernel
theorem dX5_readCoins_38 : decode cX5_readCoins 38 = .ok (.bipush 10, 2) := by decide +kernel
theorem dX5_readCoins_40 : decode cX5_readCoins 40 = .ok (.aload_n 0, 1) := by decide +kernel
theorem dX5_readCoins_41 : decode cX5_readCoins 41 = .ok (.getfield 30, 3) := by decide +kernel
theorem dX5_readCoins_44 : decode cX5_readCoins 44 = .ok (.aload_n 0, 1) := by decide +kernel
theorem dX5_readCoins_45 : decode cX5_readCoins 45 = .ok (.getfield 36, 3) := by decide +kernel
theorem dX5_readCoins_48 : decode cX5_readCoins 48 = .ok (.invokevirtual 73, 3) := by decide +kernel
theorem dX5_readCoins_51 : decode cX5_readCoins 51 = .ok (.imul, 1) := by decide +kernel
theorem dX5_readCoins_52 : decode cX5_readCoins 52 = .ok (.aload_n 0, 1) := by decide +kernel
theorem dX5_readCoins_53 : decode cX5_readCoins 53 = .ok (.getfield 14, 3) := by decide +kernel
theorem dX5_readCoins_56 : decode cX5_readCoins 56 = .ok (.aload_n 0, 1) := by decide +kernel
theorem dX5_readCoins_57 : decode cX5_readCoins 57 = .ok (.getfield 40, 3) := by decide +kernel
theorem dX5_readCoins_60 : decode cX5_readCoins 60 = .ok (.invokevirtual 43, 3) := by decide +kernel
theorem dX5_readCoins_63 : decode cX5_readCoins 63 = .ok (.iadd, 1) := by decide +kernel
theorem dX5_readCoins_64 : decode cX5_readCoins 64 = .ok (.bipush 48, 2) := by decide +kernel
theorem dX5_readCoins_66 : decode cX5_readCoins 66 = .ok (.isub, 1) := by decide +kernel
theorem dX5_readCoins_67 : decode cX5_readCoins 67 = .ok (.invokevirtual 58, 3) := by decide +kernel
theorem dX5_readCoins_70 : decode cX5_readCoins 70 = .ok (.aload_n 0, 1) := by decide +kernel
theorem dX5_readCoins_71 : decode cX5_readCoins 71 = .ok (.dup, 1) := by decide +kernel
theorem dX5_readCoins_72 : decode cX5_readCoins 72 = .ok (.getfield 40, 3) := by decide +kernel
theorem dX5_readCoins_75 : decode cX5_readCoins 75 = .ok (.iconst 1, 1) := by decide +kernel
theorem dX5_readCoins_76 : decode cX5_readCoins 76 = .ok (.iadd, 1) := by decide +kernel
theorem dX5_readCoins_77 : decode cX5_readCoins 77 = .ok (.putfield 40, 3) := by decide +kernel
theorem dX5_readCoins_80 : decode cX5_readCoins 80 = .ok (.iconst 1, 1) := by decide +kernel
theorem dX5_readCoins_81 : decode cX5_readCoins 81 = .ok (.ireturn, 1) := by decide +kernel
theorem dX5_isDigit_0 : decode cX5_isDigit 0 = .ok (.iload_n 0, 1) := by decide +kernel
theorem dX5_isDigit_1 : decode cX5_isDigit 1 = .ok (.bipush 48, 2) := by decide +kernel
theorem dX5_isDigit_3 : decode cX5_isDigit 3 = .ok (.if_icmp .lt 13, 3) := by decide +kernel
theorem dX5_isDigit_6 : decode cX5_isDigit 6 = .ok (.iload_n 0, 1) := by decide +kernel
theorem dX5_isDigit_7 : decode cX5_isDigit 7 = .ok (.bipush 57, 2) := by decide +kernel
theorem dX5_isDigit_9 : decode cX5_isDigit 9 = .ok (.if_icmp .gt 7, 3) := by decide +kernel
theorem dX5_isDigit_12 : decode cX5_isDigit 12 = .ok (.iconst 1, 1) := by decide +kernel
theorem dX5_isDigit_13 : decode cX5_isDigit 13 = .ok (.goto 4, 3) := by decide +kernel
theorem dX5_isDigit_16 : decode cX5_isDigit 16 = .ok (.iconst 0, 1) := by decide +kernel
theorem dX5_isDigit_17 : decode cX5_isDigit 17 = .ok (.ireturn, 1) := by decide +kernel
theorem dX6_init_0 : decode cX6_init 0 = .ok (.aload_n 0, 1) := by decide +kernel
theorem dX6_init_1 : decode cX6_init 1 = .ok (.invokespecial 1, 3) := by decide +kernel
theorem dX6_init_4 : decode cX6_init 4 = .ok (.aload_n 0, 1) := by decide +kernel
theorem dX6_init_5 : decode cX6_init 5 = .ok (.new 7, 3) := by decide +kernel
theorem dX6_init_8 : decode cX6_init 8 = .ok (.dup, 1) := by decide +kernel
theorem dX6_init_9 : decode cX6_init 9 = .ok (.iconst 3, 1) := by decide +kernel
theorem dX6_init_10 : decode cX6_init 10 = .ok (.invokespecial 11, 3) := by decide +kernel
theorem dX6_init_13 : decode cX6_init 13 = .ok (.putfield 14, 3) := by decide +kernel
theorem dX6_init_16 : decode cX6_init 16 = .ok (.aload_n 0, 1) := by decide +kernel
theorem dX6_init_17 : decode cX6_init 17 = .ok (.new 7, 3) := by decide +kernel
theorem dX6_init_20 : decode cX6_init 20 = .ok (.dup, 1) := by decide +kernel
theorem dX6_init_21 : decode cX6_init 21 = .ok (.iconst 3, 1) := by decide +kernel
theorem dX6_init_22 : decode cX6_init 22 = .ok (.invokespecial 11, 3) := by decide +kernel
theorem dX6_init_25 : decode cX6_init 25 = .ok (.putfield 18, 3) := by decide +kernel
theorem dX6_init_28 : decode cX6_init 28 = .ok (.return_, 1) := by decide +kernel
theorem dX6_stands_0 : decode cX6_stands 0 = .ok (.iload_n 1, 1) := by decide +kernel
theorem dX6_stands_1 : decode cX6_stands 1 = .ok (.ifCond .lt 15, 3) := by decide +kernel
theorem dX6_stands_4 : decode cX6_stands 4 = .ok (.iload_n 1, 1) := by decide +kernel
theorem dX6_stands_5 : decode cX6_stands 5 = .ok (.aload_n 0, 1) := by decide +kernel
theorem dX6_stands_6 : decode cX6_stands 6 = .ok (.getfield 21, 3) := by decide +kernel
theorem dX6_stands_9 : decode cX6_stands 9 = .ok (.if_icmp .ge 7, 3) := by decide +kernel
theorem dX6_stands_12 : decode cX6_stands 12 = .ok (.iconst 1, 1) := by decide +kernel
theorem dX6_stands_13 : decode cX6_stands 13 = .ok (.goto 4, 3) := by decide +kernel
theorem dX6_stands_16 : decode cX6_stands 16 = .ok (.iconst 0, 1) := by decide +kernel
theorem dX6_stands_17 : decode cX6_stands 17 = .ok (.ireturn, 1) := by decide +kernel
theorem dX6_begin_0 : decode cX6_begin 0 = .ok (.aload_n 0, 1) := by decide +kernel
theorem dX6_begin_1 : decode cX6_begin 1 = .ok (.getfield 14, 3) := by decide +kernel
theorem dX6_begin_4 : decode cX6_begin 4 = .ok (.iconst 0, 1) := by decide +kernel
theorem dX6_begin_5 : decode cX6_begin 5 = .ok (.iload_n 1, 1) := by decide +kernel
theorem dX6_begin_6 : decode cX6_begin 6 = .ok (.invokevirtual 25, 3) := by decide +kernel
theorem dX6_begin_9 : decode cX6_begin 9 = .ok (.aload_n 0, 1) := by decide +kernel
theorem dX6_begin_10 : decode cX6_begin 10 = .ok (.getfield 18, 3) := by decide +kernel
theorem dX6_begin_13 : decode cX6_begin 13 = .ok (.iconst 0, 1) := by decide +kernel
theorem dX6_begin_14 : decode cX6_begin 14 = .ok (.iload_n 2, 1) := by decide +kernel
theorem dX6_begin_15 : decode cX6_begin 15 = .ok (.invokevirtual 25, 3) := by decide +kernel
theorem dX6_begin_18 : decode cX6_begin 18 = .ok (.aload_n 0, 1) := by decide +kernel
theorem dX6_begin_19 : decode cX6_begin 19 = .ok (.iconst 1, 1) := by decide +kernel
theorem dX6_begin_20 : decode cX6_begin 20 = .ok (.putfield 21, 3) := by decide +kernel
theorem dX6_begin_23 : decode cX6_begin 23 = .ok (.return_, 1) := by decide +kernel
theorem dX6_putAhead_0 : decode cX6_putAhead 0 = .ok (.iconst 2, 1) := by decide +kernel
theorem dX6_putAhead_1 : decode cX6_putAhead 1 = .ok (.istore_n 3, 1) := by decide +kernel
theorem dX6_putAhead_2 : decode cX6_putAhead 2 = .ok (.iload_n 3, 1) := by decide +kernel
theorem dX6_putAhead_3 : decode cX6_putAhead 3 = .ok (.ifCond .le 45, 3) := by decide +kernel
theorem dX6_putAhead_6 : decode cX6_putAhead 6 = .ok (.aload_n 0, 1) := by decide +kernel
theorem dX6_putAhead_7 : decode cX6_putAhead 7 = .ok (.getfield 14, 3) := by decide +kernel
theorem dX6_putAhead_10 : decode cX6_putAhead 10 = .ok (.iload_n 3, 1) := by decide +kernel
theorem dX6_putAhead_11 : decode cX6_putAhead 11 = .ok (.aload_n 0, 1) := by decide +kernel
theorem dX6_putAhead_12 : decode cX6_putAhead 12 = .ok (.getfield 14, 3) := by decide +kernel
theorem dX6_putAhead_15 : decode cX6_putAhead 15 = .ok (.iload_n 3, 1) := by decide +kernel
theorem dX6_putAhead_16 : decode cX6_putAhead 16 = .ok (.iconst 1, 1) := by decide +kernel
theorem dX6_putAhead_17 : decode cX6_putAhead 17 = .ok (.isub, 1) := by decide +kernel
theorem dX6_putAhead_18 : decode cX6_putAhead 18 = .ok (.invokevirtual 29, 3) := by decide +kernel
theorem dX6_putAhead_21 : decode cX6_putAhead 21 = .ok (.invokevirtual 25, 3) := by decide +kernel
theorem dX6_putAhead_24 : decode cX6_putAhead 24 = .ok (.aload_n 0, 1) := by decide +kernel
theorem dX6_putAhead_25 : decode cX6_putAhead 25 = .ok (.getfield 18, 3) := by decide +kernel
theorem dX6_putAhead_28 : decode cX6_putAhead 28 = .ok (.iload_n 3, 1) := by decide +kernel
theorem dX6_putAhead_29 : decode cX6_putAhead 29 = .ok (.aload_n 0, 1) := by decide +kernel
theorem dX6_putAhead_30 : decode cX6_putAhead 30 = .ok (.getfield 18, 3) := by decide +kernel
theorem dX6_putAhead_33 : decode cX6_putAhead 33 = .ok (.iload_n 3, 1) := by decide +kernel
theorem dX6_putAhead_34 : decode cX6_putAhead 34 = .ok (.iconst 1, 1) := by decide +kernel
theorem dX6_putAhead_35 : decode cX6_putAhead 35 = .ok (.isub, 1) := by decide +kernel
theorem dX6_putAhead_36 : decode cX6_putAhead 36 = .ok (.invokevirtual 29, 3) := by decide +kernel
theorem dX6_putAhead_39 : decode cX6_putAhead 39 = .ok (.invokevirtual 25, 3) := by decide +kernel
theorem dX6_putAhead_42 : decode cX6_putAhead 42 = .ok (.iinc 3 (-1), 3) := by decide +kernel
theorem dX6_putAhead_45 : decode cX6_putAhead 45 = .ok (.goto (-43), 3) := by decide +kernel
theorem dX6_putAhead_48 : decode cX6_putAhead 48 = .ok (.aload_n 0, 1) := by decide +kernel
theorem dX6_putAhead_49 : decode cX6_putAhead 49 = .ok (.getfield 14, 3) := by decide +kernel
theorem dX6_putAhead_52 : decode cX6_putAhead 52 = .ok (.iconst 0, 1) := by decide +kernel
theorem dX6_putAhead_53 : decode cX6_putAhead 53 = .ok (.iload_n 1, 1) := by decide +kernel
theorem dX6_putAhead_54 : decode cX6_putAhead 54 = .ok (.invokevirtual 25, 3) := by decide +kernel
theorem dX6_putAhead_57 : decode cX6_putAhead 57 = .ok (.aload_n 0, 1) := by decide +kernel
theorem dX6_putAhead_58 : decode cX6_putAhead 58 = .ok (.getfield 18, 3) := by decide +kernel
theorem dX6_putAhead_61 : decode cX6_putAhead 61 = .ok (.iconst 0, 1) := by decide +kernel
theorem dX6_putAhead_62 : decode cX6_putAhead 62 = .ok (.iload_n 2, 1) := by decide +kernel
theorem dX6_putAhead_63 : decode cX6_putAhead 63 = .ok (.invokevirtual 25, 3) := by decide +kernel
theorem dX6_putAhead_66 : decode cX6_putAhead 66 = .ok (.aload_n 0, 1) := by decide +kernel
theorem dX6_putAhead_67 : decode cX6_putAhead 67 = .ok (.aload_n 0, 1) := by decide +kernel
theorem dX6_putAhead_68 : decode cX6_putAhead 68 = .ok (.getfield 21, 3) := by decide +kernel
theorem dX6_putAhead_71 : decode cX6_putAhead 71 = .ok (.iconst 1, 1) := by decide +kernel
theorem dX6_putAhead_72 : decode cX6_putAhead 72 = .ok (.iadd, 1) := by decide +kernel
theorem dX6_putAhead_73 : decode cX6_putAhead 73 = .ok (.iconst 3, 1) := by decide +kernel
theorem dX6_putAhead_74 : decode cX6_putAhead 74 = .ok (.invokestatic 33, 3) := by decide +kernel
theorem dX6_putAhead_77 : decode cX6_putAhead 77 = .ok (.putfield 21, 3) := by decide +kernel
theorem dX6_putAhead_80 : decode cX6_putAhead 80 = .ok (.return_, 1) := by decide +kernel
theorem dX7_init_0 : decode cX7_init 0 = .ok (.aload_n 0, 1) := by decide +kernel
theorem dX7_init_1 : decode cX7_init 1 = .ok (.invokespecial 1, 3) := by decide +kernel
theorem dX7_init_4 : decode cX7_init 4 = .ok (.aload_n 0, 1) := by decide +kernel
theorem dX7_init_5 : decode cX7_init 5 = .ok (.iload_n 1, 1) := by decide +kernel
theorem dX7_init_6 : decode cX7_init 6 = .ok (.iconst 0, 1) := by decide +kernel
theorem dX7_init_7 : decode cX7_init 7 = .ok (.invokestatic 7, 3) := by decide +kernel
theorem dX7_init_10 : decode cX7_init 10 = .ok (.newarray .int, 2) := by decide +kernel
theorem dX7_init_12 : decode cX7_init 12 = .ok (.putfield 13, 3) := by decide +kernel
theorem dX7_init_15 : decode cX7_init 15 = .ok (.return_, 1) := by decide +kernel
theorem dX7_at_0 : decode cX7_at 0 = .ok (.iload_n 1, 1) := by decide +kernel
theorem dX7_at_1 : decode cX7_at 1 = .ok (.ifCond .lt 21, 3) := by decide +kernel
theorem dX7_at_4 : decode cX7_at 4 = .ok (.iload_n 1, 1) := by decide +kernel
theorem dX7_at_5 : decode cX7_at 5 = .ok (.aload_n 0, 1) := by decide +kernel
theorem dX7_at_6 : decode cX7_at 6 = .ok (.getfield 13, 3) := by decide +kernel
theorem dX7_at_9 : decode cX7_at 9 = .ok (.arraylength, 1) := by decide +kernel
theorem dX7_at_10 : decode cX7_at 10 = .ok (.if_icmp .ge 12, 3) := by decide +kernel
theorem dX7_at_13 : decode cX7_at 13 = .ok (.aload_n 0, 1) := by decide +kernel
theorem dX7_at_14 : decode cX7_at 14 = .ok (.getfield 13, 3) := by decide +kernel
theorem dX7_at_17 : decode cX7_at 17 = .ok (.iload_n 1, 1) := by decide +kernel
theorem dX7_at_18 : decode cX7_at 18 = .ok (.iaload, 1) := by decide +kernel
theorem dX7_at_19 : decode cX7_at 19 = .ok (.goto 4, 3) := by decide +kernel
theorem dX7_at_22 : decode cX7_at 22 = .ok (.iconst 0, 1) := by decide +kernel
theorem dX7_at_23 : decode cX7_at 23 = .ok (.ireturn, 1) := by decide +kernel
theorem dX7_put_0 : decode cX7_put 0 = .ok (.iload_n 1, 1) := by decide +kernel
theorem dX7_put_1 : decode cX7_put 1 = .ok (.ifCond .lt 19, 3) := by decide +kernel
theorem dX7_put_4 : decode cX7_put 4 = .ok (.iload_n 1, 1) := by decide +kernel
theorem dX7_put_5 : decode cX7_put 5 = .ok (.aload_n 0, 1) := by decide +kernel
theorem dX7_put_6 : decode cX7_put 6 = .ok (.getfield 13, 3) := by decide +kernel
theorem dX7_put_9 : decode cX7_put 9 = .ok (.arraylength, 1) := by decide +kernel
theorem dX7_put_10 : decode cX7_put 10 = .ok (.if_icmp .ge 10, 3) := by decide +kernel
theorem dX7_put_13 : decode cX7_put 13 = .ok (.aload_n 0, 1) := by decide +kernel
theorem dX7_put_14 : decode cX7_put 14 = .ok (.getfield 13, 3) := by decide +kernel
theorem dX7_put_17 : decode cX7_put 17 = .ok (.iload_n 1, 1) := by decide +kernel
theorem dX7_put_18 : decode cX7_put 18 = .ok (.iload_n 2, 1) := by decide +kernel
theorem dX7_put_19 : decode cX7_put 19 = .ok (.iastore, 1) := by decide +kernel
theorem dX7_put_20 : decode cX7_put 20 = .ok (.return_, 1) := by decide +kernel
theorem dX7_more_0 : decode cX7_more 0 = .ok (.iload_n 1, 1) := by decide +kernel
theorem dX7_more_1 : decode cX7_more 1 = .ok (.ifCond .lt 22, 3) := by decide +kernel
theorem dX7_more_4 : decode cX7_more 4 = .ok (.iload_n 1, 1) := by decide +kernel
theorem dX7_more_5 : decode cX7_more 5 = .ok (.aload_n 0, 1) := by decide +kernel
theorem dX7_more_6 : decode cX7_more 6 = .ok (.getfield 13, 3) := by decide +kernel
theorem dX7_more_9 : decode cX7_more 9 = .ok (.arraylength, 1) := by decide +kernel
theorem dX7_more_10 : decode cX7_more 10 = .ok (.if_icmp .ge 13, 3) := by decide +kernel
theorem dX7_more_13 : decode cX7_more 13 = .ok (.aload_n 0, 1) := by decide +kernel
theorem dX7_more_14 : decode cX7_more 14 = .ok (.getfield 13, 3) := by decide +kernel
theorem dX7_more_17 : decode cX7_more 17 = .ok (.iload_n 1, 1) := by decide +kernel
theorem dX7_more_18 : decode cX7_more 18 = .ok (.dup2, 1) := by decide +kernel
theorem dX7_more_19 : decode cX7_more 19 = .ok (.iaload, 1) := by decide +kernel
theorem dX7_more_20 : decode cX7_more 20 = .ok (.iload_n 2, 1) := by decide +kernel
theorem dX7_more_21 : decode cX7_more 21 = .ok (.iadd, 1) := by decide +kernel
theorem dX7_more_22 : decode cX7_more 22 = .ok (.iastore, 1) := by decide +kernel
theorem dX7_more_23 : decode cX7_more 23 = .ok (.return_, 1) := by decide +kernel
theorem dX7_copy_0 : decode cX7_copy 0 = .ok (.aload_n 0, 1) := by decide +kernel
theorem dX7_copy_1 : decode cX7_copy 1 = .ok (.getfield 13, 3) := by decide +kernel
theorem dX7_copy_4 : decode cX7_copy 4 = .ok (.arraylength, 1) := by decide +kernel
theorem dX7_copy_5 : decode cX7_copy 5 = .ok (.aload_n 1, 1) := by decide +kernel
theorem dX7_copy_6 : decode cX7_copy 6 = .ok (.getfield 13, 3) := by decide +kernel
theorem dX7_copy_9 : decode cX7_copy 9 = .ok (.arraylength, 1) := by decide +kernel
theorem dX7_copy_10 : decode cX7_copy 10 = .ok (.invokestatic 19, 3) := by decide +kernel
theorem dX7_copy_13 : decode cX7_copy 13 = .ok (.istore_n 2, 1) := by decide +kernel
theorem dX7_copy_14 : decode cX7_copy 14 = .ok (.aload_n 1, 1) := by decide +kernel
theorem dX7_copy_15 : decode cX7_copy 15 = .ok (.getfield 13, 3) := by decide +kernel
theorem dX7_copy_18 : decode cX7_copy 18 = .ok (.iconst 0, 1) := by decide +kernel
theorem dX7_copy_19 : decode cX7_copy 19 = .ok (.aload_n 0, 1) := by decide +kernel
theorem dX7_copy_20 : decode cX7_copy 20 = .ok (.getfield 13, 3) := by decide +kernel
theorem dX7_copy_23 : decode cX7_copy 23 = .ok (.iconst 0, 1) := by decide +kernel
theorem dX7_copy_24 : decode cX7_copy 24 = .ok (.iload_n 2, 1) := by decide +kernel
theorem dX7_copy_25 : decode cX7_copy 25 = .ok (.invokestatic 22, 3) := by decide +kernel
theorem dX7_copy_28 : decode cX7_copy 28 = .ok (.return_, 1) := by decide +kernel
theorem dX8_init_0 : decode cX8_init 0 = .ok (.aload_n 0, 1) := by decide +kernel
theorem dX8_init_1 : decode cX8_init 1 = .ok (.invokespecial 3, 3) := by decide +kernel
theorem dX8_init_4 : decode cX8_init 4 = .ok (.aload_n 0, 1) := by decide +kernel
theorem dX8_init_5 : decode cX8_init 5 = .ok (.iload_n 1, 1) := by decide +kernel
theorem dX8_init_6 : decode cX8_init 6 = .ok (.putfield 9, 3) := by decide +kernel
theorem dX8_init_9 : decode cX8_init 9 = .ok (.aload_n 0, 1) := by decide +kernel
theorem dX8_init_10 : decode cX8_init 10 = .ok (.new 15, 3) := by decide +kernel
theorem dX8_init_13 : decode cX8_init 13 = .ok (.dup, 1) := by decide +kernel
theorem dX8_init_14 : decode cX8_init 14 = .ok (.iload_n 1, 1) := by decide +kernel
theorem dX8_init_15 : decode cX8_init 15 = .ok (.invokespecial 17, 3) := by decide +kernel
theorem dX8_init_18 : decode cX8_init 18 = .ok (.putfield 20, 3) := by decide +kernel
theorem dX8_init_21 : decode cX8_init 21 = .ok (.return_, 1) := by decide +kernel
theorem dX8_length_0 : decode cX8_length 0 = .ok (.aload_n 0, 1) := by decide +kernel
theorem dX8_length_1 : decode cX8_length 1 = .ok (.getfield 24, 3) := by decide +kernel
theorem dX8_length_4 : decode cX8_length 4 = .ok (.ireturn, 1) := by decide +kernel
theorem dX8_at_0 : decode cX8_at 0 = .ok (.iload_n 1, 1) := by decide +kernel
theorem dX8_at_1 : decode cX8_at 1 = .ok (.ifCond .lt 22, 3) := by decide +kernel
theorem dX8_at_4 : decode cX8_at 4 = .ok (.iload_n 1, 1) := by decide +kernel
theorem dX8_at_5 : decode cX8_at 5 = .ok (.aload_n 0, 1) := by decide +kernel
theorem dX8_at_6 : decode cX8_at 6 = .ok (.getfield 24, 3) := by decide +kernel
theorem dX8_at_9 : decode cX8_at 9 = .ok (.if_icmp .ge 14, 3) := by decide +kernel
theorem dX8_at_12 : decode cX8_at 12 = .ok (.aload_n 0, 1) := by decide +kernel
theorem dX8_at_13 : decode cX8_at 13 = .ok (.getfield 20, 3) := by decide +kernel
theorem dX8_at_16 : decode cX8_at 16 = .ok (.iload_n 1, 1) := by decide +kernel
theorem dX8_at_17 : decode cX8_at 17 = .ok (.invokevirtual 27, 3) := by decide +kernel
theorem dX8_at_20 : decode cX8_at 20 = .ok (.goto 4, 3) := by decide +kernel
theorem dX8_at_23 : decode cX8_at 23 = .ok (.iconst (-1), 1) := by decide +kernel
theorem dX8_at_24 : decode cX8_at 24 = .ok (.ireturn, 1) := by decide +kernel
theorem dX8_clear_0 : decode cX8_clear 0 = .ok (.aload_n 0, 1) := by decide +kernel
theorem dX8_clear_1 : decode cX8_clear 1 = .ok (.iconst 0, 1) := by decide +kernel
theorem dX8_clear_2 : decode cX8_clear 2 = .ok (.putfield 24, 3) := by decide +kernel
theorem dX8_clear_5 : decode cX8_clear 5 = .ok (.return_, 1) := by decide +kernel
theorem dX8_put_0 : decode cX8_put 0 = .ok (.aload_n 0, 1) := by decide +kernel
theorem dX8_put_1 : decode cX8_put 1 = .ok (.getfield 24, 3) := by decide +kernel
theorem dX8_put_4 : decode cX8_put 4 = .ok (.aload_n 0, 1) := by decide +kernel
theorem dX8_put_5 : decode cX8_put 5 = .ok (.getfield 9, 3) := by decide +kernel
theorem dX8_put_8 : decode cX8_put 8 = .ok (.if_icmp .ge 25, 3) := by decide +kernel
theorem dX8_put_11 : decode cX8_put 11 = .ok (.aload_n 0, 1) := by decide +kernel
theorem dX8_put_12 : decode cX8_put 12 = .ok (.getfield 20, 3) := by decide +kernel
theorem dX8_put_15 : decode cX8_put 15 = .ok (.aload_n 0, 1) := by decide +kernel
theorem dX8_put_16 : decode cX8_put 16 = .ok (.getfield 24, 3) := by decide +kernel
theorem dX8_put_19 : decode cX8_put 19 = .ok (.iload_n 1, 1) := by decide +kernel
theorem dX8_put_20 : decode cX8_put 20 = .ok (.invokevirtual 31, 3) := by decide +kernel
theorem dX8_put_23 : decode cX8_put 23 = .ok (.aload_n 0, 1) := by decide +kernel
theorem dX8_put_24 : decode cX8_put 24 = .ok (.dup, 1) := by decide +kernel
theorem dX8_put_25 : decode cX8_put 25 = .ok (.getfield 24, 3) := by decide +kernel
theorem dX8_put_28 : decode cX8_put 28 = .ok (.iconst 1, 1) := by decide +kernel
theorem dX8_put_29 : decode cX8_put 29 = .ok (.iadd, 1) := by decide +kernel
theorem dX8_put_30 : decode cX8_put 30 = .ok (.putfield 24, 3) := by decide +kernel
theorem dX8_put_33 : decode cX8_put 33 = .ok (.return_, 1) := by decide +kernel
theorem dX8_putNumber_0 : decode cX8_putNumber 0 = .ok (.iload_n 1, 1) := by decide +kernel
theorem dX8_putNumber_1 : decode cX8_putNumber 1 = .ok (.bipush 9, 2) := by decide +kernel
theorem dX8_putNumber_3 : decode cX8_putNumber 3 = .ok (.if_icmp .le 14, 3) := by decide +kernel
theorem dX8_putNumber_6 : decode cX8_putNumber 6 = .ok (.aload_n 0, 1) := by decide +kernel
theorem dX8_putNumber_7 : decode cX8_putNumber 7 = .ok (.bipush 48, 2) := by decide +kernel
theorem dX8_putNumber_9 : decode cX8_putNumber 9 = .ok (.iload_n 1, 1) := by decide +kernel
theorem dX8_putNumber_10 : decode cX8_putNumber 10 = .ok (.bipush 10, 2) := by decide +kernel
theorem dX8_putNumber_12 : decode cX8_putNumber 12 = .ok (.idiv, 1) := by decide +kernel
theorem dX8_putNumber_13 : decode cX8_putNumber 13 = .ok (.iadd, 1) := by decide +kernel
theorem dX8_putNumber_14 : decode cX8_putNumber 14 = .ok (.invokevirtual 35, 3) := by decide +kernel
theorem dX8_putNumber_17 : decode cX8_putNumber 17 = .ok (.aload_n 0, 1) := by decide +kernel
theorem dX8_putNumber_18 : decode cX8_putNumber 18 = .ok (.bipush 48, 2) := by decide +kernel
theorem dX8_putNumber_20 : decode cX8_putNumber 20 = .ok (.iload_n 1, 1) := by decide +kernel
theorem dX8_putNumber_21 : decode cX8_putNumber 21 = .ok (.bipush 10, 2) := by decide +kernel
theorem dX8_putNumber_23 : decode cX8_putNumber 23 = .ok (.irem, 1) := by decide +kernel
theorem dX8_putNumber_24 : decode cX8_putNumber 24 = .ok (.iadd, 1) := by decide +kernel
theorem dX8_putNumber_25 : decode cX8_putNumber 25 = .ok (.invokevirtual 35, 3) := by decide +kernel
theorem dX8_putNumber_28 : decode cX8_putNumber 28 = .ok (.return_, 1) := by decide +kernel
theorem dX9_init_0 : decode cX9_init 0 = .ok (.aload_n 0, 1) := by decide +kernel
theorem dX9_init_1 : decode cX9_init 1 = .ok (.invokespecial 3, 3) := by decide +kernel
theorem dX9_init_4 : decode cX9_init 4 = .ok (.aload_n 0, 1) := by decide +kernel
theorem dX9_init_5 : decode cX9_init 5 = .ok (.new 9, 3) := by decide +kernel
theorem dX9_init_8 : decode cX9_init 8 = .ok (.dup, 1) := by decide +kernel
theorem dX9_init_9 : decode cX9_init 9 = .ok (.invokespecial 11, 3) := by decide +kernel
theorem dX9_init_12 : decode cX9_init 12 = .ok (.putfield 12, 3) := by decide +kernel
theorem dX9_init_15 : decode cX9_init 15 = .ok (.aload_n 0, 1) := by decide +kernel
theorem dX9_init_16 : decode cX9_init 16 = .ok (.new 18, 3) := by decide +kernel
theorem dX9_init_19 : decode cX9_init 19 = .ok (.dup, 1) := by decide +kernel
theorem dX9_init_20 : decode cX9_init 20 = .ok (.invokespecial 20, 3) := by decide +kernel
theorem dX9_init_23 : decode cX9_init 23 = .ok (.putfield 21, 3) := by decide +kernel
theorem dX9_init_26 : decode cX9_init 26 = .ok (.aload_n 0, 1) := by decide +kernel
theorem dX9_init_27 : decode cX9_init 27 = .ok (.new 25, 3) := by decide +kernel
theorem dX9_init_30 : decode cX9_init 30 = .ok (.dup, 1) := by decide +kernel
theorem dX9_init_31 : decode cX9_init 31 = .ok (.invokespecial 27, 3) := by decide +kernel
theorem dX9_init_34 : decode cX9_init 34 = .ok (.putfield 28, 3) := by decide +kernel
theorem dX9_init_37 : decode cX9_init 37 = .ok (.return_, 1) := by decide +kernel
theorem dX9_fitOf_0 : decode cX9_fitOf 0 = .ok (.aload_n 0, 1) := by decide +kernel
theorem dX9_fitOf_1 : decode cX9_fitOf 1 = .ok (.getfield 12, 3) := by decide +kernel
theorem dX9_fitOf_4 : decode cX9_fitOf 4 = .ok (.getfield 32, 3) := by decide +kernel
theorem dX9_fitOf_7 : decode cX9_fitOf 7 = .ok (.iload_n 1, 1) := by decide +kernel
theorem dX9_fitOf_8 : decode cX9_fitOf 8 = .ok (.invokevirtual 36, 3) := by decide +kernel
theorem dX9_fitOf_11 : decode cX9_fitOf 11 = .ok (.aload_n 0, 1) := by decide +kernel
theorem dX9_fitOf_12 : decode cX9_fitOf 12 = .ok (.getfield 21, 3) := by decide +kernel
theorem dX9_fitOf_15 : decode cX9_fitOf 15 = .ok (.getfield 42, 3) := by decide +kernel
theorem dX9_fitOf_18 : decode cX9_fitOf 18 = .ok (.iload_n 2, 1) := by decide +kernel
theorem dX9_fitOf_19 : decode cX9_fitOf 19 = .ok (.invokevirtual 36, 3) := by decide +kernel
theorem dX9_fitOf_22 : decode cX9_fitOf 22 = .ok (.isub, 1) := by decide +kernel
theorem dX9_fitOf_23 : decode cX9_fitOf 23 = .ok (.invokestatic 45, 3) := by decide +kernel
theorem dX9_fitOf_26 : decode cX9_fitOf 26 = .ok (.istore_n 3, 1) := by decide +kernel
theorem dX9_fitOf_27 : decode cX9_fitOf 27 = .ok (.aload_n 0, 1) := by decide +kernel
theorem dX9_fitOf_28 : decode cX9_fitOf 28 = .ok (.getfield 12, 3) := by decide +kernel
theorem dX9_fitOf_31 : decode cX9_fitOf 31 = .ok (.getfield 50, 3) := by decide +kernel
theorem dX9_fitOf_34 : decode cX9_fitOf 34 = .ok (.iload_n 1, 1) := by decide +kernel
theorem dX9_fitOf_35 : decode cX9_fitOf 35 = .ok (.invokevirtual 36, 3) := by decide +kernel
theorem dX9_fitOf_38 : decode cX9_fitOf 38 = .ok (.aload_n 0, 1) := by decide +kernel
theorem dX9_fitOf_39 : decode cX9_fitOf 39 = .ok (.getfield 21, 3) := by decide +kernel
theorem dX9_fitOf_42 : decode cX9_fitOf 42 = .ok (.getfield 53, 3) := by decide +kernel
theorem dX9_fitOf_45 : decode cX9_fitOf 45 = .ok (.iload_n 2, 1) := by decide +kernel
theorem dX9_fitOf_46 : decode cX9_fitOf 46 = .ok (.invokevirtual 36, 3) := by decide +kernel
theorem dX9_fitOf_49 : decode cX9_fitOf 49 = .ok (.if_icmp .ne 7, 3) := by decide +kernel
theorem dX9_fitOf_52 : decode cX9_fitOf 52 = .ok (.iconst 1, 1) := by decide +kernel
theorem dX9_fitOf_53 : decode cX9_fitOf 53 = .ok (.goto 4, 3) := by decide +kernel
theorem dX9_fitOf_56 : decode cX9_fitOf 56 = .ok (.iconst 0, 1) := by decide +kernel
theorem dX9_fitOf_57 : decode cX9_fitOf 57 = .ok (.istore 4, 2) := by decide +kernel
theorem dX9_fitOf_59 : decode cX9_fitOf 59 = .ok (.bipush 9, 2) := by decide +kernel
theorem dX9_fitOf_61 : decode cX9_fitOf 61 = .ok (.iload_n 3, 1) := by decide +kernel
theorem dX9_fitOf_62 : decode cX9_fitOf 62 = .ok (.isub, 1) := by decide +kernel
theorem dX9_fitOf_63 : decode cX9_fitOf 63 = .ok (.iload 4, 2) := by decide +kernel
theorem dX9_fitOf_65 : decode cX9_fitOf 65 = .ok (.ifCond .eq 7, 3) := by decide +kernel
theorem dX9_fitOf_68 : decode cX9_fitOf 68 = .ok (.iconst 4, 1) := by decide +kernel
theorem dX9_fitOf_69 : decode cX9_fitOf 69 = .ok (.goto 4, 3) := by decide +kernel
theorem dX9_fitOf_72 : decode cX9_fitOf 72 = .ok (.iconst 0, 1) := by decide +kernel
theorem dX9_fitOf_73 : decode cX9_fitOf 73 = .ok (.iadd, 1) := by decide +kernel
theorem dX9_fitOf_74 : decode cX9_fitOf 74 = .ok (.ireturn, 1) := by decide +kernel
theorem dX9_wants_0 : decode cX9_wants 0 = .ok (.aload_n 0, 1) := by decide +kernel
theorem dX9_wants_1 : decode cX9_wants 1 = .ok (.iload_n 1, 1) := by decide +kernel
theorem dX9_wants_2 : decode cX9_wants 2 = .ok (.iload_n 2, 1) := by decide +kernel
theorem dX9_wants_3 : decode cX9_wants 3 = .ok (.invokevirtual 54, 3) := by decide +kernel
theorem dX9_wants_6 : decode cX9_wants 6 = .ok (.bipush 6, 2) := by decide +kernel
theorem dX9_wants_8 : decode cX9_wants 8 = .ok (.if_icmp .lt 7, 3) := by decide +kernel
theorem dX9_wants_11 : decode cX9_wants 11 = .ok (.iconst 1, 1) := by decide +kernel
theorem dX9_wants_12 : decode cX9_wants 12 = .ok (.goto 4, 3) := by decide +kernel
theorem dX9_wants_15 : decode cX9_wants 15 = .ok (.iconst 0, 1) := by decide +kernel
theorem dX9_wants_16 : decode cX9_wants 16 = .ok (.ireturn, 1) := by decide +kernel
theorem dX9_bears_0 : decode cX9_bears 0 = .ok (.aload_n 0, 1) := by decide +kernel
theorem dX9_bears_1 : decode cX9_bears 1 = .ok (.getfield 12, 3) := by decide +kernel
theorem dX9_bears_4 : decode cX9_bears 4 = .ok (.iload_n 2, 1) := by decide +kernel
theorem dX9_bears_5 : decode cX9_bears 5 = .ok (.invokevirtual 58, 3) := by decide +kernel
theorem dX9_bears_8 : decode cX9_bears 8 = .ok (.ifCond .ne 29, 3) := by decide +kernel
theorem dX9_bears_11 : decode cX9_bears 11 = .ok (.aload_n 0, 1) := by decide +kernel
theorem dX9_bears_12 : decode cX9_bears 12 = .ok (.getfield 12, 3) := by decide +kernel
theorem dX9_bears_15 : decode cX9_bears 15 = .ok (.iload_n 2, 1) := by decide +kernel
theorem dX9_bears_16 : decode cX9_bears 16 = .ok (.invokevirtual 62, 3) := by decide +kernel
theorem dX9_bears_19 : decode cX9_bears 19 = .ok (.aload_n 0, 1) := by decide +kernel
theorem dX9_bears_20 : decode cX9_bears 20 = .ok (.getfield 21, 3) := by decide +kernel
theorem dX9_bears_23 : decode cX9_bears 23 = .ok (.getfield 65, 3) := by decide +kernel
theorem dX9_bears_26 : decode cX9_bears 26 = .ok (.iload_n 1, 1) := by decide +kernel
theorem dX9_bears_27 : decode cX9_bears 27 = .ok (.invokevirtual 36, 3) := by decide +kernel
theorem dX9_bears_30 : decode cX9_bears 30 = .ok (.if_icmp .lt 7, 3) := by decide +kernel
theorem dX9_bears_33 : decode cX9_bears 33 = .ok (.iconst 1, 1) := by decide +kernel
theorem dX9_bears_34 : decode cX9_bears 34 = .ok (.goto 4, 3) := by decide +kernel
theorem dX9_bears_37 : decode cX9_bears 37 = .ok (.iconst 0, 1) := by decide +kernel
theorem dX9_bears_38 : decode cX9_bears 38 = .ok (.ireturn, 1) := by decide +kernel
theorem dX9_isRatherHad_0 : decode cX9_isRatherHad 0 = .ok (.aload_n 0, 1) := by decide +kernel
theorem dX9_isRatherHad_1 : decode cX9_isRatherHad 1 = .ok (.iload_n 1, 1) := by decide +kernel
theorem dX9_isRatherHad_2 : decode cX9_isRatherHad 2 = .ok (.iload_n 2, 1) := by decide +kernel
theorem dX9_isRatherHad_3 : decode cX9_isRatherHad 3 = .ok (.invokevirtual 54, 3) := by decide +kernel
theorem dX9_isRatherHad_6 : decode cX9_isRatherHad 6 = .ok (.aload_n 0, 1) := by decide +kernel
theorem dX9_isRatherHad_7 : decode cX9_isRatherHad 7 = .ok (.iload_n 1, 1) := by decide +kernel
theorem dX9_isRatherHad_8 : decode cX9_isRatherHad 8 = .ok (.iload_n 3, 1) := by decide +kernel
theorem dX9_isRatherHad_9 : decode cX9_isRatherHad 9 = .ok (.invokevirtual 54, 3) := by decide +kernel
theorem dX9_isRatherHad_12 : decode cX9_isRatherHad 12 = .ok (.isub, 1) := by decide +kernel
theorem dX9_isRatherHad_13 : decode cX9_isRatherHad 13 = .ok (.istore 4, 2) := by decide +kernel
theorem dX9_isRatherHad_15 : decode cX9_isRatherHad 15 = .ok (.iload 4, 2) := by decide +kernel
theorem dX9_isRatherHad_17 : decode cX9_isRatherHad 17 = .ok (.ifCond .gt 13, 3) := by decide +kernel
theorem dX9_isRatherHad_20 : decode cX9_isRatherHad 20 = .ok (.iload 4, 2) := by decide +kernel
theorem dX9_isRatherHad_22 : decode cX9_isRatherHad 22 = .ok (.ifCond .ne 12, 3) := by decide +kernel
theorem dX9_isRatherHad_25 : decode cX9_isRatherHad 25 = .ok (.iload_n 2, 1) := by decide +kernel
theorem dX9_isRatherHad_26 : decode cX9_isRatherHad 26 = .ok (.iload_n 3, 1) := by decide +kernel
theorem dX9_isRatherHad_27 : decode cX9_isRatherHad 27 = .ok (.if_icmp .ge 7, 3) := by decide +kernel
theorem dX9_isRatherHad_30 : decode cX9_isRatherHad 30 = .ok (.iconst 1, 1) := by decide +kernel
theorem dX9_isRatherHad_31 : decode cX9_isRatherHad 31 = .ok (.goto 4, 3) := by decide +kernel
theorem dX9_isRatherHad_34 : decode cX9_isRatherHad 34 = .ok (.iconst 0, 1) := by decide +kernel
theorem dX9_isRatherHad_35 : decode cX9_isRatherHad 35 = .ok (.ireturn, 1) := by decide +kernel
theorem dX9_sit_0 : decode cX9_sit 0 = .ok (.aload_n 0, 1) := by decide +kernel
theorem dX9_sit_1 : decode cX9_sit 1 = .ok (.getfield 12, 3) := by decide +kernel
theorem dX9_sit_4 : decode cX9_sit 4 = .ok (.getfield 68, 3) := by decide +kernel
theorem dX9_sit_7 : decode cX9_sit 7 = .ok (.iload_n 1, 1) := by decide +kernel
theorem dX9_sit_8 : decode cX9_sit 8 = .ok (.iload_n 2, 1) := by decide +kernel
theorem dX9_sit_9 : decode cX9_sit 9 = .ok (.invokevirtual 71, 3) := by decide +kernel
theorem dX9_sit_12 : decode cX9_sit 12 = .ok (.aload_n 0, 1) := by decide +kernel
theorem dX9_sit_13 : decode cX9_sit 13 = .ok (.getfield 21, 3) := by decide +kernel
theorem dX9_sit_16 : decode cX9_sit 16 = .ok (.getfield 75, 3) := by decide +kernel
theorem dX9_sit_19 : decode cX9_sit 19 = .ok (.iload_n 2, 1) := by decide +kernel
theorem dX9_sit_20 : decode cX9_sit 20 = .ok (.iload_n 1, 1) := by decide +kernel
theorem dX9_sit_21 : decode cX9_sit 21 = .ok (.invokevirtual 71, 3) := by decide +kernel
theorem dX9_sit_24 : decode cX9_sit 24 = .ok (.return_, 1) := by decide +kernel
theorem dX9_leave_0 : decode cX9_leave 0 = .ok (.aload_n 0, 1) := by decide +kernel
theorem dX9_leave_1 : decode cX9_leave 1 = .ok (.getfield 12, 3) := by decide +kernel
theorem dX9_leave_4 : decode cX9_leave 4 = .ok (.getfield 68, 3) := by decide +kernel
theorem dX9_leave_7 : decode cX9_leave 7 = .ok (.aload_n 0, 1) := by decide +kernel
theorem dX9_leave_8 : decode cX9_leave 8 = .ok (.getfield 21, 3) := by decide +kernel
theorem dX9_leave_11 : decode cX9_leave 11 = .ok (.getfield 75, 3) := by decide +kernel
theorem dX9_leave_14 : decode cX9_leave 14 = .ok (.iload_n 1, 1) := by decide +kernel
theorem dX9_leave_15 : decode cX9_leave 15 = .ok (.invokevirtual 36, 3) := by decide +kernel
theorem dX9_leave_18 : decode cX9_leave 18 = .ok (.iconst (-1), 1) := by decide +kernel
theorem dX9_leave_19 : decode cX9_leave 19 = .ok (.invokevirtual 71, 3) := by decide +kernel
theorem dX9_leave_22 : decode cX9_leave 22 = .ok (.aload_n 0, 1) := by decide +kernel
theorem dX9_leave_23 : decode cX9_leave 23 = .ok (.getfield 21, 3) := by decide +kernel
theorem dX9_leave_26 : decode cX9_leave 26 = .ok (.getfield 75, 3) := by decide +kernel
theorem dX9_leave_29 : decode cX9_leave 29 = .ok (.iload_n 1, 1) := by decide +kernel
theorem dX9_leave_30 : decode cX9_leave 30 = .ok (.iconst (-1), 1) := by decide +kernel
theorem dX9_leave_31 : decode cX9_leave 31 = .ok (.invokevirtual 71, 3) := by decide +kernel
theorem dX9_leave_34 : decode cX9_leave 34 = .ok (.aload_n 0, 1) := by decide +kernel
theorem dX9_leave_35 : decode cX9_leave 35 = .ok (.getfield 21, 3) := by decide +kernel
theorem dX9_leave_38 : decode cX9_leave 38 = .ok (.getfield 78, 3) := by decide +kernel
theorem dX9_leave_41 : decode cX9_leave 41 = .ok (.iload_n 1, 1) := by decide +kernel
theorem dX9_leave_42 : decode cX9_leave 42 = .ok (.iconst 0, 1) := by decide +kernel
theorem dX9_leave_43 : decode cX9_leave 43 = .ok (.invokevirtual 71, 3) := by decide +kernel
theorem dX9_leave_46 : decode cX9_leave 46 = .ok (.return_, 1) := by decide +kernel
theorem dX9_play_0 : decode cX9_play 0 = .ok (.aload_n 0, 1) := by decide +kernel
theorem dX9_play_1 : decode cX9_play 1 = .ok (.getfield 12, 3) := by decide +kernel
theorem dX9_play_4 : decode cX9_play 4 = .ok (.getfield 68, 3) := by decide +kernel
theorem dX9_play_7 : decode cX9_play 7 = .ok (.iload_n 1, 1) := by decide +kernel
theorem dX9_play_8 : decode cX9_play 8 = .ok (.invokevirtual 36, 3) := by decide +kernel
theorem dX9_play_11 : decode cX9_play 11 = .ok (.istore_n 2, 1) := by decide +kernel
theorem dX9_play_12 : decode cX9_play 12 = .ok (.aload_n 0, 1) := by decide +kernel
theorem dX9_play_13 : decode cX9_play 13 = .ok (.iload_n 1, 1) := by decide +kernel
theorem dX9_play_14 : decode cX9_play 14 = .ok (.iload_n 2, 1) := by decide +kernel
theorem dX9_play_15 : decode cX9_play 15 = .ok (.invokevirtual 54, 3) := by decide +kernel
theorem dX9_play_18 : decode cX9_play 18 = .ok (.istore_n 3, 1) := by decide +kernel
theorem dX9_play_19 : decode cX9_play 19 = .ok (.iload_n 3, 1) := by decide +kernel
theorem dX9_play_20 : decode cX9_play 20 = .ok (.iconst 3, 1) := by decide +kernel
theorem dX9_play_21 : decode cX9_play 21 = .ok (.idiv, 1) := by decide +kernel
theorem dX9_play_22 : decode cX9_play 22 = .ok (.istore 4, 2) := by decide +kernel
theorem dX9_play_24 : decode cX9_play 24 = .ok (.iload 4, 2) := by decide +kernel
theorem dX9_play_26 : decode cX9_play 26 = .ok (.bipush 99, 2) := by decide +kernel
theorem dX9_play_28 : decode cX9_play 28 = .ok (.aload_n 0, 1) := by decide +kernel
theorem dX9_play_29 : decode cX9_play 29 = .ok (.getfield 21, 3) := by decide +kernel
theorem dX9_play_32 : decode cX9_play 32 = .ok (.getfield 81, 3) := by decide +kernel
theorem dX9_play_35 : decode cX9_play 35 = .ok (.iload_n 2, 1) := by decide +kernel
theorem dX9_play_36 : decode cX9_play 36 = .ok (.invokevirtual 36, 3) := by decide +kernel
theorem dX9_play_39 : decode cX9_play 39 = .ok (.isub, 1) := by decide +kernel
theorem dX9_play_40 : decode cX9_play 40 = .ok (.invokestatic 84, 3) := by decide +kernel
theorem dX9_play_43 : decode cX9_play 43 = .ok (.istore 5, 2) := by decide +kernel
theorem dX9_play_45 : decode cX9_play 45 = .ok (.aload_n 0, 1) := by decide +kernel
theorem dX9_play_46 : decode cX9_play 46 = .ok (.getfield 21, 3) := by decide +kernel
theorem dX9_play_49 : decode cX9_play 49 = .ok (.getfield 81, 3) := by decide +kernel
theorem dX9_play_52 : decode cX9_play 52 = .ok (.iload_n 2, 1) := by decide +kernel
theorem dX9_play_53 : decode cX9_play 53 = .ok (.iload 5, 2) := by decide +kernel
theorem dX9_play_55 : decode cX9_play 55 = .ok (.invokevirtual 87, 3) := by decide +kernel
theorem dX9_play_58 : decode cX9_play 58 = .ok (.aload_n 0, 1) := by decide +kernel
theorem dX9_play_59 : decode cX9_play 59 = .ok (.getfield 21, 3) := by decide +kernel
theorem dX9_play_62 : decode cX9_play 62 = .ok (.getfield 90, 3) := by decide +kernel
theorem dX9_play_65 : decode cX9_play 65 = .ok (.iload_n 2, 1) := by decide +kernel
theorem dX9_play_66 : decode cX9_play 66 = .ok (.iconst 1, 1) := by decide +kernel
theorem dX9_play_67 : decode cX9_play 67 = .ok (.invokevirtual 87, 3) := by decide +kernel
theorem dX9_play_70 : decode cX9_play 70 = .ok (.aload_n 0, 1) := by decide +kernel
theorem dX9_play_71 : decode cX9_play 71 = .ok (.getfield 28, 3) := by decide +kernel
theorem dX9_play_74 : decode cX9_play 74 = .ok (.dup, 1) := by decide +kernel
theorem dX9_play_75 : decode cX9_play 75 = .ok (.getfield 93, 3) := by decide +kernel
theorem dX9_play_78 : decode cX9_play 78 = .ok (.iload 4, 2) := by decide +kernel
theorem dX9_play_80 : decode cX9_play 80 = .ok (.iadd, 1) := by decide +kernel
theorem dX9_play_81 : decode cX9_play 81 = .ok (.putfield 93, 3) := by decide +kernel
theorem dX9_play_84 : decode cX9_play 84 = .ok (.aload_n 0, 1) := by decide +kernel
theorem dX9_play_85 : decode cX9_play 85 = .ok (.getfield 28, 3) := by decide +kernel
theorem dX9_play_88 : decode cX9_play 88 = .ok (.dup, 1) := by decide +kernel
theorem dX9_play_89 : decode cX9_play 89 = .ok (.getfield 97, 3) := by decide +kernel
theorem dX9_play_92 : decode cX9_play 92 = .ok (.iload 4, 2) := by decide +kernel
theorem dX9_play_94 : decode cX9_play 94 = .ok (.iload 5, 2) := by decide +kernel
theorem dX9_play_96 : decode cX9_play 96 = .ok (.isub, 1) := by decide +kernel
theorem dX9_play_97 : decode cX9_play 97 = .ok (.iadd, 1) := by decide +kernel
theorem dX9_play_98 : decode cX9_play 98 = .ok (.putfield 97, 3) := by decide +kernel
theorem dX9_play_101 : decode cX9_play 101 = .ok (.aload_n 0, 1) := by decide +kernel
theorem dX9_play_102 : decode cX9_play 102 = .ok (.getfield 12, 3) := by decide +kernel
theorem dX9_play_105 : decode cX9_play 105 = .ok (.getfield 100, 3) := by decide +kernel
theorem dX9_play_108 : decode cX9_play 108 = .ok (.iload_n 1, 1) := by decide +kernel
theorem dX9_play_109 : decode cX9_play 109 = .ok (.iload_n 3, 1) := by decide +kernel
theorem dX9_play_110 : decode cX9_play 110 = .ok (.invokevirtual 87, 3) := by decide +kernel
theorem dX9_play_113 : decode cX9_play 113 = .ok (.iload_n 3, 1) := by decide +kernel
theorem dX9_play_114 : decode cX9_play 114 = .ok (.ireturn, 1) := by decide +kernel
theorem dX9_wearOf_0 : decode cX9_wearOf 0 = .ok (.aload_n 0, 1) := by decide +kernel
theorem dX9_wearOf_1 : decode cX9_wearOf 1 = .ok (.getfield 12, 3) := by decide +kernel
theorem dX9_wearOf_4 : decode cX9_wearOf 4 = .ok (.iload_n 1, 1) := by decide +kernel
theorem dX9_wearOf_5 : decode cX9_wearOf 5 = .ok (.invokevirtual 103, 3) := by decide +kernel
theorem dX9_wearOf_8 : decode cX9_wearOf 8 = .ok (.ifCond .ne 5, 3) := by decide +kernel
theorem dX9_wearOf_11 : decode cX9_wearOf 11 = .ok (.iconst 0, 1) := by decide +kernel
theorem dX9_wearOf_12 : decode cX9_wearOf 12 = .ok (.ireturn, 1) := by decide +kernel
theorem dX9_wearOf_13 : decode cX9_wearOf 13 = .ok (.aload_n 0, 1) := by decide +kernel
theorem dX9_wearOf_14 : decode cX9_wearOf 14 = .ok (.getfield 21, 3) := by decide +kernel
theorem dX9_wearOf_17 : decode cX9_wearOf 17 = .ok (.getfield 42, 3) := by decide +kernel
theorem dX9_wearOf_20 : decode cX9_wearOf 20 = .ok (.aload_n 0, 1) := by decide +kernel
theorem dX9_wearOf_21 : decode cX9_wearOf 21 = .ok (.getfield 12, 3) := by decide +kernel
theorem dX9_wearOf_24 : decode cX9_wearOf 24 = .ok (.getfield 68, 3) := by decide +kernel
theorem dX9_wearOf_27 : decode cX9_wearOf 27 = .ok (.iload_n 1, 1) := by decide +kernel
theorem dX9_wearOf_28 : decode cX9_wearOf 28 = .ok (.invokevirtual 36, 3) := by decide +kernel
theorem dX9_wearOf_31 : decode cX9_wearOf 31 = .ok (.invokevirtual 36, 3) := by decide +kernel
theorem dX9_wearOf_34 : decode cX9_wearOf 34 = .ok (.aload_n 0, 1) := by decide +kernel
theorem dX9_wearOf_35 : decode cX9_wearOf 35 = .ok (.getfield 12, 3) := by decide +kernel
theorem dX9_wearOf_38 : decode cX9_wearOf 38 = .ok (.getfield 32, 3) := by decide +kernel
theorem dX9_wearOf_41 : decode cX9_wearOf 41 = .ok (.iload_n 1, 1) := by decide +kernel
theorem dX9_wearOf_42 : decode cX9_wearOf 42 = .ok (.invokevirtual 36, 3) := by decide +kernel
theorem dX9_wearOf_45 : decode cX9_wearOf 45 = .ok (.if_icmp .ge 5, 3) := by decide +kernel
theorem dX9_wearOf_48 : decode cX9_wearOf 48 = .ok (.iload_n 2, 1) := by decide +kernel
theorem dX9_wearOf_49 : decode cX9_wearOf 49 = .ok (.ireturn, 1) := by decide +kernel
theorem dX9_wearOf_50 : decode cX9_wearOf 50 = .ok (.iload_n 2, 1) := by decide +kernel
theorem dX9_wearOf_51 : decode cX9_wearOf 51 = .ok (.iconst 4, 1) := by decide +kernel
theorem dX9_wearOf_52 : decode cX9_wearOf 52 = .ok (.if_icmp .ne 7, 3) := by decide +kernel
theorem dX9_wearOf_55 : decode cX9_wearOf 55 = .ok (.iconst 1, 1) := by decide +kernel
theorem dX9_wearOf_56 : decode cX9_wearOf 56 = .ok (.goto 4, 3) := by decide +kernel
theorem dX9_wearOf_59 : decode cX9_wearOf 59 = .ok (.iconst 0, 1) := by decide +kernel
theorem dX9_wearOf_60 : decode cX9_wearOf 60 = .ok (.ireturn, 1) := by decide +kernel
theorem dX9_wear_0 : decode cX9_wear 0 = .ok (.aload_n 0, 1) := by decide +kernel
theorem dX9_wear_1 : decode cX9_wear 1 = .ok (.getfield 12, 3) := by decide +kernel
theorem dX9_wear_4 : decode cX9_wear 4 = .ok (.getfield 106, 3) := by decide +kernel
theorem dX9_wear_7 : decode cX9_wear 7 = .ok (.iload_n 1, 1) := by decide +kernel
theorem dX9_wear_8 : decode cX9_wear 8 = .ok (.invokevirtual 36, 3) := by decide +kernel
theorem dX9_wear_11 : decode cX9_wear 11 = .ok (.aload_n 0, 1) := by decide +kernel
theorem dX9_wear_12 : decode cX9_wear 12 = .ok (.iload_n 1, 1) := by decide +kernel
theorem dX9_wear_13 : decode cX9_wear 13 = .ok (.iload_n 2, 1) := by decide +kernel
theorem dX9_wear_14 : decode cX9_wear 14 = .ok (.invokevirtual 109, 3) := by decide +kernel
theorem dX9_wear_17 : decode cX9_wear 17 = .ok (.isub, 1) := by decide +kernel
theorem dX9_wear_18 : decode cX9_wear 18 = .ok (.istore_n 3, 1) := by decide +kernel
theorem dX9_wear_19 : decode cX9_wear 19 = .ok (.aload_n 0, 1) := by decide +kernel
theorem dX9_wear_20 : decode cX9_wear 20 = .ok (.getfield 12, 3) := by decide +kernel
theorem dX9_wear_23 : decode cX9_wear 23 = .ok (.getfield 106, 3) := by decide +kernel
theorem dX9_wear_26 : decode cX9_wear 26 = .ok (.iload_n 1, 1) := by decide +kernel
theorem dX9_wear_27 : decode cX9_wear 27 = .ok (.iload_n 3, 1) := by decide +kernel
theorem dX9_wear_28 : decode cX9_wear 28 = .ok (.iconst 0, 1) := by decide +kernel
theorem dX9_wear_29 : decode cX9_wear 29 = .ok (.invokestatic 112, 3) := by decide +kernel
theorem dX9_wear_32 : decode cX9_wear 32 = .ok (.invokevirtual 71, 3) := by decide +kernel
theorem dX9_wear_35 : decode cX9_wear 35 = .ok (.aload_n 0, 1) := by decide +kernel
theorem dX9_wear_36 : decode cX9_wear 36 = .ok (.getfield 12, 3) := by decide +kernel
theorem dX9_wear_39 : decode cX9_wear 39 = .ok (.iload_n 1, 1) := by decide +kernel
theorem dX9_wear_40 : decode cX9_wear 40 = .ok (.invokevirtual 58, 3) := by decide +kernel
theorem dX9_wear_43 : decode cX9_wear 43 = .ok (.ifCond .eq 18, 3) := by decide +kernel
theorem dX9_wear_46 : decode cX9_wear 46 = .ok (.aload_n 0, 1) := by decide +kernel
theorem dX9_wear_47 : decode cX9_wear 47 = .ok (.aload_n 0, 1) := by decide +kernel
theorem dX9_wear_48 : decode cX9_wear 48 = .ok (.getfield 12, 3) := by decide +kernel
theorem dX9_wear_51 : decode cX9_wear 51 = .ok (.getfield 68, 3) := by decide +kernel
theorem dX9_wear_54 : decode cX9_wear 54 = .ok (.iload_n 1, 1) := by decide +kernel
theorem dX9_wear_55 : decode cX9_wear 55 = .ok (.invokevirtual 36, 3) := by decide +kernel
theorem dX9_wear_58 : decode cX9_wear 58 = .ok (.invokevirtual 115, 3) := by decide +kernel
theorem dX9_wear_61 : decode cX9_wear 61 = .ok (.return_, 1) := by decide +kernel
theorem dX9_copy_0 : decode cX9_copy 0 = .ok (.aload_n 0, 1) := by decide +kernel
theorem dX9_copy_1 : decode cX9_copy 1 = .ok (.getfield 12, 3) := by decide +kernel
theorem dX9_copy_4 : decode cX9_copy 4 = .ok (.aload_n 1, 1) := by decide +kernel
theorem dX9_copy_5 : decode cX9_copy 5 = .ok (.getfield 12, 3) := by decide +kernel
theorem dX9_copy_8 : decode cX9_copy 8 = .ok (.invokevirtual 119, 3) := by decide +kernel
theorem dX9_copy_11 : decode cX9_copy 11 = .ok (.aload_n 0, 1) := by decide +kernel
theorem dX9_copy_12 : decode cX9_copy 12 = .ok (.getfield 21, 3) := by decide +kernel
theorem dX9_copy_15 : decode cX9_copy 15 = .ok (.aload_n 1, 1) := by decide +kernel
theorem dX9_copy_16 : decode cX9_copy 16 = .ok (.getfield 21, 3) := by decide +kernel
theorem dX9_copy_19 : decode cX9_copy 19 = .ok (.invokevirtual 123, 3) := by decide +kernel
theorem dX9_copy_22 : decode cX9_copy 22 = .ok (.aload_n 0, 1) := by decide +kernel
theorem dX9_copy_23 : decode cX9_copy 23 = .ok (.getfield 28, 3) := by decide +kernel
theorem dX9_copy_26 : decode cX9_copy 26 = .ok (.aload_n 1, 1) := by decide +kernel
theorem dX9_copy_27 : decode cX9_copy 27 = .ok (.getfield 28, 3) := by decide +kernel
theorem dX9_copy_30 : decode cX9_copy 30 = .ok (.invokevirtual 126, 3) := by decide +kernel
theorem dX9_copy_33 : decode cX9_copy 33 = .ok (.return_, 1) := by decide +kernel
theorem dX10_init_0 : decode cX10_init 0 = .ok (.aload_n 0, 1) := by decide +kernel
theorem dX10_init_1 : decode cX10_init 1 = .ok (.invokespecial 1, 3) := by decide +kernel
theorem dX10_init_4 : decode cX10_init 4 = .ok (.aload_n 0, 1) := by decide +kernel
theorem dX10_init_5 : decode cX10_init 5 = .ok (.new 7, 3) := by decide +kernel
theorem dX10_init_8 : decode cX10_init 8 = .ok (.dup, 1) := by decide +kernel
theorem dX10_init_9 : decode cX10_init 9 = .ok (.invokespecial 9, 3) := by decide +kernel
theorem dX10_init_12 : decode cX10_init 12 = .ok (.putfield 10, 3) := by decide +kernel
