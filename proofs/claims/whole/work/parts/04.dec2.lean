theorem dX10_areWaysAlike_0 : decode cX10_areWaysAlike 0 = .ok (.aload_n 0, 1) := by decide +kernel
theorem dX10_areWaysAlike_1 : decode cX10_areWaysAlike 1 = .ok (.getfield 29, 3) := by decide +kernel
theorem dX10_areWaysAlike_4 : decode cX10_areWaysAlike 4 = .ok (.aload_n 0, 1) := by decide +kernel
theorem dX10_areWaysAlike_5 : decode cX10_areWaysAlike 5 = .ok (.getfield 10, 3) := by decide +kernel
theorem dX10_areWaysAlike_8 : decode cX10_areWaysAlike 8 = .ok (.invokevirtual 161, 3) := by decide +kernel
theorem dX10_areWaysAlike_11 : decode cX10_areWaysAlike 11 = .ok (.aload_n 0, 1) := by decide +kernel
theorem dX10_areWaysAlike_12 : decode cX10_areWaysAlike 12 = .ok (.getfield 33, 3) := by decide +kernel
theorem dX10_areWaysAlike_15 : decode cX10_areWaysAlike 15 = .ok (.aload_n 0, 1) := by decide +kernel
theorem dX10_areWaysAlike_16 : decode cX10_areWaysAlike 16 = .ok (.getfield 10, 3) := by decide +kernel
theorem dX10_areWaysAlike_19 : decode cX10_areWaysAlike 19 = .ok (.invokevirtual 167, 3) := by decide +kernel
theorem dX10_areWaysAlike_22 : decode cX10_areWaysAlike 22 = .ok (.iconst 0, 1) := by decide +kernel
theorem dX10_areWaysAlike_23 : decode cX10_areWaysAlike 23 = .ok (.istore_n 1, 1) := by decide +kernel
theorem dX10_areWaysAlike_24 : decode cX10_areWaysAlike 24 = .ok (.iload_n 1, 1) := by decide +kernel
theorem dX10_areWaysAlike_25 : decode cX10_areWaysAlike 25 = .ok (.aload_n 0, 1) := by decide +kernel
theorem dX10_areWaysAlike_26 : decode cX10_areWaysAlike 26 = .ok (.getfield 10, 3) := by decide +kernel
theorem dX10_areWaysAlike_29 : decode cX10_areWaysAlike 29 = .ok (.getfield 75, 3) := by decide +kernel
theorem dX10_areWaysAlike_32 : decode cX10_areWaysAlike 32 = .ok (.getfield 170, 3) := by decide +kernel
theorem dX10_areWaysAlike_35 : decode cX10_areWaysAlike 35 = .ok (.if_icmp .ge 30, 3) := by decide +kernel
theorem dX10_areWaysAlike_38 : decode cX10_areWaysAlike 38 = .ok (.aload_n 0, 1) := by decide +kernel
theorem dX10_areWaysAlike_39 : decode cX10_areWaysAlike 39 = .ok (.getfield 29, 3) := by decide +kernel
theorem dX10_areWaysAlike_42 : decode cX10_areWaysAlike 42 = .ok (.iload_n 1, 1) := by decide +kernel
theorem dX10_areWaysAlike_43 : decode cX10_areWaysAlike 43 = .ok (.invokevirtual 164, 3) := by decide +kernel
theorem dX10_areWaysAlike_46 : decode cX10_areWaysAlike 46 = .ok (.aload_n 0, 1) := by decide +kernel
theorem dX10_areWaysAlike_47 : decode cX10_areWaysAlike 47 = .ok (.getfield 33, 3) := by decide +kernel
theorem dX10_areWaysAlike_50 : decode cX10_areWaysAlike 50 = .ok (.iload_n 1, 1) := by decide +kernel
theorem dX10_areWaysAlike_51 : decode cX10_areWaysAlike 51 = .ok (.invokevirtual 164, 3) := by decide +kernel
theorem dX10_areWaysAlike_54 : decode cX10_areWaysAlike 54 = .ok (.if_icmp .eq 5, 3) := by decide +kernel
theorem dX10_areWaysAlike_57 : decode cX10_areWaysAlike 57 = .ok (.iconst 0, 1) := by decide +kernel
theorem dX10_areWaysAlike_58 : decode cX10_areWaysAlike 58 = .ok (.ireturn, 1) := by decide +kernel
theorem dX10_areWaysAlike_59 : decode cX10_areWaysAlike 59 = .ok (.iinc 1 1, 3) := by decide +kernel
theorem dX10_areWaysAlike_62 : decode cX10_areWaysAlike 62 = .ok (.goto (-38), 3) := by decide +kernel
theorem dX10_areWaysAlike_65 : decode cX10_areWaysAlike 65 = .ok (.iconst 1, 1) := by decide +kernel
theorem dX10_areWaysAlike_66 : decode cX10_areWaysAlike 66 = .ok (.ireturn, 1) := by decide +kernel
theorem dX11_init_0 : decode cX11_init 0 = .ok (.aload_n 0, 1) := by decide +kernel
theorem dX11_init_1 : decode cX11_init 1 = .ok (.invokespecial 3, 3) := by decide +kernel
theorem dX11_init_4 : decode cX11_init 4 = .ok (.aload_n 0, 1) := by decide +kernel
theorem dX11_init_5 : decode cX11_init 5 = .ok (.sipush 149, 3) := by decide +kernel
theorem dX11_init_8 : decode cX11_init 8 = .ok (.newarray .int, 2) := by decide +kernel
theorem dX11_init_10 : decode cX11_init 10 = .ok (.putfield 9, 3) := by decide +kernel
theorem dX11_init_13 : decode cX11_init 13 = .ok (.aload_n 0, 1) := by decide +kernel
theorem dX11_init_14 : decode cX11_init 14 = .ok (.sipush 149, 3) := by decide +kernel
theorem dX11_init_17 : decode cX11_init 17 = .ok (.newarray .int, 2) := by decide +kernel
theorem dX11_init_19 : decode cX11_init 19 = .ok (.putfield 13, 3) := by decide +kernel
theorem dX11_init_22 : decode cX11_init 22 = .ok (.aload_n 0, 1) := by decide +kernel
theorem dX11_init_23 : decode cX11_init 23 = .ok (.sipush 149, 3) := by decide +kernel
theorem dX11_init_26 : decode cX11_init 26 = .ok (.newarray .int, 2) := by decide +kernel
theorem dX11_init_28 : decode cX11_init 28 = .ok (.putfield 16, 3) := by decide +kernel
theorem dX11_init_31 : decode cX11_init 31 = .ok (.aload_n 0, 1) := by decide +kernel
theorem dX11_init_32 : decode cX11_init 32 = .ok (.sipush 149, 3) := by decide +kernel
theorem dX11_init_35 : decode cX11_init 35 = .ok (.newarray .int, 2) := by decide +kernel
theorem dX11_init_37 : decode cX11_init 37 = .ok (.putfield 19, 3) := by decide +kernel
theorem dX11_init_40 : decode cX11_init 40 = .ok (.aload_n 0, 1) := by decide +kernel
theorem dX11_init_41 : decode cX11_init 41 = .ok (.bipush 8, 2) := by decide +kernel
theorem dX11_init_43 : decode cX11_init 43 = .ok (.sipush 149, 3) := by decide +kernel
theorem dX11_init_46 : decode cX11_init 46 = .ok (.multianewarray 22 2, 4) := by decide +kernel
theorem dX11_init_50 : decode cX11_init 50 = .ok (.putfield 24, 3) := by decide +kernel
theorem dX11_init_53 : decode cX11_init 53 = .ok (.aload_n 0, 1) := by decide +kernel
theorem dX11_init_54 : decode cX11_init 54 = .ok (.iconst 3, 1) := by decide +kernel
theorem dX11_init_55 : decode cX11_init 55 = .ok (.newarray .int, 2) := by decide +kernel
theorem dX11_init_57 : decode cX11_init 57 = .ok (.putfield 27, 3) := by decide +kernel
theorem dX11_init_60 : decode cX11_init 60 = .ok (.aload_n 0, 1) := by decide +kernel
theorem dX11_init_61 : decode cX11_init 61 = .ok (.iconst 3, 1) := by decide +kernel
theorem dX11_init_62 : decode cX11_init 62 = .ok (.newarray .int, 2) := by decide +kernel
theorem dX11_init_64 : decode cX11_init 64 = .ok (.putfield 30, 3) := by decide +kernel
theorem dX11_init_67 : decode cX11_init 67 = .ok (.aload_n 0, 1) := by decide +kernel
theorem dX11_init_68 : decode cX11_init 68 = .ok (.bipush 10, 2) := by decide +kernel
theorem dX11_init_70 : decode cX11_init 70 = .ok (.newarray .int, 2) := by decide +kernel
theorem dX11_init_72 : decode cX11_init 72 = .ok (.putfield 33, 3) := by decide +kernel
theorem dX11_init_75 : decode cX11_init 75 = .ok (.aload_n 0, 1) := by decide +kernel
theorem dX11_init_76 : decode cX11_init 76 = .ok (.bipush 120, 2) := by decide +kernel
theorem dX11_init_78 : decode cX11_init 78 = .ok (.newarray .char, 2) := by decide +kernel
theorem dX11_init_80 : decode cX11_init 80 = .ok (.putfield 36, 3) := by decide +kernel
theorem dX11_init_83 : decode cX11_init 83 = .ok (.aload_n 0, 1) := by decide +kernel
theorem dX11_init_84 : decode cX11_init 84 = .ok (.bipush 60, 2) := by decide +kernel
theorem dX11_init_86 : decode cX11_init 86 = .ok (.newarray .char, 2) := by decide +kernel
theorem dX11_init_88 : decode cX11_init 88 = .ok (.putfield 40, 3) := by decide +kernel
theorem dX11_init_91 : decode cX11_init 91 = .ok (.aload_n 0, 1) := by decide +kernel
theorem dX11_init_92 : decode cX11_init 92 = .ok (.getfield 9, 3) := by decide +kernel
theorem dX11_init_95 : decode cX11_init 95 = .ok (.iconst 0, 1) := by decide +kernel
theorem dX11_init_96 : decode cX11_init 96 = .ok (.bipush 10, 2) := by decide +kernel
theorem dX11_init_98 : decode cX11_init 98 = .ok (.iastore, 1) := by decide +kernel
theorem dX11_init_99 : decode cX11_init 99 = .ok (.return_, 1) := by decide +kernel
theorem dX11_isBetween_0 : decode cX11_isBetween 0 = .ok (.iload_n 0, 1) := by decide +kernel
theorem dX11_isBetween_1 : decode cX11_isBetween 1 = .ok (.iload_n 1, 1) := by decide +kernel
theorem dX11_isBetween_2 : decode cX11_isBetween 2 = .ok (.if_icmp .lt 12, 3) := by decide +kernel
theorem dX11_isBetween_5 : decode cX11_isBetween 5 = .ok (.iload_n 0, 1) := by decide +kernel
theorem dX11_isBetween_6 : decode cX11_isBetween 6 = .ok (.iload_n 2, 1) := by decide +kernel
theorem dX11_isBetween_7 : decode cX11_isBetween 7 = .ok (.if_icmp .gt 7, 3) := by decide +kernel
theorem dX11_isBetween_10 : decode cX11_isBetween 10 = .ok (.iconst 1, 1) := by decide +kernel
theorem dX11_isBetween_11 : decode cX11_isBetween 11 = .ok (.goto 4, 3) := by decide +kernel
theorem dX11_isBetween_14 : decode cX11_isBetween 14 = .ok (.iconst 0, 1) := by decide +kernel
theorem dX11_isBetween_15 : decode cX11_isBetween 15 = .ok (.ireturn, 1) := by decide +kernel
theorem dX11_copyRow_0 : decode cX11_copyRow 0 = .ok (.iconst 0, 1) := by decide +kernel
theorem dX11_copyRow_1 : decode cX11_copyRow 1 = .ok (.istore_n 2, 1) := by decide +kernel
theorem dX11_copyRow_2 : decode cX11_copyRow 2 = .ok (.iload_n 2, 1) := by decide +kernel
theorem dX11_copyRow_3 : decode cX11_copyRow 3 = .ok (.sipush 149, 3) := by decide +kernel
theorem dX11_copyRow_6 : decode cX11_copyRow 6 = .ok (.if_icmp .ge 15, 3) := by decide +kernel
theorem dX11_copyRow_9 : decode cX11_copyRow 9 = .ok (.aload_n 1, 1) := by decide +kernel
theorem dX11_copyRow_10 : decode cX11_copyRow 10 = .ok (.iload_n 2, 1) := by decide +kernel
theorem dX11_copyRow_11 : decode cX11_copyRow 11 = .ok (.aload_n 0, 1) := by decide +kernel
theorem dX11_copyRow_12 : decode cX11_copyRow 12 = .ok (.iload_n 2, 1) := by decide +kernel
theorem dX11_copyRow_13 : decode cX11_copyRow 13 = .ok (.iaload, 1) := by decide +kernel
theorem dX11_copyRow_14 : decode cX11_copyRow 14 = .ok (.iastore, 1) := by decide +kernel
theorem dX11_copyRow_15 : decode cX11_copyRow 15 = .ok (.iinc 2 1, 3) := by decide +kernel
theorem dX11_copyRow_18 : decode cX11_copyRow 18 = .ok (.goto (-16), 3) := by decide +kernel
theorem dX11_copyRow_21 : decode cX11_copyRow 21 = .ok (.return_, 1) := by decide +kernel
theorem dX11_refuse_0 : decode cX11_refuse 0 = .ok (.iload_n 1, 1) := by decide +kernel
theorem dX11_refuse_1 : decode cX11_refuse 1 = .ok (.ifCond .eq 22, 3) := by decide +kernel
theorem dX11_refuse_4 : decode cX11_refuse 4 = .ok (.aload_n 0, 1) := by decide +kernel
theorem dX11_refuse_5 : decode cX11_refuse 5 = .ok (.getfield 27, 3) := by decide +kernel
theorem dX11_refuse_8 : decode cX11_refuse 8 = .ok (.iconst 0, 1) := by decide +kernel
theorem dX11_refuse_9 : decode cX11_refuse 9 = .ok (.iload_n 2, 1) := by decide +kernel
theorem dX11_refuse_10 : decode cX11_refuse 10 = .ok (.iastore, 1) := by decide +kernel
theorem dX11_refuse_11 : decode cX11_refuse 11 = .ok (.aload_n 0, 1) := by decide +kernel
theorem dX11_refuse_12 : decode cX11_refuse 12 = .ok (.getfield 30, 3) := by decide +kernel
theorem dX11_refuse_15 : decode cX11_refuse 15 = .ok (.iconst 0, 1) := by decide +kernel
theorem dX11_refuse_16 : decode cX11_refuse 16 = .ok (.iload_n 3, 1) := by decide +kernel
theorem dX11_refuse_17 : decode cX11_refuse 17 = .ok (.iastore, 1) := by decide +kernel
theorem dX11_refuse_18 : decode cX11_refuse 18 = .ok (.aload_n 0, 1) := by decide +kernel
theorem dX11_refuse_19 : decode cX11_refuse 19 = .ok (.iconst 1, 1) := by decide +kernel
theorem dX11_refuse_20 : decode cX11_refuse 20 = .ok (.putfield 43, 3) := by decide +kernel
theorem dX11_refuse_23 : decode cX11_refuse 23 = .ok (.iload_n 1, 1) := by decide +kernel
theorem dX11_refuse_24 : decode cX11_refuse 24 = .ok (.ireturn, 1) := by decide +kernel
theorem dX11_refuseSeat_0 : decode cX11_refuseSeat 0 = .ok (.aload_n 0, 1) := by decide +kernel
theorem dX11_refuseSeat_1 : decode cX11_refuseSeat 1 = .ok (.iload_n 1, 1) := by decide +kernel
theorem dX11_refuseSeat_2 : decode cX11_refuseSeat 2 = .ok (.iconst 2, 1) := by decide +kernel
theorem dX11_refuseSeat_3 : decode cX11_refuseSeat 3 = .ok (.iload_n 2, 1) := by decide +kernel
theorem dX11_refuseSeat_4 : decode cX11_refuseSeat 4 = .ok (.invokevirtual 47, 3) := by decide +kernel
theorem dX11_refuseSeat_7 : decode cX11_refuseSeat 7 = .ok (.ifCond .eq 23, 3) := by decide +kernel
theorem dX11_refuseSeat_10 : decode cX11_refuseSeat 10 = .ok (.aload_n 0, 1) := by decide +kernel
theorem dX11_refuseSeat_11 : decode cX11_refuseSeat 11 = .ok (.getfield 27, 3) := by decide +kernel
theorem dX11_refuseSeat_14 : decode cX11_refuseSeat 14 = .ok (.iconst 1, 1) := by decide +kernel
theorem dX11_refuseSeat_15 : decode cX11_refuseSeat 15 = .ok (.iload_n 3, 1) := by decide +kernel
theorem dX11_refuseSeat_16 : decode cX11_refuseSeat 16 = .ok (.iastore, 1) := by decide +kernel
theorem dX11_refuseSeat_17 : decode cX11_refuseSeat 17 = .ok (.aload_n 0, 1) := by decide +kernel
theorem dX11_refuseSeat_18 : decode cX11_refuseSeat 18 = .ok (.getfield 30, 3) := by decide +kernel
theorem dX11_refuseSeat_21 : decode cX11_refuseSeat 21 = .ok (.iconst 1, 1) := by decide +kernel
theorem dX11_refuseSeat_22 : decode cX11_refuseSeat 22 = .ok (.iload 4, 2) := by decide +kernel
theorem dX11_refuseSeat_24 : decode cX11_refuseSeat 24 = .ok (.iastore, 1) := by decide +kernel
theorem dX11_refuseSeat_25 : decode cX11_refuseSeat 25 = .ok (.aload_n 0, 1) := by decide +kernel
theorem dX11_refuseSeat_26 : decode cX11_refuseSeat 26 = .ok (.iconst 2, 1) := by decide +kernel
theorem dX11_refuseSeat_27 : decode cX11_refuseSeat 27 = .ok (.putfield 43, 3) := by decide +kernel
theorem dX11_refuseSeat_30 : decode cX11_refuseSeat 30 = .ok (.iload_n 1, 1) := by decide +kernel
theorem dX11_refuseSeat_31 : decode cX11_refuseSeat 31 = .ok (.ireturn, 1) := by decide +kernel
theorem dX11_remember_0 : decode cX11_remember 0 = .ok (.aload_n 0, 1) := by decide +kernel
theorem dX11_remember_1 : decode cX11_remember 1 = .ok (.getfield 51, 3) := by decide +kernel
theorem dX11_remember_4 : decode cX11_remember 4 = .ok (.bipush 8, 2) := by decide +kernel
theorem dX11_remember_6 : decode cX11_remember 6 = .ok (.if_icmp .ne 46, 3) := by decide +kernel
theorem dX11_remember_9 : decode cX11_remember 9 = .ok (.aload_n 0, 1) := by decide +kernel
theorem dX11_remember_10 : decode cX11_remember 10 = .ok (.dup, 1) := by decide +kernel
theorem dX11_remember_11 : decode cX11_remember 11 = .ok (.getfield 51, 3) := by decide +kernel
theorem dX11_remember_14 : decode cX11_remember 14 = .ok (.iconst 1, 1) := by decide +kernel
theorem dX11_remember_15 : decode cX11_remember 15 = .ok (.isub, 1) := by decide +kernel
theorem dX11_remember_16 : decode cX11_remember 16 = .ok (.putfield 51, 3) := by decide +kernel
theorem dX11_remember_19 : decode cX11_remember 19 = .ok (.iconst 0, 1) := by decide +kernel
theorem dX11_remember_20 : decode cX11_remember 20 = .ok (.istore_n 2, 1) := by decide +kernel
theorem dX11_remember_21 : decode cX11_remember 21 = .ok (.iload_n 2, 1) := by decide +kernel
theorem dX11_remember_22 : decode cX11_remember 22 = .ok (.aload_n 0, 1) := by decide +kernel
theorem dX11_remember_23 : decode cX11_remember 23 = .ok (.getfield 51, 3) := by decide +kernel
theorem dX11_remember_26 : decode cX11_remember 26 = .ok (.if_icmp .ge 26, 3) := by decide +kernel
theorem dX11_remember_29 : decode cX11_remember 29 = .ok (.aload_n 0, 1) := by decide +kernel
theorem dX11_remember_30 : decode cX11_remember 30 = .ok (.getfield 24, 3) := by decide +kernel
theorem dX11_remember_33 : decode cX11_remember 33 = .ok (.iload_n 2, 1) := by decide +kernel
theorem dX11_remember_34 : decode cX11_remember 34 = .ok (.iconst 1, 1) := by decide +kernel
theorem dX11_remember_35 : decode cX11_remember 35 = .ok (.iadd, 1) := by decide +kernel
theorem dX11_remember_36 : decode cX11_remember 36 = .ok (.aaload, 1) := by decide +kernel
theorem dX11_remember_37 : decode cX11_remember 37 = .ok (.aload_n 0, 1) := by decide +kernel
theorem dX11_remember_38 : decode cX11_remember 38 = .ok (.getfield 24, 3) := by decide +kernel
theorem dX11_remember_41 : decode cX11_remember 41 = .ok (.iload_n 2, 1) := by decide +kernel
theorem dX11_remember_42 : decode cX11_remember 42 = .ok (.aaload, 1) := by decide +kernel
theorem dX11_remember_43 : decode cX11_remember 43 = .ok (.invokestatic 54, 3) := by decide +kernel
theorem dX11_remember_46 : decode cX11_remember 46 = .ok (.iinc 2 1, 3) := by decide +kernel
theorem dX11_remember_49 : decode cX11_remember 49 = .ok (.goto (-28), 3) := by decide +kernel
theorem dX11_remember_52 : decode cX11_remember 52 = .ok (.aload_n 1, 1) := by decide +kernel
theorem dX11_remember_53 : decode cX11_remember 53 = .ok (.aload_n 0, 1) := by decide +kernel
theorem dX11_remember_54 : decode cX11_remember 54 = .ok (.getfield 24, 3) := by decide +kernel
theorem dX11_remember_57 : decode cX11_remember 57 = .ok (.aload_n 0, 1) := by decide +kernel
theorem dX11_remember_58 : decode cX11_remember 58 = .ok (.getfield 51, 3) := by decide +kernel
theorem dX11_remember_61 : decode cX11_remember 61 = .ok (.aaload, 1) := by decide +kernel
theorem dX11_remember_62 : decode cX11_remember 62 = .ok (.invokestatic 54, 3) := by decide +kernel
theorem dX11_remember_65 : decode cX11_remember 65 = .ok (.aload_n 0, 1) := by decide +kernel
theorem dX11_remember_66 : decode cX11_remember 66 = .ok (.dup, 1) := by decide +kernel
theorem dX11_remember_67 : decode cX11_remember 67 = .ok (.getfield 51, 3) := by decide +kernel
theorem dX11_remember_70 : decode cX11_remember 70 = .ok (.iconst 1, 1) := by decide +kernel
theorem dX11_remember_71 : decode cX11_remember 71 = .ok (.iadd, 1) := by decide +kernel
theorem dX11_remember_72 : decode cX11_remember 72 = .ok (.putfield 51, 3) := by decide +kernel
theorem dX11_remember_75 : decode cX11_remember 75 = .ok (.return_, 1) := by decide +kernel
theorem dX11_change_0 : decode cX11_change 0 = .ok (.aload_n 0, 1) := by decide +kernel
theorem dX11_change_1 : decode cX11_change 1 = .ok (.getfield 58, 3) := by decide +kernel
theorem dX11_change_4 : decode cX11_change 4 = .ok (.ifCond .ne 11, 3) := by decide +kernel
theorem dX11_change_7 : decode cX11_change 7 = .ok (.aload_n 0, 1) := by decide +kernel
theorem dX11_change_8 : decode cX11_change 8 = .ok (.aload_n 0, 1) := by decide +kernel
theorem dX11_change_9 : decode cX11_change 9 = .ok (.getfield 9, 3) := by decide +kernel
theorem dX11_change_12 : decode cX11_change 12 = .ok (.invokevirtual 62, 3) := by decide +kernel
theorem dX11_change_15 : decode cX11_change 15 = .ok (.return_, 1) := by decide +kernel
theorem dX11_isChair_0 : decode cX11_isChair 0 = .ok (.iload_n 1, 1) := by decide +kernel
theorem dX11_isChair_1 : decode cX11_isChair 1 = .ok (.iconst 0, 1) := by decide +kernel
theorem dX11_isChair_2 : decode cX11_isChair 2 = .ok (.aload_n 0, 1) := by decide +kernel
theorem dX11_isChair_3 : decode cX11_isChair 3 = .ok (.getfield 9, 3) := by decide +kernel
theorem dX11_isChair_6 : decode cX11_isChair 6 = .ok (.bipush 7, 2) := by decide +kernel
theorem dX11_isChair_8 : decode cX11_isChair 8 = .ok (.iaload, 1) := by decide +kernel
theorem dX11_isChair_9 : decode cX11_isChair 9 = .ok (.iconst 1, 1) := by decide +kernel
theorem dX11_isChair_10 : decode cX11_isChair 10 = .ok (.isub, 1) := by decide +kernel
theorem dX11_isChair_11 : decode cX11_isChair 11 = .ok (.invokestatic 66, 3) := by decide +kernel
theorem dX11_isChair_14 : decode cX11_isChair 14 = .ok (.ireturn, 1) := by decide +kernel
theorem dX11_isMusician_0 : decode cX11_isMusician 0 = .ok (.iload_n 1, 1) := by decide +kernel
theorem dX11_isMusician_1 : decode cX11_isMusician 1 = .ok (.iconst 0, 1) := by decide +kernel
theorem dX11_isMusician_2 : decode cX11_isMusician 2 = .ok (.aload_n 0, 1) := by decide +kernel
theorem dX11_isMusician_3 : decode cX11_isMusician 3 = .ok (.getfield 9, 3) := by decide +kernel
theorem dX11_isMusician_6 : decode cX11_isMusician 6 = .ok (.bipush 8, 2) := by decide +kernel
theorem dX11_isMusician_8 : decode cX11_isMusician 8 = .ok (.iaload, 1) := by decide +kernel
theorem dX11_isMusician_9 : decode cX11_isMusician 9 = .ok (.iconst 1, 1) := by decide +kernel
theorem dX11_isMusician_10 : decode cX11_isMusician 10 = .ok (.isub, 1) := by decide +kernel
theorem dX11_isMusician_11 : decode cX11_isMusician 11 = .ok (.invokestatic 66, 3) := by decide +kernel
theorem dX11_isMusician_14 : decode cX11_isMusician 14 = .ok (.ireturn, 1) := by decide +kernel
theorem dX11_ofChair_0 : decode cX11_ofChair 0 = .ok (.aload_n 0, 1) := by decide +kernel
theorem dX11_ofChair_1 : decode cX11_ofChair 1 = .ok (.getfield 9, 3) := by decide +kernel
theorem dX11_ofChair_4 : decode cX11_ofChair 4 = .ok (.bipush 9, 2) := by decide +kernel
theorem dX11_ofChair_6 : decode cX11_ofChair 6 = .ok (.bipush 7, 2) := by decide +kernel
theorem dX11_ofChair_8 : decode cX11_ofChair 8 = .ok (.iload_n 1, 1) := by decide +kernel
theorem dX11_ofChair_9 : decode cX11_ofChair 9 = .ok (.imul, 1) := by decide +kernel
theorem dX11_ofChair_10 : decode cX11_ofChair 10 = .ok (.iadd, 1) := by decide +kernel
theorem dX11_ofChair_11 : decode cX11_ofChair 11 = .ok (.iload_n 2, 1) := by decide +kernel
theorem dX11_ofChair_12 : decode cX11_ofChair 12 = .ok (.iadd, 1) := by decide +kernel
theorem dX11_ofChair_13 : decode cX11_ofChair 13 = .ok (.iaload, 1) := by decide +kernel
theorem dX11_ofChair_14 : decode cX11_ofChair 14 = .ok (.ireturn, 1) := by decide +kernel
theorem dX11_putChair_0 : decode cX11_putChair 0 = .ok (.aload_n 0, 1) := by decide +kernel
theorem dX11_putChair_1 : decode cX11_putChair 1 = .ok (.getfield 9, 3) := by decide +kernel
theorem dX11_putChair_4 : decode cX11_putChair 4 = .ok (.bipush 9, 2) := by decide +kernel
theorem dX11_putChair_6 : decode cX11_putChair 6 = .ok (.bipush 7, 2) := by decide +kernel
theorem dX11_putChair_8 : decode cX11_putChair 8 = .ok (.iload_n 1, 1) := by decide +kernel
theorem dX11_putChair_9 : decode cX11_putChair 9 = .ok (.imul, 1) := by decide +kernel
theorem dX11_putChair_10 : decode cX11_putChair 10 = .ok (.iadd, 1) := by decide +kernel
theorem dX11_putChair_11 : decode cX11_putChair 11 = .ok (.iload_n 2, 1) := by decide +kernel
theorem dX11_putChair_12 : decode cX11_putChair 12 = .ok (.iadd, 1) := by decide +kernel
theorem dX11_putChair_13 : decode cX11_putChair 13 = .ok (.iload_n 3, 1) := by decide +kernel
theorem dX11_putChair_14 : decode cX11_putChair 14 = .ok (.iastore, 1) := by decide +kernel
theorem dX11_putChair_15 : decode cX11_putChair 15 = .ok (.return_, 1) := by decide +kernel
theorem dX11_of_0 : decode cX11_of 0 = .ok (.aload_n 0, 1) := by decide +kernel
theorem dX11_of_1 : decode cX11_of 1 = .ok (.getfield 9, 3) := by decide +kernel
theorem dX11_of_4 : decode cX11_of 4 = .ok (.bipush 79, 2) := by decide +kernel
theorem dX11_of_6 : decode cX11_of 6 = .ok (.bipush 7, 2) := by decide +kernel
theorem dX11_of_8 : decode cX11_of 8 = .ok (.iload_n 1, 1) := by decide +kernel
theorem dX11_of_9 : decode cX11_of 9 = .ok (.imul, 1) := by decide +kernel
theorem dX11_of_10 : decode cX11_of 10 = .ok (.iadd, 1) := by decide +kernel
theorem dX11_of_11 : decode cX11_of 11 = .ok (.iload_n 2, 1) := by decide +kernel
theorem dX11_of_12 : decode cX11_of 12 = .ok (.iadd, 1) := by decide +kernel
theorem dX11_of_13 : decode cX11_of 13 = .ok (.iaload, 1) := by decide +kernel
theorem dX11_of_14 : decode cX11_of 14 = .ok (.ireturn, 1) := by decide +kernel
theorem dX11_put_0 : decode cX11_put 0 = .ok (.aload_n 0, 1) := by decide +kernel
theorem dX11_put_1 : decode cX11_put 1 = .ok (.getfield 9, 3) := by decide +kernel
theorem dX11_put_4 : decode cX11_put 4 = .ok (.bipush 79, 2) := by decide +kernel
theorem dX11_put_6 : decode cX11_put 6 = .ok (.bipush 7, 2) := by decide +kernel
theorem dX11_put_8 : decode cX11_put 8 = .ok (.iload_n 1, 1) := by decide +kernel
theorem dX11_put_9 : decode cX11_put 9 = .ok (.imul, 1) := by decide +kernel
theorem dX11_put_10 : decode cX11_put 10 = .ok (.iadd, 1) := by decide +kernel
theorem dX11_put_11 : decode cX11_put 11 = .ok (.iload_n 2, 1) := by decide +kernel
theorem dX11_put_12 : decode cX11_put 12 = .ok (.iadd, 1) := by decide +kernel
theorem dX11_put_13 : decode cX11_put 13 = .ok (.iload_n 3, 1) := by decide +kernel
theorem dX11_put_14 : decode cX11_put 14 = .ok (.iastore, 1) := by decide +kernel
theorem dX11_put_15 : decode cX11_put 15 = .ok (.return_, 1) := by decide +kernel
theorem dX11_comfort_0 : decode cX11_comfort 0 = .ok (.aload_n 0, 1) := by decide +kernel
theorem dX11_comfort_1 : decode cX11_comfort 1 = .ok (.iload_n 1, 1) := by decide +kernel
theorem dX11_comfort_2 : decode cX11_comfort 2 = .ok (.iconst 2, 1) := by decide +kernel
theorem dX11_comfort_3 : decode cX11_comfort 3 = .ok (.invokevirtual 70, 3) := by decide +kernel
theorem dX11_comfort_6 : decode cX11_comfort 6 = .ok (.iconst 3, 1) := by decide +kernel
theorem dX11_comfort_7 : decode cX11_comfort 7 = .ok (.aload_n 0, 1) := by decide +kernel
theorem dX11_comfort_8 : decode cX11_comfort 8 = .ok (.iload_n 1, 1) := by decide +kernel
theorem dX11_comfort_9 : decode cX11_comfort 9 = .ok (.iconst 4, 1) := by decide +kernel
theorem dX11_comfort_10 : decode cX11_comfort 10 = .ok (.invokevirtual 70, 3) := by decide +kernel
theorem dX11_comfort_13 : decode cX11_comfort 13 = .ok (.imul, 1) := by decide +kernel
theorem dX11_comfort_14 : decode cX11_comfort 14 = .ok (.iadd, 1) := by decide +kernel
theorem dX11_comfort_15 : decode cX11_comfort 15 = .ok (.ireturn, 1) := by decide +kernel
theorem dX11_hasFallen_0 : decode cX11_hasFallen 0 = .ok (.aload_n 0, 1) := by decide +kernel
theorem dX11_hasFallen_1 : decode cX11_hasFallen 1 = .ok (.iload_n 1, 1) := by decide +kernel
theorem dX11_hasFallen_2 : decode cX11_hasFallen 2 = .ok (.iconst 3, 1) := by decide +kernel
theorem dX11_hasFallen_3 : decode cX11_hasFallen 3 = .ok (.invokevirtual 70, 3) := by decide +kernel
theorem dX11_hasFallen_6 : decode cX11_hasFallen 6 = .ok (.ifCond .ne 7, 3) := by decide +kernel
theorem dX11_hasFallen_9 : decode cX11_hasFallen 9 = .ok (.iconst 1, 1) := by decide +kernel
theorem dX11_hasFallen_10 : decode cX11_hasFallen 10 = .ok (.goto 4, 3) := by decide +kernel
theorem dX11_hasFallen_13 : decode cX11_hasFallen 13 = .ok (.iconst 0, 1) := by decide +kernel
theorem dX11_hasFallen_14 : decode cX11_hasFallen 14 = .ok (.ireturn, 1) := by decide +kernel
theorem dX11_fitOf_0 : decode cX11_fitOf 0 = .ok (.aload_n 0, 1) := by decide +kernel
theorem dX11_fitOf_1 : decode cX11_fitOf 1 = .ok (.iload_n 1, 1) := by decide +kernel
theorem dX11_fitOf_2 : decode cX11_fitOf 2 = .ok (.iconst 1, 1) := by decide +kernel
theorem dX11_fitOf_3 : decode cX11_fitOf 3 = .ok (.invokevirtual 70, 3) := by decide +kernel
theorem dX11_fitOf_6 : decode cX11_fitOf 6 = .ok (.aload_n 0, 1) := by decide +kernel
theorem dX11_fitOf_7 : decode cX11_fitOf 7 = .ok (.iload_n 2, 1) := by decide +kernel
theorem dX11_fitOf_8 : decode cX11_fitOf 8 = .ok (.iconst 1, 1) := by decide +kernel
theorem dX11_fitOf_9 : decode cX11_fitOf 9 = .ok (.invokevirtual 74, 3) := by decide +kernel
theorem dX11_fitOf_12 : decode cX11_fitOf 12 = .ok (.isub, 1) := by decide +kernel
theorem dX11_fitOf_13 : decode cX11_fitOf 13 = .ok (.istore_n 3, 1) := by decide +kernel
theorem dX11_fitOf_14 : decode cX11_fitOf 14 = .ok (.aload_n 0, 1) := by decide +kernel
theorem dX11_fitOf_15 : decode cX11_fitOf 15 = .ok (.iload_n 1, 1) := by decide +kernel
theorem dX11_fitOf_16 : decode cX11_fitOf 16 = .ok (.iconst 0, 1) := by decide +kernel
theorem dX11_fitOf_17 : decode cX11_fitOf 17 = .ok (.invokevirtual 70, 3) := by decide +kernel
theorem dX11_fitOf_20 : decode cX11_fitOf 20 = .ok (.aload_n 0, 1) := by decide +kernel
theorem dX11_fitOf_21 : decode cX11_fitOf 21 = .ok (.iload_n 2, 1) := by decide +kernel
theorem dX11_fitOf_22 : decode cX11_fitOf 22 = .ok (.iconst 0, 1) := by decide +kernel
theorem dX11_fitOf_23 : decode cX11_fitOf 23 = .ok (.invokevirtual 74, 3) := by decide +kernel
theorem dX11_fitOf_26 : decode cX11_fitOf 26 = .ok (.if_icmp .ne 7, 3) := by decide +kernel
theorem dX11_fitOf_29 : decode cX11_fitOf 29 = .ok (.iconst 4, 1) := by decide +kernel
theorem dX11_fitOf_30 : decode cX11_fitOf 30 = .ok (.goto 4, 3) := by decide +kernel
theorem dX11_fitOf_33 : decode cX11_fitOf 33 = .ok (.iconst 0, 1) := by decide +kernel
theorem dX11_fitOf_34 : decode cX11_fitOf 34 = .ok (.istore 4, 2) := by decide +kernel
theorem dX11_fitOf_36 : decode cX11_fitOf 36 = .ok (.bipush 9, 2) := by decide +kernel
theorem dX11_fitOf_38 : decode cX11_fitOf 38 = .ok (.iload_n 3, 1) := by decide +kernel
theorem dX11_fitOf_39 : decode cX11_fitOf 39 = .ok (.ifCond .ge 8, 3) := by decide +kernel
theorem dX11_fitOf_42 : decode cX11_fitOf 42 = .ok (.iload_n 3, 1) := by decide +kernel
theorem dX11_fitOf_43 : decode cX11_fitOf 43 = .ok (.ineg, 1) := by decide +kernel
theorem dX11_fitOf_44 : decode cX11_fitOf 44 = .ok (.goto 4, 3) := by decide +kernel
theorem dX11_fitOf_47 : decode cX11_fitOf 47 = .ok (.iload_n 3, 1) := by decide +kernel
theorem dX11_fitOf_48 : decode cX11_fitOf 48 = .ok (.isub, 1) := by decide +kernel
theorem dX11_fitOf_49 : decode cX11_fitOf 49 = .ok (.iload 4, 2) := by decide +kernel
theorem dX11_fitOf_51 : decode cX11_fitOf 51 = .ok (.iadd, 1) := by decide +kernel
theorem dX11_fitOf_52 : decode cX11_fitOf 52 = .ok (.ireturn, 1) := by decide +kernel
theorem dX11_wants_0 : decode cX11_wants 0 = .ok (.aload_n 0, 1) := by decide +kernel
theorem dX11_wants_1 : decode cX11_wants 1 = .ok (.iload_n 1, 1) := by decide +kernel
theorem dX11_wants_2 : decode cX11_wants 2 = .ok (.iload_n 2, 1) := by decide +kernel
theorem dX11_wants_3 : decode cX11_wants 3 = .ok (.invokevirtual 77, 3) := by decide +kernel
theorem dX11_wants_6 : decode cX11_wants 6 = .ok (.bipush 6, 2) := by decide +kernel
theorem dX11_wants_8 : decode cX11_wants 8 = .ok (.if_icmp .lt 7, 3) := by decide +kernel
theorem dX11_wants_11 : decode cX11_wants 11 = .ok (.iconst 1, 1) := by decide +kernel
theorem dX11_wants_12 : decode cX11_wants 12 = .ok (.goto 4, 3) := by decide +kernel
theorem dX11_wants_15 : decode cX11_wants 15 = .ok (.iconst 0, 1) := by decide +kernel
theorem dX11_wants_16 : decode cX11_wants 16 = .ok (.ireturn, 1) := by decide +kernel
theorem dX11_bears_0 : decode cX11_bears 0 = .ok (.aload_n 0, 1) := by decide +kernel
theorem dX11_bears_1 : decode cX11_bears 1 = .ok (.iload_n 2, 1) := by decide +kernel
theorem dX11_bears_2 : decode cX11_bears 2 = .ok (.invokevirtual 80, 3) := by decide +kernel
theorem dX11_bears_5 : decode cX11_bears 5 = .ok (.ifCond .ne 21, 3) := by decide +kernel
theorem dX11_bears_8 : decode cX11_bears 8 = .ok (.aload_n 0, 1) := by decide +kernel
theorem dX11_bears_9 : decode cX11_bears 9 = .ok (.iload_n 2, 1) := by decide +kernel
theorem dX11_bears_10 : decode cX11_bears 10 = .ok (.invokevirtual 84, 3) := by decide +kernel
theorem dX11_bears_13 : decode cX11_bears 13 = .ok (.aload_n 0, 1) := by decide +kernel
theorem dX11_bears_14 : decode cX11_bears 14 = .ok (.iload_n 1, 1) := by decide +kernel
theorem dX11_bears_15 : decode cX11_bears 15 = .ok (.iconst 2, 1) := by decide +kernel
theorem dX11_bears_16 : decode cX11_bears 16 = .ok (.invokevirtual 74, 3) := by decide +kernel
theorem dX11_bears_19 : decode cX11_bears 19 = .ok (.if_icmp .lt 7, 3) := by decide +kernel
theorem dX11_bears_22 : decode cX11_bears 22 = .ok (.iconst 1, 1) := by decide +kernel
theorem dX11_bears_23 : decode cX11_bears 23 = .ok (.goto 4, 3) := by decide +kernel
theorem dX11_bears_26 : decode cX11_bears 26 = .ok (.iconst 0, 1) := by decide +kernel
theorem dX11_bears_27 : decode cX11_bears 27 = .ok (.ireturn, 1) := by decide +kernel
theorem dX11_isRatherHad_0 : decode cX11_isRatherHad 0 = .ok (.iload_n 3, 1) := by decide +kernel
theorem dX11_isRatherHad_1 : decode cX11_isRatherHad 1 = .ok (.ifCond .ge 5, 3) := by decide +kernel
theorem dX11_isRatherHad_4 : decode cX11_isRatherHad 4 = .ok (.iconst 1, 1) := by decide +kernel
theorem dX11_isRatherHad_5 : decode cX11_isRatherHad 5 = .ok (.ireturn, 1) := by decide +kernel
theorem dX11_isRatherHad_6 : decode cX11_isRatherHad 6 = .ok (.aload_n 0, 1) := by decide +kernel
theorem dX11_isRatherHad_7 : decode cX11_isRatherHad 7 = .ok (.iload_n 1, 1) := by decide +kernel
theorem dX11_isRatherHad_8 : decode cX11_isRatherHad 8 = .ok (.iload_n 2, 1) := by decide +kernel
theorem dX11_isRatherHad_9 : decode cX11_isRatherHad 9 = .ok (.invokevirtual 77, 3) := by decide +kernel
theorem dX11_isRatherHad_12 : decode cX11_isRatherHad 12 = .ok (.aload_n 0, 1) := by decide +kernel
theorem dX11_isRatherHad_13 : decode cX11_isRatherHad 13 = .ok (.iload_n 1, 1) := by decide +kernel
theorem dX11_isRatherHad_14 : decode cX11_isRatherHad 14 = .ok (.iload_n 3, 1) := by decide +kernel
theorem dX11_isRatherHad_15 : decode cX11_isRatherHad 15 = .ok (.invokevirtual 77, 3) := by decide +kernel
theorem dX11_isRatherHad_18 : decode cX11_isRatherHad 18 = .ok (.isub, 1) := by decide +kernel
theorem dX11_isRatherHad_19 : decode cX11_isRatherHad 19 = .ok (.istore 4, 2) := by decide +kernel
theorem dX11_isRatherHad_21 : decode cX11_isRatherHad 21 = .ok (.iload 4, 2) := by decide +kernel
theorem dX11_isRatherHad_23 : decode cX11_isRatherHad 23 = .ok (.ifCond .eq 16, 3) := by decide +kernel
theorem dX11_isRatherHad_26 : decode cX11_isRatherHad 26 = .ok (.iload 4, 2) := by decide +kernel
theorem dX11_isRatherHad_28 : decode cX11_isRatherHad 28 = .ok (.ifCond .le 7, 3) := by decide +kernel
theorem dX11_isRatherHad_31 : decode cX11_isRatherHad 31 = .ok (.iconst 1, 1) := by decide +kernel
theorem dX11_isRatherHad_32 : decode cX11_isRatherHad 32 = .ok (.goto 17, 3) := by decide +kernel
theorem dX11_isRatherHad_35 : decode cX11_isRatherHad 35 = .ok (.iconst 0, 1) := by decide +kernel
theorem dX11_isRatherHad_36 : decode cX11_isRatherHad 36 = .ok (.goto 13, 3) := by decide +kernel
theorem dX11_isRatherHad_39 : decode cX11_isRatherHad 39 = .ok (.iload_n 2, 1) := by decide +kernel
theorem dX11_isRatherHad_40 : decode cX11_isRatherHad 40 = .ok (.iload_n 3, 1) := by decide +kernel
theorem dX11_isRatherHad_41 : decode cX11_isRatherHad 41 = .ok (.if_icmp .ge 7, 3) := by decide +kernel
theorem dX11_isRatherHad_44 : decode cX11_isRatherHad 44 = .ok (.iconst 1, 1) := by decide +kernel
theorem dX11_isRatherHad_45 : decode cX11_isRatherHad 45 = .ok (.goto 4, 3) := by decide +kernel
theorem dX11_isRatherHad_48 : decode cX11_isRatherHad 48 = .ok (.iconst 0, 1) := by decide +kernel
theorem dX11_isRatherHad_49 : decode cX11_isRatherHad 49 = .ok (.ireturn, 1) := by decide +kernel
theorem dX11_isRatherSatOn_0 : decode cX11_isRatherSatOn 0 = .ok (.iload_n 2, 1) := by decide +kernel
theorem dX11_isRatherSatOn_1 : decode cX11_isRatherSatOn 1 = .ok (.ifCond .ge 5, 3) := by decide +kernel
theorem dX11_isRatherSatOn_4 : decode cX11_isRatherSatOn 4 = .ok (.iconst 1, 1) := by decide +kernel
theorem dX11_isRatherSatOn_5 : decode cX11_isRatherSatOn 5 = .ok (.ireturn, 1) := by decide +kernel
theorem dX11_isRatherSatOn_6 : decode cX11_isRatherSatOn 6 = .ok (.aload_n 0, 1) := by decide +kernel
theorem dX11_isRatherSatOn_7 : decode cX11_isRatherSatOn 7 = .ok (.iload_n 1, 1) := by decide +kernel
theorem dX11_isRatherSatOn_8 : decode cX11_isRatherSatOn 8 = .ok (.invokevirtual 84, 3) := by decide +kernel
theorem dX11_isRatherSatOn_11 : decode cX11_isRatherSatOn 11 = .ok (.aload_n 0, 1) := by decide +kernel
theorem dX11_isRatherSatOn_12 : decode cX11_isRatherSatOn 12 = .ok (.iload_n 2, 1) := by decide +kernel
theorem dX11_isRatherSatOn_13 : decode cX11_isRatherSatOn 13 = .ok (.invokevirtual 84, 3) := by decide +kernel
theorem dX11_isRatherSatOn_16 : decode cX11_isRatherSatOn 16 = .ok (.isub, 1) := by decide +kernel
theorem dX11_isRatherSatOn_17 : decode cX11_isRatherSatOn 17 = .ok (.istore_n 3, 1) := by decide +kernel
theorem dX11_isRatherSatOn_18 : decode cX11_isRatherSatOn 18 = .ok (.iload_n 3, 1) := by decide +kernel
theorem dX11_isRatherSatOn_19 : decode cX11_isRatherSatOn 19 = .ok (.ifCond .eq 15, 3) := by decide +kernel
theorem dX11_isRatherSatOn_22 : decode cX11_isRatherSatOn 22 = .ok (.iload_n 3, 1) := by decide +kernel
theorem dX11_isRatherSatOn_23 : decode cX11_isRatherSatOn 23 = .ok (.ifCond .le 7, 3) := by decide +kernel
theorem dX11_isRatherSatOn_26 : decode cX11_isRatherSatOn 26 = .ok (.iconst 1, 1) := by decide +kernel
theorem dX11_isRatherSatOn_27 : decode cX11_isRatherSatOn 27 = .ok (.goto 17, 3) := by decide +kernel
theorem dX11_isRatherSatOn_30 : decode cX11_isRatherSatOn 30 = .ok (.iconst 0, 1) := by decide +kernel
theorem dX11_isRatherSatOn_31 : decode cX11_isRatherSatOn 31 = .ok (.goto 13, 3) := by decide +kernel
theorem dX11_isRatherSatOn_34 : decode cX11_isRatherSatOn 34 = .ok (.iload_n 1, 1) := by decide +kernel
theorem dX11_isRatherSatOn_35 : decode cX11_isRatherSatOn 35 = .ok (.iload_n 2, 1) := by decide +kernel
theorem dX11_isRatherSatOn_36 : decode cX11_isRatherSatOn 36 = .ok (.if_icmp .ge 7, 3) := by decide +kernel
theorem dX11_isRatherSatOn_39 : decode cX11_isRatherSatOn 39 = .ok (.iconst 1, 1) := by decide +kernel
theorem dX11_isRatherSatOn_40 : decode cX11_isRatherSatOn 40 = .ok (.goto 4, 3) := by decide +kernel
theorem dX11_isRatherSatOn_43 : decode cX11_isRatherSatOn 43 = .ok (.iconst 0, 1) := by decide +kernel
theorem dX11_isRatherSatOn_44 : decode cX11_isRatherSatOn 44 = .ok (.ireturn, 1) := by decide +kernel
theorem dX11_sit_0 : decode cX11_sit 0 = .ok (.aload_n 0, 1) := by decide +kernel
theorem dX11_sit_1 : decode cX11_sit 1 = .ok (.iload_n 1, 1) := by decide +kernel
theorem dX11_sit_2 : decode cX11_sit 2 = .ok (.iconst 5, 1) := by decide +kernel
theorem dX11_sit_3 : decode cX11_sit 3 = .ok (.iload_n 2, 1) := by decide +kernel
theorem dX11_sit_4 : decode cX11_sit 4 = .ok (.invokevirtual 88, 3) := by decide +kernel
theorem dX11_sit_7 : decode cX11_sit 7 = .ok (.aload_n 0, 1) := by decide +kernel
theorem dX11_sit_8 : decode cX11_sit 8 = .ok (.iload_n 2, 1) := by decide +kernel
theorem dX11_sit_9 : decode cX11_sit 9 = .ok (.bipush 6, 2) := by decide +kernel
theorem dX11_sit_11 : decode cX11_sit 11 = .ok (.iload_n 1, 1) := by decide +kernel
theorem dX11_sit_12 : decode cX11_sit 12 = .ok (.invokevirtual 92, 3) := by decide +kernel
theorem dX11_sit_15 : decode cX11_sit 15 = .ok (.return_, 1) := by decide +kernel
theorem dX11_standUp_0 : decode cX11_standUp 0 = .ok (.aload_n 0, 1) := by decide +kernel
theorem dX11_standUp_1 : decode cX11_standUp 1 = .ok (.iload_n 1, 1) := by decide +kernel
theorem dX11_standUp_2 : decode cX11_standUp 2 = .ok (.iconst 5, 1) := by decide +kernel
theorem dX11_standUp_3 : decode cX11_standUp 3 = .ok (.invokevirtual 74, 3) := by decide +kernel
theorem dX11_standUp_6 : decode cX11_standUp 6 = .ok (.ifCond .lt 16, 3) := by decide +kernel
theorem dX11_standUp_9 : decode cX11_standUp 9 = .ok (.aload_n 0, 1) := by decide +kernel
theorem dX11_standUp_10 : decode cX11_standUp 10 = .ok (.aload_n 0, 1) := by decide +kernel
theorem dX11_standUp_11 : decode cX11_standUp 11 = .ok (.iload_n 1, 1) := by decide +kernel
theorem dX11_standUp_12 : decode cX11_standUp 12 = .ok (.iconst 5, 1) := by decide +kernel
theorem dX11_standUp_13 : decode cX11_standUp 13 = .ok (.invokevirtual 74, 3) := by decide +kernel
theorem dX11_standUp_16 : decode cX11_standUp 16 = .ok (.bipush 6, 2) := by decide +kernel
theorem dX11_standUp_18 : decode cX11_standUp 18 = .ok (.iconst (-1), 1) := by decide +kernel
theorem dX11_standUp_19 : decode cX11_standUp 19 = .ok (.invokevirtual 92, 3) := by decide +kernel
theorem dX11_standUp_22 : decode cX11_standUp 22 = .ok (.aload_n 0, 1) := by decide +kernel
theorem dX11_standUp_23 : decode cX11_standUp 23 = .ok (.iload_n 1, 1) := by decide +kernel
theorem dX11_standUp_24 : decode cX11_standUp 24 = .ok (.iconst 5, 1) := by decide +kernel
theorem dX11_standUp_25 : decode cX11_standUp 25 = .ok (.iconst (-1), 1) := by decide +kernel
theorem dX11_standUp_26 : decode cX11_standUp 26 = .ok (.invokevirtual 88, 3) := by decide +kernel
theorem dX11_standUp_29 : decode cX11_standUp 29 = .ok (.aload_n 0, 1) := by decide +kernel
theorem dX11_standUp_30 : decode cX11_standUp 30 = .ok (.iload_n 1, 1) := by decide +kernel
theorem dX11_standUp_31 : decode cX11_standUp 31 = .ok (.iconst 4, 1) := by decide +kernel
theorem dX11_standUp_32 : decode cX11_standUp 32 = .ok (.iconst 0, 1) := by decide +kernel
theorem dX11_standUp_33 : decode cX11_standUp 33 = .ok (.invokevirtual 88, 3) := by decide +kernel
theorem dX11_standUp_36 : decode cX11_standUp 36 = .ok (.return_, 1) := by decide +kernel
theorem dX11_sitting_0 : decode cX11_sitting 0 = .ok (.iconst 0, 1) := by decide +kernel
theorem dX11_sitting_1 : decode cX11_sitting 1 = .ok (.istore_n 1, 1) := by decide +kernel
theorem dX11_sitting_2 : decode cX11_sitting 2 = .ok (.iconst 0, 1) := by decide +kernel
theorem dX11_sitting_3 : decode cX11_sitting 3 = .ok (.istore_n 2, 1) := by decide +kernel
theorem dX11_sitting_4 : decode cX11_sitting 4 = .ok (.iload_n 2, 1) := by decide +kernel
theorem dX11_sitting_5 : decode cX11_sitting 5 = .ok (.aload_n 0, 1) := by decide +kernel
theorem dX11_sitting_6 : decode cX11_sitting 6 = .ok (.getfield 9, 3) := by decide +kernel
theorem dX11_sitting_9 : decode cX11_sitting 9 = .ok (.bipush 8, 2) := by decide +kernel
theorem dX11_sitting_11 : decode cX11_sitting 11 = .ok (.iaload, 1) := by decide +kernel
theorem dX11_sitting_12 : decode cX11_sitting 12 = .ok (.if_icmp .ge 26, 3) := by decide +kernel
theorem dX11_sitting_15 : decode cX11_sitting 15 = .ok (.iload_n 1, 1) := by decide +kernel
theorem dX11_sitting_16 : decode cX11_sitting 16 = .ok (.aload_n 0, 1) := by decide +kernel
theorem dX11_sitting_17 : decode cX11_sitting 17 = .ok (.iload_n 2, 1) := by decide +kernel
theorem dX11_sitting_18 : decode cX11_sitting 18 = .ok (.iconst 5, 1) := by decide +kernel
theorem dX11_sitting_19 : decode cX11_sitting 19 = .ok (.invokevirtual 74, 3) := by decide +kernel
theorem dX11_sitting_22 : decode cX11_sitting 22 = .ok (.ifCond .lt 7, 3) := by decide +kernel
theorem dX11_sitting_25 : decode cX11_sitting 25 = .ok (.iconst 1, 1) := by decide +kernel
theorem dX11_sitting_26 : decode cX11_sitting 26 = .ok (.goto 4, 3) := by decide +kernel
theorem dX11_sitting_29 : decode cX11_sitting 29 = .ok (.iconst 0, 1) := by decide +kernel
theorem dX11_sitting_30 : decode cX11_sitting 30 = .ok (.iadd, 1) := by decide +kernel
theorem dX11_sitting_31 : decode cX11_sitting 31 = .ok (.istore_n 1, 1) := by decide +kernel
theorem dX11_sitting_32 : decode cX11_sitting 32 = .ok (.iinc 2 1, 3) := by decide +kernel
theorem dX11_sitting_35 : decode cX11_sitting 35 = .ok (.goto (-31), 3) := by decide +kernel
theorem dX11_sitting_38 : decode cX11_sitting 38 = .ok (.iload_n 1, 1) := by decide +kernel
theorem dX11_sitting_39 : decode cX11_sitting 39 = .ok (.ireturn, 1) := by decide +kernel
theorem dX11_fallen_0 : decode cX11_fallen 0 = .ok (.iconst 0, 1) := by decide +kernel
theorem dX11_fallen_1 : decode cX11_fallen 1 = .ok (.istore_n 1, 1) := by decide +kernel
theorem dX11_fallen_2 : decode cX11_fallen 2 = .ok (.iconst 0, 1) := by decide +kernel
theorem dX11_fallen_3 : decode cX11_fallen 3 = .ok (.istore_n 2, 1) := by decide +kernel
theorem dX11_fallen_4 : decode cX11_fallen 4 = .ok (.iload_n 2, 1) := by decide +kernel
theorem dX11_fallen_5 : decode cX11_fallen 5 = .ok (.aload_n 0, 1) := by decide +kernel
theorem dX11_fallen_6 : decode cX11_fallen 6 = .ok (.getfield 9, 3) := by decide +kernel
theorem dX11_fallen_9 : decode cX11_fallen 9 = .ok (.bipush 7, 2) := by decide +kernel
theorem dX11_fallen_11 : decode cX11_fallen 11 = .ok (.iaload, 1) := by decide +kernel
theorem dX11_fallen_12 : decode cX11_fallen 12 = .ok (.if_icmp .ge 25, 3) := by decide +kernel
theorem dX11_fallen_15 : decode cX11_fallen 15 = .ok (.iload_n 1, 1) := by decide +kernel
theorem dX11_fallen_16 : decode cX11_fallen 16 = .ok (.aload_n 0, 1) := by decide +kernel
theorem dX11_fallen_17 : decode cX11_fallen 17 = .ok (.iload_n 2, 1) := by decide +kernel
theorem dX11_fallen_18 : decode cX11_fallen 18 = .ok (.invokevirtual 80, 3) := by decide +kernel
theorem dX11_fallen_21 : decode cX11_fallen 21 = .ok (.ifCond .eq 7, 3) := by decide +kernel
theorem dX11_fallen_24 : decode cX11_fallen 24 = .ok (.iconst 1, 1) := by decide +kernel
theorem dX11_fallen_25 : decode cX11_fallen 25 = .ok (.goto 4, 3) := by decide +kernel
theorem dX11_fallen_28 : decode cX11_fallen 28 = .ok (.iconst 0, 1) := by decide +kernel
theorem dX11_fallen_29 : decode cX11_fallen 29 = .ok (.iadd, 1) := by decide +kernel
theorem dX11_fallen_30 : decode cX11_fallen 30 = .ok (.istore_n 1, 1) := by decide +kernel
theorem dX11_fallen_31 : decode cX11_fallen 31 = .ok (.iinc 2 1, 3) := by decide +kernel
theorem dX11_fallen_34 : decode cX11_fallen 34 = .ok (.goto (-30), 3) := by decide +kernel
theorem dX11_fallen_37 : decode cX11_fallen 37 = .ok (.iload_n 1, 1) := by decide +kernel
theorem dX11_fallen_38 : decode cX11_fallen 38 = .ok (.ireturn, 1) := by decide +kernel
theorem dX11_chair_0 : decode cX11_chair 0 = .ok (.iload_n 1, 1) := by decide +kernel
theorem dX11_chair_1 : decode cX11_chair 1 = .ok (.iconst 0, 1) := by decide +kernel
theorem dX11_chair_2 : decode cX11_chair 2 = .ok (.iconst 3, 1) := by decide +kernel
theorem dX11_chair_3 : decode cX11_chair 3 = .ok (.invokestatic 66, 3) := by decide +kernel
theorem dX11_chair_6 : decode cX11_chair 6 = .ok (.ifCond .eq 13, 3) := by decide +kernel
theorem dX11_chair_9 : decode cX11_chair 9 = .ok (.iload_n 2, 1) := by decide +kernel
theorem dX11_chair_10 : decode cX11_chair 10 = .ok (.iconst 1, 1) := by decide +kernel
theorem dX11_chair_11 : decode cX11_chair 11 = .ok (.bipush 9, 2) := by decide +kernel
theorem dX11_chair_13 : decode cX11_chair 13 = .ok (.invokestatic 66, 3) := by decide +kernel
theorem dX11_chair_16 : decode cX11_chair 16 = .ok (.ifCond .ne 7, 3) := by decide +kernel
theorem dX11_chair_19 : decode cX11_chair 19 = .ok (.sipush (-1012), 3) := by decide +kernel
theorem dX11_chair_22 : decode cX11_chair 22 = .ok (.ireturn, 1) := by decide +kernel
theorem dX11_chair_23 : decode cX11_chair 23 = .ok (.aload_n 0, 1) := by decide +kernel
theorem dX11_chair_24 : decode cX11_chair 24 = .ok (.aload_n 0, 1) := by decide +kernel
theorem dX11_chair_25 : decode cX11_chair 25 = .ok (.getfield 9, 3) := by decide +kernel
theorem dX11_chair_28 : decode cX11_chair 28 = .ok (.bipush 7, 2) := by decide +kernel
theorem dX11_chair_30 : decode cX11_chair 30 = .ok (.iaload, 1) := by decide +kernel
theorem dX11_chair_31 : decode cX11_chair 31 = .ok (.bipush 10, 2) := by decide +kernel
theorem dX11_chair_33 : decode cX11_chair 33 = .ok (.if_icmp .ne 7, 3) := by decide +kernel
theorem dX11_chair_36 : decode cX11_chair 36 = .ok (.iconst 1, 1) := by decide +kernel
theorem dX11_chair_37 : decode cX11_chair 37 = .ok (.goto 4, 3) := by decide +kernel
theorem dX11_chair_40 : decode cX11_chair 40 = .ok (.iconst 0, 1) := by decide +kernel
theorem dX11_chair_41 : decode cX11_chair 41 = .ok (.iconst 1, 1) := by decide +kernel
theorem dX11_chair_42 : decode cX11_chair 42 = .ok (.bipush 10, 2) := by decide +kernel
theorem dX11_chair_44 : decode cX11_chair 44 = .ok (.invokevirtual 47, 3) := by decide +kernel
theorem dX11_chair_47 : decode cX11_chair 47 = .ok (.ifCond .eq 7, 3) := by decide +kernel
theorem dX11_chair_50 : decode cX11_chair 50 = .ok (.sipush (-1014), 3) := by decide +kernel
theorem dX11_chair_53 : decode cX11_chair 53 = .ok (.ireturn, 1) := by decide +kernel
theorem dX11_chair_54 : decode cX11_chair 54 = .ok (.aload_n 0, 1) := by decide +kernel
theorem dX11_chair_55 : decode cX11_chair 55 = .ok (.invokevirtual 95, 3) := by decide +kernel
theorem dX11_chair_58 : decode cX11_chair 58 = .ok (.aload_n 0, 1) := by decide +kernel
theorem dX11_chair_59 : decode cX11_chair 59 = .ok (.getfield 9, 3) := by decide +kernel
theorem dX11_chair_62 : decode cX11_chair 62 = .ok (.bipush 7, 2) := by decide +kernel
theorem dX11_chair_64 : decode cX11_chair 64 = .ok (.iaload, 1) := by decide +kernel
theorem dX11_chair_65 : decode cX11_chair 65 = .ok (.istore_n 3, 1) := by decide +kernel
theorem dX11_chair_66 : decode cX11_chair 66 = .ok (.aload_n 0, 1) := by decide +kernel
theorem dX11_chair_67 : decode cX11_chair 67 = .ok (.getfield 9, 3) := by decide +kernel
theorem dX11_chair_70 : decode cX11_chair 70 = .ok (.bipush 7, 2) := by decide +kernel
theorem dX11_chair_72 : decode cX11_chair 72 = .ok (.dup2, 1) := by decide +kernel
theorem dX11_chair_73 : decode cX11_chair 73 = .ok (.iaload, 1) := by decide +kernel
theorem dX11_chair_74 : decode cX11_chair 74 = .ok (.iconst 1, 1) := by decide +kernel
theorem dX11_chair_75 : decode cX11_chair 75 = .ok (.iadd, 1) := by decide +kernel
theorem dX11_chair_76 : decode cX11_chair 76 = .ok (.iastore, 1) := by decide +kernel
theorem dX11_chair_77 : decode cX11_chair 77 = .ok (.aload_n 0, 1) := by decide +kernel
theorem dX11_chair_78 : decode cX11_chair 78 = .ok (.iload_n 3, 1) := by decide +kernel
theorem dX11_chair_79 : decode cX11_chair 79 = .ok (.iconst 0, 1) := by decide +kernel
theorem dX11_chair_80 : decode cX11_chair 80 = .ok (.iload_n 1, 1) := by decide +kernel
theorem dX11_chair_81 : decode cX11_chair 81 = .ok (.invokevirtual 92, 3) := by decide +kernel
theorem dX11_chair_84 : decode cX11_chair 84 = .ok (.aload_n 0, 1) := by decide +kernel
theorem dX11_chair_85 : decode cX11_chair 85 = .ok (.iload_n 3, 1) := by decide +kernel
theorem dX11_chair_86 : decode cX11_chair 86 = .ok (.iconst 1, 1) := by decide +kernel
theorem dX11_chair_87 : decode cX11_chair 87 = .ok (.iload_n 2, 1) := by decide +kernel
theorem dX11_chair_88 : decode cX11_chair 88 = .ok (.invokevirtual 92, 3) := by decide +kernel
theorem dX11_chair_91 : decode cX11_chair 91 = .ok (.aload_n 0, 1) := by decide +kernel
theorem dX11_chair_92 : decode cX11_chair 92 = .ok (.iload_n 3, 1) := by decide +kernel
theorem dX11_chair_93 : decode cX11_chair 93 = .ok (.iconst 2, 1) := by decide +kernel
theorem dX11_chair_94 : decode cX11_chair 94 = .ok (.iconst 0, 1) := by decide +kernel
theorem dX11_chair_95 : decode cX11_chair 95 = .ok (.invokevirtual 92, 3) := by decide +kernel
theorem dX11_chair_98 : decode cX11_chair 98 = .ok (.aload_n 0, 1) := by decide +kernel
theorem dX11_chair_99 : decode cX11_chair 99 = .ok (.iload_n 3, 1) := by decide +kernel
theorem dX11_chair_100 : decode cX11_chair 100 = .ok (.iconst 3, 1) := by decide +kernel
theorem dX11_chair_101 : decode cX11_chair 101 = .ok (.iconst 3, 1) := by decide +kernel
theorem dX11_chair_102 : decode cX11_chair 102 = .ok (.invokevirtual 92, 3) := by decide +kernel
theorem dX11_chair_105 : decode cX11_chair 105 = .ok (.aload_n 0, 1) := by decide +kernel
theorem dX11_chair_106 : decode cX11_chair 106 = .ok (.iload_n 3, 1) := by decide +kernel
theorem dX11_chair_107 : decode cX11_chair 107 = .ok (.iconst 4, 1) := by decide +kernel
theorem dX11_chair_108 : decode cX11_chair 108 = .ok (.iconst 0, 1) := by decide +kernel
theorem dX11_chair_109 : decode cX11_chair 109 = .ok (.invokevirtual 92, 3) := by decide +kernel
theorem dX11_chair_112 : decode cX11_chair 112 = .ok (.aload_n 0, 1) := by decide +kernel
theorem dX11_chair_113 : decode cX11_chair 113 = .ok (.iload_n 3, 1) := by decide +kernel
theorem dX11_chair_114 : decode cX11_chair 114 = .ok (.iconst 5, 1) := by decide +kernel
theorem dX11_chair_115 : decode cX11_chair 115 = .ok (.iconst 0, 1) := by decide +kernel
theorem dX11_chair_116 : decode cX11_chair 116 = .ok (.invokevirtual 92, 3) := by decide +kernel
theorem dX11_chair_119 : decode cX11_chair 119 = .ok (.aload_n 0, 1) := by decide +kernel
theorem dX11_chair_120 : decode cX11_chair 120 = .ok (.iload_n 3, 1) := by decide +kernel
theorem dX11_chair_121 : decode cX11_chair 121 = .ok (.bipush 6, 2) := by decide +kernel
theorem dX11_chair_123 : decode cX11_chair 123 = .ok (.iconst (-1), 1) := by decide +kernel
theorem dX11_chair_124 : decode cX11_chair 124 = .ok (.invokevirtual 92, 3) := by decide +kernel
theorem dX11_chair_127 : decode cX11_chair 127 = .ok (.iload_n 3, 1) := by decide +kernel
theorem dX11_chair_128 : decode cX11_chair 128 = .ok (.ireturn, 1) := by decide +kernel
theorem dX11_musician_0 : decode cX11_musician 0 = .ok (.iload_n 1, 1) := by decide +kernel
theorem dX11_musician_1 : decode cX11_musician 1 = .ok (.iconst 0, 1) := by decide +kernel
theorem dX11_musician_2 : decode cX11_musician 2 = .ok (.iconst 3, 1) := by decide +kernel
theorem dX11_musician_3 : decode cX11_musician 3 = .ok (.invokestatic 66, 3) := by decide +kernel
theorem dX11_musician_6 : decode cX11_musician 6 = .ok (.ifCond .eq 23, 3) := by decide +kernel
theorem dX11_musician_9 : decode cX11_musician 9 = .ok (.iload_n 2, 1) := by decide +kernel
theorem dX11_musician_10 : decode cX11_musician 10 = .ok (.iconst 1, 1) := by decide +kernel
theorem dX11_musician_11 : decode cX11_musician 11 = .ok (.bipush 9, 2) := by decide +kernel
theorem dX11_musician_13 : decode cX11_musician 13 = .ok (.invokestatic 66, 3) := by decide +kernel
theorem dX11_musician_16 : decode cX11_musician 16 = .ok (.ifCond .eq 13, 3) := by decide +kernel
theorem dX11_musician_19 : decode cX11_musician 19 = .ok (.iload_n 3, 1) := by decide +kernel
theorem dX11_musician_20 : decode cX11_musician 20 = .ok (.iconst 0, 1) := by decide +kernel
theorem dX11_musician_21 : decode cX11_musician 21 = .ok (.bipush 9, 2) := by decide +kernel
theorem dX11_musician_23 : decode cX11_musician 23 = .ok (.invokestatic 66, 3) := by decide +kernel
theorem dX11_musician_26 : decode cX11_musician 26 = .ok (.ifCond .ne 7, 3) := by decide +kernel
theorem dX11_musician_29 : decode cX11_musician 29 = .ok (.sipush (-1012), 3) := by decide +kernel
theorem dX11_musician_32 : decode cX11_musician 32 = .ok (.ireturn, 1) := by decide +kernel
theorem dX11_musician_33 : decode cX11_musician 33 = .ok (.aload_n 0, 1) := by decide +kernel
theorem dX11_musician_34 : decode cX11_musician 34 = .ok (.aload_n 0, 1) := by decide +kernel
theorem dX11_musician_35 : decode cX11_musician 35 = .ok (.getfield 9, 3) := by decide +kernel
theorem dX11_musician_38 : decode cX11_musician 38 = .ok (.bipush 8, 2) := by decide +kernel
theorem dX11_musician_40 : decode cX11_musician 40 = .ok (.iaload, 1) := by decide +kernel
theorem dX11_musician_41 : decode cX11_musician 41 = .ok (.bipush 10, 2) := by decide +kernel
theorem dX11_musician_43 : decode cX11_musician 43 = .ok (.if_icmp .ne 7, 3) := by decide +kernel
theorem dX11_musician_46 : decode cX11_musician 46 = .ok (.iconst 1, 1) := by decide +kernel
theorem dX11_musician_47 : decode cX11_musician 47 = .ok (.goto 4, 3) := by decide +kernel
theorem dX11_musician_50 : decode cX11_musician 50 = .ok (.iconst 0, 1) := by decide +kernel
theorem dX11_musician_51 : decode cX11_musician 51 = .ok (.iconst 1, 1) := by decide +kernel
theorem dX11_musician_52 : decode cX11_musician 52 = .ok (.bipush 10, 2) := by decide +kernel
theorem dX11_musician_54 : decode cX11_musician 54 = .ok (.invokevirtual 47, 3) := by decide +kernel
theorem dX11_musician_57 : decode cX11_musician 57 = .ok (.ifCond .eq 7, 3) := by decide +kernel
theorem dX11_musician_60 : decode cX11_musician 60 = .ok (.sipush (-1014), 3) := by decide +kernel
theorem dX11_musician_63 : decode cX11_musician 63 = .ok (.ireturn, 1) := by decide +kernel
theorem dX11_musician_64 : decode cX11_musician 64 = .ok (.aload_n 0, 1) := by decide +kernel
theorem dX11_musician_65 : decode cX11_musician 65 = .ok (.invokevirtual 95, 3) := by decide +kernel
theorem dX11_musician_68 : decode cX11_musician 68 = .ok (.aload_n 0, 1) := by decide +kernel
theorem dX11_musician_69 : decode cX11_musician 69 = .ok (.getfield 9, 3) := by decide +kernel
theorem dX11_musician_72 : decode cX11_musician 72 = .ok (.bipush 8, 2) := by decide +kernel
theorem dX11_musician_74 : decode cX11_musician 74 = .ok (.iaload, 1) := by decide +kernel
theorem dX11_musician_75 : decode cX11_musician 75 = .ok (.istore 4, 2) := by decide +kernel
theorem dX11_musician_77 : decode cX11_musician 77 = .ok (.aload_n 0, 1) := by decide +kernel
theorem dX11_musician_78 : decode cX11_musician 78 = .ok (.getfield 9, 3) := by decide +kernel
theorem dX11_musician_81 : decode cX11_musician 81 = .ok (.bipush 8, 2) := by decide +kernel
theorem dX11_musician_83 : decode cX11_musician 83 = .ok (.dup2, 1) := by decide +kernel
theorem dX11_musician_84 : decode cX11_musician 84 = .ok (.iaload, 1) := by decide +kernel
theorem dX11_musician_85 : decode cX11_musician 85 = .ok (.iconst 1, 1) := by decide +kernel
theorem dX11_musician_86 : decode cX11_musician 86 = .ok (.iadd, 1) := by decide +kernel
theorem dX11_musician_87 : decode cX11_musician 87 = .ok (.iastore, 1) := by decide +kernel
theorem dX11_musician_88 : decode cX11_musician 88 = .ok (.aload_n 0, 1) := by decide +kernel
theorem dX11_musician_89 : decode cX11_musician 89 = .ok (.iload 4, 2) := by decide +kernel
theorem dX11_musician_91 : decode cX11_musician 91 = .ok (.iconst 0, 1) := by decide +kernel
theorem dX11_musician_92 : decode cX11_musician 92 = .ok (.iload_n 1, 1) := by decide +kernel
theorem dX11_musician_93 : decode cX11_musician 93 = .ok (.invokevirtual 88, 3) := by decide +kernel
theorem dX11_musician_96 : decode cX11_musician 96 = .ok (.aload_n 0, 1) := by decide +kernel
theorem dX11_musician_97 : decode cX11_musician 97 = .ok (.iload 4, 2) := by decide +kernel
theorem dX11_musician_99 : decode cX11_musician 99 = .ok (.iconst 1, 1) := by decide +kernel
theorem dX11_musician_100 : decode cX11_musician 100 = .ok (.iload_n 2, 1) := by decide +kernel
theorem dX11_musician_101 : decode cX11_musician 101 = .ok (.invokevirtual 88, 3) := by decide +kernel
theorem dX11_musician_104 : decode cX11_musician 104 = .ok (.aload_n 0, 1) := by decide +kernel
theorem dX11_musician_105 : decode cX11_musician 105 = .ok (.iload 4, 2) := by decide +kernel
theorem dX11_musician_107 : decode cX11_musician 107 = .ok (.iconst 2, 1) := by decide +kernel
theorem dX11_musician_108 : decode cX11_musician 108 = .ok (.iload_n 3, 1) := by decide +kernel
theorem dX11_musician_109 : decode cX11_musician 109 = .ok (.invokevirtual 88, 3) := by decide +kernel
theorem dX11_musician_112 : decode cX11_musician 112 = .ok (.aload_n 0, 1) := by decide +kernel
theorem dX11_musician_113 : decode cX11_musician 113 = .ok (.iload 4, 2) := by decide +kernel
theorem dX11_musician_115 : decode cX11_musician 115 = .ok (.iconst 3, 1) := by decide +kernel
theorem dX11_musician_116 : decode cX11_musician 116 = .ok (.bipush 8, 2) := by decide +kernel
theorem dX11_musician_118 : decode cX11_musician 118 = .ok (.invokevirtual 88, 3) := by decide +kernel
theorem dX11_musician_121 : decode cX11_musician 121 = .ok (.aload_n 0, 1) := by decide +kernel
theorem dX11_musician_122 : decode cX11_musician 122 = .ok (.iload 4, 2) := by decide +kernel
theorem dX11_musician_124 : decode cX11_musician 124 = .ok (.iconst 4, 1) := by decide +kernel
theorem dX11_musician_125 : decode cX11_musician 125 = .ok (.iconst 0, 1) := by decide +kernel
theorem dX11_musician_126 : decode cX11_musician 126 = .ok (.invokevirtual 88, 3) := by decide +kernel
theorem dX11_musician_129 : decode cX11_musician 129 = .ok (.aload_n 0, 1) := by decide +kernel
theorem dX11_musician_130 : decode cX11_musician 130 = .ok (.iload 4, 2) := by decide +kernel
theorem dX11_musician_132 : decode cX11_musician 132 = .ok (.iconst 5, 1) := by decide +kernel
theorem dX11_musician_133 : decode cX11_musician 133 = .ok (.iconst (-1), 1) := by decide +kernel
theorem dX11_musician_134 : decode cX11_musician 134 = .ok (.invokevirtual 88, 3) := by decide +kernel
theorem dX11_musician_137 : decode cX11_musician 137 = .ok (.aload_n 0, 1) := by decide +kernel
theorem dX11_musician_138 : decode cX11_musician 138 = .ok (.iload 4, 2) := by decide +kernel
theorem dX11_musician_140 : decode cX11_musician 140 = .ok (.bipush 6, 2) := by decide +kernel
theorem dX11_musician_142 : decode cX11_musician 142 = .ok (.iconst 0, 1) := by decide +kernel
theorem dX11_musician_143 : decode cX11_musician 143 = .ok (.invokevirtual 88, 3) := by decide +kernel
theorem dX11_musician_146 : decode cX11_musician 146 = .ok (.iload 4, 2) := by decide +kernel
theorem dX11_musician_148 : decode cX11_musician 148 = .ok (.ireturn, 1) := by decide +kernel
theorem dX11_seat_0 : decode cX11_seat 0 = .ok (.aload_n 0, 1) := by decide +kernel
theorem dX11_seat_1 : decode cX11_seat 1 = .ok (.iload_n 1, 1) := by decide +kernel
theorem dX11_seat_2 : decode cX11_seat 2 = .ok (.invokevirtual 98, 3) := by decide +kernel
theorem dX11_seat_5 : decode cX11_seat 5 = .ok (.ifCond .eq 11, 3) := by decide +kernel
theorem dX11_seat_8 : decode cX11_seat 8 = .ok (.aload_n 0, 1) := by decide +kernel
theorem dX11_seat_9 : decode cX11_seat 9 = .ok (.iload_n 2, 1) := by decide +kernel
theorem dX11_seat_10 : decode cX11_seat 10 = .ok (.invokevirtual 101, 3) := by decide +kernel
theorem dX11_seat_13 : decode cX11_seat 13 = .ok (.ifCond .ne 7, 3) := by decide +kernel
theorem dX11_seat_16 : decode cX11_seat 16 = .ok (.sipush (-1011), 3) := by decide +kernel
theorem dX11_seat_19 : decode cX11_seat 19 = .ok (.ireturn, 1) := by decide +kernel
theorem dX11_seat_20 : decode cX11_seat 20 = .ok (.aload_n 0, 1) := by decide +kernel
theorem dX11_seat_21 : decode cX11_seat 21 = .ok (.iload_n 1, 1) := by decide +kernel
theorem dX11_seat_22 : decode cX11_seat 22 = .ok (.bipush 6, 2) := by decide +kernel
theorem dX11_seat_24 : decode cX11_seat 24 = .ok (.invokevirtual 70, 3) := by decide +kernel
theorem dX11_seat_27 : decode cX11_seat 27 = .ok (.istore_n 3, 1) := by decide +kernel
theorem dX11_seat_28 : decode cX11_seat 28 = .ok (.aload_n 0, 1) := by decide +kernel
theorem dX11_seat_29 : decode cX11_seat 29 = .ok (.iload_n 2, 1) := by decide +kernel
theorem dX11_seat_30 : decode cX11_seat 30 = .ok (.iconst 5, 1) := by decide +kernel
theorem dX11_seat_31 : decode cX11_seat 31 = .ok (.invokevirtual 74, 3) := by decide +kernel
theorem dX11_seat_34 : decode cX11_seat 34 = .ok (.istore 4, 2) := by decide +kernel
theorem dX11_seat_36 : decode cX11_seat 36 = .ok (.aload_n 0, 1) := by decide +kernel
theorem dX11_seat_37 : decode cX11_seat 37 = .ok (.aload_n 0, 1) := by decide +kernel
theorem dX11_seat_38 : decode cX11_seat 38 = .ok (.iload_n 1, 1) := by decide +kernel
theorem dX11_seat_39 : decode cX11_seat 39 = .ok (.invokevirtual 80, 3) := by decide +kernel
theorem dX11_seat_42 : decode cX11_seat 42 = .ok (.iload_n 2, 1) := by decide +kernel
theorem dX11_seat_43 : decode cX11_seat 43 = .ok (.iconst 3, 1) := by decide +kernel
theorem dX11_seat_44 : decode cX11_seat 44 = .ok (.aload_n 0, 1) := by decide +kernel
theorem dX11_seat_45 : decode cX11_seat 45 = .ok (.invokevirtual 104, 3) := by decide +kernel
theorem dX11_seat_48 : decode cX11_seat 48 = .ok (.invokevirtual 108, 3) := by decide +kernel
theorem dX11_seat_51 : decode cX11_seat 51 = .ok (.ifCond .ne 102, 3) := by decide +kernel
theorem dX11_seat_54 : decode cX11_seat 54 = .ok (.aload_n 0, 1) := by decide +kernel
theorem dX11_seat_55 : decode cX11_seat 55 = .ok (.iload_n 3, 1) := by decide +kernel
theorem dX11_seat_56 : decode cX11_seat 56 = .ok (.ifCond .lt 7, 3) := by decide +kernel
theorem dX11_seat_59 : decode cX11_seat 59 = .ok (.iconst 1, 1) := by decide +kernel
theorem dX11_seat_60 : decode cX11_seat 60 = .ok (.goto 4, 3) := by decide +kernel
theorem dX11_seat_63 : decode cX11_seat 63 = .ok (.iconst 0, 1) := by decide +kernel
theorem dX11_seat_64 : decode cX11_seat 64 = .ok (.iload_n 2, 1) := by decide +kernel
theorem dX11_seat_65 : decode cX11_seat 65 = .ok (.iconst 4, 1) := by decide +kernel
theorem dX11_seat_66 : decode cX11_seat 66 = .ok (.iload_n 3, 1) := by decide +kernel
theorem dX11_seat_67 : decode cX11_seat 67 = .ok (.invokevirtual 108, 3) := by decide +kernel
theorem dX11_seat_70 : decode cX11_seat 70 = .ok (.ifCond .ne 83, 3) := by decide +kernel
theorem dX11_seat_73 : decode cX11_seat 73 = .ok (.aload_n 0, 1) := by decide +kernel
theorem dX11_seat_74 : decode cX11_seat 74 = .ok (.iload 4, 2) := by decide +kernel
theorem dX11_seat_76 : decode cX11_seat 76 = .ok (.ifCond .lt 7, 3) := by decide +kernel
theorem dX11_seat_79 : decode cX11_seat 79 = .ok (.iconst 1, 1) := by decide +kernel
theorem dX11_seat_80 : decode cX11_seat 80 = .ok (.goto 4, 3) := by decide +kernel
theorem dX11_seat_83 : decode cX11_seat 83 = .ok (.iconst 0, 1) := by decide +kernel
theorem dX11_seat_84 : decode cX11_seat 84 = .ok (.iload_n 2, 1) := by decide +kernel
theorem dX11_seat_85 : decode cX11_seat 85 = .ok (.iconst 5, 1) := by decide +kernel
theorem dX11_seat_86 : decode cX11_seat 86 = .ok (.iload 4, 2) := by decide +kernel
theorem dX11_seat_88 : decode cX11_seat 88 = .ok (.invokevirtual 108, 3) := by decide +kernel
theorem dX11_seat_91 : decode cX11_seat 91 = .ok (.ifCond .ne 62, 3) := by decide +kernel
theorem dX11_seat_94 : decode cX11_seat 94 = .ok (.aload_n 0, 1) := by decide +kernel
theorem dX11_seat_95 : decode cX11_seat 95 = .ok (.aload_n 0, 1) := by decide +kernel
theorem dX11_seat_96 : decode cX11_seat 96 = .ok (.iload_n 1, 1) := by decide +kernel
theorem dX11_seat_97 : decode cX11_seat 97 = .ok (.iload_n 2, 1) := by decide +kernel
theorem dX11_seat_98 : decode cX11_seat 98 = .ok (.invokevirtual 112, 3) := by decide +kernel
theorem dX11_seat_101 : decode cX11_seat 101 = .ok (.ifCond .ne 7, 3) := by decide +kernel
theorem dX11_seat_104 : decode cX11_seat 104 = .ok (.iconst 1, 1) := by decide +kernel
theorem dX11_seat_105 : decode cX11_seat 105 = .ok (.goto 4, 3) := by decide +kernel
theorem dX11_seat_108 : decode cX11_seat 108 = .ok (.iconst 0, 1) := by decide +kernel
theorem dX11_seat_109 : decode cX11_seat 109 = .ok (.iload_n 2, 1) := by decide +kernel
theorem dX11_seat_110 : decode cX11_seat 110 = .ok (.bipush 6, 2) := by decide +kernel
theorem dX11_seat_112 : decode cX11_seat 112 = .ok (.aload_n 0, 1) := by decide +kernel
theorem dX11_seat_113 : decode cX11_seat 113 = .ok (.iload_n 1, 1) := by decide +kernel
theorem dX11_seat_114 : decode cX11_seat 114 = .ok (.iload_n 2, 1) := by decide +kernel
theorem dX11_seat_115 : decode cX11_seat 115 = .ok (.invokevirtual 77, 3) := by decide +kernel
theorem dX11_seat_118 : decode cX11_seat 118 = .ok (.invokevirtual 108, 3) := by decide +kernel
theorem dX11_seat_121 : decode cX11_seat 121 = .ok (.ifCond .ne 32, 3) := by decide +kernel
theorem dX11_seat_124 : decode cX11_seat 124 = .ok (.aload_n 0, 1) := by decide +kernel
theorem dX11_seat_125 : decode cX11_seat 125 = .ok (.aload_n 0, 1) := by decide +kernel
theorem dX11_seat_126 : decode cX11_seat 126 = .ok (.iload_n 2, 1) := by decide +kernel
theorem dX11_seat_127 : decode cX11_seat 127 = .ok (.iload_n 1, 1) := by decide +kernel
theorem dX11_seat_128 : decode cX11_seat 128 = .ok (.invokevirtual 116, 3) := by decide +kernel
theorem dX11_seat_131 : decode cX11_seat 131 = .ok (.ifCond .ne 7, 3) := by decide +kernel
theorem dX11_seat_134 : decode cX11_seat 134 = .ok (.iconst 1, 1) := by decide +kernel
theorem dX11_seat_135 : decode cX11_seat 135 = .ok (.goto 4, 3) := by decide +kernel
theorem dX11_seat_138 : decode cX11_seat 138 = .ok (.iconst 0, 1) := by decide +kernel
theorem dX11_seat_139 : decode cX11_seat 139 = .ok (.iload_n 2, 1) := by decide +kernel
theorem dX11_seat_140 : decode cX11_seat 140 = .ok (.bipush 7, 2) := by decide +kernel
theorem dX11_seat_142 : decode cX11_seat 142 = .ok (.aload_n 0, 1) := by decide +kernel
theorem dX11_seat_143 : decode cX11_seat 143 = .ok (.iload_n 1, 1) := by decide +kernel
theorem dX11_seat_144 : decode cX11_seat 144 = .ok (.invokevirtual 84, 3) := by decide +kernel
theorem dX11_seat_147 : decode cX11_seat 147 = .ok (.invokevirtual 108, 3) := by decide +kernel
theorem dX11_seat_150 : decode cX11_seat 150 = .ok (.ifCond .eq 7, 3) := by decide +kernel
theorem dX11_seat_153 : decode cX11_seat 153 = .ok (.sipush (-1014), 3) := by decide +kernel
theorem dX11_seat_156 : decode cX11_seat 156 = .ok (.ireturn, 1) := by decide +kernel
theorem dX11_seat_157 : decode cX11_seat 157 = .ok (.aload_n 0, 1) := by decide +kernel
theorem dX11_seat_158 : decode cX11_seat 158 = .ok (.invokevirtual 95, 3) := by decide +kernel
theorem dX11_seat_161 : decode cX11_seat 161 = .ok (.aload_n 0, 1) := by decide +kernel
theorem dX11_seat_162 : decode cX11_seat 162 = .ok (.iload_n 2, 1) := by decide +kernel
theorem dX11_seat_163 : decode cX11_seat 163 = .ok (.iload_n 1, 1) := by decide +kernel
theorem dX11_seat_164 : decode cX11_seat 164 = .ok (.invokevirtual 119, 3) := by decide +kernel
theorem dX11_seat_167 : decode cX11_seat 167 = .ok (.aload_n 0, 1) := by decide +kernel
theorem dX11_seat_168 : decode cX11_seat 168 = .ok (.invokevirtual 123, 3) := by decide +kernel
theorem dX11_seat_171 : decode cX11_seat 171 = .ok (.ireturn, 1) := by decide +kernel
theorem dX11_rise_0 : decode cX11_rise 0 = .ok (.aload_n 0, 1) := by decide +kernel
theorem dX11_rise_1 : decode cX11_rise 1 = .ok (.iload_n 1, 1) := by decide +kernel
theorem dX11_rise_2 : decode cX11_rise 2 = .ok (.invokevirtual 101, 3) := by decide +kernel
theorem dX11_rise_5 : decode cX11_rise 5 = .ok (.ifCond .ne 7, 3) := by decide +kernel
theorem dX11_rise_8 : decode cX11_rise 8 = .ok (.sipush (-1011), 3) := by decide +kernel
theorem dX11_rise_11 : decode cX11_rise 11 = .ok (.ireturn, 1) := by decide +kernel
theorem dX11_rise_12 : decode cX11_rise 12 = .ok (.aload_n 0, 1) := by decide +kernel
theorem dX11_rise_13 : decode cX11_rise 13 = .ok (.iload_n 1, 1) := by decide +kernel
theorem dX11_rise_14 : decode cX11_rise 14 = .ok (.iconst 5, 1) := by decide +kernel
theorem dX11_rise_15 : decode cX11_rise 15 = .ok (.invokevirtual 74, 3) := by decide +kernel
theorem dX11_rise_18 : decode cX11_rise 18 = .ok (.istore_n 2, 1) := by decide +kernel
theorem dX11_rise_19 : decode cX11_rise 19 = .ok (.aload_n 0, 1) := by decide +kernel
theorem dX11_rise_20 : decode cX11_rise 20 = .ok (.iload_n 2, 1) := by decide +kernel
theorem dX11_rise_21 : decode cX11_rise 21 = .ok (.ifCond .ge 7, 3) := by decide +kernel
theorem dX11_rise_24 : decode cX11_rise 24 = .ok (.iconst 1, 1) := by decide +kernel
theorem dX11_rise_25 : decode cX11_rise 25 = .ok (.goto 4, 3) := by decide +kernel
theorem dX11_rise_28 : decode cX11_rise 28 = .ok (.iconst 0, 1) := by decide +kernel
theorem dX11_rise_29 : decode cX11_rise 29 = .ok (.bipush 8, 2) := by decide +kernel
theorem dX11_rise_31 : decode cX11_rise 31 = .ok (.aload_n 0, 1) := by decide +kernel
theorem dX11_rise_32 : decode cX11_rise 32 = .ok (.invokevirtual 123, 3) := by decide +kernel
theorem dX11_rise_35 : decode cX11_rise 35 = .ok (.invokevirtual 47, 3) := by decide +kernel
theorem dX11_rise_38 : decode cX11_rise 38 = .ok (.ifCond .eq 7, 3) := by decide +kernel
theorem dX11_rise_41 : decode cX11_rise 41 = .ok (.sipush (-1014), 3) := by decide +kernel
theorem dX11_rise_44 : decode cX11_rise 44 = .ok (.ireturn, 1) := by decide +kernel
theorem dX11_rise_45 : decode cX11_rise 45 = .ok (.aload_n 0, 1) := by decide +kernel
theorem dX11_rise_46 : decode cX11_rise 46 = .ok (.invokevirtual 95, 3) := by decide +kernel
theorem dX11_rise_49 : decode cX11_rise 49 = .ok (.aload_n 0, 1) := by decide +kernel
theorem dX11_rise_50 : decode cX11_rise 50 = .ok (.iload_n 1, 1) := by decide +kernel
theorem dX11_rise_51 : decode cX11_rise 51 = .ok (.invokevirtual 126, 3) := by decide +kernel
theorem dX11_rise_54 : decode cX11_rise 54 = .ok (.iload_n 2, 1) := by decide +kernel
theorem dX11_rise_55 : decode cX11_rise 55 = .ok (.ireturn, 1) := by decide +kernel
theorem dX11_nextAsked_0 : decode cX11_nextAsked 0 = .ok (.iconst (-1), 1) := by decide +kernel
theorem dX11_nextAsked_1 : decode cX11_nextAsked 1 = .ok (.istore_n 2, 1) := by decide +kernel
theorem dX11_nextAsked_2 : decode cX11_nextAsked 2 = .ok (.iconst 0, 1) := by decide +kernel
theorem dX11_nextAsked_3 : decode cX11_nextAsked 3 = .ok (.istore_n 3, 1) := by decide +kernel
theorem dX11_nextAsked_4 : decode cX11_nextAsked 4 = .ok (.iload_n 3, 1) := by decide +kernel
theorem dX11_nextAsked_5 : decode cX11_nextAsked 5 = .ok (.aload_n 0, 1) := by decide +kernel
theorem dX11_nextAsked_6 : decode cX11_nextAsked 6 = .ok (.getfield 9, 3) := by decide +kernel
theorem dX11_nextAsked_9 : decode cX11_nextAsked 9 = .ok (.bipush 8, 2) := by decide +kernel
theorem dX11_nextAsked_11 : decode cX11_nextAsked 11 = .ok (.iaload, 1) := by decide +kernel
theorem dX11_nextAsked_12 : decode cX11_nextAsked 12 = .ok (.if_icmp .ge 59, 3) := by decide +kernel
theorem dX11_nextAsked_15 : decode cX11_nextAsked 15 = .ok (.aload_n 0, 1) := by decide +kernel
theorem dX11_nextAsked_16 : decode cX11_nextAsked 16 = .ok (.iload_n 1, 1) := by decide +kernel
theorem dX11_nextAsked_17 : decode cX11_nextAsked 17 = .ok (.iload_n 3, 1) := by decide +kernel
theorem dX11_nextAsked_18 : decode cX11_nextAsked 18 = .ok (.invokevirtual 112, 3) := by decide +kernel
theorem dX11_nextAsked_21 : decode cX11_nextAsked 21 = .ok (.ifCond .eq 20, 3) := by decide +kernel
theorem dX11_nextAsked_24 : decode cX11_nextAsked 24 = .ok (.aload_n 0, 1) := by decide +kernel
theorem dX11_nextAsked_25 : decode cX11_nextAsked 25 = .ok (.getfield 33, 3) := by decide +kernel
theorem dX11_nextAsked_28 : decode cX11_nextAsked 28 = .ok (.iload_n 1, 1) := by decide +kernel
theorem dX11_nextAsked_29 : decode cX11_nextAsked 29 = .ok (.iaload, 1) := by decide +kernel
theorem dX11_nextAsked_30 : decode cX11_nextAsked 30 = .ok (.iload_n 3, 1) := by decide +kernel
theorem dX11_nextAsked_31 : decode cX11_nextAsked 31 = .ok (.ishr, 1) := by decide +kernel
theorem dX11_nextAsked_32 : decode cX11_nextAsked 32 = .ok (.iconst 1, 1) := by decide +kernel
theorem dX11_nextAsked_33 : decode cX11_nextAsked 33 = .ok (.iand, 1) := by decide +kernel
theorem dX11_nextAsked_34 : decode cX11_nextAsked 34 = .ok (.ifCond .ne 7, 3) := by decide +kernel
theorem dX11_nextAsked_37 : decode cX11_nextAsked 37 = .ok (.iconst 1, 1) := by decide +kernel
theorem dX11_nextAsked_38 : decode cX11_nextAsked 38 = .ok (.goto 4, 3) := by decide +kernel
theorem dX11_nextAsked_41 : decode cX11_nextAsked 41 = .ok (.iconst 0, 1) := by decide +kernel
theorem dX11_nextAsked_42 : decode cX11_nextAsked 42 = .ok (.istore 4, 2) := by decide +kernel
theorem dX11_nextAsked_44 : decode cX11_nextAsked 44 = .ok (.iload 4, 2) := by decide +kernel
theorem dX11_nextAsked_46 : decode cX11_nextAsked 46 = .ok (.ifCond .eq 17, 3) := by decide +kernel
theorem dX11_nextAsked_49 : decode cX11_nextAsked 49 = .ok (.aload_n 0, 1) := by decide +kernel
theorem dX11_nextAsked_50 : decode cX11_nextAsked 50 = .ok (.iload_n 1, 1) := by decide +kernel
theorem dX11_nextAsked_51 : decode cX11_nextAsked 51 = .ok (.iload_n 3, 1) := by decide +kernel
theorem dX11_nextAsked_52 : decode cX11_nextAsked 52 = .ok (.iload_n 2, 1) := by decide +kernel
theorem dX11_nextAsked_53 : decode cX11_nextAsked 53 = .ok (.invokevirtual 130, 3) := by decide +kernel
theorem dX11_nextAsked_56 : decode cX11_nextAsked 56 = .ok (.ifCond .eq 7, 3) := by decide +kernel
theorem dX11_nextAsked_59 : decode cX11_nextAsked 59 = .ok (.iload_n 3, 1) := by decide +kernel
theorem dX11_nextAsked_60 : decode cX11_nextAsked 60 = .ok (.goto 4, 3) := by decide +kernel
theorem dX11_nextAsked_63 : decode cX11_nextAsked 63 = .ok (.iload_n 2, 1) := by decide +kernel
theorem dX11_nextAsked_64 : decode cX11_nextAsked 64 = .ok (.istore_n 2, 1) := by decide +kernel
theorem dX11_nextAsked_65 : decode cX11_nextAsked 65 = .ok (.iinc 3 1, 3) := by decide +kernel
theorem dX11_nextAsked_68 : decode cX11_nextAsked 68 = .ok (.goto (-64), 3) := by decide +kernel
theorem dX11_nextAsked_71 : decode cX11_nextAsked 71 = .ok (.iload_n 2, 1) := by decide +kernel
theorem dX11_nextAsked_72 : decode cX11_nextAsked 72 = .ok (.ireturn, 1) := by decide +kernel
theorem dX11_ask_0 : decode cX11_ask 0 = .ok (.aload_n 0, 1) := by decide +kernel
theorem dX11_ask_1 : decode cX11_ask 1 = .ok (.getfield 33, 3) := by decide +kernel
theorem dX11_ask_4 : decode cX11_ask 4 = .ok (.iload_n 1, 1) := by decide +kernel
theorem dX11_ask_5 : decode cX11_ask 5 = .ok (.dup2, 1) := by decide +kernel
theorem dX11_ask_6 : decode cX11_ask 6 = .ok (.iaload, 1) := by decide +kernel
theorem dX11_ask_7 : decode cX11_ask 7 = .ok (.iconst 1, 1) := by decide +kernel
theorem dX11_ask_8 : decode cX11_ask 8 = .ok (.iload_n 2, 1) := by decide +kernel
theorem dX11_ask_9 : decode cX11_ask 9 = .ok (.ishl, 1) := by decide +kernel
theorem dX11_ask_10 : decode cX11_ask 10 = .ok (.ior, 1) := by decide +kernel
theorem dX11_ask_11 : decode cX11_ask 11 = .ok (.iastore, 1) := by decide +kernel
theorem dX11_ask_12 : decode cX11_ask 12 = .ok (.aload_n 0, 1) := by decide +kernel
theorem dX11_ask_13 : decode cX11_ask 13 = .ok (.iload_n 2, 1) := by decide +kernel
theorem dX11_ask_14 : decode cX11_ask 14 = .ok (.iconst 5, 1) := by decide +kernel
theorem dX11_ask_15 : decode cX11_ask 15 = .ok (.invokevirtual 74, 3) := by decide +kernel
theorem dX11_ask_18 : decode cX11_ask 18 = .ok (.istore_n 3, 1) := by decide +kernel
theorem dX11_ask_19 : decode cX11_ask 19 = .ok (.aload_n 0, 1) := by decide +kernel
theorem dX11_ask_20 : decode cX11_ask 20 = .ok (.iload_n 2, 1) := by decide +kernel
theorem dX11_ask_21 : decode cX11_ask 21 = .ok (.iload_n 1, 1) := by decide +kernel
theorem dX11_ask_22 : decode cX11_ask 22 = .ok (.invokevirtual 116, 3) := by decide +kernel
theorem dX11_ask_25 : decode cX11_ask 25 = .ok (.ifCond .eq 23, 3) := by decide +kernel
theorem dX11_ask_28 : decode cX11_ask 28 = .ok (.aload_n 0, 1) := by decide +kernel
theorem dX11_ask_29 : decode cX11_ask 29 = .ok (.iload_n 1, 1) := by decide +kernel
theorem dX11_ask_30 : decode cX11_ask 30 = .ok (.iload_n 3, 1) := by decide +kernel
theorem dX11_ask_31 : decode cX11_ask 31 = .ok (.invokevirtual 133, 3) := by decide +kernel
theorem dX11_ask_34 : decode cX11_ask 34 = .ok (.ifCond .eq 14, 3) := by decide +kernel
theorem dX11_ask_37 : decode cX11_ask 37 = .ok (.aload_n 0, 1) := by decide +kernel
theorem dX11_ask_38 : decode cX11_ask 38 = .ok (.iload_n 2, 1) := by decide +kernel
theorem dX11_ask_39 : decode cX11_ask 39 = .ok (.invokevirtual 126, 3) := by decide +kernel
theorem dX11_ask_42 : decode cX11_ask 42 = .ok (.aload_n 0, 1) := by decide +kernel
theorem dX11_ask_43 : decode cX11_ask 43 = .ok (.iload_n 2, 1) := by decide +kernel
theorem dX11_ask_44 : decode cX11_ask 44 = .ok (.iload_n 1, 1) := by decide +kernel
theorem dX11_ask_45 : decode cX11_ask 45 = .ok (.invokevirtual 119, 3) := by decide +kernel
theorem dX11_ask_48 : decode cX11_ask 48 = .ok (.return_, 1) := by decide +kernel
theorem dX11_askingChair_0 : decode cX11_askingChair 0 = .ok (.iconst 0, 1) := by decide +kernel
theorem dX11_askingChair_1 : decode cX11_askingChair 1 = .ok (.istore_n 1, 1) := by decide +kernel
theorem dX11_askingChair_2 : decode cX11_askingChair 2 = .ok (.iload_n 1, 1) := by decide +kernel
theorem dX11_askingChair_3 : decode cX11_askingChair 3 = .ok (.aload_n 0, 1) := by decide +kernel
theorem dX11_askingChair_4 : decode cX11_askingChair 4 = .ok (.getfield 9, 3) := by decide +kernel
theorem dX11_askingChair_7 : decode cX11_askingChair 7 = .ok (.bipush 7, 2) := by decide +kernel
theorem dX11_askingChair_9 : decode cX11_askingChair 9 = .ok (.iaload, 1) := by decide +kernel
theorem dX11_askingChair_10 : decode cX11_askingChair 10 = .ok (.if_icmp .ge 37, 3) := by decide +kernel
theorem dX11_askingChair_13 : decode cX11_askingChair 13 = .ok (.aload_n 0, 1) := by decide +kernel
theorem dX11_askingChair_14 : decode cX11_askingChair 14 = .ok (.iload_n 1, 1) := by decide +kernel
theorem dX11_askingChair_15 : decode cX11_askingChair 15 = .ok (.invokevirtual 80, 3) := by decide +kernel
theorem dX11_askingChair_18 : decode cX11_askingChair 18 = .ok (.ifCond .ne 23, 3) := by decide +kernel
theorem dX11_askingChair_21 : decode cX11_askingChair 21 = .ok (.aload_n 0, 1) := by decide +kernel
theorem dX11_askingChair_22 : decode cX11_askingChair 22 = .ok (.iload_n 1, 1) := by decide +kernel
theorem dX11_askingChair_23 : decode cX11_askingChair 23 = .ok (.bipush 6, 2) := by decide +kernel
theorem dX11_askingChair_25 : decode cX11_askingChair 25 = .ok (.invokevirtual 70, 3) := by decide +kernel
theorem dX11_askingChair_28 : decode cX11_askingChair 28 = .ok (.ifCond .ge 13, 3) := by decide +kernel
theorem dX11_askingChair_31 : decode cX11_askingChair 31 = .ok (.aload_n 0, 1) := by decide +kernel
theorem dX11_askingChair_32 : decode cX11_askingChair 32 = .ok (.iload_n 1, 1) := by decide +kernel
theorem dX11_askingChair_33 : decode cX11_askingChair 33 = .ok (.invokevirtual 136, 3) := by decide +kernel
theorem dX11_askingChair_36 : decode cX11_askingChair 36 = .ok (.ifCond .lt 5, 3) := by decide +kernel
theorem dX11_askingChair_39 : decode cX11_askingChair 39 = .ok (.iload_n 1, 1) := by decide +kernel
theorem dX11_askingChair_40 : decode cX11_askingChair 40 = .ok (.ireturn, 1) := by decide +kernel
theorem dX11_askingChair_41 : decode cX11_askingChair 41 = .ok (.iinc 1 1, 3) := by decide +kernel
theorem dX11_askingChair_44 : decode cX11_askingChair 44 = .ok (.goto (-42), 3) := by decide +kernel
theorem dX11_askingChair_47 : decode cX11_askingChair 47 = .ok (.iconst (-1), 1) := by decide +kernel
theorem dX11_askingChair_48 : decode cX11_askingChair 48 = .ok (.ireturn, 1) := by decide +kernel
theorem dX11_seatAll_0 : decode cX11_seatAll 0 = .ok (.iconst 0, 1) := by decide +kernel
theorem dX11_seatAll_1 : decode cX11_seatAll 1 = .ok (.istore_n 1, 1) := by decide +kernel
theorem dX11_seatAll_2 : decode cX11_seatAll 2 = .ok (.iload_n 1, 1) := by decide +kernel
theorem dX11_seatAll_3 : decode cX11_seatAll 3 = .ok (.aload_n 0, 1) := by decide +kernel
theorem dX11_seatAll_4 : decode cX11_seatAll 4 = .ok (.getfield 9, 3) := by decide +kernel
theorem dX11_seatAll_7 : decode cX11_seatAll 7 = .ok (.bipush 8, 2) := by decide +kernel
theorem dX11_seatAll_9 : decode cX11_seatAll 9 = .ok (.iaload, 1) := by decide +kernel
theorem dX11_seatAll_10 : decode cX11_seatAll 10 = .ok (.if_icmp .ge 14, 3) := by decide +kernel
theorem dX11_seatAll_13 : decode cX11_seatAll 13 = .ok (.aload_n 0, 1) := by decide +kernel
theorem dX11_seatAll_14 : decode cX11_seatAll 14 = .ok (.iload_n 1, 1) := by decide +kernel
theorem dX11_seatAll_15 : decode cX11_seatAll 15 = .ok (.invokevirtual 126, 3) := by decide +kernel
theorem dX11_seatAll_18 : decode cX11_seatAll 18 = .ok (.iinc 1 1, 3) := by decide +kernel
theorem dX11_seatAll_21 : decode cX11_seatAll 21 = .ok (.goto (-19), 3) := by decide +kernel
theorem dX11_seatAll_24 : decode cX11_seatAll 24 = .ok (.iconst 0, 1) := by decide +kernel
theorem dX11_seatAll_25 : decode cX11_seatAll 25 = .ok (.istore_n 1, 1) := by decide +kernel
theorem dX11_seatAll_26 : decode cX11_seatAll 26 = .ok (.iload_n 1, 1) := by decide +kernel
theorem dX11_seatAll_27 : decode cX11_seatAll 27 = .ok (.bipush 10, 2) := by decide +kernel
theorem dX11_seatAll_29 : decode cX11_seatAll 29 = .ok (.if_icmp .ge 16, 3) := by decide +kernel
theorem dX11_seatAll_32 : decode cX11_seatAll 32 = .ok (.aload_n 0, 1) := by decide +kernel
theorem dX11_seatAll_33 : decode cX11_seatAll 33 = .ok (.getfield 33, 3) := by decide +kernel
theorem dX11_seatAll_36 : decode cX11_seatAll 36 = .ok (.iload_n 1, 1) := by decide +kernel
theorem dX11_seatAll_37 : decode cX11_seatAll 37 = .ok (.iconst 0, 1) := by decide +kernel
theorem dX11_seatAll_38 : decode cX11_seatAll 38 = .ok (.iastore, 1) := by decide +kernel
theorem dX11_seatAll_39 : decode cX11_seatAll 39 = .ok (.iinc 1 1, 3) := by decide +kernel
theorem dX11_seatAll_42 : decode cX11_seatAll 42 = .ok (.goto (-16), 3) := by decide +kernel
theorem dX11_seatAll_45 : decode cX11_seatAll 45 = .ok (.aload_n 0, 1) := by decide +kernel
theorem dX11_seatAll_46 : decode cX11_seatAll 46 = .ok (.invokevirtual 139, 3) := by decide +kernel
theorem dX11_seatAll_49 : decode cX11_seatAll 49 = .ok (.istore_n 1, 1) := by decide +kernel
theorem dX11_seatAll_50 : decode cX11_seatAll 50 = .ok (.iload_n 1, 1) := by decide +kernel
theorem dX11_seatAll_51 : decode cX11_seatAll 51 = .ok (.ifCond .lt 21, 3) := by decide +kernel
theorem dX11_seatAll_54 : decode cX11_seatAll 54 = .ok (.aload_n 0, 1) := by decide +kernel
theorem dX11_seatAll_55 : decode cX11_seatAll 55 = .ok (.iload_n 1, 1) := by decide +kernel
theorem dX11_seatAll_56 : decode cX11_seatAll 56 = .ok (.aload_n 0, 1) := by decide +kernel
theorem dX11_seatAll_57 : decode cX11_seatAll 57 = .ok (.iload_n 1, 1) := by decide +kernel
theorem dX11_seatAll_58 : decode cX11_seatAll 58 = .ok (.invokevirtual 136, 3) := by decide +kernel
theorem dX11_seatAll_61 : decode cX11_seatAll 61 = .ok (.invokevirtual 142, 3) := by decide +kernel
theorem dX11_seatAll_64 : decode cX11_seatAll 64 = .ok (.aload_n 0, 1) := by decide +kernel
theorem dX11_seatAll_65 : decode cX11_seatAll 65 = .ok (.invokevirtual 139, 3) := by decide +kernel
theorem dX11_seatAll_68 : decode cX11_seatAll 68 = .ok (.istore_n 1, 1) := by decide +kernel
theorem dX11_seatAll_69 : decode cX11_seatAll 69 = .ok (.goto (-19), 3) := by decide +kernel
theorem dX11_seatAll_72 : decode cX11_seatAll 72 = .ok (.return_, 1) := by decide +kernel
theorem dX11_season_0 : decode cX11_season 0 = .ok (.aload_n 0, 1) := by decide +kernel
theorem dX11_season_1 : decode cX11_season 1 = .ok (.invokevirtual 95, 3) := by decide +kernel
theorem dX11_season_4 : decode cX11_season 4 = .ok (.aload_n 0, 1) := by decide +kernel
theorem dX11_season_5 : decode cX11_season 5 = .ok (.invokevirtual 145, 3) := by decide +kernel
theorem dX11_season_8 : decode cX11_season 8 = .ok (.aload_n 0, 1) := by decide +kernel
theorem dX11_season_9 : decode cX11_season 9 = .ok (.getfield 9, 3) := by decide +kernel
theorem dX11_season_12 : decode cX11_season 12 = .ok (.iconst 5, 1) := by decide +kernel
theorem dX11_season_13 : decode cX11_season 13 = .ok (.dup2, 1) := by decide +kernel
theorem dX11_season_14 : decode cX11_season 14 = .ok (.iaload, 1) := by decide +kernel
theorem dX11_season_15 : decode cX11_season 15 = .ok (.iconst 1, 1) := by decide +kernel
theorem dX11_season_16 : decode cX11_season 16 = .ok (.iadd, 1) := by decide +kernel
theorem dX11_season_17 : decode cX11_season 17 = .ok (.iastore, 1) := by decide +kernel
theorem dX11_season_18 : decode cX11_season 18 = .ok (.aload_n 0, 1) := by decide +kernel
theorem dX11_season_19 : decode cX11_season 19 = .ok (.invokevirtual 123, 3) := by decide +kernel
theorem dX11_season_22 : decode cX11_season 22 = .ok (.ireturn, 1) := by decide +kernel
theorem dX11_would_0 : decode cX11_would 0 = .ok (.aload_n 0, 1) := by decide +kernel
theorem dX11_would_1 : decode cX11_would 1 = .ok (.iload_n 1, 1) := by decide +kernel
theorem dX11_would_2 : decode cX11_would 2 = .ok (.invokevirtual 98, 3) := by decide +kernel
theorem dX11_would_5 : decode cX11_would 5 = .ok (.ifCond .ne 7, 3) := by decide +kernel
theorem dX11_would_8 : decode cX11_would 8 = .ok (.sipush (-1011), 3) := by decide +kernel
theorem dX11_would_11 : decode cX11_would 11 = .ok (.ireturn, 1) := by decide +kernel
theorem dX11_would_12 : decode cX11_would 12 = .ok (.aload_n 0, 1) := by decide +kernel
theorem dX11_would_13 : decode cX11_would 13 = .ok (.getfield 9, 3) := by decide +kernel
theorem dX11_would_16 : decode cX11_would 16 = .ok (.aload_n 0, 1) := by decide +kernel
theorem dX11_would_17 : decode cX11_would 17 = .ok (.getfield 19, 3) := by decide +kernel
theorem dX11_would_20 : decode cX11_would 20 = .ok (.invokestatic 54, 3) := by decide +kernel
theorem dX11_would_23 : decode cX11_would 23 = .ok (.aload_n 0, 1) := by decide +kernel
theorem dX11_would_24 : decode cX11_would 24 = .ok (.invokevirtual 145, 3) := by decide +kernel
theorem dX11_would_27 : decode cX11_would 27 = .ok (.aload_n 0, 1) := by decide +kernel
theorem dX11_would_28 : decode cX11_would 28 = .ok (.iload_n 1, 1) := by decide +kernel
theorem dX11_would_29 : decode cX11_would 29 = .ok (.bipush 6, 2) := by decide +kernel
theorem dX11_would_31 : decode cX11_would 31 = .ok (.invokevirtual 70, 3) := by decide +kernel
theorem dX11_would_34 : decode cX11_would 34 = .ok (.istore_n 2, 1) := by decide +kernel
theorem dX11_would_35 : decode cX11_would 35 = .ok (.aload_n 0, 1) := by decide +kernel
theorem dX11_would_36 : decode cX11_would 36 = .ok (.getfield 19, 3) := by decide +kernel
theorem dX11_would_39 : decode cX11_would 39 = .ok (.aload_n 0, 1) := by decide +kernel
theorem dX11_would_40 : decode cX11_would 40 = .ok (.getfield 9, 3) := by decide +kernel
theorem dX11_would_43 : decode cX11_would 43 = .ok (.invokestatic 54, 3) := by decide +kernel
theorem dX11_would_46 : decode cX11_would 46 = .ok (.iload_n 2, 1) := by decide +kernel
theorem dX11_would_47 : decode cX11_would 47 = .ok (.ifCond .ge 9, 3) := by decide +kernel
theorem dX11_would_50 : decode cX11_would 50 = .ok (.sipush (-1015), 3) := by decide +kernel
theorem dX11_would_53 : decode cX11_would 53 = .ok (.goto 4, 3) := by decide +kernel
theorem dX11_would_56 : decode cX11_would 56 = .ok (.iload_n 2, 1) := by decide +kernel
theorem dX11_would_57 : decode cX11_would 57 = .ok (.ireturn, 1) := by decide +kernel
theorem dX11_wouldAgain_0 : decode cX11_wouldAgain 0 = .ok (.aload_n 0, 1) := by decide +kernel
theorem dX11_wouldAgain_1 : decode cX11_wouldAgain 1 = .ok (.iload_n 1, 1) := by decide +kernel
theorem dX11_wouldAgain_2 : decode cX11_wouldAgain 2 = .ok (.invokevirtual 148, 3) := by decide +kernel
theorem dX11_wouldAgain_5 : decode cX11_wouldAgain 5 = .ok (.ireturn, 1) := by decide +kernel
theorem dX11_areRestless_0 : decode cX11_areRestless 0 = .ok (.aload_n 0, 1) := by decide +kernel
theorem dX11_areRestless_1 : decode cX11_areRestless 1 = .ok (.iload_n 1, 1) := by decide +kernel
theorem dX11_areRestless_2 : decode cX11_areRestless 2 = .ok (.bipush 6, 2) := by decide +kernel
theorem dX11_areRestless_4 : decode cX11_areRestless 4 = .ok (.invokevirtual 70, 3) := by decide +kernel
theorem dX11_areRestless_7 : decode cX11_areRestless 7 = .ok (.istore_n 3, 1) := by decide +kernel
theorem dX11_areRestless_8 : decode cX11_areRestless 8 = .ok (.aload_n 0, 1) := by decide +kernel
theorem dX11_areRestless_9 : decode cX11_areRestless 9 = .ok (.iload_n 2, 1) := by decide +kernel
theorem dX11_areRestless_10 : decode cX11_areRestless 10 = .ok (.iconst 5, 1) := by decide +kernel
theorem dX11_areRestless_11 : decode cX11_areRestless 11 = .ok (.invokevirtual 74, 3) := by decide +kernel
theorem dX11_areRestless_14 : decode cX11_areRestless 14 = .ok (.istore 4, 2) := by decide +kernel
theorem dX11_areRestless_16 : decode cX11_areRestless 16 = .ok (.iload 4, 2) := by decide +kernel
theorem dX11_areRestless_18 : decode cX11_areRestless 18 = .ok (.iload_n 1, 1) := by decide +kernel
theorem dX11_areRestless_19 : decode cX11_areRestless 19 = .ok (.if_icmp .eq 45, 3) := by decide +kernel
theorem dX11_areRestless_22 : decode cX11_areRestless 22 = .ok (.aload_n 0, 1) := by decide +kernel
theorem dX11_areRestless_23 : decode cX11_areRestless 23 = .ok (.iload_n 1, 1) := by decide +kernel
theorem dX11_areRestless_24 : decode cX11_areRestless 24 = .ok (.iload_n 2, 1) := by decide +kernel
theorem dX11_areRestless_25 : decode cX11_areRestless 25 = .ok (.invokevirtual 112, 3) := by decide +kernel
theorem dX11_areRestless_28 : decode cX11_areRestless 28 = .ok (.ifCond .eq 36, 3) := by decide +kernel
theorem dX11_areRestless_31 : decode cX11_areRestless 31 = .ok (.aload_n 0, 1) := by decide +kernel
theorem dX11_areRestless_32 : decode cX11_areRestless 32 = .ok (.iload_n 1, 1) := by decide +kernel
theorem dX11_areRestless_33 : decode cX11_areRestless 33 = .ok (.iload_n 2, 1) := by decide +kernel
theorem dX11_areRestless_34 : decode cX11_areRestless 34 = .ok (.iload_n 3, 1) := by decide +kernel
theorem dX11_areRestless_35 : decode cX11_areRestless 35 = .ok (.invokevirtual 130, 3) := by decide +kernel
theorem dX11_areRestless_38 : decode cX11_areRestless 38 = .ok (.ifCond .eq 26, 3) := by decide +kernel
theorem dX11_areRestless_41 : decode cX11_areRestless 41 = .ok (.aload_n 0, 1) := by decide +kernel
theorem dX11_areRestless_42 : decode cX11_areRestless 42 = .ok (.iload_n 2, 1) := by decide +kernel
theorem dX11_areRestless_43 : decode cX11_areRestless 43 = .ok (.iload_n 1, 1) := by decide +kernel
theorem dX11_areRestless_44 : decode cX11_areRestless 44 = .ok (.invokevirtual 116, 3) := by decide +kernel
theorem dX11_areRestless_47 : decode cX11_areRestless 47 = .ok (.ifCond .eq 17, 3) := by decide +kernel
theorem dX11_areRestless_50 : decode cX11_areRestless 50 = .ok (.aload_n 0, 1) := by decide +kernel
theorem dX11_areRestless_51 : decode cX11_areRestless 51 = .ok (.iload_n 1, 1) := by decide +kernel
theorem dX11_areRestless_52 : decode cX11_areRestless 52 = .ok (.iload 4, 2) := by decide +kernel
theorem dX11_areRestless_54 : decode cX11_areRestless 54 = .ok (.invokevirtual 133, 3) := by decide +kernel
theorem dX11_areRestless_57 : decode cX11_areRestless 57 = .ok (.ifCond .eq 7, 3) := by decide +kernel
theorem dX11_areRestless_60 : decode cX11_areRestless 60 = .ok (.iconst 1, 1) := by decide +kernel
theorem dX11_areRestless_61 : decode cX11_areRestless 61 = .ok (.goto 4, 3) := by decide +kernel
theorem dX11_areRestless_64 : decode cX11_areRestless 64 = .ok (.iconst 0, 1) := by decide +kernel
theorem dX11_areRestless_65 : decode cX11_areRestless 65 = .ok (.ireturn, 1) := by decide +kernel
theorem dX11_restless_0 : decode cX11_restless 0 = .ok (.iconst 0, 1) := by decide +kernel
theorem dX11_restless_1 : decode cX11_restless 1 = .ok (.istore_n 1, 1) := by decide +kernel
theorem dX11_restless_2 : decode cX11_restless 2 = .ok (.iconst 0, 1) := by decide +kernel
theorem dX11_restless_3 : decode cX11_restless 3 = .ok (.istore_n 2, 1) := by decide +kernel
theorem dX11_restless_4 : decode cX11_restless 4 = .ok (.iload_n 2, 1) := by decide +kernel
theorem dX11_restless_5 : decode cX11_restless 5 = .ok (.aload_n 0, 1) := by decide +kernel
theorem dX11_restless_6 : decode cX11_restless 6 = .ok (.getfield 9, 3) := by decide +kernel
theorem dX11_restless_9 : decode cX11_restless 9 = .ok (.bipush 7, 2) := by decide +kernel
theorem dX11_restless_11 : decode cX11_restless 11 = .ok (.iaload, 1) := by decide +kernel
theorem dX11_restless_12 : decode cX11_restless 12 = .ok (.if_icmp .ge 45, 3) := by decide +kernel
theorem dX11_restless_15 : decode cX11_restless 15 = .ok (.iconst 0, 1) := by decide +kernel
theorem dX11_restless_16 : decode cX11_restless 16 = .ok (.istore_n 3, 1) := by decide +kernel
theorem dX11_restless_17 : decode cX11_restless 17 = .ok (.iload_n 3, 1) := by decide +kernel
theorem dX11_restless_18 : decode cX11_restless 18 = .ok (.aload_n 0, 1) := by decide +kernel
theorem dX11_restless_19 : decode cX11_restless 19 = .ok (.getfield 9, 3) := by decide +kernel
theorem dX11_restless_22 : decode cX11_restless 22 = .ok (.bipush 8, 2) := by decide +kernel
theorem dX11_restless_24 : decode cX11_restless 24 = .ok (.iaload, 1) := by decide +kernel
theorem dX11_restless_25 : decode cX11_restless 25 = .ok (.if_icmp .ge 26, 3) := by decide +kernel
theorem dX11_restless_28 : decode cX11_restless 28 = .ok (.iload_n 1, 1) := by decide +kernel
theorem dX11_restless_29 : decode cX11_restless 29 = .ok (.aload_n 0, 1) := by decide +kernel
theorem dX11_restless_30 : decode cX11_restless 30 = .ok (.iload_n 2, 1) := by decide +kernel
theorem dX11_restless_31 : decode cX11_restless 31 = .ok (.iload_n 3, 1) := by decide +kernel
theorem dX11_restless_32 : decode cX11_restless 32 = .ok (.invokevirtual 151, 3) := by decide +kernel
theorem dX11_restless_35 : decode cX11_restless 35 = .ok (.ifCond .eq 7, 3) := by decide +kernel
theorem dX11_restless_38 : decode cX11_restless 38 = .ok (.iconst 1, 1) := by decide +kernel
theorem dX11_restless_39 : decode cX11_restless 39 = .ok (.goto 4, 3) := by decide +kernel
theorem dX11_restless_42 : decode cX11_restless 42 = .ok (.iconst 0, 1) := by decide +kernel
theorem dX11_restless_43 : decode cX11_restless 43 = .ok (.iadd, 1) := by decide +kernel
theorem dX11_restless_44 : decode cX11_restless 44 = .ok (.istore_n 1, 1) := by decide +kernel
theorem dX11_restless_45 : decode cX11_restless 45 = .ok (.iinc 3 1, 3) := by decide +kernel
theorem dX11_restless_48 : decode cX11_restless 48 = .ok (.goto (-31), 3) := by decide +kernel
theorem dX11_restless_51 : decode cX11_restless 51 = .ok (.iinc 2 1, 3) := by decide +kernel
theorem dX11_restless_54 : decode cX11_restless 54 = .ok (.goto (-50), 3) := by decide +kernel
theorem dX11_restless_57 : decode cX11_restless 57 = .ok (.iload_n 1, 1) := by decide +kernel
theorem dX11_restless_58 : decode cX11_restless 58 = .ok (.ireturn, 1) := by decide +kernel
theorem dX11_bid_0 : decode cX11_bid 0 = .ok (.aload_n 0, 1) := by decide +kernel
theorem dX11_bid_1 : decode cX11_bid 1 = .ok (.iload_n 1, 1) := by decide +kernel
theorem dX11_bid_2 : decode cX11_bid 2 = .ok (.invokevirtual 101, 3) := by decide +kernel
theorem dX11_bid_5 : decode cX11_bid 5 = .ok (.ifCond .ne 7, 3) := by decide +kernel
theorem dX11_bid_8 : decode cX11_bid 8 = .ok (.sipush (-1011), 3) := by decide +kernel
theorem dX11_bid_11 : decode cX11_bid 11 = .ok (.ireturn, 1) := by decide +kernel
theorem dX11_bid_12 : decode cX11_bid 12 = .ok (.iload_n 2, 1) := by decide +kernel
theorem dX11_bid_13 : decode cX11_bid 13 = .ok (.iconst 0, 1) := by decide +kernel
theorem dX11_bid_14 : decode cX11_bid 14 = .ok (.bipush 99, 2) := by decide +kernel
theorem dX11_bid_16 : decode cX11_bid 16 = .ok (.invokestatic 66, 3) := by decide +kernel
theorem dX11_bid_19 : decode cX11_bid 19 = .ok (.ifCond .ne 7, 3) := by decide +kernel
theorem dX11_bid_22 : decode cX11_bid 22 = .ok (.sipush (-1012), 3) := by decide +kernel
theorem dX11_bid_25 : decode cX11_bid 25 = .ok (.ireturn, 1) := by decide +kernel
theorem dX11_bid_26 : decode cX11_bid 26 = .ok (.aload_n 0, 1) := by decide +kernel
theorem dX11_bid_27 : decode cX11_bid 27 = .ok (.aload_n 0, 1) := by decide +kernel
theorem dX11_bid_28 : decode cX11_bid 28 = .ok (.iload_n 1, 1) := by decide +kernel
theorem dX11_bid_29 : decode cX11_bid 29 = .ok (.iconst 5, 1) := by decide +kernel
theorem dX11_bid_30 : decode cX11_bid 30 = .ok (.invokevirtual 74, 3) := by decide +kernel
theorem dX11_bid_33 : decode cX11_bid 33 = .ok (.ifCond .ge 7, 3) := by decide +kernel
theorem dX11_bid_36 : decode cX11_bid 36 = .ok (.iconst 1, 1) := by decide +kernel
theorem dX11_bid_37 : decode cX11_bid 37 = .ok (.goto 4, 3) := by decide +kernel
theorem dX11_bid_40 : decode cX11_bid 40 = .ok (.iconst 0, 1) := by decide +kernel
theorem dX11_bid_41 : decode cX11_bid 41 = .ok (.bipush 8, 2) := by decide +kernel
theorem dX11_bid_43 : decode cX11_bid 43 = .ok (.aload_n 0, 1) := by decide +kernel
theorem dX11_bid_44 : decode cX11_bid 44 = .ok (.invokevirtual 123, 3) := by decide +kernel
theorem dX11_bid_47 : decode cX11_bid 47 = .ok (.invokevirtual 47, 3) := by decide +kernel
theorem dX11_bid_50 : decode cX11_bid 50 = .ok (.ifCond .ne 33, 3) := by decide +kernel
theorem dX11_bid_53 : decode cX11_bid 53 = .ok (.aload_n 0, 1) := by decide +kernel
theorem dX11_bid_54 : decode cX11_bid 54 = .ok (.aload_n 0, 1) := by decide +kernel
theorem dX11_bid_55 : decode cX11_bid 55 = .ok (.iload_n 1, 1) := by decide +kernel
theorem dX11_bid_56 : decode cX11_bid 56 = .ok (.iconst 3, 1) := by decide +kernel
theorem dX11_bid_57 : decode cX11_bid 57 = .ok (.invokevirtual 74, 3) := by decide +kernel
theorem dX11_bid_60 : decode cX11_bid 60 = .ok (.iload_n 2, 1) := by decide +kernel
theorem dX11_bid_61 : decode cX11_bid 61 = .ok (.if_icmp .ge 7, 3) := by decide +kernel
theorem dX11_bid_64 : decode cX11_bid 64 = .ok (.iconst 1, 1) := by decide +kernel
theorem dX11_bid_65 : decode cX11_bid 65 = .ok (.goto 4, 3) := by decide +kernel
theorem dX11_bid_68 : decode cX11_bid 68 = .ok (.iconst 0, 1) := by decide +kernel
theorem dX11_bid_69 : decode cX11_bid 69 = .ok (.bipush 9, 2) := by decide +kernel
theorem dX11_bid_71 : decode cX11_bid 71 = .ok (.aload_n 0, 1) := by decide +kernel
theorem dX11_bid_72 : decode cX11_bid 72 = .ok (.iload_n 1, 1) := by decide +kernel
theorem dX11_bid_73 : decode cX11_bid 73 = .ok (.iconst 3, 1) := by decide +kernel
theorem dX11_bid_74 : decode cX11_bid 74 = .ok (.invokevirtual 74, 3) := by decide +kernel
theorem dX11_bid_77 : decode cX11_bid 77 = .ok (.invokevirtual 47, 3) := by decide +kernel
theorem dX11_bid_80 : decode cX11_bid 80 = .ok (.ifCond .eq 7, 3) := by decide +kernel
theorem dX11_bid_83 : decode cX11_bid 83 = .ok (.sipush (-1014), 3) := by decide +kernel
theorem dX11_bid_86 : decode cX11_bid 86 = .ok (.ireturn, 1) := by decide +kernel
theorem dX11_bid_87 : decode cX11_bid 87 = .ok (.aload_n 0, 1) := by decide +kernel
theorem dX11_bid_88 : decode cX11_bid 88 = .ok (.invokevirtual 95, 3) := by decide +kernel
theorem dX11_bid_91 : decode cX11_bid 91 = .ok (.aload_n 0, 1) := by decide +kernel
theorem dX11_bid_92 : decode cX11_bid 92 = .ok (.iload_n 1, 1) := by decide +kernel
theorem dX11_bid_93 : decode cX11_bid 93 = .ok (.iconst 4, 1) := by decide +kernel
theorem dX11_bid_94 : decode cX11_bid 94 = .ok (.invokevirtual 74, 3) := by decide +kernel
theorem dX11_bid_97 : decode cX11_bid 97 = .ok (.istore_n 3, 1) := by decide +kernel
theorem dX11_bid_98 : decode cX11_bid 98 = .ok (.aload_n 0, 1) := by decide +kernel
theorem dX11_bid_99 : decode cX11_bid 99 = .ok (.iload_n 1, 1) := by decide +kernel
theorem dX11_bid_100 : decode cX11_bid 100 = .ok (.iconst 4, 1) := by decide +kernel
theorem dX11_bid_101 : decode cX11_bid 101 = .ok (.iload_n 2, 1) := by decide +kernel
theorem dX11_bid_102 : decode cX11_bid 102 = .ok (.invokevirtual 88, 3) := by decide +kernel
theorem dX11_bid_105 : decode cX11_bid 105 = .ok (.iload_n 3, 1) := by decide +kernel
theorem dX11_bid_106 : decode cX11_bid 106 = .ok (.ireturn, 1) := by decide +kernel
theorem dX11_highest_0 : decode cX11_highest 0 = .ok (.iconst (-1), 1) := by decide +kernel
theorem dX11_highest_1 : decode cX11_highest 1 = .ok (.istore_n 2, 1) := by decide +kernel
theorem dX11_highest_2 : decode cX11_highest 2 = .ok (.iconst 0, 1) := by decide +kernel
theorem dX11_highest_3 : decode cX11_highest 3 = .ok (.istore_n 3, 1) := by decide +kernel
theorem dX11_highest_4 : decode cX11_highest 4 = .ok (.iload_n 3, 1) := by decide +kernel
theorem dX11_highest_5 : decode cX11_highest 5 = .ok (.aload_n 0, 1) := by decide +kernel
theorem dX11_highest_6 : decode cX11_highest 6 = .ok (.getfield 9, 3) := by decide +kernel
theorem dX11_highest_9 : decode cX11_highest 9 = .ok (.bipush 8, 2) := by decide +kernel
theorem dX11_highest_11 : decode cX11_highest 11 = .ok (.iaload, 1) := by decide +kernel
theorem dX11_highest_12 : decode cX11_highest 12 = .ok (.if_icmp .ge 47, 3) := by decide +kernel
theorem dX11_highest_15 : decode cX11_highest 15 = .ok (.iload_n 2, 1) := by decide +kernel
theorem dX11_highest_16 : decode cX11_highest 16 = .ok (.ifCond .ge 7, 3) := by decide +kernel
theorem dX11_highest_19 : decode cX11_highest 19 = .ok (.iconst 0, 1) := by decide +kernel
theorem dX11_highest_20 : decode cX11_highest 20 = .ok (.goto 9, 3) := by decide +kernel
theorem dX11_highest_23 : decode cX11_highest 23 = .ok (.aload_n 0, 1) := by decide +kernel
theorem dX11_highest_24 : decode cX11_highest 24 = .ok (.iload_n 2, 1) := by decide +kernel
theorem dX11_highest_25 : decode cX11_highest 25 = .ok (.iconst 4, 1) := by decide +kernel
theorem dX11_highest_26 : decode cX11_highest 26 = .ok (.invokevirtual 74, 3) := by decide +kernel
theorem dX11_highest_29 : decode cX11_highest 29 = .ok (.istore 4, 2) := by decide +kernel
theorem dX11_highest_31 : decode cX11_highest 31 = .ok (.iload_n 3, 1) := by decide +kernel
theorem dX11_highest_32 : decode cX11_highest 32 = .ok (.iload_n 1, 1) := by decide +kernel
theorem dX11_highest_33 : decode cX11_highest 33 = .ok (.if_icmp .eq 18, 3) := by decide +kernel
theorem dX11_highest_36 : decode cX11_highest 36 = .ok (.aload_n 0, 1) := by decide +kernel
theorem dX11_highest_37 : decode cX11_highest 37 = .ok (.iload_n 3, 1) := by decide +kernel
theorem dX11_highest_38 : decode cX11_highest 38 = .ok (.iconst 4, 1) := by decide +kernel
theorem dX11_highest_39 : decode cX11_highest 39 = .ok (.invokevirtual 74, 3) := by decide +kernel
theorem dX11_highest_42 : decode cX11_highest 42 = .ok (.iload 4, 2) := by decide +kernel
theorem dX11_highest_44 : decode cX11_highest 44 = .ok (.if_icmp .le 7, 3) := by decide +kernel
theorem dX11_highest_47 : decode cX11_highest 47 = .ok (.iload_n 3, 1) := by decide +kernel
theorem dX11_highest_48 : decode cX11_highest 48 = .ok (.goto 4, 3) := by decide +kernel
theorem dX11_highest_51 : decode cX11_highest 51 = .ok (.iload_n 2, 1) := by decide +kernel
theorem dX11_highest_52 : decode cX11_highest 52 = .ok (.istore_n 2, 1) := by decide +kernel
theorem dX11_highest_53 : decode cX11_highest 53 = .ok (.iinc 3 1, 3) := by decide +kernel
theorem dX11_highest_56 : decode cX11_highest 56 = .ok (.goto (-52), 3) := by decide +kernel
theorem dX11_highest_59 : decode cX11_highest 59 = .ok (.iload_n 2, 1) := by decide +kernel
theorem dX11_highest_60 : decode cX11_highest 60 = .ok (.ireturn, 1) := by decide +kernel
theorem dX11_sell_0 : decode cX11_sell 0 = .ok (.iload_n 1, 1) := by decide +kernel
theorem dX11_sell_1 : decode cX11_sell 1 = .ok (.iconst 1, 1) := by decide +kernel
theorem dX11_sell_2 : decode cX11_sell 2 = .ok (.bipush 9, 2) := by decide +kernel
theorem dX11_sell_4 : decode cX11_sell 4 = .ok (.invokestatic 66, 3) := by decide +kernel
theorem dX11_sell_7 : decode cX11_sell 7 = .ok (.ifCond .ne 7, 3) := by decide +kernel
theorem dX11_sell_10 : decode cX11_sell 10 = .ok (.sipush (-1012), 3) := by decide +kernel
theorem dX11_sell_13 : decode cX11_sell 13 = .ok (.ireturn, 1) := by decide +kernel
theorem dX11_sell_14 : decode cX11_sell 14 = .ok (.aload_n 0, 1) := by decide +kernel
theorem dX11_sell_15 : decode cX11_sell 15 = .ok (.iconst (-1), 1) := by decide +kernel
theorem dX11_sell_16 : decode cX11_sell 16 = .ok (.invokevirtual 154, 3) := by decide +kernel
theorem dX11_sell_19 : decode cX11_sell 19 = .ok (.istore_n 2, 1) := by decide +kernel
theorem dX11_sell_20 : decode cX11_sell 20 = .ok (.aload_n 0, 1) := by decide +kernel
theorem dX11_sell_21 : decode cX11_sell 21 = .ok (.iload_n 2, 1) := by decide +kernel
theorem dX11_sell_22 : decode cX11_sell 22 = .ok (.ifCond .ge 7, 3) := by decide +kernel
theorem dX11_sell_25 : decode cX11_sell 25 = .ok (.iconst 1, 1) := by decide +kernel
theorem dX11_sell_26 : decode cX11_sell 26 = .ok (.goto 4, 3) := by decide +kernel
theorem dX11_sell_29 : decode cX11_sell 29 = .ok (.iconst 0, 1) := by decide +kernel
theorem dX11_sell_30 : decode cX11_sell 30 = .ok (.bipush 10, 2) := by decide +kernel
theorem dX11_sell_32 : decode cX11_sell 32 = .ok (.aload_n 0, 1) := by decide +kernel
theorem dX11_sell_33 : decode cX11_sell 33 = .ok (.invokevirtual 123, 3) := by decide +kernel
theorem dX11_sell_36 : decode cX11_sell 36 = .ok (.invokevirtual 47, 3) := by decide +kernel
theorem dX11_sell_39 : decode cX11_sell 39 = .ok (.ifCond .eq 7, 3) := by decide +kernel
theorem dX11_sell_42 : decode cX11_sell 42 = .ok (.sipush (-1014), 3) := by decide +kernel
theorem dX11_sell_45 : decode cX11_sell 45 = .ok (.ireturn, 1) := by decide +kernel
theorem dX11_sell_46 : decode cX11_sell 46 = .ok (.aload_n 0, 1) := by decide +kernel
theorem dX11_sell_47 : decode cX11_sell 47 = .ok (.invokevirtual 95, 3) := by decide +kernel
theorem dX11_sell_50 : decode cX11_sell 50 = .ok (.aload_n 0, 1) := by decide +kernel
theorem dX11_sell_51 : decode cX11_sell 51 = .ok (.iload_n 2, 1) := by decide +kernel
theorem dX11_sell_52 : decode cX11_sell 52 = .ok (.invokevirtual 154, 3) := by decide +kernel
theorem dX11_sell_55 : decode cX11_sell 55 = .ok (.istore_n 3, 1) := by decide +kernel
theorem dX11_sell_56 : decode cX11_sell 56 = .ok (.iload_n 3, 1) := by decide +kernel
theorem dX11_sell_57 : decode cX11_sell 57 = .ok (.ifCond .ge 7, 3) := by decide +kernel
theorem dX11_sell_60 : decode cX11_sell 60 = .ok (.iconst 0, 1) := by decide +kernel
theorem dX11_sell_61 : decode cX11_sell 61 = .ok (.goto 9, 3) := by decide +kernel
theorem dX11_sell_64 : decode cX11_sell 64 = .ok (.aload_n 0, 1) := by decide +kernel
theorem dX11_sell_65 : decode cX11_sell 65 = .ok (.iload_n 3, 1) := by decide +kernel
theorem dX11_sell_66 : decode cX11_sell 66 = .ok (.iconst 4, 1) := by decide +kernel
theorem dX11_sell_67 : decode cX11_sell 67 = .ok (.invokevirtual 74, 3) := by decide +kernel
theorem dX11_sell_70 : decode cX11_sell 70 = .ok (.istore 4, 2) := by decide +kernel
theorem dX11_sell_72 : decode cX11_sell 72 = .ok (.aload_n 0, 1) := by decide +kernel
theorem dX11_sell_73 : decode cX11_sell 73 = .ok (.iload_n 2, 1) := by decide +kernel
theorem dX11_sell_74 : decode cX11_sell 74 = .ok (.iconst 3, 1) := by decide +kernel
theorem dX11_sell_75 : decode cX11_sell 75 = .ok (.aload_n 0, 1) := by decide +kernel
theorem dX11_sell_76 : decode cX11_sell 76 = .ok (.iload_n 2, 1) := by decide +kernel
theorem dX11_sell_77 : decode cX11_sell 77 = .ok (.iconst 3, 1) := by decide +kernel
theorem dX11_sell_78 : decode cX11_sell 78 = .ok (.invokevirtual 74, 3) := by decide +kernel
theorem dX11_sell_81 : decode cX11_sell 81 = .ok (.iload 4, 2) := by decide +kernel
theorem dX11_sell_83 : decode cX11_sell 83 = .ok (.isub, 1) := by decide +kernel
theorem dX11_sell_84 : decode cX11_sell 84 = .ok (.invokevirtual 88, 3) := by decide +kernel
theorem dX11_sell_87 : decode cX11_sell 87 = .ok (.aload_n 0, 1) := by decide +kernel
theorem dX11_sell_88 : decode cX11_sell 88 = .ok (.getfield 9, 3) := by decide +kernel
theorem dX11_sell_91 : decode cX11_sell 91 = .ok (.iconst 0, 1) := by decide +kernel
theorem dX11_sell_92 : decode cX11_sell 92 = .ok (.dup2, 1) := by decide +kernel
theorem dX11_sell_93 : decode cX11_sell 93 = .ok (.iaload, 1) := by decide +kernel
theorem dX11_sell_94 : decode cX11_sell 94 = .ok (.iload 4, 2) := by decide +kernel
theorem dX11_sell_96 : decode cX11_sell 96 = .ok (.iadd, 1) := by decide +kernel
theorem dX11_sell_97 : decode cX11_sell 97 = .ok (.iastore, 1) := by decide +kernel
theorem dX11_sell_98 : decode cX11_sell 98 = .ok (.aload_n 0, 1) := by decide +kernel
theorem dX11_sell_99 : decode cX11_sell 99 = .ok (.aload_n 0, 1) := by decide +kernel
theorem dX11_sell_100 : decode cX11_sell 100 = .ok (.iload_n 2, 1) := by decide +kernel
theorem dX11_sell_101 : decode cX11_sell 101 = .ok (.iconst 5, 1) := by decide +kernel
theorem dX11_sell_102 : decode cX11_sell 102 = .ok (.invokevirtual 74, 3) := by decide +kernel
theorem dX11_sell_105 : decode cX11_sell 105 = .ok (.iconst 2, 1) := by decide +kernel
theorem dX11_sell_106 : decode cX11_sell 106 = .ok (.iload_n 1, 1) := by decide +kernel
theorem dX11_sell_107 : decode cX11_sell 107 = .ok (.invokevirtual 92, 3) := by decide +kernel
theorem dX11_sell_110 : decode cX11_sell 110 = .ok (.iconst 0, 1) := by decide +kernel
theorem dX11_sell_111 : decode cX11_sell 111 = .ok (.istore 5, 2) := by decide +kernel
theorem dX11_sell_113 : decode cX11_sell 113 = .ok (.iload 5, 2) := by decide +kernel
theorem dX11_sell_115 : decode cX11_sell 115 = .ok (.aload_n 0, 1) := by decide +kernel
theorem dX11_sell_116 : decode cX11_sell 116 = .ok (.getfield 9, 3) := by decide +kernel
theorem dX11_sell_119 : decode cX11_sell 119 = .ok (.bipush 8, 2) := by decide +kernel
theorem dX11_sell_121 : decode cX11_sell 121 = .ok (.iaload, 1) := by decide +kernel
theorem dX11_sell_122 : decode cX11_sell 122 = .ok (.if_icmp .ge 17, 3) := by decide +kernel
theorem dX11_sell_125 : decode cX11_sell 125 = .ok (.aload_n 0, 1) := by decide +kernel
theorem dX11_sell_126 : decode cX11_sell 126 = .ok (.iload 5, 2) := by decide +kernel
theorem dX11_sell_128 : decode cX11_sell 128 = .ok (.iconst 4, 1) := by decide +kernel
theorem dX11_sell_129 : decode cX11_sell 129 = .ok (.iconst 0, 1) := by decide +kernel
theorem dX11_sell_130 : decode cX11_sell 130 = .ok (.invokevirtual 88, 3) := by decide +kernel
theorem dX11_sell_133 : decode cX11_sell 133 = .ok (.iinc 5 1, 3) := by decide +kernel
theorem dX11_sell_136 : decode cX11_sell 136 = .ok (.goto (-23), 3) := by decide +kernel
theorem dX11_sell_139 : decode cX11_sell 139 = .ok (.aload_n 0, 1) := by decide +kernel
theorem dX11_sell_140 : decode cX11_sell 140 = .ok (.getfield 9, 3) := by decide +kernel
theorem dX11_sell_143 : decode cX11_sell 143 = .ok (.bipush 6, 2) := by decide +kernel
theorem dX11_sell_145 : decode cX11_sell 145 = .ok (.dup2, 1) := by decide +kernel
theorem dX11_sell_146 : decode cX11_sell 146 = .ok (.iaload, 1) := by decide +kernel
theorem dX11_sell_147 : decode cX11_sell 147 = .ok (.iconst 1, 1) := by decide +kernel
theorem dX11_sell_148 : decode cX11_sell 148 = .ok (.iadd, 1) := by decide +kernel
theorem dX11_sell_149 : decode cX11_sell 149 = .ok (.iastore, 1) := by decide +kernel
theorem dX11_sell_150 : decode cX11_sell 150 = .ok (.iload 4, 2) := by decide +kernel
theorem dX11_sell_152 : decode cX11_sell 152 = .ok (.ireturn, 1) := by decide +kernel
theorem dX11_pay_0 : decode cX11_pay 0 = .ok (.aload_n 0, 1) := by decide +kernel
theorem dX11_pay_1 : decode cX11_pay 1 = .ok (.iload_n 1, 1) := by decide +kernel
theorem dX11_pay_2 : decode cX11_pay 2 = .ok (.iconst 3, 1) := by decide +kernel
theorem dX11_pay_3 : decode cX11_pay 3 = .ok (.invokevirtual 74, 3) := by decide +kernel
theorem dX11_pay_6 : decode cX11_pay 6 = .ok (.iload_n 2, 1) := by decide +kernel
theorem dX11_pay_7 : decode cX11_pay 7 = .ok (.iadd, 1) := by decide +kernel
theorem dX11_pay_8 : decode cX11_pay 8 = .ok (.istore_n 3, 1) := by decide +kernel
theorem dX11_pay_9 : decode cX11_pay 9 = .ok (.iload_n 3, 1) := by decide +kernel
theorem dX11_pay_10 : decode cX11_pay 10 = .ok (.bipush 99, 2) := by decide +kernel
theorem dX11_pay_12 : decode cX11_pay 12 = .ok (.if_icmp .le 10, 3) := by decide +kernel
theorem dX11_pay_15 : decode cX11_pay 15 = .ok (.iload_n 3, 1) := by decide +kernel
theorem dX11_pay_16 : decode cX11_pay 16 = .ok (.bipush 99, 2) := by decide +kernel
theorem dX11_pay_18 : decode cX11_pay 18 = .ok (.isub, 1) := by decide +kernel
theorem dX11_pay_19 : decode cX11_pay 19 = .ok (.goto 4, 3) := by decide +kernel
theorem dX11_pay_22 : decode cX11_pay 22 = .ok (.iconst 0, 1) := by decide +kernel
theorem dX11_pay_23 : decode cX11_pay 23 = .ok (.istore 4, 2) := by decide +kernel
theorem dX11_pay_25 : decode cX11_pay 25 = .ok (.aload_n 0, 1) := by decide +kernel
theorem dX11_pay_26 : decode cX11_pay 26 = .ok (.iload_n 1, 1) := by decide +kernel
theorem dX11_pay_27 : decode cX11_pay 27 = .ok (.iconst 3, 1) := by decide +kernel
theorem dX11_pay_28 : decode cX11_pay 28 = .ok (.iload_n 3, 1) := by decide +kernel
theorem dX11_pay_29 : decode cX11_pay 29 = .ok (.iload 4, 2) := by decide +kernel
theorem dX11_pay_31 : decode cX11_pay 31 = .ok (.isub, 1) := by decide +kernel
theorem dX11_pay_32 : decode cX11_pay 32 = .ok (.invokevirtual 88, 3) := by decide +kernel
theorem dX11_pay_35 : decode cX11_pay 35 = .ok (.aload_n 0, 1) := by decide +kernel
theorem dX11_pay_36 : decode cX11_pay 36 = .ok (.getfield 9, 3) := by decide +kernel
theorem dX11_pay_39 : decode cX11_pay 39 = .ok (.iconst 1, 1) := by decide +kernel
theorem dX11_pay_40 : decode cX11_pay 40 = .ok (.dup2, 1) := by decide +kernel
theorem dX11_pay_41 : decode cX11_pay 41 = .ok (.iaload, 1) := by decide +kernel
theorem dX11_pay_42 : decode cX11_pay 42 = .ok (.iload_n 2, 1) := by decide +kernel
theorem dX11_pay_43 : decode cX11_pay 43 = .ok (.iadd, 1) := by decide +kernel
theorem dX11_pay_44 : decode cX11_pay 44 = .ok (.iastore, 1) := by decide +kernel
theorem dX11_pay_45 : decode cX11_pay 45 = .ok (.aload_n 0, 1) := by decide +kernel
theorem dX11_pay_46 : decode cX11_pay 46 = .ok (.getfield 9, 3) := by decide +kernel
theorem dX11_pay_49 : decode cX11_pay 49 = .ok (.iconst 3, 1) := by decide +kernel
theorem dX11_pay_50 : decode cX11_pay 50 = .ok (.dup2, 1) := by decide +kernel
theorem dX11_pay_51 : decode cX11_pay 51 = .ok (.iaload, 1) := by decide +kernel
theorem dX11_pay_52 : decode cX11_pay 52 = .ok (.iload 4, 2) := by decide +kernel
theorem dX11_pay_54 : decode cX11_pay 54 = .ok (.iadd, 1) := by decide +kernel
theorem dX11_pay_55 : decode cX11_pay 55 = .ok (.iastore, 1) := by decide +kernel
theorem dX11_pay_56 : decode cX11_pay 56 = .ok (.return_, 1) := by decide +kernel
theorem dX11_wear_0 : decode cX11_wear 0 = .ok (.aload_n 0, 1) := by decide +kernel
theorem dX11_wear_1 : decode cX11_wear 1 = .ok (.iload_n 1, 1) := by decide +kernel
theorem dX11_wear_2 : decode cX11_wear 2 = .ok (.bipush 6, 2) := by decide +kernel
theorem dX11_wear_4 : decode cX11_wear 4 = .ok (.invokevirtual 70, 3) := by decide +kernel
theorem dX11_wear_7 : decode cX11_wear 7 = .ok (.istore_n 3, 1) := by decide +kernel
theorem dX11_wear_8 : decode cX11_wear 8 = .ok (.iload_n 3, 1) := by decide +kernel
theorem dX11_wear_9 : decode cX11_wear 9 = .ok (.ifCond .ge 7, 3) := by decide +kernel
theorem dX11_wear_12 : decode cX11_wear 12 = .ok (.iconst 0, 1) := by decide +kernel
theorem dX11_wear_13 : decode cX11_wear 13 = .ok (.goto 32, 3) := by decide +kernel
theorem dX11_wear_16 : decode cX11_wear 16 = .ok (.aload_n 0, 1) := by decide +kernel
theorem dX11_wear_17 : decode cX11_wear 17 = .ok (.iload_n 3, 1) := by decide +kernel
theorem dX11_wear_18 : decode cX11_wear 18 = .ok (.iconst 1, 1) := by decide +kernel
theorem dX11_wear_19 : decode cX11_wear 19 = .ok (.invokevirtual 74, 3) := by decide +kernel
theorem dX11_wear_22 : decode cX11_wear 22 = .ok (.aload_n 0, 1) := by decide +kernel
theorem dX11_wear_23 : decode cX11_wear 23 = .ok (.iload_n 1, 1) := by decide +kernel
theorem dX11_wear_24 : decode cX11_wear 24 = .ok (.iconst 1, 1) := by decide +kernel
theorem dX11_wear_25 : decode cX11_wear 25 = .ok (.invokevirtual 70, 3) := by decide +kernel
theorem dX11_wear_28 : decode cX11_wear 28 = .ok (.if_icmp .ge 7, 3) := by decide +kernel
theorem dX11_wear_31 : decode cX11_wear 31 = .ok (.iload_n 2, 1) := by decide +kernel
theorem dX11_wear_32 : decode cX11_wear 32 = .ok (.goto 13, 3) := by decide +kernel
theorem dX11_wear_35 : decode cX11_wear 35 = .ok (.iload_n 2, 1) := by decide +kernel
theorem dX11_wear_36 : decode cX11_wear 36 = .ok (.iconst 4, 1) := by decide +kernel
theorem dX11_wear_37 : decode cX11_wear 37 = .ok (.if_icmp .ne 7, 3) := by decide +kernel
theorem dX11_wear_40 : decode cX11_wear 40 = .ok (.iconst 1, 1) := by decide +kernel
theorem dX11_wear_41 : decode cX11_wear 41 = .ok (.goto 4, 3) := by decide +kernel
theorem dX11_wear_44 : decode cX11_wear 44 = .ok (.iconst 0, 1) := by decide +kernel
theorem dX11_wear_45 : decode cX11_wear 45 = .ok (.ireturn, 1) := by decide +kernel
theorem dX11_wearDown_0 : decode cX11_wearDown 0 = .ok (.aload_n 0, 1) := by decide +kernel
theorem dX11_wearDown_1 : decode cX11_wearDown 1 = .ok (.iload_n 1, 1) := by decide +kernel
theorem dX11_wearDown_2 : decode cX11_wearDown 2 = .ok (.iload_n 2, 1) := by decide +kernel
theorem dX11_wearDown_3 : decode cX11_wearDown 3 = .ok (.invokevirtual 157, 3) := by decide +kernel
theorem dX11_wearDown_6 : decode cX11_wearDown 6 = .ok (.istore_n 3, 1) := by decide +kernel
theorem dX11_wearDown_7 : decode cX11_wearDown 7 = .ok (.aload_n 0, 1) := by decide +kernel
theorem dX11_wearDown_8 : decode cX11_wearDown 8 = .ok (.iload_n 1, 1) := by decide +kernel
theorem dX11_wearDown_9 : decode cX11_wearDown 9 = .ok (.iconst 3, 1) := by decide +kernel
theorem dX11_wearDown_10 : decode cX11_wearDown 10 = .ok (.invokevirtual 70, 3) := by decide +kernel
theorem dX11_wearDown_13 : decode cX11_wearDown 13 = .ok (.istore 4, 2) := by decide +kernel
theorem dX11_wearDown_15 : decode cX11_wearDown 15 = .ok (.iload 4, 2) := by decide +kernel
theorem dX11_wearDown_17 : decode cX11_wearDown 17 = .ok (.iload_n 3, 1) := by decide +kernel
theorem dX11_wearDown_18 : decode cX11_wearDown 18 = .ok (.if_icmp .ge 7, 3) := by decide +kernel
theorem dX11_wearDown_21 : decode cX11_wearDown 21 = .ok (.iconst 0, 1) := by decide +kernel
theorem dX11_wearDown_22 : decode cX11_wearDown 22 = .ok (.goto 7, 3) := by decide +kernel
theorem dX11_wearDown_25 : decode cX11_wearDown 25 = .ok (.iload 4, 2) := by decide +kernel
theorem dX11_wearDown_27 : decode cX11_wearDown 27 = .ok (.iload_n 3, 1) := by decide +kernel
theorem dX11_wearDown_28 : decode cX11_wearDown 28 = .ok (.isub, 1) := by decide +kernel
theorem dX11_wearDown_29 : decode cX11_wearDown 29 = .ok (.istore 5, 2) := by decide +kernel
theorem dX11_wearDown_31 : decode cX11_wearDown 31 = .ok (.aload_n 0, 1) := by decide +kernel
theorem dX11_wearDown_32 : decode cX11_wearDown 32 = .ok (.iload_n 1, 1) := by decide +kernel
theorem dX11_wearDown_33 : decode cX11_wearDown 33 = .ok (.iconst 3, 1) := by decide +kernel
theorem dX11_wearDown_34 : decode cX11_wearDown 34 = .ok (.iload 5, 2) := by decide +kernel
theorem dX11_wearDown_36 : decode cX11_wearDown 36 = .ok (.invokevirtual 92, 3) := by decide +kernel
theorem dX11_wearDown_39 : decode cX11_wearDown 39 = .ok (.iload_n 3, 1) := by decide +kernel
theorem dX11_wearDown_40 : decode cX11_wearDown 40 = .ok (.ifCond .le 19, 3) := by decide +kernel
theorem dX11_wearDown_43 : decode cX11_wearDown 43 = .ok (.iload 5, 2) := by decide +kernel
theorem dX11_wearDown_45 : decode cX11_wearDown 45 = .ok (.ifCond .ne 14, 3) := by decide +kernel
theorem dX11_wearDown_48 : decode cX11_wearDown 48 = .ok (.aload_n 0, 1) := by decide +kernel
theorem dX11_wearDown_49 : decode cX11_wearDown 49 = .ok (.aload_n 0, 1) := by decide +kernel
theorem dX11_wearDown_50 : decode cX11_wearDown 50 = .ok (.iload_n 1, 1) := by decide +kernel
theorem dX11_wearDown_51 : decode cX11_wearDown 51 = .ok (.bipush 6, 2) := by decide +kernel
theorem dX11_wearDown_53 : decode cX11_wearDown 53 = .ok (.invokevirtual 70, 3) := by decide +kernel
theorem dX11_wearDown_56 : decode cX11_wearDown 56 = .ok (.invokevirtual 126, 3) := by decide +kernel
theorem dX11_wearDown_59 : decode cX11_wearDown 59 = .ok (.return_, 1) := by decide +kernel
theorem dX11_concert_0 : decode cX11_concert 0 = .ok (.iload_n 1, 1) := by decide +kernel
theorem dX11_concert_1 : decode cX11_concert 1 = .ok (.iconst 1, 1) := by decide +kernel
theorem dX11_concert_2 : decode cX11_concert 2 = .ok (.iconst 4, 1) := by decide +kernel
theorem dX11_concert_3 : decode cX11_concert 3 = .ok (.invokestatic 66, 3) := by decide +kernel
theorem dX11_concert_6 : decode cX11_concert 6 = .ok (.ifCond .ne 7, 3) := by decide +kernel
theorem dX11_concert_9 : decode cX11_concert 9 = .ok (.sipush (-1012), 3) := by decide +kernel
theorem dX11_concert_12 : decode cX11_concert 12 = .ok (.ireturn, 1) := by decide +kernel
theorem dX11_concert_13 : decode cX11_concert 13 = .ok (.aload_n 0, 1) := by decide +kernel
theorem dX11_concert_14 : decode cX11_concert 14 = .ok (.aload_n 0, 1) := by decide +kernel
theorem dX11_concert_15 : decode cX11_concert 15 = .ok (.invokevirtual 123, 3) := by decide +kernel
theorem dX11_concert_18 : decode cX11_concert 18 = .ok (.ifCond .ne 7, 3) := by decide +kernel
theorem dX11_concert_21 : decode cX11_concert 21 = .ok (.iconst 1, 1) := by decide +kernel
theorem dX11_concert_22 : decode cX11_concert 22 = .ok (.goto 4, 3) := by decide +kernel
theorem dX11_concert_25 : decode cX11_concert 25 = .ok (.iconst 0, 1) := by decide +kernel
theorem dX11_concert_26 : decode cX11_concert 26 = .ok (.bipush 11, 2) := by decide +kernel
theorem dX11_concert_28 : decode cX11_concert 28 = .ok (.aload_n 0, 1) := by decide +kernel
theorem dX11_concert_29 : decode cX11_concert 29 = .ok (.getfield 9, 3) := by decide +kernel
theorem dX11_concert_32 : decode cX11_concert 32 = .ok (.bipush 8, 2) := by decide +kernel
theorem dX11_concert_34 : decode cX11_concert 34 = .ok (.iaload, 1) := by decide +kernel
theorem dX11_concert_35 : decode cX11_concert 35 = .ok (.invokevirtual 47, 3) := by decide +kernel
theorem dX11_concert_38 : decode cX11_concert 38 = .ok (.ifCond .eq 7, 3) := by decide +kernel
theorem dX11_concert_41 : decode cX11_concert 41 = .ok (.sipush (-1014), 3) := by decide +kernel
theorem dX11_concert_44 : decode cX11_concert 44 = .ok (.ireturn, 1) := by decide +kernel
theorem dX11_concert_45 : decode cX11_concert 45 = .ok (.aload_n 0, 1) := by decide +kernel
theorem dX11_concert_46 : decode cX11_concert 46 = .ok (.invokevirtual 95, 3) := by decide +kernel
theorem dX11_concert_49 : decode cX11_concert 49 = .ok (.iconst 0, 1) := by decide +kernel
theorem dX11_concert_50 : decode cX11_concert 50 = .ok (.istore_n 2, 1) := by decide +kernel
theorem dX11_concert_51 : decode cX11_concert 51 = .ok (.iconst 0, 1) := by decide +kernel
theorem dX11_concert_52 : decode cX11_concert 52 = .ok (.istore_n 3, 1) := by decide +kernel
theorem dX11_concert_53 : decode cX11_concert 53 = .ok (.iload_n 3, 1) := by decide +kernel
theorem dX11_concert_54 : decode cX11_concert 54 = .ok (.aload_n 0, 1) := by decide +kernel
theorem dX11_concert_55 : decode cX11_concert 55 = .ok (.getfield 9, 3) := by decide +kernel
theorem dX11_concert_58 : decode cX11_concert 58 = .ok (.bipush 8, 2) := by decide +kernel
theorem dX11_concert_60 : decode cX11_concert 60 = .ok (.iaload, 1) := by decide +kernel
theorem dX11_concert_61 : decode cX11_concert 61 = .ok (.if_icmp .ge 78, 3) := by decide +kernel
theorem dX11_concert_64 : decode cX11_concert 64 = .ok (.aload_n 0, 1) := by decide +kernel
theorem dX11_concert_65 : decode cX11_concert 65 = .ok (.iload_n 3, 1) := by decide +kernel
theorem dX11_concert_66 : decode cX11_concert 66 = .ok (.iconst 5, 1) := by decide +kernel
theorem dX11_concert_67 : decode cX11_concert 67 = .ok (.invokevirtual 74, 3) := by decide +kernel
theorem dX11_concert_70 : decode cX11_concert 70 = .ok (.istore 4, 2) := by decide +kernel
theorem dX11_concert_72 : decode cX11_concert 72 = .ok (.iload 4, 2) := by decide +kernel
theorem dX11_concert_74 : decode cX11_concert 74 = .ok (.ifCond .lt 59, 3) := by decide +kernel
theorem dX11_concert_77 : decode cX11_concert 77 = .ok (.aload_n 0, 1) := by decide +kernel
theorem dX11_concert_78 : decode cX11_concert 78 = .ok (.iload 4, 2) := by decide +kernel
theorem dX11_concert_80 : decode cX11_concert 80 = .ok (.iload_n 3, 1) := by decide +kernel
theorem dX11_concert_81 : decode cX11_concert 81 = .ok (.invokevirtual 77, 3) := by decide +kernel
theorem dX11_concert_84 : decode cX11_concert 84 = .ok (.istore 5, 2) := by decide +kernel
theorem dX11_concert_86 : decode cX11_concert 86 = .ok (.aload_n 0, 1) := by decide +kernel
theorem dX11_concert_87 : decode cX11_concert 87 = .ok (.iload_n 3, 1) := by decide +kernel
theorem dX11_concert_88 : decode cX11_concert 88 = .ok (.iload 5, 2) := by decide +kernel
theorem dX11_concert_90 : decode cX11_concert 90 = .ok (.iconst 3, 1) := by decide +kernel
theorem dX11_concert_91 : decode cX11_concert 91 = .ok (.idiv, 1) := by decide +kernel
theorem dX11_concert_92 : decode cX11_concert 92 = .ok (.invokevirtual 160, 3) := by decide +kernel
theorem dX11_concert_95 : decode cX11_concert 95 = .ok (.aload_n 0, 1) := by decide +kernel
theorem dX11_concert_96 : decode cX11_concert 96 = .ok (.iload 4, 2) := by decide +kernel
theorem dX11_concert_98 : decode cX11_concert 98 = .ok (.iconst 5, 1) := by decide +kernel
theorem dX11_concert_99 : decode cX11_concert 99 = .ok (.aload_n 0, 1) := by decide +kernel
theorem dX11_concert_100 : decode cX11_concert 100 = .ok (.iload 4, 2) := by decide +kernel
theorem dX11_concert_102 : decode cX11_concert 102 = .ok (.iconst 5, 1) := by decide +kernel
theorem dX11_concert_103 : decode cX11_concert 103 = .ok (.invokevirtual 70, 3) := by decide +kernel
theorem dX11_concert_106 : decode cX11_concert 106 = .ok (.iload 5, 2) := by decide +kernel
theorem dX11_concert_108 : decode cX11_concert 108 = .ok (.iadd, 1) := by decide +kernel
theorem dX11_concert_109 : decode cX11_concert 109 = .ok (.invokevirtual 92, 3) := by decide +kernel
theorem dX11_concert_112 : decode cX11_concert 112 = .ok (.aload_n 0, 1) := by decide +kernel
theorem dX11_concert_113 : decode cX11_concert 113 = .ok (.iload_n 3, 1) := by decide +kernel
theorem dX11_concert_114 : decode cX11_concert 114 = .ok (.bipush 6, 2) := by decide +kernel
theorem dX11_concert_116 : decode cX11_concert 116 = .ok (.aload_n 0, 1) := by decide +kernel
theorem dX11_concert_117 : decode cX11_concert 117 = .ok (.iload_n 3, 1) := by decide +kernel
theorem dX11_concert_118 : decode cX11_concert 118 = .ok (.bipush 6, 2) := by decide +kernel
theorem dX11_concert_120 : decode cX11_concert 120 = .ok (.invokevirtual 74, 3) := by decide +kernel
theorem dX11_concert_123 : decode cX11_concert 123 = .ok (.iconst 1, 1) := by decide +kernel
theorem dX11_concert_124 : decode cX11_concert 124 = .ok (.iadd, 1) := by decide +kernel
theorem dX11_concert_125 : decode cX11_concert 125 = .ok (.invokevirtual 88, 3) := by decide +kernel
theorem dX11_concert_128 : decode cX11_concert 128 = .ok (.iload_n 2, 1) := by decide +kernel
theorem dX11_concert_129 : decode cX11_concert 129 = .ok (.iload 5, 2) := by decide +kernel
theorem dX11_concert_131 : decode cX11_concert 131 = .ok (.iadd, 1) := by decide +kernel
theorem dX11_concert_132 : decode cX11_concert 132 = .ok (.istore_n 2, 1) := by decide +kernel
theorem dX11_concert_133 : decode cX11_concert 133 = .ok (.iinc 3 1, 3) := by decide +kernel
theorem dX11_concert_136 : decode cX11_concert 136 = .ok (.goto (-83), 3) := by decide +kernel
theorem dX11_concert_139 : decode cX11_concert 139 = .ok (.iconst 0, 1) := by decide +kernel
theorem dX11_concert_140 : decode cX11_concert 140 = .ok (.istore_n 3, 1) := by decide +kernel
theorem dX11_concert_141 : decode cX11_concert 141 = .ok (.iload_n 3, 1) := by decide +kernel
theorem dX11_concert_142 : decode cX11_concert 142 = .ok (.aload_n 0, 1) := by decide +kernel
theorem dX11_concert_143 : decode cX11_concert 143 = .ok (.getfield 9, 3) := by decide +kernel
theorem dX11_concert_146 : decode cX11_concert 146 = .ok (.bipush 7, 2) := by decide +kernel
theorem dX11_concert_148 : decode cX11_concert 148 = .ok (.iaload, 1) := by decide +kernel
theorem dX11_concert_149 : decode cX11_concert 149 = .ok (.if_icmp .ge 15, 3) := by decide +kernel
theorem dX11_concert_152 : decode cX11_concert 152 = .ok (.aload_n 0, 1) := by decide +kernel
theorem dX11_concert_153 : decode cX11_concert 153 = .ok (.iload_n 3, 1) := by decide +kernel
theorem dX11_concert_154 : decode cX11_concert 154 = .ok (.iload_n 1, 1) := by decide +kernel
theorem dX11_concert_155 : decode cX11_concert 155 = .ok (.invokevirtual 163, 3) := by decide +kernel
theorem dX11_concert_158 : decode cX11_concert 158 = .ok (.iinc 3 1, 3) := by decide +kernel
theorem dX11_concert_161 : decode cX11_concert 161 = .ok (.goto (-20), 3) := by decide +kernel
theorem dX11_concert_164 : decode cX11_concert 164 = .ok (.aload_n 0, 1) := by decide +kernel
theorem dX11_concert_165 : decode cX11_concert 165 = .ok (.getfield 9, 3) := by decide +kernel
theorem dX11_concert_168 : decode cX11_concert 168 = .ok (.iconst 4, 1) := by decide +kernel
theorem dX11_concert_169 : decode cX11_concert 169 = .ok (.dup2, 1) := by decide +kernel
theorem dX11_concert_170 : decode cX11_concert 170 = .ok (.iaload, 1) := by decide +kernel
theorem dX11_concert_171 : decode cX11_concert 171 = .ok (.iconst 1, 1) := by decide +kernel
theorem dX11_concert_172 : decode cX11_concert 172 = .ok (.iadd, 1) := by decide +kernel
theorem dX11_concert_173 : decode cX11_concert 173 = .ok (.iastore, 1) := by decide +kernel
theorem dX11_concert_174 : decode cX11_concert 174 = .ok (.iload_n 2, 1) := by decide +kernel
theorem dX11_concert_175 : decode cX11_concert 175 = .ok (.ireturn, 1) := by decide +kernel
theorem dX11_lasts_0 : decode cX11_lasts 0 = .ok (.iload_n 1, 1) := by decide +kernel
theorem dX11_lasts_1 : decode cX11_lasts 1 = .ok (.iconst 1, 1) := by decide +kernel
theorem dX11_lasts_2 : decode cX11_lasts 2 = .ok (.iconst 4, 1) := by decide +kernel
theorem dX11_lasts_3 : decode cX11_lasts 3 = .ok (.invokestatic 66, 3) := by decide +kernel
theorem dX11_lasts_6 : decode cX11_lasts 6 = .ok (.ifCond .ne 7, 3) := by decide +kernel
theorem dX11_lasts_9 : decode cX11_lasts 9 = .ok (.sipush (-1012), 3) := by decide +kernel
theorem dX11_lasts_12 : decode cX11_lasts 12 = .ok (.ireturn, 1) := by decide +kernel
theorem dX11_lasts_13 : decode cX11_lasts 13 = .ok (.sipush (-1015), 3) := by decide +kernel
theorem dX11_lasts_16 : decode cX11_lasts 16 = .ok (.istore_n 2, 1) := by decide +kernel
theorem dX11_lasts_17 : decode cX11_lasts 17 = .ok (.iconst 0, 1) := by decide +kernel
theorem dX11_lasts_18 : decode cX11_lasts 18 = .ok (.istore_n 3, 1) := by decide +kernel
theorem dX11_lasts_19 : decode cX11_lasts 19 = .ok (.iload_n 3, 1) := by decide +kernel
theorem dX11_lasts_20 : decode cX11_lasts 20 = .ok (.aload_n 0, 1) := by decide +kernel
theorem dX11_lasts_21 : decode cX11_lasts 21 = .ok (.getfield 9, 3) := by decide +kernel
theorem dX11_lasts_24 : decode cX11_lasts 24 = .ok (.bipush 7, 2) := by decide +kernel
theorem dX11_lasts_26 : decode cX11_lasts 26 = .ok (.iaload, 1) := by decide +kernel
theorem dX11_lasts_27 : decode cX11_lasts 27 = .ok (.if_icmp .ge 64, 3) := by decide +kernel
theorem dX11_lasts_30 : decode cX11_lasts 30 = .ok (.aload_n 0, 1) := by decide +kernel
theorem dX11_lasts_31 : decode cX11_lasts 31 = .ok (.iload_n 3, 1) := by decide +kernel
theorem dX11_lasts_32 : decode cX11_lasts 32 = .ok (.iload_n 1, 1) := by decide +kernel
theorem dX11_lasts_33 : decode cX11_lasts 33 = .ok (.invokevirtual 157, 3) := by decide +kernel
theorem dX11_lasts_36 : decode cX11_lasts 36 = .ok (.istore 4, 2) := by decide +kernel
theorem dX11_lasts_38 : decode cX11_lasts 38 = .ok (.iload 4, 2) := by decide +kernel
theorem dX11_lasts_40 : decode cX11_lasts 40 = .ok (.ifCond .ne 7, 3) := by decide +kernel
theorem dX11_lasts_43 : decode cX11_lasts 43 = .ok (.iconst 0, 1) := by decide +kernel
theorem dX11_lasts_44 : decode cX11_lasts 44 = .ok (.goto 14, 3) := by decide +kernel
theorem dX11_lasts_47 : decode cX11_lasts 47 = .ok (.aload_n 0, 1) := by decide +kernel
theorem dX11_lasts_48 : decode cX11_lasts 48 = .ok (.iload_n 3, 1) := by decide +kernel
theorem dX11_lasts_49 : decode cX11_lasts 49 = .ok (.iconst 3, 1) := by decide +kernel
theorem dX11_lasts_50 : decode cX11_lasts 50 = .ok (.invokevirtual 70, 3) := by decide +kernel
theorem dX11_lasts_53 : decode cX11_lasts 53 = .ok (.iconst 1, 1) := by decide +kernel
theorem dX11_lasts_54 : decode cX11_lasts 54 = .ok (.isub, 1) := by decide +kernel
theorem dX11_lasts_55 : decode cX11_lasts 55 = .ok (.iload 4, 2) := by decide +kernel
theorem dX11_lasts_57 : decode cX11_lasts 57 = .ok (.idiv, 1) := by decide +kernel
theorem dX11_lasts_58 : decode cX11_lasts 58 = .ok (.istore 5, 2) := by decide +kernel
theorem dX11_lasts_60 : decode cX11_lasts 60 = .ok (.iload 4, 2) := by decide +kernel
theorem dX11_lasts_62 : decode cX11_lasts 62 = .ok (.ifCond .le 21, 3) := by decide +kernel
theorem dX11_lasts_65 : decode cX11_lasts 65 = .ok (.iload_n 2, 1) := by decide +kernel
theorem dX11_lasts_66 : decode cX11_lasts 66 = .ok (.sipush (-1015), 3) := by decide +kernel
theorem dX11_lasts_69 : decode cX11_lasts 69 = .ok (.if_icmp .eq 9, 3) := by decide +kernel
theorem dX11_lasts_72 : decode cX11_lasts 72 = .ok (.iload 5, 2) := by decide +kernel
theorem dX11_lasts_74 : decode cX11_lasts 74 = .ok (.iload_n 2, 1) := by decide +kernel
theorem dX11_lasts_75 : decode cX11_lasts 75 = .ok (.if_icmp .ge 8, 3) := by decide +kernel
theorem dX11_lasts_78 : decode cX11_lasts 78 = .ok (.iload 5, 2) := by decide +kernel
theorem dX11_lasts_80 : decode cX11_lasts 80 = .ok (.goto 4, 3) := by decide +kernel
theorem dX11_lasts_83 : decode cX11_lasts 83 = .ok (.iload_n 2, 1) := by decide +kernel
theorem dX11_lasts_84 : decode cX11_lasts 84 = .ok (.istore_n 2, 1) := by decide +kernel
theorem dX11_lasts_85 : decode cX11_lasts 85 = .ok (.iinc 3 1, 3) := by decide +kernel
theorem dX11_lasts_88 : decode cX11_lasts 88 = .ok (.goto (-69), 3) := by decide +kernel
theorem dX11_lasts_91 : decode cX11_lasts 91 = .ok (.iload_n 2, 1) := by decide +kernel
theorem dX11_lasts_92 : decode cX11_lasts 92 = .ok (.ireturn, 1) := by decide +kernel
theorem dX11_raise_0 : decode cX11_raise 0 = .ok (.aload_n 0, 1) := by decide +kernel
theorem dX11_raise_1 : decode cX11_raise 1 = .ok (.iload_n 1, 1) := by decide +kernel
theorem dX11_raise_2 : decode cX11_raise 2 = .ok (.invokevirtual 98, 3) := by decide +kernel
theorem dX11_raise_5 : decode cX11_raise 5 = .ok (.ifCond .ne 7, 3) := by decide +kernel
theorem dX11_raise_8 : decode cX11_raise 8 = .ok (.sipush (-1011), 3) := by decide +kernel
theorem dX11_raise_11 : decode cX11_raise 11 = .ok (.ireturn, 1) := by decide +kernel
theorem dX11_raise_12 : decode cX11_raise 12 = .ok (.aload_n 0, 1) := by decide +kernel
theorem dX11_raise_13 : decode cX11_raise 13 = .ok (.aload_n 0, 1) := by decide +kernel
theorem dX11_raise_14 : decode cX11_raise 14 = .ok (.iload_n 1, 1) := by decide +kernel
theorem dX11_raise_15 : decode cX11_raise 15 = .ok (.iconst 3, 1) := by decide +kernel
theorem dX11_raise_16 : decode cX11_raise 16 = .ok (.invokevirtual 70, 3) := by decide +kernel
theorem dX11_raise_19 : decode cX11_raise 19 = .ok (.iconst 3, 1) := by decide +kernel
theorem dX11_raise_20 : decode cX11_raise 20 = .ok (.if_icmp .lt 7, 3) := by decide +kernel
theorem dX11_raise_23 : decode cX11_raise 23 = .ok (.iconst 1, 1) := by decide +kernel
theorem dX11_raise_24 : decode cX11_raise 24 = .ok (.goto 4, 3) := by decide +kernel
theorem dX11_raise_27 : decode cX11_raise 27 = .ok (.iconst 0, 1) := by decide +kernel
theorem dX11_raise_28 : decode cX11_raise 28 = .ok (.bipush 12, 2) := by decide +kernel
theorem dX11_raise_30 : decode cX11_raise 30 = .ok (.aload_n 0, 1) := by decide +kernel
theorem dX11_raise_31 : decode cX11_raise 31 = .ok (.iload_n 1, 1) := by decide +kernel
theorem dX11_raise_32 : decode cX11_raise 32 = .ok (.iconst 3, 1) := by decide +kernel
theorem dX11_raise_33 : decode cX11_raise 33 = .ok (.invokevirtual 70, 3) := by decide +kernel
theorem dX11_raise_36 : decode cX11_raise 36 = .ok (.invokevirtual 47, 3) := by decide +kernel
theorem dX11_raise_39 : decode cX11_raise 39 = .ok (.ifCond .ne 33, 3) := by decide +kernel
theorem dX11_raise_42 : decode cX11_raise 42 = .ok (.aload_n 0, 1) := by decide +kernel
theorem dX11_raise_43 : decode cX11_raise 43 = .ok (.aload_n 0, 1) := by decide +kernel
theorem dX11_raise_44 : decode cX11_raise 44 = .ok (.getfield 9, 3) := by decide +kernel
theorem dX11_raise_47 : decode cX11_raise 47 = .ok (.iconst 0, 1) := by decide +kernel
theorem dX11_raise_48 : decode cX11_raise 48 = .ok (.iaload, 1) := by decide +kernel
theorem dX11_raise_49 : decode cX11_raise 49 = .ok (.iconst 2, 1) := by decide +kernel
theorem dX11_raise_50 : decode cX11_raise 50 = .ok (.if_icmp .ge 7, 3) := by decide +kernel
theorem dX11_raise_53 : decode cX11_raise 53 = .ok (.iconst 1, 1) := by decide +kernel
theorem dX11_raise_54 : decode cX11_raise 54 = .ok (.goto 4, 3) := by decide +kernel
theorem dX11_raise_57 : decode cX11_raise 57 = .ok (.iconst 0, 1) := by decide +kernel
theorem dX11_raise_58 : decode cX11_raise 58 = .ok (.bipush 9, 2) := by decide +kernel
theorem dX11_raise_60 : decode cX11_raise 60 = .ok (.aload_n 0, 1) := by decide +kernel
theorem dX11_raise_61 : decode cX11_raise 61 = .ok (.getfield 9, 3) := by decide +kernel
theorem dX11_raise_64 : decode cX11_raise 64 = .ok (.iconst 0, 1) := by decide +kernel
theorem dX11_raise_65 : decode cX11_raise 65 = .ok (.iaload, 1) := by decide +kernel
theorem dX11_raise_66 : decode cX11_raise 66 = .ok (.invokevirtual 47, 3) := by decide +kernel
theorem dX11_raise_69 : decode cX11_raise 69 = .ok (.ifCond .eq 7, 3) := by decide +kernel
theorem dX11_raise_72 : decode cX11_raise 72 = .ok (.sipush (-1014), 3) := by decide +kernel
theorem dX11_raise_75 : decode cX11_raise 75 = .ok (.ireturn, 1) := by decide +kernel
theorem dX11_raise_76 : decode cX11_raise 76 = .ok (.aload_n 0, 1) := by decide +kernel
theorem dX11_raise_77 : decode cX11_raise 77 = .ok (.invokevirtual 95, 3) := by decide +kernel
theorem dX11_raise_80 : decode cX11_raise 80 = .ok (.aload_n 0, 1) := by decide +kernel
theorem dX11_raise_81 : decode cX11_raise 81 = .ok (.iload_n 1, 1) := by decide +kernel
theorem dX11_raise_82 : decode cX11_raise 82 = .ok (.iconst 3, 1) := by decide +kernel
theorem dX11_raise_83 : decode cX11_raise 83 = .ok (.iconst 3, 1) := by decide +kernel
theorem dX11_raise_84 : decode cX11_raise 84 = .ok (.invokevirtual 92, 3) := by decide +kernel
theorem dX11_raise_87 : decode cX11_raise 87 = .ok (.aload_n 0, 1) := by decide +kernel
theorem dX11_raise_88 : decode cX11_raise 88 = .ok (.getfield 9, 3) := by decide +kernel
theorem dX11_raise_91 : decode cX11_raise 91 = .ok (.iconst 0, 1) := by decide +kernel
theorem dX11_raise_92 : decode cX11_raise 92 = .ok (.dup2, 1) := by decide +kernel
theorem dX11_raise_93 : decode cX11_raise 93 = .ok (.iaload, 1) := by decide +kernel
theorem dX11_raise_94 : decode cX11_raise 94 = .ok (.iconst 2, 1) := by decide +kernel
theorem dX11_raise_95 : decode cX11_raise 95 = .ok (.isub, 1) := by decide +kernel
theorem dX11_raise_96 : decode cX11_raise 96 = .ok (.iastore, 1) := by decide +kernel
theorem dX11_raise_97 : decode cX11_raise 97 = .ok (.aload_n 0, 1) := by decide +kernel
theorem dX11_raise_98 : decode cX11_raise 98 = .ok (.getfield 9, 3) := by decide +kernel
theorem dX11_raise_101 : decode cX11_raise 101 = .ok (.iconst 2, 1) := by decide +kernel
theorem dX11_raise_102 : decode cX11_raise 102 = .ok (.dup2, 1) := by decide +kernel
theorem dX11_raise_103 : decode cX11_raise 103 = .ok (.iaload, 1) := by decide +kernel
theorem dX11_raise_104 : decode cX11_raise 104 = .ok (.iconst 2, 1) := by decide +kernel
theorem dX11_raise_105 : decode cX11_raise 105 = .ok (.iadd, 1) := by decide +kernel
theorem dX11_raise_106 : decode cX11_raise 106 = .ok (.iastore, 1) := by decide +kernel
theorem dX11_raise_107 : decode cX11_raise 107 = .ok (.aload_n 0, 1) := by decide +kernel
theorem dX11_raise_108 : decode cX11_raise 108 = .ok (.getfield 9, 3) := by decide +kernel
theorem dX11_raise_111 : decode cX11_raise 111 = .ok (.iconst 0, 1) := by decide +kernel
theorem dX11_raise_112 : decode cX11_raise 112 = .ok (.iaload, 1) := by decide +kernel
theorem dX11_raise_113 : decode cX11_raise 113 = .ok (.ireturn, 1) := by decide +kernel
theorem dX11_promote_0 : decode cX11_promote 0 = .ok (.aload_n 0, 1) := by decide +kernel
theorem dX11_promote_1 : decode cX11_promote 1 = .ok (.iload_n 1, 1) := by decide +kernel
theorem dX11_promote_2 : decode cX11_promote 2 = .ok (.invokevirtual 98, 3) := by decide +kernel
theorem dX11_promote_5 : decode cX11_promote 5 = .ok (.ifCond .ne 7, 3) := by decide +kernel
theorem dX11_promote_8 : decode cX11_promote 8 = .ok (.sipush (-1011), 3) := by decide +kernel
theorem dX11_promote_11 : decode cX11_promote 11 = .ok (.ireturn, 1) := by decide +kernel
theorem dX11_promote_12 : decode cX11_promote 12 = .ok (.aload_n 0, 1) := by decide +kernel
theorem dX11_promote_13 : decode cX11_promote 13 = .ok (.iload_n 1, 1) := by decide +kernel
theorem dX11_promote_14 : decode cX11_promote 14 = .ok (.iconst 4, 1) := by decide +kernel
theorem dX11_promote_15 : decode cX11_promote 15 = .ok (.invokevirtual 70, 3) := by decide +kernel
theorem dX11_promote_18 : decode cX11_promote 18 = .ok (.istore_n 2, 1) := by decide +kernel
theorem dX11_promote_19 : decode cX11_promote 19 = .ok (.bipush 20, 2) := by decide +kernel
theorem dX11_promote_21 : decode cX11_promote 21 = .ok (.iload_n 2, 1) := by decide +kernel
theorem dX11_promote_22 : decode cX11_promote 22 = .ok (.iconst 1, 1) := by decide +kernel
theorem dX11_promote_23 : decode cX11_promote 23 = .ok (.iadd, 1) := by decide +kernel
theorem dX11_promote_24 : decode cX11_promote 24 = .ok (.imul, 1) := by decide +kernel
theorem dX11_promote_25 : decode cX11_promote 25 = .ok (.aload_n 0, 1) := by decide +kernel
theorem dX11_promote_26 : decode cX11_promote 26 = .ok (.iload_n 1, 1) := by decide +kernel
theorem dX11_promote_27 : decode cX11_promote 27 = .ok (.iconst 5, 1) := by decide +kernel
theorem dX11_promote_28 : decode cX11_promote 28 = .ok (.invokevirtual 70, 3) := by decide +kernel
theorem dX11_promote_31 : decode cX11_promote 31 = .ok (.isub, 1) := by decide +kernel
theorem dX11_promote_32 : decode cX11_promote 32 = .ok (.istore_n 3, 1) := by decide +kernel
theorem dX11_promote_33 : decode cX11_promote 33 = .ok (.aload_n 0, 1) := by decide +kernel
theorem dX11_promote_34 : decode cX11_promote 34 = .ok (.iload_n 2, 1) := by decide +kernel
theorem dX11_promote_35 : decode cX11_promote 35 = .ok (.iconst 2, 1) := by decide +kernel
theorem dX11_promote_36 : decode cX11_promote 36 = .ok (.if_icmp .ne 7, 3) := by decide +kernel
theorem dX11_promote_39 : decode cX11_promote 39 = .ok (.iconst 1, 1) := by decide +kernel
theorem dX11_promote_40 : decode cX11_promote 40 = .ok (.goto 4, 3) := by decide +kernel
theorem dX11_promote_43 : decode cX11_promote 43 = .ok (.iconst 0, 1) := by decide +kernel
theorem dX11_promote_44 : decode cX11_promote 44 = .ok (.bipush 13, 2) := by decide +kernel
theorem dX11_promote_46 : decode cX11_promote 46 = .ok (.aload_n 0, 1) := by decide +kernel
theorem dX11_promote_47 : decode cX11_promote 47 = .ok (.iload_n 1, 1) := by decide +kernel
theorem dX11_promote_48 : decode cX11_promote 48 = .ok (.iconst 5, 1) := by decide +kernel
theorem dX11_promote_49 : decode cX11_promote 49 = .ok (.invokevirtual 70, 3) := by decide +kernel
theorem dX11_promote_52 : decode cX11_promote 52 = .ok (.invokevirtual 47, 3) := by decide +kernel
theorem dX11_promote_55 : decode cX11_promote 55 = .ok (.ifCond .ne 22, 3) := by decide +kernel
theorem dX11_promote_58 : decode cX11_promote 58 = .ok (.aload_n 0, 1) := by decide +kernel
theorem dX11_promote_59 : decode cX11_promote 59 = .ok (.iload_n 3, 1) := by decide +kernel
theorem dX11_promote_60 : decode cX11_promote 60 = .ok (.ifCond .le 7, 3) := by decide +kernel
theorem dX11_promote_63 : decode cX11_promote 63 = .ok (.iconst 1, 1) := by decide +kernel
theorem dX11_promote_64 : decode cX11_promote 64 = .ok (.goto 4, 3) := by decide +kernel
theorem dX11_promote_67 : decode cX11_promote 67 = .ok (.iconst 0, 1) := by decide +kernel
theorem dX11_promote_68 : decode cX11_promote 68 = .ok (.bipush 14, 2) := by decide +kernel
theorem dX11_promote_70 : decode cX11_promote 70 = .ok (.iload_n 3, 1) := by decide +kernel
theorem dX11_promote_71 : decode cX11_promote 71 = .ok (.invokevirtual 47, 3) := by decide +kernel
theorem dX11_promote_74 : decode cX11_promote 74 = .ok (.ifCond .eq 7, 3) := by decide +kernel
theorem dX11_promote_77 : decode cX11_promote 77 = .ok (.sipush (-1014), 3) := by decide +kernel
theorem dX11_promote_80 : decode cX11_promote 80 = .ok (.ireturn, 1) := by decide +kernel
theorem dX11_promote_81 : decode cX11_promote 81 = .ok (.aload_n 0, 1) := by decide +kernel
theorem dX11_promote_82 : decode cX11_promote 82 = .ok (.invokevirtual 95, 3) := by decide +kernel
theorem dX11_promote_85 : decode cX11_promote 85 = .ok (.aload_n 0, 1) := by decide +kernel
theorem dX11_promote_86 : decode cX11_promote 86 = .ok (.iload_n 1, 1) := by decide +kernel
theorem dX11_promote_87 : decode cX11_promote 87 = .ok (.iconst 4, 1) := by decide +kernel
theorem dX11_promote_88 : decode cX11_promote 88 = .ok (.iload_n 2, 1) := by decide +kernel
theorem dX11_promote_89 : decode cX11_promote 89 = .ok (.iconst 1, 1) := by decide +kernel
theorem dX11_promote_90 : decode cX11_promote 90 = .ok (.iadd, 1) := by decide +kernel
theorem dX11_promote_91 : decode cX11_promote 91 = .ok (.invokevirtual 92, 3) := by decide +kernel
theorem dX11_promote_94 : decode cX11_promote 94 = .ok (.iload_n 2, 1) := by decide +kernel
theorem dX11_promote_95 : decode cX11_promote 95 = .ok (.iconst 1, 1) := by decide +kernel
theorem dX11_promote_96 : decode cX11_promote 96 = .ok (.iadd, 1) := by decide +kernel
theorem dX11_promote_97 : decode cX11_promote 97 = .ok (.ireturn, 1) := by decide +kernel
theorem dX11_chairOf_0 : decode cX11_chairOf 0 = .ok (.aload_n 0, 1) := by decide +kernel
theorem dX11_chairOf_1 : decode cX11_chairOf 1 = .ok (.iload_n 1, 1) := by decide +kernel
theorem dX11_chairOf_2 : decode cX11_chairOf 2 = .ok (.invokevirtual 98, 3) := by decide +kernel
theorem dX11_chairOf_5 : decode cX11_chairOf 5 = .ok (.ifCond .ne 7, 3) := by decide +kernel
theorem dX11_chairOf_8 : decode cX11_chairOf 8 = .ok (.sipush (-1011), 3) := by decide +kernel
theorem dX11_chairOf_11 : decode cX11_chairOf 11 = .ok (.ireturn, 1) := by decide +kernel
theorem dX11_chairOf_12 : decode cX11_chairOf 12 = .ok (.iload_n 2, 1) := by decide +kernel
theorem dX11_chairOf_13 : decode cX11_chairOf 13 = .ok (.tableswitch 91 0 7 #[47, 47, 47, 47, 47, 54, 60, 67], 47) := by decide +kernel
theorem dX11_chairOf_60 : decode cX11_chairOf 60 = .ok (.aload_n 0, 1) := by decide +kernel
theorem dX11_chairOf_61 : decode cX11_chairOf 61 = .ok (.iload_n 1, 1) := by decide +kernel
theorem dX11_chairOf_62 : decode cX11_chairOf 62 = .ok (.iload_n 2, 1) := by decide +kernel
theorem dX11_chairOf_63 : decode cX11_chairOf 63 = .ok (.invokevirtual 70, 3) := by decide +kernel
theorem dX11_chairOf_66 : decode cX11_chairOf 66 = .ok (.ireturn, 1) := by decide +kernel
theorem dX11_chairOf_67 : decode cX11_chairOf 67 = .ok (.aload_n 0, 1) := by decide +kernel
theorem dX11_chairOf_68 : decode cX11_chairOf 68 = .ok (.iload_n 1, 1) := by decide +kernel
theorem dX11_chairOf_69 : decode cX11_chairOf 69 = .ok (.invokevirtual 84, 3) := by decide +kernel
theorem dX11_chairOf_72 : decode cX11_chairOf 72 = .ok (.ireturn, 1) := by decide +kernel
theorem dX11_chairOf_73 : decode cX11_chairOf 73 = .ok (.aload_n 0, 1) := by decide +kernel
theorem dX11_chairOf_74 : decode cX11_chairOf 74 = .ok (.iload_n 1, 1) := by decide +kernel
theorem dX11_chairOf_75 : decode cX11_chairOf 75 = .ok (.iconst 5, 1) := by decide +kernel
theorem dX11_chairOf_76 : decode cX11_chairOf 76 = .ok (.invokevirtual 70, 3) := by decide +kernel
theorem dX11_chairOf_79 : decode cX11_chairOf 79 = .ok (.ireturn, 1) := by decide +kernel
theorem dX11_chairOf_80 : decode cX11_chairOf 80 = .ok (.aload_n 0, 1) := by decide +kernel
theorem dX11_chairOf_81 : decode cX11_chairOf 81 = .ok (.iload_n 1, 1) := by decide +kernel
theorem dX11_chairOf_82 : decode cX11_chairOf 82 = .ok (.bipush 6, 2) := by decide +kernel
theorem dX11_chairOf_84 : decode cX11_chairOf 84 = .ok (.invokevirtual 70, 3) := by decide +kernel
theorem dX11_chairOf_87 : decode cX11_chairOf 87 = .ok (.ifCond .ge 9, 3) := by decide +kernel
theorem dX11_chairOf_90 : decode cX11_chairOf 90 = .ok (.sipush (-1015), 3) := by decide +kernel
theorem dX11_chairOf_93 : decode cX11_chairOf 93 = .ok (.goto 10, 3) := by decide +kernel
theorem dX11_chairOf_96 : decode cX11_chairOf 96 = .ok (.aload_n 0, 1) := by decide +kernel
theorem dX11_chairOf_97 : decode cX11_chairOf 97 = .ok (.iload_n 1, 1) := by decide +kernel
theorem dX11_chairOf_98 : decode cX11_chairOf 98 = .ok (.bipush 6, 2) := by decide +kernel
theorem dX11_chairOf_100 : decode cX11_chairOf 100 = .ok (.invokevirtual 70, 3) := by decide +kernel
theorem dX11_chairOf_103 : decode cX11_chairOf 103 = .ok (.ireturn, 1) := by decide +kernel
theorem dX11_chairOf_104 : decode cX11_chairOf 104 = .ok (.sipush (-1012), 3) := by decide +kernel
theorem dX11_chairOf_107 : decode cX11_chairOf 107 = .ok (.ireturn, 1) := by decide +kernel
theorem dX11_musicianOf_0 : decode cX11_musicianOf 0 = .ok (.aload_n 0, 1) := by decide +kernel
theorem dX11_musicianOf_1 : decode cX11_musicianOf 1 = .ok (.iload_n 1, 1) := by decide +kernel
theorem dX11_musicianOf_2 : decode cX11_musicianOf 2 = .ok (.invokevirtual 101, 3) := by decide +kernel
theorem dX11_musicianOf_5 : decode cX11_musicianOf 5 = .ok (.ifCond .ne 7, 3) := by decide +kernel
theorem dX11_musicianOf_8 : decode cX11_musicianOf 8 = .ok (.sipush (-1011), 3) := by decide +kernel
theorem dX11_musicianOf_11 : decode cX11_musicianOf 11 = .ok (.ireturn, 1) := by decide +kernel
theorem dX11_musicianOf_12 : decode cX11_musicianOf 12 = .ok (.iload_n 2, 1) := by decide +kernel
theorem dX11_musicianOf_13 : decode cX11_musicianOf 13 = .ok (.iconst 0, 1) := by decide +kernel
theorem dX11_musicianOf_14 : decode cX11_musicianOf 14 = .ok (.bipush 6, 2) := by decide +kernel
theorem dX11_musicianOf_16 : decode cX11_musicianOf 16 = .ok (.invokestatic 66, 3) := by decide +kernel
theorem dX11_musicianOf_19 : decode cX11_musicianOf 19 = .ok (.ifCond .ne 7, 3) := by decide +kernel
theorem dX11_musicianOf_22 : decode cX11_musicianOf 22 = .ok (.sipush (-1012), 3) := by decide +kernel
theorem dX11_musicianOf_25 : decode cX11_musicianOf 25 = .ok (.ireturn, 1) := by decide +kernel
theorem dX11_musicianOf_26 : decode cX11_musicianOf 26 = .ok (.iload_n 2, 1) := by decide +kernel
theorem dX11_musicianOf_27 : decode cX11_musicianOf 27 = .ok (.iconst 5, 1) := by decide +kernel
theorem dX11_musicianOf_28 : decode cX11_musicianOf 28 = .ok (.if_icmp .ne 18, 3) := by decide +kernel
theorem dX11_musicianOf_31 : decode cX11_musicianOf 31 = .ok (.aload_n 0, 1) := by decide +kernel
theorem dX11_musicianOf_32 : decode cX11_musicianOf 32 = .ok (.iload_n 1, 1) := by decide +kernel
theorem dX11_musicianOf_33 : decode cX11_musicianOf 33 = .ok (.iconst 5, 1) := by decide +kernel
theorem dX11_musicianOf_34 : decode cX11_musicianOf 34 = .ok (.invokevirtual 74, 3) := by decide +kernel
theorem dX11_musicianOf_37 : decode cX11_musicianOf 37 = .ok (.ifCond .ge 9, 3) := by decide +kernel
theorem dX11_musicianOf_40 : decode cX11_musicianOf 40 = .ok (.sipush (-1015), 3) := by decide +kernel
theorem dX11_musicianOf_43 : decode cX11_musicianOf 43 = .ok (.goto 9, 3) := by decide +kernel
theorem dX11_musicianOf_46 : decode cX11_musicianOf 46 = .ok (.aload_n 0, 1) := by decide +kernel
theorem dX11_musicianOf_47 : decode cX11_musicianOf 47 = .ok (.iload_n 1, 1) := by decide +kernel
theorem dX11_musicianOf_48 : decode cX11_musicianOf 48 = .ok (.iload_n 2, 1) := by decide +kernel
theorem dX11_musicianOf_49 : decode cX11_musicianOf 49 = .ok (.invokevirtual 74, 3) := by decide +kernel
theorem dX11_musicianOf_52 : decode cX11_musicianOf 52 = .ok (.ireturn, 1) := by decide +kernel
theorem dX11_fit_0 : decode cX11_fit 0 = .ok (.aload_n 0, 1) := by decide +kernel
theorem dX11_fit_1 : decode cX11_fit 1 = .ok (.iload_n 1, 1) := by decide +kernel
theorem dX11_fit_2 : decode cX11_fit 2 = .ok (.invokevirtual 98, 3) := by decide +kernel
theorem dX11_fit_5 : decode cX11_fit 5 = .ok (.ifCond .eq 20, 3) := by decide +kernel
theorem dX11_fit_8 : decode cX11_fit 8 = .ok (.aload_n 0, 1) := by decide +kernel
theorem dX11_fit_9 : decode cX11_fit 9 = .ok (.iload_n 2, 1) := by decide +kernel
theorem dX11_fit_10 : decode cX11_fit 10 = .ok (.invokevirtual 101, 3) := by decide +kernel
theorem dX11_fit_13 : decode cX11_fit 13 = .ok (.ifCond .eq 12, 3) := by decide +kernel
theorem dX11_fit_16 : decode cX11_fit 16 = .ok (.aload_n 0, 1) := by decide +kernel
theorem dX11_fit_17 : decode cX11_fit 17 = .ok (.iload_n 1, 1) := by decide +kernel
theorem dX11_fit_18 : decode cX11_fit 18 = .ok (.iload_n 2, 1) := by decide +kernel
theorem dX11_fit_19 : decode cX11_fit 19 = .ok (.invokevirtual 77, 3) := by decide +kernel
theorem dX11_fit_22 : decode cX11_fit 22 = .ok (.goto 6, 3) := by decide +kernel
theorem dX11_fit_25 : decode cX11_fit 25 = .ok (.sipush (-1011), 3) := by decide +kernel
theorem dX11_fit_28 : decode cX11_fit 28 = .ok (.ireturn, 1) := by decide +kernel
theorem dX11_hall_0 : decode cX11_hall 0 = .ok (.iload_n 1, 1) := by decide +kernel
theorem dX11_hall_1 : decode cX11_hall 1 = .ok (.iconst 0, 1) := by decide +kernel
theorem dX11_hall_2 : decode cX11_hall 2 = .ok (.iconst 2, 1) := by decide +kernel
theorem dX11_hall_3 : decode cX11_hall 3 = .ok (.invokestatic 66, 3) := by decide +kernel
theorem dX11_hall_6 : decode cX11_hall 6 = .ok (.ifCond .ne 7, 3) := by decide +kernel
theorem dX11_hall_9 : decode cX11_hall 9 = .ok (.sipush (-1012), 3) := by decide +kernel
theorem dX11_hall_12 : decode cX11_hall 12 = .ok (.ireturn, 1) := by decide +kernel
theorem dX11_hall_13 : decode cX11_hall 13 = .ok (.iconst 0, 1) := by decide +kernel
theorem dX11_hall_14 : decode cX11_hall 14 = .ok (.istore_n 2, 1) := by decide +kernel
theorem dX11_hall_15 : decode cX11_hall 15 = .ok (.iconst 0, 1) := by decide +kernel
theorem dX11_hall_16 : decode cX11_hall 16 = .ok (.istore_n 3, 1) := by decide +kernel
theorem dX11_hall_17 : decode cX11_hall 17 = .ok (.iload_n 3, 1) := by decide +kernel
theorem dX11_hall_18 : decode cX11_hall 18 = .ok (.aload_n 0, 1) := by decide +kernel
theorem dX11_hall_19 : decode cX11_hall 19 = .ok (.getfield 9, 3) := by decide +kernel
theorem dX11_hall_22 : decode cX11_hall 22 = .ok (.bipush 7, 2) := by decide +kernel
theorem dX11_hall_24 : decode cX11_hall 24 = .ok (.iaload, 1) := by decide +kernel
theorem dX11_hall_25 : decode cX11_hall 25 = .ok (.if_icmp .ge 29, 3) := by decide +kernel
theorem dX11_hall_28 : decode cX11_hall 28 = .ok (.iload_n 2, 1) := by decide +kernel
theorem dX11_hall_29 : decode cX11_hall 29 = .ok (.aload_n 0, 1) := by decide +kernel
theorem dX11_hall_30 : decode cX11_hall 30 = .ok (.iload_n 3, 1) := by decide +kernel
theorem dX11_hall_31 : decode cX11_hall 31 = .ok (.iconst 4, 1) := by decide +kernel
theorem dX11_hall_32 : decode cX11_hall 32 = .ok (.invokevirtual 70, 3) := by decide +kernel
theorem dX11_hall_35 : decode cX11_hall 35 = .ok (.iload_n 1, 1) := by decide +kernel
theorem dX11_hall_36 : decode cX11_hall 36 = .ok (.if_icmp .ne 9, 3) := by decide +kernel
theorem dX11_hall_39 : decode cX11_hall 39 = .ok (.iconst 1, 1) := by decide +kernel
theorem dX11_hall_40 : decode cX11_hall 40 = .ok (.iload_n 3, 1) := by decide +kernel
theorem dX11_hall_41 : decode cX11_hall 41 = .ok (.ishl, 1) := by decide +kernel
theorem dX11_hall_42 : decode cX11_hall 42 = .ok (.goto 4, 3) := by decide +kernel
theorem dX11_hall_45 : decode cX11_hall 45 = .ok (.iconst 0, 1) := by decide +kernel
theorem dX11_hall_46 : decode cX11_hall 46 = .ok (.ior, 1) := by decide +kernel
theorem dX11_hall_47 : decode cX11_hall 47 = .ok (.istore_n 2, 1) := by decide +kernel
theorem dX11_hall_48 : decode cX11_hall 48 = .ok (.iinc 3 1, 3) := by decide +kernel
theorem dX11_hall_51 : decode cX11_hall 51 = .ok (.goto (-34), 3) := by decide +kernel
theorem dX11_hall_54 : decode cX11_hall 54 = .ok (.iload_n 2, 1) := by decide +kernel
theorem dX11_hall_55 : decode cX11_hall 55 = .ok (.ireturn, 1) := by decide +kernel
theorem dX11_isAhead_0 : decode cX11_isAhead 0 = .ok (.aload_n 0, 1) := by decide +kernel
theorem dX11_isAhead_1 : decode cX11_isAhead 1 = .ok (.iload_n 1, 1) := by decide +kernel
theorem dX11_isAhead_2 : decode cX11_isAhead 2 = .ok (.iconst 5, 1) := by decide +kernel
theorem dX11_isAhead_3 : decode cX11_isAhead 3 = .ok (.invokevirtual 70, 3) := by decide +kernel
theorem dX11_isAhead_6 : decode cX11_isAhead 6 = .ok (.aload_n 0, 1) := by decide +kernel
theorem dX11_isAhead_7 : decode cX11_isAhead 7 = .ok (.iload_n 2, 1) := by decide +kernel
theorem dX11_isAhead_8 : decode cX11_isAhead 8 = .ok (.iconst 5, 1) := by decide +kernel
theorem dX11_isAhead_9 : decode cX11_isAhead 9 = .ok (.invokevirtual 70, 3) := by decide +kernel
theorem dX11_isAhead_12 : decode cX11_isAhead 12 = .ok (.isub, 1) := by decide +kernel
theorem dX11_isAhead_13 : decode cX11_isAhead 13 = .ok (.istore_n 3, 1) := by decide +kernel
theorem dX11_isAhead_14 : decode cX11_isAhead 14 = .ok (.aload_n 0, 1) := by decide +kernel
theorem dX11_isAhead_15 : decode cX11_isAhead 15 = .ok (.iload_n 1, 1) := by decide +kernel
theorem dX11_isAhead_16 : decode cX11_isAhead 16 = .ok (.invokevirtual 84, 3) := by decide +kernel
theorem dX11_isAhead_19 : decode cX11_isAhead 19 = .ok (.aload_n 0, 1) := by decide +kernel
theorem dX11_isAhead_20 : decode cX11_isAhead 20 = .ok (.iload_n 2, 1) := by decide +kernel
theorem dX11_isAhead_21 : decode cX11_isAhead 21 = .ok (.invokevirtual 84, 3) := by decide +kernel
theorem dX11_isAhead_24 : decode cX11_isAhead 24 = .ok (.isub, 1) := by decide +kernel
theorem dX11_isAhead_25 : decode cX11_isAhead 25 = .ok (.istore 4, 2) := by decide +kernel
theorem dX11_isAhead_27 : decode cX11_isAhead 27 = .ok (.iload_n 3, 1) := by decide +kernel
theorem dX11_isAhead_28 : decode cX11_isAhead 28 = .ok (.ifCond .eq 15, 3) := by decide +kernel
theorem dX11_isAhead_31 : decode cX11_isAhead 31 = .ok (.iload_n 3, 1) := by decide +kernel
theorem dX11_isAhead_32 : decode cX11_isAhead 32 = .ok (.ifCond .le 7, 3) := by decide +kernel
theorem dX11_isAhead_35 : decode cX11_isAhead 35 = .ok (.iconst 1, 1) := by decide +kernel
theorem dX11_isAhead_36 : decode cX11_isAhead 36 = .ok (.goto 35, 3) := by decide +kernel
theorem dX11_isAhead_39 : decode cX11_isAhead 39 = .ok (.iconst 0, 1) := by decide +kernel
theorem dX11_isAhead_40 : decode cX11_isAhead 40 = .ok (.goto 31, 3) := by decide +kernel
theorem dX11_isAhead_43 : decode cX11_isAhead 43 = .ok (.iload 4, 2) := by decide +kernel
theorem dX11_isAhead_45 : decode cX11_isAhead 45 = .ok (.ifCond .eq 16, 3) := by decide +kernel
theorem dX11_isAhead_48 : decode cX11_isAhead 48 = .ok (.iload 4, 2) := by decide +kernel
theorem dX11_isAhead_50 : decode cX11_isAhead 50 = .ok (.ifCond .le 7, 3) := by decide +kernel
theorem dX11_isAhead_53 : decode cX11_isAhead 53 = .ok (.iconst 1, 1) := by decide +kernel
theorem dX11_isAhead_54 : decode cX11_isAhead 54 = .ok (.goto 17, 3) := by decide +kernel
theorem dX11_isAhead_57 : decode cX11_isAhead 57 = .ok (.iconst 0, 1) := by decide +kernel
theorem dX11_isAhead_58 : decode cX11_isAhead 58 = .ok (.goto 13, 3) := by decide +kernel
theorem dX11_isAhead_61 : decode cX11_isAhead 61 = .ok (.iload_n 1, 1) := by decide +kernel
theorem dX11_isAhead_62 : decode cX11_isAhead 62 = .ok (.iload_n 2, 1) := by decide +kernel
theorem dX11_isAhead_63 : decode cX11_isAhead 63 = .ok (.if_icmp .ge 7, 3) := by decide +kernel
theorem dX11_isAhead_66 : decode cX11_isAhead 66 = .ok (.iconst 1, 1) := by decide +kernel
theorem dX11_isAhead_67 : decode cX11_isAhead 67 = .ok (.goto 4, 3) := by decide +kernel
theorem dX11_isAhead_70 : decode cX11_isAhead 70 = .ok (.iconst 0, 1) := by decide +kernel
theorem dX11_isAhead_71 : decode cX11_isAhead 71 = .ok (.ireturn, 1) := by decide +kernel
theorem dX11_ranked_0 : decode cX11_ranked 0 = .ok (.iconst 0, 1) := by decide +kernel
theorem dX11_ranked_1 : decode cX11_ranked 1 = .ok (.istore_n 2, 1) := by decide +kernel
theorem dX11_ranked_2 : decode cX11_ranked 2 = .ok (.iload_n 2, 1) := by decide +kernel
theorem dX11_ranked_3 : decode cX11_ranked 3 = .ok (.aload_n 0, 1) := by decide +kernel
theorem dX11_ranked_4 : decode cX11_ranked 4 = .ok (.getfield 9, 3) := by decide +kernel
theorem dX11_ranked_7 : decode cX11_ranked 7 = .ok (.bipush 7, 2) := by decide +kernel
theorem dX11_ranked_9 : decode cX11_ranked 9 = .ok (.iaload, 1) := by decide +kernel
theorem dX11_ranked_10 : decode cX11_ranked 10 = .ok (.if_icmp .ge 57, 3) := by decide +kernel
theorem dX11_ranked_13 : decode cX11_ranked 13 = .ok (.iconst 0, 1) := by decide +kernel
theorem dX11_ranked_14 : decode cX11_ranked 14 = .ok (.istore_n 3, 1) := by decide +kernel
theorem dX11_ranked_15 : decode cX11_ranked 15 = .ok (.iconst 0, 1) := by decide +kernel
theorem dX11_ranked_16 : decode cX11_ranked 16 = .ok (.istore 4, 2) := by decide +kernel
theorem dX11_ranked_18 : decode cX11_ranked 18 = .ok (.iload 4, 2) := by decide +kernel
theorem dX11_ranked_20 : decode cX11_ranked 20 = .ok (.aload_n 0, 1) := by decide +kernel
theorem dX11_ranked_21 : decode cX11_ranked 21 = .ok (.getfield 9, 3) := by decide +kernel
theorem dX11_ranked_24 : decode cX11_ranked 24 = .ok (.bipush 7, 2) := by decide +kernel
theorem dX11_ranked_26 : decode cX11_ranked 26 = .ok (.iaload, 1) := by decide +kernel
theorem dX11_ranked_27 : decode cX11_ranked 27 = .ok (.if_icmp .ge 27, 3) := by decide +kernel
theorem dX11_ranked_30 : decode cX11_ranked 30 = .ok (.iload_n 3, 1) := by decide +kernel
theorem dX11_ranked_31 : decode cX11_ranked 31 = .ok (.aload_n 0, 1) := by decide +kernel
theorem dX11_ranked_32 : decode cX11_ranked 32 = .ok (.iload 4, 2) := by decide +kernel
theorem dX11_ranked_34 : decode cX11_ranked 34 = .ok (.iload_n 2, 1) := by decide +kernel
theorem dX11_ranked_35 : decode cX11_ranked 35 = .ok (.invokevirtual 166, 3) := by decide +kernel
theorem dX11_ranked_38 : decode cX11_ranked 38 = .ok (.ifCond .eq 7, 3) := by decide +kernel
theorem dX11_ranked_41 : decode cX11_ranked 41 = .ok (.iconst 1, 1) := by decide +kernel
theorem dX11_ranked_42 : decode cX11_ranked 42 = .ok (.goto 4, 3) := by decide +kernel
theorem dX11_ranked_45 : decode cX11_ranked 45 = .ok (.iconst 0, 1) := by decide +kernel
theorem dX11_ranked_46 : decode cX11_ranked 46 = .ok (.iadd, 1) := by decide +kernel
theorem dX11_ranked_47 : decode cX11_ranked 47 = .ok (.istore_n 3, 1) := by decide +kernel
theorem dX11_ranked_48 : decode cX11_ranked 48 = .ok (.iinc 4 1, 3) := by decide +kernel
theorem dX11_ranked_51 : decode cX11_ranked 51 = .ok (.goto (-33), 3) := by decide +kernel
theorem dX11_ranked_54 : decode cX11_ranked 54 = .ok (.iload_n 3, 1) := by decide +kernel
