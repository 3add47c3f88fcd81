theorem dX11_ranked_55 : decode cX11_ranked 55 = .ok (.iload_n 1, 1) := by decide +kernel
theorem dX11_ranked_56 : decode cX11_ranked 56 = .ok (.if_icmp .ne 5, 3) := by decide +kernel
theorem dX11_ranked_59 : decode cX11_ranked 59 = .ok (.iload_n 2, 1) := by decide +kernel
theorem dX11_ranked_60 : decode cX11_ranked 60 = .ok (.ireturn, 1) := by decide +kernel
theorem dX11_ranked_61 : decode cX11_ranked 61 = .ok (.iinc 2 1, 3) := by decide +kernel
theorem dX11_ranked_64 : decode cX11_ranked 64 = .ok (.goto (-62), 3) := by decide +kernel
theorem dX11_ranked_67 : decode cX11_ranked 67 = .ok (.sipush (-1011), 3) := by decide +kernel
theorem dX11_ranked_70 : decode cX11_ranked 70 = .ok (.ireturn, 1) := by decide +kernel
theorem dX11_isRicher_0 : decode cX11_isRicher 0 = .ok (.aload_n 0, 1) := by decide +kernel
theorem dX11_isRicher_1 : decode cX11_isRicher 1 = .ok (.iload_n 1, 1) := by decide +kernel
theorem dX11_isRicher_2 : decode cX11_isRicher 2 = .ok (.iconst 3, 1) := by decide +kernel
theorem dX11_isRicher_3 : decode cX11_isRicher 3 = .ok (.invokevirtual 74, 3) := by decide +kernel
theorem dX11_isRicher_6 : decode cX11_isRicher 6 = .ok (.aload_n 0, 1) := by decide +kernel
theorem dX11_isRicher_7 : decode cX11_isRicher 7 = .ok (.iload_n 2, 1) := by decide +kernel
theorem dX11_isRicher_8 : decode cX11_isRicher 8 = .ok (.iconst 3, 1) := by decide +kernel
theorem dX11_isRicher_9 : decode cX11_isRicher 9 = .ok (.invokevirtual 74, 3) := by decide +kernel
theorem dX11_isRicher_12 : decode cX11_isRicher 12 = .ok (.isub, 1) := by decide +kernel
theorem dX11_isRicher_13 : decode cX11_isRicher 13 = .ok (.istore_n 3, 1) := by decide +kernel
theorem dX11_isRicher_14 : decode cX11_isRicher 14 = .ok (.aload_n 0, 1) := by decide +kernel
theorem dX11_isRicher_15 : decode cX11_isRicher 15 = .ok (.iload_n 1, 1) := by decide +kernel
theorem dX11_isRicher_16 : decode cX11_isRicher 16 = .ok (.iconst 5, 1) := by decide +kernel
theorem dX11_isRicher_17 : decode cX11_isRicher 17 = .ok (.invokevirtual 74, 3) := by decide +kernel
theorem dX11_isRicher_20 : decode cX11_isRicher 20 = .ok (.ifCond .lt 7, 3) := by decide +kernel
theorem dX11_isRicher_23 : decode cX11_isRicher 23 = .ok (.iconst 1, 1) := by decide +kernel
theorem dX11_isRicher_24 : decode cX11_isRicher 24 = .ok (.goto 4, 3) := by decide +kernel
theorem dX11_isRicher_27 : decode cX11_isRicher 27 = .ok (.iconst 0, 1) := by decide +kernel
theorem dX11_isRicher_28 : decode cX11_isRicher 28 = .ok (.istore 4, 2) := by decide +kernel
theorem dX11_isRicher_30 : decode cX11_isRicher 30 = .ok (.iload_n 3, 1) := by decide +kernel
theorem dX11_isRicher_31 : decode cX11_isRicher 31 = .ok (.ifCond .eq 15, 3) := by decide +kernel
theorem dX11_isRicher_34 : decode cX11_isRicher 34 = .ok (.iload_n 3, 1) := by decide +kernel
theorem dX11_isRicher_35 : decode cX11_isRicher 35 = .ok (.ifCond .le 7, 3) := by decide +kernel
theorem dX11_isRicher_38 : decode cX11_isRicher 38 = .ok (.iconst 1, 1) := by decide +kernel
theorem dX11_isRicher_39 : decode cX11_isRicher 39 = .ok (.goto 41, 3) := by decide +kernel
theorem dX11_isRicher_42 : decode cX11_isRicher 42 = .ok (.iconst 0, 1) := by decide +kernel
theorem dX11_isRicher_43 : decode cX11_isRicher 43 = .ok (.goto 37, 3) := by decide +kernel
theorem dX11_isRicher_46 : decode cX11_isRicher 46 = .ok (.iload 4, 2) := by decide +kernel
theorem dX11_isRicher_48 : decode cX11_isRicher 48 = .ok (.aload_n 0, 1) := by decide +kernel
theorem dX11_isRicher_49 : decode cX11_isRicher 49 = .ok (.iload_n 2, 1) := by decide +kernel
theorem dX11_isRicher_50 : decode cX11_isRicher 50 = .ok (.iconst 5, 1) := by decide +kernel
theorem dX11_isRicher_51 : decode cX11_isRicher 51 = .ok (.invokevirtual 74, 3) := by decide +kernel
theorem dX11_isRicher_54 : decode cX11_isRicher 54 = .ok (.ifCond .lt 7, 3) := by decide +kernel
theorem dX11_isRicher_57 : decode cX11_isRicher 57 = .ok (.iconst 1, 1) := by decide +kernel
theorem dX11_isRicher_58 : decode cX11_isRicher 58 = .ok (.goto 4, 3) := by decide +kernel
theorem dX11_isRicher_61 : decode cX11_isRicher 61 = .ok (.iconst 0, 1) := by decide +kernel
theorem dX11_isRicher_62 : decode cX11_isRicher 62 = .ok (.if_icmp .eq 8, 3) := by decide +kernel
theorem dX11_isRicher_65 : decode cX11_isRicher 65 = .ok (.iload 4, 2) := by decide +kernel
theorem dX11_isRicher_67 : decode cX11_isRicher 67 = .ok (.goto 13, 3) := by decide +kernel
theorem dX11_isRicher_70 : decode cX11_isRicher 70 = .ok (.iload_n 1, 1) := by decide +kernel
theorem dX11_isRicher_71 : decode cX11_isRicher 71 = .ok (.iload_n 2, 1) := by decide +kernel
theorem dX11_isRicher_72 : decode cX11_isRicher 72 = .ok (.if_icmp .ge 7, 3) := by decide +kernel
theorem dX11_isRicher_75 : decode cX11_isRicher 75 = .ok (.iconst 1, 1) := by decide +kernel
theorem dX11_isRicher_76 : decode cX11_isRicher 76 = .ok (.goto 4, 3) := by decide +kernel
theorem dX11_isRicher_79 : decode cX11_isRicher 79 = .ok (.iconst 0, 1) := by decide +kernel
theorem dX11_isRicher_80 : decode cX11_isRicher 80 = .ok (.ireturn, 1) := by decide +kernel
theorem dX11_richest_0 : decode cX11_richest 0 = .ok (.iconst 0, 1) := by decide +kernel
theorem dX11_richest_1 : decode cX11_richest 1 = .ok (.istore_n 2, 1) := by decide +kernel
theorem dX11_richest_2 : decode cX11_richest 2 = .ok (.iload_n 2, 1) := by decide +kernel
theorem dX11_richest_3 : decode cX11_richest 3 = .ok (.aload_n 0, 1) := by decide +kernel
theorem dX11_richest_4 : decode cX11_richest 4 = .ok (.getfield 9, 3) := by decide +kernel
theorem dX11_richest_7 : decode cX11_richest 7 = .ok (.bipush 8, 2) := by decide +kernel
theorem dX11_richest_9 : decode cX11_richest 9 = .ok (.iaload, 1) := by decide +kernel
theorem dX11_richest_10 : decode cX11_richest 10 = .ok (.if_icmp .ge 57, 3) := by decide +kernel
theorem dX11_richest_13 : decode cX11_richest 13 = .ok (.iconst 0, 1) := by decide +kernel
theorem dX11_richest_14 : decode cX11_richest 14 = .ok (.istore_n 3, 1) := by decide +kernel
theorem dX11_richest_15 : decode cX11_richest 15 = .ok (.iconst 0, 1) := by decide +kernel
theorem dX11_richest_16 : decode cX11_richest 16 = .ok (.istore 4, 2) := by decide +kernel
theorem dX11_richest_18 : decode cX11_richest 18 = .ok (.iload 4, 2) := by decide +kernel
theorem dX11_richest_20 : decode cX11_richest 20 = .ok (.aload_n 0, 1) := by decide +kernel
theorem dX11_richest_21 : decode cX11_richest 21 = .ok (.getfield 9, 3) := by decide +kernel
theorem dX11_richest_24 : decode cX11_richest 24 = .ok (.bipush 8, 2) := by decide +kernel
theorem dX11_richest_26 : decode cX11_richest 26 = .ok (.iaload, 1) := by decide +kernel
theorem dX11_richest_27 : decode cX11_richest 27 = .ok (.if_icmp .ge 27, 3) := by decide +kernel
theorem dX11_richest_30 : decode cX11_richest 30 = .ok (.iload_n 3, 1) := by decide +kernel
theorem dX11_richest_31 : decode cX11_richest 31 = .ok (.aload_n 0, 1) := by decide +kernel
theorem dX11_richest_32 : decode cX11_richest 32 = .ok (.iload 4, 2) := by decide +kernel
theorem dX11_richest_34 : decode cX11_richest 34 = .ok (.iload_n 2, 1) := by decide +kernel
theorem dX11_richest_35 : decode cX11_richest 35 = .ok (.invokevirtual 169, 3) := by decide +kernel
theorem dX11_richest_38 : decode cX11_richest 38 = .ok (.ifCond .eq 7, 3) := by decide +kernel
theorem dX11_richest_41 : decode cX11_richest 41 = .ok (.iconst 1, 1) := by decide +kernel
theorem dX11_richest_42 : decode cX11_richest 42 = .ok (.goto 4, 3) := by decide +kernel
theorem dX11_richest_45 : decode cX11_richest 45 = .ok (.iconst 0, 1) := by decide +kernel
theorem dX11_richest_46 : decode cX11_richest 46 = .ok (.iadd, 1) := by decide +kernel
theorem dX11_richest_47 : decode cX11_richest 47 = .ok (.istore_n 3, 1) := by decide +kernel
theorem dX11_richest_48 : decode cX11_richest 48 = .ok (.iinc 4 1, 3) := by decide +kernel
theorem dX11_richest_51 : decode cX11_richest 51 = .ok (.goto (-33), 3) := by decide +kernel
theorem dX11_richest_54 : decode cX11_richest 54 = .ok (.iload_n 3, 1) := by decide +kernel
theorem dX11_richest_55 : decode cX11_richest 55 = .ok (.iload_n 1, 1) := by decide +kernel
theorem dX11_richest_56 : decode cX11_richest 56 = .ok (.if_icmp .ne 5, 3) := by decide +kernel
theorem dX11_richest_59 : decode cX11_richest 59 = .ok (.iload_n 2, 1) := by decide +kernel
theorem dX11_richest_60 : decode cX11_richest 60 = .ok (.ireturn, 1) := by decide +kernel
theorem dX11_richest_61 : decode cX11_richest 61 = .ok (.iinc 2 1, 3) := by decide +kernel
theorem dX11_richest_64 : decode cX11_richest 64 = .ok (.goto (-62), 3) := by decide +kernel
theorem dX11_richest_67 : decode cX11_richest 67 = .ok (.sipush (-1011), 3) := by decide +kernel
theorem dX11_richest_70 : decode cX11_richest 70 = .ok (.ireturn, 1) := by decide +kernel
theorem dX11_write_0 : decode cX11_write 0 = .ok (.aload_n 0, 1) := by decide +kernel
theorem dX11_write_1 : decode cX11_write 1 = .ok (.getfield 36, 3) := by decide +kernel
theorem dX11_write_4 : decode cX11_write 4 = .ok (.aload_n 0, 1) := by decide +kernel
theorem dX11_write_5 : decode cX11_write 5 = .ok (.getfield 172, 3) := by decide +kernel
theorem dX11_write_8 : decode cX11_write 8 = .ok (.iload_n 1, 1) := by decide +kernel
theorem dX11_write_9 : decode cX11_write 9 = .ok (.castore, 1) := by decide +kernel
theorem dX11_write_10 : decode cX11_write 10 = .ok (.aload_n 0, 1) := by decide +kernel
theorem dX11_write_11 : decode cX11_write 11 = .ok (.dup, 1) := by decide +kernel
theorem dX11_write_12 : decode cX11_write 12 = .ok (.getfield 172, 3) := by decide +kernel
theorem dX11_write_15 : decode cX11_write 15 = .ok (.iconst 1, 1) := by decide +kernel
theorem dX11_write_16 : decode cX11_write 16 = .ok (.iadd, 1) := by decide +kernel
theorem dX11_write_17 : decode cX11_write 17 = .ok (.putfield 172, 3) := by decide +kernel
theorem dX11_write_20 : decode cX11_write 20 = .ok (.return_, 1) := by decide +kernel
theorem dX11_writeNumber_0 : decode cX11_writeNumber 0 = .ok (.iload_n 1, 1) := by decide +kernel
theorem dX11_writeNumber_1 : decode cX11_writeNumber 1 = .ok (.bipush 9, 2) := by decide +kernel
theorem dX11_writeNumber_3 : decode cX11_writeNumber 3 = .ok (.if_icmp .le 15, 3) := by decide +kernel
theorem dX11_writeNumber_6 : decode cX11_writeNumber 6 = .ok (.aload_n 0, 1) := by decide +kernel
theorem dX11_writeNumber_7 : decode cX11_writeNumber 7 = .ok (.bipush 48, 2) := by decide +kernel
theorem dX11_writeNumber_9 : decode cX11_writeNumber 9 = .ok (.iload_n 1, 1) := by decide +kernel
theorem dX11_writeNumber_10 : decode cX11_writeNumber 10 = .ok (.bipush 10, 2) := by decide +kernel
theorem dX11_writeNumber_12 : decode cX11_writeNumber 12 = .ok (.idiv, 1) := by decide +kernel
theorem dX11_writeNumber_13 : decode cX11_writeNumber 13 = .ok (.iadd, 1) := by decide +kernel
theorem dX11_writeNumber_14 : decode cX11_writeNumber 14 = .ok (.i2c, 1) := by decide +kernel
theorem dX11_writeNumber_15 : decode cX11_writeNumber 15 = .ok (.invokevirtual 175, 3) := by decide +kernel
theorem dX11_writeNumber_18 : decode cX11_writeNumber 18 = .ok (.aload_n 0, 1) := by decide +kernel
theorem dX11_writeNumber_19 : decode cX11_writeNumber 19 = .ok (.bipush 48, 2) := by decide +kernel
theorem dX11_writeNumber_21 : decode cX11_writeNumber 21 = .ok (.iload_n 1, 1) := by decide +kernel
theorem dX11_writeNumber_22 : decode cX11_writeNumber 22 = .ok (.bipush 10, 2) := by decide +kernel
theorem dX11_writeNumber_24 : decode cX11_writeNumber 24 = .ok (.irem, 1) := by decide +kernel
theorem dX11_writeNumber_25 : decode cX11_writeNumber 25 = .ok (.iadd, 1) := by decide +kernel
theorem dX11_writeNumber_26 : decode cX11_writeNumber 26 = .ok (.i2c, 1) := by decide +kernel
theorem dX11_writeNumber_27 : decode cX11_writeNumber 27 = .ok (.invokevirtual 175, 3) := by decide +kernel
theorem dX11_writeNumber_30 : decode cX11_writeNumber 30 = .ok (.return_, 1) := by decide +kernel
theorem dX11_writeBehind_0 : decode cX11_writeBehind 0 = .ok (.aload_n 0, 1) := by decide +kernel
theorem dX11_writeBehind_1 : decode cX11_writeBehind 1 = .ok (.iload_n 1, 1) := by decide +kernel
theorem dX11_writeBehind_2 : decode cX11_writeBehind 2 = .ok (.invokevirtual 175, 3) := by decide +kernel
theorem dX11_writeBehind_5 : decode cX11_writeBehind 5 = .ok (.aload_n 0, 1) := by decide +kernel
theorem dX11_writeBehind_6 : decode cX11_writeBehind 6 = .ok (.iload_n 2, 1) := by decide +kernel
theorem dX11_writeBehind_7 : decode cX11_writeBehind 7 = .ok (.invokevirtual 179, 3) := by decide +kernel
theorem dX11_writeBehind_10 : decode cX11_writeBehind 10 = .ok (.return_, 1) := by decide +kernel
theorem dX11_tell_0 : decode cX11_tell 0 = .ok (.aload_n 0, 1) := by decide +kernel
theorem dX11_tell_1 : decode cX11_tell 1 = .ok (.iload_n 1, 1) := by decide +kernel
theorem dX11_tell_2 : decode cX11_tell 2 = .ok (.invokevirtual 98, 3) := by decide +kernel
theorem dX11_tell_5 : decode cX11_tell 5 = .ok (.ifCond .ne 7, 3) := by decide +kernel
theorem dX11_tell_8 : decode cX11_tell 8 = .ok (.sipush (-1011), 3) := by decide +kernel
theorem dX11_tell_11 : decode cX11_tell 11 = .ok (.ireturn, 1) := by decide +kernel
theorem dX11_tell_12 : decode cX11_tell 12 = .ok (.aload_n 0, 1) := by decide +kernel
theorem dX11_tell_13 : decode cX11_tell 13 = .ok (.iconst 0, 1) := by decide +kernel
theorem dX11_tell_14 : decode cX11_tell 14 = .ok (.putfield 172, 3) := by decide +kernel
theorem dX11_tell_17 : decode cX11_tell 17 = .ok (.aload_n 0, 1) := by decide +kernel
theorem dX11_tell_18 : decode cX11_tell 18 = .ok (.iload_n 1, 1) := by decide +kernel
theorem dX11_tell_19 : decode cX11_tell 19 = .ok (.invokevirtual 179, 3) := by decide +kernel
theorem dX11_tell_22 : decode cX11_tell 22 = .ok (.aload_n 0, 1) := by decide +kernel
theorem dX11_tell_23 : decode cX11_tell 23 = .ok (.bipush 115, 2) := by decide +kernel
theorem dX11_tell_25 : decode cX11_tell 25 = .ok (.aload_n 0, 1) := by decide +kernel
theorem dX11_tell_26 : decode cX11_tell 26 = .ok (.iload_n 1, 1) := by decide +kernel
theorem dX11_tell_27 : decode cX11_tell 27 = .ok (.iconst 0, 1) := by decide +kernel
theorem dX11_tell_28 : decode cX11_tell 28 = .ok (.invokevirtual 70, 3) := by decide +kernel
theorem dX11_tell_31 : decode cX11_tell 31 = .ok (.invokevirtual 182, 3) := by decide +kernel
theorem dX11_tell_34 : decode cX11_tell 34 = .ok (.aload_n 0, 1) := by decide +kernel
theorem dX11_tell_35 : decode cX11_tell 35 = .ok (.bipush 110, 2) := by decide +kernel
theorem dX11_tell_37 : decode cX11_tell 37 = .ok (.aload_n 0, 1) := by decide +kernel
theorem dX11_tell_38 : decode cX11_tell 38 = .ok (.iload_n 1, 1) := by decide +kernel
theorem dX11_tell_39 : decode cX11_tell 39 = .ok (.iconst 1, 1) := by decide +kernel
theorem dX11_tell_40 : decode cX11_tell 40 = .ok (.invokevirtual 70, 3) := by decide +kernel
theorem dX11_tell_43 : decode cX11_tell 43 = .ok (.invokevirtual 182, 3) := by decide +kernel
theorem dX11_tell_46 : decode cX11_tell 46 = .ok (.aload_n 0, 1) := by decide +kernel
theorem dX11_tell_47 : decode cX11_tell 47 = .ok (.bipush 99, 2) := by decide +kernel
theorem dX11_tell_49 : decode cX11_tell 49 = .ok (.aload_n 0, 1) := by decide +kernel
theorem dX11_tell_50 : decode cX11_tell 50 = .ok (.iload_n 1, 1) := by decide +kernel
theorem dX11_tell_51 : decode cX11_tell 51 = .ok (.iconst 2, 1) := by decide +kernel
theorem dX11_tell_52 : decode cX11_tell 52 = .ok (.invokevirtual 70, 3) := by decide +kernel
theorem dX11_tell_55 : decode cX11_tell 55 = .ok (.invokevirtual 182, 3) := by decide +kernel
theorem dX11_tell_58 : decode cX11_tell 58 = .ok (.iconst 0, 1) := by decide +kernel
theorem dX11_tell_59 : decode cX11_tell 59 = .ok (.istore_n 2, 1) := by decide +kernel
theorem dX11_tell_60 : decode cX11_tell 60 = .ok (.iload_n 2, 1) := by decide +kernel
theorem dX11_tell_61 : decode cX11_tell 61 = .ok (.aload_n 0, 1) := by decide +kernel
theorem dX11_tell_62 : decode cX11_tell 62 = .ok (.iload_n 1, 1) := by decide +kernel
theorem dX11_tell_63 : decode cX11_tell 63 = .ok (.iconst 4, 1) := by decide +kernel
theorem dX11_tell_64 : decode cX11_tell 64 = .ok (.invokevirtual 70, 3) := by decide +kernel
theorem dX11_tell_67 : decode cX11_tell 67 = .ok (.if_icmp .ge 15, 3) := by decide +kernel
theorem dX11_tell_70 : decode cX11_tell 70 = .ok (.aload_n 0, 1) := by decide +kernel
theorem dX11_tell_71 : decode cX11_tell 71 = .ok (.bipush 94, 2) := by decide +kernel
theorem dX11_tell_73 : decode cX11_tell 73 = .ok (.invokevirtual 175, 3) := by decide +kernel
theorem dX11_tell_76 : decode cX11_tell 76 = .ok (.iinc 2 1, 3) := by decide +kernel
theorem dX11_tell_79 : decode cX11_tell 79 = .ok (.goto (-19), 3) := by decide +kernel
theorem dX11_tell_82 : decode cX11_tell 82 = .ok (.aload_n 0, 1) := by decide +kernel
theorem dX11_tell_83 : decode cX11_tell 83 = .ok (.iload_n 1, 1) := by decide +kernel
theorem dX11_tell_84 : decode cX11_tell 84 = .ok (.invokevirtual 80, 3) := by decide +kernel
theorem dX11_tell_87 : decode cX11_tell 87 = .ok (.ifCond .eq 9, 3) := by decide +kernel
theorem dX11_tell_90 : decode cX11_tell 90 = .ok (.aload_n 0, 1) := by decide +kernel
theorem dX11_tell_91 : decode cX11_tell 91 = .ok (.bipush 120, 2) := by decide +kernel
theorem dX11_tell_93 : decode cX11_tell 93 = .ok (.invokevirtual 175, 3) := by decide +kernel
theorem dX11_tell_96 : decode cX11_tell 96 = .ok (.aload_n 0, 1) := by decide +kernel
theorem dX11_tell_97 : decode cX11_tell 97 = .ok (.iload_n 1, 1) := by decide +kernel
theorem dX11_tell_98 : decode cX11_tell 98 = .ok (.bipush 6, 2) := by decide +kernel
theorem dX11_tell_100 : decode cX11_tell 100 = .ok (.invokevirtual 70, 3) := by decide +kernel
theorem dX11_tell_103 : decode cX11_tell 103 = .ok (.ifCond .lt 16, 3) := by decide +kernel
theorem dX11_tell_106 : decode cX11_tell 106 = .ok (.aload_n 0, 1) := by decide +kernel
theorem dX11_tell_107 : decode cX11_tell 107 = .ok (.bipush 58, 2) := by decide +kernel
theorem dX11_tell_109 : decode cX11_tell 109 = .ok (.aload_n 0, 1) := by decide +kernel
theorem dX11_tell_110 : decode cX11_tell 110 = .ok (.iload_n 1, 1) := by decide +kernel
theorem dX11_tell_111 : decode cX11_tell 111 = .ok (.bipush 6, 2) := by decide +kernel
theorem dX11_tell_113 : decode cX11_tell 113 = .ok (.invokevirtual 70, 3) := by decide +kernel
theorem dX11_tell_116 : decode cX11_tell 116 = .ok (.invokevirtual 182, 3) := by decide +kernel
theorem dX11_tell_119 : decode cX11_tell 119 = .ok (.aload_n 0, 1) := by decide +kernel
theorem dX11_tell_120 : decode cX11_tell 120 = .ok (.getfield 172, 3) := by decide +kernel
theorem dX11_tell_123 : decode cX11_tell 123 = .ok (.ireturn, 1) := by decide +kernel
theorem dX11_tellMusicians_0 : decode cX11_tellMusicians 0 = .ok (.aload_n 0, 1) := by decide +kernel
theorem dX11_tellMusicians_1 : decode cX11_tellMusicians 1 = .ok (.iconst 0, 1) := by decide +kernel
theorem dX11_tellMusicians_2 : decode cX11_tellMusicians 2 = .ok (.putfield 172, 3) := by decide +kernel
theorem dX11_tellMusicians_5 : decode cX11_tellMusicians 5 = .ok (.iconst 0, 1) := by decide +kernel
theorem dX11_tellMusicians_6 : decode cX11_tellMusicians 6 = .ok (.istore_n 1, 1) := by decide +kernel
theorem dX11_tellMusicians_7 : decode cX11_tellMusicians 7 = .ok (.iload_n 1, 1) := by decide +kernel
theorem dX11_tellMusicians_8 : decode cX11_tellMusicians 8 = .ok (.aload_n 0, 1) := by decide +kernel
theorem dX11_tellMusicians_9 : decode cX11_tellMusicians 9 = .ok (.getfield 9, 3) := by decide +kernel
theorem dX11_tellMusicians_12 : decode cX11_tellMusicians 12 = .ok (.bipush 8, 2) := by decide +kernel
theorem dX11_tellMusicians_14 : decode cX11_tellMusicians 14 = .ok (.iaload, 1) := by decide +kernel
theorem dX11_tellMusicians_15 : decode cX11_tellMusicians 15 = .ok (.if_icmp .ge 80, 3) := by decide +kernel
theorem dX11_tellMusicians_18 : decode cX11_tellMusicians 18 = .ok (.iload_n 1, 1) := by decide +kernel
theorem dX11_tellMusicians_19 : decode cX11_tellMusicians 19 = .ok (.ifCond .le 9, 3) := by decide +kernel
theorem dX11_tellMusicians_22 : decode cX11_tellMusicians 22 = .ok (.aload_n 0, 1) := by decide +kernel
theorem dX11_tellMusicians_23 : decode cX11_tellMusicians 23 = .ok (.bipush 32, 2) := by decide +kernel
theorem dX11_tellMusicians_25 : decode cX11_tellMusicians 25 = .ok (.invokevirtual 175, 3) := by decide +kernel
theorem dX11_tellMusicians_28 : decode cX11_tellMusicians 28 = .ok (.aload_n 0, 1) := by decide +kernel
theorem dX11_tellMusicians_29 : decode cX11_tellMusicians 29 = .ok (.iload_n 1, 1) := by decide +kernel
theorem dX11_tellMusicians_30 : decode cX11_tellMusicians 30 = .ok (.iconst 5, 1) := by decide +kernel
theorem dX11_tellMusicians_31 : decode cX11_tellMusicians 31 = .ok (.invokevirtual 74, 3) := by decide +kernel
theorem dX11_tellMusicians_34 : decode cX11_tellMusicians 34 = .ok (.ifCond .ge 12, 3) := by decide +kernel
theorem dX11_tellMusicians_37 : decode cX11_tellMusicians 37 = .ok (.aload_n 0, 1) := by decide +kernel
theorem dX11_tellMusicians_38 : decode cX11_tellMusicians 38 = .ok (.bipush 46, 2) := by decide +kernel
theorem dX11_tellMusicians_40 : decode cX11_tellMusicians 40 = .ok (.invokevirtual 175, 3) := by decide +kernel
theorem dX11_tellMusicians_43 : decode cX11_tellMusicians 43 = .ok (.goto 13, 3) := by decide +kernel
theorem dX11_tellMusicians_46 : decode cX11_tellMusicians 46 = .ok (.aload_n 0, 1) := by decide +kernel
theorem dX11_tellMusicians_47 : decode cX11_tellMusicians 47 = .ok (.aload_n 0, 1) := by decide +kernel
theorem dX11_tellMusicians_48 : decode cX11_tellMusicians 48 = .ok (.iload_n 1, 1) := by decide +kernel
theorem dX11_tellMusicians_49 : decode cX11_tellMusicians 49 = .ok (.iconst 5, 1) := by decide +kernel
theorem dX11_tellMusicians_50 : decode cX11_tellMusicians 50 = .ok (.invokevirtual 74, 3) := by decide +kernel
theorem dX11_tellMusicians_53 : decode cX11_tellMusicians 53 = .ok (.invokevirtual 179, 3) := by decide +kernel
theorem dX11_tellMusicians_56 : decode cX11_tellMusicians 56 = .ok (.aload_n 0, 1) := by decide +kernel
theorem dX11_tellMusicians_57 : decode cX11_tellMusicians 57 = .ok (.bipush 36, 2) := by decide +kernel
theorem dX11_tellMusicians_59 : decode cX11_tellMusicians 59 = .ok (.aload_n 0, 1) := by decide +kernel
theorem dX11_tellMusicians_60 : decode cX11_tellMusicians 60 = .ok (.iload_n 1, 1) := by decide +kernel
theorem dX11_tellMusicians_61 : decode cX11_tellMusicians 61 = .ok (.iconst 3, 1) := by decide +kernel
theorem dX11_tellMusicians_62 : decode cX11_tellMusicians 62 = .ok (.invokevirtual 74, 3) := by decide +kernel
theorem dX11_tellMusicians_65 : decode cX11_tellMusicians 65 = .ok (.invokevirtual 182, 3) := by decide +kernel
theorem dX11_tellMusicians_68 : decode cX11_tellMusicians 68 = .ok (.aload_n 0, 1) := by decide +kernel
theorem dX11_tellMusicians_69 : decode cX11_tellMusicians 69 = .ok (.iload_n 1, 1) := by decide +kernel
theorem dX11_tellMusicians_70 : decode cX11_tellMusicians 70 = .ok (.iconst 4, 1) := by decide +kernel
theorem dX11_tellMusicians_71 : decode cX11_tellMusicians 71 = .ok (.invokevirtual 74, 3) := by decide +kernel
theorem dX11_tellMusicians_74 : decode cX11_tellMusicians 74 = .ok (.ifCond .le 15, 3) := by decide +kernel
theorem dX11_tellMusicians_77 : decode cX11_tellMusicians 77 = .ok (.aload_n 0, 1) := by decide +kernel
theorem dX11_tellMusicians_78 : decode cX11_tellMusicians 78 = .ok (.bipush 33, 2) := by decide +kernel
theorem dX11_tellMusicians_80 : decode cX11_tellMusicians 80 = .ok (.aload_n 0, 1) := by decide +kernel
theorem dX11_tellMusicians_81 : decode cX11_tellMusicians 81 = .ok (.iload_n 1, 1) := by decide +kernel
theorem dX11_tellMusicians_82 : decode cX11_tellMusicians 82 = .ok (.iconst 4, 1) := by decide +kernel
theorem dX11_tellMusicians_83 : decode cX11_tellMusicians 83 = .ok (.invokevirtual 74, 3) := by decide +kernel
theorem dX11_tellMusicians_86 : decode cX11_tellMusicians 86 = .ok (.invokevirtual 182, 3) := by decide +kernel
theorem dX11_tellMusicians_89 : decode cX11_tellMusicians 89 = .ok (.iinc 1 1, 3) := by decide +kernel
theorem dX11_tellMusicians_92 : decode cX11_tellMusicians 92 = .ok (.goto (-85), 3) := by decide +kernel
theorem dX11_tellMusicians_95 : decode cX11_tellMusicians 95 = .ok (.aload_n 0, 1) := by decide +kernel
theorem dX11_tellMusicians_96 : decode cX11_tellMusicians 96 = .ok (.getfield 172, 3) := by decide +kernel
theorem dX11_tellMusicians_99 : decode cX11_tellMusicians 99 = .ok (.ireturn, 1) := by decide +kernel
theorem dX11_character_0 : decode cX11_character 0 = .ok (.iload_n 1, 1) := by decide +kernel
theorem dX11_character_1 : decode cX11_character 1 = .ok (.iconst 0, 1) := by decide +kernel
theorem dX11_character_2 : decode cX11_character 2 = .ok (.aload_n 0, 1) := by decide +kernel
theorem dX11_character_3 : decode cX11_character 3 = .ok (.getfield 172, 3) := by decide +kernel
theorem dX11_character_6 : decode cX11_character 6 = .ok (.iconst 1, 1) := by decide +kernel
theorem dX11_character_7 : decode cX11_character 7 = .ok (.isub, 1) := by decide +kernel
theorem dX11_character_8 : decode cX11_character 8 = .ok (.invokestatic 66, 3) := by decide +kernel
theorem dX11_character_11 : decode cX11_character 11 = .ok (.ifCond .eq 12, 3) := by decide +kernel
theorem dX11_character_14 : decode cX11_character 14 = .ok (.aload_n 0, 1) := by decide +kernel
theorem dX11_character_15 : decode cX11_character 15 = .ok (.getfield 36, 3) := by decide +kernel
theorem dX11_character_18 : decode cX11_character 18 = .ok (.iload_n 1, 1) := by decide +kernel
theorem dX11_character_19 : decode cX11_character 19 = .ok (.caload, 1) := by decide +kernel
theorem dX11_character_20 : decode cX11_character 20 = .ok (.goto 6, 3) := by decide +kernel
theorem dX11_character_23 : decode cX11_character 23 = .ok (.sipush (-1011), 3) := by decide +kernel
theorem dX11_character_26 : decode cX11_character 26 = .ok (.ireturn, 1) := by decide +kernel
theorem dX11_allCoins_0 : decode cX11_allCoins 0 = .ok (.iconst 0, 1) := by decide +kernel
theorem dX11_allCoins_1 : decode cX11_allCoins 1 = .ok (.istore_n 1, 1) := by decide +kernel
theorem dX11_allCoins_2 : decode cX11_allCoins 2 = .ok (.iconst 0, 1) := by decide +kernel
theorem dX11_allCoins_3 : decode cX11_allCoins 3 = .ok (.istore_n 2, 1) := by decide +kernel
theorem dX11_allCoins_4 : decode cX11_allCoins 4 = .ok (.iload_n 2, 1) := by decide +kernel
theorem dX11_allCoins_5 : decode cX11_allCoins 5 = .ok (.aload_n 0, 1) := by decide +kernel
theorem dX11_allCoins_6 : decode cX11_allCoins 6 = .ok (.getfield 9, 3) := by decide +kernel
theorem dX11_allCoins_9 : decode cX11_allCoins 9 = .ok (.bipush 8, 2) := by decide +kernel
theorem dX11_allCoins_11 : decode cX11_allCoins 11 = .ok (.iaload, 1) := by decide +kernel
theorem dX11_allCoins_12 : decode cX11_allCoins 12 = .ok (.if_icmp .ge 18, 3) := by decide +kernel
theorem dX11_allCoins_15 : decode cX11_allCoins 15 = .ok (.iload_n 1, 1) := by decide +kernel
theorem dX11_allCoins_16 : decode cX11_allCoins 16 = .ok (.aload_n 0, 1) := by decide +kernel
theorem dX11_allCoins_17 : decode cX11_allCoins 17 = .ok (.iload_n 2, 1) := by decide +kernel
theorem dX11_allCoins_18 : decode cX11_allCoins 18 = .ok (.iconst 3, 1) := by decide +kernel
theorem dX11_allCoins_19 : decode cX11_allCoins 19 = .ok (.invokevirtual 74, 3) := by decide +kernel
theorem dX11_allCoins_22 : decode cX11_allCoins 22 = .ok (.iadd, 1) := by decide +kernel
theorem dX11_allCoins_23 : decode cX11_allCoins 23 = .ok (.istore_n 1, 1) := by decide +kernel
theorem dX11_allCoins_24 : decode cX11_allCoins 24 = .ok (.iinc 2 1, 3) := by decide +kernel
theorem dX11_allCoins_27 : decode cX11_allCoins 27 = .ok (.goto (-23), 3) := by decide +kernel
theorem dX11_allCoins_30 : decode cX11_allCoins 30 = .ok (.iload_n 1, 1) := by decide +kernel
theorem dX11_allCoins_31 : decode cX11_allCoins 31 = .ok (.ireturn, 1) := by decide +kernel
theorem dX11_reason_0 : decode cX11_reason 0 = .ok (.iload_n 1, 1) := by decide +kernel
theorem dX11_reason_1 : decode cX11_reason 1 = .ok (.iconst 0, 1) := by decide +kernel
theorem dX11_reason_2 : decode cX11_reason 2 = .ok (.iconst 2, 1) := by decide +kernel
theorem dX11_reason_3 : decode cX11_reason 3 = .ok (.invokestatic 66, 3) := by decide +kernel
theorem dX11_reason_6 : decode cX11_reason 6 = .ok (.ifCond .ne 7, 3) := by decide +kernel
theorem dX11_reason_9 : decode cX11_reason 9 = .ok (.sipush (-1012), 3) := by decide +kernel
theorem dX11_reason_12 : decode cX11_reason 12 = .ok (.ireturn, 1) := by decide +kernel
theorem dX11_reason_13 : decode cX11_reason 13 = .ok (.iload_n 1, 1) := by decide +kernel
theorem dX11_reason_14 : decode cX11_reason 14 = .ok (.aload_n 0, 1) := by decide +kernel
theorem dX11_reason_15 : decode cX11_reason 15 = .ok (.getfield 43, 3) := by decide +kernel
theorem dX11_reason_18 : decode cX11_reason 18 = .ok (.if_icmp .lt 9, 3) := by decide +kernel
theorem dX11_reason_21 : decode cX11_reason 21 = .ok (.sipush (-1015), 3) := by decide +kernel
theorem dX11_reason_24 : decode cX11_reason 24 = .ok (.goto 22, 3) := by decide +kernel
theorem dX11_reason_27 : decode cX11_reason 27 = .ok (.iload_n 2, 1) := by decide +kernel
theorem dX11_reason_28 : decode cX11_reason 28 = .ok (.ifCond .eq 12, 3) := by decide +kernel
theorem dX11_reason_31 : decode cX11_reason 31 = .ok (.aload_n 0, 1) := by decide +kernel
theorem dX11_reason_32 : decode cX11_reason 32 = .ok (.getfield 30, 3) := by decide +kernel
theorem dX11_reason_35 : decode cX11_reason 35 = .ok (.iload_n 1, 1) := by decide +kernel
theorem dX11_reason_36 : decode cX11_reason 36 = .ok (.iaload, 1) := by decide +kernel
theorem dX11_reason_37 : decode cX11_reason 37 = .ok (.goto 9, 3) := by decide +kernel
theorem dX11_reason_40 : decode cX11_reason 40 = .ok (.aload_n 0, 1) := by decide +kernel
theorem dX11_reason_41 : decode cX11_reason 41 = .ok (.getfield 27, 3) := by decide +kernel
theorem dX11_reason_44 : decode cX11_reason 44 = .ok (.iload_n 1, 1) := by decide +kernel
theorem dX11_reason_45 : decode cX11_reason 45 = .ok (.iaload, 1) := by decide +kernel
theorem dX11_reason_46 : decode cX11_reason 46 = .ok (.ireturn, 1) := by decide +kernel
theorem dX11_account_0 : decode cX11_account 0 = .ok (.iload_n 1, 1) := by decide +kernel
theorem dX11_account_1 : decode cX11_account 1 = .ok (.tableswitch 119 0 13 #[71, 79, 87, 92, 97, 102, 119, 119, 119, 119, 119, 119, 109, 114], 71) := by decide +kernel
theorem dX11_account_72 : decode cX11_account 72 = .ok (.aload_n 0, 1) := by decide +kernel
theorem dX11_account_73 : decode cX11_account 73 = .ok (.getfield 9, 3) := by decide +kernel
theorem dX11_account_76 : decode cX11_account 76 = .ok (.bipush 7, 2) := by decide +kernel
theorem dX11_account_78 : decode cX11_account 78 = .ok (.iaload, 1) := by decide +kernel
theorem dX11_account_79 : decode cX11_account 79 = .ok (.ireturn, 1) := by decide +kernel
theorem dX11_account_80 : decode cX11_account 80 = .ok (.aload_n 0, 1) := by decide +kernel
theorem dX11_account_81 : decode cX11_account 81 = .ok (.getfield 9, 3) := by decide +kernel
theorem dX11_account_84 : decode cX11_account 84 = .ok (.bipush 8, 2) := by decide +kernel
theorem dX11_account_86 : decode cX11_account 86 = .ok (.iaload, 1) := by decide +kernel
theorem dX11_account_87 : decode cX11_account 87 = .ok (.ireturn, 1) := by decide +kernel
theorem dX11_account_88 : decode cX11_account 88 = .ok (.aload_n 0, 1) := by decide +kernel
theorem dX11_account_89 : decode cX11_account 89 = .ok (.invokevirtual 123, 3) := by decide +kernel
theorem dX11_account_92 : decode cX11_account 92 = .ok (.ireturn, 1) := by decide +kernel
theorem dX11_account_93 : decode cX11_account 93 = .ok (.aload_n 0, 1) := by decide +kernel
theorem dX11_account_94 : decode cX11_account 94 = .ok (.invokevirtual 104, 3) := by decide +kernel
theorem dX11_account_97 : decode cX11_account 97 = .ok (.ireturn, 1) := by decide +kernel
theorem dX11_account_98 : decode cX11_account 98 = .ok (.aload_n 0, 1) := by decide +kernel
theorem dX11_account_99 : decode cX11_account 99 = .ok (.invokevirtual 186, 3) := by decide +kernel
theorem dX11_account_102 : decode cX11_account 102 = .ok (.ireturn, 1) := by decide +kernel
theorem dX11_account_103 : decode cX11_account 103 = .ok (.aload_n 0, 1) := by decide +kernel
theorem dX11_account_104 : decode cX11_account 104 = .ok (.getfield 9, 3) := by decide +kernel
theorem dX11_account_107 : decode cX11_account 107 = .ok (.iconst 0, 1) := by decide +kernel
theorem dX11_account_108 : decode cX11_account 108 = .ok (.iaload, 1) := by decide +kernel
theorem dX11_account_109 : decode cX11_account 109 = .ok (.ireturn, 1) := by decide +kernel
theorem dX11_account_110 : decode cX11_account 110 = .ok (.aload_n 0, 1) := by decide +kernel
theorem dX11_account_111 : decode cX11_account 111 = .ok (.getfield 189, 3) := by decide +kernel
theorem dX11_account_114 : decode cX11_account 114 = .ok (.ireturn, 1) := by decide +kernel
theorem dX11_account_115 : decode cX11_account 115 = .ok (.aload_n 0, 1) := by decide +kernel
theorem dX11_account_116 : decode cX11_account 116 = .ok (.getfield 51, 3) := by decide +kernel
theorem dX11_account_119 : decode cX11_account 119 = .ok (.ireturn, 1) := by decide +kernel
theorem dX11_account_120 : decode cX11_account 120 = .ok (.iload_n 1, 1) := by decide +kernel
theorem dX11_account_121 : decode cX11_account 121 = .ok (.bipush 6, 2) := by decide +kernel
theorem dX11_account_123 : decode cX11_account 123 = .ok (.bipush 11, 2) := by decide +kernel
theorem dX11_account_125 : decode cX11_account 125 = .ok (.invokestatic 66, 3) := by decide +kernel
theorem dX11_account_128 : decode cX11_account 128 = .ok (.ifCond .eq 14, 3) := by decide +kernel
theorem dX11_account_131 : decode cX11_account 131 = .ok (.aload_n 0, 1) := by decide +kernel
theorem dX11_account_132 : decode cX11_account 132 = .ok (.getfield 9, 3) := by decide +kernel
theorem dX11_account_135 : decode cX11_account 135 = .ok (.iload_n 1, 1) := by decide +kernel
theorem dX11_account_136 : decode cX11_account 136 = .ok (.iconst 5, 1) := by decide +kernel
theorem dX11_account_137 : decode cX11_account 137 = .ok (.isub, 1) := by decide +kernel
theorem dX11_account_138 : decode cX11_account 138 = .ok (.iaload, 1) := by decide +kernel
theorem dX11_account_139 : decode cX11_account 139 = .ok (.goto 6, 3) := by decide +kernel
theorem dX11_account_142 : decode cX11_account 142 = .ok (.sipush (-1012), 3) := by decide +kernel
theorem dX11_account_145 : decode cX11_account 145 = .ok (.ireturn, 1) := by decide +kernel
theorem dX11_isBalanced_0 : decode cX11_isBalanced 0 = .ok (.iconst 1, 1) := by decide +kernel
theorem dX11_isBalanced_1 : decode cX11_isBalanced 1 = .ok (.ireturn, 1) := by decide +kernel
theorem dX11_meanFit_0 : decode cX11_meanFit 0 = .ok (.iconst 0, 1) := by decide +kernel
theorem dX11_meanFit_1 : decode cX11_meanFit 1 = .ok (.istore_n 1, 1) := by decide +kernel
theorem dX11_meanFit_2 : decode cX11_meanFit 2 = .ok (.iconst 0, 1) := by decide +kernel
theorem dX11_meanFit_3 : decode cX11_meanFit 3 = .ok (.istore_n 2, 1) := by decide +kernel
theorem dX11_meanFit_4 : decode cX11_meanFit 4 = .ok (.iload_n 2, 1) := by decide +kernel
theorem dX11_meanFit_5 : decode cX11_meanFit 5 = .ok (.aload_n 0, 1) := by decide +kernel
theorem dX11_meanFit_6 : decode cX11_meanFit 6 = .ok (.getfield 9, 3) := by decide +kernel
theorem dX11_meanFit_9 : decode cX11_meanFit 9 = .ok (.bipush 7, 2) := by decide +kernel
theorem dX11_meanFit_11 : decode cX11_meanFit 11 = .ok (.iaload, 1) := by decide +kernel
theorem dX11_meanFit_12 : decode cX11_meanFit 12 = .ok (.if_icmp .ge 38, 3) := by decide +kernel
theorem dX11_meanFit_15 : decode cX11_meanFit 15 = .ok (.iload_n 1, 1) := by decide +kernel
theorem dX11_meanFit_16 : decode cX11_meanFit 16 = .ok (.aload_n 0, 1) := by decide +kernel
theorem dX11_meanFit_17 : decode cX11_meanFit 17 = .ok (.iload_n 2, 1) := by decide +kernel
theorem dX11_meanFit_18 : decode cX11_meanFit 18 = .ok (.bipush 6, 2) := by decide +kernel
theorem dX11_meanFit_20 : decode cX11_meanFit 20 = .ok (.invokevirtual 70, 3) := by decide +kernel
theorem dX11_meanFit_23 : decode cX11_meanFit 23 = .ok (.ifCond .ge 7, 3) := by decide +kernel
theorem dX11_meanFit_26 : decode cX11_meanFit 26 = .ok (.iconst 0, 1) := by decide +kernel
theorem dX11_meanFit_27 : decode cX11_meanFit 27 = .ok (.goto 15, 3) := by decide +kernel
theorem dX11_meanFit_30 : decode cX11_meanFit 30 = .ok (.aload_n 0, 1) := by decide +kernel
theorem dX11_meanFit_31 : decode cX11_meanFit 31 = .ok (.iload_n 2, 1) := by decide +kernel
theorem dX11_meanFit_32 : decode cX11_meanFit 32 = .ok (.aload_n 0, 1) := by decide +kernel
theorem dX11_meanFit_33 : decode cX11_meanFit 33 = .ok (.iload_n 2, 1) := by decide +kernel
theorem dX11_meanFit_34 : decode cX11_meanFit 34 = .ok (.bipush 6, 2) := by decide +kernel
theorem dX11_meanFit_36 : decode cX11_meanFit 36 = .ok (.invokevirtual 70, 3) := by decide +kernel
theorem dX11_meanFit_39 : decode cX11_meanFit 39 = .ok (.invokevirtual 77, 3) := by decide +kernel
theorem dX11_meanFit_42 : decode cX11_meanFit 42 = .ok (.iadd, 1) := by decide +kernel
theorem dX11_meanFit_43 : decode cX11_meanFit 43 = .ok (.istore_n 1, 1) := by decide +kernel
theorem dX11_meanFit_44 : decode cX11_meanFit 44 = .ok (.iinc 2 1, 3) := by decide +kernel
theorem dX11_meanFit_47 : decode cX11_meanFit 47 = .ok (.goto (-43), 3) := by decide +kernel
theorem dX11_meanFit_50 : decode cX11_meanFit 50 = .ok (.aload_n 0, 1) := by decide +kernel
theorem dX11_meanFit_51 : decode cX11_meanFit 51 = .ok (.invokevirtual 123, 3) := by decide +kernel
theorem dX11_meanFit_54 : decode cX11_meanFit 54 = .ok (.ifCond .ne 7, 3) := by decide +kernel
theorem dX11_meanFit_57 : decode cX11_meanFit 57 = .ok (.dconst 0, 1) := by decide +kernel
theorem dX11_meanFit_58 : decode cX11_meanFit 58 = .ok (.goto 11, 3) := by decide +kernel
theorem dX11_meanFit_61 : decode cX11_meanFit 61 = .ok (.iload_n 1, 1) := by decide +kernel
theorem dX11_meanFit_62 : decode cX11_meanFit 62 = .ok (.i2d, 1) := by decide +kernel
theorem dX11_meanFit_63 : decode cX11_meanFit 63 = .ok (.aload_n 0, 1) := by decide +kernel
theorem dX11_meanFit_64 : decode cX11_meanFit 64 = .ok (.invokevirtual 123, 3) := by decide +kernel
theorem dX11_meanFit_67 : decode cX11_meanFit 67 = .ok (.i2d, 1) := by decide +kernel
theorem dX11_meanFit_68 : decode cX11_meanFit 68 = .ok (.ddiv, 1) := by decide +kernel
theorem dX11_meanFit_69 : decode cX11_meanFit 69 = .ok (.dreturn, 1) := by decide +kernel
theorem dX11_fallenShare_0 : decode cX11_fallenShare 0 = .ok (.aload_n 0, 1) := by decide +kernel
theorem dX11_fallenShare_1 : decode cX11_fallenShare 1 = .ok (.getfield 9, 3) := by decide +kernel
theorem dX11_fallenShare_4 : decode cX11_fallenShare 4 = .ok (.bipush 7, 2) := by decide +kernel
theorem dX11_fallenShare_6 : decode cX11_fallenShare 6 = .ok (.iaload, 1) := by decide +kernel
theorem dX11_fallenShare_7 : decode cX11_fallenShare 7 = .ok (.ifCond .ne 7, 3) := by decide +kernel
theorem dX11_fallenShare_10 : decode cX11_fallenShare 10 = .ok (.fconst 0, 1) := by decide +kernel
theorem dX11_fallenShare_11 : decode cX11_fallenShare 11 = .ok (.goto 17, 3) := by decide +kernel
theorem dX11_fallenShare_14 : decode cX11_fallenShare 14 = .ok (.aload_n 0, 1) := by decide +kernel
theorem dX11_fallenShare_15 : decode cX11_fallenShare 15 = .ok (.invokevirtual 104, 3) := by decide +kernel
theorem dX11_fallenShare_18 : decode cX11_fallenShare 18 = .ok (.i2f, 1) := by decide +kernel
theorem dX11_fallenShare_19 : decode cX11_fallenShare 19 = .ok (.aload_n 0, 1) := by decide +kernel
theorem dX11_fallenShare_20 : decode cX11_fallenShare 20 = .ok (.getfield 9, 3) := by decide +kernel
theorem dX11_fallenShare_23 : decode cX11_fallenShare 23 = .ok (.bipush 7, 2) := by decide +kernel
theorem dX11_fallenShare_25 : decode cX11_fallenShare 25 = .ok (.iaload, 1) := by decide +kernel
theorem dX11_fallenShare_26 : decode cX11_fallenShare 26 = .ok (.i2f, 1) := by decide +kernel
theorem dX11_fallenShare_27 : decode cX11_fallenShare 27 = .ok (.fdiv, 1) := by decide +kernel
theorem dX11_fallenShare_28 : decode cX11_fallenShare 28 = .ok (.freturn, 1) := by decide +kernel
theorem dX11_append_0 : decode cX11_append 0 = .ok (.iload_n 1, 1) := by decide +kernel
theorem dX11_append_1 : decode cX11_append 1 = .ok (.bipush 32, 2) := by decide +kernel
theorem dX11_append_3 : decode cX11_append 3 = .ok (.bipush 126, 2) := by decide +kernel
theorem dX11_append_5 : decode cX11_append 5 = .ok (.invokestatic 66, 3) := by decide +kernel
theorem dX11_append_8 : decode cX11_append 8 = .ok (.ifCond .ne 7, 3) := by decide +kernel
theorem dX11_append_11 : decode cX11_append 11 = .ok (.sipush (-1012), 3) := by decide +kernel
theorem dX11_append_14 : decode cX11_append 14 = .ok (.ireturn, 1) := by decide +kernel
theorem dX11_append_15 : decode cX11_append 15 = .ok (.aload_n 0, 1) := by decide +kernel
theorem dX11_append_16 : decode cX11_append 16 = .ok (.getfield 189, 3) := by decide +kernel
theorem dX11_append_19 : decode cX11_append 19 = .ok (.bipush 60, 2) := by decide +kernel
theorem dX11_append_21 : decode cX11_append 21 = .ok (.if_icmp .ne 7, 3) := by decide +kernel
theorem dX11_append_24 : decode cX11_append 24 = .ok (.sipush (-1013), 3) := by decide +kernel
theorem dX11_append_27 : decode cX11_append 27 = .ok (.ireturn, 1) := by decide +kernel
theorem dX11_append_28 : decode cX11_append 28 = .ok (.aload_n 0, 1) := by decide +kernel
theorem dX11_append_29 : decode cX11_append 29 = .ok (.getfield 40, 3) := by decide +kernel
theorem dX11_append_32 : decode cX11_append 32 = .ok (.aload_n 0, 1) := by decide +kernel
theorem dX11_append_33 : decode cX11_append 33 = .ok (.getfield 189, 3) := by decide +kernel
theorem dX11_append_36 : decode cX11_append 36 = .ok (.iload_n 1, 1) := by decide +kernel
theorem dX11_append_37 : decode cX11_append 37 = .ok (.i2c, 1) := by decide +kernel
theorem dX11_append_38 : decode cX11_append 38 = .ok (.castore, 1) := by decide +kernel
theorem dX11_append_39 : decode cX11_append 39 = .ok (.aload_n 0, 1) := by decide +kernel
theorem dX11_append_40 : decode cX11_append 40 = .ok (.dup, 1) := by decide +kernel
theorem dX11_append_41 : decode cX11_append 41 = .ok (.getfield 189, 3) := by decide +kernel
theorem dX11_append_44 : decode cX11_append 44 = .ok (.iconst 1, 1) := by decide +kernel
theorem dX11_append_45 : decode cX11_append 45 = .ok (.iadd, 1) := by decide +kernel
theorem dX11_append_46 : decode cX11_append 46 = .ok (.putfield 189, 3) := by decide +kernel
theorem dX11_append_49 : decode cX11_append 49 = .ok (.aload_n 0, 1) := by decide +kernel
theorem dX11_append_50 : decode cX11_append 50 = .ok (.getfield 189, 3) := by decide +kernel
theorem dX11_append_53 : decode cX11_append 53 = .ok (.ireturn, 1) := by decide +kernel
theorem dX11_sees_0 : decode cX11_sees 0 = .ok (.aload_n 0, 1) := by decide +kernel
theorem dX11_sees_1 : decode cX11_sees 1 = .ok (.getfield 192, 3) := by decide +kernel
theorem dX11_sees_4 : decode cX11_sees 4 = .ok (.ifCond .ne 35, 3) := by decide +kernel
theorem dX11_sees_7 : decode cX11_sees 7 = .ok (.aload_n 0, 1) := by decide +kernel
theorem dX11_sees_8 : decode cX11_sees 8 = .ok (.getfield 195, 3) := by decide +kernel
theorem dX11_sees_11 : decode cX11_sees 11 = .ok (.aload_n 0, 1) := by decide +kernel
theorem dX11_sees_12 : decode cX11_sees 12 = .ok (.getfield 189, 3) := by decide +kernel
theorem dX11_sees_15 : decode cX11_sees 15 = .ok (.if_icmp .ge 24, 3) := by decide +kernel
theorem dX11_sees_18 : decode cX11_sees 18 = .ok (.aload_n 0, 1) := by decide +kernel
theorem dX11_sees_19 : decode cX11_sees 19 = .ok (.getfield 40, 3) := by decide +kernel
theorem dX11_sees_22 : decode cX11_sees 22 = .ok (.aload_n 0, 1) := by decide +kernel
theorem dX11_sees_23 : decode cX11_sees 23 = .ok (.getfield 195, 3) := by decide +kernel
theorem dX11_sees_26 : decode cX11_sees 26 = .ok (.caload, 1) := by decide +kernel
theorem dX11_sees_27 : decode cX11_sees 27 = .ok (.iload_n 1, 1) := by decide +kernel
theorem dX11_sees_28 : decode cX11_sees 28 = .ok (.iload_n 2, 1) := by decide +kernel
theorem dX11_sees_29 : decode cX11_sees 29 = .ok (.invokestatic 66, 3) := by decide +kernel
theorem dX11_sees_32 : decode cX11_sees 32 = .ok (.ifCond .eq 7, 3) := by decide +kernel
theorem dX11_sees_35 : decode cX11_sees 35 = .ok (.iconst 1, 1) := by decide +kernel
theorem dX11_sees_36 : decode cX11_sees 36 = .ok (.goto 4, 3) := by decide +kernel
theorem dX11_sees_39 : decode cX11_sees 39 = .ok (.iconst 0, 1) := by decide +kernel
theorem dX11_sees_40 : decode cX11_sees 40 = .ok (.ireturn, 1) := by decide +kernel
theorem dX11_readNumber_0 : decode cX11_readNumber 0 = .ok (.aload_n 0, 1) := by decide +kernel
theorem dX11_readNumber_1 : decode cX11_readNumber 1 = .ok (.dup, 1) := by decide +kernel
theorem dX11_readNumber_2 : decode cX11_readNumber 2 = .ok (.getfield 192, 3) := by decide +kernel
theorem dX11_readNumber_5 : decode cX11_readNumber 5 = .ok (.aload_n 0, 1) := by decide +kernel
theorem dX11_readNumber_6 : decode cX11_readNumber 6 = .ok (.bipush 48, 2) := by decide +kernel
theorem dX11_readNumber_8 : decode cX11_readNumber 8 = .ok (.bipush 57, 2) := by decide +kernel
theorem dX11_readNumber_10 : decode cX11_readNumber 10 = .ok (.invokevirtual 198, 3) := by decide +kernel
theorem dX11_readNumber_13 : decode cX11_readNumber 13 = .ok (.ifCond .ne 7, 3) := by decide +kernel
theorem dX11_readNumber_16 : decode cX11_readNumber 16 = .ok (.iconst 1, 1) := by decide +kernel
theorem dX11_readNumber_17 : decode cX11_readNumber 17 = .ok (.goto 4, 3) := by decide +kernel
theorem dX11_readNumber_20 : decode cX11_readNumber 20 = .ok (.iconst 0, 1) := by decide +kernel
theorem dX11_readNumber_21 : decode cX11_readNumber 21 = .ok (.ior, 1) := by decide +kernel
theorem dX11_readNumber_22 : decode cX11_readNumber 22 = .ok (.putfield 192, 3) := by decide +kernel
theorem dX11_readNumber_25 : decode cX11_readNumber 25 = .ok (.iconst 0, 1) := by decide +kernel
theorem dX11_readNumber_26 : decode cX11_readNumber 26 = .ok (.istore_n 2, 1) := by decide +kernel
theorem dX11_readNumber_27 : decode cX11_readNumber 27 = .ok (.iconst 0, 1) := by decide +kernel
theorem dX11_readNumber_28 : decode cX11_readNumber 28 = .ok (.istore_n 3, 1) := by decide +kernel
theorem dX11_readNumber_29 : decode cX11_readNumber 29 = .ok (.iload_n 3, 1) := by decide +kernel
theorem dX11_readNumber_30 : decode cX11_readNumber 30 = .ok (.iload_n 1, 1) := by decide +kernel
theorem dX11_readNumber_31 : decode cX11_readNumber 31 = .ok (.if_icmp .ge 48, 3) := by decide +kernel
theorem dX11_readNumber_34 : decode cX11_readNumber 34 = .ok (.aload_n 0, 1) := by decide +kernel
theorem dX11_readNumber_35 : decode cX11_readNumber 35 = .ok (.bipush 48, 2) := by decide +kernel
theorem dX11_readNumber_37 : decode cX11_readNumber 37 = .ok (.bipush 57, 2) := by decide +kernel
theorem dX11_readNumber_39 : decode cX11_readNumber 39 = .ok (.invokevirtual 198, 3) := by decide +kernel
theorem dX11_readNumber_42 : decode cX11_readNumber 42 = .ok (.ifCond .eq 37, 3) := by decide +kernel
theorem dX11_readNumber_45 : decode cX11_readNumber 45 = .ok (.bipush 10, 2) := by decide +kernel
theorem dX11_readNumber_47 : decode cX11_readNumber 47 = .ok (.iload_n 2, 1) := by decide +kernel
theorem dX11_readNumber_48 : decode cX11_readNumber 48 = .ok (.imul, 1) := by decide +kernel
theorem dX11_readNumber_49 : decode cX11_readNumber 49 = .ok (.aload_n 0, 1) := by decide +kernel
theorem dX11_readNumber_50 : decode cX11_readNumber 50 = .ok (.getfield 40, 3) := by decide +kernel
theorem dX11_readNumber_53 : decode cX11_readNumber 53 = .ok (.aload_n 0, 1) := by decide +kernel
theorem dX11_readNumber_54 : decode cX11_readNumber 54 = .ok (.getfield 195, 3) := by decide +kernel
theorem dX11_readNumber_57 : decode cX11_readNumber 57 = .ok (.caload, 1) := by decide +kernel
theorem dX11_readNumber_58 : decode cX11_readNumber 58 = .ok (.iadd, 1) := by decide +kernel
theorem dX11_readNumber_59 : decode cX11_readNumber 59 = .ok (.bipush 48, 2) := by decide +kernel
theorem dX11_readNumber_61 : decode cX11_readNumber 61 = .ok (.isub, 1) := by decide +kernel
theorem dX11_readNumber_62 : decode cX11_readNumber 62 = .ok (.istore_n 2, 1) := by decide +kernel
theorem dX11_readNumber_63 : decode cX11_readNumber 63 = .ok (.aload_n 0, 1) := by decide +kernel
theorem dX11_readNumber_64 : decode cX11_readNumber 64 = .ok (.dup, 1) := by decide +kernel
theorem dX11_readNumber_65 : decode cX11_readNumber 65 = .ok (.getfield 195, 3) := by decide +kernel
theorem dX11_readNumber_68 : decode cX11_readNumber 68 = .ok (.iconst 1, 1) := by decide +kernel
theorem dX11_readNumber_69 : decode cX11_readNumber 69 = .ok (.iadd, 1) := by decide +kernel
theorem dX11_readNumber_70 : decode cX11_readNumber 70 = .ok (.putfield 195, 3) := by decide +kernel
theorem dX11_readNumber_73 : decode cX11_readNumber 73 = .ok (.iinc 3 1, 3) := by decide +kernel
theorem dX11_readNumber_76 : decode cX11_readNumber 76 = .ok (.goto (-47), 3) := by decide +kernel
theorem dX11_readNumber_79 : decode cX11_readNumber 79 = .ok (.iload_n 2, 1) := by decide +kernel
theorem dX11_readNumber_80 : decode cX11_readNumber 80 = .ok (.ireturn, 1) := by decide +kernel
theorem dX11_readBehind_0 : decode cX11_readBehind 0 = .ok (.aload_n 0, 1) := by decide +kernel
theorem dX11_readBehind_1 : decode cX11_readBehind 1 = .ok (.dup, 1) := by decide +kernel
theorem dX11_readBehind_2 : decode cX11_readBehind 2 = .ok (.getfield 192, 3) := by decide +kernel
theorem dX11_readBehind_5 : decode cX11_readBehind 5 = .ok (.aload_n 0, 1) := by decide +kernel
theorem dX11_readBehind_6 : decode cX11_readBehind 6 = .ok (.iload_n 1, 1) := by decide +kernel
theorem dX11_readBehind_7 : decode cX11_readBehind 7 = .ok (.iload_n 1, 1) := by decide +kernel
theorem dX11_readBehind_8 : decode cX11_readBehind 8 = .ok (.invokevirtual 198, 3) := by decide +kernel
theorem dX11_readBehind_11 : decode cX11_readBehind 11 = .ok (.ifCond .ne 7, 3) := by decide +kernel
theorem dX11_readBehind_14 : decode cX11_readBehind 14 = .ok (.iconst 1, 1) := by decide +kernel
theorem dX11_readBehind_15 : decode cX11_readBehind 15 = .ok (.goto 4, 3) := by decide +kernel
theorem dX11_readBehind_18 : decode cX11_readBehind 18 = .ok (.iconst 0, 1) := by decide +kernel
theorem dX11_readBehind_19 : decode cX11_readBehind 19 = .ok (.ior, 1) := by decide +kernel
theorem dX11_readBehind_20 : decode cX11_readBehind 20 = .ok (.putfield 192, 3) := by decide +kernel
theorem dX11_readBehind_23 : decode cX11_readBehind 23 = .ok (.aload_n 0, 1) := by decide +kernel
theorem dX11_readBehind_24 : decode cX11_readBehind 24 = .ok (.dup, 1) := by decide +kernel
theorem dX11_readBehind_25 : decode cX11_readBehind 25 = .ok (.getfield 195, 3) := by decide +kernel
theorem dX11_readBehind_28 : decode cX11_readBehind 28 = .ok (.aload_n 0, 1) := by decide +kernel
theorem dX11_readBehind_29 : decode cX11_readBehind 29 = .ok (.getfield 192, 3) := by decide +kernel
theorem dX11_readBehind_32 : decode cX11_readBehind 32 = .ok (.ifCond .eq 7, 3) := by decide +kernel
theorem dX11_readBehind_35 : decode cX11_readBehind 35 = .ok (.iconst 0, 1) := by decide +kernel
theorem dX11_readBehind_36 : decode cX11_readBehind 36 = .ok (.goto 4, 3) := by decide +kernel
theorem dX11_readBehind_39 : decode cX11_readBehind 39 = .ok (.iconst 1, 1) := by decide +kernel
theorem dX11_readBehind_40 : decode cX11_readBehind 40 = .ok (.iadd, 1) := by decide +kernel
theorem dX11_readBehind_41 : decode cX11_readBehind 41 = .ok (.putfield 195, 3) := by decide +kernel
theorem dX11_readBehind_44 : decode cX11_readBehind 44 = .ok (.aload_n 0, 1) := by decide +kernel
theorem dX11_readBehind_45 : decode cX11_readBehind 45 = .ok (.iload_n 2, 1) := by decide +kernel
theorem dX11_readBehind_46 : decode cX11_readBehind 46 = .ok (.invokevirtual 202, 3) := by decide +kernel
theorem dX11_readBehind_49 : decode cX11_readBehind 49 = .ok (.ireturn, 1) := by decide +kernel
theorem dX11_readOrder_0 : decode cX11_readOrder 0 = .ok (.aload_n 0, 1) := by decide +kernel
theorem dX11_readOrder_1 : decode cX11_readOrder 1 = .ok (.dup, 1) := by decide +kernel
theorem dX11_readOrder_2 : decode cX11_readOrder 2 = .ok (.getfield 192, 3) := by decide +kernel
theorem dX11_readOrder_5 : decode cX11_readOrder 5 = .ok (.aload_n 0, 1) := by decide +kernel
theorem dX11_readOrder_6 : decode cX11_readOrder 6 = .ok (.getfield 195, 3) := by decide +kernel
theorem dX11_readOrder_9 : decode cX11_readOrder 9 = .ok (.aload_n 0, 1) := by decide +kernel
theorem dX11_readOrder_10 : decode cX11_readOrder 10 = .ok (.getfield 189, 3) := by decide +kernel
theorem dX11_readOrder_13 : decode cX11_readOrder 13 = .ok (.if_icmp .ge 20, 3) := by decide +kernel
theorem dX11_readOrder_16 : decode cX11_readOrder 16 = .ok (.ldc 205, 2) := by decide +kernel
theorem dX11_readOrder_18 : decode cX11_readOrder 18 = .ok (.aload_n 0, 1) := by decide +kernel
theorem dX11_readOrder_19 : decode cX11_readOrder 19 = .ok (.getfield 40, 3) := by decide +kernel
theorem dX11_readOrder_22 : decode cX11_readOrder 22 = .ok (.aload_n 0, 1) := by decide +kernel
theorem dX11_readOrder_23 : decode cX11_readOrder 23 = .ok (.getfield 195, 3) := by decide +kernel
theorem dX11_readOrder_26 : decode cX11_readOrder 26 = .ok (.caload, 1) := by decide +kernel
theorem dX11_readOrder_27 : decode cX11_readOrder 27 = .ok (.invokevirtual 207, 3) := by decide +kernel
theorem dX11_readOrder_30 : decode cX11_readOrder 30 = .ok (.ifCond .ge 7, 3) := by decide +kernel
theorem dX11_readOrder_33 : decode cX11_readOrder 33 = .ok (.iconst 1, 1) := by decide +kernel
theorem dX11_readOrder_34 : decode cX11_readOrder 34 = .ok (.goto 4, 3) := by decide +kernel
theorem dX11_readOrder_37 : decode cX11_readOrder 37 = .ok (.iconst 0, 1) := by decide +kernel
theorem dX11_readOrder_38 : decode cX11_readOrder 38 = .ok (.ior, 1) := by decide +kernel
theorem dX11_readOrder_39 : decode cX11_readOrder 39 = .ok (.putfield 192, 3) := by decide +kernel
theorem dX11_readOrder_42 : decode cX11_readOrder 42 = .ok (.aload_n 0, 1) := by decide +kernel
theorem dX11_readOrder_43 : decode cX11_readOrder 43 = .ok (.getfield 192, 3) := by decide +kernel
theorem dX11_readOrder_46 : decode cX11_readOrder 46 = .ok (.ifCond .eq 4, 3) := by decide +kernel
theorem dX11_readOrder_49 : decode cX11_readOrder 49 = .ok (.return_, 1) := by decide +kernel
theorem dX11_readOrder_50 : decode cX11_readOrder 50 = .ok (.aload_n 0, 1) := by decide +kernel
theorem dX11_readOrder_51 : decode cX11_readOrder 51 = .ok (.aload_n 0, 1) := by decide +kernel
theorem dX11_readOrder_52 : decode cX11_readOrder 52 = .ok (.getfield 40, 3) := by decide +kernel
theorem dX11_readOrder_55 : decode cX11_readOrder 55 = .ok (.aload_n 0, 1) := by decide +kernel
theorem dX11_readOrder_56 : decode cX11_readOrder 56 = .ok (.getfield 195, 3) := by decide +kernel
theorem dX11_readOrder_59 : decode cX11_readOrder 59 = .ok (.caload, 1) := by decide +kernel
theorem dX11_readOrder_60 : decode cX11_readOrder 60 = .ok (.putfield 212, 3) := by decide +kernel
theorem dX11_readOrder_63 : decode cX11_readOrder 63 = .ok (.aload_n 0, 1) := by decide +kernel
theorem dX11_readOrder_64 : decode cX11_readOrder 64 = .ok (.dup, 1) := by decide +kernel
theorem dX11_readOrder_65 : decode cX11_readOrder 65 = .ok (.getfield 195, 3) := by decide +kernel
theorem dX11_readOrder_68 : decode cX11_readOrder 68 = .ok (.iconst 1, 1) := by decide +kernel
theorem dX11_readOrder_69 : decode cX11_readOrder 69 = .ok (.iadd, 1) := by decide +kernel
theorem dX11_readOrder_70 : decode cX11_readOrder 70 = .ok (.putfield 195, 3) := by decide +kernel
theorem dX11_readOrder_73 : decode cX11_readOrder 73 = .ok (.aload_n 0, 1) := by decide +kernel
theorem dX11_readOrder_74 : decode cX11_readOrder 74 = .ok (.getfield 212, 3) := by decide +kernel
theorem dX11_readOrder_77 : decode cX11_readOrder 77 = .ok (.bipush 97, 2) := by decide +kernel
theorem dX11_readOrder_79 : decode cX11_readOrder 79 = .ok (.if_icmp .ne 4, 3) := by decide +kernel
theorem dX11_readOrder_82 : decode cX11_readOrder 82 = .ok (.return_, 1) := by decide +kernel
theorem dX11_readOrder_83 : decode cX11_readOrder 83 = .ok (.aload_n 0, 1) := by decide +kernel
theorem dX11_readOrder_84 : decode cX11_readOrder 84 = .ok (.aload_n 0, 1) := by decide +kernel
theorem dX11_readOrder_85 : decode cX11_readOrder 85 = .ok (.iconst 1, 1) := by decide +kernel
theorem dX11_readOrder_86 : decode cX11_readOrder 86 = .ok (.invokevirtual 202, 3) := by decide +kernel
theorem dX11_readOrder_89 : decode cX11_readOrder 89 = .ok (.putfield 216, 3) := by decide +kernel
theorem dX11_readOrder_92 : decode cX11_readOrder 92 = .ok (.aload_n 0, 1) := by decide +kernel
theorem dX11_readOrder_93 : decode cX11_readOrder 93 = .ok (.getfield 212, 3) := by decide +kernel
theorem dX11_readOrder_96 : decode cX11_readOrder 96 = .ok (.lookupswitch 105 #[(98, 91), (104, 44), (109, 56), (115, 77)], 44) := by decide +kernel
theorem dX11_readOrder_140 : decode cX11_readOrder 140 = .ok (.aload_n 0, 1) := by decide +kernel
theorem dX11_readOrder_141 : decode cX11_readOrder 141 = .ok (.aload_n 0, 1) := by decide +kernel
theorem dX11_readOrder_142 : decode cX11_readOrder 142 = .ok (.iconst 1, 1) := by decide +kernel
theorem dX11_readOrder_143 : decode cX11_readOrder 143 = .ok (.invokevirtual 202, 3) := by decide +kernel
theorem dX11_readOrder_146 : decode cX11_readOrder 146 = .ok (.putfield 219, 3) := by decide +kernel
theorem dX11_readOrder_149 : decode cX11_readOrder 149 = .ok (.goto 57, 3) := by decide +kernel
theorem dX11_readOrder_152 : decode cX11_readOrder 152 = .ok (.aload_n 0, 1) := by decide +kernel
theorem dX11_readOrder_153 : decode cX11_readOrder 153 = .ok (.aload_n 0, 1) := by decide +kernel
theorem dX11_readOrder_154 : decode cX11_readOrder 154 = .ok (.iconst 1, 1) := by decide +kernel
theorem dX11_readOrder_155 : decode cX11_readOrder 155 = .ok (.invokevirtual 202, 3) := by decide +kernel
theorem dX11_readOrder_158 : decode cX11_readOrder 158 = .ok (.putfield 219, 3) := by decide +kernel
theorem dX11_readOrder_161 : decode cX11_readOrder 161 = .ok (.aload_n 0, 1) := by decide +kernel
theorem dX11_readOrder_162 : decode cX11_readOrder 162 = .ok (.aload_n 0, 1) := by decide +kernel
theorem dX11_readOrder_163 : decode cX11_readOrder 163 = .ok (.iconst 1, 1) := by decide +kernel
theorem dX11_readOrder_164 : decode cX11_readOrder 164 = .ok (.invokevirtual 202, 3) := by decide +kernel
theorem dX11_readOrder_167 : decode cX11_readOrder 167 = .ok (.putfield 222, 3) := by decide +kernel
theorem dX11_readOrder_170 : decode cX11_readOrder 170 = .ok (.goto 36, 3) := by decide +kernel
theorem dX11_readOrder_173 : decode cX11_readOrder 173 = .ok (.aload_n 0, 1) := by decide +kernel
theorem dX11_readOrder_174 : decode cX11_readOrder 174 = .ok (.aload_n 0, 1) := by decide +kernel
theorem dX11_readOrder_175 : decode cX11_readOrder 175 = .ok (.bipush 58, 2) := by decide +kernel
theorem dX11_readOrder_177 : decode cX11_readOrder 177 = .ok (.iconst 1, 1) := by decide +kernel
theorem dX11_readOrder_178 : decode cX11_readOrder 178 = .ok (.invokevirtual 225, 3) := by decide +kernel
theorem dX11_readOrder_181 : decode cX11_readOrder 181 = .ok (.putfield 219, 3) := by decide +kernel
theorem dX11_readOrder_184 : decode cX11_readOrder 184 = .ok (.goto 22, 3) := by decide +kernel
theorem dX11_readOrder_187 : decode cX11_readOrder 187 = .ok (.aload_n 0, 1) := by decide +kernel
theorem dX11_readOrder_188 : decode cX11_readOrder 188 = .ok (.aload_n 0, 1) := by decide +kernel
theorem dX11_readOrder_189 : decode cX11_readOrder 189 = .ok (.bipush 61, 2) := by decide +kernel
theorem dX11_readOrder_191 : decode cX11_readOrder 191 = .ok (.iconst 2, 1) := by decide +kernel
theorem dX11_readOrder_192 : decode cX11_readOrder 192 = .ok (.invokevirtual 225, 3) := by decide +kernel
theorem dX11_readOrder_195 : decode cX11_readOrder 195 = .ok (.putfield 219, 3) := by decide +kernel
theorem dX11_readOrder_198 : decode cX11_readOrder 198 = .ok (.goto 8, 3) := by decide +kernel
theorem dX11_readOrder_201 : decode cX11_readOrder 201 = .ok (.aload_n 0, 1) := by decide +kernel
theorem dX11_readOrder_202 : decode cX11_readOrder 202 = .ok (.iconst 0, 1) := by decide +kernel
theorem dX11_readOrder_203 : decode cX11_readOrder 203 = .ok (.putfield 219, 3) := by decide +kernel
theorem dX11_readOrder_206 : decode cX11_readOrder 206 = .ok (.return_, 1) := by decide +kernel
theorem dX11_countOrders_0 : decode cX11_countOrders 0 = .ok (.aload_n 0, 1) := by decide +kernel
theorem dX11_countOrders_1 : decode cX11_countOrders 1 = .ok (.iconst 0, 1) := by decide +kernel
theorem dX11_countOrders_2 : decode cX11_countOrders 2 = .ok (.putfield 195, 3) := by decide +kernel
theorem dX11_countOrders_5 : decode cX11_countOrders 5 = .ok (.aload_n 0, 1) := by decide +kernel
theorem dX11_countOrders_6 : decode cX11_countOrders 6 = .ok (.iconst 0, 1) := by decide +kernel
theorem dX11_countOrders_7 : decode cX11_countOrders 7 = .ok (.putfield 192, 3) := by decide +kernel
theorem dX11_countOrders_10 : decode cX11_countOrders 10 = .ok (.iconst 1, 1) := by decide +kernel
theorem dX11_countOrders_11 : decode cX11_countOrders 11 = .ok (.istore_n 1, 1) := by decide +kernel
theorem dX11_countOrders_12 : decode cX11_countOrders 12 = .ok (.aload_n 0, 1) := by decide +kernel
theorem dX11_countOrders_13 : decode cX11_countOrders 13 = .ok (.invokevirtual 229, 3) := by decide +kernel
theorem dX11_countOrders_16 : decode cX11_countOrders 16 = .ok (.aload_n 0, 1) := by decide +kernel
theorem dX11_countOrders_17 : decode cX11_countOrders 17 = .ok (.getfield 192, 3) := by decide +kernel
theorem dX11_countOrders_20 : decode cX11_countOrders 20 = .ok (.ifCond .ne 73, 3) := by decide +kernel
theorem dX11_countOrders_23 : decode cX11_countOrders 23 = .ok (.aload_n 0, 1) := by decide +kernel
theorem dX11_countOrders_24 : decode cX11_countOrders 24 = .ok (.getfield 195, 3) := by decide +kernel
theorem dX11_countOrders_27 : decode cX11_countOrders 27 = .ok (.aload_n 0, 1) := by decide +kernel
theorem dX11_countOrders_28 : decode cX11_countOrders 28 = .ok (.getfield 189, 3) := by decide +kernel
theorem dX11_countOrders_31 : decode cX11_countOrders 31 = .ok (.if_icmp .ge 62, 3) := by decide +kernel
theorem dX11_countOrders_34 : decode cX11_countOrders 34 = .ok (.aload_n 0, 1) := by decide +kernel
theorem dX11_countOrders_35 : decode cX11_countOrders 35 = .ok (.dup, 1) := by decide +kernel
theorem dX11_countOrders_36 : decode cX11_countOrders 36 = .ok (.getfield 192, 3) := by decide +kernel
theorem dX11_countOrders_39 : decode cX11_countOrders 39 = .ok (.aload_n 0, 1) := by decide +kernel
theorem dX11_countOrders_40 : decode cX11_countOrders 40 = .ok (.getfield 40, 3) := by decide +kernel
theorem dX11_countOrders_43 : decode cX11_countOrders 43 = .ok (.aload_n 0, 1) := by decide +kernel
theorem dX11_countOrders_44 : decode cX11_countOrders 44 = .ok (.getfield 195, 3) := by decide +kernel
theorem dX11_countOrders_47 : decode cX11_countOrders 47 = .ok (.caload, 1) := by decide +kernel
theorem dX11_countOrders_48 : decode cX11_countOrders 48 = .ok (.bipush 59, 2) := by decide +kernel
theorem dX11_countOrders_50 : decode cX11_countOrders 50 = .ok (.if_icmp .eq 7, 3) := by decide +kernel
theorem dX11_countOrders_53 : decode cX11_countOrders 53 = .ok (.iconst 1, 1) := by decide +kernel
theorem dX11_countOrders_54 : decode cX11_countOrders 54 = .ok (.goto 4, 3) := by decide +kernel
theorem dX11_countOrders_57 : decode cX11_countOrders 57 = .ok (.iconst 0, 1) := by decide +kernel
theorem dX11_countOrders_58 : decode cX11_countOrders 58 = .ok (.ior, 1) := by decide +kernel
theorem dX11_countOrders_59 : decode cX11_countOrders 59 = .ok (.putfield 192, 3) := by decide +kernel
theorem dX11_countOrders_62 : decode cX11_countOrders 62 = .ok (.aload_n 0, 1) := by decide +kernel
theorem dX11_countOrders_63 : decode cX11_countOrders 63 = .ok (.dup, 1) := by decide +kernel
theorem dX11_countOrders_64 : decode cX11_countOrders 64 = .ok (.getfield 195, 3) := by decide +kernel
theorem dX11_countOrders_67 : decode cX11_countOrders 67 = .ok (.aload_n 0, 1) := by decide +kernel
theorem dX11_countOrders_68 : decode cX11_countOrders 68 = .ok (.getfield 192, 3) := by decide +kernel
theorem dX11_countOrders_71 : decode cX11_countOrders 71 = .ok (.ifCond .eq 7, 3) := by decide +kernel
theorem dX11_countOrders_74 : decode cX11_countOrders 74 = .ok (.iconst 0, 1) := by decide +kernel
theorem dX11_countOrders_75 : decode cX11_countOrders 75 = .ok (.goto 4, 3) := by decide +kernel
theorem dX11_countOrders_78 : decode cX11_countOrders 78 = .ok (.iconst 1, 1) := by decide +kernel
theorem dX11_countOrders_79 : decode cX11_countOrders 79 = .ok (.iadd, 1) := by decide +kernel
theorem dX11_countOrders_80 : decode cX11_countOrders 80 = .ok (.putfield 195, 3) := by decide +kernel
theorem dX11_countOrders_83 : decode cX11_countOrders 83 = .ok (.aload_n 0, 1) := by decide +kernel
theorem dX11_countOrders_84 : decode cX11_countOrders 84 = .ok (.invokevirtual 229, 3) := by decide +kernel
theorem dX11_countOrders_87 : decode cX11_countOrders 87 = .ok (.iinc 1 1, 3) := by decide +kernel
theorem dX11_countOrders_90 : decode cX11_countOrders 90 = .ok (.goto (-74), 3) := by decide +kernel
theorem dX11_countOrders_93 : decode cX11_countOrders 93 = .ok (.iload_n 1, 1) := by decide +kernel
theorem dX11_countOrders_94 : decode cX11_countOrders 94 = .ok (.ireturn, 1) := by decide +kernel
theorem dX11_carryOut_0 : decode cX11_carryOut 0 = .ok (.aload_n 0, 1) := by decide +kernel
theorem dX11_carryOut_1 : decode cX11_carryOut 1 = .ok (.getfield 212, 3) := by decide +kernel
theorem dX11_carryOut_4 : decode cX11_carryOut 4 = .ok (.tableswitch 197 97 117 #[152, 157, 170, 197, 197, 197, 197, 100, 197, 197, 197, 197, 113, 197, 197, 179, 197, 143, 130, 197, 188], 100) := by decide +kernel
theorem dX11_carryOut_104 : decode cX11_carryOut 104 = .ok (.aload_n 0, 1) := by decide +kernel
theorem dX11_carryOut_105 : decode cX11_carryOut 105 = .ok (.aload_n 0, 1) := by decide +kernel
theorem dX11_carryOut_106 : decode cX11_carryOut 106 = .ok (.getfield 216, 3) := by decide +kernel
theorem dX11_carryOut_109 : decode cX11_carryOut 109 = .ok (.aload_n 0, 1) := by decide +kernel
theorem dX11_carryOut_110 : decode cX11_carryOut 110 = .ok (.getfield 219, 3) := by decide +kernel
theorem dX11_carryOut_113 : decode cX11_carryOut 113 = .ok (.invokevirtual 232, 3) := by decide +kernel
theorem dX11_carryOut_116 : decode cX11_carryOut 116 = .ok (.ireturn, 1) := by decide +kernel
theorem dX11_carryOut_117 : decode cX11_carryOut 117 = .ok (.aload_n 0, 1) := by decide +kernel
theorem dX11_carryOut_118 : decode cX11_carryOut 118 = .ok (.aload_n 0, 1) := by decide +kernel
theorem dX11_carryOut_119 : decode cX11_carryOut 119 = .ok (.getfield 216, 3) := by decide +kernel
theorem dX11_carryOut_122 : decode cX11_carryOut 122 = .ok (.aload_n 0, 1) := by decide +kernel
theorem dX11_carryOut_123 : decode cX11_carryOut 123 = .ok (.getfield 219, 3) := by decide +kernel
theorem dX11_carryOut_126 : decode cX11_carryOut 126 = .ok (.aload_n 0, 1) := by decide +kernel
theorem dX11_carryOut_127 : decode cX11_carryOut 127 = .ok (.getfield 222, 3) := by decide +kernel
theorem dX11_carryOut_130 : decode cX11_carryOut 130 = .ok (.invokevirtual 235, 3) := by decide +kernel
theorem dX11_carryOut_133 : decode cX11_carryOut 133 = .ok (.ireturn, 1) := by decide +kernel
theorem dX11_carryOut_134 : decode cX11_carryOut 134 = .ok (.aload_n 0, 1) := by decide +kernel
theorem dX11_carryOut_135 : decode cX11_carryOut 135 = .ok (.aload_n 0, 1) := by decide +kernel
theorem dX11_carryOut_136 : decode cX11_carryOut 136 = .ok (.getfield 216, 3) := by decide +kernel
theorem dX11_carryOut_139 : decode cX11_carryOut 139 = .ok (.aload_n 0, 1) := by decide +kernel
theorem dX11_carryOut_140 : decode cX11_carryOut 140 = .ok (.getfield 219, 3) := by decide +kernel
theorem dX11_carryOut_143 : decode cX11_carryOut 143 = .ok (.invokevirtual 239, 3) := by decide +kernel
theorem dX11_carryOut_146 : decode cX11_carryOut 146 = .ok (.ireturn, 1) := by decide +kernel
theorem dX11_carryOut_147 : decode cX11_carryOut 147 = .ok (.aload_n 0, 1) := by decide +kernel
theorem dX11_carryOut_148 : decode cX11_carryOut 148 = .ok (.aload_n 0, 1) := by decide +kernel
theorem dX11_carryOut_149 : decode cX11_carryOut 149 = .ok (.getfield 216, 3) := by decide +kernel
theorem dX11_carryOut_152 : decode cX11_carryOut 152 = .ok (.invokevirtual 242, 3) := by decide +kernel
theorem dX11_carryOut_155 : decode cX11_carryOut 155 = .ok (.ireturn, 1) := by decide +kernel
theorem dX11_carryOut_156 : decode cX11_carryOut 156 = .ok (.aload_n 0, 1) := by decide +kernel
theorem dX11_carryOut_157 : decode cX11_carryOut 157 = .ok (.invokevirtual 245, 3) := by decide +kernel
theorem dX11_carryOut_160 : decode cX11_carryOut 160 = .ok (.ireturn, 1) := by decide +kernel
theorem dX11_carryOut_161 : decode cX11_carryOut 161 = .ok (.aload_n 0, 1) := by decide +kernel
theorem dX11_carryOut_162 : decode cX11_carryOut 162 = .ok (.aload_n 0, 1) := by decide +kernel
theorem dX11_carryOut_163 : decode cX11_carryOut 163 = .ok (.getfield 216, 3) := by decide +kernel
theorem dX11_carryOut_166 : decode cX11_carryOut 166 = .ok (.aload_n 0, 1) := by decide +kernel
theorem dX11_carryOut_167 : decode cX11_carryOut 167 = .ok (.getfield 219, 3) := by decide +kernel
theorem dX11_carryOut_170 : decode cX11_carryOut 170 = .ok (.invokevirtual 248, 3) := by decide +kernel
theorem dX11_carryOut_173 : decode cX11_carryOut 173 = .ok (.ireturn, 1) := by decide +kernel
theorem dX11_carryOut_174 : decode cX11_carryOut 174 = .ok (.aload_n 0, 1) := by decide +kernel
theorem dX11_carryOut_175 : decode cX11_carryOut 175 = .ok (.aload_n 0, 1) := by decide +kernel
theorem dX11_carryOut_176 : decode cX11_carryOut 176 = .ok (.getfield 216, 3) := by decide +kernel
theorem dX11_carryOut_179 : decode cX11_carryOut 179 = .ok (.invokevirtual 251, 3) := by decide +kernel
theorem dX11_carryOut_182 : decode cX11_carryOut 182 = .ok (.ireturn, 1) := by decide +kernel
theorem dX11_carryOut_183 : decode cX11_carryOut 183 = .ok (.aload_n 0, 1) := by decide +kernel
theorem dX11_carryOut_184 : decode cX11_carryOut 184 = .ok (.aload_n 0, 1) := by decide +kernel
theorem dX11_carryOut_185 : decode cX11_carryOut 185 = .ok (.getfield 216, 3) := by decide +kernel
theorem dX11_carryOut_188 : decode cX11_carryOut 188 = .ok (.invokevirtual 254, 3) := by decide +kernel
theorem dX11_carryOut_191 : decode cX11_carryOut 191 = .ok (.ireturn, 1) := by decide +kernel
theorem dX11_carryOut_192 : decode cX11_carryOut 192 = .ok (.aload_n 0, 1) := by decide +kernel
theorem dX11_carryOut_193 : decode cX11_carryOut 193 = .ok (.aload_n 0, 1) := by decide +kernel
theorem dX11_carryOut_194 : decode cX11_carryOut 194 = .ok (.getfield 216, 3) := by decide +kernel
theorem dX11_carryOut_197 : decode cX11_carryOut 197 = .ok (.invokevirtual 257, 3) := by decide +kernel
theorem dX11_carryOut_200 : decode cX11_carryOut 200 = .ok (.ireturn, 1) := by decide +kernel
theorem dX11_carryOut_201 : decode cX11_carryOut 201 = .ok (.aload_n 0, 1) := by decide +kernel
theorem dX11_carryOut_202 : decode cX11_carryOut 202 = .ok (.aload_n 0, 1) := by decide +kernel
theorem dX11_carryOut_203 : decode cX11_carryOut 203 = .ok (.getfield 216, 3) := by decide +kernel
theorem dX11_carryOut_206 : decode cX11_carryOut 206 = .ok (.invokevirtual 260, 3) := by decide +kernel
theorem dX11_carryOut_209 : decode cX11_carryOut 209 = .ok (.ireturn, 1) := by decide +kernel
theorem dX11_refuseText_0 : decode cX11_refuseText 0 = .ok (.aload_n 0, 1) := by decide +kernel
theorem dX11_refuseText_1 : decode cX11_refuseText 1 = .ok (.iload_n 1, 1) := by decide +kernel
theorem dX11_refuseText_2 : decode cX11_refuseText 2 = .ok (.ifCond .eq 10, 3) := by decide +kernel
theorem dX11_refuseText_5 : decode cX11_refuseText 5 = .ok (.aload_n 0, 1) := by decide +kernel
theorem dX11_refuseText_6 : decode cX11_refuseText 6 = .ok (.getfield 43, 3) := by decide +kernel
theorem dX11_refuseText_9 : decode cX11_refuseText 9 = .ok (.goto 4, 3) := by decide +kernel
theorem dX11_refuseText_12 : decode cX11_refuseText 12 = .ok (.iconst 0, 1) := by decide +kernel
theorem dX11_refuseText_13 : decode cX11_refuseText 13 = .ok (.putfield 43, 3) := by decide +kernel
theorem dX11_refuseText_16 : decode cX11_refuseText 16 = .ok (.aload_n 0, 1) := by decide +kernel
theorem dX11_refuseText_17 : decode cX11_refuseText 17 = .ok (.getfield 43, 3) := by decide +kernel
theorem dX11_refuseText_20 : decode cX11_refuseText 20 = .ok (.istore_n 3, 1) := by decide +kernel
theorem dX11_refuseText_21 : decode cX11_refuseText 21 = .ok (.iload_n 3, 1) := by decide +kernel
theorem dX11_refuseText_22 : decode cX11_refuseText 22 = .ok (.ifCond .le 37, 3) := by decide +kernel
theorem dX11_refuseText_25 : decode cX11_refuseText 25 = .ok (.aload_n 0, 1) := by decide +kernel
theorem dX11_refuseText_26 : decode cX11_refuseText 26 = .ok (.getfield 27, 3) := by decide +kernel
theorem dX11_refuseText_29 : decode cX11_refuseText 29 = .ok (.iload_n 3, 1) := by decide +kernel
theorem dX11_refuseText_30 : decode cX11_refuseText 30 = .ok (.aload_n 0, 1) := by decide +kernel
theorem dX11_refuseText_31 : decode cX11_refuseText 31 = .ok (.getfield 27, 3) := by decide +kernel
theorem dX11_refuseText_34 : decode cX11_refuseText 34 = .ok (.iload_n 3, 1) := by decide +kernel
theorem dX11_refuseText_35 : decode cX11_refuseText 35 = .ok (.iconst 1, 1) := by decide +kernel
theorem dX11_refuseText_36 : decode cX11_refuseText 36 = .ok (.isub, 1) := by decide +kernel
theorem dX11_refuseText_37 : decode cX11_refuseText 37 = .ok (.iaload, 1) := by decide +kernel
theorem dX11_refuseText_38 : decode cX11_refuseText 38 = .ok (.iastore, 1) := by decide +kernel
theorem dX11_refuseText_39 : decode cX11_refuseText 39 = .ok (.aload_n 0, 1) := by decide +kernel
theorem dX11_refuseText_40 : decode cX11_refuseText 40 = .ok (.getfield 30, 3) := by decide +kernel
theorem dX11_refuseText_43 : decode cX11_refuseText 43 = .ok (.iload_n 3, 1) := by decide +kernel
theorem dX11_refuseText_44 : decode cX11_refuseText 44 = .ok (.aload_n 0, 1) := by decide +kernel
theorem dX11_refuseText_45 : decode cX11_refuseText 45 = .ok (.getfield 30, 3) := by decide +kernel
theorem dX11_refuseText_48 : decode cX11_refuseText 48 = .ok (.iload_n 3, 1) := by decide +kernel
theorem dX11_refuseText_49 : decode cX11_refuseText 49 = .ok (.iconst 1, 1) := by decide +kernel
theorem dX11_refuseText_50 : decode cX11_refuseText 50 = .ok (.isub, 1) := by decide +kernel
theorem dX11_refuseText_51 : decode cX11_refuseText 51 = .ok (.iaload, 1) := by decide +kernel
theorem dX11_refuseText_52 : decode cX11_refuseText 52 = .ok (.iastore, 1) := by decide +kernel
theorem dX11_refuseText_53 : decode cX11_refuseText 53 = .ok (.iinc 3 (-1), 3) := by decide +kernel
theorem dX11_refuseText_56 : decode cX11_refuseText 56 = .ok (.goto (-35), 3) := by decide +kernel
theorem dX11_refuseText_59 : decode cX11_refuseText 59 = .ok (.aload_n 0, 1) := by decide +kernel
theorem dX11_refuseText_60 : decode cX11_refuseText 60 = .ok (.getfield 27, 3) := by decide +kernel
theorem dX11_refuseText_63 : decode cX11_refuseText 63 = .ok (.iconst 0, 1) := by decide +kernel
theorem dX11_refuseText_64 : decode cX11_refuseText 64 = .ok (.bipush 15, 2) := by decide +kernel
theorem dX11_refuseText_66 : decode cX11_refuseText 66 = .ok (.iastore, 1) := by decide +kernel
theorem dX11_refuseText_67 : decode cX11_refuseText 67 = .ok (.aload_n 0, 1) := by decide +kernel
theorem dX11_refuseText_68 : decode cX11_refuseText 68 = .ok (.getfield 30, 3) := by decide +kernel
theorem dX11_refuseText_71 : decode cX11_refuseText 71 = .ok (.iconst 0, 1) := by decide +kernel
theorem dX11_refuseText_72 : decode cX11_refuseText 72 = .ok (.iload_n 2, 1) := by decide +kernel
theorem dX11_refuseText_73 : decode cX11_refuseText 73 = .ok (.iastore, 1) := by decide +kernel
theorem dX11_refuseText_74 : decode cX11_refuseText 74 = .ok (.aload_n 0, 1) := by decide +kernel
theorem dX11_refuseText_75 : decode cX11_refuseText 75 = .ok (.dup, 1) := by decide +kernel
theorem dX11_refuseText_76 : decode cX11_refuseText 76 = .ok (.getfield 43, 3) := by decide +kernel
theorem dX11_refuseText_79 : decode cX11_refuseText 79 = .ok (.iconst 1, 1) := by decide +kernel
theorem dX11_refuseText_80 : decode cX11_refuseText 80 = .ok (.iadd, 1) := by decide +kernel
theorem dX11_refuseText_81 : decode cX11_refuseText 81 = .ok (.putfield 43, 3) := by decide +kernel
theorem dX11_refuseText_84 : decode cX11_refuseText 84 = .ok (.return_, 1) := by decide +kernel
theorem dX11_run_0 : decode cX11_run 0 = .ok (.aload_n 0, 1) := by decide +kernel
theorem dX11_run_1 : decode cX11_run 1 = .ok (.invokevirtual 263, 3) := by decide +kernel
theorem dX11_run_4 : decode cX11_run 4 = .ok (.istore_n 1, 1) := by decide +kernel
theorem dX11_run_5 : decode cX11_run 5 = .ok (.aload_n 0, 1) := by decide +kernel
theorem dX11_run_6 : decode cX11_run 6 = .ok (.getfield 192, 3) := by decide +kernel
theorem dX11_run_9 : decode cX11_run 9 = .ok (.ifCond .eq 17, 3) := by decide +kernel
theorem dX11_run_12 : decode cX11_run 12 = .ok (.aload_n 0, 1) := by decide +kernel
theorem dX11_run_13 : decode cX11_run 13 = .ok (.iconst 0, 1) := by decide +kernel
theorem dX11_run_14 : decode cX11_run 14 = .ok (.putfield 189, 3) := by decide +kernel
theorem dX11_run_17 : decode cX11_run 17 = .ok (.sipush (-2000), 3) := by decide +kernel
theorem dX11_run_20 : decode cX11_run 20 = .ok (.aload_n 0, 1) := by decide +kernel
theorem dX11_run_21 : decode cX11_run 21 = .ok (.getfield 195, 3) := by decide +kernel
theorem dX11_run_24 : decode cX11_run 24 = .ok (.isub, 1) := by decide +kernel
theorem dX11_run_25 : decode cX11_run 25 = .ok (.ireturn, 1) := by decide +kernel
theorem dX11_run_26 : decode cX11_run 26 = .ok (.aload_n 0, 1) := by decide +kernel
theorem dX11_run_27 : decode cX11_run 27 = .ok (.getfield 9, 3) := by decide +kernel
theorem dX11_run_30 : decode cX11_run 30 = .ok (.aload_n 0, 1) := by decide +kernel
theorem dX11_run_31 : decode cX11_run 31 = .ok (.getfield 16, 3) := by decide +kernel
theorem dX11_run_34 : decode cX11_run 34 = .ok (.invokestatic 54, 3) := by decide +kernel
theorem dX11_run_37 : decode cX11_run 37 = .ok (.aload_n 0, 1) := by decide +kernel
theorem dX11_run_38 : decode cX11_run 38 = .ok (.iconst 1, 1) := by decide +kernel
theorem dX11_run_39 : decode cX11_run 39 = .ok (.putfield 58, 3) := by decide +kernel
theorem dX11_run_42 : decode cX11_run 42 = .ok (.iconst 1, 1) := by decide +kernel
theorem dX11_run_43 : decode cX11_run 43 = .ok (.istore_n 2, 1) := by decide +kernel
theorem dX11_run_44 : decode cX11_run 44 = .ok (.aload_n 0, 1) := by decide +kernel
theorem dX11_run_45 : decode cX11_run 45 = .ok (.iconst 0, 1) := by decide +kernel
theorem dX11_run_46 : decode cX11_run 46 = .ok (.putfield 195, 3) := by decide +kernel
theorem dX11_run_49 : decode cX11_run 49 = .ok (.iconst 0, 1) := by decide +kernel
theorem dX11_run_50 : decode cX11_run 50 = .ok (.istore_n 3, 1) := by decide +kernel
theorem dX11_run_51 : decode cX11_run 51 = .ok (.iload_n 3, 1) := by decide +kernel
theorem dX11_run_52 : decode cX11_run 52 = .ok (.iload_n 1, 1) := by decide +kernel
theorem dX11_run_53 : decode cX11_run 53 = .ok (.if_icmp .ge 66, 3) := by decide +kernel
theorem dX11_run_56 : decode cX11_run 56 = .ok (.iload_n 2, 1) := by decide +kernel
theorem dX11_run_57 : decode cX11_run 57 = .ok (.ifCond .eq 62, 3) := by decide +kernel
theorem dX11_run_60 : decode cX11_run 60 = .ok (.aload_n 0, 1) := by decide +kernel
theorem dX11_run_61 : decode cX11_run 61 = .ok (.invokevirtual 229, 3) := by decide +kernel
theorem dX11_run_64 : decode cX11_run 64 = .ok (.aload_n 0, 1) := by decide +kernel
theorem dX11_run_65 : decode cX11_run 65 = .ok (.dup, 1) := by decide +kernel
theorem dX11_run_66 : decode cX11_run 66 = .ok (.getfield 195, 3) := by decide +kernel
theorem dX11_run_69 : decode cX11_run 69 = .ok (.iconst 1, 1) := by decide +kernel
theorem dX11_run_70 : decode cX11_run 70 = .ok (.iadd, 1) := by decide +kernel
theorem dX11_run_71 : decode cX11_run 71 = .ok (.putfield 195, 3) := by decide +kernel
theorem dX11_run_74 : decode cX11_run 74 = .ok (.aload_n 0, 1) := by decide +kernel
theorem dX11_run_75 : decode cX11_run 75 = .ok (.invokevirtual 266, 3) := by decide +kernel
theorem dX11_run_78 : decode cX11_run 78 = .ok (.istore 4, 2) := by decide +kernel
theorem dX11_run_80 : decode cX11_run 80 = .ok (.iload 4, 2) := by decide +kernel
theorem dX11_run_82 : decode cX11_run 82 = .ok (.ifCond .lt 7, 3) := by decide +kernel
theorem dX11_run_85 : decode cX11_run 85 = .ok (.iconst 1, 1) := by decide +kernel
theorem dX11_run_86 : decode cX11_run 86 = .ok (.goto 4, 3) := by decide +kernel
theorem dX11_run_89 : decode cX11_run 89 = .ok (.iconst 0, 1) := by decide +kernel
theorem dX11_run_90 : decode cX11_run 90 = .ok (.istore_n 2, 1) := by decide +kernel
theorem dX11_run_91 : decode cX11_run 91 = .ok (.iload_n 2, 1) := by decide +kernel
theorem dX11_run_92 : decode cX11_run 92 = .ok (.ifCond .ne 21, 3) := by decide +kernel
theorem dX11_run_95 : decode cX11_run 95 = .ok (.aload_n 0, 1) := by decide +kernel
theorem dX11_run_96 : decode cX11_run 96 = .ok (.iload 4, 2) := by decide +kernel
theorem dX11_run_98 : decode cX11_run 98 = .ok (.sipush (-1014), 3) := by decide +kernel
theorem dX11_run_101 : decode cX11_run 101 = .ok (.if_icmp .ne 7, 3) := by decide +kernel
theorem dX11_run_104 : decode cX11_run 104 = .ok (.iconst 1, 1) := by decide +kernel
theorem dX11_run_105 : decode cX11_run 105 = .ok (.goto 4, 3) := by decide +kernel
theorem dX11_run_108 : decode cX11_run 108 = .ok (.iconst 0, 1) := by decide +kernel
theorem dX11_run_109 : decode cX11_run 109 = .ok (.iload_n 3, 1) := by decide +kernel
theorem dX11_run_110 : decode cX11_run 110 = .ok (.invokevirtual 269, 3) := by decide +kernel
theorem dX11_run_113 : decode cX11_run 113 = .ok (.iinc 3 1, 3) := by decide +kernel
theorem dX11_run_116 : decode cX11_run 116 = .ok (.goto (-65), 3) := by decide +kernel
theorem dX11_run_119 : decode cX11_run 119 = .ok (.aload_n 0, 1) := by decide +kernel
theorem dX11_run_120 : decode cX11_run 120 = .ok (.iconst 0, 1) := by decide +kernel
theorem dX11_run_121 : decode cX11_run 121 = .ok (.putfield 58, 3) := by decide +kernel
theorem dX11_run_124 : decode cX11_run 124 = .ok (.aload_n 0, 1) := by decide +kernel
theorem dX11_run_125 : decode cX11_run 125 = .ok (.iconst 0, 1) := by decide +kernel
theorem dX11_run_126 : decode cX11_run 126 = .ok (.putfield 189, 3) := by decide +kernel
theorem dX11_run_129 : decode cX11_run 129 = .ok (.iload_n 2, 1) := by decide +kernel
theorem dX11_run_130 : decode cX11_run 130 = .ok (.ifCond .ne 18, 3) := by decide +kernel
theorem dX11_run_133 : decode cX11_run 133 = .ok (.aload_n 0, 1) := by decide +kernel
theorem dX11_run_134 : decode cX11_run 134 = .ok (.getfield 16, 3) := by decide +kernel
theorem dX11_run_137 : decode cX11_run 137 = .ok (.aload_n 0, 1) := by decide +kernel
theorem dX11_run_138 : decode cX11_run 138 = .ok (.getfield 9, 3) := by decide +kernel
theorem dX11_run_141 : decode cX11_run 141 = .ok (.invokestatic 54, 3) := by decide +kernel
theorem dX11_run_144 : decode cX11_run 144 = .ok (.sipush (-1014), 3) := by decide +kernel
theorem dX11_run_147 : decode cX11_run 147 = .ok (.ireturn, 1) := by decide +kernel
theorem dX11_run_148 : decode cX11_run 148 = .ok (.aload_n 0, 1) := by decide +kernel
theorem dX11_run_149 : decode cX11_run 149 = .ok (.aload_n 0, 1) := by decide +kernel
theorem dX11_run_150 : decode cX11_run 150 = .ok (.getfield 16, 3) := by decide +kernel
theorem dX11_run_153 : decode cX11_run 153 = .ok (.invokevirtual 62, 3) := by decide +kernel
theorem dX11_run_156 : decode cX11_run 156 = .ok (.iload_n 1, 1) := by decide +kernel
theorem dX11_run_157 : decode cX11_run 157 = .ok (.ireturn, 1) := by decide +kernel
theorem dX11_undo_0 : decode cX11_undo 0 = .ok (.aload_n 0, 1) := by decide +kernel
theorem dX11_undo_1 : decode cX11_undo 1 = .ok (.getfield 51, 3) := by decide +kernel
theorem dX11_undo_4 : decode cX11_undo 4 = .ok (.ifCond .ne 7, 3) := by decide +kernel
theorem dX11_undo_7 : decode cX11_undo 7 = .ok (.sipush (-1015), 3) := by decide +kernel
theorem dX11_undo_10 : decode cX11_undo 10 = .ok (.ireturn, 1) := by decide +kernel
theorem dX11_undo_11 : decode cX11_undo 11 = .ok (.aload_n 0, 1) := by decide +kernel
theorem dX11_undo_12 : decode cX11_undo 12 = .ok (.dup, 1) := by decide +kernel
theorem dX11_undo_13 : decode cX11_undo 13 = .ok (.getfield 51, 3) := by decide +kernel
theorem dX11_undo_16 : decode cX11_undo 16 = .ok (.iconst 1, 1) := by decide +kernel
theorem dX11_undo_17 : decode cX11_undo 17 = .ok (.isub, 1) := by decide +kernel
theorem dX11_undo_18 : decode cX11_undo 18 = .ok (.putfield 51, 3) := by decide +kernel
theorem dX11_undo_21 : decode cX11_undo 21 = .ok (.aload_n 0, 1) := by decide +kernel
theorem dX11_undo_22 : decode cX11_undo 22 = .ok (.getfield 24, 3) := by decide +kernel
theorem dX11_undo_25 : decode cX11_undo 25 = .ok (.aload_n 0, 1) := by decide +kernel
theorem dX11_undo_26 : decode cX11_undo 26 = .ok (.getfield 51, 3) := by decide +kernel
theorem dX11_undo_29 : decode cX11_undo 29 = .ok (.aaload, 1) := by decide +kernel
theorem dX11_undo_30 : decode cX11_undo 30 = .ok (.aload_n 0, 1) := by decide +kernel
theorem dX11_undo_31 : decode cX11_undo 31 = .ok (.getfield 9, 3) := by decide +kernel
theorem dX11_undo_34 : decode cX11_undo 34 = .ok (.invokestatic 54, 3) := by decide +kernel
theorem dX11_undo_37 : decode cX11_undo 37 = .ok (.aload_n 0, 1) := by decide +kernel
theorem dX11_undo_38 : decode cX11_undo 38 = .ok (.getfield 51, 3) := by decide +kernel
theorem dX11_undo_41 : decode cX11_undo 41 = .ok (.ireturn, 1) := by decide +kernel
theorem dX11_save_0 : decode cX11_save 0 = .ok (.aload_n 0, 1) := by decide +kernel
theorem dX11_save_1 : decode cX11_save 1 = .ok (.iconst 1, 1) := by decide +kernel
theorem dX11_save_2 : decode cX11_save 2 = .ok (.putfield 273, 3) := by decide +kernel
theorem dX11_save_5 : decode cX11_save 5 = .ok (.aload_n 0, 1) := by decide +kernel
theorem dX11_save_6 : decode cX11_save 6 = .ok (.getfield 9, 3) := by decide +kernel
theorem dX11_save_9 : decode cX11_save 9 = .ok (.aload_n 0, 1) := by decide +kernel
theorem dX11_save_10 : decode cX11_save 10 = .ok (.getfield 13, 3) := by decide +kernel
theorem dX11_save_13 : decode cX11_save 13 = .ok (.invokestatic 54, 3) := by decide +kernel
theorem dX11_save_16 : decode cX11_save 16 = .ok (.aload_n 0, 1) := by decide +kernel
theorem dX11_save_17 : decode cX11_save 17 = .ok (.getfield 9, 3) := by decide +kernel
theorem dX11_save_20 : decode cX11_save 20 = .ok (.bipush 7, 2) := by decide +kernel
theorem dX11_save_22 : decode cX11_save 22 = .ok (.iaload, 1) := by decide +kernel
theorem dX11_save_23 : decode cX11_save 23 = .ok (.ireturn, 1) := by decide +kernel
theorem dX11_restore_0 : decode cX11_restore 0 = .ok (.aload_n 0, 1) := by decide +kernel
theorem dX11_restore_1 : decode cX11_restore 1 = .ok (.getfield 273, 3) := by decide +kernel
theorem dX11_restore_4 : decode cX11_restore 4 = .ok (.ifCond .ne 7, 3) := by decide +kernel
theorem dX11_restore_7 : decode cX11_restore 7 = .ok (.sipush (-1015), 3) := by decide +kernel
theorem dX11_restore_10 : decode cX11_restore 10 = .ok (.ireturn, 1) := by decide +kernel
theorem dX11_restore_11 : decode cX11_restore 11 = .ok (.aload_n 0, 1) := by decide +kernel
theorem dX11_restore_12 : decode cX11_restore 12 = .ok (.getfield 13, 3) := by decide +kernel
theorem dX11_restore_15 : decode cX11_restore 15 = .ok (.aload_n 0, 1) := by decide +kernel
theorem dX11_restore_16 : decode cX11_restore 16 = .ok (.getfield 9, 3) := by decide +kernel
theorem dX11_restore_19 : decode cX11_restore 19 = .ok (.invokestatic 54, 3) := by decide +kernel
theorem dX11_restore_22 : decode cX11_restore 22 = .ok (.aload_n 0, 1) := by decide +kernel
theorem dX11_restore_23 : decode cX11_restore 23 = .ok (.iconst 0, 1) := by decide +kernel
theorem dX11_restore_24 : decode cX11_restore 24 = .ok (.putfield 51, 3) := by decide +kernel
theorem dX11_restore_27 : decode cX11_restore 27 = .ok (.aload_n 0, 1) := by decide +kernel
theorem dX11_restore_28 : decode cX11_restore 28 = .ok (.getfield 9, 3) := by decide +kernel
theorem dX11_restore_31 : decode cX11_restore 31 = .ok (.bipush 7, 2) := by decide +kernel
theorem dX11_restore_33 : decode cX11_restore 33 = .ok (.iaload, 1) := by decide +kernel
theorem dX11_restore_34 : decode cX11_restore 34 = .ok (.ireturn, 1) := by decide +kernel
theorem dJ11_isValidCodePoint_9a6ad_0 : decode cJ11_isValidCodePoint_9a6ad 0 = .ok (.iload_n 0, 1) := by decide +kernel
theorem dJ11_isValidCodePoint_9a6ad_1 : decode cJ11_isValidCodePoint_9a6ad 1 = .ok (.bipush 16, 2) := by decide +kernel
theorem dJ11_isValidCodePoint_9a6ad_3 : decode cJ11_isValidCodePoint_9a6ad 3 = .ok (.iushr, 1) := by decide +kernel
theorem dJ11_isValidCodePoint_9a6ad_4 : decode cJ11_isValidCodePoint_9a6ad 4 = .ok (.istore_n 1, 1) := by decide +kernel
theorem dJ11_isValidCodePoint_9a6ad_5 : decode cJ11_isValidCodePoint_9a6ad 5 = .ok (.iload_n 1, 1) := by decide +kernel
theorem dJ11_isValidCodePoint_9a6ad_6 : decode cJ11_isValidCodePoint_9a6ad 6 = .ok (.bipush 17, 2) := by decide +kernel
theorem dJ11_isValidCodePoint_9a6ad_8 : decode cJ11_isValidCodePoint_9a6ad 8 = .ok (.if_icmp .ge 7, 3) := by decide +kernel
theorem dJ11_isValidCodePoint_9a6ad_11 : decode cJ11_isValidCodePoint_9a6ad 11 = .ok (.iconst 1, 1) := by decide +kernel
theorem dJ11_isValidCodePoint_9a6ad_12 : decode cJ11_isValidCodePoint_9a6ad 12 = .ok (.goto 4, 3) := by decide +kernel
theorem dJ11_isValidCodePoint_9a6ad_15 : decode cJ11_isValidCodePoint_9a6ad 15 = .ok (.iconst 0, 1) := by decide +kernel
theorem dJ11_isValidCodePoint_9a6ad_16 : decode cJ11_isValidCodePoint_9a6ad 16 = .ok (.ireturn, 1) := by decide +kernel
theorem dJ11_highSurrogate_5068e_0 : decode cJ11_highSurrogate_5068e 0 = .ok (.iload_n 0, 1) := by decide +kernel
theorem dJ11_highSurrogate_5068e_1 : decode cJ11_highSurrogate_5068e 1 = .ok (.bipush 10, 2) := by decide +kernel
theorem dJ11_highSurrogate_5068e_3 : decode cJ11_highSurrogate_5068e 3 = .ok (.iushr, 1) := by decide +kernel
theorem dJ11_highSurrogate_5068e_4 : decode cJ11_highSurrogate_5068e 4 = .ok (.ldc 110, 2) := by decide +kernel
theorem dJ11_highSurrogate_5068e_6 : decode cJ11_highSurrogate_5068e 6 = .ok (.iadd, 1) := by decide +kernel
theorem dJ11_highSurrogate_5068e_7 : decode cJ11_highSurrogate_5068e 7 = .ok (.i2c, 1) := by decide +kernel
theorem dJ11_highSurrogate_5068e_8 : decode cJ11_highSurrogate_5068e 8 = .ok (.ireturn, 1) := by decide +kernel
theorem dJ11_lowSurrogate_5068e_0 : decode cJ11_lowSurrogate_5068e 0 = .ok (.iload_n 0, 1) := by decide +kernel
theorem dJ11_lowSurrogate_5068e_1 : decode cJ11_lowSurrogate_5068e 1 = .ok (.sipush 1023, 3) := by decide +kernel
theorem dJ11_lowSurrogate_5068e_4 : decode cJ11_lowSurrogate_5068e 4 = .ok (.iand, 1) := by decide +kernel
theorem dJ11_lowSurrogate_5068e_5 : decode cJ11_lowSurrogate_5068e 5 = .ok (.ldc 76, 2) := by decide +kernel
theorem dJ11_lowSurrogate_5068e_7 : decode cJ11_lowSurrogate_5068e 7 = .ok (.iadd, 1) := by decide +kernel
theorem dJ11_lowSurrogate_5068e_8 : decode cJ11_lowSurrogate_5068e 8 = .ok (.i2c, 1) := by decide +kernel
theorem dJ11_lowSurrogate_5068e_9 : decode cJ11_lowSurrogate_5068e 9 = .ok (.ireturn, 1) := by decide +kernel
theorem dJ9_abs_0f7a4_0 : decode cJ9_abs_0f7a4 0 = .ok (.iload_n 0, 1) := by decide +kernel
theorem dJ9_abs_0f7a4_1 : decode cJ9_abs_0f7a4 1 = .ok (.ifCond .ge 8, 3) := by decide +kernel
theorem dJ9_abs_0f7a4_4 : decode cJ9_abs_0f7a4 4 = .ok (.iload_n 0, 1) := by decide +kernel
theorem dJ9_abs_0f7a4_5 : decode cJ9_abs_0f7a4 5 = .ok (.ineg, 1) := by decide +kernel
theorem dJ9_abs_0f7a4_6 : decode cJ9_abs_0f7a4 6 = .ok (.goto 4, 3) := by decide +kernel
theorem dJ9_abs_0f7a4_9 : decode cJ9_abs_0f7a4 9 = .ok (.iload_n 0, 1) := by decide +kernel
theorem dJ9_abs_0f7a4_10 : decode cJ9_abs_0f7a4 10 = .ok (.ireturn, 1) := by decide +kernel
theorem dJ9_max_7cf53_0 : decode cJ9_max_7cf53 0 = .ok (.iload_n 0, 1) := by decide +kernel
theorem dJ9_max_7cf53_1 : decode cJ9_max_7cf53 1 = .ok (.iload_n 1, 1) := by decide +kernel
theorem dJ9_max_7cf53_2 : decode cJ9_max_7cf53 2 = .ok (.if_icmp .lt 7, 3) := by decide +kernel
theorem dJ9_max_7cf53_5 : decode cJ9_max_7cf53 5 = .ok (.iload_n 0, 1) := by decide +kernel
theorem dJ9_max_7cf53_6 : decode cJ9_max_7cf53 6 = .ok (.goto 4, 3) := by decide +kernel
theorem dJ9_max_7cf53_9 : decode cJ9_max_7cf53 9 = .ok (.iload_n 1, 1) := by decide +kernel
theorem dJ9_max_7cf53_10 : decode cJ9_max_7cf53 10 = .ok (.ireturn, 1) := by decide +kernel
theorem dJ9_min_7cf53_0 : decode cJ9_min_7cf53 0 = .ok (.iload_n 0, 1) := by decide +kernel
theorem dJ9_min_7cf53_1 : decode cJ9_min_7cf53 1 = .ok (.iload_n 1, 1) := by decide +kernel
theorem dJ9_min_7cf53_2 : decode cJ9_min_7cf53 2 = .ok (.if_icmp .gt 7, 3) := by decide +kernel
theorem dJ9_min_7cf53_5 : decode cJ9_min_7cf53 5 = .ok (.iload_n 0, 1) := by decide +kernel
theorem dJ9_min_7cf53_6 : decode cJ9_min_7cf53 6 = .ok (.goto 4, 3) := by decide +kernel
theorem dJ9_min_7cf53_9 : decode cJ9_min_7cf53 9 = .ok (.iload_n 1, 1) := by decide +kernel
theorem dJ9_min_7cf53_10 : decode cJ9_min_7cf53 10 = .ok (.ireturn, 1) := by decide +kernel
theorem dJ0_length_8abf5_0 : decode cJ0_length_8abf5 0 = .ok (.aload_n 0, 1) := by decide +kernel
theorem dJ0_length_8abf5_1 : decode cJ0_length_8abf5 1 = .ok (.getfield 9, 3) := by decide +kernel
theorem dJ0_length_8abf5_4 : decode cJ0_length_8abf5 4 = .ok (.arraylength, 1) := by decide +kernel
theorem dJ0_length_8abf5_5 : decode cJ0_length_8abf5 5 = .ok (.aload_n 0, 1) := by decide +kernel
theorem dJ0_length_8abf5_6 : decode cJ0_length_8abf5 6 = .ok (.invokevirtual 335, 3) := by decide +kernel
theorem dJ0_length_8abf5_9 : decode cJ0_length_8abf5 9 = .ok (.ishr, 1) := by decide +kernel
theorem dJ0_length_8abf5_10 : decode cJ0_length_8abf5 10 = .ok (.ireturn, 1) := by decide +kernel
theorem dJ0_indexOf_0f7a4_0 : decode cJ0_indexOf_0f7a4 0 = .ok (.aload_n 0, 1) := by decide +kernel
theorem dJ0_indexOf_0f7a4_1 : decode cJ0_indexOf_0f7a4 1 = .ok (.iload_n 1, 1) := by decide +kernel
theorem dJ0_indexOf_0f7a4_2 : decode cJ0_indexOf_0f7a4 2 = .ok (.iconst 0, 1) := by decide +kernel
theorem dJ0_indexOf_0f7a4_3 : decode cJ0_indexOf_0f7a4 3 = .ok (.invokevirtual 633, 3) := by decide +kernel
theorem dJ0_indexOf_0f7a4_6 : decode cJ0_indexOf_0f7a4 6 = .ok (.ireturn, 1) := by decide +kernel
theorem dJ0_indexOf_7cf53_0 : decode cJ0_indexOf_7cf53 0 = .ok (.aload_n 0, 1) := by decide +kernel
theorem dJ0_indexOf_7cf53_1 : decode cJ0_indexOf_7cf53 1 = .ok (.invokevirtual 492, 3) := by decide +kernel
theorem dJ0_indexOf_7cf53_4 : decode cJ0_indexOf_7cf53 4 = .ok (.ifCond .eq 19, 3) := by decide +kernel
theorem dJ0_indexOf_7cf53_7 : decode cJ0_indexOf_7cf53 7 = .ok (.aload_n 0, 1) := by decide +kernel
theorem dJ0_indexOf_7cf53_8 : decode cJ0_indexOf_7cf53 8 = .ok (.getfield 9, 3) := by decide +kernel
theorem dJ0_indexOf_7cf53_11 : decode cJ0_indexOf_7cf53 11 = .ok (.iload_n 1, 1) := by decide +kernel
theorem dJ0_indexOf_7cf53_12 : decode cJ0_indexOf_7cf53 12 = .ok (.iload_n 2, 1) := by decide +kernel
theorem dJ0_indexOf_7cf53_13 : decode cJ0_indexOf_7cf53 13 = .ok (.aload_n 0, 1) := by decide +kernel
theorem dJ0_indexOf_7cf53_14 : decode cJ0_indexOf_7cf53 14 = .ok (.invokevirtual 505, 3) := by decide +kernel
theorem dJ0_indexOf_7cf53_17 : decode cJ0_indexOf_7cf53 17 = .ok (.invokestatic 637, 3) := by decide +kernel
theorem dJ0_indexOf_7cf53_20 : decode cJ0_indexOf_7cf53 20 = .ok (.goto 16, 3) := by decide +kernel
theorem dJ0_indexOf_7cf53_23 : decode cJ0_indexOf_7cf53 23 = .ok (.aload_n 0, 1) := by decide +kernel
theorem dJ0_indexOf_7cf53_24 : decode cJ0_indexOf_7cf53 24 = .ok (.getfield 9, 3) := by decide +kernel
theorem dJ0_indexOf_7cf53_27 : decode cJ0_indexOf_7cf53 27 = .ok (.iload_n 1, 1) := by decide +kernel
theorem dJ0_indexOf_7cf53_28 : decode cJ0_indexOf_7cf53 28 = .ok (.iload_n 2, 1) := by decide +kernel
theorem dJ0_indexOf_7cf53_29 : decode cJ0_indexOf_7cf53 29 = .ok (.aload_n 0, 1) := by decide +kernel
theorem dJ0_indexOf_7cf53_30 : decode cJ0_indexOf_7cf53 30 = .ok (.invokevirtual 505, 3) := by decide +kernel
theorem dJ0_indexOf_7cf53_33 : decode cJ0_indexOf_7cf53 33 = .ok (.invokestatic 640, 3) := by decide +kernel
theorem dJ0_indexOf_7cf53_36 : decode cJ0_indexOf_7cf53 36 = .ok (.ireturn, 1) := by decide +kernel
theorem dJ0_coder_7d493_0 : decode cJ0_coder_7d493 0 = .ok (.getstatic 38, 3) := by decide +kernel
theorem dJ0_coder_7d493_3 : decode cJ0_coder_7d493 3 = .ok (.ifCond .eq 10, 3) := by decide +kernel
theorem dJ0_coder_7d493_6 : decode cJ0_coder_7d493 6 = .ok (.aload_n 0, 1) := by decide +kernel
theorem dJ0_coder_7d493_7 : decode cJ0_coder_7d493 7 = .ok (.getfield 15, 3) := by decide +kernel
theorem dJ0_coder_7d493_10 : decode cJ0_coder_7d493 10 = .ok (.goto 4, 3) := by decide +kernel
theorem dJ0_coder_7d493_13 : decode cJ0_coder_7d493 13 = .ok (.iconst 1, 1) := by decide +kernel
theorem dJ0_coder_7d493_14 : decode cJ0_coder_7d493 14 = .ok (.ireturn, 1) := by decide +kernel
theorem dJ0_isLatin1_aae02_0 : decode cJ0_isLatin1_aae02 0 = .ok (.getstatic 38, 3) := by decide +kernel
theorem dJ0_isLatin1_aae02_3 : decode cJ0_isLatin1_aae02 3 = .ok (.ifCond .eq 14, 3) := by decide +kernel
theorem dJ0_isLatin1_aae02_6 : decode cJ0_isLatin1_aae02 6 = .ok (.aload_n 0, 1) := by decide +kernel
theorem dJ0_isLatin1_aae02_7 : decode cJ0_isLatin1_aae02 7 = .ok (.getfield 15, 3) := by decide +kernel
theorem dJ0_isLatin1_aae02_10 : decode cJ0_isLatin1_aae02 10 = .ok (.ifCond .ne 7, 3) := by decide +kernel
theorem dJ0_isLatin1_aae02_13 : decode cJ0_isLatin1_aae02 13 = .ok (.iconst 1, 1) := by decide +kernel
theorem dJ0_isLatin1_aae02_14 : decode cJ0_isLatin1_aae02 14 = .ok (.goto 4, 3) := by decide +kernel
theorem dJ0_isLatin1_aae02_17 : decode cJ0_isLatin1_aae02 17 = .ok (.iconst 0, 1) := by decide +kernel
theorem dJ0_isLatin1_aae02_18 : decode cJ0_isLatin1_aae02 18 = .ok (.ireturn, 1) := by decide +kernel
theorem dJ0_checkBoundsBeginEnd_23922_0 : decode cJ0_checkBoundsBeginEnd_23922 0 = .ok (.iload_n 0, 1) := by decide +kernel
theorem dJ0_checkBoundsBeginEnd_23922_1 : decode cJ0_checkBoundsBeginEnd_23922 1 = .ok (.iload_n 1, 1) := by decide +kernel
theorem dJ0_checkBoundsBeginEnd_23922_2 : decode cJ0_checkBoundsBeginEnd_23922 2 = .ok (.iload_n 2, 1) := by decide +kernel
theorem dJ0_checkBoundsBeginEnd_23922_3 : decode cJ0_checkBoundsBeginEnd_23922 3 = .ok (.getstatic 1053, 3) := by decide +kernel
theorem dJ0_checkBoundsBeginEnd_23922_6 : decode cJ0_checkBoundsBeginEnd_23922 6 = .ok (.invokestatic 1062, 3) := by decide +kernel
theorem dJ0_checkBoundsBeginEnd_23922_9 : decode cJ0_checkBoundsBeginEnd_23922 9 = .ok (.pop, 1) := by decide +kernel
theorem dJ0_checkBoundsBeginEnd_23922_10 : decode cJ0_checkBoundsBeginEnd_23922 10 = .ok (.return_, 1) := by decide +kernel
theorem dJ1_canEncode_9a6ad_0 : decode cJ1_canEncode_9a6ad 0 = .ok (.iload_n 0, 1) := by decide +kernel
theorem dJ1_canEncode_9a6ad_1 : decode cJ1_canEncode_9a6ad 1 = .ok (.ifCond .lt 14, 3) := by decide +kernel
theorem dJ1_canEncode_9a6ad_4 : decode cJ1_canEncode_9a6ad 4 = .ok (.iload_n 0, 1) := by decide +kernel
theorem dJ1_canEncode_9a6ad_5 : decode cJ1_canEncode_9a6ad 5 = .ok (.sipush 255, 3) := by decide +kernel
theorem dJ1_canEncode_9a6ad_8 : decode cJ1_canEncode_9a6ad 8 = .ok (.if_icmp .gt 7, 3) := by decide +kernel
theorem dJ1_canEncode_9a6ad_11 : decode cJ1_canEncode_9a6ad 11 = .ok (.iconst 1, 1) := by decide +kernel
theorem dJ1_canEncode_9a6ad_12 : decode cJ1_canEncode_9a6ad 12 = .ok (.goto 4, 3) := by decide +kernel
theorem dJ1_canEncode_9a6ad_15 : decode cJ1_canEncode_9a6ad 15 = .ok (.iconst 0, 1) := by decide +kernel
theorem dJ1_canEncode_9a6ad_16 : decode cJ1_canEncode_9a6ad 16 = .ok (.ireturn, 1) := by decide +kernel
theorem dJ1_indexOf_4cfef_0 : decode cJ1_indexOf_4cfef 0 = .ok (.iload_n 1, 1) := by decide +kernel
theorem dJ1_indexOf_4cfef_1 : decode cJ1_indexOf_4cfef 1 = .ok (.invokestatic 88, 3) := by decide +kernel
theorem dJ1_indexOf_4cfef_4 : decode cJ1_indexOf_4cfef 4 = .ok (.ifCond .ne 5, 3) := by decide +kernel
theorem dJ1_indexOf_4cfef_7 : decode cJ1_indexOf_4cfef 7 = .ok (.iconst (-1), 1) := by decide +kernel
theorem dJ1_indexOf_4cfef_8 : decode cJ1_indexOf_4cfef 8 = .ok (.ireturn, 1) := by decide +kernel
theorem dJ1_indexOf_4cfef_9 : decode cJ1_indexOf_4cfef 9 = .ok (.iload_n 2, 1) := by decide +kernel
theorem dJ1_indexOf_4cfef_10 : decode cJ1_indexOf_4cfef 10 = .ok (.iconst 0, 1) := by decide +kernel
theorem dJ1_indexOf_4cfef_11 : decode cJ1_indexOf_4cfef 11 = .ok (.invokestatic 92, 3) := by decide +kernel
theorem dJ1_indexOf_4cfef_14 : decode cJ1_indexOf_4cfef 14 = .ok (.istore_n 2, 1) := by decide +kernel
theorem dJ1_indexOf_4cfef_15 : decode cJ1_indexOf_4cfef 15 = .ok (.iload_n 3, 1) := by decide +kernel
theorem dJ1_indexOf_4cfef_16 : decode cJ1_indexOf_4cfef 16 = .ok (.aload_n 0, 1) := by decide +kernel
theorem dJ1_indexOf_4cfef_17 : decode cJ1_indexOf_4cfef 17 = .ok (.arraylength, 1) := by decide +kernel
theorem dJ1_indexOf_4cfef_18 : decode cJ1_indexOf_4cfef 18 = .ok (.invokestatic 38, 3) := by decide +kernel
theorem dJ1_indexOf_4cfef_21 : decode cJ1_indexOf_4cfef 21 = .ok (.istore_n 3, 1) := by decide +kernel
theorem dJ1_indexOf_4cfef_22 : decode cJ1_indexOf_4cfef 22 = .ok (.iload_n 2, 1) := by decide +kernel
theorem dJ1_indexOf_4cfef_23 : decode cJ1_indexOf_4cfef 23 = .ok (.iload_n 3, 1) := by decide +kernel
theorem dJ1_indexOf_4cfef_24 : decode cJ1_indexOf_4cfef 24 = .ok (.if_icmp .lt 5, 3) := by decide +kernel
theorem dJ1_indexOf_4cfef_27 : decode cJ1_indexOf_4cfef 27 = .ok (.iconst (-1), 1) := by decide +kernel
theorem dJ1_indexOf_4cfef_28 : decode cJ1_indexOf_4cfef 28 = .ok (.ireturn, 1) := by decide +kernel
theorem dJ1_indexOf_4cfef_29 : decode cJ1_indexOf_4cfef 29 = .ok (.aload_n 0, 1) := by decide +kernel
theorem dJ1_indexOf_4cfef_30 : decode cJ1_indexOf_4cfef 30 = .ok (.iload_n 1, 1) := by decide +kernel
theorem dJ1_indexOf_4cfef_31 : decode cJ1_indexOf_4cfef 31 = .ok (.iload_n 2, 1) := by decide +kernel
theorem dJ1_indexOf_4cfef_32 : decode cJ1_indexOf_4cfef 32 = .ok (.iload_n 3, 1) := by decide +kernel
theorem dJ1_indexOf_4cfef_33 : decode cJ1_indexOf_4cfef 33 = .ok (.invokestatic 95, 3) := by decide +kernel
theorem dJ1_indexOf_4cfef_36 : decode cJ1_indexOf_4cfef 36 = .ok (.ireturn, 1) := by decide +kernel
theorem dJ1_indexOfChar_4cfef_0 : decode cJ1_indexOfChar_4cfef 0 = .ok (.iload_n 1, 1) := by decide +kernel
theorem dJ1_indexOfChar_4cfef_1 : decode cJ1_indexOfChar_4cfef 1 = .ok (.i2b, 1) := by decide +kernel
theorem dJ1_indexOfChar_4cfef_2 : decode cJ1_indexOfChar_4cfef 2 = .ok (.istore 4, 2) := by decide +kernel
theorem dJ1_indexOfChar_4cfef_4 : decode cJ1_indexOfChar_4cfef 4 = .ok (.iload_n 2, 1) := by decide +kernel
theorem dJ1_indexOfChar_4cfef_5 : decode cJ1_indexOfChar_4cfef 5 = .ok (.istore 5, 2) := by decide +kernel
theorem dJ1_indexOfChar_4cfef_7 : decode cJ1_indexOfChar_4cfef 7 = .ok (.iload 5, 2) := by decide +kernel
theorem dJ1_indexOfChar_4cfef_9 : decode cJ1_indexOfChar_4cfef 9 = .ok (.iload_n 3, 1) := by decide +kernel
theorem dJ1_indexOfChar_4cfef_10 : decode cJ1_indexOfChar_4cfef 10 = .ok (.if_icmp .ge 21, 3) := by decide +kernel
theorem dJ1_indexOfChar_4cfef_13 : decode cJ1_indexOfChar_4cfef 13 = .ok (.aload_n 0, 1) := by decide +kernel
theorem dJ1_indexOfChar_4cfef_14 : decode cJ1_indexOfChar_4cfef 14 = .ok (.iload 5, 2) := by decide +kernel
theorem dJ1_indexOfChar_4cfef_16 : decode cJ1_indexOfChar_4cfef 16 = .ok (.baload, 1) := by decide +kernel
theorem dJ1_indexOfChar_4cfef_17 : decode cJ1_indexOfChar_4cfef 17 = .ok (.iload 4, 2) := by decide +kernel
theorem dJ1_indexOfChar_4cfef_19 : decode cJ1_indexOfChar_4cfef 19 = .ok (.if_icmp .ne 6, 3) := by decide +kernel
theorem dJ1_indexOfChar_4cfef_22 : decode cJ1_indexOfChar_4cfef 22 = .ok (.iload 5, 2) := by decide +kernel
theorem dJ1_indexOfChar_4cfef_24 : decode cJ1_indexOfChar_4cfef 24 = .ok (.ireturn, 1) := by decide +kernel
theorem dJ1_indexOfChar_4cfef_25 : decode cJ1_indexOfChar_4cfef 25 = .ok (.iinc 5 1, 3) := by decide +kernel
theorem dJ1_indexOfChar_4cfef_28 : decode cJ1_indexOfChar_4cfef 28 = .ok (.goto (-21), 3) := by decide +kernel
theorem dJ1_indexOfChar_4cfef_31 : decode cJ1_indexOfChar_4cfef 31 = .ok (.iconst (-1), 1) := by decide +kernel
theorem dJ1_indexOfChar_4cfef_32 : decode cJ1_indexOfChar_4cfef 32 = .ok (.ireturn, 1) := by decide +kernel
theorem dJ2_getChar_3b067_0 : decode cJ2_getChar_3b067 0 = .ok (.getstatic 44, 3) := by decide +kernel
theorem dJ2_getChar_3b067_3 : decode cJ2_getChar_3b067 3 = .ok (.ifCond .ne 25, 3) := by decide +kernel
theorem dJ2_getChar_3b067_6 : decode cJ2_getChar_3b067 6 = .ok (.iload_n 1, 1) := by decide +kernel
theorem dJ2_getChar_3b067_7 : decode cJ2_getChar_3b067 7 = .ok (.ifCond .lt 11, 3) := by decide +kernel
theorem dJ2_getChar_3b067_10 : decode cJ2_getChar_3b067 10 = .ok (.iload_n 1, 1) := by decide +kernel
theorem dJ2_getChar_3b067_11 : decode cJ2_getChar_3b067 11 = .ok (.aload_n 0, 1) := by decide +kernel
theorem dJ2_getChar_3b067_12 : decode cJ2_getChar_3b067 12 = .ok (.invokestatic 48, 3) := by decide +kernel
theorem dJ2_getChar_3b067_15 : decode cJ2_getChar_3b067 15 = .ok (.if_icmp .lt 13, 3) := by decide +kernel
theorem dJ2_getChar_3b067_18 : decode cJ2_getChar_3b067 18 = .ok (.new 52, 3) := by decide +kernel
theorem dJ2_getChar_3b067_21 : decode cJ2_getChar_3b067 21 = .ok (.dup, 1) := by decide +kernel
theorem dJ2_getChar_3b067_22 : decode cJ2_getChar_3b067 22 = .ok (.ldc 54, 2) := by decide +kernel
theorem dJ2_getChar_3b067_24 : decode cJ2_getChar_3b067 24 = .ok (.invokespecial 56, 3) := by decide +kernel
theorem dJ2_getChar_3b067_27 : decode cJ2_getChar_3b067 27 = .ok (.athrow, 1) := by decide +kernel
theorem dJ2_getChar_3b067_28 : decode cJ2_getChar_3b067 28 = .ok (.iload_n 1, 1) := by decide +kernel
theorem dJ2_getChar_3b067_29 : decode cJ2_getChar_3b067 29 = .ok (.iconst 1, 1) := by decide +kernel
theorem dJ2_getChar_3b067_30 : decode cJ2_getChar_3b067 30 = .ok (.ishl, 1) := by decide +kernel
theorem dJ2_getChar_3b067_31 : decode cJ2_getChar_3b067 31 = .ok (.istore_n 1, 1) := by decide +kernel
theorem dJ2_getChar_3b067_32 : decode cJ2_getChar_3b067 32 = .ok (.aload_n 0, 1) := by decide +kernel
theorem dJ2_getChar_3b067_33 : decode cJ2_getChar_3b067 33 = .ok (.iload_n 1, 1) := by decide +kernel
theorem dJ2_getChar_3b067_34 : decode cJ2_getChar_3b067 34 = .ok (.iinc 1 1, 3) := by decide +kernel
theorem dJ2_getChar_3b067_37 : decode cJ2_getChar_3b067 37 = .ok (.baload, 1) := by decide +kernel
theorem dJ2_getChar_3b067_38 : decode cJ2_getChar_3b067 38 = .ok (.sipush 255, 3) := by decide +kernel
theorem dJ2_getChar_3b067_41 : decode cJ2_getChar_3b067 41 = .ok (.iand, 1) := by decide +kernel
theorem dJ2_getChar_3b067_42 : decode cJ2_getChar_3b067 42 = .ok (.getstatic 59, 3) := by decide +kernel
theorem dJ2_getChar_3b067_45 : decode cJ2_getChar_3b067 45 = .ok (.ishl, 1) := by decide +kernel
theorem dJ2_getChar_3b067_46 : decode cJ2_getChar_3b067 46 = .ok (.aload_n 0, 1) := by decide +kernel
theorem dJ2_getChar_3b067_47 : decode cJ2_getChar_3b067 47 = .ok (.iload_n 1, 1) := by decide +kernel
theorem dJ2_getChar_3b067_48 : decode cJ2_getChar_3b067 48 = .ok (.baload, 1) := by decide +kernel
theorem dJ2_getChar_3b067_49 : decode cJ2_getChar_3b067 49 = .ok (.sipush 255, 3) := by decide +kernel
theorem dJ2_getChar_3b067_52 : decode cJ2_getChar_3b067 52 = .ok (.iand, 1) := by decide +kernel
theorem dJ2_getChar_3b067_53 : decode cJ2_getChar_3b067 53 = .ok (.getstatic 63, 3) := by decide +kernel
theorem dJ2_getChar_3b067_56 : decode cJ2_getChar_3b067 56 = .ok (.ishl, 1) := by decide +kernel
theorem dJ2_getChar_3b067_57 : decode cJ2_getChar_3b067 57 = .ok (.ior, 1) := by decide +kernel
theorem dJ2_getChar_3b067_58 : decode cJ2_getChar_3b067 58 = .ok (.i2c, 1) := by decide +kernel
theorem dJ2_getChar_3b067_59 : decode cJ2_getChar_3b067 59 = .ok (.ireturn, 1) := by decide +kernel
theorem dJ2_length_9d52b_0 : decode cJ2_length_9d52b 0 = .ok (.aload_n 0, 1) := by decide +kernel
theorem dJ2_length_9d52b_1 : decode cJ2_length_9d52b 1 = .ok (.arraylength, 1) := by decide +kernel
theorem dJ2_length_9d52b_2 : decode cJ2_length_9d52b 2 = .ok (.iconst 1, 1) := by decide +kernel
theorem dJ2_length_9d52b_3 : decode cJ2_length_9d52b 3 = .ok (.ishr, 1) := by decide +kernel
theorem dJ2_length_9d52b_4 : decode cJ2_length_9d52b 4 = .ok (.ireturn, 1) := by decide +kernel
theorem dJ2_indexOf_4cfef_0 : decode cJ2_indexOf_4cfef 0 = .ok (.iload_n 2, 1) := by decide +kernel
theorem dJ2_indexOf_4cfef_1 : decode cJ2_indexOf_4cfef 1 = .ok (.iconst 0, 1) := by decide +kernel
theorem dJ2_indexOf_4cfef_2 : decode cJ2_indexOf_4cfef 2 = .ok (.invokestatic 224, 3) := by decide +kernel
theorem dJ2_indexOf_4cfef_5 : decode cJ2_indexOf_4cfef 5 = .ok (.istore_n 2, 1) := by decide +kernel
theorem dJ2_indexOf_4cfef_6 : decode cJ2_indexOf_4cfef 6 = .ok (.iload_n 3, 1) := by decide +kernel
theorem dJ2_indexOf_4cfef_7 : decode cJ2_indexOf_4cfef 7 = .ok (.aload_n 0, 1) := by decide +kernel
theorem dJ2_indexOf_4cfef_8 : decode cJ2_indexOf_4cfef 8 = .ok (.arraylength, 1) := by decide +kernel
theorem dJ2_indexOf_4cfef_9 : decode cJ2_indexOf_4cfef 9 = .ok (.iconst 1, 1) := by decide +kernel
theorem dJ2_indexOf_4cfef_10 : decode cJ2_indexOf_4cfef 10 = .ok (.ishr, 1) := by decide +kernel
theorem dJ2_indexOf_4cfef_11 : decode cJ2_indexOf_4cfef 11 = .ok (.invokestatic 183, 3) := by decide +kernel
theorem dJ2_indexOf_4cfef_14 : decode cJ2_indexOf_4cfef 14 = .ok (.istore_n 3, 1) := by decide +kernel
theorem dJ2_indexOf_4cfef_15 : decode cJ2_indexOf_4cfef 15 = .ok (.iload_n 2, 1) := by decide +kernel
theorem dJ2_indexOf_4cfef_16 : decode cJ2_indexOf_4cfef 16 = .ok (.iload_n 3, 1) := by decide +kernel
theorem dJ2_indexOf_4cfef_17 : decode cJ2_indexOf_4cfef 17 = .ok (.if_icmp .lt 5, 3) := by decide +kernel
theorem dJ2_indexOf_4cfef_20 : decode cJ2_indexOf_4cfef 20 = .ok (.iconst (-1), 1) := by decide +kernel
theorem dJ2_indexOf_4cfef_21 : decode cJ2_indexOf_4cfef 21 = .ok (.ireturn, 1) := by decide +kernel
theorem dJ2_indexOf_4cfef_22 : decode cJ2_indexOf_4cfef 22 = .ok (.iload_n 1, 1) := by decide +kernel
theorem dJ2_indexOf_4cfef_23 : decode cJ2_indexOf_4cfef 23 = .ok (.ldc 227, 2) := by decide +kernel
theorem dJ2_indexOf_4cfef_25 : decode cJ2_indexOf_4cfef 25 = .ok (.if_icmp .ge 11, 3) := by decide +kernel
theorem dJ2_indexOf_4cfef_28 : decode cJ2_indexOf_4cfef 28 = .ok (.aload_n 0, 1) := by decide +kernel
theorem dJ2_indexOf_4cfef_29 : decode cJ2_indexOf_4cfef 29 = .ok (.iload_n 1, 1) := by decide +kernel
theorem dJ2_indexOf_4cfef_30 : decode cJ2_indexOf_4cfef 30 = .ok (.iload_n 2, 1) := by decide +kernel
theorem dJ2_indexOf_4cfef_31 : decode cJ2_indexOf_4cfef 31 = .ok (.iload_n 3, 1) := by decide +kernel
theorem dJ2_indexOf_4cfef_32 : decode cJ2_indexOf_4cfef 32 = .ok (.invokestatic 228, 3) := by decide +kernel
theorem dJ2_indexOf_4cfef_35 : decode cJ2_indexOf_4cfef 35 = .ok (.ireturn, 1) := by decide +kernel
theorem dJ2_indexOf_4cfef_36 : decode cJ2_indexOf_4cfef 36 = .ok (.aload_n 0, 1) := by decide +kernel
theorem dJ2_indexOf_4cfef_37 : decode cJ2_indexOf_4cfef 37 = .ok (.iload_n 1, 1) := by decide +kernel
theorem dJ2_indexOf_4cfef_38 : decode cJ2_indexOf_4cfef 38 = .ok (.iload_n 2, 1) := by decide +kernel
theorem dJ2_indexOf_4cfef_39 : decode cJ2_indexOf_4cfef 39 = .ok (.iload_n 3, 1) := by decide +kernel
theorem dJ2_indexOf_4cfef_40 : decode cJ2_indexOf_4cfef 40 = .ok (.invokestatic 232, 3) := by decide +kernel
theorem dJ2_indexOf_4cfef_43 : decode cJ2_indexOf_4cfef 43 = .ok (.ireturn, 1) := by decide +kernel
theorem dJ2_indexOfChar_4cfef_0 : decode cJ2_indexOfChar_4cfef 0 = .ok (.iload_n 2, 1) := by decide +kernel
theorem dJ2_indexOfChar_4cfef_1 : decode cJ2_indexOfChar_4cfef 1 = .ok (.iload_n 3, 1) := by decide +kernel
theorem dJ2_indexOfChar_4cfef_2 : decode cJ2_indexOfChar_4cfef 2 = .ok (.aload_n 0, 1) := by decide +kernel
theorem dJ2_indexOfChar_4cfef_3 : decode cJ2_indexOfChar_4cfef 3 = .ok (.invokestatic 96, 3) := by decide +kernel
theorem dJ2_indexOfChar_4cfef_6 : decode cJ2_indexOfChar_4cfef 6 = .ok (.aload_n 0, 1) := by decide +kernel
theorem dJ2_indexOfChar_4cfef_7 : decode cJ2_indexOfChar_4cfef 7 = .ok (.iload_n 1, 1) := by decide +kernel
theorem dJ2_indexOfChar_4cfef_8 : decode cJ2_indexOfChar_4cfef 8 = .ok (.iload_n 2, 1) := by decide +kernel
theorem dJ2_indexOfChar_4cfef_9 : decode cJ2_indexOfChar_4cfef 9 = .ok (.iload_n 3, 1) := by decide +kernel
theorem dJ2_indexOfChar_4cfef_10 : decode cJ2_indexOfChar_4cfef 10 = .ok (.invokestatic 244, 3) := by decide +kernel
theorem dJ2_indexOfChar_4cfef_13 : decode cJ2_indexOfChar_4cfef 13 = .ok (.ireturn, 1) := by decide +kernel
theorem dJ2_indexOfCharUnsafe_4cfef_0 : decode cJ2_indexOfCharUnsafe_4cfef 0 = .ok (.iload_n 2, 1) := by decide +kernel
theorem dJ2_indexOfCharUnsafe_4cfef_1 : decode cJ2_indexOfCharUnsafe_4cfef 1 = .ok (.istore 4, 2) := by decide +kernel
theorem dJ2_indexOfCharUnsafe_4cfef_3 : decode cJ2_indexOfCharUnsafe_4cfef 3 = .ok (.iload 4, 2) := by decide +kernel
theorem dJ2_indexOfCharUnsafe_4cfef_5 : decode cJ2_indexOfCharUnsafe_4cfef 5 = .ok (.iload_n 3, 1) := by decide +kernel
theorem dJ2_indexOfCharUnsafe_4cfef_6 : decode cJ2_indexOfCharUnsafe_4cfef 6 = .ok (.if_icmp .ge 22, 3) := by decide +kernel
theorem dJ2_indexOfCharUnsafe_4cfef_9 : decode cJ2_indexOfCharUnsafe_4cfef 9 = .ok (.aload_n 0, 1) := by decide +kernel
theorem dJ2_indexOfCharUnsafe_4cfef_10 : decode cJ2_indexOfCharUnsafe_4cfef 10 = .ok (.iload 4, 2) := by decide +kernel
theorem dJ2_indexOfCharUnsafe_4cfef_12 : decode cJ2_indexOfCharUnsafe_4cfef 12 = .ok (.invokestatic 71, 3) := by decide +kernel
theorem dJ2_indexOfCharUnsafe_4cfef_15 : decode cJ2_indexOfCharUnsafe_4cfef 15 = .ok (.iload_n 1, 1) := by decide +kernel
theorem dJ2_indexOfCharUnsafe_4cfef_16 : decode cJ2_indexOfCharUnsafe_4cfef 16 = .ok (.if_icmp .ne 6, 3) := by decide +kernel
theorem dJ2_indexOfCharUnsafe_4cfef_19 : decode cJ2_indexOfCharUnsafe_4cfef 19 = .ok (.iload 4, 2) := by decide +kernel
theorem dJ2_indexOfCharUnsafe_4cfef_21 : decode cJ2_indexOfCharUnsafe_4cfef 21 = .ok (.ireturn, 1) := by decide +kernel
theorem dJ2_indexOfCharUnsafe_4cfef_22 : decode cJ2_indexOfCharUnsafe_4cfef 22 = .ok (.iinc 4 1, 3) := by decide +kernel
theorem dJ2_indexOfCharUnsafe_4cfef_25 : decode cJ2_indexOfCharUnsafe_4cfef 25 = .ok (.goto (-22), 3) := by decide +kernel
theorem dJ2_indexOfCharUnsafe_4cfef_28 : decode cJ2_indexOfCharUnsafe_4cfef 28 = .ok (.iconst (-1), 1) := by decide +kernel
theorem dJ2_indexOfCharUnsafe_4cfef_29 : decode cJ2_indexOfCharUnsafe_4cfef 29 = .ok (.ireturn, 1) := by decide +kernel
theorem dJ2_indexOfSupplementary_4cfef_0 : decode cJ2_indexOfSupplementary_4cfef 0 = .ok (.iload_n 1, 1) := by decide +kernel
theorem dJ2_indexOfSupplementary_4cfef_1 : decode cJ2_indexOfSupplementary_4cfef 1 = .ok (.invokestatic 164, 3) := by decide +kernel
theorem dJ2_indexOfSupplementary_4cfef_4 : decode cJ2_indexOfSupplementary_4cfef 4 = .ok (.ifCond .eq 65, 3) := by decide +kernel
theorem dJ2_indexOfSupplementary_4cfef_7 : decode cJ2_indexOfSupplementary_4cfef 7 = .ok (.iload_n 1, 1) := by decide +kernel
theorem dJ2_indexOfSupplementary_4cfef_8 : decode cJ2_indexOfSupplementary_4cfef 8 = .ok (.invokestatic 157, 3) := by decide +kernel
theorem dJ2_indexOfSupplementary_4cfef_11 : decode cJ2_indexOfSupplementary_4cfef 11 = .ok (.istore 4, 2) := by decide +kernel
theorem dJ2_indexOfSupplementary_4cfef_13 : decode cJ2_indexOfSupplementary_4cfef 13 = .ok (.iload_n 1, 1) := by decide +kernel
theorem dJ2_indexOfSupplementary_4cfef_14 : decode cJ2_indexOfSupplementary_4cfef 14 = .ok (.invokestatic 161, 3) := by decide +kernel
theorem dJ2_indexOfSupplementary_4cfef_17 : decode cJ2_indexOfSupplementary_4cfef 17 = .ok (.istore 5, 2) := by decide +kernel
theorem dJ2_indexOfSupplementary_4cfef_19 : decode cJ2_indexOfSupplementary_4cfef 19 = .ok (.iload_n 2, 1) := by decide +kernel
theorem dJ2_indexOfSupplementary_4cfef_20 : decode cJ2_indexOfSupplementary_4cfef 20 = .ok (.iload_n 3, 1) := by decide +kernel
theorem dJ2_indexOfSupplementary_4cfef_21 : decode cJ2_indexOfSupplementary_4cfef 21 = .ok (.aload_n 0, 1) := by decide +kernel
theorem dJ2_indexOfSupplementary_4cfef_22 : decode cJ2_indexOfSupplementary_4cfef 22 = .ok (.invokestatic 96, 3) := by decide +kernel
theorem dJ2_indexOfSupplementary_4cfef_25 : decode cJ2_indexOfSupplementary_4cfef 25 = .ok (.iload_n 2, 1) := by decide +kernel
theorem dJ2_indexOfSupplementary_4cfef_26 : decode cJ2_indexOfSupplementary_4cfef 26 = .ok (.istore 6, 2) := by decide +kernel
theorem dJ2_indexOfSupplementary_4cfef_28 : decode cJ2_indexOfSupplementary_4cfef 28 = .ok (.iload 6, 2) := by decide +kernel
theorem dJ2_indexOfSupplementary_4cfef_30 : decode cJ2_indexOfSupplementary_4cfef 30 = .ok (.iload_n 3, 1) := by decide +kernel
theorem dJ2_indexOfSupplementary_4cfef_31 : decode cJ2_indexOfSupplementary_4cfef 31 = .ok (.iconst 1, 1) := by decide +kernel
theorem dJ2_indexOfSupplementary_4cfef_32 : decode cJ2_indexOfSupplementary_4cfef 32 = .ok (.isub, 1) := by decide +kernel
theorem dJ2_indexOfSupplementary_4cfef_33 : decode cJ2_indexOfSupplementary_4cfef 33 = .ok (.if_icmp .ge 36, 3) := by decide +kernel
theorem dJ2_indexOfSupplementary_4cfef_36 : decode cJ2_indexOfSupplementary_4cfef 36 = .ok (.aload_n 0, 1) := by decide +kernel
theorem dJ2_indexOfSupplementary_4cfef_37 : decode cJ2_indexOfSupplementary_4cfef 37 = .ok (.iload 6, 2) := by decide +kernel
theorem dJ2_indexOfSupplementary_4cfef_39 : decode cJ2_indexOfSupplementary_4cfef 39 = .ok (.invokestatic 71, 3) := by decide +kernel
theorem dJ2_indexOfSupplementary_4cfef_42 : decode cJ2_indexOfSupplementary_4cfef 42 = .ok (.iload 4, 2) := by decide +kernel
theorem dJ2_indexOfSupplementary_4cfef_44 : decode cJ2_indexOfSupplementary_4cfef 44 = .ok (.if_icmp .ne 19, 3) := by decide +kernel
theorem dJ2_indexOfSupplementary_4cfef_47 : decode cJ2_indexOfSupplementary_4cfef 47 = .ok (.aload_n 0, 1) := by decide +kernel
theorem dJ2_indexOfSupplementary_4cfef_48 : decode cJ2_indexOfSupplementary_4cfef 48 = .ok (.iload 6, 2) := by decide +kernel
theorem dJ2_indexOfSupplementary_4cfef_50 : decode cJ2_indexOfSupplementary_4cfef 50 = .ok (.iconst 1, 1) := by decide +kernel
theorem dJ2_indexOfSupplementary_4cfef_51 : decode cJ2_indexOfSupplementary_4cfef 51 = .ok (.iadd, 1) := by decide +kernel
theorem dJ2_indexOfSupplementary_4cfef_52 : decode cJ2_indexOfSupplementary_4cfef 52 = .ok (.invokestatic 71, 3) := by decide +kernel
theorem dJ2_indexOfSupplementary_4cfef_55 : decode cJ2_indexOfSupplementary_4cfef 55 = .ok (.iload 5, 2) := by decide +kernel
theorem dJ2_indexOfSupplementary_4cfef_57 : decode cJ2_indexOfSupplementary_4cfef 57 = .ok (.if_icmp .ne 6, 3) := by decide +kernel
theorem dJ2_indexOfSupplementary_4cfef_60 : decode cJ2_indexOfSupplementary_4cfef 60 = .ok (.iload 6, 2) := by decide +kernel
theorem dJ2_indexOfSupplementary_4cfef_62 : decode cJ2_indexOfSupplementary_4cfef 62 = .ok (.ireturn, 1) := by decide +kernel
theorem dJ2_indexOfSupplementary_4cfef_63 : decode cJ2_indexOfSupplementary_4cfef 63 = .ok (.iinc 6 1, 3) := by decide +kernel
theorem dJ2_indexOfSupplementary_4cfef_66 : decode cJ2_indexOfSupplementary_4cfef 66 = .ok (.goto (-38), 3) := by decide +kernel
theorem dJ2_indexOfSupplementary_4cfef_69 : decode cJ2_indexOfSupplementary_4cfef 69 = .ok (.iconst (-1), 1) := by decide +kernel
theorem dJ2_indexOfSupplementary_4cfef_70 : decode cJ2_indexOfSupplementary_4cfef 70 = .ok (.ireturn, 1) := by decide +kernel
theorem dJ2_checkBoundsBeginEnd_d044e_0 : decode cJ2_checkBoundsBeginEnd_d044e 0 = .ok (.iload_n 0, 1) := by decide +kernel
theorem dJ2_checkBoundsBeginEnd_d044e_1 : decode cJ2_checkBoundsBeginEnd_d044e 1 = .ok (.iload_n 1, 1) := by decide +kernel
theorem dJ2_checkBoundsBeginEnd_d044e_2 : decode cJ2_checkBoundsBeginEnd_d044e 2 = .ok (.aload_n 2, 1) := by decide +kernel
theorem dJ2_checkBoundsBeginEnd_d044e_3 : decode cJ2_checkBoundsBeginEnd_d044e 3 = .ok (.invokestatic 48, 3) := by decide +kernel
theorem dJ2_checkBoundsBeginEnd_d044e_6 : decode cJ2_checkBoundsBeginEnd_d044e 6 = .ok (.invokestatic 241, 3) := by decide +kernel
theorem dJ2_checkBoundsBeginEnd_d044e_9 : decode cJ2_checkBoundsBeginEnd_d044e 9 = .ok (.return_, 1) := by decide +kernel
theorem dJ3_checkFromToIndex_8c36e_0 : decode cJ3_checkFromToIndex_8c36e 0 = .ok (.iload_n 0, 1) := by decide +kernel
theorem dJ3_checkFromToIndex_8c36e_1 : decode cJ3_checkFromToIndex_8c36e 1 = .ok (.ifCond .lt 13, 3) := by decide +kernel
theorem dJ3_checkFromToIndex_8c36e_4 : decode cJ3_checkFromToIndex_8c36e 4 = .ok (.iload_n 0, 1) := by decide +kernel
theorem dJ3_checkFromToIndex_8c36e_5 : decode cJ3_checkFromToIndex_8c36e 5 = .ok (.iload_n 1, 1) := by decide +kernel
theorem dJ3_checkFromToIndex_8c36e_6 : decode cJ3_checkFromToIndex_8c36e 6 = .ok (.if_icmp .gt 8, 3) := by decide +kernel
theorem dJ3_checkFromToIndex_8c36e_9 : decode cJ3_checkFromToIndex_8c36e 9 = .ok (.iload_n 1, 1) := by decide +kernel
theorem dJ3_checkFromToIndex_8c36e_10 : decode cJ3_checkFromToIndex_8c36e 10 = .ok (.iload_n 2, 1) := by decide +kernel
theorem dJ3_checkFromToIndex_8c36e_11 : decode cJ3_checkFromToIndex_8c36e 11 = .ok (.if_icmp .le 11, 3) := by decide +kernel
theorem dJ3_checkFromToIndex_8c36e_14 : decode cJ3_checkFromToIndex_8c36e 14 = .ok (.aload_n 3, 1) := by decide +kernel
theorem dJ3_checkFromToIndex_8c36e_15 : decode cJ3_checkFromToIndex_8c36e 15 = .ok (.iload_n 0, 1) := by decide +kernel
theorem dJ3_checkFromToIndex_8c36e_16 : decode cJ3_checkFromToIndex_8c36e 16 = .ok (.iload_n 1, 1) := by decide +kernel
theorem dJ3_checkFromToIndex_8c36e_17 : decode cJ3_checkFromToIndex_8c36e 17 = .ok (.iload_n 2, 1) := by decide +kernel
theorem dJ3_checkFromToIndex_8c36e_18 : decode cJ3_checkFromToIndex_8c36e 18 = .ok (.invokestatic 99, 3) := by decide +kernel
theorem dJ3_checkFromToIndex_8c36e_21 : decode cJ3_checkFromToIndex_8c36e 21 = .ok (.athrow, 1) := by decide +kernel
theorem dJ3_checkFromToIndex_8c36e_22 : decode cJ3_checkFromToIndex_8c36e 22 = .ok (.iload_n 0, 1) := by decide +kernel
theorem dJ3_checkFromToIndex_8c36e_23 : decode cJ3_checkFromToIndex_8c36e 23 = .ok (.ireturn, 1) := by decide +kernel
theorem dL_law_0 : decode cL_law 0 = .ok (.new 7, 3) := by decide +kernel
theorem dL_law_3 : decode cL_law 3 = .ok (.dup, 1) := by decide +kernel
theorem dL_law_4 : decode cL_law 4 = .ok (.invokespecial 9, 3) := by decide +kernel
theorem dL_law_7 : decode cL_law 7 = .ok (.astore_n 1, 1) := by decide +kernel
theorem dL_law_8 : decode cL_law 8 = .ok (.new 10, 3) := by decide +kernel
theorem dL_law_11 : decode cL_law 11 = .ok (.dup, 1) := by decide +kernel
theorem dL_law_12 : decode cL_law 12 = .ok (.invokespecial 12, 3) := by decide +kernel
theorem dL_law_15 : decode cL_law 15 = .ok (.astore_n 2, 1) := by decide +kernel
theorem dL_law_16 : decode cL_law 16 = .ok (.iconst 0, 1) := by decide +kernel
theorem dL_law_17 : decode cL_law 17 = .ok (.istore_n 3, 1) := by decide +kernel
theorem dL_law_18 : decode cL_law 18 = .ok (.iload_n 3, 1) := by decide +kernel
theorem dL_law_19 : decode cL_law 19 = .ok (.aload_n 0, 1) := by decide +kernel
theorem dL_law_20 : decode cL_law 20 = .ok (.arraylength, 1) := by decide +kernel
theorem dL_law_21 : decode cL_law 21 = .ok (.iconst 4, 1) := by decide +kernel
theorem dL_law_22 : decode cL_law 22 = .ok (.isub, 1) := by decide +kernel
theorem dL_law_23 : decode cL_law 23 = .ok (.if_icmp .gt 986, 3) := by decide +kernel
theorem dL_law_26 : decode cL_law 26 = .ok (.aload_n 0, 1) := by decide +kernel
theorem dL_law_27 : decode cL_law 27 = .ok (.iload_n 3, 1) := by decide +kernel
theorem dL_law_28 : decode cL_law 28 = .ok (.iaload, 1) := by decide +kernel
theorem dL_law_29 : decode cL_law 29 = .ok (.bipush 63, 2) := by decide +kernel
theorem dL_law_31 : decode cL_law 31 = .ok (.iand, 1) := by decide +kernel
theorem dL_law_32 : decode cL_law 32 = .ok (.tableswitch 971 0 32 #[148, 181, 224, 257, 290, 323, 356, 379, 392, 415, 438, 451, 484, 507, 530, 553, 576, 599, 622, 645, 668, 691, 704, 727, 740, 763, 812, 835, 848, 889, 932, 945, 958], 148) := by decide +kernel
theorem dL_law_180 : decode cL_law 180 = .ok (.aload_n 1, 1) := by decide +kernel
theorem dL_law_181 : decode cL_law 181 = .ok (.aload_n 0, 1) := by decide +kernel
theorem dL_law_182 : decode cL_law 182 = .ok (.iload_n 3, 1) := by decide +kernel
theorem dL_law_183 : decode cL_law 183 = .ok (.iconst 1, 1) := by decide +kernel
theorem dL_law_184 : decode cL_law 184 = .ok (.iadd, 1) := by decide +kernel
theorem dL_law_185 : decode cL_law 185 = .ok (.iaload, 1) := by decide +kernel
theorem dL_law_186 : decode cL_law 186 = .ok (.aload_n 0, 1) := by decide +kernel
theorem dL_law_187 : decode cL_law 187 = .ok (.iload_n 3, 1) := by decide +kernel
theorem dL_law_188 : decode cL_law 188 = .ok (.iconst 2, 1) := by decide +kernel
theorem dL_law_189 : decode cL_law 189 = .ok (.iadd, 1) := by decide +kernel
theorem dL_law_190 : decode cL_law 190 = .ok (.iaload, 1) := by decide +kernel
theorem dL_law_191 : decode cL_law 191 = .ok (.invokevirtual 13, 3) := by decide +kernel
theorem dL_law_194 : decode cL_law 194 = .ok (.aload_n 2, 1) := by decide +kernel
theorem dL_law_195 : decode cL_law 195 = .ok (.aload_n 0, 1) := by decide +kernel
theorem dL_law_196 : decode cL_law 196 = .ok (.iload_n 3, 1) := by decide +kernel
theorem dL_law_197 : decode cL_law 197 = .ok (.iconst 1, 1) := by decide +kernel
theorem dL_law_198 : decode cL_law 198 = .ok (.iadd, 1) := by decide +kernel
theorem dL_law_199 : decode cL_law 199 = .ok (.iaload, 1) := by decide +kernel
theorem dL_law_200 : decode cL_law 200 = .ok (.aload_n 0, 1) := by decide +kernel
theorem dL_law_201 : decode cL_law 201 = .ok (.iload_n 3, 1) := by decide +kernel
theorem dL_law_202 : decode cL_law 202 = .ok (.iconst 2, 1) := by decide +kernel
theorem dL_law_203 : decode cL_law 203 = .ok (.iadd, 1) := by decide +kernel
theorem dL_law_204 : decode cL_law 204 = .ok (.iaload, 1) := by decide +kernel
theorem dL_law_205 : decode cL_law 205 = .ok (.invokevirtual 17, 3) := by decide +kernel
theorem dL_law_208 : decode cL_law 208 = .ok (.if_icmp .eq 795, 3) := by decide +kernel
theorem dL_law_211 : decode cL_law 211 = .ok (.iconst 0, 1) := by decide +kernel
theorem dL_law_212 : decode cL_law 212 = .ok (.ireturn, 1) := by decide +kernel
theorem dL_law_213 : decode cL_law 213 = .ok (.aload_n 1, 1) := by decide +kernel
theorem dL_law_214 : decode cL_law 214 = .ok (.aload_n 0, 1) := by decide +kernel
theorem dL_law_215 : decode cL_law 215 = .ok (.iload_n 3, 1) := by decide +kernel
theorem dL_law_216 : decode cL_law 216 = .ok (.iconst 1, 1) := by decide +kernel
theorem dL_law_217 : decode cL_law 217 = .ok (.iadd, 1) := by decide +kernel
theorem dL_law_218 : decode cL_law 218 = .ok (.iaload, 1) := by decide +kernel
theorem dL_law_219 : decode cL_law 219 = .ok (.aload_n 0, 1) := by decide +kernel
theorem dL_law_220 : decode cL_law 220 = .ok (.iload_n 3, 1) := by decide +kernel
theorem dL_law_221 : decode cL_law 221 = .ok (.iconst 2, 1) := by decide +kernel
theorem dL_law_222 : decode cL_law 222 = .ok (.iadd, 1) := by decide +kernel
theorem dL_law_223 : decode cL_law 223 = .ok (.iaload, 1) := by decide +kernel
theorem dL_law_224 : decode cL_law 224 = .ok (.aload_n 0, 1) := by decide +kernel
theorem dL_law_225 : decode cL_law 225 = .ok (.iload_n 3, 1) := by decide +kernel
theorem dL_law_226 : decode cL_law 226 = .ok (.iconst 3, 1) := by decide +kernel
theorem dL_law_227 : decode cL_law 227 = .ok (.iadd, 1) := by decide +kernel
theorem dL_law_228 : decode cL_law 228 = .ok (.iaload, 1) := by decide +kernel
theorem dL_law_229 : decode cL_law 229 = .ok (.invokevirtual 18, 3) := by decide +kernel
theorem dL_law_232 : decode cL_law 232 = .ok (.aload_n 2, 1) := by decide +kernel
theorem dL_law_233 : decode cL_law 233 = .ok (.aload_n 0, 1) := by decide +kernel
theorem dL_law_234 : decode cL_law 234 = .ok (.iload_n 3, 1) := by decide +kernel
theorem dL_law_235 : decode cL_law 235 = .ok (.iconst 1, 1) := by decide +kernel
theorem dL_law_236 : decode cL_law 236 = .ok (.iadd, 1) := by decide +kernel
theorem dL_law_237 : decode cL_law 237 = .ok (.iaload, 1) := by decide +kernel
theorem dL_law_238 : decode cL_law 238 = .ok (.aload_n 0, 1) := by decide +kernel
theorem dL_law_239 : decode cL_law 239 = .ok (.iload_n 3, 1) := by decide +kernel
theorem dL_law_240 : decode cL_law 240 = .ok (.iconst 2, 1) := by decide +kernel
theorem dL_law_241 : decode cL_law 241 = .ok (.iadd, 1) := by decide +kernel
theorem dL_law_242 : decode cL_law 242 = .ok (.iaload, 1) := by decide +kernel
theorem dL_law_243 : decode cL_law 243 = .ok (.aload_n 0, 1) := by decide +kernel
theorem dL_law_244 : decode cL_law 244 = .ok (.iload_n 3, 1) := by decide +kernel
theorem dL_law_245 : decode cL_law 245 = .ok (.iconst 3, 1) := by decide +kernel
theorem dL_law_246 : decode cL_law 246 = .ok (.iadd, 1) := by decide +kernel
theorem dL_law_247 : decode cL_law 247 = .ok (.iaload, 1) := by decide +kernel
theorem dL_law_248 : decode cL_law 248 = .ok (.invokevirtual 22, 3) := by decide +kernel
theorem dL_law_251 : decode cL_law 251 = .ok (.if_icmp .eq 752, 3) := by decide +kernel
theorem dL_law_254 : decode cL_law 254 = .ok (.iconst 0, 1) := by decide +kernel
theorem dL_law_255 : decode cL_law 255 = .ok (.ireturn, 1) := by decide +kernel
theorem dL_law_256 : decode cL_law 256 = .ok (.aload_n 1, 1) := by decide +kernel
theorem dL_law_257 : decode cL_law 257 = .ok (.aload_n 0, 1) := by decide +kernel
theorem dL_law_258 : decode cL_law 258 = .ok (.iload_n 3, 1) := by decide +kernel
theorem dL_law_259 : decode cL_law 259 = .ok (.iconst 1, 1) := by decide +kernel
theorem dL_law_260 : decode cL_law 260 = .ok (.iadd, 1) := by decide +kernel
theorem dL_law_261 : decode cL_law 261 = .ok (.iaload, 1) := by decide +kernel
theorem dL_law_262 : decode cL_law 262 = .ok (.aload_n 0, 1) := by decide +kernel
theorem dL_law_263 : decode cL_law 263 = .ok (.iload_n 3, 1) := by decide +kernel
theorem dL_law_264 : decode cL_law 264 = .ok (.iconst 2, 1) := by decide +kernel
theorem dL_law_265 : decode cL_law 265 = .ok (.iadd, 1) := by decide +kernel
theorem dL_law_266 : decode cL_law 266 = .ok (.iaload, 1) := by decide +kernel
theorem dL_law_267 : decode cL_law 267 = .ok (.invokevirtual 23, 3) := by decide +kernel
theorem dL_law_270 : decode cL_law 270 = .ok (.aload_n 2, 1) := by decide +kernel
theorem dL_law_271 : decode cL_law 271 = .ok (.aload_n 0, 1) := by decide +kernel
theorem dL_law_272 : decode cL_law 272 = .ok (.iload_n 3, 1) := by decide +kernel
theorem dL_law_273 : decode cL_law 273 = .ok (.iconst 1, 1) := by decide +kernel
theorem dL_law_274 : decode cL_law 274 = .ok (.iadd, 1) := by decide +kernel
theorem dL_law_275 : decode cL_law 275 = .ok (.iaload, 1) := by decide +kernel
theorem dL_law_276 : decode cL_law 276 = .ok (.aload_n 0, 1) := by decide +kernel
theorem dL_law_277 : decode cL_law 277 = .ok (.iload_n 3, 1) := by decide +kernel
theorem dL_law_278 : decode cL_law 278 = .ok (.iconst 2, 1) := by decide +kernel
theorem dL_law_279 : decode cL_law 279 = .ok (.iadd, 1) := by decide +kernel
theorem dL_law_280 : decode cL_law 280 = .ok (.iaload, 1) := by decide +kernel
theorem dL_law_281 : decode cL_law 281 = .ok (.invokevirtual 26, 3) := by decide +kernel
theorem dL_law_284 : decode cL_law 284 = .ok (.if_icmp .eq 719, 3) := by decide +kernel
theorem dL_law_287 : decode cL_law 287 = .ok (.iconst 0, 1) := by decide +kernel
theorem dL_law_288 : decode cL_law 288 = .ok (.ireturn, 1) := by decide +kernel
theorem dL_law_289 : decode cL_law 289 = .ok (.aload_n 1, 1) := by decide +kernel
theorem dL_law_290 : decode cL_law 290 = .ok (.aload_n 0, 1) := by decide +kernel
theorem dL_law_291 : decode cL_law 291 = .ok (.iload_n 3, 1) := by decide +kernel
theorem dL_law_292 : decode cL_law 292 = .ok (.iconst 1, 1) := by decide +kernel
theorem dL_law_293 : decode cL_law 293 = .ok (.iadd, 1) := by decide +kernel
theorem dL_law_294 : decode cL_law 294 = .ok (.iaload, 1) := by decide +kernel
theorem dL_law_295 : decode cL_law 295 = .ok (.aload_n 0, 1) := by decide +kernel
theorem dL_law_296 : decode cL_law 296 = .ok (.iload_n 3, 1) := by decide +kernel
theorem dL_law_297 : decode cL_law 297 = .ok (.iconst 2, 1) := by decide +kernel
theorem dL_law_298 : decode cL_law 298 = .ok (.iadd, 1) := by decide +kernel
theorem dL_law_299 : decode cL_law 299 = .ok (.iaload, 1) := by decide +kernel
theorem dL_law_300 : decode cL_law 300 = .ok (.invokevirtual 27, 3) := by decide +kernel
theorem dL_law_303 : decode cL_law 303 = .ok (.aload_n 2, 1) := by decide +kernel
theorem dL_law_304 : decode cL_law 304 = .ok (.aload_n 0, 1) := by decide +kernel
theorem dL_law_305 : decode cL_law 305 = .ok (.iload_n 3, 1) := by decide +kernel
theorem dL_law_306 : decode cL_law 306 = .ok (.iconst 1, 1) := by decide +kernel
theorem dL_law_307 : decode cL_law 307 = .ok (.iadd, 1) := by decide +kernel
theorem dL_law_308 : decode cL_law 308 = .ok (.iaload, 1) := by decide +kernel
theorem dL_law_309 : decode cL_law 309 = .ok (.aload_n 0, 1) := by decide +kernel
theorem dL_law_310 : decode cL_law 310 = .ok (.iload_n 3, 1) := by decide +kernel
theorem dL_law_311 : decode cL_law 311 = .ok (.iconst 2, 1) := by decide +kernel
theorem dL_law_312 : decode cL_law 312 = .ok (.iadd, 1) := by decide +kernel
theorem dL_law_313 : decode cL_law 313 = .ok (.iaload, 1) := by decide +kernel
theorem dL_law_314 : decode cL_law 314 = .ok (.invokevirtual 30, 3) := by decide +kernel
theorem dL_law_317 : decode cL_law 317 = .ok (.if_icmp .eq 686, 3) := by decide +kernel
theorem dL_law_320 : decode cL_law 320 = .ok (.iconst 0, 1) := by decide +kernel
theorem dL_law_321 : decode cL_law 321 = .ok (.ireturn, 1) := by decide +kernel
theorem dL_law_322 : decode cL_law 322 = .ok (.aload_n 1, 1) := by decide +kernel
theorem dL_law_323 : decode cL_law 323 = .ok (.aload_n 0, 1) := by decide +kernel
theorem dL_law_324 : decode cL_law 324 = .ok (.iload_n 3, 1) := by decide +kernel
theorem dL_law_325 : decode cL_law 325 = .ok (.iconst 1, 1) := by decide +kernel
theorem dL_law_326 : decode cL_law 326 = .ok (.iadd, 1) := by decide +kernel
theorem dL_law_327 : decode cL_law 327 = .ok (.iaload, 1) := by decide +kernel
theorem dL_law_328 : decode cL_law 328 = .ok (.aload_n 0, 1) := by decide +kernel
theorem dL_law_329 : decode cL_law 329 = .ok (.iload_n 3, 1) := by decide +kernel
theorem dL_law_330 : decode cL_law 330 = .ok (.iconst 2, 1) := by decide +kernel
theorem dL_law_331 : decode cL_law 331 = .ok (.iadd, 1) := by decide +kernel
theorem dL_law_332 : decode cL_law 332 = .ok (.iaload, 1) := by decide +kernel
theorem dL_law_333 : decode cL_law 333 = .ok (.invokevirtual 31, 3) := by decide +kernel
theorem dL_law_336 : decode cL_law 336 = .ok (.aload_n 2, 1) := by decide +kernel
theorem dL_law_337 : decode cL_law 337 = .ok (.aload_n 0, 1) := by decide +kernel
theorem dL_law_338 : decode cL_law 338 = .ok (.iload_n 3, 1) := by decide +kernel
theorem dL_law_339 : decode cL_law 339 = .ok (.iconst 1, 1) := by decide +kernel
theorem dL_law_340 : decode cL_law 340 = .ok (.iadd, 1) := by decide +kernel
theorem dL_law_341 : decode cL_law 341 = .ok (.iaload, 1) := by decide +kernel
theorem dL_law_342 : decode cL_law 342 = .ok (.aload_n 0, 1) := by decide +kernel
theorem dL_law_343 : decode cL_law 343 = .ok (.iload_n 3, 1) := by decide +kernel
theorem dL_law_344 : decode cL_law 344 = .ok (.iconst 2, 1) := by decide +kernel
theorem dL_law_345 : decode cL_law 345 = .ok (.iadd, 1) := by decide +kernel
theorem dL_law_346 : decode cL_law 346 = .ok (.iaload, 1) := by decide +kernel
theorem dL_law_347 : decode cL_law 347 = .ok (.invokevirtual 34, 3) := by decide +kernel
theorem dL_law_350 : decode cL_law 350 = .ok (.if_icmp .eq 653, 3) := by decide +kernel
theorem dL_law_353 : decode cL_law 353 = .ok (.iconst 0, 1) := by decide +kernel
theorem dL_law_354 : decode cL_law 354 = .ok (.ireturn, 1) := by decide +kernel
theorem dL_law_355 : decode cL_law 355 = .ok (.aload_n 1, 1) := by decide +kernel
theorem dL_law_356 : decode cL_law 356 = .ok (.aload_n 0, 1) := by decide +kernel
theorem dL_law_357 : decode cL_law 357 = .ok (.iload_n 3, 1) := by decide +kernel
theorem dL_law_358 : decode cL_law 358 = .ok (.iconst 1, 1) := by decide +kernel
theorem dL_law_359 : decode cL_law 359 = .ok (.iadd, 1) := by decide +kernel
theorem dL_law_360 : decode cL_law 360 = .ok (.iaload, 1) := by decide +kernel
theorem dL_law_361 : decode cL_law 361 = .ok (.aload_n 0, 1) := by decide +kernel
theorem dL_law_362 : decode cL_law 362 = .ok (.iload_n 3, 1) := by decide +kernel
theorem dL_law_363 : decode cL_law 363 = .ok (.iconst 2, 1) := by decide +kernel
theorem dL_law_364 : decode cL_law 364 = .ok (.iadd, 1) := by decide +kernel
theorem dL_law_365 : decode cL_law 365 = .ok (.iaload, 1) := by decide +kernel
theorem dL_law_366 : decode cL_law 366 = .ok (.invokevirtual 35, 3) := by decide +kernel
theorem dL_law_369 : decode cL_law 369 = .ok (.aload_n 2, 1) := by decide +kernel
theorem dL_law_370 : decode cL_law 370 = .ok (.aload_n 0, 1) := by decide +kernel
theorem dL_law_371 : decode cL_law 371 = .ok (.iload_n 3, 1) := by decide +kernel
theorem dL_law_372 : decode cL_law 372 = .ok (.iconst 1, 1) := by decide +kernel
theorem dL_law_373 : decode cL_law 373 = .ok (.iadd, 1) := by decide +kernel
theorem dL_law_374 : decode cL_law 374 = .ok (.iaload, 1) := by decide +kernel
theorem dL_law_375 : decode cL_law 375 = .ok (.aload_n 0, 1) := by decide +kernel
theorem dL_law_376 : decode cL_law 376 = .ok (.iload_n 3, 1) := by decide +kernel
theorem dL_law_377 : decode cL_law 377 = .ok (.iconst 2, 1) := by decide +kernel
theorem dL_law_378 : decode cL_law 378 = .ok (.iadd, 1) := by decide +kernel
theorem dL_law_379 : decode cL_law 379 = .ok (.iaload, 1) := by decide +kernel
theorem dL_law_380 : decode cL_law 380 = .ok (.invokevirtual 38, 3) := by decide +kernel
theorem dL_law_383 : decode cL_law 383 = .ok (.if_icmp .eq 620, 3) := by decide +kernel
theorem dL_law_386 : decode cL_law 386 = .ok (.iconst 0, 1) := by decide +kernel
theorem dL_law_387 : decode cL_law 387 = .ok (.ireturn, 1) := by decide +kernel
theorem dL_law_388 : decode cL_law 388 = .ok (.aload_n 1, 1) := by decide +kernel
theorem dL_law_389 : decode cL_law 389 = .ok (.aload_n 0, 1) := by decide +kernel
theorem dL_law_390 : decode cL_law 390 = .ok (.iload_n 3, 1) := by decide +kernel
theorem dL_law_391 : decode cL_law 391 = .ok (.iconst 1, 1) := by decide +kernel
theorem dL_law_392 : decode cL_law 392 = .ok (.iadd, 1) := by decide +kernel
theorem dL_law_393 : decode cL_law 393 = .ok (.iaload, 1) := by decide +kernel
theorem dL_law_394 : decode cL_law 394 = .ok (.invokevirtual 39, 3) := by decide +kernel
theorem dL_law_397 : decode cL_law 397 = .ok (.aload_n 2, 1) := by decide +kernel
theorem dL_law_398 : decode cL_law 398 = .ok (.aload_n 0, 1) := by decide +kernel
theorem dL_law_399 : decode cL_law 399 = .ok (.iload_n 3, 1) := by decide +kernel
theorem dL_law_400 : decode cL_law 400 = .ok (.iconst 1, 1) := by decide +kernel
theorem dL_law_401 : decode cL_law 401 = .ok (.iadd, 1) := by decide +kernel
theorem dL_law_402 : decode cL_law 402 = .ok (.iaload, 1) := by decide +kernel
theorem dL_law_403 : decode cL_law 403 = .ok (.invokevirtual 43, 3) := by decide +kernel
theorem dL_law_406 : decode cL_law 406 = .ok (.if_icmp .eq 597, 3) := by decide +kernel
theorem dL_law_409 : decode cL_law 409 = .ok (.iconst 0, 1) := by decide +kernel
theorem dL_law_410 : decode cL_law 410 = .ok (.ireturn, 1) := by decide +kernel
theorem dL_law_411 : decode cL_law 411 = .ok (.aload_n 1, 1) := by decide +kernel
theorem dL_law_412 : decode cL_law 412 = .ok (.invokevirtual 44, 3) := by decide +kernel
theorem dL_law_415 : decode cL_law 415 = .ok (.aload_n 2, 1) := by decide +kernel
theorem dL_law_416 : decode cL_law 416 = .ok (.invokevirtual 48, 3) := by decide +kernel
theorem dL_law_419 : decode cL_law 419 = .ok (.if_icmp .eq 584, 3) := by decide +kernel
theorem dL_law_422 : decode cL_law 422 = .ok (.iconst 0, 1) := by decide +kernel
theorem dL_law_423 : decode cL_law 423 = .ok (.ireturn, 1) := by decide +kernel
theorem dL_law_424 : decode cL_law 424 = .ok (.aload_n 1, 1) := by decide +kernel
theorem dL_law_425 : decode cL_law 425 = .ok (.aload_n 0, 1) := by decide +kernel
theorem dL_law_426 : decode cL_law 426 = .ok (.iload_n 3, 1) := by decide +kernel
theorem dL_law_427 : decode cL_law 427 = .ok (.iconst 1, 1) := by decide +kernel
theorem dL_law_428 : decode cL_law 428 = .ok (.iadd, 1) := by decide +kernel
theorem dL_law_429 : decode cL_law 429 = .ok (.iaload, 1) := by decide +kernel
theorem dL_law_430 : decode cL_law 430 = .ok (.invokevirtual 49, 3) := by decide +kernel
theorem dL_law_433 : decode cL_law 433 = .ok (.aload_n 2, 1) := by decide +kernel
theorem dL_law_434 : decode cL_law 434 = .ok (.aload_n 0, 1) := by decide +kernel
theorem dL_law_435 : decode cL_law 435 = .ok (.iload_n 3, 1) := by decide +kernel
theorem dL_law_436 : decode cL_law 436 = .ok (.iconst 1, 1) := by decide +kernel
theorem dL_law_437 : decode cL_law 437 = .ok (.iadd, 1) := by decide +kernel
theorem dL_law_438 : decode cL_law 438 = .ok (.iaload, 1) := by decide +kernel
theorem dL_law_439 : decode cL_law 439 = .ok (.invokevirtual 52, 3) := by decide +kernel
theorem dL_law_442 : decode cL_law 442 = .ok (.if_icmp .eq 561, 3) := by decide +kernel
theorem dL_law_445 : decode cL_law 445 = .ok (.iconst 0, 1) := by decide +kernel
theorem dL_law_446 : decode cL_law 446 = .ok (.ireturn, 1) := by decide +kernel
theorem dL_law_447 : decode cL_law 447 = .ok (.aload_n 1, 1) := by decide +kernel
theorem dL_law_448 : decode cL_law 448 = .ok (.aload_n 0, 1) := by decide +kernel
theorem dL_law_449 : decode cL_law 449 = .ok (.iload_n 3, 1) := by decide +kernel
theorem dL_law_450 : decode cL_law 450 = .ok (.iconst 1, 1) := by decide +kernel
theorem dL_law_451 : decode cL_law 451 = .ok (.iadd, 1) := by decide +kernel
theorem dL_law_452 : decode cL_law 452 = .ok (.iaload, 1) := by decide +kernel
theorem dL_law_453 : decode cL_law 453 = .ok (.invokevirtual 53, 3) := by decide +kernel
theorem dL_law_456 : decode cL_law 456 = .ok (.aload_n 2, 1) := by decide +kernel
theorem dL_law_457 : decode cL_law 457 = .ok (.aload_n 0, 1) := by decide +kernel
theorem dL_law_458 : decode cL_law 458 = .ok (.iload_n 3, 1) := by decide +kernel
theorem dL_law_459 : decode cL_law 459 = .ok (.iconst 1, 1) := by decide +kernel
theorem dL_law_460 : decode cL_law 460 = .ok (.iadd, 1) := by decide +kernel
theorem dL_law_461 : decode cL_law 461 = .ok (.iaload, 1) := by decide +kernel
theorem dL_law_462 : decode cL_law 462 = .ok (.invokevirtual 56, 3) := by decide +kernel
theorem dL_law_465 : decode cL_law 465 = .ok (.if_icmp .eq 538, 3) := by decide +kernel
theorem dL_law_468 : decode cL_law 468 = .ok (.iconst 0, 1) := by decide +kernel
theorem dL_law_469 : decode cL_law 469 = .ok (.ireturn, 1) := by decide +kernel
theorem dL_law_470 : decode cL_law 470 = .ok (.aload_n 1, 1) := by decide +kernel
theorem dL_law_471 : decode cL_law 471 = .ok (.invokevirtual 57, 3) := by decide +kernel
theorem dL_law_474 : decode cL_law 474 = .ok (.aload_n 2, 1) := by decide +kernel
theorem dL_law_475 : decode cL_law 475 = .ok (.invokevirtual 60, 3) := by decide +kernel
theorem dL_law_478 : decode cL_law 478 = .ok (.if_icmp .eq 525, 3) := by decide +kernel
theorem dL_law_481 : decode cL_law 481 = .ok (.iconst 0, 1) := by decide +kernel
theorem dL_law_482 : decode cL_law 482 = .ok (.ireturn, 1) := by decide +kernel
theorem dL_law_483 : decode cL_law 483 = .ok (.aload_n 1, 1) := by decide +kernel
theorem dL_law_484 : decode cL_law 484 = .ok (.aload_n 0, 1) := by decide +kernel
theorem dL_law_485 : decode cL_law 485 = .ok (.iload_n 3, 1) := by decide +kernel
theorem dL_law_486 : decode cL_law 486 = .ok (.iconst 1, 1) := by decide +kernel
theorem dL_law_487 : decode cL_law 487 = .ok (.iadd, 1) := by decide +kernel
theorem dL_law_488 : decode cL_law 488 = .ok (.iaload, 1) := by decide +kernel
theorem dL_law_489 : decode cL_law 489 = .ok (.aload_n 0, 1) := by decide +kernel
theorem dL_law_490 : decode cL_law 490 = .ok (.iload_n 3, 1) := by decide +kernel
theorem dL_law_491 : decode cL_law 491 = .ok (.iconst 2, 1) := by decide +kernel
theorem dL_law_492 : decode cL_law 492 = .ok (.iadd, 1) := by decide +kernel
theorem dL_law_493 : decode cL_law 493 = .ok (.iaload, 1) := by decide +kernel
theorem dL_law_494 : decode cL_law 494 = .ok (.invokevirtual 61, 3) := by decide +kernel
theorem dL_law_497 : decode cL_law 497 = .ok (.aload_n 2, 1) := by decide +kernel
theorem dL_law_498 : decode cL_law 498 = .ok (.aload_n 0, 1) := by decide +kernel
theorem dL_law_499 : decode cL_law 499 = .ok (.iload_n 3, 1) := by decide +kernel
theorem dL_law_500 : decode cL_law 500 = .ok (.iconst 1, 1) := by decide +kernel
theorem dL_law_501 : decode cL_law 501 = .ok (.iadd, 1) := by decide +kernel
theorem dL_law_502 : decode cL_law 502 = .ok (.iaload, 1) := by decide +kernel
theorem dL_law_503 : decode cL_law 503 = .ok (.aload_n 0, 1) := by decide +kernel
theorem dL_law_504 : decode cL_law 504 = .ok (.iload_n 3, 1) := by decide +kernel
theorem dL_law_505 : decode cL_law 505 = .ok (.iconst 2, 1) := by decide +kernel
theorem dL_law_506 : decode cL_law 506 = .ok (.iadd, 1) := by decide +kernel
theorem dL_law_507 : decode cL_law 507 = .ok (.iaload, 1) := by decide +kernel
theorem dL_law_508 : decode cL_law 508 = .ok (.invokevirtual 64, 3) := by decide +kernel
theorem dL_law_511 : decode cL_law 511 = .ok (.if_icmp .eq 492, 3) := by decide +kernel
theorem dL_law_514 : decode cL_law 514 = .ok (.iconst 0, 1) := by decide +kernel
theorem dL_law_515 : decode cL_law 515 = .ok (.ireturn, 1) := by decide +kernel
theorem dL_law_516 : decode cL_law 516 = .ok (.aload_n 1, 1) := by decide +kernel
theorem dL_law_517 : decode cL_law 517 = .ok (.aload_n 0, 1) := by decide +kernel
theorem dL_law_518 : decode cL_law 518 = .ok (.iload_n 3, 1) := by decide +kernel
theorem dL_law_519 : decode cL_law 519 = .ok (.iconst 1, 1) := by decide +kernel
theorem dL_law_520 : decode cL_law 520 = .ok (.iadd, 1) := by decide +kernel
theorem dL_law_521 : decode cL_law 521 = .ok (.iaload, 1) := by decide +kernel
theorem dL_law_522 : decode cL_law 522 = .ok (.invokevirtual 65, 3) := by decide +kernel
theorem dL_law_525 : decode cL_law 525 = .ok (.aload_n 2, 1) := by decide +kernel
theorem dL_law_526 : decode cL_law 526 = .ok (.aload_n 0, 1) := by decide +kernel
theorem dL_law_527 : decode cL_law 527 = .ok (.iload_n 3, 1) := by decide +kernel
theorem dL_law_528 : decode cL_law 528 = .ok (.iconst 1, 1) := by decide +kernel
theorem dL_law_529 : decode cL_law 529 = .ok (.iadd, 1) := by decide +kernel
theorem dL_law_530 : decode cL_law 530 = .ok (.iaload, 1) := by decide +kernel
theorem dL_law_531 : decode cL_law 531 = .ok (.invokevirtual 68, 3) := by decide +kernel
theorem dL_law_534 : decode cL_law 534 = .ok (.if_icmp .eq 469, 3) := by decide +kernel
theorem dL_law_537 : decode cL_law 537 = .ok (.iconst 0, 1) := by decide +kernel
theorem dL_law_538 : decode cL_law 538 = .ok (.ireturn, 1) := by decide +kernel
theorem dL_law_539 : decode cL_law 539 = .ok (.aload_n 1, 1) := by decide +kernel
theorem dL_law_540 : decode cL_law 540 = .ok (.aload_n 0, 1) := by decide +kernel
theorem dL_law_541 : decode cL_law 541 = .ok (.iload_n 3, 1) := by decide +kernel
theorem dL_law_542 : decode cL_law 542 = .ok (.iconst 1, 1) := by decide +kernel
theorem dL_law_543 : decode cL_law 543 = .ok (.iadd, 1) := by decide +kernel
theorem dL_law_544 : decode cL_law 544 = .ok (.iaload, 1) := by decide +kernel
theorem dL_law_545 : decode cL_law 545 = .ok (.invokevirtual 69, 3) := by decide +kernel
theorem dL_law_548 : decode cL_law 548 = .ok (.aload_n 2, 1) := by decide +kernel
theorem dL_law_549 : decode cL_law 549 = .ok (.aload_n 0, 1) := by decide +kernel
theorem dL_law_550 : decode cL_law 550 = .ok (.iload_n 3, 1) := by decide +kernel
theorem dL_law_551 : decode cL_law 551 = .ok (.iconst 1, 1) := by decide +kernel
theorem dL_law_552 : decode cL_law 552 = .ok (.iadd, 1) := by decide +kernel
theorem dL_law_553 : decode cL_law 553 = .ok (.iaload, 1) := by decide +kernel
theorem dL_law_554 : decode cL_law 554 = .ok (.invokevirtual 72, 3) := by decide +kernel
theorem dL_law_557 : decode cL_law 557 = .ok (.if_icmp .eq 446, 3) := by decide +kernel
theorem dL_law_560 : decode cL_law 560 = .ok (.iconst 0, 1) := by decide +kernel
theorem dL_law_561 : decode cL_law 561 = .ok (.ireturn, 1) := by decide +kernel
theorem dL_law_562 : decode cL_law 562 = .ok (.aload_n 1, 1) := by decide +kernel
theorem dL_law_563 : decode cL_law 563 = .ok (.aload_n 0, 1) := by decide +kernel
theorem dL_law_564 : decode cL_law 564 = .ok (.iload_n 3, 1) := by decide +kernel
theorem dL_law_565 : decode cL_law 565 = .ok (.iconst 1, 1) := by decide +kernel
theorem dL_law_566 : decode cL_law 566 = .ok (.iadd, 1) := by decide +kernel
theorem dL_law_567 : decode cL_law 567 = .ok (.iaload, 1) := by decide +kernel
theorem dL_law_568 : decode cL_law 568 = .ok (.invokevirtual 73, 3) := by decide +kernel
theorem dL_law_571 : decode cL_law 571 = .ok (.aload_n 2, 1) := by decide +kernel
theorem dL_law_572 : decode cL_law 572 = .ok (.aload_n 0, 1) := by decide +kernel
theorem dL_law_573 : decode cL_law 573 = .ok (.iload_n 3, 1) := by decide +kernel
theorem dL_law_574 : decode cL_law 574 = .ok (.iconst 1, 1) := by decide +kernel
theorem dL_law_575 : decode cL_law 575 = .ok (.iadd, 1) := by decide +kernel
theorem dL_law_576 : decode cL_law 576 = .ok (.iaload, 1) := by decide +kernel
theorem dL_law_577 : decode cL_law 577 = .ok (.invokevirtual 76, 3) := by decide +kernel
theorem dL_law_580 : decode cL_law 580 = .ok (.if_icmp .eq 423, 3) := by decide +kernel
theorem dL_law_583 : decode cL_law 583 = .ok (.iconst 0, 1) := by decide +kernel
theorem dL_law_584 : decode cL_law 584 = .ok (.ireturn, 1) := by decide +kernel
theorem dL_law_585 : decode cL_law 585 = .ok (.aload_n 1, 1) := by decide +kernel
theorem dL_law_586 : decode cL_law 586 = .ok (.aload_n 0, 1) := by decide +kernel
theorem dL_law_587 : decode cL_law 587 = .ok (.iload_n 3, 1) := by decide +kernel
theorem dL_law_588 : decode cL_law 588 = .ok (.iconst 1, 1) := by decide +kernel
theorem dL_law_589 : decode cL_law 589 = .ok (.iadd, 1) := by decide +kernel
theorem dL_law_590 : decode cL_law 590 = .ok (.iaload, 1) := by decide +kernel
theorem dL_law_591 : decode cL_law 591 = .ok (.invokevirtual 77, 3) := by decide +kernel
theorem dL_law_594 : decode cL_law 594 = .ok (.aload_n 2, 1) := by decide +kernel
theorem dL_law_595 : decode cL_law 595 = .ok (.aload_n 0, 1) := by decide +kernel
theorem dL_law_596 : decode cL_law 596 = .ok (.iload_n 3, 1) := by decide +kernel
theorem dL_law_597 : decode cL_law 597 = .ok (.iconst 1, 1) := by decide +kernel
theorem dL_law_598 : decode cL_law 598 = .ok (.iadd, 1) := by decide +kernel
theorem dL_law_599 : decode cL_law 599 = .ok (.iaload, 1) := by decide +kernel
theorem dL_law_600 : decode cL_law 600 = .ok (.invokevirtual 80, 3) := by decide +kernel
theorem dL_law_603 : decode cL_law 603 = .ok (.if_icmp .eq 400, 3) := by decide +kernel
theorem dL_law_606 : decode cL_law 606 = .ok (.iconst 0, 1) := by decide +kernel
theorem dL_law_607 : decode cL_law 607 = .ok (.ireturn, 1) := by decide +kernel
theorem dL_law_608 : decode cL_law 608 = .ok (.aload_n 1, 1) := by decide +kernel
theorem dL_law_609 : decode cL_law 609 = .ok (.aload_n 0, 1) := by decide +kernel
theorem dL_law_610 : decode cL_law 610 = .ok (.iload_n 3, 1) := by decide +kernel
theorem dL_law_611 : decode cL_law 611 = .ok (.iconst 1, 1) := by decide +kernel
theorem dL_law_612 : decode cL_law 612 = .ok (.iadd, 1) := by decide +kernel
theorem dL_law_613 : decode cL_law 613 = .ok (.iaload, 1) := by decide +kernel
theorem dL_law_614 : decode cL_law 614 = .ok (.invokevirtual 81, 3) := by decide +kernel
theorem dL_law_617 : decode cL_law 617 = .ok (.aload_n 2, 1) := by decide +kernel
theorem dL_law_618 : decode cL_law 618 = .ok (.aload_n 0, 1) := by decide +kernel
theorem dL_law_619 : decode cL_law 619 = .ok (.iload_n 3, 1) := by decide +kernel
theorem dL_law_620 : decode cL_law 620 = .ok (.iconst 1, 1) := by decide +kernel
theorem dL_law_621 : decode cL_law 621 = .ok (.iadd, 1) := by decide +kernel
theorem dL_law_622 : decode cL_law 622 = .ok (.iaload, 1) := by decide +kernel
theorem dL_law_623 : decode cL_law 623 = .ok (.invokevirtual 84, 3) := by decide +kernel
theorem dL_law_626 : decode cL_law 626 = .ok (.if_icmp .eq 377, 3) := by decide +kernel
theorem dL_law_629 : decode cL_law 629 = .ok (.iconst 0, 1) := by decide +kernel
theorem dL_law_630 : decode cL_law 630 = .ok (.ireturn, 1) := by decide +kernel
theorem dL_law_631 : decode cL_law 631 = .ok (.aload_n 1, 1) := by decide +kernel
theorem dL_law_632 : decode cL_law 632 = .ok (.aload_n 0, 1) := by decide +kernel
theorem dL_law_633 : decode cL_law 633 = .ok (.iload_n 3, 1) := by decide +kernel
theorem dL_law_634 : decode cL_law 634 = .ok (.iconst 1, 1) := by decide +kernel
theorem dL_law_635 : decode cL_law 635 = .ok (.iadd, 1) := by decide +kernel
theorem dL_law_636 : decode cL_law 636 = .ok (.iaload, 1) := by decide +kernel
theorem dL_law_637 : decode cL_law 637 = .ok (.invokevirtual 85, 3) := by decide +kernel
theorem dL_law_640 : decode cL_law 640 = .ok (.aload_n 2, 1) := by decide +kernel
theorem dL_law_641 : decode cL_law 641 = .ok (.aload_n 0, 1) := by decide +kernel
theorem dL_law_642 : decode cL_law 642 = .ok (.iload_n 3, 1) := by decide +kernel
theorem dL_law_643 : decode cL_law 643 = .ok (.iconst 1, 1) := by decide +kernel
theorem dL_law_644 : decode cL_law 644 = .ok (.iadd, 1) := by decide +kernel
theorem dL_law_645 : decode cL_law 645 = .ok (.iaload, 1) := by decide +kernel
theorem dL_law_646 : decode cL_law 646 = .ok (.invokevirtual 88, 3) := by decide +kernel
theorem dL_law_649 : decode cL_law 649 = .ok (.if_icmp .eq 354, 3) := by decide +kernel
theorem dL_law_652 : decode cL_law 652 = .ok (.iconst 0, 1) := by decide +kernel
theorem dL_law_653 : decode cL_law 653 = .ok (.ireturn, 1) := by decide +kernel
theorem dL_law_654 : decode cL_law 654 = .ok (.aload_n 1, 1) := by decide +kernel
theorem dL_law_655 : decode cL_law 655 = .ok (.aload_n 0, 1) := by decide +kernel
theorem dL_law_656 : decode cL_law 656 = .ok (.iload_n 3, 1) := by decide +kernel
theorem dL_law_657 : decode cL_law 657 = .ok (.iconst 1, 1) := by decide +kernel
theorem dL_law_658 : decode cL_law 658 = .ok (.iadd, 1) := by decide +kernel
theorem dL_law_659 : decode cL_law 659 = .ok (.iaload, 1) := by decide +kernel
theorem dL_law_660 : decode cL_law 660 = .ok (.invokevirtual 89, 3) := by decide +kernel
theorem dL_law_663 : decode cL_law 663 = .ok (.aload_n 2, 1) := by decide +kernel
theorem dL_law_664 : decode cL_law 664 = .ok (.aload_n 0, 1) := by decide +kernel
theorem dL_law_665 : decode cL_law 665 = .ok (.iload_n 3, 1) := by decide +kernel
theorem dL_law_666 : decode cL_law 666 = .ok (.iconst 1, 1) := by decide +kernel
theorem dL_law_667 : decode cL_law 667 = .ok (.iadd, 1) := by decide +kernel
theorem dL_law_668 : decode cL_law 668 = .ok (.iaload, 1) := by decide +kernel
theorem dL_law_669 : decode cL_law 669 = .ok (.invokevirtual 92, 3) := by decide +kernel
theorem dL_law_672 : decode cL_law 672 = .ok (.if_icmp .eq 331, 3) := by decide +kernel
theorem dL_law_675 : decode cL_law 675 = .ok (.iconst 0, 1) := by decide +kernel
theorem dL_law_676 : decode cL_law 676 = .ok (.ireturn, 1) := by decide +kernel
theorem dL_law_677 : decode cL_law 677 = .ok (.aload_n 1, 1) := by decide +kernel
theorem dL_law_678 : decode cL_law 678 = .ok (.aload_n 0, 1) := by decide +kernel
theorem dL_law_679 : decode cL_law 679 = .ok (.iload_n 3, 1) := by decide +kernel
theorem dL_law_680 : decode cL_law 680 = .ok (.iconst 1, 1) := by decide +kernel
theorem dL_law_681 : decode cL_law 681 = .ok (.iadd, 1) := by decide +kernel
theorem dL_law_682 : decode cL_law 682 = .ok (.iaload, 1) := by decide +kernel
theorem dL_law_683 : decode cL_law 683 = .ok (.invokevirtual 93, 3) := by decide +kernel
theorem dL_law_686 : decode cL_law 686 = .ok (.aload_n 2, 1) := by decide +kernel
theorem dL_law_687 : decode cL_law 687 = .ok (.aload_n 0, 1) := by decide +kernel
theorem dL_law_688 : decode cL_law 688 = .ok (.iload_n 3, 1) := by decide +kernel
theorem dL_law_689 : decode cL_law 689 = .ok (.iconst 1, 1) := by decide +kernel
theorem dL_law_690 : decode cL_law 690 = .ok (.iadd, 1) := by decide +kernel
theorem dL_law_691 : decode cL_law 691 = .ok (.iaload, 1) := by decide +kernel
theorem dL_law_692 : decode cL_law 692 = .ok (.invokevirtual 96, 3) := by decide +kernel
theorem dL_law_695 : decode cL_law 695 = .ok (.if_icmp .eq 308, 3) := by decide +kernel
theorem dL_law_698 : decode cL_law 698 = .ok (.iconst 0, 1) := by decide +kernel
theorem dL_law_699 : decode cL_law 699 = .ok (.ireturn, 1) := by decide +kernel
theorem dL_law_700 : decode cL_law 700 = .ok (.aload_n 1, 1) := by decide +kernel
theorem dL_law_701 : decode cL_law 701 = .ok (.aload_n 0, 1) := by decide +kernel
theorem dL_law_702 : decode cL_law 702 = .ok (.iload_n 3, 1) := by decide +kernel
theorem dL_law_703 : decode cL_law 703 = .ok (.iconst 1, 1) := by decide +kernel
theorem dL_law_704 : decode cL_law 704 = .ok (.iadd, 1) := by decide +kernel
theorem dL_law_705 : decode cL_law 705 = .ok (.iaload, 1) := by decide +kernel
theorem dL_law_706 : decode cL_law 706 = .ok (.invokevirtual 97, 3) := by decide +kernel
theorem dL_law_709 : decode cL_law 709 = .ok (.aload_n 2, 1) := by decide +kernel
theorem dL_law_710 : decode cL_law 710 = .ok (.aload_n 0, 1) := by decide +kernel
theorem dL_law_711 : decode cL_law 711 = .ok (.iload_n 3, 1) := by decide +kernel
theorem dL_law_712 : decode cL_law 712 = .ok (.iconst 1, 1) := by decide +kernel
theorem dL_law_713 : decode cL_law 713 = .ok (.iadd, 1) := by decide +kernel
theorem dL_law_714 : decode cL_law 714 = .ok (.iaload, 1) := by decide +kernel
theorem dL_law_715 : decode cL_law 715 = .ok (.invokevirtual 100, 3) := by decide +kernel
theorem dL_law_718 : decode cL_law 718 = .ok (.if_icmp .eq 285, 3) := by decide +kernel
theorem dL_law_721 : decode cL_law 721 = .ok (.iconst 0, 1) := by decide +kernel
theorem dL_law_722 : decode cL_law 722 = .ok (.ireturn, 1) := by decide +kernel
theorem dL_law_723 : decode cL_law 723 = .ok (.aload_n 1, 1) := by decide +kernel
theorem dL_law_724 : decode cL_law 724 = .ok (.invokevirtual 101, 3) := by decide +kernel
theorem dL_law_727 : decode cL_law 727 = .ok (.aload_n 2, 1) := by decide +kernel
theorem dL_law_728 : decode cL_law 728 = .ok (.invokevirtual 104, 3) := by decide +kernel
theorem dL_law_731 : decode cL_law 731 = .ok (.if_icmp .eq 272, 3) := by decide +kernel
theorem dL_law_734 : decode cL_law 734 = .ok (.iconst 0, 1) := by decide +kernel
theorem dL_law_735 : decode cL_law 735 = .ok (.ireturn, 1) := by decide +kernel
theorem dL_law_736 : decode cL_law 736 = .ok (.aload_n 1, 1) := by decide +kernel
theorem dL_law_737 : decode cL_law 737 = .ok (.aload_n 0, 1) := by decide +kernel
theorem dL_law_738 : decode cL_law 738 = .ok (.iload_n 3, 1) := by decide +kernel
theorem dL_law_739 : decode cL_law 739 = .ok (.iconst 1, 1) := by decide +kernel
theorem dL_law_740 : decode cL_law 740 = .ok (.iadd, 1) := by decide +kernel
theorem dL_law_741 : decode cL_law 741 = .ok (.iaload, 1) := by decide +kernel
theorem dL_law_742 : decode cL_law 742 = .ok (.invokevirtual 105, 3) := by decide +kernel
theorem dL_law_745 : decode cL_law 745 = .ok (.aload_n 2, 1) := by decide +kernel
theorem dL_law_746 : decode cL_law 746 = .ok (.aload_n 0, 1) := by decide +kernel
theorem dL_law_747 : decode cL_law 747 = .ok (.iload_n 3, 1) := by decide +kernel
theorem dL_law_748 : decode cL_law 748 = .ok (.iconst 1, 1) := by decide +kernel
theorem dL_law_749 : decode cL_law 749 = .ok (.iadd, 1) := by decide +kernel
theorem dL_law_750 : decode cL_law 750 = .ok (.iaload, 1) := by decide +kernel
theorem dL_law_751 : decode cL_law 751 = .ok (.invokevirtual 108, 3) := by decide +kernel
theorem dL_law_754 : decode cL_law 754 = .ok (.if_icmp .eq 249, 3) := by decide +kernel
theorem dL_law_757 : decode cL_law 757 = .ok (.iconst 0, 1) := by decide +kernel
theorem dL_law_758 : decode cL_law 758 = .ok (.ireturn, 1) := by decide +kernel
theorem dL_law_759 : decode cL_law 759 = .ok (.aload_n 1, 1) := by decide +kernel
theorem dL_law_760 : decode cL_law 760 = .ok (.invokevirtual 109, 3) := by decide +kernel
theorem dL_law_763 : decode cL_law 763 = .ok (.aload_n 2, 1) := by decide +kernel
theorem dL_law_764 : decode cL_law 764 = .ok (.invokevirtual 112, 3) := by decide +kernel
theorem dL_law_767 : decode cL_law 767 = .ok (.if_icmp .eq 236, 3) := by decide +kernel
theorem dL_law_770 : decode cL_law 770 = .ok (.iconst 0, 1) := by decide +kernel
theorem dL_law_771 : decode cL_law 771 = .ok (.ireturn, 1) := by decide +kernel
theorem dL_law_772 : decode cL_law 772 = .ok (.aload_n 1, 1) := by decide +kernel
theorem dL_law_773 : decode cL_law 773 = .ok (.aload_n 0, 1) := by decide +kernel
theorem dL_law_774 : decode cL_law 774 = .ok (.iload_n 3, 1) := by decide +kernel
theorem dL_law_775 : decode cL_law 775 = .ok (.iconst 1, 1) := by decide +kernel
theorem dL_law_776 : decode cL_law 776 = .ok (.iadd, 1) := by decide +kernel
theorem dL_law_777 : decode cL_law 777 = .ok (.iaload, 1) := by decide +kernel
theorem dL_law_778 : decode cL_law 778 = .ok (.invokevirtual 113, 3) := by decide +kernel
theorem dL_law_781 : decode cL_law 781 = .ok (.aload_n 2, 1) := by decide +kernel
theorem dL_law_782 : decode cL_law 782 = .ok (.aload_n 0, 1) := by decide +kernel
theorem dL_law_783 : decode cL_law 783 = .ok (.iload_n 3, 1) := by decide +kernel
theorem dL_law_784 : decode cL_law 784 = .ok (.iconst 1, 1) := by decide +kernel
theorem dL_law_785 : decode cL_law 785 = .ok (.iadd, 1) := by decide +kernel
theorem dL_law_786 : decode cL_law 786 = .ok (.iaload, 1) := by decide +kernel
theorem dL_law_787 : decode cL_law 787 = .ok (.invokevirtual 116, 3) := by decide +kernel
theorem dL_law_790 : decode cL_law 790 = .ok (.if_icmp .eq 213, 3) := by decide +kernel
theorem dL_law_793 : decode cL_law 793 = .ok (.iconst 0, 1) := by decide +kernel
theorem dL_law_794 : decode cL_law 794 = .ok (.ireturn, 1) := by decide +kernel
theorem dL_law_795 : decode cL_law 795 = .ok (.aload_n 1, 1) := by decide +kernel
theorem dL_law_796 : decode cL_law 796 = .ok (.aload_n 0, 1) := by decide +kernel
theorem dL_law_797 : decode cL_law 797 = .ok (.iload_n 3, 1) := by decide +kernel
theorem dL_law_798 : decode cL_law 798 = .ok (.iconst 1, 1) := by decide +kernel
theorem dL_law_799 : decode cL_law 799 = .ok (.iadd, 1) := by decide +kernel
theorem dL_law_800 : decode cL_law 800 = .ok (.iaload, 1) := by decide +kernel
theorem dL_law_801 : decode cL_law 801 = .ok (.aload_n 0, 1) := by decide +kernel
theorem dL_law_802 : decode cL_law 802 = .ok (.iload_n 3, 1) := by decide +kernel
theorem dL_law_803 : decode cL_law 803 = .ok (.iconst 2, 1) := by decide +kernel
theorem dL_law_804 : decode cL_law 804 = .ok (.iadd, 1) := by decide +kernel
theorem dL_law_805 : decode cL_law 805 = .ok (.iaload, 1) := by decide +kernel
theorem dL_law_806 : decode cL_law 806 = .ok (.ifCond .eq 7, 3) := by decide +kernel
theorem dL_law_809 : decode cL_law 809 = .ok (.iconst 1, 1) := by decide +kernel
theorem dL_law_810 : decode cL_law 810 = .ok (.goto 4, 3) := by decide +kernel
theorem dL_law_813 : decode cL_law 813 = .ok (.iconst 0, 1) := by decide +kernel
theorem dL_law_814 : decode cL_law 814 = .ok (.invokevirtual 117, 3) := by decide +kernel
theorem dL_law_817 : decode cL_law 817 = .ok (.aload_n 2, 1) := by decide +kernel
theorem dL_law_818 : decode cL_law 818 = .ok (.aload_n 0, 1) := by decide +kernel
theorem dL_law_819 : decode cL_law 819 = .ok (.iload_n 3, 1) := by decide +kernel
theorem dL_law_820 : decode cL_law 820 = .ok (.iconst 1, 1) := by decide +kernel
theorem dL_law_821 : decode cL_law 821 = .ok (.iadd, 1) := by decide +kernel
theorem dL_law_822 : decode cL_law 822 = .ok (.iaload, 1) := by decide +kernel
theorem dL_law_823 : decode cL_law 823 = .ok (.aload_n 0, 1) := by decide +kernel
theorem dL_law_824 : decode cL_law 824 = .ok (.iload_n 3, 1) := by decide +kernel
theorem dL_law_825 : decode cL_law 825 = .ok (.iconst 2, 1) := by decide +kernel
theorem dL_law_826 : decode cL_law 826 = .ok (.iadd, 1) := by decide +kernel
theorem dL_law_827 : decode cL_law 827 = .ok (.iaload, 1) := by decide +kernel
theorem dL_law_828 : decode cL_law 828 = .ok (.ifCond .eq 7, 3) := by decide +kernel
theorem dL_law_831 : decode cL_law 831 = .ok (.iconst 1, 1) := by decide +kernel
theorem dL_law_832 : decode cL_law 832 = .ok (.goto 4, 3) := by decide +kernel
theorem dL_law_835 : decode cL_law 835 = .ok (.iconst 0, 1) := by decide +kernel
theorem dL_law_836 : decode cL_law 836 = .ok (.invokevirtual 121, 3) := by decide +kernel
theorem dL_law_839 : decode cL_law 839 = .ok (.if_icmp .eq 164, 3) := by decide +kernel
theorem dL_law_842 : decode cL_law 842 = .ok (.iconst 0, 1) := by decide +kernel
theorem dL_law_843 : decode cL_law 843 = .ok (.ireturn, 1) := by decide +kernel
theorem dL_law_844 : decode cL_law 844 = .ok (.aload_n 1, 1) := by decide +kernel
theorem dL_law_845 : decode cL_law 845 = .ok (.aload_n 0, 1) := by decide +kernel
theorem dL_law_846 : decode cL_law 846 = .ok (.iload_n 3, 1) := by decide +kernel
theorem dL_law_847 : decode cL_law 847 = .ok (.iconst 1, 1) := by decide +kernel
theorem dL_law_848 : decode cL_law 848 = .ok (.iadd, 1) := by decide +kernel
theorem dL_law_849 : decode cL_law 849 = .ok (.iaload, 1) := by decide +kernel
theorem dL_law_850 : decode cL_law 850 = .ok (.invokevirtual 122, 3) := by decide +kernel
theorem dL_law_853 : decode cL_law 853 = .ok (.aload_n 2, 1) := by decide +kernel
theorem dL_law_854 : decode cL_law 854 = .ok (.aload_n 0, 1) := by decide +kernel
theorem dL_law_855 : decode cL_law 855 = .ok (.iload_n 3, 1) := by decide +kernel
theorem dL_law_856 : decode cL_law 856 = .ok (.iconst 1, 1) := by decide +kernel
theorem dL_law_857 : decode cL_law 857 = .ok (.iadd, 1) := by decide +kernel
theorem dL_law_858 : decode cL_law 858 = .ok (.iaload, 1) := by decide +kernel
theorem dL_law_859 : decode cL_law 859 = .ok (.invokevirtual 125, 3) := by decide +kernel
theorem dL_law_862 : decode cL_law 862 = .ok (.if_icmp .eq 141, 3) := by decide +kernel
theorem dL_law_865 : decode cL_law 865 = .ok (.iconst 0, 1) := by decide +kernel
theorem dL_law_866 : decode cL_law 866 = .ok (.ireturn, 1) := by decide +kernel
theorem dL_law_867 : decode cL_law 867 = .ok (.aload_n 1, 1) := by decide +kernel
theorem dL_law_868 : decode cL_law 868 = .ok (.invokevirtual 126, 3) := by decide +kernel
theorem dL_law_871 : decode cL_law 871 = .ok (.aload_n 2, 1) := by decide +kernel
theorem dL_law_872 : decode cL_law 872 = .ok (.invokevirtual 129, 3) := by decide +kernel
theorem dL_law_875 : decode cL_law 875 = .ok (.if_icmp .eq 128, 3) := by decide +kernel
theorem dL_law_878 : decode cL_law 878 = .ok (.iconst 0, 1) := by decide +kernel
theorem dL_law_879 : decode cL_law 879 = .ok (.ireturn, 1) := by decide +kernel
theorem dL_law_880 : decode cL_law 880 = .ok (.aload_n 1, 1) := by decide +kernel
theorem dL_law_881 : decode cL_law 881 = .ok (.invokevirtual 130, 3) := by decide +kernel
theorem dL_law_884 : decode cL_law 884 = .ok (.dstore 4, 2) := by decide +kernel
theorem dL_law_886 : decode cL_law 886 = .ok (.aload_n 2, 1) := by decide +kernel
theorem dL_law_887 : decode cL_law 887 = .ok (.invokevirtual 134, 3) := by decide +kernel
theorem dL_law_890 : decode cL_law 890 = .ok (.dstore 6, 2) := by decide +kernel
theorem dL_law_892 : decode cL_law 892 = .ok (.dload 4, 2) := by decide +kernel
theorem dL_law_894 : decode cL_law 894 = .ok (.dload 6, 2) := by decide +kernel
