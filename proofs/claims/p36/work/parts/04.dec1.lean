theorem dX10_init_15 : decode cX10_init 15 = .ok (.aload_n 0, 1) := by decide +kernel
theorem dX10_init_16 : decode cX10_init 16 = .ok (.new 7, 3) := by decide +kernel
theorem dX10_init_19 : decode cX10_init 19 = .ok (.dup, 1) := by decide +kernel
theorem dX10_init_20 : decode cX10_init 20 = .ok (.invokespecial 9, 3) := by decide +kernel
theorem dX10_init_23 : decode cX10_init 23 = .ok (.putfield 16, 3) := by decide +kernel
theorem dX10_init_26 : decode cX10_init 26 = .ok (.aload_n 0, 1) := by decide +kernel
theorem dX10_init_27 : decode cX10_init 27 = .ok (.new 19, 3) := by decide +kernel
theorem dX10_init_30 : decode cX10_init 30 = .ok (.dup, 1) := by decide +kernel
theorem dX10_init_31 : decode cX10_init 31 = .ok (.invokespecial 21, 3) := by decide +kernel
theorem dX10_init_34 : decode cX10_init 34 = .ok (.putfield 22, 3) := by decide +kernel
theorem dX10_init_37 : decode cX10_init 37 = .ok (.aload_n 0, 1) := by decide +kernel
theorem dX10_init_38 : decode cX10_init 38 = .ok (.new 26, 3) := by decide +kernel
theorem dX10_init_41 : decode cX10_init 41 = .ok (.dup, 1) := by decide +kernel
theorem dX10_init_42 : decode cX10_init 42 = .ok (.invokespecial 28, 3) := by decide +kernel
theorem dX10_init_45 : decode cX10_init 45 = .ok (.putfield 29, 3) := by decide +kernel
theorem dX10_init_48 : decode cX10_init 48 = .ok (.aload_n 0, 1) := by decide +kernel
theorem dX10_init_49 : decode cX10_init 49 = .ok (.new 26, 3) := by decide +kernel
theorem dX10_init_52 : decode cX10_init 52 = .ok (.dup, 1) := by decide +kernel
theorem dX10_init_53 : decode cX10_init 53 = .ok (.invokespecial 28, 3) := by decide +kernel
theorem dX10_init_56 : decode cX10_init 56 = .ok (.putfield 33, 3) := by decide +kernel
theorem dX10_init_59 : decode cX10_init 59 = .ok (.aload_n 0, 1) := by decide +kernel
theorem dX10_init_60 : decode cX10_init 60 = .ok (.new 36, 3) := by decide +kernel
theorem dX10_init_63 : decode cX10_init 63 = .ok (.dup, 1) := by decide +kernel
theorem dX10_init_64 : decode cX10_init 64 = .ok (.invokespecial 38, 3) := by decide +kernel
theorem dX10_init_67 : decode cX10_init 67 = .ok (.putfield 39, 3) := by decide +kernel
theorem dX10_init_70 : decode cX10_init 70 = .ok (.aload_n 0, 1) := by decide +kernel
theorem dX10_init_71 : decode cX10_init 71 = .ok (.new 43, 3) := by decide +kernel
theorem dX10_init_74 : decode cX10_init 74 = .ok (.dup, 1) := by decide +kernel
theorem dX10_init_75 : decode cX10_init 75 = .ok (.bipush 80, 2) := by decide +kernel
theorem dX10_init_77 : decode cX10_init 77 = .ok (.invokespecial 45, 3) := by decide +kernel
theorem dX10_init_80 : decode cX10_init 80 = .ok (.putfield 48, 3) := by decide +kernel
theorem dX10_init_83 : decode cX10_init 83 = .ok (.aload_n 0, 1) := by decide +kernel
theorem dX10_init_84 : decode cX10_init 84 = .ok (.new 52, 3) := by decide +kernel
theorem dX10_init_87 : decode cX10_init 87 = .ok (.dup, 1) := by decide +kernel
theorem dX10_init_88 : decode cX10_init 88 = .ok (.invokespecial 54, 3) := by decide +kernel
theorem dX10_init_91 : decode cX10_init 91 = .ok (.putfield 55, 3) := by decide +kernel
theorem dX10_init_94 : decode cX10_init 94 = .ok (.return_, 1) := by decide +kernel
theorem dX10_chair_0 : decode cX10_chair 0 = .ok (.aload_n 0, 1) := by decide +kernel
theorem dX10_chair_1 : decode cX10_chair 1 = .ok (.getfield 22, 3) := by decide +kernel
theorem dX10_chair_4 : decode cX10_chair 4 = .ok (.aload_n 0, 1) := by decide +kernel
theorem dX10_chair_5 : decode cX10_chair 5 = .ok (.getfield 10, 3) := by decide +kernel
theorem dX10_chair_8 : decode cX10_chair 8 = .ok (.invokevirtual 59, 3) := by decide +kernel
theorem dX10_chair_11 : decode cX10_chair 11 = .ok (.aload_n 0, 1) := by decide +kernel
theorem dX10_chair_12 : decode cX10_chair 12 = .ok (.aload_n 0, 1) := by decide +kernel
theorem dX10_chair_13 : decode cX10_chair 13 = .ok (.iload_n 1, 1) := by decide +kernel
theorem dX10_chair_14 : decode cX10_chair 14 = .ok (.iload_n 2, 1) := by decide +kernel
theorem dX10_chair_15 : decode cX10_chair 15 = .ok (.invokevirtual 63, 3) := by decide +kernel
theorem dX10_chair_18 : decode cX10_chair 18 = .ok (.invokevirtual 67, 3) := by decide +kernel
theorem dX10_chair_21 : decode cX10_chair 21 = .ok (.ireturn, 1) := by decide +kernel
theorem dX10_musician_0 : decode cX10_musician 0 = .ok (.aload_n 0, 1) := by decide +kernel
theorem dX10_musician_1 : decode cX10_musician 1 = .ok (.getfield 22, 3) := by decide +kernel
theorem dX10_musician_4 : decode cX10_musician 4 = .ok (.aload_n 0, 1) := by decide +kernel
theorem dX10_musician_5 : decode cX10_musician 5 = .ok (.getfield 10, 3) := by decide +kernel
theorem dX10_musician_8 : decode cX10_musician 8 = .ok (.invokevirtual 59, 3) := by decide +kernel
theorem dX10_musician_11 : decode cX10_musician 11 = .ok (.aload_n 0, 1) := by decide +kernel
theorem dX10_musician_12 : decode cX10_musician 12 = .ok (.aload_n 0, 1) := by decide +kernel
theorem dX10_musician_13 : decode cX10_musician 13 = .ok (.iload_n 1, 1) := by decide +kernel
theorem dX10_musician_14 : decode cX10_musician 14 = .ok (.iload_n 2, 1) := by decide +kernel
theorem dX10_musician_15 : decode cX10_musician 15 = .ok (.iload_n 3, 1) := by decide +kernel
theorem dX10_musician_16 : decode cX10_musician 16 = .ok (.invokevirtual 71, 3) := by decide +kernel
theorem dX10_musician_19 : decode cX10_musician 19 = .ok (.invokevirtual 67, 3) := by decide +kernel
theorem dX10_musician_22 : decode cX10_musician 22 = .ok (.ireturn, 1) := by decide +kernel
theorem dX10_chairOf_0 : decode cX10_chairOf 0 = .ok (.aload_n 0, 1) := by decide +kernel
theorem dX10_chairOf_1 : decode cX10_chairOf 1 = .ok (.getfield 10, 3) := by decide +kernel
theorem dX10_chairOf_4 : decode cX10_chairOf 4 = .ok (.getfield 75, 3) := by decide +kernel
theorem dX10_chairOf_7 : decode cX10_chairOf 7 = .ok (.astore_n 3, 1) := by decide +kernel
theorem dX10_chairOf_8 : decode cX10_chairOf 8 = .ok (.aload_n 3, 1) := by decide +kernel
theorem dX10_chairOf_9 : decode cX10_chairOf 9 = .ok (.iload_n 1, 1) := by decide +kernel
theorem dX10_chairOf_10 : decode cX10_chairOf 10 = .ok (.invokevirtual 79, 3) := by decide +kernel
theorem dX10_chairOf_13 : decode cX10_chairOf 13 = .ok (.ifCond .ne 7, 3) := by decide +kernel
theorem dX10_chairOf_16 : decode cX10_chairOf 16 = .ok (.sipush (-1011), 3) := by decide +kernel
theorem dX10_chairOf_19 : decode cX10_chairOf 19 = .ok (.ireturn, 1) := by decide +kernel
theorem dX10_chairOf_20 : decode cX10_chairOf 20 = .ok (.iload_n 2, 1) := by decide +kernel
theorem dX10_chairOf_21 : decode cX10_chairOf 21 = .ok (.tableswitch 119 0 7 #[47, 56, 65, 74, 83, 92, 98, 107], 47) := by decide +kernel
theorem dX10_chairOf_68 : decode cX10_chairOf 68 = .ok (.aload_n 3, 1) := by decide +kernel
theorem dX10_chairOf_69 : decode cX10_chairOf 69 = .ok (.getfield 85, 3) := by decide +kernel
theorem dX10_chairOf_72 : decode cX10_chairOf 72 = .ok (.iload_n 1, 1) := by decide +kernel
theorem dX10_chairOf_73 : decode cX10_chairOf 73 = .ok (.invokevirtual 89, 3) := by decide +kernel
theorem dX10_chairOf_76 : decode cX10_chairOf 76 = .ok (.ireturn, 1) := by decide +kernel
theorem dX10_chairOf_77 : decode cX10_chairOf 77 = .ok (.aload_n 3, 1) := by decide +kernel
theorem dX10_chairOf_78 : decode cX10_chairOf 78 = .ok (.getfield 94, 3) := by decide +kernel
theorem dX10_chairOf_81 : decode cX10_chairOf 81 = .ok (.iload_n 1, 1) := by decide +kernel
theorem dX10_chairOf_82 : decode cX10_chairOf 82 = .ok (.invokevirtual 89, 3) := by decide +kernel
theorem dX10_chairOf_85 : decode cX10_chairOf 85 = .ok (.ireturn, 1) := by decide +kernel
theorem dX10_chairOf_86 : decode cX10_chairOf 86 = .ok (.aload_n 3, 1) := by decide +kernel
theorem dX10_chairOf_87 : decode cX10_chairOf 87 = .ok (.getfield 97, 3) := by decide +kernel
theorem dX10_chairOf_90 : decode cX10_chairOf 90 = .ok (.iload_n 1, 1) := by decide +kernel
theorem dX10_chairOf_91 : decode cX10_chairOf 91 = .ok (.invokevirtual 89, 3) := by decide +kernel
theorem dX10_chairOf_94 : decode cX10_chairOf 94 = .ok (.ireturn, 1) := by decide +kernel
theorem dX10_chairOf_95 : decode cX10_chairOf 95 = .ok (.aload_n 3, 1) := by decide +kernel
theorem dX10_chairOf_96 : decode cX10_chairOf 96 = .ok (.getfield 100, 3) := by decide +kernel
theorem dX10_chairOf_99 : decode cX10_chairOf 99 = .ok (.iload_n 1, 1) := by decide +kernel
theorem dX10_chairOf_100 : decode cX10_chairOf 100 = .ok (.invokevirtual 89, 3) := by decide +kernel
theorem dX10_chairOf_103 : decode cX10_chairOf 103 = .ok (.ireturn, 1) := by decide +kernel
theorem dX10_chairOf_104 : decode cX10_chairOf 104 = .ok (.aload_n 3, 1) := by decide +kernel
theorem dX10_chairOf_105 : decode cX10_chairOf 105 = .ok (.getfield 103, 3) := by decide +kernel
theorem dX10_chairOf_108 : decode cX10_chairOf 108 = .ok (.iload_n 1, 1) := by decide +kernel
theorem dX10_chairOf_109 : decode cX10_chairOf 109 = .ok (.invokevirtual 89, 3) := by decide +kernel
theorem dX10_chairOf_112 : decode cX10_chairOf 112 = .ok (.ireturn, 1) := by decide +kernel
theorem dX10_chairOf_113 : decode cX10_chairOf 113 = .ok (.aload_n 3, 1) := by decide +kernel
theorem dX10_chairOf_114 : decode cX10_chairOf 114 = .ok (.iload_n 1, 1) := by decide +kernel
theorem dX10_chairOf_115 : decode cX10_chairOf 115 = .ok (.invokevirtual 106, 3) := by decide +kernel
theorem dX10_chairOf_118 : decode cX10_chairOf 118 = .ok (.ireturn, 1) := by decide +kernel
theorem dX10_chairOf_119 : decode cX10_chairOf 119 = .ok (.aload_n 3, 1) := by decide +kernel
theorem dX10_chairOf_120 : decode cX10_chairOf 120 = .ok (.getfield 109, 3) := by decide +kernel
theorem dX10_chairOf_123 : decode cX10_chairOf 123 = .ok (.iload_n 1, 1) := by decide +kernel
theorem dX10_chairOf_124 : decode cX10_chairOf 124 = .ok (.invokevirtual 89, 3) := by decide +kernel
theorem dX10_chairOf_127 : decode cX10_chairOf 127 = .ok (.ireturn, 1) := by decide +kernel
theorem dX10_chairOf_128 : decode cX10_chairOf 128 = .ok (.aload_n 3, 1) := by decide +kernel
theorem dX10_chairOf_129 : decode cX10_chairOf 129 = .ok (.getfield 112, 3) := by decide +kernel
theorem dX10_chairOf_132 : decode cX10_chairOf 132 = .ok (.iload_n 1, 1) := by decide +kernel
theorem dX10_chairOf_133 : decode cX10_chairOf 133 = .ok (.invokevirtual 89, 3) := by decide +kernel
theorem dX10_chairOf_136 : decode cX10_chairOf 136 = .ok (.invokestatic 115, 3) := by decide +kernel
theorem dX10_chairOf_139 : decode cX10_chairOf 139 = .ok (.ireturn, 1) := by decide +kernel
theorem dX10_chairOf_140 : decode cX10_chairOf 140 = .ok (.sipush (-1012), 3) := by decide +kernel
theorem dX10_chairOf_143 : decode cX10_chairOf 143 = .ok (.ireturn, 1) := by decide +kernel
theorem dX10_musicianOf_0 : decode cX10_musicianOf 0 = .ok (.aload_n 0, 1) := by decide +kernel
theorem dX10_musicianOf_1 : decode cX10_musicianOf 1 = .ok (.getfield 10, 3) := by decide +kernel
theorem dX10_musicianOf_4 : decode cX10_musicianOf 4 = .ok (.getfield 118, 3) := by decide +kernel
theorem dX10_musicianOf_7 : decode cX10_musicianOf 7 = .ok (.astore_n 3, 1) := by decide +kernel
theorem dX10_musicianOf_8 : decode cX10_musicianOf 8 = .ok (.aload_n 3, 1) := by decide +kernel
theorem dX10_musicianOf_9 : decode cX10_musicianOf 9 = .ok (.iload_n 1, 1) := by decide +kernel
theorem dX10_musicianOf_10 : decode cX10_musicianOf 10 = .ok (.invokevirtual 122, 3) := by decide +kernel
theorem dX10_musicianOf_13 : decode cX10_musicianOf 13 = .ok (.ifCond .ne 7, 3) := by decide +kernel
theorem dX10_musicianOf_16 : decode cX10_musicianOf 16 = .ok (.sipush (-1011), 3) := by decide +kernel
theorem dX10_musicianOf_19 : decode cX10_musicianOf 19 = .ok (.ireturn, 1) := by decide +kernel
theorem dX10_musicianOf_20 : decode cX10_musicianOf 20 = .ok (.iload_n 2, 1) := by decide +kernel
theorem dX10_musicianOf_21 : decode cX10_musicianOf 21 = .ok (.tableswitch 109 0 6 #[43, 52, 61, 70, 79, 88, 100], 43) := by decide +kernel
theorem dX10_musicianOf_64 : decode cX10_musicianOf 64 = .ok (.aload_n 3, 1) := by decide +kernel
theorem dX10_musicianOf_65 : decode cX10_musicianOf 65 = .ok (.getfield 125, 3) := by decide +kernel
theorem dX10_musicianOf_68 : decode cX10_musicianOf 68 = .ok (.iload_n 1, 1) := by decide +kernel
theorem dX10_musicianOf_69 : decode cX10_musicianOf 69 = .ok (.invokevirtual 89, 3) := by decide +kernel
theorem dX10_musicianOf_72 : decode cX10_musicianOf 72 = .ok (.ireturn, 1) := by decide +kernel
theorem dX10_musicianOf_73 : decode cX10_musicianOf 73 = .ok (.aload_n 3, 1) := by decide +kernel
theorem dX10_musicianOf_74 : decode cX10_musicianOf 74 = .ok (.getfield 126, 3) := by decide +kernel
theorem dX10_musicianOf_77 : decode cX10_musicianOf 77 = .ok (.iload_n 1, 1) := by decide +kernel
theorem dX10_musicianOf_78 : decode cX10_musicianOf 78 = .ok (.invokevirtual 89, 3) := by decide +kernel
theorem dX10_musicianOf_81 : decode cX10_musicianOf 81 = .ok (.ireturn, 1) := by decide +kernel
theorem dX10_musicianOf_82 : decode cX10_musicianOf 82 = .ok (.aload_n 3, 1) := by decide +kernel
theorem dX10_musicianOf_83 : decode cX10_musicianOf 83 = .ok (.getfield 129, 3) := by decide +kernel
theorem dX10_musicianOf_86 : decode cX10_musicianOf 86 = .ok (.iload_n 1, 1) := by decide +kernel
theorem dX10_musicianOf_87 : decode cX10_musicianOf 87 = .ok (.invokevirtual 89, 3) := by decide +kernel
theorem dX10_musicianOf_90 : decode cX10_musicianOf 90 = .ok (.ireturn, 1) := by decide +kernel
theorem dX10_musicianOf_91 : decode cX10_musicianOf 91 = .ok (.aload_n 3, 1) := by decide +kernel
theorem dX10_musicianOf_92 : decode cX10_musicianOf 92 = .ok (.getfield 132, 3) := by decide +kernel
theorem dX10_musicianOf_95 : decode cX10_musicianOf 95 = .ok (.iload_n 1, 1) := by decide +kernel
theorem dX10_musicianOf_96 : decode cX10_musicianOf 96 = .ok (.invokevirtual 89, 3) := by decide +kernel
theorem dX10_musicianOf_99 : decode cX10_musicianOf 99 = .ok (.ireturn, 1) := by decide +kernel
theorem dX10_musicianOf_100 : decode cX10_musicianOf 100 = .ok (.aload_n 3, 1) := by decide +kernel
theorem dX10_musicianOf_101 : decode cX10_musicianOf 101 = .ok (.getfield 135, 3) := by decide +kernel
theorem dX10_musicianOf_104 : decode cX10_musicianOf 104 = .ok (.iload_n 1, 1) := by decide +kernel
theorem dX10_musicianOf_105 : decode cX10_musicianOf 105 = .ok (.invokevirtual 89, 3) := by decide +kernel
theorem dX10_musicianOf_108 : decode cX10_musicianOf 108 = .ok (.ireturn, 1) := by decide +kernel
theorem dX10_musicianOf_109 : decode cX10_musicianOf 109 = .ok (.aload_n 3, 1) := by decide +kernel
theorem dX10_musicianOf_110 : decode cX10_musicianOf 110 = .ok (.getfield 138, 3) := by decide +kernel
theorem dX10_musicianOf_113 : decode cX10_musicianOf 113 = .ok (.iload_n 1, 1) := by decide +kernel
theorem dX10_musicianOf_114 : decode cX10_musicianOf 114 = .ok (.invokevirtual 89, 3) := by decide +kernel
theorem dX10_musicianOf_117 : decode cX10_musicianOf 117 = .ok (.invokestatic 115, 3) := by decide +kernel
theorem dX10_musicianOf_120 : decode cX10_musicianOf 120 = .ok (.ireturn, 1) := by decide +kernel
theorem dX10_musicianOf_121 : decode cX10_musicianOf 121 = .ok (.aload_n 3, 1) := by decide +kernel
theorem dX10_musicianOf_122 : decode cX10_musicianOf 122 = .ok (.getfield 141, 3) := by decide +kernel
theorem dX10_musicianOf_125 : decode cX10_musicianOf 125 = .ok (.iload_n 1, 1) := by decide +kernel
theorem dX10_musicianOf_126 : decode cX10_musicianOf 126 = .ok (.invokevirtual 89, 3) := by decide +kernel
theorem dX10_musicianOf_129 : decode cX10_musicianOf 129 = .ok (.ireturn, 1) := by decide +kernel
theorem dX10_musicianOf_130 : decode cX10_musicianOf 130 = .ok (.sipush (-1012), 3) := by decide +kernel
theorem dX10_musicianOf_133 : decode cX10_musicianOf 133 = .ok (.ireturn, 1) := by decide +kernel
theorem dX10_fit_0 : decode cX10_fit 0 = .ok (.aload_n 0, 1) := by decide +kernel
theorem dX10_fit_1 : decode cX10_fit 1 = .ok (.iload_n 1, 1) := by decide +kernel
theorem dX10_fit_2 : decode cX10_fit 2 = .ok (.iload_n 2, 1) := by decide +kernel
theorem dX10_fit_3 : decode cX10_fit 3 = .ok (.invokevirtual 144, 3) := by decide +kernel
theorem dX10_fit_6 : decode cX10_fit 6 = .ok (.ifCond .eq 15, 3) := by decide +kernel
theorem dX10_fit_9 : decode cX10_fit 9 = .ok (.aload_n 0, 1) := by decide +kernel
theorem dX10_fit_10 : decode cX10_fit 10 = .ok (.getfield 10, 3) := by decide +kernel
theorem dX10_fit_13 : decode cX10_fit 13 = .ok (.iload_n 1, 1) := by decide +kernel
theorem dX10_fit_14 : decode cX10_fit 14 = .ok (.iload_n 2, 1) := by decide +kernel
theorem dX10_fit_15 : decode cX10_fit 15 = .ok (.invokevirtual 148, 3) := by decide +kernel
theorem dX10_fit_18 : decode cX10_fit 18 = .ok (.goto 6, 3) := by decide +kernel
theorem dX10_fit_21 : decode cX10_fit 21 = .ok (.sipush (-1011), 3) := by decide +kernel
theorem dX10_fit_24 : decode cX10_fit 24 = .ok (.ireturn, 1) := by decide +kernel
theorem dX10_seat_0 : decode cX10_seat 0 = .ok (.aload_n 0, 1) := by decide +kernel
theorem dX10_seat_1 : decode cX10_seat 1 = .ok (.getfield 22, 3) := by decide +kernel
theorem dX10_seat_4 : decode cX10_seat 4 = .ok (.aload_n 0, 1) := by decide +kernel
theorem dX10_seat_5 : decode cX10_seat 5 = .ok (.getfield 10, 3) := by decide +kernel
theorem dX10_seat_8 : decode cX10_seat 8 = .ok (.invokevirtual 59, 3) := by decide +kernel
theorem dX10_seat_11 : decode cX10_seat 11 = .ok (.aload_n 0, 1) := by decide +kernel
theorem dX10_seat_12 : decode cX10_seat 12 = .ok (.aload_n 0, 1) := by decide +kernel
theorem dX10_seat_13 : decode cX10_seat 13 = .ok (.iload_n 1, 1) := by decide +kernel
theorem dX10_seat_14 : decode cX10_seat 14 = .ok (.iload_n 2, 1) := by decide +kernel
theorem dX10_seat_15 : decode cX10_seat 15 = .ok (.invokevirtual 151, 3) := by decide +kernel
theorem dX10_seat_18 : decode cX10_seat 18 = .ok (.invokevirtual 67, 3) := by decide +kernel
theorem dX10_seat_21 : decode cX10_seat 21 = .ok (.ireturn, 1) := by decide +kernel
theorem dX10_rise_0 : decode cX10_rise 0 = .ok (.aload_n 0, 1) := by decide +kernel
theorem dX10_rise_1 : decode cX10_rise 1 = .ok (.getfield 22, 3) := by decide +kernel
theorem dX10_rise_4 : decode cX10_rise 4 = .ok (.aload_n 0, 1) := by decide +kernel
theorem dX10_rise_5 : decode cX10_rise 5 = .ok (.getfield 10, 3) := by decide +kernel
theorem dX10_rise_8 : decode cX10_rise 8 = .ok (.invokevirtual 59, 3) := by decide +kernel
theorem dX10_rise_11 : decode cX10_rise 11 = .ok (.aload_n 0, 1) := by decide +kernel
theorem dX10_rise_12 : decode cX10_rise 12 = .ok (.aload_n 0, 1) := by decide +kernel
theorem dX10_rise_13 : decode cX10_rise 13 = .ok (.iload_n 1, 1) := by decide +kernel
theorem dX10_rise_14 : decode cX10_rise 14 = .ok (.invokevirtual 154, 3) := by decide +kernel
theorem dX10_rise_17 : decode cX10_rise 17 = .ok (.invokevirtual 67, 3) := by decide +kernel
theorem dX10_rise_20 : decode cX10_rise 20 = .ok (.ireturn, 1) := by decide +kernel
theorem dX10_season_0 : decode cX10_season 0 = .ok (.aload_n 0, 1) := by decide +kernel
theorem dX10_season_1 : decode cX10_season 1 = .ok (.getfield 22, 3) := by decide +kernel
theorem dX10_season_4 : decode cX10_season 4 = .ok (.aload_n 0, 1) := by decide +kernel
theorem dX10_season_5 : decode cX10_season 5 = .ok (.getfield 10, 3) := by decide +kernel
theorem dX10_season_8 : decode cX10_season 8 = .ok (.invokevirtual 59, 3) := by decide +kernel
theorem dX10_season_11 : decode cX10_season 11 = .ok (.aload_n 0, 1) := by decide +kernel
theorem dX10_season_12 : decode cX10_season 12 = .ok (.aload_n 0, 1) := by decide +kernel
theorem dX10_season_13 : decode cX10_season 13 = .ok (.invokevirtual 157, 3) := by decide +kernel
theorem dX10_season_16 : decode cX10_season 16 = .ok (.invokevirtual 67, 3) := by decide +kernel
theorem dX10_season_19 : decode cX10_season 19 = .ok (.ireturn, 1) := by decide +kernel
theorem dX10_would_0 : decode cX10_would 0 = .ok (.aload_n 0, 1) := by decide +kernel
theorem dX10_would_1 : decode cX10_would 1 = .ok (.getfield 10, 3) := by decide +kernel
theorem dX10_would_4 : decode cX10_would 4 = .ok (.getfield 75, 3) := by decide +kernel
theorem dX10_would_7 : decode cX10_would 7 = .ok (.iload_n 1, 1) := by decide +kernel
theorem dX10_would_8 : decode cX10_would 8 = .ok (.invokevirtual 79, 3) := by decide +kernel
theorem dX10_would_11 : decode cX10_would 11 = .ok (.ifCond .ne 7, 3) := by decide +kernel
theorem dX10_would_14 : decode cX10_would 14 = .ok (.sipush (-1011), 3) := by decide +kernel
theorem dX10_would_17 : decode cX10_would 17 = .ok (.ireturn, 1) := by decide +kernel
theorem dX10_would_18 : decode cX10_would 18 = .ok (.aload_n 0, 1) := by decide +kernel
theorem dX10_would_19 : decode cX10_would 19 = .ok (.getfield 29, 3) := by decide +kernel
theorem dX10_would_22 : decode cX10_would 22 = .ok (.aload_n 0, 1) := by decide +kernel
theorem dX10_would_23 : decode cX10_would 23 = .ok (.getfield 10, 3) := by decide +kernel
theorem dX10_would_26 : decode cX10_would 26 = .ok (.invokevirtual 161, 3) := by decide +kernel
theorem dX10_would_29 : decode cX10_would 29 = .ok (.aload_n 0, 1) := by decide +kernel
theorem dX10_would_30 : decode cX10_would 30 = .ok (.getfield 29, 3) := by decide +kernel
theorem dX10_would_33 : decode cX10_would 33 = .ok (.iload_n 1, 1) := by decide +kernel
theorem dX10_would_34 : decode cX10_would 34 = .ok (.invokevirtual 164, 3) := by decide +kernel
theorem dX10_would_37 : decode cX10_would 37 = .ok (.invokestatic 115, 3) := by decide +kernel
theorem dX10_would_40 : decode cX10_would 40 = .ok (.ireturn, 1) := by decide +kernel
theorem dX10_wouldAgain_0 : decode cX10_wouldAgain 0 = .ok (.aload_n 0, 1) := by decide +kernel
theorem dX10_wouldAgain_1 : decode cX10_wouldAgain 1 = .ok (.getfield 10, 3) := by decide +kernel
theorem dX10_wouldAgain_4 : decode cX10_wouldAgain 4 = .ok (.getfield 75, 3) := by decide +kernel
theorem dX10_wouldAgain_7 : decode cX10_wouldAgain 7 = .ok (.iload_n 1, 1) := by decide +kernel
theorem dX10_wouldAgain_8 : decode cX10_wouldAgain 8 = .ok (.invokevirtual 79, 3) := by decide +kernel
theorem dX10_wouldAgain_11 : decode cX10_wouldAgain 11 = .ok (.ifCond .ne 7, 3) := by decide +kernel
theorem dX10_wouldAgain_14 : decode cX10_wouldAgain 14 = .ok (.sipush (-1011), 3) := by decide +kernel
theorem dX10_wouldAgain_17 : decode cX10_wouldAgain 17 = .ok (.ireturn, 1) := by decide +kernel
theorem dX10_wouldAgain_18 : decode cX10_wouldAgain 18 = .ok (.aload_n 0, 1) := by decide +kernel
theorem dX10_wouldAgain_19 : decode cX10_wouldAgain 19 = .ok (.getfield 33, 3) := by decide +kernel
theorem dX10_wouldAgain_22 : decode cX10_wouldAgain 22 = .ok (.aload_n 0, 1) := by decide +kernel
theorem dX10_wouldAgain_23 : decode cX10_wouldAgain 23 = .ok (.getfield 10, 3) := by decide +kernel
theorem dX10_wouldAgain_26 : decode cX10_wouldAgain 26 = .ok (.invokevirtual 167, 3) := by decide +kernel
theorem dX10_wouldAgain_29 : decode cX10_wouldAgain 29 = .ok (.aload_n 0, 1) := by decide +kernel
theorem dX10_wouldAgain_30 : decode cX10_wouldAgain 30 = .ok (.getfield 33, 3) := by decide +kernel
theorem dX10_wouldAgain_33 : decode cX10_wouldAgain 33 = .ok (.iload_n 1, 1) := by decide +kernel
theorem dX10_wouldAgain_34 : decode cX10_wouldAgain 34 = .ok (.invokevirtual 164, 3) := by decide +kernel
theorem dX10_wouldAgain_37 : decode cX10_wouldAgain 37 = .ok (.invokestatic 115, 3) := by decide +kernel
theorem dX10_wouldAgain_40 : decode cX10_wouldAgain 40 = .ok (.ireturn, 1) := by decide +kernel
theorem dX10_restless_0 : decode cX10_restless 0 = .ok (.iconst 0, 1) := by decide +kernel
theorem dX10_restless_1 : decode cX10_restless 1 = .ok (.istore_n 1, 1) := by decide +kernel
theorem dX10_restless_2 : decode cX10_restless 2 = .ok (.iconst 0, 1) := by decide +kernel
theorem dX10_restless_3 : decode cX10_restless 3 = .ok (.istore_n 2, 1) := by decide +kernel
theorem dX10_restless_4 : decode cX10_restless 4 = .ok (.iload_n 2, 1) := by decide +kernel
theorem dX10_restless_5 : decode cX10_restless 5 = .ok (.aload_n 0, 1) := by decide +kernel
theorem dX10_restless_6 : decode cX10_restless 6 = .ok (.getfield 10, 3) := by decide +kernel
theorem dX10_restless_9 : decode cX10_restless 9 = .ok (.getfield 75, 3) := by decide +kernel
theorem dX10_restless_12 : decode cX10_restless 12 = .ok (.getfield 170, 3) := by decide +kernel
theorem dX10_restless_15 : decode cX10_restless 15 = .ok (.if_icmp .ge 43, 3) := by decide +kernel
theorem dX10_restless_18 : decode cX10_restless 18 = .ok (.iconst 0, 1) := by decide +kernel
theorem dX10_restless_19 : decode cX10_restless 19 = .ok (.istore_n 3, 1) := by decide +kernel
theorem dX10_restless_20 : decode cX10_restless 20 = .ok (.iload_n 3, 1) := by decide +kernel
theorem dX10_restless_21 : decode cX10_restless 21 = .ok (.aload_n 0, 1) := by decide +kernel
theorem dX10_restless_22 : decode cX10_restless 22 = .ok (.getfield 10, 3) := by decide +kernel
theorem dX10_restless_25 : decode cX10_restless 25 = .ok (.getfield 118, 3) := by decide +kernel
theorem dX10_restless_28 : decode cX10_restless 28 = .ok (.getfield 174, 3) := by decide +kernel
theorem dX10_restless_31 : decode cX10_restless 31 = .ok (.if_icmp .ge 21, 3) := by decide +kernel
theorem dX10_restless_34 : decode cX10_restless 34 = .ok (.aload_n 0, 1) := by decide +kernel
theorem dX10_restless_35 : decode cX10_restless 35 = .ok (.iload_n 2, 1) := by decide +kernel
theorem dX10_restless_36 : decode cX10_restless 36 = .ok (.iload_n 3, 1) := by decide +kernel
theorem dX10_restless_37 : decode cX10_restless 37 = .ok (.invokevirtual 175, 3) := by decide +kernel
theorem dX10_restless_40 : decode cX10_restless 40 = .ok (.ifCond .eq 6, 3) := by decide +kernel
theorem dX10_restless_43 : decode cX10_restless 43 = .ok (.iinc 1 1, 3) := by decide +kernel
theorem dX10_restless_46 : decode cX10_restless 46 = .ok (.iinc 3 1, 3) := by decide +kernel
theorem dX10_restless_49 : decode cX10_restless 49 = .ok (.goto (-29), 3) := by decide +kernel
theorem dX10_restless_52 : decode cX10_restless 52 = .ok (.iinc 2 1, 3) := by decide +kernel
theorem dX10_restless_55 : decode cX10_restless 55 = .ok (.goto (-51), 3) := by decide +kernel
theorem dX10_restless_58 : decode cX10_restless 58 = .ok (.iload_n 1, 1) := by decide +kernel
theorem dX10_restless_59 : decode cX10_restless 59 = .ok (.ireturn, 1) := by decide +kernel
theorem dX10_bid_0 : decode cX10_bid 0 = .ok (.aload_n 0, 1) := by decide +kernel
theorem dX10_bid_1 : decode cX10_bid 1 = .ok (.getfield 22, 3) := by decide +kernel
theorem dX10_bid_4 : decode cX10_bid 4 = .ok (.aload_n 0, 1) := by decide +kernel
theorem dX10_bid_5 : decode cX10_bid 5 = .ok (.getfield 10, 3) := by decide +kernel
theorem dX10_bid_8 : decode cX10_bid 8 = .ok (.invokevirtual 59, 3) := by decide +kernel
theorem dX10_bid_11 : decode cX10_bid 11 = .ok (.aload_n 0, 1) := by decide +kernel
theorem dX10_bid_12 : decode cX10_bid 12 = .ok (.aload_n 0, 1) := by decide +kernel
theorem dX10_bid_13 : decode cX10_bid 13 = .ok (.iload_n 1, 1) := by decide +kernel
theorem dX10_bid_14 : decode cX10_bid 14 = .ok (.iload_n 2, 1) := by decide +kernel
theorem dX10_bid_15 : decode cX10_bid 15 = .ok (.invokevirtual 178, 3) := by decide +kernel
theorem dX10_bid_18 : decode cX10_bid 18 = .ok (.invokevirtual 67, 3) := by decide +kernel
theorem dX10_bid_21 : decode cX10_bid 21 = .ok (.ireturn, 1) := by decide +kernel
theorem dX10_sell_0 : decode cX10_sell 0 = .ok (.aload_n 0, 1) := by decide +kernel
theorem dX10_sell_1 : decode cX10_sell 1 = .ok (.getfield 22, 3) := by decide +kernel
theorem dX10_sell_4 : decode cX10_sell 4 = .ok (.aload_n 0, 1) := by decide +kernel
theorem dX10_sell_5 : decode cX10_sell 5 = .ok (.getfield 10, 3) := by decide +kernel
theorem dX10_sell_8 : decode cX10_sell 8 = .ok (.invokevirtual 59, 3) := by decide +kernel
theorem dX10_sell_11 : decode cX10_sell 11 = .ok (.aload_n 0, 1) := by decide +kernel
theorem dX10_sell_12 : decode cX10_sell 12 = .ok (.aload_n 0, 1) := by decide +kernel
theorem dX10_sell_13 : decode cX10_sell 13 = .ok (.iload_n 1, 1) := by decide +kernel
theorem dX10_sell_14 : decode cX10_sell 14 = .ok (.invokevirtual 181, 3) := by decide +kernel
theorem dX10_sell_17 : decode cX10_sell 17 = .ok (.invokevirtual 67, 3) := by decide +kernel
theorem dX10_sell_20 : decode cX10_sell 20 = .ok (.ireturn, 1) := by decide +kernel
theorem dX10_concert_0 : decode cX10_concert 0 = .ok (.aload_n 0, 1) := by decide +kernel
theorem dX10_concert_1 : decode cX10_concert 1 = .ok (.getfield 22, 3) := by decide +kernel
theorem dX10_concert_4 : decode cX10_concert 4 = .ok (.aload_n 0, 1) := by decide +kernel
theorem dX10_concert_5 : decode cX10_concert 5 = .ok (.getfield 10, 3) := by decide +kernel
theorem dX10_concert_8 : decode cX10_concert 8 = .ok (.invokevirtual 59, 3) := by decide +kernel
theorem dX10_concert_11 : decode cX10_concert 11 = .ok (.aload_n 0, 1) := by decide +kernel
theorem dX10_concert_12 : decode cX10_concert 12 = .ok (.aload_n 0, 1) := by decide +kernel
theorem dX10_concert_13 : decode cX10_concert 13 = .ok (.iload_n 1, 1) := by decide +kernel
theorem dX10_concert_14 : decode cX10_concert 14 = .ok (.invokevirtual 184, 3) := by decide +kernel
theorem dX10_concert_17 : decode cX10_concert 17 = .ok (.invokevirtual 67, 3) := by decide +kernel
theorem dX10_concert_20 : decode cX10_concert 20 = .ok (.ireturn, 1) := by decide +kernel
theorem dX10_lasts_0 : decode cX10_lasts 0 = .ok (.iload_n 1, 1) := by decide +kernel
theorem dX10_lasts_1 : decode cX10_lasts 1 = .ok (.iconst 1, 1) := by decide +kernel
theorem dX10_lasts_2 : decode cX10_lasts 2 = .ok (.iconst 4, 1) := by decide +kernel
theorem dX10_lasts_3 : decode cX10_lasts 3 = .ok (.invokestatic 187, 3) := by decide +kernel
theorem dX10_lasts_6 : decode cX10_lasts 6 = .ok (.ifCond .ne 7, 3) := by decide +kernel
theorem dX10_lasts_9 : decode cX10_lasts 9 = .ok (.sipush (-1012), 3) := by decide +kernel
theorem dX10_lasts_12 : decode cX10_lasts 12 = .ok (.ireturn, 1) := by decide +kernel
theorem dX10_lasts_13 : decode cX10_lasts 13 = .ok (.sipush (-1015), 3) := by decide +kernel
theorem dX10_lasts_16 : decode cX10_lasts 16 = .ok (.istore_n 2, 1) := by decide +kernel
theorem dX10_lasts_17 : decode cX10_lasts 17 = .ok (.iconst 0, 1) := by decide +kernel
theorem dX10_lasts_18 : decode cX10_lasts 18 = .ok (.istore_n 3, 1) := by decide +kernel
theorem dX10_lasts_19 : decode cX10_lasts 19 = .ok (.iload_n 3, 1) := by decide +kernel
theorem dX10_lasts_20 : decode cX10_lasts 20 = .ok (.aload_n 0, 1) := by decide +kernel
theorem dX10_lasts_21 : decode cX10_lasts 21 = .ok (.getfield 10, 3) := by decide +kernel
theorem dX10_lasts_24 : decode cX10_lasts 24 = .ok (.getfield 75, 3) := by decide +kernel
theorem dX10_lasts_27 : decode cX10_lasts 27 = .ok (.getfield 170, 3) := by decide +kernel
theorem dX10_lasts_30 : decode cX10_lasts 30 = .ok (.if_icmp .ge 65, 3) := by decide +kernel
theorem dX10_lasts_33 : decode cX10_lasts 33 = .ok (.aload_n 0, 1) := by decide +kernel
theorem dX10_lasts_34 : decode cX10_lasts 34 = .ok (.getfield 10, 3) := by decide +kernel
theorem dX10_lasts_37 : decode cX10_lasts 37 = .ok (.iload_n 3, 1) := by decide +kernel
theorem dX10_lasts_38 : decode cX10_lasts 38 = .ok (.iload_n 1, 1) := by decide +kernel
theorem dX10_lasts_39 : decode cX10_lasts 39 = .ok (.invokevirtual 191, 3) := by decide +kernel
theorem dX10_lasts_42 : decode cX10_lasts 42 = .ok (.istore 4, 2) := by decide +kernel
theorem dX10_lasts_44 : decode cX10_lasts 44 = .ok (.iload 4, 2) := by decide +kernel
theorem dX10_lasts_46 : decode cX10_lasts 46 = .ok (.ifCond .le 43, 3) := by decide +kernel
theorem dX10_lasts_49 : decode cX10_lasts 49 = .ok (.aload_n 0, 1) := by decide +kernel
theorem dX10_lasts_50 : decode cX10_lasts 50 = .ok (.getfield 10, 3) := by decide +kernel
theorem dX10_lasts_53 : decode cX10_lasts 53 = .ok (.getfield 75, 3) := by decide +kernel
theorem dX10_lasts_56 : decode cX10_lasts 56 = .ok (.getfield 100, 3) := by decide +kernel
theorem dX10_lasts_59 : decode cX10_lasts 59 = .ok (.iload_n 3, 1) := by decide +kernel
theorem dX10_lasts_60 : decode cX10_lasts 60 = .ok (.invokevirtual 89, 3) := by decide +kernel
theorem dX10_lasts_63 : decode cX10_lasts 63 = .ok (.iconst 1, 1) := by decide +kernel
theorem dX10_lasts_64 : decode cX10_lasts 64 = .ok (.isub, 1) := by decide +kernel
theorem dX10_lasts_65 : decode cX10_lasts 65 = .ok (.iload 4, 2) := by decide +kernel
theorem dX10_lasts_67 : decode cX10_lasts 67 = .ok (.idiv, 1) := by decide +kernel
theorem dX10_lasts_68 : decode cX10_lasts 68 = .ok (.istore 5, 2) := by decide +kernel
theorem dX10_lasts_70 : decode cX10_lasts 70 = .ok (.iload_n 2, 1) := by decide +kernel
theorem dX10_lasts_71 : decode cX10_lasts 71 = .ok (.sipush (-1015), 3) := by decide +kernel
theorem dX10_lasts_74 : decode cX10_lasts 74 = .ok (.if_icmp .ne 8, 3) := by decide +kernel
theorem dX10_lasts_77 : decode cX10_lasts 77 = .ok (.iload 5, 2) := by decide +kernel
theorem dX10_lasts_79 : decode cX10_lasts 79 = .ok (.goto 9, 3) := by decide +kernel
theorem dX10_lasts_82 : decode cX10_lasts 82 = .ok (.iload_n 2, 1) := by decide +kernel
theorem dX10_lasts_83 : decode cX10_lasts 83 = .ok (.iload 5, 2) := by decide +kernel
theorem dX10_lasts_85 : decode cX10_lasts 85 = .ok (.invokestatic 194, 3) := by decide +kernel
theorem dX10_lasts_88 : decode cX10_lasts 88 = .ok (.istore_n 2, 1) := by decide +kernel
theorem dX10_lasts_89 : decode cX10_lasts 89 = .ok (.iinc 3 1, 3) := by decide +kernel
theorem dX10_lasts_92 : decode cX10_lasts 92 = .ok (.goto (-73), 3) := by decide +kernel
theorem dX10_lasts_95 : decode cX10_lasts 95 = .ok (.iload_n 2, 1) := by decide +kernel
theorem dX10_lasts_96 : decode cX10_lasts 96 = .ok (.ireturn, 1) := by decide +kernel
theorem dX10_raise_0 : decode cX10_raise 0 = .ok (.aload_n 0, 1) := by decide +kernel
theorem dX10_raise_1 : decode cX10_raise 1 = .ok (.getfield 22, 3) := by decide +kernel
theorem dX10_raise_4 : decode cX10_raise 4 = .ok (.aload_n 0, 1) := by decide +kernel
theorem dX10_raise_5 : decode cX10_raise 5 = .ok (.getfield 10, 3) := by decide +kernel
theorem dX10_raise_8 : decode cX10_raise 8 = .ok (.invokevirtual 59, 3) := by decide +kernel
theorem dX10_raise_11 : decode cX10_raise 11 = .ok (.aload_n 0, 1) := by decide +kernel
theorem dX10_raise_12 : decode cX10_raise 12 = .ok (.aload_n 0, 1) := by decide +kernel
theorem dX10_raise_13 : decode cX10_raise 13 = .ok (.iload_n 1, 1) := by decide +kernel
theorem dX10_raise_14 : decode cX10_raise 14 = .ok (.invokevirtual 199, 3) := by decide +kernel
theorem dX10_raise_17 : decode cX10_raise 17 = .ok (.invokevirtual 67, 3) := by decide +kernel
theorem dX10_raise_20 : decode cX10_raise 20 = .ok (.ireturn, 1) := by decide +kernel
theorem dX10_promote_0 : decode cX10_promote 0 = .ok (.aload_n 0, 1) := by decide +kernel
theorem dX10_promote_1 : decode cX10_promote 1 = .ok (.getfield 22, 3) := by decide +kernel
theorem dX10_promote_4 : decode cX10_promote 4 = .ok (.aload_n 0, 1) := by decide +kernel
theorem dX10_promote_5 : decode cX10_promote 5 = .ok (.getfield 10, 3) := by decide +kernel
theorem dX10_promote_8 : decode cX10_promote 8 = .ok (.invokevirtual 59, 3) := by decide +kernel
theorem dX10_promote_11 : decode cX10_promote 11 = .ok (.aload_n 0, 1) := by decide +kernel
theorem dX10_promote_12 : decode cX10_promote 12 = .ok (.aload_n 0, 1) := by decide +kernel
theorem dX10_promote_13 : decode cX10_promote 13 = .ok (.iload_n 1, 1) := by decide +kernel
theorem dX10_promote_14 : decode cX10_promote 14 = .ok (.invokevirtual 202, 3) := by decide +kernel
theorem dX10_promote_17 : decode cX10_promote 17 = .ok (.invokevirtual 67, 3) := by decide +kernel
theorem dX10_promote_20 : decode cX10_promote 20 = .ok (.ireturn, 1) := by decide +kernel
theorem dX10_hall_0 : decode cX10_hall 0 = .ok (.iload_n 1, 1) := by decide +kernel
theorem dX10_hall_1 : decode cX10_hall 1 = .ok (.iconst 0, 1) := by decide +kernel
theorem dX10_hall_2 : decode cX10_hall 2 = .ok (.iconst 2, 1) := by decide +kernel
theorem dX10_hall_3 : decode cX10_hall 3 = .ok (.invokestatic 187, 3) := by decide +kernel
theorem dX10_hall_6 : decode cX10_hall 6 = .ok (.ifCond .ne 7, 3) := by decide +kernel
theorem dX10_hall_9 : decode cX10_hall 9 = .ok (.sipush (-1012), 3) := by decide +kernel
theorem dX10_hall_12 : decode cX10_hall 12 = .ok (.ireturn, 1) := by decide +kernel
theorem dX10_hall_13 : decode cX10_hall 13 = .ok (.iconst 0, 1) := by decide +kernel
theorem dX10_hall_14 : decode cX10_hall 14 = .ok (.istore_n 2, 1) := by decide +kernel
theorem dX10_hall_15 : decode cX10_hall 15 = .ok (.iconst 0, 1) := by decide +kernel
theorem dX10_hall_16 : decode cX10_hall 16 = .ok (.istore_n 3, 1) := by decide +kernel
theorem dX10_hall_17 : decode cX10_hall 17 = .ok (.iload_n 3, 1) := by decide +kernel
theorem dX10_hall_18 : decode cX10_hall 18 = .ok (.aload_n 0, 1) := by decide +kernel
theorem dX10_hall_19 : decode cX10_hall 19 = .ok (.getfield 10, 3) := by decide +kernel
theorem dX10_hall_22 : decode cX10_hall 22 = .ok (.getfield 75, 3) := by decide +kernel
theorem dX10_hall_25 : decode cX10_hall 25 = .ok (.getfield 170, 3) := by decide +kernel
theorem dX10_hall_28 : decode cX10_hall 28 = .ok (.if_icmp .ge 33, 3) := by decide +kernel
theorem dX10_hall_31 : decode cX10_hall 31 = .ok (.aload_n 0, 1) := by decide +kernel
theorem dX10_hall_32 : decode cX10_hall 32 = .ok (.getfield 10, 3) := by decide +kernel
theorem dX10_hall_35 : decode cX10_hall 35 = .ok (.getfield 75, 3) := by decide +kernel
theorem dX10_hall_38 : decode cX10_hall 38 = .ok (.getfield 103, 3) := by decide +kernel
theorem dX10_hall_41 : decode cX10_hall 41 = .ok (.iload_n 3, 1) := by decide +kernel
theorem dX10_hall_42 : decode cX10_hall 42 = .ok (.invokevirtual 89, 3) := by decide +kernel
theorem dX10_hall_45 : decode cX10_hall 45 = .ok (.iload_n 1, 1) := by decide +kernel
theorem dX10_hall_46 : decode cX10_hall 46 = .ok (.if_icmp .ne 9, 3) := by decide +kernel
theorem dX10_hall_49 : decode cX10_hall 49 = .ok (.iload_n 2, 1) := by decide +kernel
theorem dX10_hall_50 : decode cX10_hall 50 = .ok (.iconst 1, 1) := by decide +kernel
theorem dX10_hall_51 : decode cX10_hall 51 = .ok (.iload_n 3, 1) := by decide +kernel
theorem dX10_hall_52 : decode cX10_hall 52 = .ok (.ishl, 1) := by decide +kernel
theorem dX10_hall_53 : decode cX10_hall 53 = .ok (.ior, 1) := by decide +kernel
theorem dX10_hall_54 : decode cX10_hall 54 = .ok (.istore_n 2, 1) := by decide +kernel
theorem dX10_hall_55 : decode cX10_hall 55 = .ok (.iinc 3 1, 3) := by decide +kernel
theorem dX10_hall_58 : decode cX10_hall 58 = .ok (.goto (-41), 3) := by decide +kernel
theorem dX10_hall_61 : decode cX10_hall 61 = .ok (.iload_n 2, 1) := by decide +kernel
theorem dX10_hall_62 : decode cX10_hall 62 = .ok (.ireturn, 1) := by decide +kernel
theorem dX10_ranked_0 : decode cX10_ranked 0 = .ok (.iconst 0, 1) := by decide +kernel
theorem dX10_ranked_1 : decode cX10_ranked 1 = .ok (.istore_n 2, 1) := by decide +kernel
theorem dX10_ranked_2 : decode cX10_ranked 2 = .ok (.iload_n 2, 1) := by decide +kernel
theorem dX10_ranked_3 : decode cX10_ranked 3 = .ok (.aload_n 0, 1) := by decide +kernel
theorem dX10_ranked_4 : decode cX10_ranked 4 = .ok (.getfield 10, 3) := by decide +kernel
theorem dX10_ranked_7 : decode cX10_ranked 7 = .ok (.getfield 75, 3) := by decide +kernel
theorem dX10_ranked_10 : decode cX10_ranked 10 = .ok (.getfield 170, 3) := by decide +kernel
theorem dX10_ranked_13 : decode cX10_ranked 13 = .ok (.if_icmp .ge 61, 3) := by decide +kernel
theorem dX10_ranked_16 : decode cX10_ranked 16 = .ok (.iconst 0, 1) := by decide +kernel
theorem dX10_ranked_17 : decode cX10_ranked 17 = .ok (.istore_n 3, 1) := by decide +kernel
theorem dX10_ranked_18 : decode cX10_ranked 18 = .ok (.iconst 0, 1) := by decide +kernel
theorem dX10_ranked_19 : decode cX10_ranked 19 = .ok (.istore 4, 2) := by decide +kernel
theorem dX10_ranked_21 : decode cX10_ranked 21 = .ok (.iload 4, 2) := by decide +kernel
theorem dX10_ranked_23 : decode cX10_ranked 23 = .ok (.aload_n 0, 1) := by decide +kernel
theorem dX10_ranked_24 : decode cX10_ranked 24 = .ok (.getfield 10, 3) := by decide +kernel
theorem dX10_ranked_27 : decode cX10_ranked 27 = .ok (.getfield 75, 3) := by decide +kernel
theorem dX10_ranked_30 : decode cX10_ranked 30 = .ok (.getfield 170, 3) := by decide +kernel
theorem dX10_ranked_33 : decode cX10_ranked 33 = .ok (.if_icmp .ge 28, 3) := by decide +kernel
theorem dX10_ranked_36 : decode cX10_ranked 36 = .ok (.aload_n 0, 1) := by decide +kernel
theorem dX10_ranked_37 : decode cX10_ranked 37 = .ok (.getfield 10, 3) := by decide +kernel
theorem dX10_ranked_40 : decode cX10_ranked 40 = .ok (.getfield 75, 3) := by decide +kernel
theorem dX10_ranked_43 : decode cX10_ranked 43 = .ok (.iload 4, 2) := by decide +kernel
theorem dX10_ranked_45 : decode cX10_ranked 45 = .ok (.iload_n 2, 1) := by decide +kernel
theorem dX10_ranked_46 : decode cX10_ranked 46 = .ok (.invokevirtual 205, 3) := by decide +kernel
theorem dX10_ranked_49 : decode cX10_ranked 49 = .ok (.ifCond .eq 6, 3) := by decide +kernel
theorem dX10_ranked_52 : decode cX10_ranked 52 = .ok (.iinc 3 1, 3) := by decide +kernel
theorem dX10_ranked_55 : decode cX10_ranked 55 = .ok (.iinc 4 1, 3) := by decide +kernel
theorem dX10_ranked_58 : decode cX10_ranked 58 = .ok (.goto (-37), 3) := by decide +kernel
theorem dX10_ranked_61 : decode cX10_ranked 61 = .ok (.iload_n 3, 1) := by decide +kernel
theorem dX10_ranked_62 : decode cX10_ranked 62 = .ok (.iload_n 1, 1) := by decide +kernel
theorem dX10_ranked_63 : decode cX10_ranked 63 = .ok (.if_icmp .ne 5, 3) := by decide +kernel
theorem dX10_ranked_66 : decode cX10_ranked 66 = .ok (.iload_n 2, 1) := by decide +kernel
theorem dX10_ranked_67 : decode cX10_ranked 67 = .ok (.ireturn, 1) := by decide +kernel
theorem dX10_ranked_68 : decode cX10_ranked 68 = .ok (.iinc 2 1, 3) := by decide +kernel
theorem dX10_ranked_71 : decode cX10_ranked 71 = .ok (.goto (-69), 3) := by decide +kernel
theorem dX10_ranked_74 : decode cX10_ranked 74 = .ok (.sipush (-1011), 3) := by decide +kernel
theorem dX10_ranked_77 : decode cX10_ranked 77 = .ok (.ireturn, 1) := by decide +kernel
theorem dX10_richest_0 : decode cX10_richest 0 = .ok (.iconst 0, 1) := by decide +kernel
theorem dX10_richest_1 : decode cX10_richest 1 = .ok (.istore_n 2, 1) := by decide +kernel
theorem dX10_richest_2 : decode cX10_richest 2 = .ok (.iload_n 2, 1) := by decide +kernel
theorem dX10_richest_3 : decode cX10_richest 3 = .ok (.aload_n 0, 1) := by decide +kernel
theorem dX10_richest_4 : decode cX10_richest 4 = .ok (.getfield 10, 3) := by decide +kernel
theorem dX10_richest_7 : decode cX10_richest 7 = .ok (.getfield 118, 3) := by decide +kernel
theorem dX10_richest_10 : decode cX10_richest 10 = .ok (.getfield 174, 3) := by decide +kernel
theorem dX10_richest_13 : decode cX10_richest 13 = .ok (.if_icmp .ge 61, 3) := by decide +kernel
theorem dX10_richest_16 : decode cX10_richest 16 = .ok (.iconst 0, 1) := by decide +kernel
theorem dX10_richest_17 : decode cX10_richest 17 = .ok (.istore_n 3, 1) := by decide +kernel
theorem dX10_richest_18 : decode cX10_richest 18 = .ok (.iconst 0, 1) := by decide +kernel
theorem dX10_richest_19 : decode cX10_richest 19 = .ok (.istore 4, 2) := by decide +kernel
theorem dX10_richest_21 : decode cX10_richest 21 = .ok (.iload 4, 2) := by decide +kernel
theorem dX10_richest_23 : decode cX10_richest 23 = .ok (.aload_n 0, 1) := by decide +kernel
theorem dX10_richest_24 : decode cX10_richest 24 = .ok (.getfield 10, 3) := by decide +kernel
theorem dX10_richest_27 : decode cX10_richest 27 = .ok (.getfield 118, 3) := by decide +kernel
theorem dX10_richest_30 : decode cX10_richest 30 = .ok (.getfield 174, 3) := by decide +kernel
theorem dX10_richest_33 : decode cX10_richest 33 = .ok (.if_icmp .ge 28, 3) := by decide +kernel
theorem dX10_richest_36 : decode cX10_richest 36 = .ok (.aload_n 0, 1) := by decide +kernel
theorem dX10_richest_37 : decode cX10_richest 37 = .ok (.getfield 10, 3) := by decide +kernel
theorem dX10_richest_40 : decode cX10_richest 40 = .ok (.getfield 118, 3) := by decide +kernel
theorem dX10_richest_43 : decode cX10_richest 43 = .ok (.iload 4, 2) := by decide +kernel
theorem dX10_richest_45 : decode cX10_richest 45 = .ok (.iload_n 2, 1) := by decide +kernel
theorem dX10_richest_46 : decode cX10_richest 46 = .ok (.invokevirtual 208, 3) := by decide +kernel
theorem dX10_richest_49 : decode cX10_richest 49 = .ok (.ifCond .eq 6, 3) := by decide +kernel
theorem dX10_richest_52 : decode cX10_richest 52 = .ok (.iinc 3 1, 3) := by decide +kernel
theorem dX10_richest_55 : decode cX10_richest 55 = .ok (.iinc 4 1, 3) := by decide +kernel
theorem dX10_richest_58 : decode cX10_richest 58 = .ok (.goto (-37), 3) := by decide +kernel
theorem dX10_richest_61 : decode cX10_richest 61 = .ok (.iload_n 3, 1) := by decide +kernel
theorem dX10_richest_62 : decode cX10_richest 62 = .ok (.iload_n 1, 1) := by decide +kernel
theorem dX10_richest_63 : decode cX10_richest 63 = .ok (.if_icmp .ne 5, 3) := by decide +kernel
theorem dX10_richest_66 : decode cX10_richest 66 = .ok (.iload_n 2, 1) := by decide +kernel
theorem dX10_richest_67 : decode cX10_richest 67 = .ok (.ireturn, 1) := by decide +kernel
theorem dX10_richest_68 : decode cX10_richest 68 = .ok (.iinc 2 1, 3) := by decide +kernel
theorem dX10_richest_71 : decode cX10_richest 71 = .ok (.goto (-69), 3) := by decide +kernel
theorem dX10_richest_74 : decode cX10_richest 74 = .ok (.sipush (-1011), 3) := by decide +kernel
theorem dX10_richest_77 : decode cX10_richest 77 = .ok (.ireturn, 1) := by decide +kernel
theorem dX10_append_0 : decode cX10_append 0 = .ok (.iload_n 1, 1) := by decide +kernel
theorem dX10_append_1 : decode cX10_append 1 = .ok (.bipush 32, 2) := by decide +kernel
theorem dX10_append_3 : decode cX10_append 3 = .ok (.bipush 126, 2) := by decide +kernel
theorem dX10_append_5 : decode cX10_append 5 = .ok (.invokestatic 187, 3) := by decide +kernel
theorem dX10_append_8 : decode cX10_append 8 = .ok (.ifCond .ne 7, 3) := by decide +kernel
theorem dX10_append_11 : decode cX10_append 11 = .ok (.sipush (-1012), 3) := by decide +kernel
theorem dX10_append_14 : decode cX10_append 14 = .ok (.ireturn, 1) := by decide +kernel
theorem dX10_append_15 : decode cX10_append 15 = .ok (.aload_n 0, 1) := by decide +kernel
theorem dX10_append_16 : decode cX10_append 16 = .ok (.getfield 39, 3) := by decide +kernel
theorem dX10_append_19 : decode cX10_append 19 = .ok (.getfield 209, 3) := by decide +kernel
theorem dX10_append_22 : decode cX10_append 22 = .ok (.invokevirtual 212, 3) := by decide +kernel
theorem dX10_append_25 : decode cX10_append 25 = .ok (.bipush 60, 2) := by decide +kernel
theorem dX10_append_27 : decode cX10_append 27 = .ok (.if_icmp .lt 7, 3) := by decide +kernel
theorem dX10_append_30 : decode cX10_append 30 = .ok (.sipush (-1013), 3) := by decide +kernel
theorem dX10_append_33 : decode cX10_append 33 = .ok (.ireturn, 1) := by decide +kernel
theorem dX10_append_34 : decode cX10_append 34 = .ok (.aload_n 0, 1) := by decide +kernel
theorem dX10_append_35 : decode cX10_append 35 = .ok (.getfield 39, 3) := by decide +kernel
theorem dX10_append_38 : decode cX10_append 38 = .ok (.getfield 209, 3) := by decide +kernel
theorem dX10_append_41 : decode cX10_append 41 = .ok (.iload_n 1, 1) := by decide +kernel
theorem dX10_append_42 : decode cX10_append 42 = .ok (.invokevirtual 215, 3) := by decide +kernel
theorem dX10_append_45 : decode cX10_append 45 = .ok (.aload_n 0, 1) := by decide +kernel
theorem dX10_append_46 : decode cX10_append 46 = .ok (.getfield 39, 3) := by decide +kernel
theorem dX10_append_49 : decode cX10_append 49 = .ok (.getfield 209, 3) := by decide +kernel
theorem dX10_append_52 : decode cX10_append 52 = .ok (.invokevirtual 212, 3) := by decide +kernel
theorem dX10_append_55 : decode cX10_append 55 = .ok (.ireturn, 1) := by decide +kernel
theorem dX10_run_0 : decode cX10_run 0 = .ok (.aload_n 0, 1) := by decide +kernel
theorem dX10_run_1 : decode cX10_run 1 = .ok (.getfield 39, 3) := by decide +kernel
theorem dX10_run_4 : decode cX10_run 4 = .ok (.invokevirtual 218, 3) := by decide +kernel
theorem dX10_run_7 : decode cX10_run 7 = .ok (.istore_n 1, 1) := by decide +kernel
theorem dX10_run_8 : decode cX10_run 8 = .ok (.aload_n 0, 1) := by decide +kernel
theorem dX10_run_9 : decode cX10_run 9 = .ok (.getfield 39, 3) := by decide +kernel
theorem dX10_run_12 : decode cX10_run 12 = .ok (.getfield 209, 3) := by decide +kernel
theorem dX10_run_15 : decode cX10_run 15 = .ok (.invokevirtual 221, 3) := by decide +kernel
theorem dX10_run_18 : decode cX10_run 18 = .ok (.iload_n 1, 1) := by decide +kernel
theorem dX10_run_19 : decode cX10_run 19 = .ok (.iconst (-1), 1) := by decide +kernel
theorem dX10_run_20 : decode cX10_run 20 = .ok (.if_icmp .eq 9, 3) := by decide +kernel
theorem dX10_run_23 : decode cX10_run 23 = .ok (.sipush (-2000), 3) := by decide +kernel
theorem dX10_run_26 : decode cX10_run 26 = .ok (.iload_n 1, 1) := by decide +kernel
theorem dX10_run_27 : decode cX10_run 27 = .ok (.isub, 1) := by decide +kernel
theorem dX10_run_28 : decode cX10_run 28 = .ok (.ireturn, 1) := by decide +kernel
theorem dX10_run_29 : decode cX10_run 29 = .ok (.aload_n 0, 1) := by decide +kernel
theorem dX10_run_30 : decode cX10_run 30 = .ok (.getfield 22, 3) := by decide +kernel
theorem dX10_run_33 : decode cX10_run 33 = .ok (.aload_n 0, 1) := by decide +kernel
theorem dX10_run_34 : decode cX10_run 34 = .ok (.getfield 10, 3) := by decide +kernel
theorem dX10_run_37 : decode cX10_run 37 = .ok (.invokevirtual 59, 3) := by decide +kernel
theorem dX10_run_40 : decode cX10_run 40 = .ok (.iconst 0, 1) := by decide +kernel
theorem dX10_run_41 : decode cX10_run 41 = .ok (.istore_n 2, 1) := by decide +kernel
theorem dX10_run_42 : decode cX10_run 42 = .ok (.iload_n 2, 1) := by decide +kernel
theorem dX10_run_43 : decode cX10_run 43 = .ok (.aload_n 0, 1) := by decide +kernel
theorem dX10_run_44 : decode cX10_run 44 = .ok (.getfield 39, 3) := by decide +kernel
theorem dX10_run_47 : decode cX10_run 47 = .ok (.invokevirtual 224, 3) := by decide +kernel
theorem dX10_run_50 : decode cX10_run 50 = .ok (.if_icmp .ge 37, 3) := by decide +kernel
theorem dX10_run_53 : decode cX10_run 53 = .ok (.aload_n 0, 1) := by decide +kernel
theorem dX10_run_54 : decode cX10_run 54 = .ok (.iload_n 2, 1) := by decide +kernel
theorem dX10_run_55 : decode cX10_run 55 = .ok (.invokevirtual 226, 3) := by decide +kernel
theorem dX10_run_58 : decode cX10_run 58 = .ok (.istore_n 3, 1) := by decide +kernel
theorem dX10_run_59 : decode cX10_run 59 = .ok (.iload_n 3, 1) := by decide +kernel
theorem dX10_run_60 : decode cX10_run 60 = .ok (.ifCond .ge 21, 3) := by decide +kernel
theorem dX10_run_63 : decode cX10_run 63 = .ok (.aload_n 0, 1) := by decide +kernel
theorem dX10_run_64 : decode cX10_run 64 = .ok (.getfield 22, 3) := by decide +kernel
theorem dX10_run_67 : decode cX10_run 67 = .ok (.aload_n 0, 1) := by decide +kernel
theorem dX10_run_68 : decode cX10_run 68 = .ok (.getfield 10, 3) := by decide +kernel
theorem dX10_run_71 : decode cX10_run 71 = .ok (.invokevirtual 229, 3) := by decide +kernel
theorem dX10_run_74 : decode cX10_run 74 = .ok (.aload_n 0, 1) := by decide +kernel
theorem dX10_run_75 : decode cX10_run 75 = .ok (.iload_n 2, 1) := by decide +kernel
theorem dX10_run_76 : decode cX10_run 76 = .ok (.iload_n 3, 1) := by decide +kernel
theorem dX10_run_77 : decode cX10_run 77 = .ok (.invokevirtual 232, 3) := by decide +kernel
theorem dX10_run_80 : decode cX10_run 80 = .ok (.ireturn, 1) := by decide +kernel
theorem dX10_run_81 : decode cX10_run 81 = .ok (.iinc 2 1, 3) := by decide +kernel
theorem dX10_run_84 : decode cX10_run 84 = .ok (.goto (-42), 3) := by decide +kernel
theorem dX10_run_87 : decode cX10_run 87 = .ok (.aload_n 0, 1) := by decide +kernel
theorem dX10_run_88 : decode cX10_run 88 = .ok (.aload_n 0, 1) := by decide +kernel
theorem dX10_run_89 : decode cX10_run 89 = .ok (.getfield 39, 3) := by decide +kernel
theorem dX10_run_92 : decode cX10_run 92 = .ok (.invokevirtual 224, 3) := by decide +kernel
theorem dX10_run_95 : decode cX10_run 95 = .ok (.invokevirtual 67, 3) := by decide +kernel
theorem dX10_run_98 : decode cX10_run 98 = .ok (.ireturn, 1) := by decide +kernel
theorem dX10_tell_0 : decode cX10_tell 0 = .ok (.aload_n 0, 1) := by decide +kernel
theorem dX10_tell_1 : decode cX10_tell 1 = .ok (.getfield 10, 3) := by decide +kernel
theorem dX10_tell_4 : decode cX10_tell 4 = .ok (.getfield 75, 3) := by decide +kernel
theorem dX10_tell_7 : decode cX10_tell 7 = .ok (.astore_n 2, 1) := by decide +kernel
theorem dX10_tell_8 : decode cX10_tell 8 = .ok (.aload_n 2, 1) := by decide +kernel
theorem dX10_tell_9 : decode cX10_tell 9 = .ok (.iload_n 1, 1) := by decide +kernel
theorem dX10_tell_10 : decode cX10_tell 10 = .ok (.invokevirtual 79, 3) := by decide +kernel
theorem dX10_tell_13 : decode cX10_tell 13 = .ok (.ifCond .ne 7, 3) := by decide +kernel
theorem dX10_tell_16 : decode cX10_tell 16 = .ok (.sipush (-1011), 3) := by decide +kernel
theorem dX10_tell_19 : decode cX10_tell 19 = .ok (.ireturn, 1) := by decide +kernel
theorem dX10_tell_20 : decode cX10_tell 20 = .ok (.aload_n 0, 1) := by decide +kernel
theorem dX10_tell_21 : decode cX10_tell 21 = .ok (.getfield 48, 3) := by decide +kernel
theorem dX10_tell_24 : decode cX10_tell 24 = .ok (.invokevirtual 221, 3) := by decide +kernel
theorem dX10_tell_27 : decode cX10_tell 27 = .ok (.aload_n 0, 1) := by decide +kernel
theorem dX10_tell_28 : decode cX10_tell 28 = .ok (.getfield 48, 3) := by decide +kernel
theorem dX10_tell_31 : decode cX10_tell 31 = .ok (.iload_n 1, 1) := by decide +kernel
theorem dX10_tell_32 : decode cX10_tell 32 = .ok (.invokevirtual 235, 3) := by decide +kernel
theorem dX10_tell_35 : decode cX10_tell 35 = .ok (.aload_n 0, 1) := by decide +kernel
theorem dX10_tell_36 : decode cX10_tell 36 = .ok (.getfield 48, 3) := by decide +kernel
theorem dX10_tell_39 : decode cX10_tell 39 = .ok (.bipush 115, 2) := by decide +kernel
theorem dX10_tell_41 : decode cX10_tell 41 = .ok (.invokevirtual 215, 3) := by decide +kernel
theorem dX10_tell_44 : decode cX10_tell 44 = .ok (.aload_n 0, 1) := by decide +kernel
theorem dX10_tell_45 : decode cX10_tell 45 = .ok (.getfield 48, 3) := by decide +kernel
theorem dX10_tell_48 : decode cX10_tell 48 = .ok (.aload_n 2, 1) := by decide +kernel
theorem dX10_tell_49 : decode cX10_tell 49 = .ok (.getfield 85, 3) := by decide +kernel
theorem dX10_tell_52 : decode cX10_tell 52 = .ok (.iload_n 1, 1) := by decide +kernel
theorem dX10_tell_53 : decode cX10_tell 53 = .ok (.invokevirtual 89, 3) := by decide +kernel
theorem dX10_tell_56 : decode cX10_tell 56 = .ok (.invokevirtual 235, 3) := by decide +kernel
theorem dX10_tell_59 : decode cX10_tell 59 = .ok (.aload_n 0, 1) := by decide +kernel
theorem dX10_tell_60 : decode cX10_tell 60 = .ok (.getfield 48, 3) := by decide +kernel
theorem dX10_tell_63 : decode cX10_tell 63 = .ok (.bipush 110, 2) := by decide +kernel
theorem dX10_tell_65 : decode cX10_tell 65 = .ok (.invokevirtual 215, 3) := by decide +kernel
theorem dX10_tell_68 : decode cX10_tell 68 = .ok (.aload_n 0, 1) := by decide +kernel
theorem dX10_tell_69 : decode cX10_tell 69 = .ok (.getfield 48, 3) := by decide +kernel
theorem dX10_tell_72 : decode cX10_tell 72 = .ok (.aload_n 2, 1) := by decide +kernel
theorem dX10_tell_73 : decode cX10_tell 73 = .ok (.getfield 94, 3) := by decide +kernel
theorem dX10_tell_76 : decode cX10_tell 76 = .ok (.iload_n 1, 1) := by decide +kernel
theorem dX10_tell_77 : decode cX10_tell 77 = .ok (.invokevirtual 89, 3) := by decide +kernel
theorem dX10_tell_80 : decode cX10_tell 80 = .ok (.invokevirtual 235, 3) := by decide +kernel
theorem dX10_tell_83 : decode cX10_tell 83 = .ok (.aload_n 0, 1) := by decide +kernel
theorem dX10_tell_84 : decode cX10_tell 84 = .ok (.getfield 48, 3) := by decide +kernel
theorem dX10_tell_87 : decode cX10_tell 87 = .ok (.bipush 99, 2) := by decide +kernel
theorem dX10_tell_89 : decode cX10_tell 89 = .ok (.invokevirtual 215, 3) := by decide +kernel
theorem dX10_tell_92 : decode cX10_tell 92 = .ok (.aload_n 0, 1) := by decide +kernel
theorem dX10_tell_93 : decode cX10_tell 93 = .ok (.getfield 48, 3) := by decide +kernel
theorem dX10_tell_96 : decode cX10_tell 96 = .ok (.aload_n 2, 1) := by decide +kernel
theorem dX10_tell_97 : decode cX10_tell 97 = .ok (.getfield 97, 3) := by decide +kernel
theorem dX10_tell_100 : decode cX10_tell 100 = .ok (.iload_n 1, 1) := by decide +kernel
theorem dX10_tell_101 : decode cX10_tell 101 = .ok (.invokevirtual 89, 3) := by decide +kernel
theorem dX10_tell_104 : decode cX10_tell 104 = .ok (.invokevirtual 235, 3) := by decide +kernel
theorem dX10_tell_107 : decode cX10_tell 107 = .ok (.iconst 0, 1) := by decide +kernel
theorem dX10_tell_108 : decode cX10_tell 108 = .ok (.istore_n 3, 1) := by decide +kernel
theorem dX10_tell_109 : decode cX10_tell 109 = .ok (.iload_n 3, 1) := by decide +kernel
theorem dX10_tell_110 : decode cX10_tell 110 = .ok (.aload_n 2, 1) := by decide +kernel
theorem dX10_tell_111 : decode cX10_tell 111 = .ok (.getfield 103, 3) := by decide +kernel
theorem dX10_tell_114 : decode cX10_tell 114 = .ok (.iload_n 1, 1) := by decide +kernel
theorem dX10_tell_115 : decode cX10_tell 115 = .ok (.invokevirtual 89, 3) := by decide +kernel
theorem dX10_tell_118 : decode cX10_tell 118 = .ok (.if_icmp .ge 18, 3) := by decide +kernel
theorem dX10_tell_121 : decode cX10_tell 121 = .ok (.aload_n 0, 1) := by decide +kernel
theorem dX10_tell_122 : decode cX10_tell 122 = .ok (.getfield 48, 3) := by decide +kernel
theorem dX10_tell_125 : decode cX10_tell 125 = .ok (.bipush 94, 2) := by decide +kernel
theorem dX10_tell_127 : decode cX10_tell 127 = .ok (.invokevirtual 215, 3) := by decide +kernel
theorem dX10_tell_130 : decode cX10_tell 130 = .ok (.iinc 3 1, 3) := by decide +kernel
theorem dX10_tell_133 : decode cX10_tell 133 = .ok (.goto (-24), 3) := by decide +kernel
theorem dX10_tell_136 : decode cX10_tell 136 = .ok (.aload_n 2, 1) := by decide +kernel
theorem dX10_tell_137 : decode cX10_tell 137 = .ok (.iload_n 1, 1) := by decide +kernel
theorem dX10_tell_138 : decode cX10_tell 138 = .ok (.invokevirtual 238, 3) := by decide +kernel
theorem dX10_tell_141 : decode cX10_tell 141 = .ok (.ifCond .eq 12, 3) := by decide +kernel
theorem dX10_tell_144 : decode cX10_tell 144 = .ok (.aload_n 0, 1) := by decide +kernel
theorem dX10_tell_145 : decode cX10_tell 145 = .ok (.getfield 48, 3) := by decide +kernel
theorem dX10_tell_148 : decode cX10_tell 148 = .ok (.bipush 120, 2) := by decide +kernel
theorem dX10_tell_150 : decode cX10_tell 150 = .ok (.invokevirtual 215, 3) := by decide +kernel
theorem dX10_tell_153 : decode cX10_tell 153 = .ok (.aload_n 2, 1) := by decide +kernel
theorem dX10_tell_154 : decode cX10_tell 154 = .ok (.iload_n 1, 1) := by decide +kernel
theorem dX10_tell_155 : decode cX10_tell 155 = .ok (.invokevirtual 241, 3) := by decide +kernel
theorem dX10_tell_158 : decode cX10_tell 158 = .ok (.ifCond .eq 27, 3) := by decide +kernel
theorem dX10_tell_161 : decode cX10_tell 161 = .ok (.aload_n 0, 1) := by decide +kernel
theorem dX10_tell_162 : decode cX10_tell 162 = .ok (.getfield 48, 3) := by decide +kernel
theorem dX10_tell_165 : decode cX10_tell 165 = .ok (.bipush 58, 2) := by decide +kernel
theorem dX10_tell_167 : decode cX10_tell 167 = .ok (.invokevirtual 215, 3) := by decide +kernel
theorem dX10_tell_170 : decode cX10_tell 170 = .ok (.aload_n 0, 1) := by decide +kernel
theorem dX10_tell_171 : decode cX10_tell 171 = .ok (.getfield 48, 3) := by decide +kernel
theorem dX10_tell_174 : decode cX10_tell 174 = .ok (.aload_n 2, 1) := by decide +kernel
theorem dX10_tell_175 : decode cX10_tell 175 = .ok (.getfield 112, 3) := by decide +kernel
theorem dX10_tell_178 : decode cX10_tell 178 = .ok (.iload_n 1, 1) := by decide +kernel
theorem dX10_tell_179 : decode cX10_tell 179 = .ok (.invokevirtual 89, 3) := by decide +kernel
theorem dX10_tell_182 : decode cX10_tell 182 = .ok (.invokevirtual 235, 3) := by decide +kernel
theorem dX10_tell_185 : decode cX10_tell 185 = .ok (.aload_n 0, 1) := by decide +kernel
theorem dX10_tell_186 : decode cX10_tell 186 = .ok (.getfield 48, 3) := by decide +kernel
theorem dX10_tell_189 : decode cX10_tell 189 = .ok (.invokevirtual 212, 3) := by decide +kernel
theorem dX10_tell_192 : decode cX10_tell 192 = .ok (.ireturn, 1) := by decide +kernel
theorem dX10_reason_0 : decode cX10_reason 0 = .ok (.iload_n 1, 1) := by decide +kernel
theorem dX10_reason_1 : decode cX10_reason 1 = .ok (.iconst 0, 1) := by decide +kernel
theorem dX10_reason_2 : decode cX10_reason 2 = .ok (.iconst 2, 1) := by decide +kernel
theorem dX10_reason_3 : decode cX10_reason 3 = .ok (.invokestatic 187, 3) := by decide +kernel
theorem dX10_reason_6 : decode cX10_reason 6 = .ok (.ifCond .ne 7, 3) := by decide +kernel
theorem dX10_reason_9 : decode cX10_reason 9 = .ok (.sipush (-1012), 3) := by decide +kernel
theorem dX10_reason_12 : decode cX10_reason 12 = .ok (.ireturn, 1) := by decide +kernel
theorem dX10_reason_13 : decode cX10_reason 13 = .ok (.aload_n 0, 1) := by decide +kernel
theorem dX10_reason_14 : decode cX10_reason 14 = .ok (.getfield 55, 3) := by decide +kernel
theorem dX10_reason_17 : decode cX10_reason 17 = .ok (.iload_n 1, 1) := by decide +kernel
theorem dX10_reason_18 : decode cX10_reason 18 = .ok (.invokevirtual 248, 3) := by decide +kernel
theorem dX10_reason_21 : decode cX10_reason 21 = .ok (.ifCond .ne 7, 3) := by decide +kernel
theorem dX10_reason_24 : decode cX10_reason 24 = .ok (.sipush (-1015), 3) := by decide +kernel
theorem dX10_reason_27 : decode cX10_reason 27 = .ok (.ireturn, 1) := by decide +kernel
theorem dX10_reason_28 : decode cX10_reason 28 = .ok (.iload_n 2, 1) := by decide +kernel
theorem dX10_reason_29 : decode cX10_reason 29 = .ok (.ifCond .eq 17, 3) := by decide +kernel
theorem dX10_reason_32 : decode cX10_reason 32 = .ok (.aload_n 0, 1) := by decide +kernel
theorem dX10_reason_33 : decode cX10_reason 33 = .ok (.getfield 55, 3) := by decide +kernel
theorem dX10_reason_36 : decode cX10_reason 36 = .ok (.getfield 251, 3) := by decide +kernel
theorem dX10_reason_39 : decode cX10_reason 39 = .ok (.iload_n 1, 1) := by decide +kernel
theorem dX10_reason_40 : decode cX10_reason 40 = .ok (.invokevirtual 89, 3) := by decide +kernel
theorem dX10_reason_43 : decode cX10_reason 43 = .ok (.goto 14, 3) := by decide +kernel
theorem dX10_reason_46 : decode cX10_reason 46 = .ok (.aload_n 0, 1) := by decide +kernel
theorem dX10_reason_47 : decode cX10_reason 47 = .ok (.getfield 55, 3) := by decide +kernel
theorem dX10_reason_50 : decode cX10_reason 50 = .ok (.getfield 254, 3) := by decide +kernel
theorem dX10_reason_53 : decode cX10_reason 53 = .ok (.iload_n 1, 1) := by decide +kernel
theorem dX10_reason_54 : decode cX10_reason 54 = .ok (.invokevirtual 89, 3) := by decide +kernel
theorem dX10_reason_57 : decode cX10_reason 57 = .ok (.ireturn, 1) := by decide +kernel
theorem dX10_account_0 : decode cX10_account 0 = .ok (.aload_n 0, 1) := by decide +kernel
theorem dX10_account_1 : decode cX10_account 1 = .ok (.getfield 10, 3) := by decide +kernel
theorem dX10_account_4 : decode cX10_account 4 = .ok (.getfield 257, 3) := by decide +kernel
theorem dX10_account_7 : decode cX10_account 7 = .ok (.astore_n 2, 1) := by decide +kernel
theorem dX10_account_8 : decode cX10_account 8 = .ok (.iload_n 1, 1) := by decide +kernel
theorem dX10_account_9 : decode cX10_account 9 = .ok (.tableswitch 180 0 13 #[71, 82, 93, 104, 115, 126, 131, 136, 141, 146, 151, 156, 161, 172], 71) := by decide +kernel
theorem dX10_account_80 : decode cX10_account 80 = .ok (.aload_n 0, 1) := by decide +kernel
theorem dX10_account_81 : decode cX10_account 81 = .ok (.getfield 10, 3) := by decide +kernel
theorem dX10_account_84 : decode cX10_account 84 = .ok (.getfield 75, 3) := by decide +kernel
theorem dX10_account_87 : decode cX10_account 87 = .ok (.getfield 170, 3) := by decide +kernel
theorem dX10_account_90 : decode cX10_account 90 = .ok (.ireturn, 1) := by decide +kernel
theorem dX10_account_91 : decode cX10_account 91 = .ok (.aload_n 0, 1) := by decide +kernel
theorem dX10_account_92 : decode cX10_account 92 = .ok (.getfield 10, 3) := by decide +kernel
theorem dX10_account_95 : decode cX10_account 95 = .ok (.getfield 118, 3) := by decide +kernel
theorem dX10_account_98 : decode cX10_account 98 = .ok (.getfield 174, 3) := by decide +kernel
theorem dX10_account_101 : decode cX10_account 101 = .ok (.ireturn, 1) := by decide +kernel
theorem dX10_account_102 : decode cX10_account 102 = .ok (.aload_n 0, 1) := by decide +kernel
theorem dX10_account_103 : decode cX10_account 103 = .ok (.getfield 10, 3) := by decide +kernel
theorem dX10_account_106 : decode cX10_account 106 = .ok (.getfield 118, 3) := by decide +kernel
theorem dX10_account_109 : decode cX10_account 109 = .ok (.invokevirtual 261, 3) := by decide +kernel
theorem dX10_account_112 : decode cX10_account 112 = .ok (.ireturn, 1) := by decide +kernel
theorem dX10_account_113 : decode cX10_account 113 = .ok (.aload_n 0, 1) := by decide +kernel
theorem dX10_account_114 : decode cX10_account 114 = .ok (.getfield 10, 3) := by decide +kernel
theorem dX10_account_117 : decode cX10_account 117 = .ok (.getfield 75, 3) := by decide +kernel
theorem dX10_account_120 : decode cX10_account 120 = .ok (.invokevirtual 264, 3) := by decide +kernel
theorem dX10_account_123 : decode cX10_account 123 = .ok (.ireturn, 1) := by decide +kernel
theorem dX10_account_124 : decode cX10_account 124 = .ok (.aload_n 0, 1) := by decide +kernel
theorem dX10_account_125 : decode cX10_account 125 = .ok (.getfield 10, 3) := by decide +kernel
theorem dX10_account_128 : decode cX10_account 128 = .ok (.getfield 118, 3) := by decide +kernel
theorem dX10_account_131 : decode cX10_account 131 = .ok (.invokevirtual 267, 3) := by decide +kernel
theorem dX10_account_134 : decode cX10_account 134 = .ok (.ireturn, 1) := by decide +kernel
theorem dX10_account_135 : decode cX10_account 135 = .ok (.aload_n 2, 1) := by decide +kernel
theorem dX10_account_136 : decode cX10_account 136 = .ok (.getfield 270, 3) := by decide +kernel
theorem dX10_account_139 : decode cX10_account 139 = .ok (.ireturn, 1) := by decide +kernel
theorem dX10_account_140 : decode cX10_account 140 = .ok (.aload_n 2, 1) := by decide +kernel
theorem dX10_account_141 : decode cX10_account 141 = .ok (.getfield 275, 3) := by decide +kernel
theorem dX10_account_144 : decode cX10_account 144 = .ok (.ireturn, 1) := by decide +kernel
theorem dX10_account_145 : decode cX10_account 145 = .ok (.aload_n 2, 1) := by decide +kernel
theorem dX10_account_146 : decode cX10_account 146 = .ok (.getfield 278, 3) := by decide +kernel
theorem dX10_account_149 : decode cX10_account 149 = .ok (.ireturn, 1) := by decide +kernel
theorem dX10_account_150 : decode cX10_account 150 = .ok (.aload_n 2, 1) := by decide +kernel
theorem dX10_account_151 : decode cX10_account 151 = .ok (.getfield 281, 3) := by decide +kernel
theorem dX10_account_154 : decode cX10_account 154 = .ok (.ireturn, 1) := by decide +kernel
theorem dX10_account_155 : decode cX10_account 155 = .ok (.aload_n 2, 1) := by decide +kernel
theorem dX10_account_156 : decode cX10_account 156 = .ok (.getfield 284, 3) := by decide +kernel
theorem dX10_account_159 : decode cX10_account 159 = .ok (.ireturn, 1) := by decide +kernel
theorem dX10_account_160 : decode cX10_account 160 = .ok (.aload_n 2, 1) := by decide +kernel
theorem dX10_account_161 : decode cX10_account 161 = .ok (.getfield 287, 3) := by decide +kernel
theorem dX10_account_164 : decode cX10_account 164 = .ok (.ireturn, 1) := by decide +kernel
theorem dX10_account_165 : decode cX10_account 165 = .ok (.aload_n 2, 1) := by decide +kernel
theorem dX10_account_166 : decode cX10_account 166 = .ok (.getfield 290, 3) := by decide +kernel
theorem dX10_account_169 : decode cX10_account 169 = .ok (.ireturn, 1) := by decide +kernel
theorem dX10_account_170 : decode cX10_account 170 = .ok (.aload_n 0, 1) := by decide +kernel
theorem dX10_account_171 : decode cX10_account 171 = .ok (.getfield 39, 3) := by decide +kernel
theorem dX10_account_174 : decode cX10_account 174 = .ok (.getfield 209, 3) := by decide +kernel
theorem dX10_account_177 : decode cX10_account 177 = .ok (.invokevirtual 212, 3) := by decide +kernel
theorem dX10_account_180 : decode cX10_account 180 = .ok (.ireturn, 1) := by decide +kernel
theorem dX10_account_181 : decode cX10_account 181 = .ok (.aload_n 0, 1) := by decide +kernel
theorem dX10_account_182 : decode cX10_account 182 = .ok (.getfield 22, 3) := by decide +kernel
theorem dX10_account_185 : decode cX10_account 185 = .ok (.invokevirtual 293, 3) := by decide +kernel
theorem dX10_account_188 : decode cX10_account 188 = .ok (.ireturn, 1) := by decide +kernel
theorem dX10_account_189 : decode cX10_account 189 = .ok (.sipush (-1012), 3) := by decide +kernel
theorem dX10_account_192 : decode cX10_account 192 = .ok (.ireturn, 1) := by decide +kernel
theorem dX10_isBalanced_0 : decode cX10_isBalanced 0 = .ok (.aload_n 0, 1) := by decide +kernel
theorem dX10_isBalanced_1 : decode cX10_isBalanced 1 = .ok (.invokevirtual 294, 3) := by decide +kernel
theorem dX10_isBalanced_4 : decode cX10_isBalanced 4 = .ok (.ifCond .eq 21, 3) := by decide +kernel
theorem dX10_isBalanced_7 : decode cX10_isBalanced 7 = .ok (.aload_n 0, 1) := by decide +kernel
theorem dX10_isBalanced_8 : decode cX10_isBalanced 8 = .ok (.invokevirtual 298, 3) := by decide +kernel
theorem dX10_isBalanced_11 : decode cX10_isBalanced 11 = .ok (.ifCond .eq 14, 3) := by decide +kernel
theorem dX10_isBalanced_14 : decode cX10_isBalanced 14 = .ok (.aload_n 0, 1) := by decide +kernel
theorem dX10_isBalanced_15 : decode cX10_isBalanced 15 = .ok (.invokevirtual 301, 3) := by decide +kernel
theorem dX10_isBalanced_18 : decode cX10_isBalanced 18 = .ok (.ifCond .eq 7, 3) := by decide +kernel
theorem dX10_isBalanced_21 : decode cX10_isBalanced 21 = .ok (.iconst 1, 1) := by decide +kernel
theorem dX10_isBalanced_22 : decode cX10_isBalanced 22 = .ok (.goto 4, 3) := by decide +kernel
theorem dX10_isBalanced_25 : decode cX10_isBalanced 25 = .ok (.iconst 0, 1) := by decide +kernel
theorem dX10_isBalanced_26 : decode cX10_isBalanced 26 = .ok (.ireturn, 1) := by decide +kernel
theorem dX10_meanFit_0 : decode cX10_meanFit 0 = .ok (.iconst 0, 1) := by decide +kernel
theorem dX10_meanFit_1 : decode cX10_meanFit 1 = .ok (.istore_n 1, 1) := by decide +kernel
theorem dX10_meanFit_2 : decode cX10_meanFit 2 = .ok (.iconst 0, 1) := by decide +kernel
theorem dX10_meanFit_3 : decode cX10_meanFit 3 = .ok (.istore_n 2, 1) := by decide +kernel
theorem dX10_meanFit_4 : decode cX10_meanFit 4 = .ok (.iconst 0, 1) := by decide +kernel
theorem dX10_meanFit_5 : decode cX10_meanFit 5 = .ok (.istore_n 3, 1) := by decide +kernel
theorem dX10_meanFit_6 : decode cX10_meanFit 6 = .ok (.iload_n 3, 1) := by decide +kernel
theorem dX10_meanFit_7 : decode cX10_meanFit 7 = .ok (.aload_n 0, 1) := by decide +kernel
theorem dX10_meanFit_8 : decode cX10_meanFit 8 = .ok (.getfield 10, 3) := by decide +kernel
theorem dX10_meanFit_11 : decode cX10_meanFit 11 = .ok (.getfield 75, 3) := by decide +kernel
theorem dX10_meanFit_14 : decode cX10_meanFit 14 = .ok (.getfield 170, 3) := by decide +kernel
theorem dX10_meanFit_17 : decode cX10_meanFit 17 = .ok (.if_icmp .ge 51, 3) := by decide +kernel
theorem dX10_meanFit_20 : decode cX10_meanFit 20 = .ok (.aload_n 0, 1) := by decide +kernel
theorem dX10_meanFit_21 : decode cX10_meanFit 21 = .ok (.getfield 10, 3) := by decide +kernel
theorem dX10_meanFit_24 : decode cX10_meanFit 24 = .ok (.getfield 75, 3) := by decide +kernel
theorem dX10_meanFit_27 : decode cX10_meanFit 27 = .ok (.iload_n 3, 1) := by decide +kernel
theorem dX10_meanFit_28 : decode cX10_meanFit 28 = .ok (.invokevirtual 241, 3) := by decide +kernel
theorem dX10_meanFit_31 : decode cX10_meanFit 31 = .ok (.ifCond .eq 31, 3) := by decide +kernel
theorem dX10_meanFit_34 : decode cX10_meanFit 34 = .ok (.iload_n 1, 1) := by decide +kernel
theorem dX10_meanFit_35 : decode cX10_meanFit 35 = .ok (.aload_n 0, 1) := by decide +kernel
theorem dX10_meanFit_36 : decode cX10_meanFit 36 = .ok (.getfield 10, 3) := by decide +kernel
theorem dX10_meanFit_39 : decode cX10_meanFit 39 = .ok (.iload_n 3, 1) := by decide +kernel
theorem dX10_meanFit_40 : decode cX10_meanFit 40 = .ok (.aload_n 0, 1) := by decide +kernel
theorem dX10_meanFit_41 : decode cX10_meanFit 41 = .ok (.getfield 10, 3) := by decide +kernel
theorem dX10_meanFit_44 : decode cX10_meanFit 44 = .ok (.getfield 75, 3) := by decide +kernel
theorem dX10_meanFit_47 : decode cX10_meanFit 47 = .ok (.getfield 112, 3) := by decide +kernel
theorem dX10_meanFit_50 : decode cX10_meanFit 50 = .ok (.iload_n 3, 1) := by decide +kernel
theorem dX10_meanFit_51 : decode cX10_meanFit 51 = .ok (.invokevirtual 89, 3) := by decide +kernel
theorem dX10_meanFit_54 : decode cX10_meanFit 54 = .ok (.invokevirtual 148, 3) := by decide +kernel
theorem dX10_meanFit_57 : decode cX10_meanFit 57 = .ok (.iadd, 1) := by decide +kernel
theorem dX10_meanFit_58 : decode cX10_meanFit 58 = .ok (.istore_n 1, 1) := by decide +kernel
theorem dX10_meanFit_59 : decode cX10_meanFit 59 = .ok (.iinc 2 1, 3) := by decide +kernel
theorem dX10_meanFit_62 : decode cX10_meanFit 62 = .ok (.iinc 3 1, 3) := by decide +kernel
theorem dX10_meanFit_65 : decode cX10_meanFit 65 = .ok (.goto (-59), 3) := by decide +kernel
theorem dX10_meanFit_68 : decode cX10_meanFit 68 = .ok (.iload_n 2, 1) := by decide +kernel
theorem dX10_meanFit_69 : decode cX10_meanFit 69 = .ok (.ifCond .ne 7, 3) := by decide +kernel
theorem dX10_meanFit_72 : decode cX10_meanFit 72 = .ok (.dconst 0, 1) := by decide +kernel
theorem dX10_meanFit_73 : decode cX10_meanFit 73 = .ok (.goto 8, 3) := by decide +kernel
theorem dX10_meanFit_76 : decode cX10_meanFit 76 = .ok (.iload_n 1, 1) := by decide +kernel
theorem dX10_meanFit_77 : decode cX10_meanFit 77 = .ok (.i2d, 1) := by decide +kernel
theorem dX10_meanFit_78 : decode cX10_meanFit 78 = .ok (.iload_n 2, 1) := by decide +kernel
theorem dX10_meanFit_79 : decode cX10_meanFit 79 = .ok (.i2d, 1) := by decide +kernel
theorem dX10_meanFit_80 : decode cX10_meanFit 80 = .ok (.ddiv, 1) := by decide +kernel
theorem dX10_meanFit_81 : decode cX10_meanFit 81 = .ok (.dreturn, 1) := by decide +kernel
theorem dX10_fallenShare_0 : decode cX10_fallenShare 0 = .ok (.aload_n 0, 1) := by decide +kernel
theorem dX10_fallenShare_1 : decode cX10_fallenShare 1 = .ok (.getfield 10, 3) := by decide +kernel
theorem dX10_fallenShare_4 : decode cX10_fallenShare 4 = .ok (.getfield 75, 3) := by decide +kernel
theorem dX10_fallenShare_7 : decode cX10_fallenShare 7 = .ok (.getfield 170, 3) := by decide +kernel
theorem dX10_fallenShare_10 : decode cX10_fallenShare 10 = .ok (.istore_n 1, 1) := by decide +kernel
theorem dX10_fallenShare_11 : decode cX10_fallenShare 11 = .ok (.iload_n 1, 1) := by decide +kernel
theorem dX10_fallenShare_12 : decode cX10_fallenShare 12 = .ok (.ifCond .ne 7, 3) := by decide +kernel
theorem dX10_fallenShare_15 : decode cX10_fallenShare 15 = .ok (.fconst 0, 1) := by decide +kernel
theorem dX10_fallenShare_16 : decode cX10_fallenShare 16 = .ok (.goto 17, 3) := by decide +kernel
theorem dX10_fallenShare_19 : decode cX10_fallenShare 19 = .ok (.aload_n 0, 1) := by decide +kernel
theorem dX10_fallenShare_20 : decode cX10_fallenShare 20 = .ok (.getfield 10, 3) := by decide +kernel
theorem dX10_fallenShare_23 : decode cX10_fallenShare 23 = .ok (.getfield 75, 3) := by decide +kernel
theorem dX10_fallenShare_26 : decode cX10_fallenShare 26 = .ok (.invokevirtual 264, 3) := by decide +kernel
theorem dX10_fallenShare_29 : decode cX10_fallenShare 29 = .ok (.i2f, 1) := by decide +kernel
theorem dX10_fallenShare_30 : decode cX10_fallenShare 30 = .ok (.iload_n 1, 1) := by decide +kernel
theorem dX10_fallenShare_31 : decode cX10_fallenShare 31 = .ok (.i2f, 1) := by decide +kernel
theorem dX10_fallenShare_32 : decode cX10_fallenShare 32 = .ok (.fdiv, 1) := by decide +kernel
theorem dX10_fallenShare_33 : decode cX10_fallenShare 33 = .ok (.freturn, 1) := by decide +kernel
theorem dX10_undo_0 : decode cX10_undo 0 = .ok (.aload_n 0, 1) := by decide +kernel
theorem dX10_undo_1 : decode cX10_undo 1 = .ok (.getfield 22, 3) := by decide +kernel
theorem dX10_undo_4 : decode cX10_undo 4 = .ok (.invokevirtual 293, 3) := by decide +kernel
theorem dX10_undo_7 : decode cX10_undo 7 = .ok (.ifCond .ne 7, 3) := by decide +kernel
theorem dX10_undo_10 : decode cX10_undo 10 = .ok (.sipush (-1015), 3) := by decide +kernel
theorem dX10_undo_13 : decode cX10_undo 13 = .ok (.ireturn, 1) := by decide +kernel
theorem dX10_undo_14 : decode cX10_undo 14 = .ok (.aload_n 0, 1) := by decide +kernel
theorem dX10_undo_15 : decode cX10_undo 15 = .ok (.getfield 22, 3) := by decide +kernel
theorem dX10_undo_18 : decode cX10_undo 18 = .ok (.invokevirtual 304, 3) := by decide +kernel
theorem dX10_undo_21 : decode cX10_undo 21 = .ok (.aload_n 0, 1) := by decide +kernel
theorem dX10_undo_22 : decode cX10_undo 22 = .ok (.getfield 22, 3) := by decide +kernel
theorem dX10_undo_25 : decode cX10_undo 25 = .ok (.aload_n 0, 1) := by decide +kernel
theorem dX10_undo_26 : decode cX10_undo 26 = .ok (.getfield 10, 3) := by decide +kernel
theorem dX10_undo_29 : decode cX10_undo 29 = .ok (.invokevirtual 229, 3) := by decide +kernel
theorem dX10_undo_32 : decode cX10_undo 32 = .ok (.aload_n 0, 1) := by decide +kernel
theorem dX10_undo_33 : decode cX10_undo 33 = .ok (.getfield 22, 3) := by decide +kernel
theorem dX10_undo_36 : decode cX10_undo 36 = .ok (.invokevirtual 293, 3) := by decide +kernel
theorem dX10_undo_39 : decode cX10_undo 39 = .ok (.ireturn, 1) := by decide +kernel
theorem dX10_save_0 : decode cX10_save 0 = .ok (.aload_n 0, 1) := by decide +kernel
theorem dX10_save_1 : decode cX10_save 1 = .ok (.getfield 16, 3) := by decide +kernel
theorem dX10_save_4 : decode cX10_save 4 = .ok (.aload_n 0, 1) := by decide +kernel
theorem dX10_save_5 : decode cX10_save 5 = .ok (.getfield 10, 3) := by decide +kernel
theorem dX10_save_8 : decode cX10_save 8 = .ok (.invokevirtual 307, 3) := by decide +kernel
theorem dX10_save_11 : decode cX10_save 11 = .ok (.aload_n 0, 1) := by decide +kernel
theorem dX10_save_12 : decode cX10_save 12 = .ok (.iconst 1, 1) := by decide +kernel
theorem dX10_save_13 : decode cX10_save 13 = .ok (.putfield 310, 3) := by decide +kernel
theorem dX10_save_16 : decode cX10_save 16 = .ok (.aload_n 0, 1) := by decide +kernel
theorem dX10_save_17 : decode cX10_save 17 = .ok (.getfield 10, 3) := by decide +kernel
theorem dX10_save_20 : decode cX10_save 20 = .ok (.getfield 75, 3) := by decide +kernel
theorem dX10_save_23 : decode cX10_save 23 = .ok (.getfield 170, 3) := by decide +kernel
theorem dX10_save_26 : decode cX10_save 26 = .ok (.ireturn, 1) := by decide +kernel
theorem dX10_restore_0 : decode cX10_restore 0 = .ok (.aload_n 0, 1) := by decide +kernel
theorem dX10_restore_1 : decode cX10_restore 1 = .ok (.getfield 310, 3) := by decide +kernel
theorem dX10_restore_4 : decode cX10_restore 4 = .ok (.ifCond .ne 7, 3) := by decide +kernel
theorem dX10_restore_7 : decode cX10_restore 7 = .ok (.sipush (-1015), 3) := by decide +kernel
theorem dX10_restore_10 : decode cX10_restore 10 = .ok (.ireturn, 1) := by decide +kernel
theorem dX10_restore_11 : decode cX10_restore 11 = .ok (.aload_n 0, 1) := by decide +kernel
theorem dX10_restore_12 : decode cX10_restore 12 = .ok (.getfield 10, 3) := by decide +kernel
theorem dX10_restore_15 : decode cX10_restore 15 = .ok (.aload_n 0, 1) := by decide +kernel
theorem dX10_restore_16 : decode cX10_restore 16 = .ok (.getfield 16, 3) := by decide +kernel
theorem dX10_restore_19 : decode cX10_restore 19 = .ok (.invokevirtual 307, 3) := by decide +kernel
theorem dX10_restore_22 : decode cX10_restore 22 = .ok (.aload_n 0, 1) := by decide +kernel
theorem dX10_restore_23 : decode cX10_restore 23 = .ok (.getfield 22, 3) := by decide +kernel
theorem dX10_restore_26 : decode cX10_restore 26 = .ok (.invokevirtual 314, 3) := by decide +kernel
theorem dX10_restore_29 : decode cX10_restore 29 = .ok (.aload_n 0, 1) := by decide +kernel
theorem dX10_restore_30 : decode cX10_restore 30 = .ok (.getfield 10, 3) := by decide +kernel
theorem dX10_restore_33 : decode cX10_restore 33 = .ok (.getfield 75, 3) := by decide +kernel
theorem dX10_restore_36 : decode cX10_restore 36 = .ok (.getfield 170, 3) := by decide +kernel
theorem dX10_restore_39 : decode cX10_restore 39 = .ok (.ireturn, 1) := by decide +kernel
theorem dX10_bringChair_0 : decode cX10_bringChair 0 = .ok (.iload_n 1, 1) := by decide +kernel
theorem dX10_bringChair_1 : decode cX10_bringChair 1 = .ok (.iconst 0, 1) := by decide +kernel
theorem dX10_bringChair_2 : decode cX10_bringChair 2 = .ok (.iconst 3, 1) := by decide +kernel
theorem dX10_bringChair_3 : decode cX10_bringChair 3 = .ok (.invokestatic 187, 3) := by decide +kernel
theorem dX10_bringChair_6 : decode cX10_bringChair 6 = .ok (.ifCond .eq 13, 3) := by decide +kernel
theorem dX10_bringChair_9 : decode cX10_bringChair 9 = .ok (.iload_n 2, 1) := by decide +kernel
theorem dX10_bringChair_10 : decode cX10_bringChair 10 = .ok (.iconst 1, 1) := by decide +kernel
theorem dX10_bringChair_11 : decode cX10_bringChair 11 = .ok (.bipush 9, 2) := by decide +kernel
theorem dX10_bringChair_13 : decode cX10_bringChair 13 = .ok (.invokestatic 187, 3) := by decide +kernel
theorem dX10_bringChair_16 : decode cX10_bringChair 16 = .ok (.ifCond .ne 7, 3) := by decide +kernel
theorem dX10_bringChair_19 : decode cX10_bringChair 19 = .ok (.sipush (-1012), 3) := by decide +kernel
theorem dX10_bringChair_22 : decode cX10_bringChair 22 = .ok (.ireturn, 1) := by decide +kernel
theorem dX10_bringChair_23 : decode cX10_bringChair 23 = .ok (.aload_n 0, 1) := by decide +kernel
theorem dX10_bringChair_24 : decode cX10_bringChair 24 = .ok (.getfield 10, 3) := by decide +kernel
theorem dX10_bringChair_27 : decode cX10_bringChair 27 = .ok (.getfield 75, 3) := by decide +kernel
theorem dX10_bringChair_30 : decode cX10_bringChair 30 = .ok (.getfield 170, 3) := by decide +kernel
theorem dX10_bringChair_33 : decode cX10_bringChair 33 = .ok (.bipush 10, 2) := by decide +kernel
theorem dX10_bringChair_35 : decode cX10_bringChair 35 = .ok (.if_icmp .lt 19, 3) := by decide +kernel
theorem dX10_bringChair_38 : decode cX10_bringChair 38 = .ok (.aload_n 0, 1) := by decide +kernel
theorem dX10_bringChair_39 : decode cX10_bringChair 39 = .ok (.iconst 1, 1) := by decide +kernel
theorem dX10_bringChair_40 : decode cX10_bringChair 40 = .ok (.aload_n 0, 1) := by decide +kernel
theorem dX10_bringChair_41 : decode cX10_bringChair 41 = .ok (.getfield 10, 3) := by decide +kernel
theorem dX10_bringChair_44 : decode cX10_bringChair 44 = .ok (.getfield 75, 3) := by decide +kernel
theorem dX10_bringChair_47 : decode cX10_bringChair 47 = .ok (.getfield 170, 3) := by decide +kernel
theorem dX10_bringChair_50 : decode cX10_bringChair 50 = .ok (.invokevirtual 317, 3) := by decide +kernel
theorem dX10_bringChair_53 : decode cX10_bringChair 53 = .ok (.ireturn, 1) := by decide +kernel
theorem dX10_bringChair_54 : decode cX10_bringChair 54 = .ok (.aload_n 0, 1) := by decide +kernel
theorem dX10_bringChair_55 : decode cX10_bringChair 55 = .ok (.getfield 10, 3) := by decide +kernel
theorem dX10_bringChair_58 : decode cX10_bringChair 58 = .ok (.getfield 75, 3) := by decide +kernel
theorem dX10_bringChair_61 : decode cX10_bringChair 61 = .ok (.iload_n 1, 1) := by decide +kernel
theorem dX10_bringChair_62 : decode cX10_bringChair 62 = .ok (.iload_n 2, 1) := by decide +kernel
theorem dX10_bringChair_63 : decode cX10_bringChair 63 = .ok (.invokevirtual 320, 3) := by decide +kernel
theorem dX10_bringChair_66 : decode cX10_bringChair 66 = .ok (.ireturn, 1) := by decide +kernel
theorem dX10_bringMusician_0 : decode cX10_bringMusician 0 = .ok (.iload_n 1, 1) := by decide +kernel
theorem dX10_bringMusician_1 : decode cX10_bringMusician 1 = .ok (.iconst 0, 1) := by decide +kernel
theorem dX10_bringMusician_2 : decode cX10_bringMusician 2 = .ok (.iconst 3, 1) := by decide +kernel
theorem dX10_bringMusician_3 : decode cX10_bringMusician 3 = .ok (.invokestatic 187, 3) := by decide +kernel
theorem dX10_bringMusician_6 : decode cX10_bringMusician 6 = .ok (.ifCond .eq 23, 3) := by decide +kernel
theorem dX10_bringMusician_9 : decode cX10_bringMusician 9 = .ok (.iload_n 2, 1) := by decide +kernel
theorem dX10_bringMusician_10 : decode cX10_bringMusician 10 = .ok (.iconst 1, 1) := by decide +kernel
theorem dX10_bringMusician_11 : decode cX10_bringMusician 11 = .ok (.bipush 9, 2) := by decide +kernel
theorem dX10_bringMusician_13 : decode cX10_bringMusician 13 = .ok (.invokestatic 187, 3) := by decide +kernel
theorem dX10_bringMusician_16 : decode cX10_bringMusician 16 = .ok (.ifCond .eq 13, 3) := by decide +kernel
theorem dX10_bringMusician_19 : decode cX10_bringMusician 19 = .ok (.iload_n 3, 1) := by decide +kernel
theorem dX10_bringMusician_20 : decode cX10_bringMusician 20 = .ok (.iconst 0, 1) := by decide +kernel
theorem dX10_bringMusician_21 : decode cX10_bringMusician 21 = .ok (.bipush 9, 2) := by decide +kernel
theorem dX10_bringMusician_23 : decode cX10_bringMusician 23 = .ok (.invokestatic 187, 3) := by decide +kernel
theorem dX10_bringMusician_26 : decode cX10_bringMusician 26 = .ok (.ifCond .ne 7, 3) := by decide +kernel
theorem dX10_bringMusician_29 : decode cX10_bringMusician 29 = .ok (.sipush (-1012), 3) := by decide +kernel
theorem dX10_bringMusician_32 : decode cX10_bringMusician 32 = .ok (.ireturn, 1) := by decide +kernel
theorem dX10_bringMusician_33 : decode cX10_bringMusician 33 = .ok (.aload_n 0, 1) := by decide +kernel
theorem dX10_bringMusician_34 : decode cX10_bringMusician 34 = .ok (.getfield 10, 3) := by decide +kernel
theorem dX10_bringMusician_37 : decode cX10_bringMusician 37 = .ok (.getfield 118, 3) := by decide +kernel
theorem dX10_bringMusician_40 : decode cX10_bringMusician 40 = .ok (.getfield 174, 3) := by decide +kernel
theorem dX10_bringMusician_43 : decode cX10_bringMusician 43 = .ok (.bipush 10, 2) := by decide +kernel
theorem dX10_bringMusician_45 : decode cX10_bringMusician 45 = .ok (.if_icmp .lt 19, 3) := by decide +kernel
theorem dX10_bringMusician_48 : decode cX10_bringMusician 48 = .ok (.aload_n 0, 1) := by decide +kernel
theorem dX10_bringMusician_49 : decode cX10_bringMusician 49 = .ok (.iconst 1, 1) := by decide +kernel
theorem dX10_bringMusician_50 : decode cX10_bringMusician 50 = .ok (.aload_n 0, 1) := by decide +kernel
theorem dX10_bringMusician_51 : decode cX10_bringMusician 51 = .ok (.getfield 10, 3) := by decide +kernel
theorem dX10_bringMusician_54 : decode cX10_bringMusician 54 = .ok (.getfield 118, 3) := by decide +kernel
theorem dX10_bringMusician_57 : decode cX10_bringMusician 57 = .ok (.getfield 174, 3) := by decide +kernel
theorem dX10_bringMusician_60 : decode cX10_bringMusician 60 = .ok (.invokevirtual 317, 3) := by decide +kernel
theorem dX10_bringMusician_63 : decode cX10_bringMusician 63 = .ok (.ireturn, 1) := by decide +kernel
theorem dX10_bringMusician_64 : decode cX10_bringMusician 64 = .ok (.aload_n 0, 1) := by decide +kernel
theorem dX10_bringMusician_65 : decode cX10_bringMusician 65 = .ok (.getfield 10, 3) := by decide +kernel
theorem dX10_bringMusician_68 : decode cX10_bringMusician 68 = .ok (.getfield 118, 3) := by decide +kernel
theorem dX10_bringMusician_71 : decode cX10_bringMusician 71 = .ok (.iload_n 1, 1) := by decide +kernel
theorem dX10_bringMusician_72 : decode cX10_bringMusician 72 = .ok (.iload_n 2, 1) := by decide +kernel
theorem dX10_bringMusician_73 : decode cX10_bringMusician 73 = .ok (.iload_n 3, 1) := by decide +kernel
theorem dX10_bringMusician_74 : decode cX10_bringMusician 74 = .ok (.invokevirtual 323, 3) := by decide +kernel
theorem dX10_bringMusician_77 : decode cX10_bringMusician 77 = .ok (.ireturn, 1) := by decide +kernel
theorem dX10_seatMusician_0 : decode cX10_seatMusician 0 = .ok (.aload_n 0, 1) := by decide +kernel
theorem dX10_seatMusician_1 : decode cX10_seatMusician 1 = .ok (.iload_n 1, 1) := by decide +kernel
theorem dX10_seatMusician_2 : decode cX10_seatMusician 2 = .ok (.iload_n 2, 1) := by decide +kernel
theorem dX10_seatMusician_3 : decode cX10_seatMusician 3 = .ok (.invokevirtual 144, 3) := by decide +kernel
theorem dX10_seatMusician_6 : decode cX10_seatMusician 6 = .ok (.ifCond .ne 7, 3) := by decide +kernel
theorem dX10_seatMusician_9 : decode cX10_seatMusician 9 = .ok (.sipush (-1011), 3) := by decide +kernel
theorem dX10_seatMusician_12 : decode cX10_seatMusician 12 = .ok (.ireturn, 1) := by decide +kernel
theorem dX10_seatMusician_13 : decode cX10_seatMusician 13 = .ok (.aload_n 0, 1) := by decide +kernel
theorem dX10_seatMusician_14 : decode cX10_seatMusician 14 = .ok (.getfield 10, 3) := by decide +kernel
theorem dX10_seatMusician_17 : decode cX10_seatMusician 17 = .ok (.getfield 75, 3) := by decide +kernel
theorem dX10_seatMusician_20 : decode cX10_seatMusician 20 = .ok (.astore_n 3, 1) := by decide +kernel
theorem dX10_seatMusician_21 : decode cX10_seatMusician 21 = .ok (.aload_n 3, 1) := by decide +kernel
theorem dX10_seatMusician_22 : decode cX10_seatMusician 22 = .ok (.iload_n 1, 1) := by decide +kernel
theorem dX10_seatMusician_23 : decode cX10_seatMusician 23 = .ok (.invokevirtual 238, 3) := by decide +kernel
theorem dX10_seatMusician_26 : decode cX10_seatMusician 26 = .ok (.ifCond .eq 14, 3) := by decide +kernel
theorem dX10_seatMusician_29 : decode cX10_seatMusician 29 = .ok (.aload_n 0, 1) := by decide +kernel
theorem dX10_seatMusician_30 : decode cX10_seatMusician 30 = .ok (.iload_n 2, 1) := by decide +kernel
theorem dX10_seatMusician_31 : decode cX10_seatMusician 31 = .ok (.iconst 3, 1) := by decide +kernel
theorem dX10_seatMusician_32 : decode cX10_seatMusician 32 = .ok (.aload_n 3, 1) := by decide +kernel
theorem dX10_seatMusician_33 : decode cX10_seatMusician 33 = .ok (.invokevirtual 264, 3) := by decide +kernel
theorem dX10_seatMusician_36 : decode cX10_seatMusician 36 = .ok (.invokevirtual 325, 3) := by decide +kernel
theorem dX10_seatMusician_39 : decode cX10_seatMusician 39 = .ok (.ireturn, 1) := by decide +kernel
theorem dX10_seatMusician_40 : decode cX10_seatMusician 40 = .ok (.aload_n 3, 1) := by decide +kernel
theorem dX10_seatMusician_41 : decode cX10_seatMusician 41 = .ok (.iload_n 1, 1) := by decide +kernel
theorem dX10_seatMusician_42 : decode cX10_seatMusician 42 = .ok (.invokevirtual 241, 3) := by decide +kernel
theorem dX10_seatMusician_45 : decode cX10_seatMusician 45 = .ok (.ifCond .eq 18, 3) := by decide +kernel
theorem dX10_seatMusician_48 : decode cX10_seatMusician 48 = .ok (.aload_n 0, 1) := by decide +kernel
theorem dX10_seatMusician_49 : decode cX10_seatMusician 49 = .ok (.iload_n 2, 1) := by decide +kernel
theorem dX10_seatMusician_50 : decode cX10_seatMusician 50 = .ok (.iconst 4, 1) := by decide +kernel
theorem dX10_seatMusician_51 : decode cX10_seatMusician 51 = .ok (.aload_n 3, 1) := by decide +kernel
theorem dX10_seatMusician_52 : decode cX10_seatMusician 52 = .ok (.getfield 112, 3) := by decide +kernel
theorem dX10_seatMusician_55 : decode cX10_seatMusician 55 = .ok (.iload_n 1, 1) := by decide +kernel
theorem dX10_seatMusician_56 : decode cX10_seatMusician 56 = .ok (.invokevirtual 89, 3) := by decide +kernel
theorem dX10_seatMusician_59 : decode cX10_seatMusician 59 = .ok (.invokevirtual 325, 3) := by decide +kernel
theorem dX10_seatMusician_62 : decode cX10_seatMusician 62 = .ok (.ireturn, 1) := by decide +kernel
theorem dX10_seatMusician_63 : decode cX10_seatMusician 63 = .ok (.aload_n 0, 1) := by decide +kernel
theorem dX10_seatMusician_64 : decode cX10_seatMusician 64 = .ok (.getfield 10, 3) := by decide +kernel
theorem dX10_seatMusician_67 : decode cX10_seatMusician 67 = .ok (.getfield 118, 3) := by decide +kernel
theorem dX10_seatMusician_70 : decode cX10_seatMusician 70 = .ok (.iload_n 2, 1) := by decide +kernel
theorem dX10_seatMusician_71 : decode cX10_seatMusician 71 = .ok (.invokevirtual 328, 3) := by decide +kernel
theorem dX10_seatMusician_74 : decode cX10_seatMusician 74 = .ok (.ifCond .eq 24, 3) := by decide +kernel
theorem dX10_seatMusician_77 : decode cX10_seatMusician 77 = .ok (.aload_n 0, 1) := by decide +kernel
theorem dX10_seatMusician_78 : decode cX10_seatMusician 78 = .ok (.iload_n 2, 1) := by decide +kernel
theorem dX10_seatMusician_79 : decode cX10_seatMusician 79 = .ok (.iconst 5, 1) := by decide +kernel
theorem dX10_seatMusician_80 : decode cX10_seatMusician 80 = .ok (.aload_n 0, 1) := by decide +kernel
theorem dX10_seatMusician_81 : decode cX10_seatMusician 81 = .ok (.getfield 10, 3) := by decide +kernel
theorem dX10_seatMusician_84 : decode cX10_seatMusician 84 = .ok (.getfield 118, 3) := by decide +kernel
theorem dX10_seatMusician_87 : decode cX10_seatMusician 87 = .ok (.getfield 138, 3) := by decide +kernel
theorem dX10_seatMusician_90 : decode cX10_seatMusician 90 = .ok (.iload_n 2, 1) := by decide +kernel
theorem dX10_seatMusician_91 : decode cX10_seatMusician 91 = .ok (.invokevirtual 89, 3) := by decide +kernel
theorem dX10_seatMusician_94 : decode cX10_seatMusician 94 = .ok (.invokevirtual 325, 3) := by decide +kernel
theorem dX10_seatMusician_97 : decode cX10_seatMusician 97 = .ok (.ireturn, 1) := by decide +kernel
theorem dX10_seatMusician_98 : decode cX10_seatMusician 98 = .ok (.aload_n 0, 1) := by decide +kernel
theorem dX10_seatMusician_99 : decode cX10_seatMusician 99 = .ok (.getfield 10, 3) := by decide +kernel
theorem dX10_seatMusician_102 : decode cX10_seatMusician 102 = .ok (.iload_n 1, 1) := by decide +kernel
theorem dX10_seatMusician_103 : decode cX10_seatMusician 103 = .ok (.iload_n 2, 1) := by decide +kernel
theorem dX10_seatMusician_104 : decode cX10_seatMusician 104 = .ok (.invokevirtual 331, 3) := by decide +kernel
theorem dX10_seatMusician_107 : decode cX10_seatMusician 107 = .ok (.ifCond .ne 20, 3) := by decide +kernel
theorem dX10_seatMusician_110 : decode cX10_seatMusician 110 = .ok (.aload_n 0, 1) := by decide +kernel
theorem dX10_seatMusician_111 : decode cX10_seatMusician 111 = .ok (.iload_n 2, 1) := by decide +kernel
theorem dX10_seatMusician_112 : decode cX10_seatMusician 112 = .ok (.bipush 6, 2) := by decide +kernel
theorem dX10_seatMusician_114 : decode cX10_seatMusician 114 = .ok (.aload_n 0, 1) := by decide +kernel
theorem dX10_seatMusician_115 : decode cX10_seatMusician 115 = .ok (.getfield 10, 3) := by decide +kernel
theorem dX10_seatMusician_118 : decode cX10_seatMusician 118 = .ok (.iload_n 1, 1) := by decide +kernel
theorem dX10_seatMusician_119 : decode cX10_seatMusician 119 = .ok (.iload_n 2, 1) := by decide +kernel
theorem dX10_seatMusician_120 : decode cX10_seatMusician 120 = .ok (.invokevirtual 148, 3) := by decide +kernel
theorem dX10_seatMusician_123 : decode cX10_seatMusician 123 = .ok (.invokevirtual 325, 3) := by decide +kernel
theorem dX10_seatMusician_126 : decode cX10_seatMusician 126 = .ok (.ireturn, 1) := by decide +kernel
theorem dX10_seatMusician_127 : decode cX10_seatMusician 127 = .ok (.aload_n 0, 1) := by decide +kernel
theorem dX10_seatMusician_128 : decode cX10_seatMusician 128 = .ok (.getfield 10, 3) := by decide +kernel
theorem dX10_seatMusician_131 : decode cX10_seatMusician 131 = .ok (.iload_n 2, 1) := by decide +kernel
theorem dX10_seatMusician_132 : decode cX10_seatMusician 132 = .ok (.iload_n 1, 1) := by decide +kernel
theorem dX10_seatMusician_133 : decode cX10_seatMusician 133 = .ok (.invokevirtual 334, 3) := by decide +kernel
theorem dX10_seatMusician_136 : decode cX10_seatMusician 136 = .ok (.ifCond .ne 16, 3) := by decide +kernel
theorem dX10_seatMusician_139 : decode cX10_seatMusician 139 = .ok (.aload_n 0, 1) := by decide +kernel
theorem dX10_seatMusician_140 : decode cX10_seatMusician 140 = .ok (.iload_n 2, 1) := by decide +kernel
theorem dX10_seatMusician_141 : decode cX10_seatMusician 141 = .ok (.bipush 7, 2) := by decide +kernel
theorem dX10_seatMusician_143 : decode cX10_seatMusician 143 = .ok (.aload_n 3, 1) := by decide +kernel
theorem dX10_seatMusician_144 : decode cX10_seatMusician 144 = .ok (.iload_n 1, 1) := by decide +kernel
theorem dX10_seatMusician_145 : decode cX10_seatMusician 145 = .ok (.invokevirtual 106, 3) := by decide +kernel
theorem dX10_seatMusician_148 : decode cX10_seatMusician 148 = .ok (.invokevirtual 325, 3) := by decide +kernel
theorem dX10_seatMusician_151 : decode cX10_seatMusician 151 = .ok (.ireturn, 1) := by decide +kernel
theorem dX10_seatMusician_152 : decode cX10_seatMusician 152 = .ok (.aload_n 0, 1) := by decide +kernel
theorem dX10_seatMusician_153 : decode cX10_seatMusician 153 = .ok (.getfield 10, 3) := by decide +kernel
theorem dX10_seatMusician_156 : decode cX10_seatMusician 156 = .ok (.iload_n 1, 1) := by decide +kernel
theorem dX10_seatMusician_157 : decode cX10_seatMusician 157 = .ok (.iload_n 2, 1) := by decide +kernel
theorem dX10_seatMusician_158 : decode cX10_seatMusician 158 = .ok (.invokevirtual 337, 3) := by decide +kernel
theorem dX10_seatMusician_161 : decode cX10_seatMusician 161 = .ok (.aload_n 0, 1) := by decide +kernel
theorem dX10_seatMusician_162 : decode cX10_seatMusician 162 = .ok (.getfield 10, 3) := by decide +kernel
theorem dX10_seatMusician_165 : decode cX10_seatMusician 165 = .ok (.getfield 118, 3) := by decide +kernel
theorem dX10_seatMusician_168 : decode cX10_seatMusician 168 = .ok (.invokevirtual 261, 3) := by decide +kernel
theorem dX10_seatMusician_171 : decode cX10_seatMusician 171 = .ok (.ireturn, 1) := by decide +kernel
theorem dX10_letRise_0 : decode cX10_letRise 0 = .ok (.aload_n 0, 1) := by decide +kernel
theorem dX10_letRise_1 : decode cX10_letRise 1 = .ok (.getfield 10, 3) := by decide +kernel
theorem dX10_letRise_4 : decode cX10_letRise 4 = .ok (.getfield 118, 3) := by decide +kernel
theorem dX10_letRise_7 : decode cX10_letRise 7 = .ok (.iload_n 1, 1) := by decide +kernel
theorem dX10_letRise_8 : decode cX10_letRise 8 = .ok (.invokevirtual 122, 3) := by decide +kernel
theorem dX10_letRise_11 : decode cX10_letRise 11 = .ok (.ifCond .ne 7, 3) := by decide +kernel
theorem dX10_letRise_14 : decode cX10_letRise 14 = .ok (.sipush (-1011), 3) := by decide +kernel
theorem dX10_letRise_17 : decode cX10_letRise 17 = .ok (.ireturn, 1) := by decide +kernel
theorem dX10_letRise_18 : decode cX10_letRise 18 = .ok (.aload_n 0, 1) := by decide +kernel
theorem dX10_letRise_19 : decode cX10_letRise 19 = .ok (.getfield 10, 3) := by decide +kernel
theorem dX10_letRise_22 : decode cX10_letRise 22 = .ok (.getfield 118, 3) := by decide +kernel
theorem dX10_letRise_25 : decode cX10_letRise 25 = .ok (.iload_n 1, 1) := by decide +kernel
theorem dX10_letRise_26 : decode cX10_letRise 26 = .ok (.invokevirtual 328, 3) := by decide +kernel
theorem dX10_letRise_29 : decode cX10_letRise 29 = .ok (.ifCond .ne 20, 3) := by decide +kernel
theorem dX10_letRise_32 : decode cX10_letRise 32 = .ok (.aload_n 0, 1) := by decide +kernel
theorem dX10_letRise_33 : decode cX10_letRise 33 = .ok (.bipush 8, 2) := by decide +kernel
theorem dX10_letRise_35 : decode cX10_letRise 35 = .ok (.aload_n 0, 1) := by decide +kernel
theorem dX10_letRise_36 : decode cX10_letRise 36 = .ok (.getfield 10, 3) := by decide +kernel
theorem dX10_letRise_39 : decode cX10_letRise 39 = .ok (.getfield 118, 3) := by decide +kernel
theorem dX10_letRise_42 : decode cX10_letRise 42 = .ok (.invokevirtual 261, 3) := by decide +kernel
theorem dX10_letRise_45 : decode cX10_letRise 45 = .ok (.invokevirtual 317, 3) := by decide +kernel
theorem dX10_letRise_48 : decode cX10_letRise 48 = .ok (.ireturn, 1) := by decide +kernel
theorem dX10_letRise_49 : decode cX10_letRise 49 = .ok (.aload_n 0, 1) := by decide +kernel
theorem dX10_letRise_50 : decode cX10_letRise 50 = .ok (.getfield 10, 3) := by decide +kernel
theorem dX10_letRise_53 : decode cX10_letRise 53 = .ok (.getfield 118, 3) := by decide +kernel
theorem dX10_letRise_56 : decode cX10_letRise 56 = .ok (.getfield 138, 3) := by decide +kernel
theorem dX10_letRise_59 : decode cX10_letRise 59 = .ok (.iload_n 1, 1) := by decide +kernel
theorem dX10_letRise_60 : decode cX10_letRise 60 = .ok (.invokevirtual 89, 3) := by decide +kernel
theorem dX10_letRise_63 : decode cX10_letRise 63 = .ok (.istore_n 2, 1) := by decide +kernel
theorem dX10_letRise_64 : decode cX10_letRise 64 = .ok (.aload_n 0, 1) := by decide +kernel
theorem dX10_letRise_65 : decode cX10_letRise 65 = .ok (.getfield 10, 3) := by decide +kernel
theorem dX10_letRise_68 : decode cX10_letRise 68 = .ok (.iload_n 1, 1) := by decide +kernel
theorem dX10_letRise_69 : decode cX10_letRise 69 = .ok (.invokevirtual 341, 3) := by decide +kernel
theorem dX10_letRise_72 : decode cX10_letRise 72 = .ok (.iload_n 2, 1) := by decide +kernel
theorem dX10_letRise_73 : decode cX10_letRise 73 = .ok (.ireturn, 1) := by decide +kernel
theorem dX10_beginSeason_0 : decode cX10_beginSeason 0 = .ok (.iconst 0, 1) := by decide +kernel
theorem dX10_beginSeason_1 : decode cX10_beginSeason 1 = .ok (.istore_n 1, 1) := by decide +kernel
theorem dX10_beginSeason_2 : decode cX10_beginSeason 2 = .ok (.iload_n 1, 1) := by decide +kernel
theorem dX10_beginSeason_3 : decode cX10_beginSeason 3 = .ok (.aload_n 0, 1) := by decide +kernel
theorem dX10_beginSeason_4 : decode cX10_beginSeason 4 = .ok (.getfield 10, 3) := by decide +kernel
theorem dX10_beginSeason_7 : decode cX10_beginSeason 7 = .ok (.getfield 118, 3) := by decide +kernel
theorem dX10_beginSeason_10 : decode cX10_beginSeason 10 = .ok (.getfield 174, 3) := by decide +kernel
theorem dX10_beginSeason_13 : decode cX10_beginSeason 13 = .ok (.if_icmp .ge 17, 3) := by decide +kernel
theorem dX10_beginSeason_16 : decode cX10_beginSeason 16 = .ok (.aload_n 0, 1) := by decide +kernel
theorem dX10_beginSeason_17 : decode cX10_beginSeason 17 = .ok (.getfield 10, 3) := by decide +kernel
theorem dX10_beginSeason_20 : decode cX10_beginSeason 20 = .ok (.iload_n 1, 1) := by decide +kernel
theorem dX10_beginSeason_21 : decode cX10_beginSeason 21 = .ok (.invokevirtual 341, 3) := by decide +kernel
theorem dX10_beginSeason_24 : decode cX10_beginSeason 24 = .ok (.iinc 1 1, 3) := by decide +kernel
theorem dX10_beginSeason_27 : decode cX10_beginSeason 27 = .ok (.goto (-25), 3) := by decide +kernel
theorem dX10_beginSeason_30 : decode cX10_beginSeason 30 = .ok (.aload_n 0, 1) := by decide +kernel
theorem dX10_beginSeason_31 : decode cX10_beginSeason 31 = .ok (.getfield 29, 3) := by decide +kernel
theorem dX10_beginSeason_34 : decode cX10_beginSeason 34 = .ok (.aload_n 0, 1) := by decide +kernel
theorem dX10_beginSeason_35 : decode cX10_beginSeason 35 = .ok (.getfield 10, 3) := by decide +kernel
theorem dX10_beginSeason_38 : decode cX10_beginSeason 38 = .ok (.invokevirtual 161, 3) := by decide +kernel
theorem dX10_beginSeason_41 : decode cX10_beginSeason 41 = .ok (.iconst 0, 1) := by decide +kernel
theorem dX10_beginSeason_42 : decode cX10_beginSeason 42 = .ok (.istore_n 1, 1) := by decide +kernel
theorem dX10_beginSeason_43 : decode cX10_beginSeason 43 = .ok (.iload_n 1, 1) := by decide +kernel
theorem dX10_beginSeason_44 : decode cX10_beginSeason 44 = .ok (.aload_n 0, 1) := by decide +kernel
theorem dX10_beginSeason_45 : decode cX10_beginSeason 45 = .ok (.getfield 10, 3) := by decide +kernel
theorem dX10_beginSeason_48 : decode cX10_beginSeason 48 = .ok (.getfield 75, 3) := by decide +kernel
theorem dX10_beginSeason_51 : decode cX10_beginSeason 51 = .ok (.getfield 170, 3) := by decide +kernel
theorem dX10_beginSeason_54 : decode cX10_beginSeason 54 = .ok (.if_icmp .ge 32, 3) := by decide +kernel
theorem dX10_beginSeason_57 : decode cX10_beginSeason 57 = .ok (.aload_n 0, 1) := by decide +kernel
theorem dX10_beginSeason_58 : decode cX10_beginSeason 58 = .ok (.getfield 29, 3) := by decide +kernel
theorem dX10_beginSeason_61 : decode cX10_beginSeason 61 = .ok (.iload_n 1, 1) := by decide +kernel
theorem dX10_beginSeason_62 : decode cX10_beginSeason 62 = .ok (.invokevirtual 164, 3) := by decide +kernel
theorem dX10_beginSeason_65 : decode cX10_beginSeason 65 = .ok (.istore_n 2, 1) := by decide +kernel
theorem dX10_beginSeason_66 : decode cX10_beginSeason 66 = .ok (.iload_n 2, 1) := by decide +kernel
theorem dX10_beginSeason_67 : decode cX10_beginSeason 67 = .ok (.iconst (-1), 1) := by decide +kernel
theorem dX10_beginSeason_68 : decode cX10_beginSeason 68 = .ok (.if_icmp .eq 12, 3) := by decide +kernel
theorem dX10_beginSeason_71 : decode cX10_beginSeason 71 = .ok (.aload_n 0, 1) := by decide +kernel
theorem dX10_beginSeason_72 : decode cX10_beginSeason 72 = .ok (.getfield 10, 3) := by decide +kernel
theorem dX10_beginSeason_75 : decode cX10_beginSeason 75 = .ok (.iload_n 1, 1) := by decide +kernel
theorem dX10_beginSeason_76 : decode cX10_beginSeason 76 = .ok (.iload_n 2, 1) := by decide +kernel
theorem dX10_beginSeason_77 : decode cX10_beginSeason 77 = .ok (.invokevirtual 337, 3) := by decide +kernel
theorem dX10_beginSeason_80 : decode cX10_beginSeason 80 = .ok (.iinc 1 1, 3) := by decide +kernel
theorem dX10_beginSeason_83 : decode cX10_beginSeason 83 = .ok (.goto (-40), 3) := by decide +kernel
theorem dX10_beginSeason_86 : decode cX10_beginSeason 86 = .ok (.aload_n 0, 1) := by decide +kernel
theorem dX10_beginSeason_87 : decode cX10_beginSeason 87 = .ok (.getfield 10, 3) := by decide +kernel
theorem dX10_beginSeason_90 : decode cX10_beginSeason 90 = .ok (.getfield 257, 3) := by decide +kernel
theorem dX10_beginSeason_93 : decode cX10_beginSeason 93 = .ok (.dup, 1) := by decide +kernel
theorem dX10_beginSeason_94 : decode cX10_beginSeason 94 = .ok (.getfield 287, 3) := by decide +kernel
theorem dX10_beginSeason_97 : decode cX10_beginSeason 97 = .ok (.iconst 1, 1) := by decide +kernel
theorem dX10_beginSeason_98 : decode cX10_beginSeason 98 = .ok (.iadd, 1) := by decide +kernel
theorem dX10_beginSeason_99 : decode cX10_beginSeason 99 = .ok (.putfield 287, 3) := by decide +kernel
theorem dX10_beginSeason_102 : decode cX10_beginSeason 102 = .ok (.aload_n 0, 1) := by decide +kernel
theorem dX10_beginSeason_103 : decode cX10_beginSeason 103 = .ok (.getfield 10, 3) := by decide +kernel
theorem dX10_beginSeason_106 : decode cX10_beginSeason 106 = .ok (.getfield 118, 3) := by decide +kernel
theorem dX10_beginSeason_109 : decode cX10_beginSeason 109 = .ok (.invokevirtual 261, 3) := by decide +kernel
theorem dX10_beginSeason_112 : decode cX10_beginSeason 112 = .ok (.ireturn, 1) := by decide +kernel
theorem dX10_takeBid_0 : decode cX10_takeBid 0 = .ok (.aload_n 0, 1) := by decide +kernel
theorem dX10_takeBid_1 : decode cX10_takeBid 1 = .ok (.getfield 10, 3) := by decide +kernel
theorem dX10_takeBid_4 : decode cX10_takeBid 4 = .ok (.getfield 118, 3) := by decide +kernel
theorem dX10_takeBid_7 : decode cX10_takeBid 7 = .ok (.iload_n 1, 1) := by decide +kernel
theorem dX10_takeBid_8 : decode cX10_takeBid 8 = .ok (.invokevirtual 122, 3) := by decide +kernel
theorem dX10_takeBid_11 : decode cX10_takeBid 11 = .ok (.ifCond .ne 7, 3) := by decide +kernel
theorem dX10_takeBid_14 : decode cX10_takeBid 14 = .ok (.sipush (-1011), 3) := by decide +kernel
theorem dX10_takeBid_17 : decode cX10_takeBid 17 = .ok (.ireturn, 1) := by decide +kernel
theorem dX10_takeBid_18 : decode cX10_takeBid 18 = .ok (.iload_n 2, 1) := by decide +kernel
theorem dX10_takeBid_19 : decode cX10_takeBid 19 = .ok (.iconst 0, 1) := by decide +kernel
theorem dX10_takeBid_20 : decode cX10_takeBid 20 = .ok (.bipush 99, 2) := by decide +kernel
theorem dX10_takeBid_22 : decode cX10_takeBid 22 = .ok (.invokestatic 187, 3) := by decide +kernel
theorem dX10_takeBid_25 : decode cX10_takeBid 25 = .ok (.ifCond .ne 7, 3) := by decide +kernel
theorem dX10_takeBid_28 : decode cX10_takeBid 28 = .ok (.sipush (-1012), 3) := by decide +kernel
theorem dX10_takeBid_31 : decode cX10_takeBid 31 = .ok (.ireturn, 1) := by decide +kernel
theorem dX10_takeBid_32 : decode cX10_takeBid 32 = .ok (.aload_n 0, 1) := by decide +kernel
theorem dX10_takeBid_33 : decode cX10_takeBid 33 = .ok (.getfield 10, 3) := by decide +kernel
theorem dX10_takeBid_36 : decode cX10_takeBid 36 = .ok (.getfield 118, 3) := by decide +kernel
theorem dX10_takeBid_39 : decode cX10_takeBid 39 = .ok (.iload_n 1, 1) := by decide +kernel
theorem dX10_takeBid_40 : decode cX10_takeBid 40 = .ok (.invokevirtual 328, 3) := by decide +kernel
theorem dX10_takeBid_43 : decode cX10_takeBid 43 = .ok (.ifCond .ne 20, 3) := by decide +kernel
theorem dX10_takeBid_46 : decode cX10_takeBid 46 = .ok (.aload_n 0, 1) := by decide +kernel
theorem dX10_takeBid_47 : decode cX10_takeBid 47 = .ok (.bipush 8, 2) := by decide +kernel
theorem dX10_takeBid_49 : decode cX10_takeBid 49 = .ok (.aload_n 0, 1) := by decide +kernel
theorem dX10_takeBid_50 : decode cX10_takeBid 50 = .ok (.getfield 10, 3) := by decide +kernel
theorem dX10_takeBid_53 : decode cX10_takeBid 53 = .ok (.getfield 118, 3) := by decide +kernel
theorem dX10_takeBid_56 : decode cX10_takeBid 56 = .ok (.invokevirtual 261, 3) := by decide +kernel
theorem dX10_takeBid_59 : decode cX10_takeBid 59 = .ok (.invokevirtual 317, 3) := by decide +kernel
theorem dX10_takeBid_62 : decode cX10_takeBid 62 = .ok (.ireturn, 1) := by decide +kernel
theorem dX10_takeBid_63 : decode cX10_takeBid 63 = .ok (.iload_n 2, 1) := by decide +kernel
theorem dX10_takeBid_64 : decode cX10_takeBid 64 = .ok (.aload_n 0, 1) := by decide +kernel
theorem dX10_takeBid_65 : decode cX10_takeBid 65 = .ok (.getfield 10, 3) := by decide +kernel
theorem dX10_takeBid_68 : decode cX10_takeBid 68 = .ok (.getfield 118, 3) := by decide +kernel
theorem dX10_takeBid_71 : decode cX10_takeBid 71 = .ok (.getfield 132, 3) := by decide +kernel
theorem dX10_takeBid_74 : decode cX10_takeBid 74 = .ok (.iload_n 1, 1) := by decide +kernel
theorem dX10_takeBid_75 : decode cX10_takeBid 75 = .ok (.invokevirtual 89, 3) := by decide +kernel
theorem dX10_takeBid_78 : decode cX10_takeBid 78 = .ok (.if_icmp .le 24, 3) := by decide +kernel
theorem dX10_takeBid_81 : decode cX10_takeBid 81 = .ok (.aload_n 0, 1) := by decide +kernel
theorem dX10_takeBid_82 : decode cX10_takeBid 82 = .ok (.bipush 9, 2) := by decide +kernel
theorem dX10_takeBid_84 : decode cX10_takeBid 84 = .ok (.aload_n 0, 1) := by decide +kernel
theorem dX10_takeBid_85 : decode cX10_takeBid 85 = .ok (.getfield 10, 3) := by decide +kernel
theorem dX10_takeBid_88 : decode cX10_takeBid 88 = .ok (.getfield 118, 3) := by decide +kernel
theorem dX10_takeBid_91 : decode cX10_takeBid 91 = .ok (.getfield 132, 3) := by decide +kernel
theorem dX10_takeBid_94 : decode cX10_takeBid 94 = .ok (.iload_n 1, 1) := by decide +kernel
theorem dX10_takeBid_95 : decode cX10_takeBid 95 = .ok (.invokevirtual 89, 3) := by decide +kernel
theorem dX10_takeBid_98 : decode cX10_takeBid 98 = .ok (.invokevirtual 317, 3) := by decide +kernel
theorem dX10_takeBid_101 : decode cX10_takeBid 101 = .ok (.ireturn, 1) := by decide +kernel
theorem dX10_takeBid_102 : decode cX10_takeBid 102 = .ok (.aload_n 0, 1) := by decide +kernel
theorem dX10_takeBid_103 : decode cX10_takeBid 103 = .ok (.getfield 10, 3) := by decide +kernel
theorem dX10_takeBid_106 : decode cX10_takeBid 106 = .ok (.getfield 118, 3) := by decide +kernel
theorem dX10_takeBid_109 : decode cX10_takeBid 109 = .ok (.getfield 135, 3) := by decide +kernel
theorem dX10_takeBid_112 : decode cX10_takeBid 112 = .ok (.iload_n 1, 1) := by decide +kernel
theorem dX10_takeBid_113 : decode cX10_takeBid 113 = .ok (.invokevirtual 89, 3) := by decide +kernel
theorem dX10_takeBid_116 : decode cX10_takeBid 116 = .ok (.istore_n 3, 1) := by decide +kernel
theorem dX10_takeBid_117 : decode cX10_takeBid 117 = .ok (.aload_n 0, 1) := by decide +kernel
theorem dX10_takeBid_118 : decode cX10_takeBid 118 = .ok (.getfield 10, 3) := by decide +kernel
theorem dX10_takeBid_121 : decode cX10_takeBid 121 = .ok (.getfield 118, 3) := by decide +kernel
theorem dX10_takeBid_124 : decode cX10_takeBid 124 = .ok (.getfield 135, 3) := by decide +kernel
theorem dX10_takeBid_127 : decode cX10_takeBid 127 = .ok (.iload_n 1, 1) := by decide +kernel
theorem dX10_takeBid_128 : decode cX10_takeBid 128 = .ok (.iload_n 2, 1) := by decide +kernel
theorem dX10_takeBid_129 : decode cX10_takeBid 129 = .ok (.invokevirtual 344, 3) := by decide +kernel
theorem dX10_takeBid_132 : decode cX10_takeBid 132 = .ok (.iload_n 3, 1) := by decide +kernel
theorem dX10_takeBid_133 : decode cX10_takeBid 133 = .ok (.ireturn, 1) := by decide +kernel
theorem dX10_sellCushion_0 : decode cX10_sellCushion 0 = .ok (.iload_n 1, 1) := by decide +kernel
theorem dX10_sellCushion_1 : decode cX10_sellCushion 1 = .ok (.iconst 1, 1) := by decide +kernel
theorem dX10_sellCushion_2 : decode cX10_sellCushion 2 = .ok (.bipush 9, 2) := by decide +kernel
theorem dX10_sellCushion_4 : decode cX10_sellCushion 4 = .ok (.invokestatic 187, 3) := by decide +kernel
theorem dX10_sellCushion_7 : decode cX10_sellCushion 7 = .ok (.ifCond .ne 7, 3) := by decide +kernel
theorem dX10_sellCushion_10 : decode cX10_sellCushion 10 = .ok (.sipush (-1012), 3) := by decide +kernel
theorem dX10_sellCushion_13 : decode cX10_sellCushion 13 = .ok (.ireturn, 1) := by decide +kernel
theorem dX10_sellCushion_14 : decode cX10_sellCushion 14 = .ok (.aload_n 0, 1) := by decide +kernel
theorem dX10_sellCushion_15 : decode cX10_sellCushion 15 = .ok (.getfield 10, 3) := by decide +kernel
theorem dX10_sellCushion_18 : decode cX10_sellCushion 18 = .ok (.getfield 118, 3) := by decide +kernel
theorem dX10_sellCushion_21 : decode cX10_sellCushion 21 = .ok (.astore_n 2, 1) := by decide +kernel
theorem dX10_sellCushion_22 : decode cX10_sellCushion 22 = .ok (.aload_n 2, 1) := by decide +kernel
theorem dX10_sellCushion_23 : decode cX10_sellCushion 23 = .ok (.iconst (-1), 1) := by decide +kernel
theorem dX10_sellCushion_24 : decode cX10_sellCushion 24 = .ok (.invokevirtual 346, 3) := by decide +kernel
theorem dX10_sellCushion_27 : decode cX10_sellCushion 27 = .ok (.istore_n 3, 1) := by decide +kernel
theorem dX10_sellCushion_28 : decode cX10_sellCushion 28 = .ok (.iload_n 3, 1) := by decide +kernel
theorem dX10_sellCushion_29 : decode cX10_sellCushion 29 = .ok (.iconst (-1), 1) := by decide +kernel
theorem dX10_sellCushion_30 : decode cX10_sellCushion 30 = .ok (.if_icmp .ne 14, 3) := by decide +kernel
theorem dX10_sellCushion_33 : decode cX10_sellCushion 33 = .ok (.aload_n 0, 1) := by decide +kernel
theorem dX10_sellCushion_34 : decode cX10_sellCushion 34 = .ok (.bipush 10, 2) := by decide +kernel
theorem dX10_sellCushion_36 : decode cX10_sellCushion 36 = .ok (.aload_n 2, 1) := by decide +kernel
theorem dX10_sellCushion_37 : decode cX10_sellCushion 37 = .ok (.invokevirtual 261, 3) := by decide +kernel
theorem dX10_sellCushion_40 : decode cX10_sellCushion 40 = .ok (.invokevirtual 317, 3) := by decide +kernel
theorem dX10_sellCushion_43 : decode cX10_sellCushion 43 = .ok (.ireturn, 1) := by decide +kernel
theorem dX10_sellCushion_44 : decode cX10_sellCushion 44 = .ok (.aload_n 2, 1) := by decide +kernel
theorem dX10_sellCushion_45 : decode cX10_sellCushion 45 = .ok (.iload_n 3, 1) := by decide +kernel
theorem dX10_sellCushion_46 : decode cX10_sellCushion 46 = .ok (.invokevirtual 346, 3) := by decide +kernel
theorem dX10_sellCushion_49 : decode cX10_sellCushion 49 = .ok (.istore 4, 2) := by decide +kernel
theorem dX10_sellCushion_51 : decode cX10_sellCushion 51 = .ok (.iload 4, 2) := by decide +kernel
theorem dX10_sellCushion_53 : decode cX10_sellCushion 53 = .ok (.iconst (-1), 1) := by decide +kernel
theorem dX10_sellCushion_54 : decode cX10_sellCushion 54 = .ok (.if_icmp .ne 7, 3) := by decide +kernel
theorem dX10_sellCushion_57 : decode cX10_sellCushion 57 = .ok (.iconst 0, 1) := by decide +kernel
theorem dX10_sellCushion_58 : decode cX10_sellCushion 58 = .ok (.goto 12, 3) := by decide +kernel
theorem dX10_sellCushion_61 : decode cX10_sellCushion 61 = .ok (.aload_n 2, 1) := by decide +kernel
theorem dX10_sellCushion_62 : decode cX10_sellCushion 62 = .ok (.getfield 135, 3) := by decide +kernel
theorem dX10_sellCushion_65 : decode cX10_sellCushion 65 = .ok (.iload 4, 2) := by decide +kernel
theorem dX10_sellCushion_67 : decode cX10_sellCushion 67 = .ok (.invokevirtual 89, 3) := by decide +kernel
theorem dX10_sellCushion_70 : decode cX10_sellCushion 70 = .ok (.istore 5, 2) := by decide +kernel
theorem dX10_sellCushion_72 : decode cX10_sellCushion 72 = .ok (.aload_n 2, 1) := by decide +kernel
theorem dX10_sellCushion_73 : decode cX10_sellCushion 73 = .ok (.getfield 132, 3) := by decide +kernel
theorem dX10_sellCushion_76 : decode cX10_sellCushion 76 = .ok (.iload_n 3, 1) := by decide +kernel
theorem dX10_sellCushion_77 : decode cX10_sellCushion 77 = .ok (.iload 5, 2) := by decide +kernel
theorem dX10_sellCushion_79 : decode cX10_sellCushion 79 = .ok (.ineg, 1) := by decide +kernel
theorem dX10_sellCushion_80 : decode cX10_sellCushion 80 = .ok (.invokevirtual 349, 3) := by decide +kernel
theorem dX10_sellCushion_83 : decode cX10_sellCushion 83 = .ok (.aload_n 0, 1) := by decide +kernel
theorem dX10_sellCushion_84 : decode cX10_sellCushion 84 = .ok (.getfield 10, 3) := by decide +kernel
theorem dX10_sellCushion_87 : decode cX10_sellCushion 87 = .ok (.getfield 257, 3) := by decide +kernel
theorem dX10_sellCushion_90 : decode cX10_sellCushion 90 = .ok (.dup, 1) := by decide +kernel
theorem dX10_sellCushion_91 : decode cX10_sellCushion 91 = .ok (.getfield 270, 3) := by decide +kernel
theorem dX10_sellCushion_94 : decode cX10_sellCushion 94 = .ok (.iload 5, 2) := by decide +kernel
theorem dX10_sellCushion_96 : decode cX10_sellCushion 96 = .ok (.iadd, 1) := by decide +kernel
theorem dX10_sellCushion_97 : decode cX10_sellCushion 97 = .ok (.putfield 270, 3) := by decide +kernel
theorem dX10_sellCushion_100 : decode cX10_sellCushion 100 = .ok (.aload_n 0, 1) := by decide +kernel
theorem dX10_sellCushion_101 : decode cX10_sellCushion 101 = .ok (.getfield 10, 3) := by decide +kernel
theorem dX10_sellCushion_104 : decode cX10_sellCushion 104 = .ok (.getfield 75, 3) := by decide +kernel
theorem dX10_sellCushion_107 : decode cX10_sellCushion 107 = .ok (.getfield 97, 3) := by decide +kernel
theorem dX10_sellCushion_110 : decode cX10_sellCushion 110 = .ok (.aload_n 2, 1) := by decide +kernel
theorem dX10_sellCushion_111 : decode cX10_sellCushion 111 = .ok (.getfield 138, 3) := by decide +kernel
theorem dX10_sellCushion_114 : decode cX10_sellCushion 114 = .ok (.iload_n 3, 1) := by decide +kernel
theorem dX10_sellCushion_115 : decode cX10_sellCushion 115 = .ok (.invokevirtual 89, 3) := by decide +kernel
theorem dX10_sellCushion_118 : decode cX10_sellCushion 118 = .ok (.iload_n 1, 1) := by decide +kernel
theorem dX10_sellCushion_119 : decode cX10_sellCushion 119 = .ok (.invokevirtual 344, 3) := by decide +kernel
theorem dX10_sellCushion_122 : decode cX10_sellCushion 122 = .ok (.aload_n 2, 1) := by decide +kernel
theorem dX10_sellCushion_123 : decode cX10_sellCushion 123 = .ok (.invokevirtual 352, 3) := by decide +kernel
theorem dX10_sellCushion_126 : decode cX10_sellCushion 126 = .ok (.aload_n 0, 1) := by decide +kernel
theorem dX10_sellCushion_127 : decode cX10_sellCushion 127 = .ok (.getfield 10, 3) := by decide +kernel
theorem dX10_sellCushion_130 : decode cX10_sellCushion 130 = .ok (.getfield 257, 3) := by decide +kernel
theorem dX10_sellCushion_133 : decode cX10_sellCushion 133 = .ok (.dup, 1) := by decide +kernel
theorem dX10_sellCushion_134 : decode cX10_sellCushion 134 = .ok (.getfield 290, 3) := by decide +kernel
theorem dX10_sellCushion_137 : decode cX10_sellCushion 137 = .ok (.iconst 1, 1) := by decide +kernel
theorem dX10_sellCushion_138 : decode cX10_sellCushion 138 = .ok (.iadd, 1) := by decide +kernel
theorem dX10_sellCushion_139 : decode cX10_sellCushion 139 = .ok (.putfield 290, 3) := by decide +kernel
theorem dX10_sellCushion_142 : decode cX10_sellCushion 142 = .ok (.iload 5, 2) := by decide +kernel
theorem dX10_sellCushion_144 : decode cX10_sellCushion 144 = .ok (.ireturn, 1) := by decide +kernel
theorem dX10_giveConcert_0 : decode cX10_giveConcert 0 = .ok (.iload_n 1, 1) := by decide +kernel
theorem dX10_giveConcert_1 : decode cX10_giveConcert 1 = .ok (.iconst 1, 1) := by decide +kernel
theorem dX10_giveConcert_2 : decode cX10_giveConcert 2 = .ok (.iconst 4, 1) := by decide +kernel
theorem dX10_giveConcert_3 : decode cX10_giveConcert 3 = .ok (.invokestatic 187, 3) := by decide +kernel
theorem dX10_giveConcert_6 : decode cX10_giveConcert 6 = .ok (.ifCond .ne 7, 3) := by decide +kernel
theorem dX10_giveConcert_9 : decode cX10_giveConcert 9 = .ok (.sipush (-1012), 3) := by decide +kernel
theorem dX10_giveConcert_12 : decode cX10_giveConcert 12 = .ok (.ireturn, 1) := by decide +kernel
theorem dX10_giveConcert_13 : decode cX10_giveConcert 13 = .ok (.aload_n 0, 1) := by decide +kernel
theorem dX10_giveConcert_14 : decode cX10_giveConcert 14 = .ok (.getfield 10, 3) := by decide +kernel
theorem dX10_giveConcert_17 : decode cX10_giveConcert 17 = .ok (.getfield 118, 3) := by decide +kernel
theorem dX10_giveConcert_20 : decode cX10_giveConcert 20 = .ok (.invokevirtual 261, 3) := by decide +kernel
theorem dX10_giveConcert_23 : decode cX10_giveConcert 23 = .ok (.ifCond .ne 20, 3) := by decide +kernel
theorem dX10_giveConcert_26 : decode cX10_giveConcert 26 = .ok (.aload_n 0, 1) := by decide +kernel
theorem dX10_giveConcert_27 : decode cX10_giveConcert 27 = .ok (.bipush 11, 2) := by decide +kernel
theorem dX10_giveConcert_29 : decode cX10_giveConcert 29 = .ok (.aload_n 0, 1) := by decide +kernel
theorem dX10_giveConcert_30 : decode cX10_giveConcert 30 = .ok (.getfield 10, 3) := by decide +kernel
theorem dX10_giveConcert_33 : decode cX10_giveConcert 33 = .ok (.getfield 118, 3) := by decide +kernel
theorem dX10_giveConcert_36 : decode cX10_giveConcert 36 = .ok (.getfield 174, 3) := by decide +kernel
theorem dX10_giveConcert_39 : decode cX10_giveConcert 39 = .ok (.invokevirtual 317, 3) := by decide +kernel
theorem dX10_giveConcert_42 : decode cX10_giveConcert 42 = .ok (.ireturn, 1) := by decide +kernel
theorem dX10_giveConcert_43 : decode cX10_giveConcert 43 = .ok (.iconst 0, 1) := by decide +kernel
theorem dX10_giveConcert_44 : decode cX10_giveConcert 44 = .ok (.istore_n 2, 1) := by decide +kernel
theorem dX10_giveConcert_45 : decode cX10_giveConcert 45 = .ok (.iconst 0, 1) := by decide +kernel
theorem dX10_giveConcert_46 : decode cX10_giveConcert 46 = .ok (.istore_n 3, 1) := by decide +kernel
theorem dX10_giveConcert_47 : decode cX10_giveConcert 47 = .ok (.iload_n 3, 1) := by decide +kernel
theorem dX10_giveConcert_48 : decode cX10_giveConcert 48 = .ok (.aload_n 0, 1) := by decide +kernel
theorem dX10_giveConcert_49 : decode cX10_giveConcert 49 = .ok (.getfield 10, 3) := by decide +kernel
theorem dX10_giveConcert_52 : decode cX10_giveConcert 52 = .ok (.getfield 75, 3) := by decide +kernel
theorem dX10_giveConcert_55 : decode cX10_giveConcert 55 = .ok (.getfield 170, 3) := by decide +kernel
theorem dX10_giveConcert_58 : decode cX10_giveConcert 58 = .ok (.if_icmp .ge 43, 3) := by decide +kernel
theorem dX10_giveConcert_61 : decode cX10_giveConcert 61 = .ok (.aload_n 0, 1) := by decide +kernel
theorem dX10_giveConcert_62 : decode cX10_giveConcert 62 = .ok (.getfield 10, 3) := by decide +kernel
theorem dX10_giveConcert_65 : decode cX10_giveConcert 65 = .ok (.getfield 75, 3) := by decide +kernel
theorem dX10_giveConcert_68 : decode cX10_giveConcert 68 = .ok (.iload_n 3, 1) := by decide +kernel
theorem dX10_giveConcert_69 : decode cX10_giveConcert 69 = .ok (.invokevirtual 241, 3) := by decide +kernel
theorem dX10_giveConcert_72 : decode cX10_giveConcert 72 = .ok (.ifCond .eq 23, 3) := by decide +kernel
theorem dX10_giveConcert_75 : decode cX10_giveConcert 75 = .ok (.iload_n 2, 1) := by decide +kernel
theorem dX10_giveConcert_76 : decode cX10_giveConcert 76 = .ok (.aload_n 0, 1) := by decide +kernel
theorem dX10_giveConcert_77 : decode cX10_giveConcert 77 = .ok (.getfield 10, 3) := by decide +kernel
theorem dX10_giveConcert_80 : decode cX10_giveConcert 80 = .ok (.iload_n 3, 1) := by decide +kernel
theorem dX10_giveConcert_81 : decode cX10_giveConcert 81 = .ok (.invokevirtual 355, 3) := by decide +kernel
theorem dX10_giveConcert_84 : decode cX10_giveConcert 84 = .ok (.iadd, 1) := by decide +kernel
theorem dX10_giveConcert_85 : decode cX10_giveConcert 85 = .ok (.istore_n 2, 1) := by decide +kernel
theorem dX10_giveConcert_86 : decode cX10_giveConcert 86 = .ok (.aload_n 0, 1) := by decide +kernel
theorem dX10_giveConcert_87 : decode cX10_giveConcert 87 = .ok (.getfield 10, 3) := by decide +kernel
theorem dX10_giveConcert_90 : decode cX10_giveConcert 90 = .ok (.iload_n 3, 1) := by decide +kernel
theorem dX10_giveConcert_91 : decode cX10_giveConcert 91 = .ok (.iload_n 1, 1) := by decide +kernel
theorem dX10_giveConcert_92 : decode cX10_giveConcert 92 = .ok (.invokevirtual 358, 3) := by decide +kernel
theorem dX10_giveConcert_95 : decode cX10_giveConcert 95 = .ok (.iinc 3 1, 3) := by decide +kernel
theorem dX10_giveConcert_98 : decode cX10_giveConcert 98 = .ok (.goto (-51), 3) := by decide +kernel
theorem dX10_giveConcert_101 : decode cX10_giveConcert 101 = .ok (.aload_n 0, 1) := by decide +kernel
theorem dX10_giveConcert_102 : decode cX10_giveConcert 102 = .ok (.getfield 10, 3) := by decide +kernel
theorem dX10_giveConcert_105 : decode cX10_giveConcert 105 = .ok (.getfield 257, 3) := by decide +kernel
theorem dX10_giveConcert_108 : decode cX10_giveConcert 108 = .ok (.dup, 1) := by decide +kernel
theorem dX10_giveConcert_109 : decode cX10_giveConcert 109 = .ok (.getfield 284, 3) := by decide +kernel
theorem dX10_giveConcert_112 : decode cX10_giveConcert 112 = .ok (.iconst 1, 1) := by decide +kernel
theorem dX10_giveConcert_113 : decode cX10_giveConcert 113 = .ok (.iadd, 1) := by decide +kernel
theorem dX10_giveConcert_114 : decode cX10_giveConcert 114 = .ok (.putfield 284, 3) := by decide +kernel
theorem dX10_giveConcert_117 : decode cX10_giveConcert 117 = .ok (.iload_n 2, 1) := by decide +kernel
theorem dX10_giveConcert_118 : decode cX10_giveConcert 118 = .ok (.ireturn, 1) := by decide +kernel
theorem dX10_putUp_0 : decode cX10_putUp 0 = .ok (.aload_n 0, 1) := by decide +kernel
theorem dX10_putUp_1 : decode cX10_putUp 1 = .ok (.getfield 10, 3) := by decide +kernel
theorem dX10_putUp_4 : decode cX10_putUp 4 = .ok (.getfield 75, 3) := by decide +kernel
theorem dX10_putUp_7 : decode cX10_putUp 7 = .ok (.iload_n 1, 1) := by decide +kernel
theorem dX10_putUp_8 : decode cX10_putUp 8 = .ok (.invokevirtual 79, 3) := by decide +kernel
theorem dX10_putUp_11 : decode cX10_putUp 11 = .ok (.ifCond .ne 7, 3) := by decide +kernel
theorem dX10_putUp_14 : decode cX10_putUp 14 = .ok (.sipush (-1011), 3) := by decide +kernel
theorem dX10_putUp_17 : decode cX10_putUp 17 = .ok (.ireturn, 1) := by decide +kernel
theorem dX10_putUp_18 : decode cX10_putUp 18 = .ok (.aload_n 0, 1) := by decide +kernel
theorem dX10_putUp_19 : decode cX10_putUp 19 = .ok (.getfield 10, 3) := by decide +kernel
theorem dX10_putUp_22 : decode cX10_putUp 22 = .ok (.getfield 75, 3) := by decide +kernel
theorem dX10_putUp_25 : decode cX10_putUp 25 = .ok (.getfield 100, 3) := by decide +kernel
theorem dX10_putUp_28 : decode cX10_putUp 28 = .ok (.iload_n 1, 1) := by decide +kernel
theorem dX10_putUp_29 : decode cX10_putUp 29 = .ok (.invokevirtual 89, 3) := by decide +kernel
theorem dX10_putUp_32 : decode cX10_putUp 32 = .ok (.iconst 3, 1) := by decide +kernel
theorem dX10_putUp_33 : decode cX10_putUp 33 = .ok (.if_icmp .lt 24, 3) := by decide +kernel
theorem dX10_putUp_36 : decode cX10_putUp 36 = .ok (.aload_n 0, 1) := by decide +kernel
theorem dX10_putUp_37 : decode cX10_putUp 37 = .ok (.bipush 12, 2) := by decide +kernel
theorem dX10_putUp_39 : decode cX10_putUp 39 = .ok (.aload_n 0, 1) := by decide +kernel
theorem dX10_putUp_40 : decode cX10_putUp 40 = .ok (.getfield 10, 3) := by decide +kernel
theorem dX10_putUp_43 : decode cX10_putUp 43 = .ok (.getfield 75, 3) := by decide +kernel
theorem dX10_putUp_46 : decode cX10_putUp 46 = .ok (.getfield 100, 3) := by decide +kernel
theorem dX10_putUp_49 : decode cX10_putUp 49 = .ok (.iload_n 1, 1) := by decide +kernel
theorem dX10_putUp_50 : decode cX10_putUp 50 = .ok (.invokevirtual 89, 3) := by decide +kernel
theorem dX10_putUp_53 : decode cX10_putUp 53 = .ok (.invokevirtual 317, 3) := by decide +kernel
theorem dX10_putUp_56 : decode cX10_putUp 56 = .ok (.ireturn, 1) := by decide +kernel
theorem dX10_putUp_57 : decode cX10_putUp 57 = .ok (.aload_n 0, 1) := by decide +kernel
theorem dX10_putUp_58 : decode cX10_putUp 58 = .ok (.getfield 10, 3) := by decide +kernel
theorem dX10_putUp_61 : decode cX10_putUp 61 = .ok (.getfield 257, 3) := by decide +kernel
theorem dX10_putUp_64 : decode cX10_putUp 64 = .ok (.getfield 270, 3) := by decide +kernel
theorem dX10_putUp_67 : decode cX10_putUp 67 = .ok (.iconst 2, 1) := by decide +kernel
theorem dX10_putUp_68 : decode cX10_putUp 68 = .ok (.if_icmp .ge 20, 3) := by decide +kernel
theorem dX10_putUp_71 : decode cX10_putUp 71 = .ok (.aload_n 0, 1) := by decide +kernel
theorem dX10_putUp_72 : decode cX10_putUp 72 = .ok (.bipush 9, 2) := by decide +kernel
theorem dX10_putUp_74 : decode cX10_putUp 74 = .ok (.aload_n 0, 1) := by decide +kernel
theorem dX10_putUp_75 : decode cX10_putUp 75 = .ok (.getfield 10, 3) := by decide +kernel
theorem dX10_putUp_78 : decode cX10_putUp 78 = .ok (.getfield 257, 3) := by decide +kernel
theorem dX10_putUp_81 : decode cX10_putUp 81 = .ok (.getfield 270, 3) := by decide +kernel
theorem dX10_putUp_84 : decode cX10_putUp 84 = .ok (.invokevirtual 317, 3) := by decide +kernel
theorem dX10_putUp_87 : decode cX10_putUp 87 = .ok (.ireturn, 1) := by decide +kernel
theorem dX10_putUp_88 : decode cX10_putUp 88 = .ok (.aload_n 0, 1) := by decide +kernel
theorem dX10_putUp_89 : decode cX10_putUp 89 = .ok (.getfield 10, 3) := by decide +kernel
theorem dX10_putUp_92 : decode cX10_putUp 92 = .ok (.getfield 75, 3) := by decide +kernel
theorem dX10_putUp_95 : decode cX10_putUp 95 = .ok (.getfield 100, 3) := by decide +kernel
theorem dX10_putUp_98 : decode cX10_putUp 98 = .ok (.iload_n 1, 1) := by decide +kernel
theorem dX10_putUp_99 : decode cX10_putUp 99 = .ok (.iconst 3, 1) := by decide +kernel
theorem dX10_putUp_100 : decode cX10_putUp 100 = .ok (.invokevirtual 344, 3) := by decide +kernel
theorem dX10_putUp_103 : decode cX10_putUp 103 = .ok (.aload_n 0, 1) := by decide +kernel
theorem dX10_putUp_104 : decode cX10_putUp 104 = .ok (.getfield 10, 3) := by decide +kernel
theorem dX10_putUp_107 : decode cX10_putUp 107 = .ok (.getfield 257, 3) := by decide +kernel
theorem dX10_putUp_110 : decode cX10_putUp 110 = .ok (.dup, 1) := by decide +kernel
theorem dX10_putUp_111 : decode cX10_putUp 111 = .ok (.getfield 270, 3) := by decide +kernel
theorem dX10_putUp_114 : decode cX10_putUp 114 = .ok (.iconst 2, 1) := by decide +kernel
theorem dX10_putUp_115 : decode cX10_putUp 115 = .ok (.isub, 1) := by decide +kernel
theorem dX10_putUp_116 : decode cX10_putUp 116 = .ok (.putfield 270, 3) := by decide +kernel
theorem dX10_putUp_119 : decode cX10_putUp 119 = .ok (.aload_n 0, 1) := by decide +kernel
theorem dX10_putUp_120 : decode cX10_putUp 120 = .ok (.getfield 10, 3) := by decide +kernel
theorem dX10_putUp_123 : decode cX10_putUp 123 = .ok (.getfield 257, 3) := by decide +kernel
theorem dX10_putUp_126 : decode cX10_putUp 126 = .ok (.dup, 1) := by decide +kernel
theorem dX10_putUp_127 : decode cX10_putUp 127 = .ok (.getfield 278, 3) := by decide +kernel
theorem dX10_putUp_130 : decode cX10_putUp 130 = .ok (.iconst 2, 1) := by decide +kernel
theorem dX10_putUp_131 : decode cX10_putUp 131 = .ok (.iadd, 1) := by decide +kernel
theorem dX10_putUp_132 : decode cX10_putUp 132 = .ok (.putfield 278, 3) := by decide +kernel
theorem dX10_putUp_135 : decode cX10_putUp 135 = .ok (.aload_n 0, 1) := by decide +kernel
theorem dX10_putUp_136 : decode cX10_putUp 136 = .ok (.getfield 10, 3) := by decide +kernel
theorem dX10_putUp_139 : decode cX10_putUp 139 = .ok (.getfield 257, 3) := by decide +kernel
theorem dX10_putUp_142 : decode cX10_putUp 142 = .ok (.getfield 270, 3) := by decide +kernel
theorem dX10_putUp_145 : decode cX10_putUp 145 = .ok (.ireturn, 1) := by decide +kernel
theorem dX10_moveUp_0 : decode cX10_moveUp 0 = .ok (.aload_n 0, 1) := by decide +kernel
theorem dX10_moveUp_1 : decode cX10_moveUp 1 = .ok (.getfield 10, 3) := by decide +kernel
theorem dX10_moveUp_4 : decode cX10_moveUp 4 = .ok (.getfield 75, 3) := by decide +kernel
theorem dX10_moveUp_7 : decode cX10_moveUp 7 = .ok (.iload_n 1, 1) := by decide +kernel
theorem dX10_moveUp_8 : decode cX10_moveUp 8 = .ok (.invokevirtual 79, 3) := by decide +kernel
theorem dX10_moveUp_11 : decode cX10_moveUp 11 = .ok (.ifCond .ne 7, 3) := by decide +kernel
theorem dX10_moveUp_14 : decode cX10_moveUp 14 = .ok (.sipush (-1011), 3) := by decide +kernel
theorem dX10_moveUp_17 : decode cX10_moveUp 17 = .ok (.ireturn, 1) := by decide +kernel
theorem dX10_moveUp_18 : decode cX10_moveUp 18 = .ok (.aload_n 0, 1) := by decide +kernel
theorem dX10_moveUp_19 : decode cX10_moveUp 19 = .ok (.getfield 10, 3) := by decide +kernel
theorem dX10_moveUp_22 : decode cX10_moveUp 22 = .ok (.getfield 75, 3) := by decide +kernel
theorem dX10_moveUp_25 : decode cX10_moveUp 25 = .ok (.getfield 103, 3) := by decide +kernel
theorem dX10_moveUp_28 : decode cX10_moveUp 28 = .ok (.iload_n 1, 1) := by decide +kernel
theorem dX10_moveUp_29 : decode cX10_moveUp 29 = .ok (.invokevirtual 89, 3) := by decide +kernel
theorem dX10_moveUp_32 : decode cX10_moveUp 32 = .ok (.istore_n 2, 1) := by decide +kernel
theorem dX10_moveUp_33 : decode cX10_moveUp 33 = .ok (.aload_n 0, 1) := by decide +kernel
theorem dX10_moveUp_34 : decode cX10_moveUp 34 = .ok (.getfield 10, 3) := by decide +kernel
theorem dX10_moveUp_37 : decode cX10_moveUp 37 = .ok (.getfield 75, 3) := by decide +kernel
theorem dX10_moveUp_40 : decode cX10_moveUp 40 = .ok (.getfield 109, 3) := by decide +kernel
theorem dX10_moveUp_43 : decode cX10_moveUp 43 = .ok (.iload_n 1, 1) := by decide +kernel
theorem dX10_moveUp_44 : decode cX10_moveUp 44 = .ok (.invokevirtual 89, 3) := by decide +kernel
theorem dX10_moveUp_47 : decode cX10_moveUp 47 = .ok (.istore_n 3, 1) := by decide +kernel
theorem dX10_moveUp_48 : decode cX10_moveUp 48 = .ok (.iload_n 2, 1) := by decide +kernel
theorem dX10_moveUp_49 : decode cX10_moveUp 49 = .ok (.iconst 2, 1) := by decide +kernel
theorem dX10_moveUp_50 : decode cX10_moveUp 50 = .ok (.if_icmp .lt 11, 3) := by decide +kernel
theorem dX10_moveUp_53 : decode cX10_moveUp 53 = .ok (.aload_n 0, 1) := by decide +kernel
theorem dX10_moveUp_54 : decode cX10_moveUp 54 = .ok (.bipush 13, 2) := by decide +kernel
theorem dX10_moveUp_56 : decode cX10_moveUp 56 = .ok (.iload_n 3, 1) := by decide +kernel
theorem dX10_moveUp_57 : decode cX10_moveUp 57 = .ok (.invokevirtual 317, 3) := by decide +kernel
theorem dX10_moveUp_60 : decode cX10_moveUp 60 = .ok (.ireturn, 1) := by decide +kernel
theorem dX10_moveUp_61 : decode cX10_moveUp 61 = .ok (.bipush 20, 2) := by decide +kernel
theorem dX10_moveUp_63 : decode cX10_moveUp 63 = .ok (.iload_n 2, 1) := by decide +kernel
theorem dX10_moveUp_64 : decode cX10_moveUp 64 = .ok (.iconst 1, 1) := by decide +kernel
theorem dX10_moveUp_65 : decode cX10_moveUp 65 = .ok (.iadd, 1) := by decide +kernel
theorem dX10_moveUp_66 : decode cX10_moveUp 66 = .ok (.imul, 1) := by decide +kernel
theorem dX10_moveUp_67 : decode cX10_moveUp 67 = .ok (.istore 4, 2) := by decide +kernel
theorem dX10_moveUp_69 : decode cX10_moveUp 69 = .ok (.iload_n 3, 1) := by decide +kernel
theorem dX10_moveUp_70 : decode cX10_moveUp 70 = .ok (.iload 4, 2) := by decide +kernel
theorem dX10_moveUp_72 : decode cX10_moveUp 72 = .ok (.if_icmp .ge 14, 3) := by decide +kernel
theorem dX10_moveUp_75 : decode cX10_moveUp 75 = .ok (.aload_n 0, 1) := by decide +kernel
theorem dX10_moveUp_76 : decode cX10_moveUp 76 = .ok (.bipush 14, 2) := by decide +kernel
theorem dX10_moveUp_78 : decode cX10_moveUp 78 = .ok (.iload 4, 2) := by decide +kernel
theorem dX10_moveUp_80 : decode cX10_moveUp 80 = .ok (.iload_n 3, 1) := by decide +kernel
theorem dX10_moveUp_81 : decode cX10_moveUp 81 = .ok (.isub, 1) := by decide +kernel
theorem dX10_moveUp_82 : decode cX10_moveUp 82 = .ok (.invokevirtual 317, 3) := by decide +kernel
theorem dX10_moveUp_85 : decode cX10_moveUp 85 = .ok (.ireturn, 1) := by decide +kernel
theorem dX10_moveUp_86 : decode cX10_moveUp 86 = .ok (.aload_n 0, 1) := by decide +kernel
theorem dX10_moveUp_87 : decode cX10_moveUp 87 = .ok (.getfield 10, 3) := by decide +kernel
theorem dX10_moveUp_90 : decode cX10_moveUp 90 = .ok (.getfield 75, 3) := by decide +kernel
theorem dX10_moveUp_93 : decode cX10_moveUp 93 = .ok (.getfield 103, 3) := by decide +kernel
theorem dX10_moveUp_96 : decode cX10_moveUp 96 = .ok (.iload_n 1, 1) := by decide +kernel
theorem dX10_moveUp_97 : decode cX10_moveUp 97 = .ok (.iload_n 2, 1) := by decide +kernel
theorem dX10_moveUp_98 : decode cX10_moveUp 98 = .ok (.iconst 1, 1) := by decide +kernel
theorem dX10_moveUp_99 : decode cX10_moveUp 99 = .ok (.iadd, 1) := by decide +kernel
theorem dX10_moveUp_100 : decode cX10_moveUp 100 = .ok (.invokevirtual 344, 3) := by decide +kernel
theorem dX10_moveUp_103 : decode cX10_moveUp 103 = .ok (.iload_n 2, 1) := by decide +kernel
theorem dX10_moveUp_104 : decode cX10_moveUp 104 = .ok (.iconst 1, 1) := by decide +kernel
theorem dX10_moveUp_105 : decode cX10_moveUp 105 = .ok (.iadd, 1) := by decide +kernel
theorem dX10_moveUp_106 : decode cX10_moveUp 106 = .ok (.ireturn, 1) := by decide +kernel
theorem dX10_carryOut_0 : decode cX10_carryOut 0 = .ok (.aload_n 0, 1) := by decide +kernel
theorem dX10_carryOut_1 : decode cX10_carryOut 1 = .ok (.getfield 39, 3) := by decide +kernel
theorem dX10_carryOut_4 : decode cX10_carryOut 4 = .ok (.getfield 361, 3) := by decide +kernel
theorem dX10_carryOut_7 : decode cX10_carryOut 7 = .ok (.iload_n 1, 1) := by decide +kernel
theorem dX10_carryOut_8 : decode cX10_carryOut 8 = .ok (.invokevirtual 89, 3) := by decide +kernel
theorem dX10_carryOut_11 : decode cX10_carryOut 11 = .ok (.istore_n 2, 1) := by decide +kernel
theorem dX10_carryOut_12 : decode cX10_carryOut 12 = .ok (.aload_n 0, 1) := by decide +kernel
theorem dX10_carryOut_13 : decode cX10_carryOut 13 = .ok (.getfield 39, 3) := by decide +kernel
theorem dX10_carryOut_16 : decode cX10_carryOut 16 = .ok (.getfield 364, 3) := by decide +kernel
theorem dX10_carryOut_19 : decode cX10_carryOut 19 = .ok (.iload_n 1, 1) := by decide +kernel
theorem dX10_carryOut_20 : decode cX10_carryOut 20 = .ok (.invokevirtual 89, 3) := by decide +kernel
theorem dX10_carryOut_23 : decode cX10_carryOut 23 = .ok (.istore_n 3, 1) := by decide +kernel
theorem dX10_carryOut_24 : decode cX10_carryOut 24 = .ok (.aload_n 0, 1) := by decide +kernel
theorem dX10_carryOut_25 : decode cX10_carryOut 25 = .ok (.getfield 39, 3) := by decide +kernel
theorem dX10_carryOut_28 : decode cX10_carryOut 28 = .ok (.getfield 367, 3) := by decide +kernel
theorem dX10_carryOut_31 : decode cX10_carryOut 31 = .ok (.iload_n 1, 1) := by decide +kernel
theorem dX10_carryOut_32 : decode cX10_carryOut 32 = .ok (.invokevirtual 89, 3) := by decide +kernel
theorem dX10_carryOut_35 : decode cX10_carryOut 35 = .ok (.tableswitch 171 97 117 #[135, 140, 147, 171, 171, 171, 171, 97, 171, 171, 171, 171, 104, 171, 171, 153, 171, 129, 122, 165, 159], 97) := by decide +kernel
theorem dX10_carryOut_132 : decode cX10_carryOut 132 = .ok (.aload_n 0, 1) := by decide +kernel
theorem dX10_carryOut_133 : decode cX10_carryOut 133 = .ok (.iload_n 2, 1) := by decide +kernel
theorem dX10_carryOut_134 : decode cX10_carryOut 134 = .ok (.iload_n 3, 1) := by decide +kernel
theorem dX10_carryOut_135 : decode cX10_carryOut 135 = .ok (.invokevirtual 63, 3) := by decide +kernel
theorem dX10_carryOut_138 : decode cX10_carryOut 138 = .ok (.ireturn, 1) := by decide +kernel
theorem dX10_carryOut_139 : decode cX10_carryOut 139 = .ok (.aload_n 0, 1) := by decide +kernel
theorem dX10_carryOut_140 : decode cX10_carryOut 140 = .ok (.iload_n 2, 1) := by decide +kernel
theorem dX10_carryOut_141 : decode cX10_carryOut 141 = .ok (.iload_n 3, 1) := by decide +kernel
theorem dX10_carryOut_142 : decode cX10_carryOut 142 = .ok (.aload_n 0, 1) := by decide +kernel
theorem dX10_carryOut_143 : decode cX10_carryOut 143 = .ok (.getfield 39, 3) := by decide +kernel
theorem dX10_carryOut_146 : decode cX10_carryOut 146 = .ok (.getfield 370, 3) := by decide +kernel
theorem dX10_carryOut_149 : decode cX10_carryOut 149 = .ok (.iload_n 1, 1) := by decide +kernel
theorem dX10_carryOut_150 : decode cX10_carryOut 150 = .ok (.invokevirtual 89, 3) := by decide +kernel
theorem dX10_carryOut_153 : decode cX10_carryOut 153 = .ok (.invokevirtual 71, 3) := by decide +kernel
theorem dX10_carryOut_156 : decode cX10_carryOut 156 = .ok (.ireturn, 1) := by decide +kernel
theorem dX10_carryOut_157 : decode cX10_carryOut 157 = .ok (.aload_n 0, 1) := by decide +kernel
theorem dX10_carryOut_158 : decode cX10_carryOut 158 = .ok (.iload_n 2, 1) := by decide +kernel
theorem dX10_carryOut_159 : decode cX10_carryOut 159 = .ok (.iload_n 3, 1) := by decide +kernel
theorem dX10_carryOut_160 : decode cX10_carryOut 160 = .ok (.invokevirtual 151, 3) := by decide +kernel
theorem dX10_carryOut_163 : decode cX10_carryOut 163 = .ok (.ireturn, 1) := by decide +kernel
theorem dX10_carryOut_164 : decode cX10_carryOut 164 = .ok (.aload_n 0, 1) := by decide +kernel
theorem dX10_carryOut_165 : decode cX10_carryOut 165 = .ok (.iload_n 2, 1) := by decide +kernel
theorem dX10_carryOut_166 : decode cX10_carryOut 166 = .ok (.invokevirtual 154, 3) := by decide +kernel
theorem dX10_carryOut_169 : decode cX10_carryOut 169 = .ok (.ireturn, 1) := by decide +kernel
theorem dX10_carryOut_170 : decode cX10_carryOut 170 = .ok (.aload_n 0, 1) := by decide +kernel
theorem dX10_carryOut_171 : decode cX10_carryOut 171 = .ok (.invokevirtual 157, 3) := by decide +kernel
theorem dX10_carryOut_174 : decode cX10_carryOut 174 = .ok (.ireturn, 1) := by decide +kernel
theorem dX10_carryOut_175 : decode cX10_carryOut 175 = .ok (.aload_n 0, 1) := by decide +kernel
theorem dX10_carryOut_176 : decode cX10_carryOut 176 = .ok (.iload_n 2, 1) := by decide +kernel
theorem dX10_carryOut_177 : decode cX10_carryOut 177 = .ok (.iload_n 3, 1) := by decide +kernel
theorem dX10_carryOut_178 : decode cX10_carryOut 178 = .ok (.invokevirtual 178, 3) := by decide +kernel
theorem dX10_carryOut_181 : decode cX10_carryOut 181 = .ok (.ireturn, 1) := by decide +kernel
theorem dX10_carryOut_182 : decode cX10_carryOut 182 = .ok (.aload_n 0, 1) := by decide +kernel
theorem dX10_carryOut_183 : decode cX10_carryOut 183 = .ok (.iload_n 2, 1) := by decide +kernel
theorem dX10_carryOut_184 : decode cX10_carryOut 184 = .ok (.invokevirtual 181, 3) := by decide +kernel
theorem dX10_carryOut_187 : decode cX10_carryOut 187 = .ok (.ireturn, 1) := by decide +kernel
theorem dX10_carryOut_188 : decode cX10_carryOut 188 = .ok (.aload_n 0, 1) := by decide +kernel
theorem dX10_carryOut_189 : decode cX10_carryOut 189 = .ok (.iload_n 2, 1) := by decide +kernel
theorem dX10_carryOut_190 : decode cX10_carryOut 190 = .ok (.invokevirtual 184, 3) := by decide +kernel
theorem dX10_carryOut_193 : decode cX10_carryOut 193 = .ok (.ireturn, 1) := by decide +kernel
theorem dX10_carryOut_194 : decode cX10_carryOut 194 = .ok (.aload_n 0, 1) := by decide +kernel
theorem dX10_carryOut_195 : decode cX10_carryOut 195 = .ok (.iload_n 2, 1) := by decide +kernel
theorem dX10_carryOut_196 : decode cX10_carryOut 196 = .ok (.invokevirtual 199, 3) := by decide +kernel
theorem dX10_carryOut_199 : decode cX10_carryOut 199 = .ok (.ireturn, 1) := by decide +kernel
theorem dX10_carryOut_200 : decode cX10_carryOut 200 = .ok (.aload_n 0, 1) := by decide +kernel
theorem dX10_carryOut_201 : decode cX10_carryOut 201 = .ok (.iload_n 2, 1) := by decide +kernel
theorem dX10_carryOut_202 : decode cX10_carryOut 202 = .ok (.invokevirtual 202, 3) := by decide +kernel
theorem dX10_carryOut_205 : decode cX10_carryOut 205 = .ok (.ireturn, 1) := by decide +kernel
theorem dX10_carryOut_206 : decode cX10_carryOut 206 = .ok (.sipush (-1012), 3) := by decide +kernel
theorem dX10_carryOut_209 : decode cX10_carryOut 209 = .ok (.ireturn, 1) := by decide +kernel
theorem dX10_settled_0 : decode cX10_settled 0 = .ok (.iload_n 1, 1) := by decide +kernel
theorem dX10_settled_1 : decode cX10_settled 1 = .ok (.ifCond .lt 10, 3) := by decide +kernel
theorem dX10_settled_4 : decode cX10_settled 4 = .ok (.aload_n 0, 1) := by decide +kernel
theorem dX10_settled_5 : decode cX10_settled 5 = .ok (.getfield 22, 3) := by decide +kernel
theorem dX10_settled_8 : decode cX10_settled 8 = .ok (.invokevirtual 373, 3) := by decide +kernel
theorem dX10_settled_11 : decode cX10_settled 11 = .ok (.iload_n 1, 1) := by decide +kernel
theorem dX10_settled_12 : decode cX10_settled 12 = .ok (.ireturn, 1) := by decide +kernel
theorem dX10_refused_0 : decode cX10_refused 0 = .ok (.aload_n 0, 1) := by decide +kernel
theorem dX10_refused_1 : decode cX10_refused 1 = .ok (.getfield 55, 3) := by decide +kernel
theorem dX10_refused_4 : decode cX10_refused 4 = .ok (.iload_n 1, 1) := by decide +kernel
theorem dX10_refused_5 : decode cX10_refused 5 = .ok (.iload_n 2, 1) := by decide +kernel
theorem dX10_refused_6 : decode cX10_refused 6 = .ok (.invokevirtual 376, 3) := by decide +kernel
theorem dX10_refused_9 : decode cX10_refused 9 = .ok (.sipush (-1014), 3) := by decide +kernel
theorem dX10_refused_12 : decode cX10_refused 12 = .ok (.ireturn, 1) := by decide +kernel
theorem dX10_refusedSeat_0 : decode cX10_refusedSeat 0 = .ok (.aload_n 0, 1) := by decide +kernel
theorem dX10_refusedSeat_1 : decode cX10_refusedSeat 1 = .ok (.getfield 55, 3) := by decide +kernel
theorem dX10_refusedSeat_4 : decode cX10_refusedSeat 4 = .ok (.iload_n 2, 1) := by decide +kernel
theorem dX10_refusedSeat_5 : decode cX10_refusedSeat 5 = .ok (.iload_n 3, 1) := by decide +kernel
theorem dX10_refusedSeat_6 : decode cX10_refusedSeat 6 = .ok (.invokevirtual 376, 3) := by decide +kernel
theorem dX10_refusedSeat_9 : decode cX10_refusedSeat 9 = .ok (.aload_n 0, 1) := by decide +kernel
theorem dX10_refusedSeat_10 : decode cX10_refusedSeat 10 = .ok (.getfield 55, 3) := by decide +kernel
theorem dX10_refusedSeat_13 : decode cX10_refusedSeat 13 = .ok (.iconst 2, 1) := by decide +kernel
theorem dX10_refusedSeat_14 : decode cX10_refusedSeat 14 = .ok (.iload_n 1, 1) := by decide +kernel
theorem dX10_refusedSeat_15 : decode cX10_refusedSeat 15 = .ok (.invokevirtual 379, 3) := by decide +kernel
theorem dX10_refusedSeat_18 : decode cX10_refusedSeat 18 = .ok (.sipush (-1014), 3) := by decide +kernel
theorem dX10_refusedSeat_21 : decode cX10_refusedSeat 21 = .ok (.ireturn, 1) := by decide +kernel
theorem dX10_refusedOrder_0 : decode cX10_refusedOrder 0 = .ok (.iload_n 2, 1) := by decide +kernel
theorem dX10_refusedOrder_1 : decode cX10_refusedOrder 1 = .ok (.sipush (-1014), 3) := by decide +kernel
theorem dX10_refusedOrder_4 : decode cX10_refusedOrder 4 = .ok (.if_icmp .eq 11, 3) := by decide +kernel
theorem dX10_refusedOrder_7 : decode cX10_refusedOrder 7 = .ok (.aload_n 0, 1) := by decide +kernel
theorem dX10_refusedOrder_8 : decode cX10_refusedOrder 8 = .ok (.bipush 15, 2) := by decide +kernel
theorem dX10_refusedOrder_10 : decode cX10_refusedOrder 10 = .ok (.iload_n 1, 1) := by decide +kernel
theorem dX10_refusedOrder_11 : decode cX10_refusedOrder 11 = .ok (.invokevirtual 317, 3) := by decide +kernel
theorem dX10_refusedOrder_14 : decode cX10_refusedOrder 14 = .ok (.ireturn, 1) := by decide +kernel
theorem dX10_refusedOrder_15 : decode cX10_refusedOrder 15 = .ok (.aload_n 0, 1) := by decide +kernel
theorem dX10_refusedOrder_16 : decode cX10_refusedOrder 16 = .ok (.getfield 55, 3) := by decide +kernel
theorem dX10_refusedOrder_19 : decode cX10_refusedOrder 19 = .ok (.bipush 15, 2) := by decide +kernel
theorem dX10_refusedOrder_21 : decode cX10_refusedOrder 21 = .ok (.iload_n 1, 1) := by decide +kernel
theorem dX10_refusedOrder_22 : decode cX10_refusedOrder 22 = .ok (.invokevirtual 379, 3) := by decide +kernel
theorem dX10_refusedOrder_25 : decode cX10_refusedOrder 25 = .ok (.sipush (-1014), 3) := by decide +kernel
theorem dX10_refusedOrder_28 : decode cX10_refusedOrder 28 = .ok (.ireturn, 1) := by decide +kernel
theorem dX10_orNothing_0 : decode cX10_orNothing 0 = .ok (.iload_n 0, 1) := by decide +kernel
theorem dX10_orNothing_1 : decode cX10_orNothing 1 = .ok (.ifCond .ge 9, 3) := by decide +kernel
theorem dX10_orNothing_4 : decode cX10_orNothing 4 = .ok (.sipush (-1015), 3) := by decide +kernel
theorem dX10_orNothing_7 : decode cX10_orNothing 7 = .ok (.goto 4, 3) := by decide +kernel
theorem dX10_orNothing_10 : decode cX10_orNothing 10 = .ok (.iload_n 0, 1) := by decide +kernel
theorem dX10_orNothing_11 : decode cX10_orNothing 11 = .ok (.ireturn, 1) := by decide +kernel
theorem dX10_isWithin_0 : decode cX10_isWithin 0 = .ok (.iload_n 0, 1) := by decide +kernel
theorem dX10_isWithin_1 : decode cX10_isWithin 1 = .ok (.iload_n 1, 1) := by decide +kernel
theorem dX10_isWithin_2 : decode cX10_isWithin 2 = .ok (.if_icmp .lt 12, 3) := by decide +kernel
theorem dX10_isWithin_5 : decode cX10_isWithin 5 = .ok (.iload_n 0, 1) := by decide +kernel
theorem dX10_isWithin_6 : decode cX10_isWithin 6 = .ok (.iload_n 2, 1) := by decide +kernel
theorem dX10_isWithin_7 : decode cX10_isWithin 7 = .ok (.if_icmp .gt 7, 3) := by decide +kernel
theorem dX10_isWithin_10 : decode cX10_isWithin 10 = .ok (.iconst 1, 1) := by decide +kernel
theorem dX10_isWithin_11 : decode cX10_isWithin 11 = .ok (.goto 4, 3) := by decide +kernel
theorem dX10_isWithin_14 : decode cX10_isWithin 14 = .ok (.iconst 0, 1) := by decide +kernel
theorem dX10_isWithin_15 : decode cX10_isWithin 15 = .ok (.ireturn, 1) := by decide +kernel
theorem dX10_areThere_0 : decode cX10_areThere 0 = .ok (.aload_n 0, 1) := by decide +kernel
theorem dX10_areThere_1 : decode cX10_areThere 1 = .ok (.getfield 10, 3) := by decide +kernel
theorem dX10_areThere_4 : decode cX10_areThere 4 = .ok (.getfield 75, 3) := by decide +kernel
theorem dX10_areThere_7 : decode cX10_areThere 7 = .ok (.iload_n 1, 1) := by decide +kernel
theorem dX10_areThere_8 : decode cX10_areThere 8 = .ok (.invokevirtual 79, 3) := by decide +kernel
theorem dX10_areThere_11 : decode cX10_areThere 11 = .ok (.ifCond .eq 21, 3) := by decide +kernel
theorem dX10_areThere_14 : decode cX10_areThere 14 = .ok (.aload_n 0, 1) := by decide +kernel
theorem dX10_areThere_15 : decode cX10_areThere 15 = .ok (.getfield 10, 3) := by decide +kernel
theorem dX10_areThere_18 : decode cX10_areThere 18 = .ok (.getfield 118, 3) := by decide +kernel
theorem dX10_areThere_21 : decode cX10_areThere 21 = .ok (.iload_n 2, 1) := by decide +kernel
theorem dX10_areThere_22 : decode cX10_areThere 22 = .ok (.invokevirtual 122, 3) := by decide +kernel
theorem dX10_areThere_25 : decode cX10_areThere 25 = .ok (.ifCond .eq 7, 3) := by decide +kernel
theorem dX10_areThere_28 : decode cX10_areThere 28 = .ok (.iconst 1, 1) := by decide +kernel
theorem dX10_areThere_29 : decode cX10_areThere 29 = .ok (.goto 4, 3) := by decide +kernel
theorem dX10_areThere_32 : decode cX10_areThere 32 = .ok (.iconst 0, 1) := by decide +kernel
theorem dX10_areThere_33 : decode cX10_areThere 33 = .ok (.ireturn, 1) := by decide +kernel
theorem dX10_areRestless_0 : decode cX10_areRestless 0 = .ok (.aload_n 0, 1) := by decide +kernel
theorem dX10_areRestless_1 : decode cX10_areRestless 1 = .ok (.getfield 10, 3) := by decide +kernel
theorem dX10_areRestless_4 : decode cX10_areRestless 4 = .ok (.iload_n 1, 1) := by decide +kernel
theorem dX10_areRestless_5 : decode cX10_areRestless 5 = .ok (.iload_n 2, 1) := by decide +kernel
theorem dX10_areRestless_6 : decode cX10_areRestless 6 = .ok (.invokevirtual 331, 3) := by decide +kernel
theorem dX10_areRestless_9 : decode cX10_areRestless 9 = .ok (.ifCond .eq 15, 3) := by decide +kernel
theorem dX10_areRestless_12 : decode cX10_areRestless 12 = .ok (.aload_n 0, 1) := by decide +kernel
theorem dX10_areRestless_13 : decode cX10_areRestless 13 = .ok (.getfield 10, 3) := by decide +kernel
theorem dX10_areRestless_16 : decode cX10_areRestless 16 = .ok (.iload_n 2, 1) := by decide +kernel
theorem dX10_areRestless_17 : decode cX10_areRestless 17 = .ok (.iload_n 1, 1) := by decide +kernel
theorem dX10_areRestless_18 : decode cX10_areRestless 18 = .ok (.invokevirtual 334, 3) := by decide +kernel
theorem dX10_areRestless_21 : decode cX10_areRestless 21 = .ok (.ifCond .ne 5, 3) := by decide +kernel
theorem dX10_areRestless_24 : decode cX10_areRestless 24 = .ok (.iconst 0, 1) := by decide +kernel
theorem dX10_areRestless_25 : decode cX10_areRestless 25 = .ok (.ireturn, 1) := by decide +kernel
theorem dX10_areRestless_26 : decode cX10_areRestless 26 = .ok (.aload_n 0, 1) := by decide +kernel
theorem dX10_areRestless_27 : decode cX10_areRestless 27 = .ok (.getfield 10, 3) := by decide +kernel
theorem dX10_areRestless_30 : decode cX10_areRestless 30 = .ok (.getfield 75, 3) := by decide +kernel
theorem dX10_areRestless_33 : decode cX10_areRestless 33 = .ok (.getfield 112, 3) := by decide +kernel
theorem dX10_areRestless_36 : decode cX10_areRestless 36 = .ok (.iload_n 1, 1) := by decide +kernel
theorem dX10_areRestless_37 : decode cX10_areRestless 37 = .ok (.invokevirtual 89, 3) := by decide +kernel
theorem dX10_areRestless_40 : decode cX10_areRestless 40 = .ok (.istore_n 3, 1) := by decide +kernel
theorem dX10_areRestless_41 : decode cX10_areRestless 41 = .ok (.aload_n 0, 1) := by decide +kernel
theorem dX10_areRestless_42 : decode cX10_areRestless 42 = .ok (.getfield 10, 3) := by decide +kernel
theorem dX10_areRestless_45 : decode cX10_areRestless 45 = .ok (.getfield 118, 3) := by decide +kernel
theorem dX10_areRestless_48 : decode cX10_areRestless 48 = .ok (.getfield 138, 3) := by decide +kernel
theorem dX10_areRestless_51 : decode cX10_areRestless 51 = .ok (.iload_n 2, 1) := by decide +kernel
theorem dX10_areRestless_52 : decode cX10_areRestless 52 = .ok (.invokevirtual 89, 3) := by decide +kernel
theorem dX10_areRestless_55 : decode cX10_areRestless 55 = .ok (.istore 4, 2) := by decide +kernel
theorem dX10_areRestless_57 : decode cX10_areRestless 57 = .ok (.iload_n 3, 1) := by decide +kernel
theorem dX10_areRestless_58 : decode cX10_areRestless 58 = .ok (.iconst (-1), 1) := by decide +kernel
theorem dX10_areRestless_59 : decode cX10_areRestless 59 = .ok (.if_icmp .eq 16, 3) := by decide +kernel
theorem dX10_areRestless_62 : decode cX10_areRestless 62 = .ok (.aload_n 0, 1) := by decide +kernel
theorem dX10_areRestless_63 : decode cX10_areRestless 63 = .ok (.getfield 10, 3) := by decide +kernel
theorem dX10_areRestless_66 : decode cX10_areRestless 66 = .ok (.iload_n 1, 1) := by decide +kernel
theorem dX10_areRestless_67 : decode cX10_areRestless 67 = .ok (.iload_n 2, 1) := by decide +kernel
theorem dX10_areRestless_68 : decode cX10_areRestless 68 = .ok (.iload_n 3, 1) := by decide +kernel
theorem dX10_areRestless_69 : decode cX10_areRestless 69 = .ok (.invokevirtual 382, 3) := by decide +kernel
theorem dX10_areRestless_72 : decode cX10_areRestless 72 = .ok (.ifCond .eq 29, 3) := by decide +kernel
theorem dX10_areRestless_75 : decode cX10_areRestless 75 = .ok (.iload 4, 2) := by decide +kernel
theorem dX10_areRestless_77 : decode cX10_areRestless 77 = .ok (.iconst (-1), 1) := by decide +kernel
theorem dX10_areRestless_78 : decode cX10_areRestless 78 = .ok (.if_icmp .eq 19, 3) := by decide +kernel
theorem dX10_areRestless_81 : decode cX10_areRestless 81 = .ok (.aload_n 0, 1) := by decide +kernel
theorem dX10_areRestless_82 : decode cX10_areRestless 82 = .ok (.getfield 10, 3) := by decide +kernel
theorem dX10_areRestless_85 : decode cX10_areRestless 85 = .ok (.getfield 75, 3) := by decide +kernel
theorem dX10_areRestless_88 : decode cX10_areRestless 88 = .ok (.iload_n 1, 1) := by decide +kernel
theorem dX10_areRestless_89 : decode cX10_areRestless 89 = .ok (.iload 4, 2) := by decide +kernel
theorem dX10_areRestless_91 : decode cX10_areRestless 91 = .ok (.invokevirtual 385, 3) := by decide +kernel
theorem dX10_areRestless_94 : decode cX10_areRestless 94 = .ok (.ifCond .eq 7, 3) := by decide +kernel
theorem dX10_areRestless_97 : decode cX10_areRestless 97 = .ok (.iconst 1, 1) := by decide +kernel
theorem dX10_areRestless_98 : decode cX10_areRestless 98 = .ok (.goto 4, 3) := by decide +kernel
theorem dX10_areRestless_101 : decode cX10_areRestless 101 = .ok (.iconst 0, 1) := by decide +kernel
theorem dX10_areRestless_102 : decode cX10_areRestless 102 = .ok (.ireturn, 1) := by decide +kernel
theorem dX10_areCoinsThere_0 : decode cX10_areCoinsThere 0 = .ok (.aload_n 0, 1) := by decide +kernel
theorem dX10_areCoinsThere_1 : decode cX10_areCoinsThere 1 = .ok (.getfield 10, 3) := by decide +kernel
theorem dX10_areCoinsThere_4 : decode cX10_areCoinsThere 4 = .ok (.getfield 257, 3) := by decide +kernel
theorem dX10_areCoinsThere_7 : decode cX10_areCoinsThere 7 = .ok (.astore_n 1, 1) := by decide +kernel
theorem dX10_areCoinsThere_8 : decode cX10_areCoinsThere 8 = .ok (.bipush 10, 2) := by decide +kernel
theorem dX10_areCoinsThere_10 : decode cX10_areCoinsThere 10 = .ok (.bipush 8, 2) := by decide +kernel
theorem dX10_areCoinsThere_12 : decode cX10_areCoinsThere 12 = .ok (.aload_n 0, 1) := by decide +kernel
theorem dX10_areCoinsThere_13 : decode cX10_areCoinsThere 13 = .ok (.getfield 10, 3) := by decide +kernel
theorem dX10_areCoinsThere_16 : decode cX10_areCoinsThere 16 = .ok (.getfield 118, 3) := by decide +kernel
theorem dX10_areCoinsThere_19 : decode cX10_areCoinsThere 19 = .ok (.getfield 174, 3) := by decide +kernel
theorem dX10_areCoinsThere_22 : decode cX10_areCoinsThere 22 = .ok (.imul, 1) := by decide +kernel
theorem dX10_areCoinsThere_23 : decode cX10_areCoinsThere 23 = .ok (.iadd, 1) := by decide +kernel
theorem dX10_areCoinsThere_24 : decode cX10_areCoinsThere 24 = .ok (.aload_n 1, 1) := by decide +kernel
theorem dX10_areCoinsThere_25 : decode cX10_areCoinsThere 25 = .ok (.getfield 275, 3) := by decide +kernel
theorem dX10_areCoinsThere_28 : decode cX10_areCoinsThere 28 = .ok (.iadd, 1) := by decide +kernel
theorem dX10_areCoinsThere_29 : decode cX10_areCoinsThere 29 = .ok (.istore_n 2, 1) := by decide +kernel
theorem dX10_areCoinsThere_30 : decode cX10_areCoinsThere 30 = .ok (.iload_n 2, 1) := by decide +kernel
theorem dX10_areCoinsThere_31 : decode cX10_areCoinsThere 31 = .ok (.aload_n 1, 1) := by decide +kernel
theorem dX10_areCoinsThere_32 : decode cX10_areCoinsThere 32 = .ok (.getfield 270, 3) := by decide +kernel
theorem dX10_areCoinsThere_35 : decode cX10_areCoinsThere 35 = .ok (.aload_n 0, 1) := by decide +kernel
theorem dX10_areCoinsThere_36 : decode cX10_areCoinsThere 36 = .ok (.getfield 10, 3) := by decide +kernel
theorem dX10_areCoinsThere_39 : decode cX10_areCoinsThere 39 = .ok (.getfield 118, 3) := by decide +kernel
theorem dX10_areCoinsThere_42 : decode cX10_areCoinsThere 42 = .ok (.invokevirtual 267, 3) := by decide +kernel
theorem dX10_areCoinsThere_45 : decode cX10_areCoinsThere 45 = .ok (.iadd, 1) := by decide +kernel
theorem dX10_areCoinsThere_46 : decode cX10_areCoinsThere 46 = .ok (.aload_n 1, 1) := by decide +kernel
theorem dX10_areCoinsThere_47 : decode cX10_areCoinsThere 47 = .ok (.getfield 278, 3) := by decide +kernel
theorem dX10_areCoinsThere_50 : decode cX10_areCoinsThere 50 = .ok (.iadd, 1) := by decide +kernel
theorem dX10_areCoinsThere_51 : decode cX10_areCoinsThere 51 = .ok (.aload_n 1, 1) := by decide +kernel
theorem dX10_areCoinsThere_52 : decode cX10_areCoinsThere 52 = .ok (.getfield 281, 3) := by decide +kernel
theorem dX10_areCoinsThere_55 : decode cX10_areCoinsThere 55 = .ok (.iadd, 1) := by decide +kernel
theorem dX10_areCoinsThere_56 : decode cX10_areCoinsThere 56 = .ok (.if_icmp .ne 7, 3) := by decide +kernel
theorem dX10_areCoinsThere_59 : decode cX10_areCoinsThere 59 = .ok (.iconst 1, 1) := by decide +kernel
theorem dX10_areCoinsThere_60 : decode cX10_areCoinsThere 60 = .ok (.goto 4, 3) := by decide +kernel
theorem dX10_areCoinsThere_63 : decode cX10_areCoinsThere 63 = .ok (.iconst 0, 1) := by decide +kernel
theorem dX10_areCoinsThere_64 : decode cX10_areCoinsThere 64 = .ok (.ireturn, 1) := by decide +kernel
theorem dX10_areSeatsPaired_0 : decode cX10_areSeatsPaired 0 = .ok (.iconst 0, 1) := by decide +kernel
theorem dX10_areSeatsPaired_1 : decode cX10_areSeatsPaired 1 = .ok (.istore_n 1, 1) := by decide +kernel
theorem dX10_areSeatsPaired_2 : decode cX10_areSeatsPaired 2 = .ok (.iload_n 1, 1) := by decide +kernel
theorem dX10_areSeatsPaired_3 : decode cX10_areSeatsPaired 3 = .ok (.aload_n 0, 1) := by decide +kernel
theorem dX10_areSeatsPaired_4 : decode cX10_areSeatsPaired 4 = .ok (.getfield 10, 3) := by decide +kernel
theorem dX10_areSeatsPaired_7 : decode cX10_areSeatsPaired 7 = .ok (.getfield 118, 3) := by decide +kernel
theorem dX10_areSeatsPaired_10 : decode cX10_areSeatsPaired 10 = .ok (.getfield 174, 3) := by decide +kernel
theorem dX10_areSeatsPaired_13 : decode cX10_areSeatsPaired 13 = .ok (.if_icmp .ge 49, 3) := by decide +kernel
theorem dX10_areSeatsPaired_16 : decode cX10_areSeatsPaired 16 = .ok (.aload_n 0, 1) := by decide +kernel
theorem dX10_areSeatsPaired_17 : decode cX10_areSeatsPaired 17 = .ok (.getfield 10, 3) := by decide +kernel
theorem dX10_areSeatsPaired_20 : decode cX10_areSeatsPaired 20 = .ok (.getfield 118, 3) := by decide +kernel
theorem dX10_areSeatsPaired_23 : decode cX10_areSeatsPaired 23 = .ok (.getfield 138, 3) := by decide +kernel
theorem dX10_areSeatsPaired_26 : decode cX10_areSeatsPaired 26 = .ok (.iload_n 1, 1) := by decide +kernel
theorem dX10_areSeatsPaired_27 : decode cX10_areSeatsPaired 27 = .ok (.invokevirtual 89, 3) := by decide +kernel
theorem dX10_areSeatsPaired_30 : decode cX10_areSeatsPaired 30 = .ok (.istore_n 2, 1) := by decide +kernel
theorem dX10_areSeatsPaired_31 : decode cX10_areSeatsPaired 31 = .ok (.iload_n 2, 1) := by decide +kernel
theorem dX10_areSeatsPaired_32 : decode cX10_areSeatsPaired 32 = .ok (.iconst (-1), 1) := by decide +kernel
theorem dX10_areSeatsPaired_33 : decode cX10_areSeatsPaired 33 = .ok (.if_icmp .eq 23, 3) := by decide +kernel
theorem dX10_areSeatsPaired_36 : decode cX10_areSeatsPaired 36 = .ok (.aload_n 0, 1) := by decide +kernel
theorem dX10_areSeatsPaired_37 : decode cX10_areSeatsPaired 37 = .ok (.getfield 10, 3) := by decide +kernel
theorem dX10_areSeatsPaired_40 : decode cX10_areSeatsPaired 40 = .ok (.getfield 75, 3) := by decide +kernel
theorem dX10_areSeatsPaired_43 : decode cX10_areSeatsPaired 43 = .ok (.getfield 112, 3) := by decide +kernel
theorem dX10_areSeatsPaired_46 : decode cX10_areSeatsPaired 46 = .ok (.iload_n 2, 1) := by decide +kernel
theorem dX10_areSeatsPaired_47 : decode cX10_areSeatsPaired 47 = .ok (.invokevirtual 89, 3) := by decide +kernel
theorem dX10_areSeatsPaired_50 : decode cX10_areSeatsPaired 50 = .ok (.iload_n 1, 1) := by decide +kernel
theorem dX10_areSeatsPaired_51 : decode cX10_areSeatsPaired 51 = .ok (.if_icmp .eq 5, 3) := by decide +kernel
theorem dX10_areSeatsPaired_54 : decode cX10_areSeatsPaired 54 = .ok (.iconst 0, 1) := by decide +kernel
theorem dX10_areSeatsPaired_55 : decode cX10_areSeatsPaired 55 = .ok (.ireturn, 1) := by decide +kernel
theorem dX10_areSeatsPaired_56 : decode cX10_areSeatsPaired 56 = .ok (.iinc 1 1, 3) := by decide +kernel
theorem dX10_areSeatsPaired_59 : decode cX10_areSeatsPaired 59 = .ok (.goto (-57), 3) := by decide +kernel
theorem dX10_areSeatsPaired_62 : decode cX10_areSeatsPaired 62 = .ok (.iconst 1, 1) := by decide +kernel
theorem dX10_areSeatsPaired_63 : decode cX10_areSeatsPaired 63 = .ok (.ireturn, 1) := by decide +kernel
theorem dX10_areWaysAlike_0 : decode cX10_areWaysAlike 0 = .ok (.aload_n 0, 1) := by decide +kernel
theorem dX10_areWaysAlike_1 : decode cX10_areWaysAlike 1 = .ok (.getfield 29, 3) := by decide +kernel
theorem dX10_areWaysAlike_4 : decode cX10_areWaysAlike 4 = .ok (.aload_n 0, 1) := by decide +kernel
theorem dX10_areWaysAlike_5 : decode cX10_areWaysAlike 5 = .ok (.getfield 10, 3) := by decide +kernel
theorem dX10_areWaysAlike_8 : decode cX10_areWaysAlike 8 = .ok (.invokevirtual 161, 3) := by decide +kernel
theorem dX10_areWaysAlike_11 : decode cX10_areWaysAlike 11 = .ok (.aload_n 0, 1) := by decide +kernel
theorem dX10_areWaysAlike_12 : decode cX10_areWaysAlike 12 = .ok (.getfield 33, 3) := by decide +kernel
theorem dX10_areWaysAlike_15 : decode cX10_areWaysAlike 15 = .ok (.aload_n 0, 1) := by decide +kernel
theorem dX10_areWaysAlike_16 : decode cX10_areWaysAlike 16 = .ok (.getfield 10, 3) := by decide +kernel
theorem dX10_areWaysAlike_19 : decode cX10_areWaysAlike 19 = .ok (.invokevirtual 167, 3) := by decide +kernel
theorem dX10_areWaysAlike_22 : decode cX10_areWaysAlike 22 = .ok (.iconst 0, 1) := by decide +kernel
theorem dX10_areWaysAlike_23 : decode cX10_areWaysAlike 23 = .ok (.istore_n 1, 1) := by decide +kernel
theorem dX10_areWaysAlike_24 : decode cX10_areWaysAlike 24 = .ok (.iload_n 1, 1) := by decide +kernel
theorem dX10_areWaysAlike_25 : decode cX10_areWaysAlike 25 = .ok (.aload_n 0, 1) := by decide +kernel
theorem dX10_areWaysAlike_26 : decode cX10_areWaysAlike 26 = .ok (.getfield 10, 3) := by decide +kernel
theorem dX10_areWaysAlike_29 : decode cX10_areWaysAlike 29 = .ok (.getfield 75, 3) := by decide +kernel
theorem dX10_areWaysAlike_32 : decode cX10_areWaysAlike 32 = .ok (.getfield 170, 3) := by decide +kernel
theorem dX10_areWaysAlike_35 : decode cX10_areWaysAlike 35 = .ok (.if_icmp .ge 30, 3) := by decide +kernel
theorem dX10_areWaysAlike_38 : decode cX10_areWaysAlike 38 = .ok (.aload_n 0, 1) := by decide +kernel
theorem dX10_areWaysAlike_39 : decode cX10_areWaysAlike 39 = .ok (.getfield 29, 3) := by decide +kernel
theorem dX10_areWaysAlike_42 : decode cX10_areWaysAlike 42 = .ok (.iload_n 1, 1) := by decide +kernel
theorem dX10_areWaysAlike_43 : decode cX10_areWaysAlike 43 = .ok (.invokevirtual 164, 3) := by decide +kernel
theorem dX10_areWaysAlike_46 : decode cX10_areWaysAlike 46 = .ok (.aload_n 0, 1) := by decide +kernel
theorem dX10_areWaysAlike_47 : decode cX10_areWaysAlike 47 = .ok (.getfield 33, 3) := by decide +kernel
theorem dX10_areWaysAlike_50 : decode cX10_areWaysAlike 50 = .ok (.iload_n 1, 1) := by decide +kernel
theorem dX10_areWaysAlike_51 : decode cX10_areWaysAlike 51 = .ok (.invokevirtual 164, 3) := by decide +kernel
theorem dX10_areWaysAlike_54 : decode cX10_areWaysAlike 54 = .ok (.if_icmp .eq 5, 3) := by decide +kernel
theorem dX10_areWaysAlike_57 : decode cX10_areWaysAlike 57 = .ok (.iconst 0, 1) := by decide +kernel
theorem dX10_areWaysAlike_58 : decode cX10_areWaysAlike 58 = .ok (.ireturn, 1) := by decide +kernel
theorem dX10_areWaysAlike_59 : decode cX10_areWaysAlike 59 = .ok (.iinc 1 1, 3) := by decide +kernel
theorem dX10_areWaysAlike_62 : decode cX10_areWaysAlike 62 = .ok (.goto (-38), 3) := by decide +kernel
theorem dX10_areWaysAlike_65 : decode cX10_areWaysAlike 65 = .ok (.iconst 1, 1) := by decide +kernel
theorem dX10_areWaysAlike_66 : decode cX10_areWaysAlike 66 = .ok (.ireturn, 1) := by decide +kernel
theorem dJ9_abs_0f7a4_0 : decode cJ9_abs_0f7a4 0 = .ok (.iload_n 0, 1) := by decide +kernel
theorem dJ9_abs_0f7a4_1 : decode cJ9_abs_0f7a4 1 = .ok (.ifCond .ge 8, 3) := by decide +kernel
theorem dJ9_abs_0f7a4_4 : decode cJ9_abs_0f7a4 4 = .ok (.iload_n 0, 1) := by decide +kernel
theorem dJ9_abs_0f7a4_5 : decode cJ9_abs_0f7a4 5 = .ok (.ineg, 1) := by decide +kernel
theorem dJ9_abs_0f7a4_6 : decode cJ9_abs_0f7a4 6 = .ok (.goto 4, 3) := by decide +kernel
theorem dJ9_abs_0f7a4_9 : decode cJ9_abs_0f7a4 9 = .ok (.iload_n 0, 1) := by decide +kernel
theorem dJ9_abs_0f7a4_10 : decode cJ9_abs_0f7a4 10 = .ok (.ireturn, 1) := by decide +kernel
theorem dJ9_max_7cf53_0 : decode cJ9_max_7cf53 0 = .ok (.iload_n 0, 1) := by decide +kernel
theorem dJ9_max_7cf53_1 : decode cJ9_max_7cf53 1 = .ok (.iload_n 1, 1) := by decide +kernel
theorem dJ9_max_7cf53_2 : decode cJ9_max_7cf53 2 = .ok (.if_icmp .lt 7, 3) := by decide +kernel
theorem dJ9_max_7cf53_5 : decode cJ9_max_7cf53 5 = .ok (.iload_n 0, 1) := by decide +kernel
theorem dJ9_max_7cf53_6 : decode cJ9_max_7cf53 6 = .ok (.goto 4, 3) := by decide +kernel
theorem dJ9_max_7cf53_9 : decode cJ9_max_7cf53 9 = .ok (.iload_n 1, 1) := by decide +kernel
theorem dJ9_max_7cf53_10 : decode cJ9_max_7cf53 10 = .ok (.ireturn, 1) := by decide +kernel
theorem dJ9_min_7cf53_0 : decode cJ9_min_7cf53 0 = .ok (.iload_n 0, 1) := by decide +kernel
theorem dJ9_min_7cf53_1 : decode cJ9_min_7cf53 1 = .ok (.iload_n 1, 1) := by decide +kernel
theorem dJ9_min_7cf53_2 : decode cJ9_min_7cf53 2 = .ok (.if_icmp .gt 7, 3) := by decide +kernel
theorem dJ9_min_7cf53_5 : decode cJ9_min_7cf53 5 = .ok (.iload_n 0, 1) := by decide +kernel
theorem dJ9_min_7cf53_6 : decode cJ9_min_7cf53 6 = .ok (.goto 4, 3) := by decide +kernel
theorem dJ9_min_7cf53_9 : decode cJ9_min_7cf53 9 = .ok (.iload_n 1, 1) := by decide +kernel
theorem dJ9_min_7cf53_10 : decode cJ9_min_7cf53 10 = .ok (.ireturn, 1) := by decide +kernel
theorem dJ0_length_8abf5_0 : decode cJ0_length_8abf5 0 = .ok (.aload_n 0, 1) := by decide +kernel
theorem dJ0_length_8abf5_1 : decode cJ0_length_8abf5 1 = .ok (.getfield 9, 3) := by decide +kernel
theorem dJ0_length_8abf5_4 : decode cJ0_length_8abf5 4 = .ok (.arraylength, 1) := by decide +kernel
theorem dJ0_length_8abf5_5 : decode cJ0_length_8abf5 5 = .ok (.aload_n 0, 1) := by decide +kernel
theorem dJ0_length_8abf5_6 : decode cJ0_length_8abf5 6 = .ok (.invokevirtual 335, 3) := by decide +kernel
theorem dJ0_length_8abf5_9 : decode cJ0_length_8abf5 9 = .ok (.ishr, 1) := by decide +kernel
theorem dJ0_length_8abf5_10 : decode cJ0_length_8abf5 10 = .ok (.ireturn, 1) := by decide +kernel
theorem dJ0_charAt_5068e_0 : decode cJ0_charAt_5068e 0 = .ok (.aload_n 0, 1) := by decide +kernel
theorem dJ0_charAt_5068e_1 : decode cJ0_charAt_5068e 1 = .ok (.invokevirtual 492, 3) := by decide +kernel
theorem dJ0_charAt_5068e_4 : decode cJ0_charAt_5068e 4 = .ok (.ifCond .eq 12, 3) := by decide +kernel
theorem dJ0_charAt_5068e_7 : decode cJ0_charAt_5068e 7 = .ok (.aload_n 0, 1) := by decide +kernel
theorem dJ0_charAt_5068e_8 : decode cJ0_charAt_5068e 8 = .ok (.getfield 9, 3) := by decide +kernel
theorem dJ0_charAt_5068e_11 : decode cJ0_charAt_5068e 11 = .ok (.iload_n 1, 1) := by decide +kernel
theorem dJ0_charAt_5068e_12 : decode cJ0_charAt_5068e 12 = .ok (.invokestatic 495, 3) := by decide +kernel
theorem dJ0_charAt_5068e_15 : decode cJ0_charAt_5068e 15 = .ok (.ireturn, 1) := by decide +kernel
theorem dJ0_charAt_5068e_16 : decode cJ0_charAt_5068e 16 = .ok (.aload_n 0, 1) := by decide +kernel
theorem dJ0_charAt_5068e_17 : decode cJ0_charAt_5068e 17 = .ok (.getfield 9, 3) := by decide +kernel
theorem dJ0_charAt_5068e_20 : decode cJ0_charAt_5068e 20 = .ok (.iload_n 1, 1) := by decide +kernel
theorem dJ0_charAt_5068e_21 : decode cJ0_charAt_5068e 21 = .ok (.invokestatic 498, 3) := by decide +kernel
theorem dJ0_charAt_5068e_24 : decode cJ0_charAt_5068e 24 = .ok (.ireturn, 1) := by decide +kernel
theorem dJ0_coder_7d493_0 : decode cJ0_coder_7d493 0 = .ok (.getstatic 38, 3) := by decide +kernel
theorem dJ0_coder_7d493_3 : decode cJ0_coder_7d493 3 = .ok (.ifCond .eq 10, 3) := by decide +kernel
theorem dJ0_coder_7d493_6 : decode cJ0_coder_7d493 6 = .ok (.aload_n 0, 1) := by decide +kernel
theorem dJ0_coder_7d493_7 : decode cJ0_coder_7d493 7 = .ok (.getfield 15, 3) := by decide +kernel
theorem dJ0_coder_7d493_10 : decode cJ0_coder_7d493 10 = .ok (.goto 4, 3) := by decide +kernel
theorem dJ0_coder_7d493_13 : decode cJ0_coder_7d493 13 = .ok (.iconst 1, 1) := by decide +kernel
theorem dJ0_coder_7d493_14 : decode cJ0_coder_7d493 14 = .ok (.ireturn, 1) := by decide +kernel
theorem dJ0_isLatin1_aae02_0 : decode cJ0_isLatin1_aae02 0 = .ok (.getstatic 38, 3) := by decide +kernel
theorem dJ0_isLatin1_aae02_3 : decode cJ0_isLatin1_aae02 3 = .ok (.ifCond .eq 14, 3) := by decide +kernel
theorem dJ0_isLatin1_aae02_6 : decode cJ0_isLatin1_aae02 6 = .ok (.aload_n 0, 1) := by decide +kernel
theorem dJ0_isLatin1_aae02_7 : decode cJ0_isLatin1_aae02 7 = .ok (.getfield 15, 3) := by decide +kernel
theorem dJ0_isLatin1_aae02_10 : decode cJ0_isLatin1_aae02 10 = .ok (.ifCond .ne 7, 3) := by decide +kernel
