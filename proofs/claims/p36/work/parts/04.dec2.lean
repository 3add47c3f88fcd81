theorem dJ0_isLatin1_aae02_13 : decode cJ0_isLatin1_aae02 13 = .ok (.iconst 1, 1) := by decide +kernel
theorem dJ0_isLatin1_aae02_14 : decode cJ0_isLatin1_aae02 14 = .ok (.goto 4, 3) := by decide +kernel
theorem dJ0_isLatin1_aae02_17 : decode cJ0_isLatin1_aae02 17 = .ok (.iconst 0, 1) := by decide +kernel
theorem dJ0_isLatin1_aae02_18 : decode cJ0_isLatin1_aae02 18 = .ok (.ireturn, 1) := by decide +kernel
theorem dJ0_checkIndex_df160_0 : decode cJ0_checkIndex_df160 0 = .ok (.iload_n 0, 1) := by decide +kernel
theorem dJ0_checkIndex_df160_1 : decode cJ0_checkIndex_df160 1 = .ok (.iload_n 1, 1) := by decide +kernel
theorem dJ0_checkIndex_df160_2 : decode cJ0_checkIndex_df160 2 = .ok (.getstatic 1053, 3) := by decide +kernel
theorem dJ0_checkIndex_df160_5 : decode cJ0_checkIndex_df160 5 = .ok (.invokestatic 1059, 3) := by decide +kernel
theorem dJ0_checkIndex_df160_8 : decode cJ0_checkIndex_df160 8 = .ok (.pop, 1) := by decide +kernel
theorem dJ0_checkIndex_df160_9 : decode cJ0_checkIndex_df160 9 = .ok (.return_, 1) := by decide +kernel
theorem dJ1_charAt_3b067_0 : decode cJ1_charAt_3b067 0 = .ok (.iload_n 1, 1) := by decide +kernel
theorem dJ1_charAt_3b067_1 : decode cJ1_charAt_3b067 1 = .ok (.aload_n 0, 1) := by decide +kernel
theorem dJ1_charAt_3b067_2 : decode cJ1_charAt_3b067 2 = .ok (.arraylength, 1) := by decide +kernel
theorem dJ1_charAt_3b067_3 : decode cJ1_charAt_3b067 3 = .ok (.invokestatic 9, 3) := by decide +kernel
theorem dJ1_charAt_3b067_6 : decode cJ1_charAt_3b067 6 = .ok (.aload_n 0, 1) := by decide +kernel
theorem dJ1_charAt_3b067_7 : decode cJ1_charAt_3b067 7 = .ok (.iload_n 1, 1) := by decide +kernel
theorem dJ1_charAt_3b067_8 : decode cJ1_charAt_3b067 8 = .ok (.baload, 1) := by decide +kernel
theorem dJ1_charAt_3b067_9 : decode cJ1_charAt_3b067 9 = .ok (.sipush 255, 3) := by decide +kernel
theorem dJ1_charAt_3b067_12 : decode cJ1_charAt_3b067 12 = .ok (.iand, 1) := by decide +kernel
theorem dJ1_charAt_3b067_13 : decode cJ1_charAt_3b067 13 = .ok (.i2c, 1) := by decide +kernel
theorem dJ1_charAt_3b067_14 : decode cJ1_charAt_3b067 14 = .ok (.ireturn, 1) := by decide +kernel
theorem dJ2_getChar_3b067_0 : decode cJ2_getChar_3b067 0 = .ok (.getstatic 44, 3) := by decide +kernel
theorem dJ2_getChar_3b067_3 : decode cJ2_getChar_3b067 3 = .ok (.ifCond .ne 25, 3) := by decide +kernel
theorem dJ2_getChar_3b067_6 : decode cJ2_getChar_3b067 6 = .ok (.iload_n 1, 1) := by decide +kernel
theorem dJ2_getChar_3b067_7 : decode cJ2_getChar_3b067 7 = .ok (.ifCond .lt 11, 3) := by decide +kernel
theorem dJ2_getChar_3b067_10 : decode cJ2_getChar_3b067 10 = .ok (.iload_n 1, 1) := by decide +kernel
theorem dJ2_getChar_3b067_11 : decode cJ2_getChar_3b067 11 = .ok (.aload_n 0, 1) := by decide +kernel
theorem dJ2_getChar_3b067_12 : decode cJ2_getChar_3b067 12 = .ok (.invokestatic 48, 3) := by decide +kernel
theorem dJ2_getChar_3b067_15 : decode cJ2_getChar_3b067 15 = .ok (.if_icmp .lt 13, 3) := by decide +kernel
theorem dJ2_getChar_3b067_18 : decode cJ2_getChar_3b067 18 = .ok (.new 52, 3) := by decide +kernel
theorem dJ2_getChar_3b067_21 : decode cJ2_getChar_3b067 21 = .ok (.dup, 1) := by decide +kernel
theorem dJ2_getChar_3b067_22 : decode cJ2_getChar_3b067 22 = .ok (.ldc 54, 2) := by decide +kernel
theorem dJ2_getChar_3b067_24 : decode cJ2_getChar_3b067 24 = .ok (.invokespecial 56, 3) := by decide +kernel
theorem dJ2_getChar_3b067_27 : decode cJ2_getChar_3b067 27 = .ok (.athrow, 1) := by decide +kernel
theorem dJ2_getChar_3b067_28 : decode cJ2_getChar_3b067 28 = .ok (.iload_n 1, 1) := by decide +kernel
theorem dJ2_getChar_3b067_29 : decode cJ2_getChar_3b067 29 = .ok (.iconst 1, 1) := by decide +kernel
theorem dJ2_getChar_3b067_30 : decode cJ2_getChar_3b067 30 = .ok (.ishl, 1) := by decide +kernel
theorem dJ2_getChar_3b067_31 : decode cJ2_getChar_3b067 31 = .ok (.istore_n 1, 1) := by decide +kernel
theorem dJ2_getChar_3b067_32 : decode cJ2_getChar_3b067 32 = .ok (.aload_n 0, 1) := by decide +kernel
theorem dJ2_getChar_3b067_33 : decode cJ2_getChar_3b067 33 = .ok (.iload_n 1, 1) := by decide +kernel
theorem dJ2_getChar_3b067_34 : decode cJ2_getChar_3b067 34 = .ok (.iinc 1 1, 3) := by decide +kernel
theorem dJ2_getChar_3b067_37 : decode cJ2_getChar_3b067 37 = .ok (.baload, 1) := by decide +kernel
theorem dJ2_getChar_3b067_38 : decode cJ2_getChar_3b067 38 = .ok (.sipush 255, 3) := by decide +kernel
theorem dJ2_getChar_3b067_41 : decode cJ2_getChar_3b067 41 = .ok (.iand, 1) := by decide +kernel
theorem dJ2_getChar_3b067_42 : decode cJ2_getChar_3b067 42 = .ok (.getstatic 59, 3) := by decide +kernel
theorem dJ2_getChar_3b067_45 : decode cJ2_getChar_3b067 45 = .ok (.ishl, 1) := by decide +kernel
theorem dJ2_getChar_3b067_46 : decode cJ2_getChar_3b067 46 = .ok (.aload_n 0, 1) := by decide +kernel
theorem dJ2_getChar_3b067_47 : decode cJ2_getChar_3b067 47 = .ok (.iload_n 1, 1) := by decide +kernel
theorem dJ2_getChar_3b067_48 : decode cJ2_getChar_3b067 48 = .ok (.baload, 1) := by decide +kernel
theorem dJ2_getChar_3b067_49 : decode cJ2_getChar_3b067 49 = .ok (.sipush 255, 3) := by decide +kernel
theorem dJ2_getChar_3b067_52 : decode cJ2_getChar_3b067 52 = .ok (.iand, 1) := by decide +kernel
theorem dJ2_getChar_3b067_53 : decode cJ2_getChar_3b067 53 = .ok (.getstatic 63, 3) := by decide +kernel
theorem dJ2_getChar_3b067_56 : decode cJ2_getChar_3b067 56 = .ok (.ishl, 1) := by decide +kernel
theorem dJ2_getChar_3b067_57 : decode cJ2_getChar_3b067 57 = .ok (.ior, 1) := by decide +kernel
theorem dJ2_getChar_3b067_58 : decode cJ2_getChar_3b067 58 = .ok (.i2c, 1) := by decide +kernel
theorem dJ2_getChar_3b067_59 : decode cJ2_getChar_3b067 59 = .ok (.ireturn, 1) := by decide +kernel
theorem dJ2_length_9d52b_0 : decode cJ2_length_9d52b 0 = .ok (.aload_n 0, 1) := by decide +kernel
theorem dJ2_length_9d52b_1 : decode cJ2_length_9d52b 1 = .ok (.arraylength, 1) := by decide +kernel
theorem dJ2_length_9d52b_2 : decode cJ2_length_9d52b 2 = .ok (.iconst 1, 1) := by decide +kernel
theorem dJ2_length_9d52b_3 : decode cJ2_length_9d52b 3 = .ok (.ishr, 1) := by decide +kernel
theorem dJ2_length_9d52b_4 : decode cJ2_length_9d52b 4 = .ok (.ireturn, 1) := by decide +kernel
theorem dJ2_charAt_3b067_0 : decode cJ2_charAt_3b067 0 = .ok (.iload_n 1, 1) := by decide +kernel
theorem dJ2_charAt_3b067_1 : decode cJ2_charAt_3b067 1 = .ok (.aload_n 0, 1) := by decide +kernel
theorem dJ2_charAt_3b067_2 : decode cJ2_charAt_3b067 2 = .ok (.invokestatic 67, 3) := by decide +kernel
theorem dJ2_charAt_3b067_5 : decode cJ2_charAt_3b067 5 = .ok (.aload_n 0, 1) := by decide +kernel
theorem dJ2_charAt_3b067_6 : decode cJ2_charAt_3b067 6 = .ok (.iload_n 1, 1) := by decide +kernel
theorem dJ2_charAt_3b067_7 : decode cJ2_charAt_3b067 7 = .ok (.invokestatic 71, 3) := by decide +kernel
theorem dJ2_charAt_3b067_10 : decode cJ2_charAt_3b067 10 = .ok (.ireturn, 1) := by decide +kernel
theorem dJ2_checkIndex_2214a_0 : decode cJ2_checkIndex_2214a 0 = .ok (.iload_n 0, 1) := by decide +kernel
theorem dJ2_checkIndex_2214a_1 : decode cJ2_checkIndex_2214a 1 = .ok (.aload_n 1, 1) := by decide +kernel
theorem dJ2_checkIndex_2214a_2 : decode cJ2_checkIndex_2214a 2 = .ok (.invokestatic 48, 3) := by decide +kernel
theorem dJ2_checkIndex_2214a_5 : decode cJ2_checkIndex_2214a 5 = .ok (.invokestatic 414, 3) := by decide +kernel
theorem dJ2_checkIndex_2214a_8 : decode cJ2_checkIndex_2214a 8 = .ok (.return_, 1) := by decide +kernel
theorem dJ3_checkIndex_8e157_0 : decode cJ3_checkIndex_8e157 0 = .ok (.iload_n 0, 1) := by decide +kernel
theorem dJ3_checkIndex_8e157_1 : decode cJ3_checkIndex_8e157 1 = .ok (.ifCond .lt 8, 3) := by decide +kernel
theorem dJ3_checkIndex_8e157_4 : decode cJ3_checkIndex_8e157 4 = .ok (.iload_n 0, 1) := by decide +kernel
theorem dJ3_checkIndex_8e157_5 : decode cJ3_checkIndex_8e157 5 = .ok (.iload_n 1, 1) := by decide +kernel
theorem dJ3_checkIndex_8e157_6 : decode cJ3_checkIndex_8e157 6 = .ok (.if_icmp .lt 10, 3) := by decide +kernel
theorem dJ3_checkIndex_8e157_9 : decode cJ3_checkIndex_8e157 9 = .ok (.aload_n 2, 1) := by decide +kernel
theorem dJ3_checkIndex_8e157_10 : decode cJ3_checkIndex_8e157 10 = .ok (.iload_n 0, 1) := by decide +kernel
theorem dJ3_checkIndex_8e157_11 : decode cJ3_checkIndex_8e157 11 = .ok (.iload_n 1, 1) := by decide +kernel
theorem dJ3_checkIndex_8e157_12 : decode cJ3_checkIndex_8e157 12 = .ok (.invokestatic 95, 3) := by decide +kernel
theorem dJ3_checkIndex_8e157_15 : decode cJ3_checkIndex_8e157 15 = .ok (.athrow, 1) := by decide +kernel
theorem dJ3_checkIndex_8e157_16 : decode cJ3_checkIndex_8e157 16 = .ok (.iload_n 0, 1) := by decide +kernel
theorem dJ3_checkIndex_8e157_17 : decode cJ3_checkIndex_8e157 17 = .ok (.ireturn, 1) := by decide +kernel
theorem dL_cell_0 : decode cL_cell 0 = .ok (.aload_n 0, 1) := by decide +kernel
theorem dL_cell_1 : decode cL_cell 1 = .ok (.arraylength, 1) := by decide +kernel
theorem dL_cell_2 : decode cL_cell 2 = .ok (.ifCond .ne 11, 3) := by decide +kernel
theorem dL_cell_5 : decode cL_cell 5 = .ok (.sipush 577, 3) := by decide +kernel
theorem dL_cell_8 : decode cL_cell 8 = .ok (.iload_n 1, 1) := by decide +kernel
theorem dL_cell_9 : decode cL_cell 9 = .ok (.imul, 1) := by decide +kernel
theorem dL_cell_10 : decode cL_cell 10 = .ok (.goto 12, 3) := by decide +kernel
theorem dL_cell_13 : decode cL_cell 13 = .ok (.aload_n 0, 1) := by decide +kernel
theorem dL_cell_14 : decode cL_cell 14 = .ok (.iload_n 1, 1) := by decide +kernel
theorem dL_cell_15 : decode cL_cell 15 = .ok (.ldc 9, 2) := by decide +kernel
theorem dL_cell_17 : decode cL_cell 17 = .ok (.iand, 1) := by decide +kernel
theorem dL_cell_18 : decode cL_cell 18 = .ok (.aload_n 0, 1) := by decide +kernel
theorem dL_cell_19 : decode cL_cell 19 = .ok (.arraylength, 1) := by decide +kernel
theorem dL_cell_20 : decode cL_cell 20 = .ok (.irem, 1) := by decide +kernel
theorem dL_cell_21 : decode cL_cell 21 = .ok (.iaload, 1) := by decide +kernel
theorem dL_cell_22 : decode cL_cell 22 = .ok (.ireturn, 1) := by decide +kernel
theorem dL_write_0 : decode cL_write 0 = .ok (.iconst 0, 1) := by decide +kernel
theorem dL_write_1 : decode cL_write 1 = .ok (.istore_n 2, 1) := by decide +kernel
theorem dL_write_2 : decode cL_write 2 = .ok (.iload_n 2, 1) := by decide +kernel
theorem dL_write_3 : decode cL_write 3 = .ok (.aload_n 1, 1) := by decide +kernel
theorem dL_write_4 : decode cL_write 4 = .ok (.invokevirtual 10, 3) := by decide +kernel
theorem dL_write_7 : decode cL_write 7 = .ok (.if_icmp .ge 19, 3) := by decide +kernel
theorem dL_write_10 : decode cL_write 10 = .ok (.aload_n 0, 1) := by decide +kernel
theorem dL_write_11 : decode cL_write 11 = .ok (.aload_n 1, 1) := by decide +kernel
theorem dL_write_12 : decode cL_write 12 = .ok (.iload_n 2, 1) := by decide +kernel
theorem dL_write_13 : decode cL_write 13 = .ok (.invokevirtual 16, 3) := by decide +kernel
theorem dL_write_16 : decode cL_write 16 = .ok (.invokevirtual 20, 3) := by decide +kernel
theorem dL_write_19 : decode cL_write 19 = .ok (.pop, 1) := by decide +kernel
theorem dL_write_20 : decode cL_write 20 = .ok (.iinc 2 1, 3) := by decide +kernel
theorem dL_write_23 : decode cL_write 23 = .ok (.goto (-21), 3) := by decide +kernel
theorem dL_write_26 : decode cL_write 26 = .ok (.aload_n 0, 1) := by decide +kernel
theorem dL_write_27 : decode cL_write 27 = .ok (.areturn, 1) := by decide +kernel
theorem dL_act_0 : decode cL_act 0 = .ok (.iload_n 1, 1) := by decide +kernel
theorem dL_act_1 : decode cL_act 1 = .ok (.iconst 4, 1) := by decide +kernel
theorem dL_act_2 : decode cL_act 2 = .ok (.ishr, 1) := by decide +kernel
theorem dL_act_3 : decode cL_act 3 = .ok (.ldc 9, 2) := by decide +kernel
theorem dL_act_5 : decode cL_act 5 = .ok (.iand, 1) := by decide +kernel
theorem dL_act_6 : decode cL_act 6 = .ok (.istore_n 2, 1) := by decide +kernel
theorem dL_act_7 : decode cL_act 7 = .ok (.iload_n 2, 1) := by decide +kernel
theorem dL_act_8 : decode cL_act 8 = .ok (.bipush 6, 2) := by decide +kernel
theorem dL_act_10 : decode cL_act 10 = .ok (.irem, 1) := by decide +kernel
theorem dL_act_11 : decode cL_act 11 = .ok (.istore_n 3, 1) := by decide +kernel
theorem dL_act_12 : decode cL_act 12 = .ok (.iload_n 2, 1) := by decide +kernel
theorem dL_act_13 : decode cL_act 13 = .ok (.iconst 3, 1) := by decide +kernel
theorem dL_act_14 : decode cL_act 14 = .ok (.ishr, 1) := by decide +kernel
theorem dL_act_15 : decode cL_act 15 = .ok (.bipush 6, 2) := by decide +kernel
theorem dL_act_17 : decode cL_act 17 = .ok (.irem, 1) := by decide +kernel
theorem dL_act_18 : decode cL_act 18 = .ok (.istore 4, 2) := by decide +kernel
theorem dL_act_20 : decode cL_act 20 = .ok (.iload_n 1, 1) := by decide +kernel
theorem dL_act_21 : decode cL_act 21 = .ok (.bipush 15, 2) := by decide +kernel
theorem dL_act_23 : decode cL_act 23 = .ok (.iand, 1) := by decide +kernel
theorem dL_act_24 : decode cL_act 24 = .ok (.tableswitch 208 0 14 #[76, 92, 92, 114, 114, 122, 129, 134, 134, 147, 158, 158, 169, 190, 190], 76) := by decide +kernel
theorem dL_act_100 : decode cL_act 100 = .ok (.aload_n 0, 1) := by decide +kernel
theorem dL_act_101 : decode cL_act 101 = .ok (.iload_n 2, 1) := by decide +kernel
theorem dL_act_102 : decode cL_act 102 = .ok (.iconst 2, 1) := by decide +kernel
theorem dL_act_103 : decode cL_act 103 = .ok (.ishr, 1) := by decide +kernel
theorem dL_act_104 : decode cL_act 104 = .ok (.iconst 5, 1) := by decide +kernel
theorem dL_act_105 : decode cL_act 105 = .ok (.irem, 1) := by decide +kernel
theorem dL_act_106 : decode cL_act 106 = .ok (.iload_n 2, 1) := by decide +kernel
theorem dL_act_107 : decode cL_act 107 = .ok (.iconst 4, 1) := by decide +kernel
theorem dL_act_108 : decode cL_act 108 = .ok (.ishr, 1) := by decide +kernel
theorem dL_act_109 : decode cL_act 109 = .ok (.bipush 10, 2) := by decide +kernel
theorem dL_act_111 : decode cL_act 111 = .ok (.irem, 1) := by decide +kernel
theorem dL_act_112 : decode cL_act 112 = .ok (.invokevirtual 24, 3) := by decide +kernel
theorem dL_act_115 : decode cL_act 115 = .ok (.ireturn, 1) := by decide +kernel
theorem dL_act_116 : decode cL_act 116 = .ok (.aload_n 0, 1) := by decide +kernel
theorem dL_act_117 : decode cL_act 117 = .ok (.iload_n 2, 1) := by decide +kernel
theorem dL_act_118 : decode cL_act 118 = .ok (.iconst 2, 1) := by decide +kernel
theorem dL_act_119 : decode cL_act 119 = .ok (.ishr, 1) := by decide +kernel
theorem dL_act_120 : decode cL_act 120 = .ok (.iconst 5, 1) := by decide +kernel
theorem dL_act_121 : decode cL_act 121 = .ok (.irem, 1) := by decide +kernel
theorem dL_act_122 : decode cL_act 122 = .ok (.iload_n 2, 1) := by decide +kernel
theorem dL_act_123 : decode cL_act 123 = .ok (.iconst 4, 1) := by decide +kernel
theorem dL_act_124 : decode cL_act 124 = .ok (.ishr, 1) := by decide +kernel
theorem dL_act_125 : decode cL_act 125 = .ok (.bipush 10, 2) := by decide +kernel
theorem dL_act_127 : decode cL_act 127 = .ok (.irem, 1) := by decide +kernel
theorem dL_act_128 : decode cL_act 128 = .ok (.iload_n 2, 1) := by decide +kernel
theorem dL_act_129 : decode cL_act 129 = .ok (.bipush 6, 2) := by decide +kernel
theorem dL_act_131 : decode cL_act 131 = .ok (.ishr, 1) := by decide +kernel
theorem dL_act_132 : decode cL_act 132 = .ok (.iconst 5, 1) := by decide +kernel
theorem dL_act_133 : decode cL_act 133 = .ok (.irem, 1) := by decide +kernel
theorem dL_act_134 : decode cL_act 134 = .ok (.invokevirtual 28, 3) := by decide +kernel
theorem dL_act_137 : decode cL_act 137 = .ok (.ireturn, 1) := by decide +kernel
theorem dL_act_138 : decode cL_act 138 = .ok (.aload_n 0, 1) := by decide +kernel
theorem dL_act_139 : decode cL_act 139 = .ok (.iload_n 3, 1) := by decide +kernel
theorem dL_act_140 : decode cL_act 140 = .ok (.iload 4, 2) := by decide +kernel
theorem dL_act_142 : decode cL_act 142 = .ok (.invokevirtual 32, 3) := by decide +kernel
theorem dL_act_145 : decode cL_act 145 = .ok (.ireturn, 1) := by decide +kernel
theorem dL_act_146 : decode cL_act 146 = .ok (.aload_n 0, 1) := by decide +kernel
theorem dL_act_147 : decode cL_act 147 = .ok (.iload 4, 2) := by decide +kernel
theorem dL_act_149 : decode cL_act 149 = .ok (.invokevirtual 35, 3) := by decide +kernel
theorem dL_act_152 : decode cL_act 152 = .ok (.ireturn, 1) := by decide +kernel
theorem dL_act_153 : decode cL_act 153 = .ok (.aload_n 0, 1) := by decide +kernel
theorem dL_act_154 : decode cL_act 154 = .ok (.invokevirtual 38, 3) := by decide +kernel
theorem dL_act_157 : decode cL_act 157 = .ok (.ireturn, 1) := by decide +kernel
theorem dL_act_158 : decode cL_act 158 = .ok (.aload_n 0, 1) := by decide +kernel
theorem dL_act_159 : decode cL_act 159 = .ok (.iload 4, 2) := by decide +kernel
theorem dL_act_161 : decode cL_act 161 = .ok (.iload_n 2, 1) := by decide +kernel
theorem dL_act_162 : decode cL_act 162 = .ok (.iconst 5, 1) := by decide +kernel
theorem dL_act_163 : decode cL_act 163 = .ok (.ishr, 1) := by decide +kernel
theorem dL_act_164 : decode cL_act 164 = .ok (.bipush 12, 2) := by decide +kernel
theorem dL_act_166 : decode cL_act 166 = .ok (.irem, 1) := by decide +kernel
theorem dL_act_167 : decode cL_act 167 = .ok (.invokevirtual 41, 3) := by decide +kernel
theorem dL_act_170 : decode cL_act 170 = .ok (.ireturn, 1) := by decide +kernel
theorem dL_act_171 : decode cL_act 171 = .ok (.aload_n 0, 1) := by decide +kernel
theorem dL_act_172 : decode cL_act 172 = .ok (.iload_n 2, 1) := by decide +kernel
theorem dL_act_173 : decode cL_act 173 = .ok (.iconst 4, 1) := by decide +kernel
theorem dL_act_174 : decode cL_act 174 = .ok (.ishr, 1) := by decide +kernel
theorem dL_act_175 : decode cL_act 175 = .ok (.bipush 11, 2) := by decide +kernel
theorem dL_act_177 : decode cL_act 177 = .ok (.irem, 1) := by decide +kernel
theorem dL_act_178 : decode cL_act 178 = .ok (.invokevirtual 44, 3) := by decide +kernel
theorem dL_act_181 : decode cL_act 181 = .ok (.ireturn, 1) := by decide +kernel
theorem dL_act_182 : decode cL_act 182 = .ok (.aload_n 0, 1) := by decide +kernel
theorem dL_act_183 : decode cL_act 183 = .ok (.iload_n 2, 1) := by decide +kernel
theorem dL_act_184 : decode cL_act 184 = .ok (.iconst 4, 1) := by decide +kernel
theorem dL_act_185 : decode cL_act 185 = .ok (.ishr, 1) := by decide +kernel
theorem dL_act_186 : decode cL_act 186 = .ok (.bipush 6, 2) := by decide +kernel
theorem dL_act_188 : decode cL_act 188 = .ok (.irem, 1) := by decide +kernel
theorem dL_act_189 : decode cL_act 189 = .ok (.invokevirtual 47, 3) := by decide +kernel
theorem dL_act_192 : decode cL_act 192 = .ok (.ireturn, 1) := by decide +kernel
theorem dL_act_193 : decode cL_act 193 = .ok (.iload_n 2, 1) := by decide +kernel
theorem dL_act_194 : decode cL_act 194 = .ok (.bipush 32, 2) := by decide +kernel
theorem dL_act_196 : decode cL_act 196 = .ok (.iand, 1) := by decide +kernel
theorem dL_act_197 : decode cL_act 197 = .ok (.ifCond .ne 11, 3) := by decide +kernel
theorem dL_act_200 : decode cL_act 200 = .ok (.aload_n 0, 1) := by decide +kernel
theorem dL_act_201 : decode cL_act 201 = .ok (.iload_n 3, 1) := by decide +kernel
theorem dL_act_202 : decode cL_act 202 = .ok (.invokevirtual 50, 3) := by decide +kernel
theorem dL_act_205 : decode cL_act 205 = .ok (.goto 8, 3) := by decide +kernel
theorem dL_act_208 : decode cL_act 208 = .ok (.aload_n 0, 1) := by decide +kernel
theorem dL_act_209 : decode cL_act 209 = .ok (.iload_n 3, 1) := by decide +kernel
theorem dL_act_210 : decode cL_act 210 = .ok (.invokevirtual 53, 3) := by decide +kernel
theorem dL_act_213 : decode cL_act 213 = .ok (.ireturn, 1) := by decide +kernel
theorem dL_act_214 : decode cL_act 214 = .ok (.aload_n 0, 1) := by decide +kernel
theorem dL_act_215 : decode cL_act 215 = .ok (.getstatic 56, 3) := by decide +kernel
theorem dL_act_218 : decode cL_act 218 = .ok (.iload_n 2, 1) := by decide +kernel
theorem dL_act_219 : decode cL_act 219 = .ok (.getstatic 56, 3) := by decide +kernel
theorem dL_act_222 : decode cL_act 222 = .ok (.arraylength, 1) := by decide +kernel
theorem dL_act_223 : decode cL_act 223 = .ok (.irem, 1) := by decide +kernel
theorem dL_act_224 : decode cL_act 224 = .ok (.aaload, 1) := by decide +kernel
theorem dL_act_225 : decode cL_act 225 = .ok (.invokestatic 62, 3) := by decide +kernel
theorem dL_act_228 : decode cL_act 228 = .ok (.invokevirtual 66, 3) := by decide +kernel
theorem dL_act_231 : decode cL_act 231 = .ok (.ireturn, 1) := by decide +kernel
theorem dL_act_232 : decode cL_act 232 = .ok (.iload_n 2, 1) := by decide +kernel
theorem dL_act_233 : decode cL_act 233 = .ok (.iconst 3, 1) := by decide +kernel
theorem dL_act_234 : decode cL_act 234 = .ok (.iand, 1) := by decide +kernel
theorem dL_act_235 : decode cL_act 235 = .ok (.ifCond .ne 10, 3) := by decide +kernel
theorem dL_act_238 : decode cL_act 238 = .ok (.aload_n 0, 1) := by decide +kernel
theorem dL_act_239 : decode cL_act 239 = .ok (.invokevirtual 69, 3) := by decide +kernel
theorem dL_act_242 : decode cL_act 242 = .ok (.goto 21, 3) := by decide +kernel
theorem dL_act_245 : decode cL_act 245 = .ok (.iload_n 2, 1) := by decide +kernel
theorem dL_act_246 : decode cL_act 246 = .ok (.iconst 3, 1) := by decide +kernel
theorem dL_act_247 : decode cL_act 247 = .ok (.iand, 1) := by decide +kernel
theorem dL_act_248 : decode cL_act 248 = .ok (.iconst 1, 1) := by decide +kernel
theorem dL_act_249 : decode cL_act 249 = .ok (.if_icmp .ne 10, 3) := by decide +kernel
theorem dL_act_252 : decode cL_act 252 = .ok (.aload_n 0, 1) := by decide +kernel
theorem dL_act_253 : decode cL_act 253 = .ok (.invokevirtual 72, 3) := by decide +kernel
theorem dL_act_256 : decode cL_act 256 = .ok (.goto 7, 3) := by decide +kernel
theorem dL_act_259 : decode cL_act 259 = .ok (.aload_n 0, 1) := by decide +kernel
theorem dL_act_260 : decode cL_act 260 = .ok (.invokevirtual 75, 3) := by decide +kernel
theorem dL_act_263 : decode cL_act 263 = .ok (.ireturn, 1) := by decide +kernel
theorem dL_digest_0 : decode cL_digest 0 = .ok (.ldc2_w 78, 3) := by decide +kernel
theorem dL_digest_3 : decode cL_digest 3 = .ok (.lstore_n 1, 1) := by decide +kernel
theorem dL_digest_4 : decode cL_digest 4 = .ok (.iconst 0, 1) := by decide +kernel
theorem dL_digest_5 : decode cL_digest 5 = .ok (.istore_n 3, 1) := by decide +kernel
theorem dL_digest_6 : decode cL_digest 6 = .ok (.iload_n 3, 1) := by decide +kernel
theorem dL_digest_7 : decode cL_digest 7 = .ok (.bipush 12, 2) := by decide +kernel
theorem dL_digest_9 : decode cL_digest 9 = .ok (.if_icmp .ge 22, 3) := by decide +kernel
theorem dL_digest_12 : decode cL_digest 12 = .ok (.ldc2_w 80, 3) := by decide +kernel
theorem dL_digest_15 : decode cL_digest 15 = .ok (.lload_n 1, 1) := by decide +kernel
theorem dL_digest_16 : decode cL_digest 16 = .ok (.lmul, 1) := by decide +kernel
theorem dL_digest_17 : decode cL_digest 17 = .ok (.aload_n 0, 1) := by decide +kernel
theorem dL_digest_18 : decode cL_digest 18 = .ok (.iload_n 3, 1) := by decide +kernel
theorem dL_digest_19 : decode cL_digest 19 = .ok (.invokevirtual 82, 3) := by decide +kernel
theorem dL_digest_22 : decode cL_digest 22 = .ok (.i2l, 1) := by decide +kernel
theorem dL_digest_23 : decode cL_digest 23 = .ok (.ladd, 1) := by decide +kernel
theorem dL_digest_24 : decode cL_digest 24 = .ok (.lstore_n 1, 1) := by decide +kernel
theorem dL_digest_25 : decode cL_digest 25 = .ok (.iinc 3 1, 3) := by decide +kernel
theorem dL_digest_28 : decode cL_digest 28 = .ok (.goto (-22), 3) := by decide +kernel
theorem dL_digest_31 : decode cL_digest 31 = .ok (.iconst 0, 1) := by decide +kernel
theorem dL_digest_32 : decode cL_digest 32 = .ok (.istore_n 3, 1) := by decide +kernel
theorem dL_digest_33 : decode cL_digest 33 = .ok (.iload_n 3, 1) := by decide +kernel
theorem dL_digest_34 : decode cL_digest 34 = .ok (.aload_n 0, 1) := by decide +kernel
theorem dL_digest_35 : decode cL_digest 35 = .ok (.iconst 0, 1) := by decide +kernel
theorem dL_digest_36 : decode cL_digest 36 = .ok (.invokevirtual 82, 3) := by decide +kernel
theorem dL_digest_39 : decode cL_digest 39 = .ok (.if_icmp .ge 40, 3) := by decide +kernel
theorem dL_digest_42 : decode cL_digest 42 = .ok (.iconst 0, 1) := by decide +kernel
theorem dL_digest_43 : decode cL_digest 43 = .ok (.istore 4, 2) := by decide +kernel
theorem dL_digest_45 : decode cL_digest 45 = .ok (.iload 4, 2) := by decide +kernel
theorem dL_digest_47 : decode cL_digest 47 = .ok (.bipush 8, 2) := by decide +kernel
theorem dL_digest_49 : decode cL_digest 49 = .ok (.if_icmp .ge 24, 3) := by decide +kernel
theorem dL_digest_52 : decode cL_digest 52 = .ok (.ldc2_w 80, 3) := by decide +kernel
theorem dL_digest_55 : decode cL_digest 55 = .ok (.lload_n 1, 1) := by decide +kernel
theorem dL_digest_56 : decode cL_digest 56 = .ok (.lmul, 1) := by decide +kernel
theorem dL_digest_57 : decode cL_digest 57 = .ok (.aload_n 0, 1) := by decide +kernel
theorem dL_digest_58 : decode cL_digest 58 = .ok (.iload_n 3, 1) := by decide +kernel
theorem dL_digest_59 : decode cL_digest 59 = .ok (.iload 4, 2) := by decide +kernel
theorem dL_digest_61 : decode cL_digest 61 = .ok (.invokevirtual 85, 3) := by decide +kernel
theorem dL_digest_64 : decode cL_digest 64 = .ok (.i2l, 1) := by decide +kernel
theorem dL_digest_65 : decode cL_digest 65 = .ok (.ladd, 1) := by decide +kernel
theorem dL_digest_66 : decode cL_digest 66 = .ok (.lstore_n 1, 1) := by decide +kernel
theorem dL_digest_67 : decode cL_digest 67 = .ok (.iinc 4 1, 3) := by decide +kernel
theorem dL_digest_70 : decode cL_digest 70 = .ok (.goto (-25), 3) := by decide +kernel
theorem dL_digest_73 : decode cL_digest 73 = .ok (.iinc 3 1, 3) := by decide +kernel
theorem dL_digest_76 : decode cL_digest 76 = .ok (.goto (-43), 3) := by decide +kernel
theorem dL_digest_79 : decode cL_digest 79 = .ok (.iconst 0, 1) := by decide +kernel
theorem dL_digest_80 : decode cL_digest 80 = .ok (.istore_n 3, 1) := by decide +kernel
theorem dL_digest_81 : decode cL_digest 81 = .ok (.iload_n 3, 1) := by decide +kernel
theorem dL_digest_82 : decode cL_digest 82 = .ok (.aload_n 0, 1) := by decide +kernel
theorem dL_digest_83 : decode cL_digest 83 = .ok (.iconst 1, 1) := by decide +kernel
theorem dL_digest_84 : decode cL_digest 84 = .ok (.invokevirtual 82, 3) := by decide +kernel
theorem dL_digest_87 : decode cL_digest 87 = .ok (.if_icmp .ge 40, 3) := by decide +kernel
theorem dL_digest_90 : decode cL_digest 90 = .ok (.iconst 0, 1) := by decide +kernel
theorem dL_digest_91 : decode cL_digest 91 = .ok (.istore 4, 2) := by decide +kernel
theorem dL_digest_93 : decode cL_digest 93 = .ok (.iload 4, 2) := by decide +kernel
theorem dL_digest_95 : decode cL_digest 95 = .ok (.bipush 7, 2) := by decide +kernel
theorem dL_digest_97 : decode cL_digest 97 = .ok (.if_icmp .ge 24, 3) := by decide +kernel
theorem dL_digest_100 : decode cL_digest 100 = .ok (.ldc2_w 80, 3) := by decide +kernel
theorem dL_digest_103 : decode cL_digest 103 = .ok (.lload_n 1, 1) := by decide +kernel
theorem dL_digest_104 : decode cL_digest 104 = .ok (.lmul, 1) := by decide +kernel
theorem dL_digest_105 : decode cL_digest 105 = .ok (.aload_n 0, 1) := by decide +kernel
theorem dL_digest_106 : decode cL_digest 106 = .ok (.iload_n 3, 1) := by decide +kernel
theorem dL_digest_107 : decode cL_digest 107 = .ok (.iload 4, 2) := by decide +kernel
theorem dL_digest_109 : decode cL_digest 109 = .ok (.invokevirtual 88, 3) := by decide +kernel
theorem dL_digest_112 : decode cL_digest 112 = .ok (.i2l, 1) := by decide +kernel
theorem dL_digest_113 : decode cL_digest 113 = .ok (.ladd, 1) := by decide +kernel
theorem dL_digest_114 : decode cL_digest 114 = .ok (.lstore_n 1, 1) := by decide +kernel
theorem dL_digest_115 : decode cL_digest 115 = .ok (.iinc 4 1, 3) := by decide +kernel
theorem dL_digest_118 : decode cL_digest 118 = .ok (.goto (-25), 3) := by decide +kernel
theorem dL_digest_121 : decode cL_digest 121 = .ok (.iinc 3 1, 3) := by decide +kernel
theorem dL_digest_124 : decode cL_digest 124 = .ok (.goto (-43), 3) := by decide +kernel
theorem dL_digest_127 : decode cL_digest 127 = .ok (.lload_n 1, 1) := by decide +kernel
theorem dL_digest_128 : decode cL_digest 128 = .ok (.lreturn, 1) := by decide +kernel
theorem dL_areSeats_0 : decode cL_areSeats 0 = .ok (.aload_n 0, 1) := by decide +kernel
theorem dL_areSeats_1 : decode cL_areSeats 1 = .ok (.iconst 0, 1) := by decide +kernel
theorem dL_areSeats_2 : decode cL_areSeats 2 = .ok (.invokevirtual 82, 3) := by decide +kernel
theorem dL_areSeats_5 : decode cL_areSeats 5 = .ok (.istore_n 1, 1) := by decide +kernel
theorem dL_areSeats_6 : decode cL_areSeats 6 = .ok (.aload_n 0, 1) := by decide +kernel
theorem dL_areSeats_7 : decode cL_areSeats 7 = .ok (.iconst 1, 1) := by decide +kernel
theorem dL_areSeats_8 : decode cL_areSeats 8 = .ok (.invokevirtual 82, 3) := by decide +kernel
theorem dL_areSeats_11 : decode cL_areSeats 11 = .ok (.istore_n 2, 1) := by decide +kernel
theorem dL_areSeats_12 : decode cL_areSeats 12 = .ok (.iconst 0, 1) := by decide +kernel
theorem dL_areSeats_13 : decode cL_areSeats 13 = .ok (.istore_n 3, 1) := by decide +kernel
theorem dL_areSeats_14 : decode cL_areSeats 14 = .ok (.iconst 0, 1) := by decide +kernel
theorem dL_areSeats_15 : decode cL_areSeats 15 = .ok (.istore 4, 2) := by decide +kernel
theorem dL_areSeats_17 : decode cL_areSeats 17 = .ok (.iconst 0, 1) := by decide +kernel
theorem dL_areSeats_18 : decode cL_areSeats 18 = .ok (.istore 5, 2) := by decide +kernel
theorem dL_areSeats_20 : decode cL_areSeats 20 = .ok (.iconst 0, 1) := by decide +kernel
theorem dL_areSeats_21 : decode cL_areSeats 21 = .ok (.istore 6, 2) := by decide +kernel
theorem dL_areSeats_23 : decode cL_areSeats 23 = .ok (.iconst 1, 1) := by decide +kernel
theorem dL_areSeats_24 : decode cL_areSeats 24 = .ok (.istore 7, 2) := by decide +kernel
theorem dL_areSeats_26 : decode cL_areSeats 26 = .ok (.iconst 0, 1) := by decide +kernel
theorem dL_areSeats_27 : decode cL_areSeats 27 = .ok (.istore 8, 2) := by decide +kernel
theorem dL_areSeats_29 : decode cL_areSeats 29 = .ok (.iload 7, 2) := by decide +kernel
theorem dL_areSeats_31 : decode cL_areSeats 31 = .ok (.ifCond .eq 271, 3) := by decide +kernel
theorem dL_areSeats_34 : decode cL_areSeats 34 = .ok (.iload 8, 2) := by decide +kernel
theorem dL_areSeats_36 : decode cL_areSeats 36 = .ok (.iload_n 1, 1) := by decide +kernel
theorem dL_areSeats_37 : decode cL_areSeats 37 = .ok (.if_icmp .ge 265, 3) := by decide +kernel
theorem dL_areSeats_40 : decode cL_areSeats 40 = .ok (.aload_n 0, 1) := by decide +kernel
theorem dL_areSeats_41 : decode cL_areSeats 41 = .ok (.iload 8, 2) := by decide +kernel
theorem dL_areSeats_43 : decode cL_areSeats 43 = .ok (.bipush 7, 2) := by decide +kernel
theorem dL_areSeats_45 : decode cL_areSeats 45 = .ok (.invokevirtual 85, 3) := by decide +kernel
theorem dL_areSeats_48 : decode cL_areSeats 48 = .ok (.istore 9, 2) := by decide +kernel
theorem dL_areSeats_50 : decode cL_areSeats 50 = .ok (.aload_n 0, 1) := by decide +kernel
theorem dL_areSeats_51 : decode cL_areSeats 51 = .ok (.iload 8, 2) := by decide +kernel
theorem dL_areSeats_53 : decode cL_areSeats 53 = .ok (.iconst 3, 1) := by decide +kernel
theorem dL_areSeats_54 : decode cL_areSeats 54 = .ok (.invokevirtual 85, 3) := by decide +kernel
theorem dL_areSeats_57 : decode cL_areSeats 57 = .ok (.ifCond .ne 7, 3) := by decide +kernel
theorem dL_areSeats_60 : decode cL_areSeats 60 = .ok (.iconst 1, 1) := by decide +kernel
theorem dL_areSeats_61 : decode cL_areSeats 61 = .ok (.goto 4, 3) := by decide +kernel
theorem dL_areSeats_64 : decode cL_areSeats 64 = .ok (.iconst 0, 1) := by decide +kernel
theorem dL_areSeats_65 : decode cL_areSeats 65 = .ok (.istore 10, 2) := by decide +kernel
theorem dL_areSeats_67 : decode cL_areSeats 67 = .ok (.iload 4, 2) := by decide +kernel
theorem dL_areSeats_69 : decode cL_areSeats 69 = .ok (.iload 10, 2) := by decide +kernel
theorem dL_areSeats_71 : decode cL_areSeats 71 = .ok (.ifCond .eq 7, 3) := by decide +kernel
theorem dL_areSeats_74 : decode cL_areSeats 74 = .ok (.iconst 1, 1) := by decide +kernel
theorem dL_areSeats_75 : decode cL_areSeats 75 = .ok (.goto 4, 3) := by decide +kernel
theorem dL_areSeats_78 : decode cL_areSeats 78 = .ok (.iconst 0, 1) := by decide +kernel
theorem dL_areSeats_79 : decode cL_areSeats 79 = .ok (.iadd, 1) := by decide +kernel
theorem dL_areSeats_80 : decode cL_areSeats 80 = .ok (.istore 4, 2) := by decide +kernel
theorem dL_areSeats_82 : decode cL_areSeats 82 = .ok (.iload 5, 2) := by decide +kernel
theorem dL_areSeats_84 : decode cL_areSeats 84 = .ok (.iload 9, 2) := by decide +kernel
theorem dL_areSeats_86 : decode cL_areSeats 86 = .ok (.sipush (-1015), 3) := by decide +kernel
theorem dL_areSeats_89 : decode cL_areSeats 89 = .ok (.if_icmp .ne 7, 3) := by decide +kernel
theorem dL_areSeats_92 : decode cL_areSeats 92 = .ok (.iconst 0, 1) := by decide +kernel
theorem dL_areSeats_93 : decode cL_areSeats 93 = .ok (.goto 11, 3) := by decide +kernel
theorem dL_areSeats_96 : decode cL_areSeats 96 = .ok (.aload_n 0, 1) := by decide +kernel
theorem dL_areSeats_97 : decode cL_areSeats 97 = .ok (.iload 8, 2) := by decide +kernel
theorem dL_areSeats_99 : decode cL_areSeats 99 = .ok (.iload 9, 2) := by decide +kernel
theorem dL_areSeats_101 : decode cL_areSeats 101 = .ok (.invokevirtual 91, 3) := by decide +kernel
theorem dL_areSeats_104 : decode cL_areSeats 104 = .ok (.iadd, 1) := by decide +kernel
theorem dL_areSeats_105 : decode cL_areSeats 105 = .ok (.istore 5, 2) := by decide +kernel
theorem dL_areSeats_107 : decode cL_areSeats 107 = .ok (.aload_n 0, 1) := by decide +kernel
theorem dL_areSeats_108 : decode cL_areSeats 108 = .ok (.iload 8, 2) := by decide +kernel
theorem dL_areSeats_110 : decode cL_areSeats 110 = .ok (.iconst 5, 1) := by decide +kernel
theorem dL_areSeats_111 : decode cL_areSeats 111 = .ok (.invokevirtual 85, 3) := by decide +kernel
theorem dL_areSeats_114 : decode cL_areSeats 114 = .ok (.aload_n 0, 1) := by decide +kernel
theorem dL_areSeats_115 : decode cL_areSeats 115 = .ok (.iload 8, 2) := by decide +kernel
theorem dL_areSeats_117 : decode cL_areSeats 117 = .ok (.iconst 2, 1) := by decide +kernel
theorem dL_areSeats_118 : decode cL_areSeats 118 = .ok (.invokevirtual 85, 3) := by decide +kernel
theorem dL_areSeats_121 : decode cL_areSeats 121 = .ok (.iconst 3, 1) := by decide +kernel
theorem dL_areSeats_122 : decode cL_areSeats 122 = .ok (.aload_n 0, 1) := by decide +kernel
theorem dL_areSeats_123 : decode cL_areSeats 123 = .ok (.iload 8, 2) := by decide +kernel
theorem dL_areSeats_125 : decode cL_areSeats 125 = .ok (.iconst 4, 1) := by decide +kernel
theorem dL_areSeats_126 : decode cL_areSeats 126 = .ok (.invokevirtual 85, 3) := by decide +kernel
theorem dL_areSeats_129 : decode cL_areSeats 129 = .ok (.imul, 1) := by decide +kernel
theorem dL_areSeats_130 : decode cL_areSeats 130 = .ok (.iadd, 1) := by decide +kernel
theorem dL_areSeats_131 : decode cL_areSeats 131 = .ok (.if_icmp .ne 76, 3) := by decide +kernel
theorem dL_areSeats_134 : decode cL_areSeats 134 = .ok (.iload 9, 2) := by decide +kernel
theorem dL_areSeats_136 : decode cL_areSeats 136 = .ok (.sipush (-1015), 3) := by decide +kernel
theorem dL_areSeats_139 : decode cL_areSeats 139 = .ok (.if_icmp .eq 33, 3) := by decide +kernel
theorem dL_areSeats_142 : decode cL_areSeats 142 = .ok (.iload 10, 2) := by decide +kernel
theorem dL_areSeats_144 : decode cL_areSeats 144 = .ok (.ifCond .ne 63, 3) := by decide +kernel
theorem dL_areSeats_147 : decode cL_areSeats 147 = .ok (.aload_n 0, 1) := by decide +kernel
theorem dL_areSeats_148 : decode cL_areSeats 148 = .ok (.iload 9, 2) := by decide +kernel
theorem dL_areSeats_150 : decode cL_areSeats 150 = .ok (.iconst 5, 1) := by decide +kernel
theorem dL_areSeats_151 : decode cL_areSeats 151 = .ok (.invokevirtual 88, 3) := by decide +kernel
theorem dL_areSeats_154 : decode cL_areSeats 154 = .ok (.iload 8, 2) := by decide +kernel
theorem dL_areSeats_156 : decode cL_areSeats 156 = .ok (.if_icmp .ne 51, 3) := by decide +kernel
theorem dL_areSeats_159 : decode cL_areSeats 159 = .ok (.aload_n 0, 1) := by decide +kernel
theorem dL_areSeats_160 : decode cL_areSeats 160 = .ok (.iload 8, 2) := by decide +kernel
theorem dL_areSeats_162 : decode cL_areSeats 162 = .ok (.iload 9, 2) := by decide +kernel
theorem dL_areSeats_164 : decode cL_areSeats 164 = .ok (.invokevirtual 91, 3) := by decide +kernel
theorem dL_areSeats_167 : decode cL_areSeats 167 = .ok (.bipush 6, 2) := by decide +kernel
theorem dL_areSeats_169 : decode cL_areSeats 169 = .ok (.if_icmp .lt 38, 3) := by decide +kernel
theorem dL_areSeats_172 : decode cL_areSeats 172 = .ok (.aload_n 0, 1) := by decide +kernel
theorem dL_areSeats_173 : decode cL_areSeats 173 = .ok (.aload_n 0, 1) := by decide +kernel
theorem dL_areSeats_174 : decode cL_areSeats 174 = .ok (.iload 8, 2) := by decide +kernel
theorem dL_areSeats_176 : decode cL_areSeats 176 = .ok (.iconst 4, 1) := by decide +kernel
theorem dL_areSeats_177 : decode cL_areSeats 177 = .ok (.invokevirtual 85, 3) := by decide +kernel
theorem dL_areSeats_180 : decode cL_areSeats 180 = .ok (.invokevirtual 94, 3) := by decide +kernel
theorem dL_areSeats_183 : decode cL_areSeats 183 = .ok (.iload 8, 2) := by decide +kernel
theorem dL_areSeats_185 : decode cL_areSeats 185 = .ok (.ishr, 1) := by decide +kernel
theorem dL_areSeats_186 : decode cL_areSeats 186 = .ok (.iconst 1, 1) := by decide +kernel
theorem dL_areSeats_187 : decode cL_areSeats 187 = .ok (.iand, 1) := by decide +kernel
theorem dL_areSeats_188 : decode cL_areSeats 188 = .ok (.iconst 1, 1) := by decide +kernel
theorem dL_areSeats_189 : decode cL_areSeats 189 = .ok (.if_icmp .ne 18, 3) := by decide +kernel
theorem dL_areSeats_192 : decode cL_areSeats 192 = .ok (.aload_n 0, 1) := by decide +kernel
theorem dL_areSeats_193 : decode cL_areSeats 193 = .ok (.iload 8, 2) := by decide +kernel
theorem dL_areSeats_195 : decode cL_areSeats 195 = .ok (.invokevirtual 97, 3) := by decide +kernel
theorem dL_areSeats_198 : decode cL_areSeats 198 = .ok (.bipush 7, 2) := by decide +kernel
theorem dL_areSeats_200 : decode cL_areSeats 200 = .ok (.if_icmp .lt 7, 3) := by decide +kernel
theorem dL_areSeats_203 : decode cL_areSeats 203 = .ok (.iconst 1, 1) := by decide +kernel
theorem dL_areSeats_204 : decode cL_areSeats 204 = .ok (.goto 4, 3) := by decide +kernel
theorem dL_areSeats_207 : decode cL_areSeats 207 = .ok (.iconst 0, 1) := by decide +kernel
theorem dL_areSeats_208 : decode cL_areSeats 208 = .ok (.istore 7, 2) := by decide +kernel
theorem dL_areSeats_210 : decode cL_areSeats 210 = .ok (.iconst 0, 1) := by decide +kernel
theorem dL_areSeats_211 : decode cL_areSeats 211 = .ok (.istore 11, 2) := by decide +kernel
theorem dL_areSeats_213 : decode cL_areSeats 213 = .ok (.iload 7, 2) := by decide +kernel
theorem dL_areSeats_215 : decode cL_areSeats 215 = .ok (.ifCond .eq 81, 3) := by decide +kernel
theorem dL_areSeats_218 : decode cL_areSeats 218 = .ok (.iload 11, 2) := by decide +kernel
theorem dL_areSeats_220 : decode cL_areSeats 220 = .ok (.iload_n 2, 1) := by decide +kernel
theorem dL_areSeats_221 : decode cL_areSeats 221 = .ok (.if_icmp .ge 75, 3) := by decide +kernel
theorem dL_areSeats_224 : decode cL_areSeats 224 = .ok (.bipush 9, 2) := by decide +kernel
theorem dL_areSeats_226 : decode cL_areSeats 226 = .ok (.aload_n 0, 1) := by decide +kernel
theorem dL_areSeats_227 : decode cL_areSeats 227 = .ok (.iload 8, 2) := by decide +kernel
theorem dL_areSeats_229 : decode cL_areSeats 229 = .ok (.iconst 1, 1) := by decide +kernel
theorem dL_areSeats_230 : decode cL_areSeats 230 = .ok (.invokevirtual 85, 3) := by decide +kernel
theorem dL_areSeats_233 : decode cL_areSeats 233 = .ok (.aload_n 0, 1) := by decide +kernel
theorem dL_areSeats_234 : decode cL_areSeats 234 = .ok (.iload 11, 2) := by decide +kernel
theorem dL_areSeats_236 : decode cL_areSeats 236 = .ok (.iconst 1, 1) := by decide +kernel
theorem dL_areSeats_237 : decode cL_areSeats 237 = .ok (.invokevirtual 88, 3) := by decide +kernel
theorem dL_areSeats_240 : decode cL_areSeats 240 = .ok (.isub, 1) := by decide +kernel
theorem dL_areSeats_241 : decode cL_areSeats 241 = .ok (.invokestatic 100, 3) := by decide +kernel
theorem dL_areSeats_244 : decode cL_areSeats 244 = .ok (.isub, 1) := by decide +kernel
theorem dL_areSeats_245 : decode cL_areSeats 245 = .ok (.aload_n 0, 1) := by decide +kernel
theorem dL_areSeats_246 : decode cL_areSeats 246 = .ok (.iload 8, 2) := by decide +kernel
theorem dL_areSeats_248 : decode cL_areSeats 248 = .ok (.iconst 0, 1) := by decide +kernel
theorem dL_areSeats_249 : decode cL_areSeats 249 = .ok (.invokevirtual 85, 3) := by decide +kernel
theorem dL_areSeats_252 : decode cL_areSeats 252 = .ok (.aload_n 0, 1) := by decide +kernel
theorem dL_areSeats_253 : decode cL_areSeats 253 = .ok (.iload 11, 2) := by decide +kernel
theorem dL_areSeats_255 : decode cL_areSeats 255 = .ok (.iconst 0, 1) := by decide +kernel
theorem dL_areSeats_256 : decode cL_areSeats 256 = .ok (.invokevirtual 88, 3) := by decide +kernel
theorem dL_areSeats_259 : decode cL_areSeats 259 = .ok (.if_icmp .ne 7, 3) := by decide +kernel
theorem dL_areSeats_262 : decode cL_areSeats 262 = .ok (.iconst 4, 1) := by decide +kernel
theorem dL_areSeats_263 : decode cL_areSeats 263 = .ok (.goto 4, 3) := by decide +kernel
theorem dL_areSeats_266 : decode cL_areSeats 266 = .ok (.iconst 0, 1) := by decide +kernel
theorem dL_areSeats_267 : decode cL_areSeats 267 = .ok (.iadd, 1) := by decide +kernel
theorem dL_areSeats_268 : decode cL_areSeats 268 = .ok (.istore 12, 2) := by decide +kernel
theorem dL_areSeats_270 : decode cL_areSeats 270 = .ok (.aload_n 0, 1) := by decide +kernel
theorem dL_areSeats_271 : decode cL_areSeats 271 = .ok (.iload 8, 2) := by decide +kernel
theorem dL_areSeats_273 : decode cL_areSeats 273 = .ok (.iload 11, 2) := by decide +kernel
theorem dL_areSeats_275 : decode cL_areSeats 275 = .ok (.invokevirtual 91, 3) := by decide +kernel
theorem dL_areSeats_278 : decode cL_areSeats 278 = .ok (.iload 12, 2) := by decide +kernel
theorem dL_areSeats_280 : decode cL_areSeats 280 = .ok (.if_icmp .ne 7, 3) := by decide +kernel
theorem dL_areSeats_283 : decode cL_areSeats 283 = .ok (.iconst 1, 1) := by decide +kernel
theorem dL_areSeats_284 : decode cL_areSeats 284 = .ok (.goto 4, 3) := by decide +kernel
theorem dL_areSeats_287 : decode cL_areSeats 287 = .ok (.iconst 0, 1) := by decide +kernel
theorem dL_areSeats_288 : decode cL_areSeats 288 = .ok (.istore 7, 2) := by decide +kernel
theorem dL_areSeats_290 : decode cL_areSeats 290 = .ok (.iinc 11 1, 3) := by decide +kernel
theorem dL_areSeats_293 : decode cL_areSeats 293 = .ok (.goto (-80), 3) := by decide +kernel
theorem dL_areSeats_296 : decode cL_areSeats 296 = .ok (.iinc 8 1, 3) := by decide +kernel
theorem dL_areSeats_299 : decode cL_areSeats 299 = .ok (.goto (-270), 3) := by decide +kernel
theorem dL_areSeats_302 : decode cL_areSeats 302 = .ok (.iconst 0, 1) := by decide +kernel
theorem dL_areSeats_303 : decode cL_areSeats 303 = .ok (.istore 8, 2) := by decide +kernel
theorem dL_areSeats_305 : decode cL_areSeats 305 = .ok (.iload 7, 2) := by decide +kernel
theorem dL_areSeats_307 : decode cL_areSeats 307 = .ok (.ifCond .eq 115, 3) := by decide +kernel
theorem dL_areSeats_310 : decode cL_areSeats 310 = .ok (.iload 8, 2) := by decide +kernel
theorem dL_areSeats_312 : decode cL_areSeats 312 = .ok (.iload_n 2, 1) := by decide +kernel
theorem dL_areSeats_313 : decode cL_areSeats 313 = .ok (.if_icmp .ge 109, 3) := by decide +kernel
theorem dL_areSeats_316 : decode cL_areSeats 316 = .ok (.aload_n 0, 1) := by decide +kernel
theorem dL_areSeats_317 : decode cL_areSeats 317 = .ok (.iload 8, 2) := by decide +kernel
theorem dL_areSeats_319 : decode cL_areSeats 319 = .ok (.iconst 5, 1) := by decide +kernel
theorem dL_areSeats_320 : decode cL_areSeats 320 = .ok (.invokevirtual 88, 3) := by decide +kernel
theorem dL_areSeats_323 : decode cL_areSeats 323 = .ok (.istore 9, 2) := by decide +kernel
theorem dL_areSeats_325 : decode cL_areSeats 325 = .ok (.iload_n 3, 1) := by decide +kernel
theorem dL_areSeats_326 : decode cL_areSeats 326 = .ok (.iload 9, 2) := by decide +kernel
theorem dL_areSeats_328 : decode cL_areSeats 328 = .ok (.sipush (-1015), 3) := by decide +kernel
theorem dL_areSeats_331 : decode cL_areSeats 331 = .ok (.if_icmp .ne 7, 3) := by decide +kernel
theorem dL_areSeats_334 : decode cL_areSeats 334 = .ok (.iconst 0, 1) := by decide +kernel
theorem dL_areSeats_335 : decode cL_areSeats 335 = .ok (.goto 4, 3) := by decide +kernel
theorem dL_areSeats_338 : decode cL_areSeats 338 = .ok (.iconst 1, 1) := by decide +kernel
theorem dL_areSeats_339 : decode cL_areSeats 339 = .ok (.iadd, 1) := by decide +kernel
theorem dL_areSeats_340 : decode cL_areSeats 340 = .ok (.istore_n 3, 1) := by decide +kernel
theorem dL_areSeats_341 : decode cL_areSeats 341 = .ok (.iload 6, 2) := by decide +kernel
theorem dL_areSeats_343 : decode cL_areSeats 343 = .ok (.aload_n 0, 1) := by decide +kernel
theorem dL_areSeats_344 : decode cL_areSeats 344 = .ok (.iload 8, 2) := by decide +kernel
theorem dL_areSeats_346 : decode cL_areSeats 346 = .ok (.iconst 3, 1) := by decide +kernel
theorem dL_areSeats_347 : decode cL_areSeats 347 = .ok (.invokevirtual 88, 3) := by decide +kernel
theorem dL_areSeats_350 : decode cL_areSeats 350 = .ok (.iadd, 1) := by decide +kernel
theorem dL_areSeats_351 : decode cL_areSeats 351 = .ok (.istore 6, 2) := by decide +kernel
theorem dL_areSeats_353 : decode cL_areSeats 353 = .ok (.iload 9, 2) := by decide +kernel
theorem dL_areSeats_355 : decode cL_areSeats 355 = .ok (.sipush (-1015), 3) := by decide +kernel
theorem dL_areSeats_358 : decode cL_areSeats 358 = .ok (.if_icmp .ne 21, 3) := by decide +kernel
theorem dL_areSeats_361 : decode cL_areSeats 361 = .ok (.aload_n 0, 1) := by decide +kernel
theorem dL_areSeats_362 : decode cL_areSeats 362 = .ok (.iload 8, 2) := by decide +kernel
theorem dL_areSeats_364 : decode cL_areSeats 364 = .ok (.iconst 4, 1) := by decide +kernel
theorem dL_areSeats_365 : decode cL_areSeats 365 = .ok (.invokevirtual 88, 3) := by decide +kernel
theorem dL_areSeats_368 : decode cL_areSeats 368 = .ok (.ifCond .ne 7, 3) := by decide +kernel
theorem dL_areSeats_371 : decode cL_areSeats 371 = .ok (.iconst 1, 1) := by decide +kernel
theorem dL_areSeats_372 : decode cL_areSeats 372 = .ok (.goto 42, 3) := by decide +kernel
theorem dL_areSeats_375 : decode cL_areSeats 375 = .ok (.iconst 0, 1) := by decide +kernel
theorem dL_areSeats_376 : decode cL_areSeats 376 = .ok (.goto 38, 3) := by decide +kernel
theorem dL_areSeats_379 : decode cL_areSeats 379 = .ok (.aload_n 0, 1) := by decide +kernel
theorem dL_areSeats_380 : decode cL_areSeats 380 = .ok (.iload 9, 2) := by decide +kernel
theorem dL_areSeats_382 : decode cL_areSeats 382 = .ok (.bipush 7, 2) := by decide +kernel
theorem dL_areSeats_384 : decode cL_areSeats 384 = .ok (.invokevirtual 85, 3) := by decide +kernel
theorem dL_areSeats_387 : decode cL_areSeats 387 = .ok (.iload 8, 2) := by decide +kernel
theorem dL_areSeats_389 : decode cL_areSeats 389 = .ok (.if_icmp .ne 24, 3) := by decide +kernel
theorem dL_areSeats_392 : decode cL_areSeats 392 = .ok (.aload_n 0, 1) := by decide +kernel
theorem dL_areSeats_393 : decode cL_areSeats 393 = .ok (.iload 8, 2) := by decide +kernel
theorem dL_areSeats_395 : decode cL_areSeats 395 = .ok (.iconst 4, 1) := by decide +kernel
theorem dL_areSeats_396 : decode cL_areSeats 396 = .ok (.invokevirtual 88, 3) := by decide +kernel
theorem dL_areSeats_399 : decode cL_areSeats 399 = .ok (.aload_n 0, 1) := by decide +kernel
theorem dL_areSeats_400 : decode cL_areSeats 400 = .ok (.iload 8, 2) := by decide +kernel
theorem dL_areSeats_402 : decode cL_areSeats 402 = .ok (.iconst 3, 1) := by decide +kernel
theorem dL_areSeats_403 : decode cL_areSeats 403 = .ok (.invokevirtual 88, 3) := by decide +kernel
theorem dL_areSeats_406 : decode cL_areSeats 406 = .ok (.if_icmp .gt 7, 3) := by decide +kernel
theorem dL_areSeats_409 : decode cL_areSeats 409 = .ok (.iconst 1, 1) := by decide +kernel
theorem dL_areSeats_410 : decode cL_areSeats 410 = .ok (.goto 4, 3) := by decide +kernel
theorem dL_areSeats_413 : decode cL_areSeats 413 = .ok (.iconst 0, 1) := by decide +kernel
theorem dL_areSeats_414 : decode cL_areSeats 414 = .ok (.istore 7, 2) := by decide +kernel
theorem dL_areSeats_416 : decode cL_areSeats 416 = .ok (.iinc 8 1, 3) := by decide +kernel
theorem dL_areSeats_419 : decode cL_areSeats 419 = .ok (.goto (-114), 3) := by decide +kernel
theorem dL_areSeats_422 : decode cL_areSeats 422 = .ok (.iload 7, 2) := by decide +kernel
theorem dL_areSeats_424 : decode cL_areSeats 424 = .ok (.ifCond .eq 83, 3) := by decide +kernel
theorem dL_areSeats_427 : decode cL_areSeats 427 = .ok (.iload_n 3, 1) := by decide +kernel
theorem dL_areSeats_428 : decode cL_areSeats 428 = .ok (.aload_n 0, 1) := by decide +kernel
theorem dL_areSeats_429 : decode cL_areSeats 429 = .ok (.iconst 2, 1) := by decide +kernel
theorem dL_areSeats_430 : decode cL_areSeats 430 = .ok (.invokevirtual 82, 3) := by decide +kernel
theorem dL_areSeats_433 : decode cL_areSeats 433 = .ok (.if_icmp .ne 74, 3) := by decide +kernel
theorem dL_areSeats_436 : decode cL_areSeats 436 = .ok (.iload 4, 2) := by decide +kernel
theorem dL_areSeats_438 : decode cL_areSeats 438 = .ok (.aload_n 0, 1) := by decide +kernel
theorem dL_areSeats_439 : decode cL_areSeats 439 = .ok (.iconst 3, 1) := by decide +kernel
theorem dL_areSeats_440 : decode cL_areSeats 440 = .ok (.invokevirtual 82, 3) := by decide +kernel
theorem dL_areSeats_443 : decode cL_areSeats 443 = .ok (.if_icmp .ne 64, 3) := by decide +kernel
theorem dL_areSeats_446 : decode cL_areSeats 446 = .ok (.iload 6, 2) := by decide +kernel
theorem dL_areSeats_448 : decode cL_areSeats 448 = .ok (.aload_n 0, 1) := by decide +kernel
theorem dL_areSeats_449 : decode cL_areSeats 449 = .ok (.iconst 4, 1) := by decide +kernel
theorem dL_areSeats_450 : decode cL_areSeats 450 = .ok (.invokevirtual 82, 3) := by decide +kernel
theorem dL_areSeats_453 : decode cL_areSeats 453 = .ok (.if_icmp .ne 54, 3) := by decide +kernel
theorem dL_areSeats_456 : decode cL_areSeats 456 = .ok (.bipush 10, 2) := by decide +kernel
theorem dL_areSeats_458 : decode cL_areSeats 458 = .ok (.bipush 8, 2) := by decide +kernel
theorem dL_areSeats_460 : decode cL_areSeats 460 = .ok (.iload_n 2, 1) := by decide +kernel
theorem dL_areSeats_461 : decode cL_areSeats 461 = .ok (.imul, 1) := by decide +kernel
theorem dL_areSeats_462 : decode cL_areSeats 462 = .ok (.iadd, 1) := by decide +kernel
theorem dL_areSeats_463 : decode cL_areSeats 463 = .ok (.aload_n 0, 1) := by decide +kernel
theorem dL_areSeats_464 : decode cL_areSeats 464 = .ok (.bipush 6, 2) := by decide +kernel
theorem dL_areSeats_466 : decode cL_areSeats 466 = .ok (.invokevirtual 82, 3) := by decide +kernel
theorem dL_areSeats_469 : decode cL_areSeats 469 = .ok (.iadd, 1) := by decide +kernel
theorem dL_areSeats_470 : decode cL_areSeats 470 = .ok (.aload_n 0, 1) := by decide +kernel
theorem dL_areSeats_471 : decode cL_areSeats 471 = .ok (.iconst 5, 1) := by decide +kernel
theorem dL_areSeats_472 : decode cL_areSeats 472 = .ok (.invokevirtual 82, 3) := by decide +kernel
theorem dL_areSeats_475 : decode cL_areSeats 475 = .ok (.iload 6, 2) := by decide +kernel
theorem dL_areSeats_477 : decode cL_areSeats 477 = .ok (.iadd, 1) := by decide +kernel
theorem dL_areSeats_478 : decode cL_areSeats 478 = .ok (.aload_n 0, 1) := by decide +kernel
theorem dL_areSeats_479 : decode cL_areSeats 479 = .ok (.bipush 7, 2) := by decide +kernel
theorem dL_areSeats_481 : decode cL_areSeats 481 = .ok (.invokevirtual 82, 3) := by decide +kernel
theorem dL_areSeats_484 : decode cL_areSeats 484 = .ok (.iadd, 1) := by decide +kernel
theorem dL_areSeats_485 : decode cL_areSeats 485 = .ok (.aload_n 0, 1) := by decide +kernel
theorem dL_areSeats_486 : decode cL_areSeats 486 = .ok (.bipush 8, 2) := by decide +kernel
theorem dL_areSeats_488 : decode cL_areSeats 488 = .ok (.invokevirtual 82, 3) := by decide +kernel
theorem dL_areSeats_491 : decode cL_areSeats 491 = .ok (.iadd, 1) := by decide +kernel
theorem dL_areSeats_492 : decode cL_areSeats 492 = .ok (.if_icmp .ne 15, 3) := by decide +kernel
theorem dL_areSeats_495 : decode cL_areSeats 495 = .ok (.aload_n 0, 1) := by decide +kernel
theorem dL_areSeats_496 : decode cL_areSeats 496 = .ok (.invokevirtual 105, 3) := by decide +kernel
theorem dL_areSeats_499 : decode cL_areSeats 499 = .ok (.iconst 1, 1) := by decide +kernel
theorem dL_areSeats_500 : decode cL_areSeats 500 = .ok (.if_icmp .ne 7, 3) := by decide +kernel
theorem dL_areSeats_503 : decode cL_areSeats 503 = .ok (.iconst 1, 1) := by decide +kernel
theorem dL_areSeats_504 : decode cL_areSeats 504 = .ok (.goto 4, 3) := by decide +kernel
theorem dL_areSeats_507 : decode cL_areSeats 507 = .ok (.iconst 0, 1) := by decide +kernel
theorem dL_areSeats_508 : decode cL_areSeats 508 = .ok (.istore 7, 2) := by decide +kernel
theorem dL_areSeats_510 : decode cL_areSeats 510 = .ok (.iload 7, 2) := by decide +kernel
theorem dL_areSeats_512 : decode cL_areSeats 512 = .ok (.ifCond .eq 51, 3) := by decide +kernel
theorem dL_areSeats_515 : decode cL_areSeats 515 = .ok (.aload_n 0, 1) := by decide +kernel
theorem dL_areSeats_516 : decode cL_areSeats 516 = .ok (.invokevirtual 108, 3) := by decide +kernel
theorem dL_areSeats_519 : decode cL_areSeats 519 = .ok (.iload_n 3, 1) := by decide +kernel
theorem dL_areSeats_520 : decode cL_areSeats 520 = .ok (.ifCond .ne 7, 3) := by decide +kernel
theorem dL_areSeats_523 : decode cL_areSeats 523 = .ok (.dconst 0, 1) := by decide +kernel
theorem dL_areSeats_524 : decode cL_areSeats 524 = .ok (.goto 9, 3) := by decide +kernel
theorem dL_areSeats_527 : decode cL_areSeats 527 = .ok (.iload 5, 2) := by decide +kernel
theorem dL_areSeats_529 : decode cL_areSeats 529 = .ok (.i2d, 1) := by decide +kernel
theorem dL_areSeats_530 : decode cL_areSeats 530 = .ok (.iload_n 3, 1) := by decide +kernel
theorem dL_areSeats_531 : decode cL_areSeats 531 = .ok (.i2d, 1) := by decide +kernel
theorem dL_areSeats_532 : decode cL_areSeats 532 = .ok (.ddiv, 1) := by decide +kernel
theorem dL_areSeats_533 : decode cL_areSeats 533 = .ok (.dcmp .l, 1) := by decide +kernel
theorem dL_areSeats_534 : decode cL_areSeats 534 = .ok (.ifCond .ne 29, 3) := by decide +kernel
theorem dL_areSeats_537 : decode cL_areSeats 537 = .ok (.aload_n 0, 1) := by decide +kernel
theorem dL_areSeats_538 : decode cL_areSeats 538 = .ok (.invokevirtual 112, 3) := by decide +kernel
theorem dL_areSeats_541 : decode cL_areSeats 541 = .ok (.iload_n 1, 1) := by decide +kernel
theorem dL_areSeats_542 : decode cL_areSeats 542 = .ok (.ifCond .ne 7, 3) := by decide +kernel
theorem dL_areSeats_545 : decode cL_areSeats 545 = .ok (.fconst 0, 1) := by decide +kernel
theorem dL_areSeats_546 : decode cL_areSeats 546 = .ok (.goto 9, 3) := by decide +kernel
theorem dL_areSeats_549 : decode cL_areSeats 549 = .ok (.iload 4, 2) := by decide +kernel
theorem dL_areSeats_551 : decode cL_areSeats 551 = .ok (.i2f, 1) := by decide +kernel
theorem dL_areSeats_552 : decode cL_areSeats 552 = .ok (.iload_n 1, 1) := by decide +kernel
theorem dL_areSeats_553 : decode cL_areSeats 553 = .ok (.i2f, 1) := by decide +kernel
theorem dL_areSeats_554 : decode cL_areSeats 554 = .ok (.fdiv, 1) := by decide +kernel
theorem dL_areSeats_555 : decode cL_areSeats 555 = .ok (.fcmp .l, 1) := by decide +kernel
theorem dL_areSeats_556 : decode cL_areSeats 556 = .ok (.ifCond .ne 7, 3) := by decide +kernel
theorem dL_areSeats_559 : decode cL_areSeats 559 = .ok (.iconst 1, 1) := by decide +kernel
theorem dL_areSeats_560 : decode cL_areSeats 560 = .ok (.goto 4, 3) := by decide +kernel
theorem dL_areSeats_563 : decode cL_areSeats 563 = .ok (.iconst 0, 1) := by decide +kernel
theorem dL_areSeats_564 : decode cL_areSeats 564 = .ok (.ireturn, 1) := by decide +kernel
theorem dL_isSeason_0 : decode cL_isSeason 0 = .ok (.aload_n 0, 1) := by decide +kernel
theorem dL_isSeason_1 : decode cL_isSeason 1 = .ok (.invokestatic 116, 3) := by decide +kernel
theorem dL_isSeason_4 : decode cL_isSeason 4 = .ok (.lstore_n 1, 1) := by decide +kernel
theorem dL_isSeason_5 : decode cL_isSeason 5 = .ok (.aload_n 0, 1) := by decide +kernel
theorem dL_isSeason_6 : decode cL_isSeason 6 = .ok (.iconst 0, 1) := by decide +kernel
theorem dL_isSeason_7 : decode cL_isSeason 7 = .ok (.invokevirtual 82, 3) := by decide +kernel
theorem dL_isSeason_10 : decode cL_isSeason 10 = .ok (.istore_n 3, 1) := by decide +kernel
theorem dL_isSeason_11 : decode cL_isSeason 11 = .ok (.iload_n 3, 1) := by decide +kernel
theorem dL_isSeason_12 : decode cL_isSeason 12 = .ok (.newarray .int, 2) := by decide +kernel
theorem dL_isSeason_14 : decode cL_isSeason 14 = .ok (.astore 4, 2) := by decide +kernel
theorem dL_isSeason_16 : decode cL_isSeason 16 = .ok (.iconst 0, 1) := by decide +kernel
theorem dL_isSeason_17 : decode cL_isSeason 17 = .ok (.istore 5, 2) := by decide +kernel
theorem dL_isSeason_19 : decode cL_isSeason 19 = .ok (.iconst 1, 1) := by decide +kernel
theorem dL_isSeason_20 : decode cL_isSeason 20 = .ok (.istore 6, 2) := by decide +kernel
theorem dL_isSeason_22 : decode cL_isSeason 22 = .ok (.iconst 0, 1) := by decide +kernel
theorem dL_isSeason_23 : decode cL_isSeason 23 = .ok (.istore 7, 2) := by decide +kernel
theorem dL_isSeason_25 : decode cL_isSeason 25 = .ok (.iload 7, 2) := by decide +kernel
theorem dL_isSeason_27 : decode cL_isSeason 27 = .ok (.iload_n 3, 1) := by decide +kernel
theorem dL_isSeason_28 : decode cL_isSeason 28 = .ok (.if_icmp .ge 65, 3) := by decide +kernel
theorem dL_isSeason_31 : decode cL_isSeason 31 = .ok (.aload 4, 2) := by decide +kernel
theorem dL_isSeason_33 : decode cL_isSeason 33 = .ok (.iload 7, 2) := by decide +kernel
theorem dL_isSeason_35 : decode cL_isSeason 35 = .ok (.aload_n 0, 1) := by decide +kernel
theorem dL_isSeason_36 : decode cL_isSeason 36 = .ok (.iload 7, 2) := by decide +kernel
theorem dL_isSeason_38 : decode cL_isSeason 38 = .ok (.invokevirtual 120, 3) := by decide +kernel
theorem dL_isSeason_41 : decode cL_isSeason 41 = .ok (.iastore, 1) := by decide +kernel
theorem dL_isSeason_42 : decode cL_isSeason 42 = .ok (.iload 6, 2) := by decide +kernel
theorem dL_isSeason_44 : decode cL_isSeason 44 = .ok (.aload_n 0, 1) := by decide +kernel
theorem dL_isSeason_45 : decode cL_isSeason 45 = .ok (.iload 7, 2) := by decide +kernel
theorem dL_isSeason_47 : decode cL_isSeason 47 = .ok (.invokevirtual 123, 3) := by decide +kernel
theorem dL_isSeason_50 : decode cL_isSeason 50 = .ok (.aload 4, 2) := by decide +kernel
theorem dL_isSeason_52 : decode cL_isSeason 52 = .ok (.iload 7, 2) := by decide +kernel
theorem dL_isSeason_54 : decode cL_isSeason 54 = .ok (.iaload, 1) := by decide +kernel
theorem dL_isSeason_55 : decode cL_isSeason 55 = .ok (.if_icmp .ne 7, 3) := by decide +kernel
theorem dL_isSeason_58 : decode cL_isSeason 58 = .ok (.iconst 1, 1) := by decide +kernel
theorem dL_isSeason_59 : decode cL_isSeason 59 = .ok (.goto 4, 3) := by decide +kernel
theorem dL_isSeason_62 : decode cL_isSeason 62 = .ok (.iconst 0, 1) := by decide +kernel
theorem dL_isSeason_63 : decode cL_isSeason 63 = .ok (.iand, 1) := by decide +kernel
theorem dL_isSeason_64 : decode cL_isSeason 64 = .ok (.istore 6, 2) := by decide +kernel
theorem dL_isSeason_66 : decode cL_isSeason 66 = .ok (.iload 5, 2) := by decide +kernel
theorem dL_isSeason_68 : decode cL_isSeason 68 = .ok (.aload 4, 2) := by decide +kernel
theorem dL_isSeason_70 : decode cL_isSeason 70 = .ok (.iload 7, 2) := by decide +kernel
theorem dL_isSeason_72 : decode cL_isSeason 72 = .ok (.iaload, 1) := by decide +kernel
theorem dL_isSeason_73 : decode cL_isSeason 73 = .ok (.sipush (-1015), 3) := by decide +kernel
theorem dL_isSeason_76 : decode cL_isSeason 76 = .ok (.if_icmp .ne 7, 3) := by decide +kernel
theorem dL_isSeason_79 : decode cL_isSeason 79 = .ok (.iconst 0, 1) := by decide +kernel
theorem dL_isSeason_80 : decode cL_isSeason 80 = .ok (.goto 4, 3) := by decide +kernel
theorem dL_isSeason_83 : decode cL_isSeason 83 = .ok (.iconst 1, 1) := by decide +kernel
theorem dL_isSeason_84 : decode cL_isSeason 84 = .ok (.iadd, 1) := by decide +kernel
theorem dL_isSeason_85 : decode cL_isSeason 85 = .ok (.istore 5, 2) := by decide +kernel
theorem dL_isSeason_87 : decode cL_isSeason 87 = .ok (.iinc 7 1, 3) := by decide +kernel
theorem dL_isSeason_90 : decode cL_isSeason 90 = .ok (.goto (-65), 3) := by decide +kernel
theorem dL_isSeason_93 : decode cL_isSeason 93 = .ok (.iload 6, 2) := by decide +kernel
theorem dL_isSeason_95 : decode cL_isSeason 95 = .ok (.ifCond .eq 42, 3) := by decide +kernel
theorem dL_isSeason_98 : decode cL_isSeason 98 = .ok (.aload_n 0, 1) := by decide +kernel
theorem dL_isSeason_99 : decode cL_isSeason 99 = .ok (.invokestatic 116, 3) := by decide +kernel
theorem dL_isSeason_102 : decode cL_isSeason 102 = .ok (.lload_n 1, 1) := by decide +kernel
theorem dL_isSeason_103 : decode cL_isSeason 103 = .ok (.lcmp, 1) := by decide +kernel
theorem dL_isSeason_104 : decode cL_isSeason 104 = .ok (.ifCond .ne 33, 3) := by decide +kernel
theorem dL_isSeason_107 : decode cL_isSeason 107 = .ok (.aload_n 0, 1) := by decide +kernel
theorem dL_isSeason_108 : decode cL_isSeason 108 = .ok (.invokevirtual 38, 3) := by decide +kernel
theorem dL_isSeason_111 : decode cL_isSeason 111 = .ok (.iload 5, 2) := by decide +kernel
theorem dL_isSeason_113 : decode cL_isSeason 113 = .ok (.if_icmp .ne 24, 3) := by decide +kernel
theorem dL_isSeason_116 : decode cL_isSeason 116 = .ok (.aload_n 0, 1) := by decide +kernel
theorem dL_isSeason_117 : decode cL_isSeason 117 = .ok (.invokevirtual 126, 3) := by decide +kernel
theorem dL_isSeason_120 : decode cL_isSeason 120 = .ok (.ifCond .ne 17, 3) := by decide +kernel
theorem dL_isSeason_123 : decode cL_isSeason 123 = .ok (.aload_n 0, 1) := by decide +kernel
theorem dL_isSeason_124 : decode cL_isSeason 124 = .ok (.iconst 2, 1) := by decide +kernel
theorem dL_isSeason_125 : decode cL_isSeason 125 = .ok (.invokevirtual 82, 3) := by decide +kernel
theorem dL_isSeason_128 : decode cL_isSeason 128 = .ok (.iload 5, 2) := by decide +kernel
theorem dL_isSeason_130 : decode cL_isSeason 130 = .ok (.if_icmp .ne 7, 3) := by decide +kernel
theorem dL_isSeason_133 : decode cL_isSeason 133 = .ok (.iconst 1, 1) := by decide +kernel
theorem dL_isSeason_134 : decode cL_isSeason 134 = .ok (.goto 4, 3) := by decide +kernel
theorem dL_isSeason_137 : decode cL_isSeason 137 = .ok (.iconst 0, 1) := by decide +kernel
theorem dL_isSeason_138 : decode cL_isSeason 138 = .ok (.istore 6, 2) := by decide +kernel
theorem dL_isSeason_140 : decode cL_isSeason 140 = .ok (.iconst 0, 1) := by decide +kernel
theorem dL_isSeason_141 : decode cL_isSeason 141 = .ok (.istore 7, 2) := by decide +kernel
theorem dL_isSeason_143 : decode cL_isSeason 143 = .ok (.iload 6, 2) := by decide +kernel
theorem dL_isSeason_145 : decode cL_isSeason 145 = .ok (.ifCond .eq 38, 3) := by decide +kernel
theorem dL_isSeason_148 : decode cL_isSeason 148 = .ok (.iload 7, 2) := by decide +kernel
theorem dL_isSeason_150 : decode cL_isSeason 150 = .ok (.iload_n 3, 1) := by decide +kernel
theorem dL_isSeason_151 : decode cL_isSeason 151 = .ok (.if_icmp .ge 32, 3) := by decide +kernel
theorem dL_isSeason_154 : decode cL_isSeason 154 = .ok (.aload_n 0, 1) := by decide +kernel
theorem dL_isSeason_155 : decode cL_isSeason 155 = .ok (.iload 7, 2) := by decide +kernel
theorem dL_isSeason_157 : decode cL_isSeason 157 = .ok (.bipush 7, 2) := by decide +kernel
theorem dL_isSeason_159 : decode cL_isSeason 159 = .ok (.invokevirtual 85, 3) := by decide +kernel
theorem dL_isSeason_162 : decode cL_isSeason 162 = .ok (.aload 4, 2) := by decide +kernel
theorem dL_isSeason_164 : decode cL_isSeason 164 = .ok (.iload 7, 2) := by decide +kernel
theorem dL_isSeason_166 : decode cL_isSeason 166 = .ok (.iaload, 1) := by decide +kernel
theorem dL_isSeason_167 : decode cL_isSeason 167 = .ok (.if_icmp .ne 7, 3) := by decide +kernel
theorem dL_isSeason_170 : decode cL_isSeason 170 = .ok (.iconst 1, 1) := by decide +kernel
theorem dL_isSeason_171 : decode cL_isSeason 171 = .ok (.goto 4, 3) := by decide +kernel
theorem dL_isSeason_174 : decode cL_isSeason 174 = .ok (.iconst 0, 1) := by decide +kernel
theorem dL_isSeason_175 : decode cL_isSeason 175 = .ok (.istore 6, 2) := by decide +kernel
theorem dL_isSeason_177 : decode cL_isSeason 177 = .ok (.iinc 7 1, 3) := by decide +kernel
theorem dL_isSeason_180 : decode cL_isSeason 180 = .ok (.goto (-37), 3) := by decide +kernel
theorem dL_isSeason_183 : decode cL_isSeason 183 = .ok (.iload 6, 2) := by decide +kernel
theorem dL_isSeason_185 : decode cL_isSeason 185 = .ok (.ifCond .eq 30, 3) := by decide +kernel
theorem dL_isSeason_188 : decode cL_isSeason 188 = .ok (.aload_n 0, 1) := by decide +kernel
theorem dL_isSeason_189 : decode cL_isSeason 189 = .ok (.invokestatic 129, 3) := by decide +kernel
theorem dL_isSeason_192 : decode cL_isSeason 192 = .ok (.ifCond .eq 23, 3) := by decide +kernel
theorem dL_isSeason_195 : decode cL_isSeason 195 = .ok (.aload_n 0, 1) := by decide +kernel
theorem dL_isSeason_196 : decode cL_isSeason 196 = .ok (.invokevirtual 75, 3) := by decide +kernel
theorem dL_isSeason_199 : decode cL_isSeason 199 = .ok (.ifCond .lt 16, 3) := by decide +kernel
theorem dL_isSeason_202 : decode cL_isSeason 202 = .ok (.aload_n 0, 1) := by decide +kernel
theorem dL_isSeason_203 : decode cL_isSeason 203 = .ok (.invokestatic 116, 3) := by decide +kernel
theorem dL_isSeason_206 : decode cL_isSeason 206 = .ok (.lload_n 1, 1) := by decide +kernel
theorem dL_isSeason_207 : decode cL_isSeason 207 = .ok (.lcmp, 1) := by decide +kernel
theorem dL_isSeason_208 : decode cL_isSeason 208 = .ok (.ifCond .ne 7, 3) := by decide +kernel
theorem dL_isSeason_211 : decode cL_isSeason 211 = .ok (.iconst 1, 1) := by decide +kernel
theorem dL_isSeason_212 : decode cL_isSeason 212 = .ok (.goto 4, 3) := by decide +kernel
theorem dL_isSeason_215 : decode cL_isSeason 215 = .ok (.iconst 0, 1) := by decide +kernel
theorem dL_isSeason_216 : decode cL_isSeason 216 = .ok (.ireturn, 1) := by decide +kernel
theorem dL_isConcert_0 : decode cL_isConcert 0 = .ok (.aload_n 0, 1) := by decide +kernel
theorem dL_isConcert_1 : decode cL_isConcert 1 = .ok (.invokestatic 116, 3) := by decide +kernel
theorem dL_isConcert_4 : decode cL_isConcert 4 = .ok (.lstore_n 2, 1) := by decide +kernel
theorem dL_isConcert_5 : decode cL_isConcert 5 = .ok (.aload_n 0, 1) := by decide +kernel
theorem dL_isConcert_6 : decode cL_isConcert 6 = .ok (.iload_n 1, 1) := by decide +kernel
theorem dL_isConcert_7 : decode cL_isConcert 7 = .ok (.invokevirtual 133, 3) := by decide +kernel
theorem dL_isConcert_10 : decode cL_isConcert 10 = .ok (.istore 4, 2) := by decide +kernel
theorem dL_isConcert_12 : decode cL_isConcert 12 = .ok (.aload_n 0, 1) := by decide +kernel
theorem dL_isConcert_13 : decode cL_isConcert 13 = .ok (.iconst 2, 1) := by decide +kernel
theorem dL_isConcert_14 : decode cL_isConcert 14 = .ok (.invokevirtual 82, 3) := by decide +kernel
theorem dL_isConcert_17 : decode cL_isConcert 17 = .ok (.istore 5, 2) := by decide +kernel
theorem dL_isConcert_19 : decode cL_isConcert 19 = .ok (.aload_n 0, 1) := by decide +kernel
theorem dL_isConcert_20 : decode cL_isConcert 20 = .ok (.iconst 3, 1) := by decide +kernel
theorem dL_isConcert_21 : decode cL_isConcert 21 = .ok (.invokevirtual 82, 3) := by decide +kernel
theorem dL_isConcert_24 : decode cL_isConcert 24 = .ok (.istore 6, 2) := by decide +kernel
theorem dL_isConcert_26 : decode cL_isConcert 26 = .ok (.aload_n 0, 1) := by decide +kernel
theorem dL_isConcert_27 : decode cL_isConcert 27 = .ok (.bipush 6, 2) := by decide +kernel
theorem dL_isConcert_29 : decode cL_isConcert 29 = .ok (.invokevirtual 82, 3) := by decide +kernel
theorem dL_isConcert_32 : decode cL_isConcert 32 = .ok (.istore 7, 2) := by decide +kernel
theorem dL_isConcert_34 : decode cL_isConcert 34 = .ok (.iconst 0, 1) := by decide +kernel
theorem dL_isConcert_35 : decode cL_isConcert 35 = .ok (.istore 8, 2) := by decide +kernel
theorem dL_isConcert_37 : decode cL_isConcert 37 = .ok (.iconst 0, 1) := by decide +kernel
theorem dL_isConcert_38 : decode cL_isConcert 38 = .ok (.istore 9, 2) := by decide +kernel
theorem dL_isConcert_40 : decode cL_isConcert 40 = .ok (.iconst 0, 1) := by decide +kernel
theorem dL_isConcert_41 : decode cL_isConcert 41 = .ok (.istore 10, 2) := by decide +kernel
theorem dL_isConcert_43 : decode cL_isConcert 43 = .ok (.iload 10, 2) := by decide +kernel
theorem dL_isConcert_45 : decode cL_isConcert 45 = .ok (.aload_n 0, 1) := by decide +kernel
theorem dL_isConcert_46 : decode cL_isConcert 46 = .ok (.iconst 0, 1) := by decide +kernel
theorem dL_isConcert_47 : decode cL_isConcert 47 = .ok (.invokevirtual 82, 3) := by decide +kernel
theorem dL_isConcert_50 : decode cL_isConcert 50 = .ok (.if_icmp .ge 57, 3) := by decide +kernel
theorem dL_isConcert_53 : decode cL_isConcert 53 = .ok (.aload_n 0, 1) := by decide +kernel
theorem dL_isConcert_54 : decode cL_isConcert 54 = .ok (.iload 10, 2) := by decide +kernel
theorem dL_isConcert_56 : decode cL_isConcert 56 = .ok (.bipush 7, 2) := by decide +kernel
theorem dL_isConcert_58 : decode cL_isConcert 58 = .ok (.invokevirtual 85, 3) := by decide +kernel
theorem dL_isConcert_61 : decode cL_isConcert 61 = .ok (.istore 11, 2) := by decide +kernel
theorem dL_isConcert_63 : decode cL_isConcert 63 = .ok (.iload 11, 2) := by decide +kernel
theorem dL_isConcert_65 : decode cL_isConcert 65 = .ok (.sipush (-1015), 3) := by decide +kernel
theorem dL_isConcert_68 : decode cL_isConcert 68 = .ok (.if_icmp .ne 7, 3) := by decide +kernel
theorem dL_isConcert_71 : decode cL_isConcert 71 = .ok (.iconst 0, 1) := by decide +kernel
theorem dL_isConcert_72 : decode cL_isConcert 72 = .ok (.goto 11, 3) := by decide +kernel
theorem dL_isConcert_75 : decode cL_isConcert 75 = .ok (.aload_n 0, 1) := by decide +kernel
theorem dL_isConcert_76 : decode cL_isConcert 76 = .ok (.iload 10, 2) := by decide +kernel
theorem dL_isConcert_78 : decode cL_isConcert 78 = .ok (.iload 11, 2) := by decide +kernel
theorem dL_isConcert_80 : decode cL_isConcert 80 = .ok (.invokevirtual 91, 3) := by decide +kernel
theorem dL_isConcert_83 : decode cL_isConcert 83 = .ok (.istore 12, 2) := by decide +kernel
theorem dL_isConcert_85 : decode cL_isConcert 85 = .ok (.iload 9, 2) := by decide +kernel
theorem dL_isConcert_87 : decode cL_isConcert 87 = .ok (.iload 12, 2) := by decide +kernel
theorem dL_isConcert_89 : decode cL_isConcert 89 = .ok (.iadd, 1) := by decide +kernel
theorem dL_isConcert_90 : decode cL_isConcert 90 = .ok (.istore 9, 2) := by decide +kernel
theorem dL_isConcert_92 : decode cL_isConcert 92 = .ok (.iload 8, 2) := by decide +kernel
theorem dL_isConcert_94 : decode cL_isConcert 94 = .ok (.iload 12, 2) := by decide +kernel
theorem dL_isConcert_96 : decode cL_isConcert 96 = .ok (.iconst 3, 1) := by decide +kernel
theorem dL_isConcert_97 : decode cL_isConcert 97 = .ok (.idiv, 1) := by decide +kernel
theorem dL_isConcert_98 : decode cL_isConcert 98 = .ok (.iadd, 1) := by decide +kernel
theorem dL_isConcert_99 : decode cL_isConcert 99 = .ok (.istore 8, 2) := by decide +kernel
theorem dL_isConcert_101 : decode cL_isConcert 101 = .ok (.iinc 10 1, 3) := by decide +kernel
theorem dL_isConcert_104 : decode cL_isConcert 104 = .ok (.goto (-61), 3) := by decide +kernel
theorem dL_isConcert_107 : decode cL_isConcert 107 = .ok (.aload_n 0, 1) := by decide +kernel
theorem dL_isConcert_108 : decode cL_isConcert 108 = .ok (.iload_n 1, 1) := by decide +kernel
theorem dL_isConcert_109 : decode cL_isConcert 109 = .ok (.invokevirtual 47, 3) := by decide +kernel
theorem dL_isConcert_112 : decode cL_isConcert 112 = .ok (.istore 10, 2) := by decide +kernel
theorem dL_isConcert_114 : decode cL_isConcert 114 = .ok (.iload 10, 2) := by decide +kernel
theorem dL_isConcert_116 : decode cL_isConcert 116 = .ok (.sipush (-1014), 3) := by decide +kernel
theorem dL_isConcert_119 : decode cL_isConcert 119 = .ok (.if_icmp .ne 48, 3) := by decide +kernel
theorem dL_isConcert_122 : decode cL_isConcert 122 = .ok (.iload 5, 2) := by decide +kernel
theorem dL_isConcert_124 : decode cL_isConcert 124 = .ok (.ifCond .ne 41, 3) := by decide +kernel
theorem dL_isConcert_127 : decode cL_isConcert 127 = .ok (.aload_n 0, 1) := by decide +kernel
theorem dL_isConcert_128 : decode cL_isConcert 128 = .ok (.iconst 0, 1) := by decide +kernel
theorem dL_isConcert_129 : decode cL_isConcert 129 = .ok (.iconst 0, 1) := by decide +kernel
theorem dL_isConcert_130 : decode cL_isConcert 130 = .ok (.invokevirtual 136, 3) := by decide +kernel
theorem dL_isConcert_133 : decode cL_isConcert 133 = .ok (.bipush 11, 2) := by decide +kernel
theorem dL_isConcert_135 : decode cL_isConcert 135 = .ok (.if_icmp .ne 30, 3) := by decide +kernel
theorem dL_isConcert_138 : decode cL_isConcert 138 = .ok (.aload_n 0, 1) := by decide +kernel
theorem dL_isConcert_139 : decode cL_isConcert 139 = .ok (.iconst 0, 1) := by decide +kernel
theorem dL_isConcert_140 : decode cL_isConcert 140 = .ok (.iconst 1, 1) := by decide +kernel
theorem dL_isConcert_141 : decode cL_isConcert 141 = .ok (.invokevirtual 136, 3) := by decide +kernel
theorem dL_isConcert_144 : decode cL_isConcert 144 = .ok (.aload_n 0, 1) := by decide +kernel
theorem dL_isConcert_145 : decode cL_isConcert 145 = .ok (.iconst 1, 1) := by decide +kernel
theorem dL_isConcert_146 : decode cL_isConcert 146 = .ok (.invokevirtual 82, 3) := by decide +kernel
theorem dL_isConcert_149 : decode cL_isConcert 149 = .ok (.if_icmp .ne 16, 3) := by decide +kernel
theorem dL_isConcert_152 : decode cL_isConcert 152 = .ok (.aload_n 0, 1) := by decide +kernel
theorem dL_isConcert_153 : decode cL_isConcert 153 = .ok (.invokestatic 116, 3) := by decide +kernel
theorem dL_isConcert_156 : decode cL_isConcert 156 = .ok (.lload_n 2, 1) := by decide +kernel
theorem dL_isConcert_157 : decode cL_isConcert 157 = .ok (.lcmp, 1) := by decide +kernel
theorem dL_isConcert_158 : decode cL_isConcert 158 = .ok (.ifCond .ne 7, 3) := by decide +kernel
theorem dL_isConcert_161 : decode cL_isConcert 161 = .ok (.iconst 1, 1) := by decide +kernel
theorem dL_isConcert_162 : decode cL_isConcert 162 = .ok (.goto 4, 3) := by decide +kernel
theorem dL_isConcert_165 : decode cL_isConcert 165 = .ok (.iconst 0, 1) := by decide +kernel
theorem dL_isConcert_166 : decode cL_isConcert 166 = .ok (.ireturn, 1) := by decide +kernel
theorem dL_isConcert_167 : decode cL_isConcert 167 = .ok (.iload 10, 2) := by decide +kernel
theorem dL_isConcert_169 : decode cL_isConcert 169 = .ok (.iload 9, 2) := by decide +kernel
theorem dL_isConcert_171 : decode cL_isConcert 171 = .ok (.if_icmp .ne 75, 3) := by decide +kernel
theorem dL_isConcert_174 : decode cL_isConcert 174 = .ok (.aload_n 0, 1) := by decide +kernel
theorem dL_isConcert_175 : decode cL_isConcert 175 = .ok (.bipush 6, 2) := by decide +kernel
theorem dL_isConcert_177 : decode cL_isConcert 177 = .ok (.invokevirtual 82, 3) := by decide +kernel
theorem dL_isConcert_180 : decode cL_isConcert 180 = .ok (.iload 7, 2) := by decide +kernel
theorem dL_isConcert_182 : decode cL_isConcert 182 = .ok (.iload 8, 2) := by decide +kernel
theorem dL_isConcert_184 : decode cL_isConcert 184 = .ok (.iadd, 1) := by decide +kernel
theorem dL_isConcert_185 : decode cL_isConcert 185 = .ok (.if_icmp .ne 61, 3) := by decide +kernel
theorem dL_isConcert_188 : decode cL_isConcert 188 = .ok (.aload_n 0, 1) := by decide +kernel
theorem dL_isConcert_189 : decode cL_isConcert 189 = .ok (.iconst 3, 1) := by decide +kernel
theorem dL_isConcert_190 : decode cL_isConcert 190 = .ok (.invokevirtual 82, 3) := by decide +kernel
theorem dL_isConcert_193 : decode cL_isConcert 193 = .ok (.iload 6, 2) := by decide +kernel
theorem dL_isConcert_195 : decode cL_isConcert 195 = .ok (.if_icmp .le 7, 3) := by decide +kernel
theorem dL_isConcert_198 : decode cL_isConcert 198 = .ok (.iconst 1, 1) := by decide +kernel
theorem dL_isConcert_199 : decode cL_isConcert 199 = .ok (.goto 4, 3) := by decide +kernel
theorem dL_isConcert_202 : decode cL_isConcert 202 = .ok (.iconst 0, 1) := by decide +kernel
theorem dL_isConcert_203 : decode cL_isConcert 203 = .ok (.iload 4, 2) := by decide +kernel
theorem dL_isConcert_205 : decode cL_isConcert 205 = .ok (.ifCond .ne 7, 3) := by decide +kernel
theorem dL_isConcert_208 : decode cL_isConcert 208 = .ok (.iconst 1, 1) := by decide +kernel
theorem dL_isConcert_209 : decode cL_isConcert 209 = .ok (.goto 4, 3) := by decide +kernel
theorem dL_isConcert_212 : decode cL_isConcert 212 = .ok (.iconst 0, 1) := by decide +kernel
theorem dL_isConcert_213 : decode cL_isConcert 213 = .ok (.if_icmp .ne 33, 3) := by decide +kernel
theorem dL_isConcert_216 : decode cL_isConcert 216 = .ok (.aload_n 0, 1) := by decide +kernel
theorem dL_isConcert_217 : decode cL_isConcert 217 = .ok (.iconst 2, 1) := by decide +kernel
theorem dL_isConcert_218 : decode cL_isConcert 218 = .ok (.invokevirtual 82, 3) := by decide +kernel
theorem dL_isConcert_221 : decode cL_isConcert 221 = .ok (.iload 5, 2) := by decide +kernel
theorem dL_isConcert_223 : decode cL_isConcert 223 = .ok (.aload_n 0, 1) := by decide +kernel
theorem dL_isConcert_224 : decode cL_isConcert 224 = .ok (.iconst 3, 1) := by decide +kernel
theorem dL_isConcert_225 : decode cL_isConcert 225 = .ok (.invokevirtual 82, 3) := by decide +kernel
theorem dL_isConcert_228 : decode cL_isConcert 228 = .ok (.isub, 1) := by decide +kernel
theorem dL_isConcert_229 : decode cL_isConcert 229 = .ok (.iload 6, 2) := by decide +kernel
theorem dL_isConcert_231 : decode cL_isConcert 231 = .ok (.iadd, 1) := by decide +kernel
theorem dL_isConcert_232 : decode cL_isConcert 232 = .ok (.if_icmp .ne 14, 3) := by decide +kernel
theorem dL_isConcert_235 : decode cL_isConcert 235 = .ok (.aload_n 0, 1) := by decide +kernel
theorem dL_isConcert_236 : decode cL_isConcert 236 = .ok (.invokestatic 129, 3) := by decide +kernel
theorem dL_isConcert_239 : decode cL_isConcert 239 = .ok (.ifCond .eq 7, 3) := by decide +kernel
theorem dL_isConcert_242 : decode cL_isConcert 242 = .ok (.iconst 1, 1) := by decide +kernel
theorem dL_isConcert_243 : decode cL_isConcert 243 = .ok (.goto 4, 3) := by decide +kernel
theorem dL_isConcert_246 : decode cL_isConcert 246 = .ok (.iconst 0, 1) := by decide +kernel
theorem dL_isConcert_247 : decode cL_isConcert 247 = .ok (.istore 11, 2) := by decide +kernel
theorem dL_isConcert_249 : decode cL_isConcert 249 = .ok (.iload 4, 2) := by decide +kernel
theorem dL_isConcert_251 : decode cL_isConcert 251 = .ok (.sipush (-1015), 3) := by decide +kernel
theorem dL_isConcert_254 : decode cL_isConcert 254 = .ok (.if_icmp .eq 8, 3) := by decide +kernel
theorem dL_isConcert_257 : decode cL_isConcert 257 = .ok (.iload 4, 2) := by decide +kernel
theorem dL_isConcert_259 : decode cL_isConcert 259 = .ok (.ifCond .ne 8, 3) := by decide +kernel
theorem dL_isConcert_262 : decode cL_isConcert 262 = .ok (.iload 4, 2) := by decide +kernel
theorem dL_isConcert_264 : decode cL_isConcert 264 = .ok (.goto 7, 3) := by decide +kernel
theorem dL_isConcert_267 : decode cL_isConcert 267 = .ok (.iload 4, 2) := by decide +kernel
theorem dL_isConcert_269 : decode cL_isConcert 269 = .ok (.iconst 1, 1) := by decide +kernel
theorem dL_isConcert_270 : decode cL_isConcert 270 = .ok (.isub, 1) := by decide +kernel
theorem dL_isConcert_271 : decode cL_isConcert 271 = .ok (.istore 12, 2) := by decide +kernel
theorem dL_isConcert_273 : decode cL_isConcert 273 = .ok (.iload 11, 2) := by decide +kernel
theorem dL_isConcert_275 : decode cL_isConcert 275 = .ok (.ifCond .eq 22, 3) := by decide +kernel
theorem dL_isConcert_278 : decode cL_isConcert 278 = .ok (.iload 4, 2) := by decide +kernel
theorem dL_isConcert_280 : decode cL_isConcert 280 = .ok (.ifCond .eq 13, 3) := by decide +kernel
theorem dL_isConcert_283 : decode cL_isConcert 283 = .ok (.aload_n 0, 1) := by decide +kernel
theorem dL_isConcert_284 : decode cL_isConcert 284 = .ok (.iload_n 1, 1) := by decide +kernel
theorem dL_isConcert_285 : decode cL_isConcert 285 = .ok (.invokevirtual 133, 3) := by decide +kernel
theorem dL_isConcert_288 : decode cL_isConcert 288 = .ok (.iload 12, 2) := by decide +kernel
theorem dL_isConcert_290 : decode cL_isConcert 290 = .ok (.if_icmp .ne 7, 3) := by decide +kernel
theorem dL_isConcert_293 : decode cL_isConcert 293 = .ok (.iconst 1, 1) := by decide +kernel
theorem dL_isConcert_294 : decode cL_isConcert 294 = .ok (.goto 4, 3) := by decide +kernel
theorem dL_isConcert_297 : decode cL_isConcert 297 = .ok (.iconst 0, 1) := by decide +kernel
theorem dL_isConcert_298 : decode cL_isConcert 298 = .ok (.istore 11, 2) := by decide +kernel
theorem dL_isConcert_300 : decode cL_isConcert 300 = .ok (.iload 11, 2) := by decide +kernel
theorem dL_isConcert_302 : decode cL_isConcert 302 = .ok (.ifCond .eq 23, 3) := by decide +kernel
theorem dL_isConcert_305 : decode cL_isConcert 305 = .ok (.aload_n 0, 1) := by decide +kernel
theorem dL_isConcert_306 : decode cL_isConcert 306 = .ok (.invokevirtual 75, 3) := by decide +kernel
theorem dL_isConcert_309 : decode cL_isConcert 309 = .ok (.ifCond .lt 16, 3) := by decide +kernel
theorem dL_isConcert_312 : decode cL_isConcert 312 = .ok (.aload_n 0, 1) := by decide +kernel
theorem dL_isConcert_313 : decode cL_isConcert 313 = .ok (.invokestatic 116, 3) := by decide +kernel
theorem dL_isConcert_316 : decode cL_isConcert 316 = .ok (.lload_n 2, 1) := by decide +kernel
theorem dL_isConcert_317 : decode cL_isConcert 317 = .ok (.lcmp, 1) := by decide +kernel
theorem dL_isConcert_318 : decode cL_isConcert 318 = .ok (.ifCond .ne 7, 3) := by decide +kernel
theorem dL_isConcert_321 : decode cL_isConcert 321 = .ok (.iconst 1, 1) := by decide +kernel
theorem dL_isConcert_322 : decode cL_isConcert 322 = .ok (.goto 4, 3) := by decide +kernel
theorem dL_isConcert_325 : decode cL_isConcert 325 = .ok (.iconst 0, 1) := by decide +kernel
theorem dL_isConcert_326 : decode cL_isConcert 326 = .ok (.ireturn, 1) := by decide +kernel
theorem dL_isSale_0 : decode cL_isSale 0 = .ok (.aload_n 0, 1) := by decide +kernel
theorem dL_isSale_1 : decode cL_isSale 1 = .ok (.invokestatic 116, 3) := by decide +kernel
theorem dL_isSale_4 : decode cL_isSale 4 = .ok (.lstore_n 1, 1) := by decide +kernel
theorem dL_isSale_5 : decode cL_isSale 5 = .ok (.iconst (-1), 1) := by decide +kernel
theorem dL_isSale_6 : decode cL_isSale 6 = .ok (.istore_n 3, 1) := by decide +kernel
theorem dL_isSale_7 : decode cL_isSale 7 = .ok (.iconst 0, 1) := by decide +kernel
theorem dL_isSale_8 : decode cL_isSale 8 = .ok (.istore 4, 2) := by decide +kernel
theorem dL_isSale_10 : decode cL_isSale 10 = .ok (.iconst 0, 1) := by decide +kernel
theorem dL_isSale_11 : decode cL_isSale 11 = .ok (.istore 5, 2) := by decide +kernel
theorem dL_isSale_13 : decode cL_isSale 13 = .ok (.iload 5, 2) := by decide +kernel
theorem dL_isSale_15 : decode cL_isSale 15 = .ok (.aload_n 0, 1) := by decide +kernel
theorem dL_isSale_16 : decode cL_isSale 16 = .ok (.iconst 1, 1) := by decide +kernel
theorem dL_isSale_17 : decode cL_isSale 17 = .ok (.invokevirtual 82, 3) := by decide +kernel
theorem dL_isSale_20 : decode cL_isSale 20 = .ok (.if_icmp .ge 69, 3) := by decide +kernel
theorem dL_isSale_23 : decode cL_isSale 23 = .ok (.aload_n 0, 1) := by decide +kernel
theorem dL_isSale_24 : decode cL_isSale 24 = .ok (.iload 5, 2) := by decide +kernel
theorem dL_isSale_26 : decode cL_isSale 26 = .ok (.iconst 4, 1) := by decide +kernel
theorem dL_isSale_27 : decode cL_isSale 27 = .ok (.invokevirtual 88, 3) := by decide +kernel
theorem dL_isSale_30 : decode cL_isSale 30 = .ok (.istore 6, 2) := by decide +kernel
theorem dL_isSale_32 : decode cL_isSale 32 = .ok (.iload_n 3, 1) := by decide +kernel
theorem dL_isSale_33 : decode cL_isSale 33 = .ok (.ifCond .ge 7, 3) := by decide +kernel
theorem dL_isSale_36 : decode cL_isSale 36 = .ok (.iconst 0, 1) := by decide +kernel
theorem dL_isSale_37 : decode cL_isSale 37 = .ok (.goto 9, 3) := by decide +kernel
theorem dL_isSale_40 : decode cL_isSale 40 = .ok (.aload_n 0, 1) := by decide +kernel
theorem dL_isSale_41 : decode cL_isSale 41 = .ok (.iload_n 3, 1) := by decide +kernel
theorem dL_isSale_42 : decode cL_isSale 42 = .ok (.iconst 4, 1) := by decide +kernel
theorem dL_isSale_43 : decode cL_isSale 43 = .ok (.invokevirtual 88, 3) := by decide +kernel
theorem dL_isSale_46 : decode cL_isSale 46 = .ok (.istore 7, 2) := by decide +kernel
theorem dL_isSale_48 : decode cL_isSale 48 = .ok (.iload 6, 2) := by decide +kernel
theorem dL_isSale_50 : decode cL_isSale 50 = .ok (.iload 7, 2) := by decide +kernel
theorem dL_isSale_52 : decode cL_isSale 52 = .ok (.if_icmp .le 8, 3) := by decide +kernel
theorem dL_isSale_55 : decode cL_isSale 55 = .ok (.iload 7, 2) := by decide +kernel
theorem dL_isSale_57 : decode cL_isSale 57 = .ok (.goto 10, 3) := by decide +kernel
theorem dL_isSale_60 : decode cL_isSale 60 = .ok (.iload 4, 2) := by decide +kernel
theorem dL_isSale_62 : decode cL_isSale 62 = .ok (.iload 6, 2) := by decide +kernel
theorem dL_isSale_64 : decode cL_isSale 64 = .ok (.invokestatic 140, 3) := by decide +kernel
theorem dL_isSale_67 : decode cL_isSale 67 = .ok (.istore 4, 2) := by decide +kernel
theorem dL_isSale_69 : decode cL_isSale 69 = .ok (.iload 6, 2) := by decide +kernel
theorem dL_isSale_71 : decode cL_isSale 71 = .ok (.iload 7, 2) := by decide +kernel
theorem dL_isSale_73 : decode cL_isSale 73 = .ok (.if_icmp .le 8, 3) := by decide +kernel
theorem dL_isSale_76 : decode cL_isSale 76 = .ok (.iload 5, 2) := by decide +kernel
theorem dL_isSale_78 : decode cL_isSale 78 = .ok (.goto 4, 3) := by decide +kernel
theorem dL_isSale_81 : decode cL_isSale 81 = .ok (.iload_n 3, 1) := by decide +kernel
theorem dL_isSale_82 : decode cL_isSale 82 = .ok (.istore_n 3, 1) := by decide +kernel
theorem dL_isSale_83 : decode cL_isSale 83 = .ok (.iinc 5 1, 3) := by decide +kernel
theorem dL_isSale_86 : decode cL_isSale 86 = .ok (.goto (-73), 3) := by decide +kernel
theorem dL_isSale_89 : decode cL_isSale 89 = .ok (.iload_n 3, 1) := by decide +kernel
theorem dL_isSale_90 : decode cL_isSale 90 = .ok (.ifCond .ge 7, 3) := by decide +kernel
theorem dL_isSale_93 : decode cL_isSale 93 = .ok (.iconst 0, 1) := by decide +kernel
theorem dL_isSale_94 : decode cL_isSale 94 = .ok (.goto 9, 3) := by decide +kernel
theorem dL_isSale_97 : decode cL_isSale 97 = .ok (.aload_n 0, 1) := by decide +kernel
theorem dL_isSale_98 : decode cL_isSale 98 = .ok (.iload_n 3, 1) := by decide +kernel
theorem dL_isSale_99 : decode cL_isSale 99 = .ok (.iconst 3, 1) := by decide +kernel
theorem dL_isSale_100 : decode cL_isSale 100 = .ok (.invokevirtual 88, 3) := by decide +kernel
theorem dL_isSale_103 : decode cL_isSale 103 = .ok (.istore 5, 2) := by decide +kernel
theorem dL_isSale_105 : decode cL_isSale 105 = .ok (.aload_n 0, 1) := by decide +kernel
theorem dL_isSale_106 : decode cL_isSale 106 = .ok (.iconst 5, 1) := by decide +kernel
theorem dL_isSale_107 : decode cL_isSale 107 = .ok (.invokevirtual 82, 3) := by decide +kernel
theorem dL_isSale_110 : decode cL_isSale 110 = .ok (.istore 6, 2) := by decide +kernel
theorem dL_isSale_112 : decode cL_isSale 112 = .ok (.aload_n 0, 1) := by decide +kernel
theorem dL_isSale_113 : decode cL_isSale 113 = .ok (.bipush 7, 2) := by decide +kernel
theorem dL_isSale_115 : decode cL_isSale 115 = .ok (.invokevirtual 44, 3) := by decide +kernel
theorem dL_isSale_118 : decode cL_isSale 118 = .ok (.istore 7, 2) := by decide +kernel
theorem dL_isSale_120 : decode cL_isSale 120 = .ok (.iload 7, 2) := by decide +kernel
theorem dL_isSale_122 : decode cL_isSale 122 = .ok (.sipush (-1014), 3) := by decide +kernel
theorem dL_isSale_125 : decode cL_isSale 125 = .ok (.if_icmp .ne 47, 3) := by decide +kernel
theorem dL_isSale_128 : decode cL_isSale 128 = .ok (.iload_n 3, 1) := by decide +kernel
theorem dL_isSale_129 : decode cL_isSale 129 = .ok (.ifCond .ge 41, 3) := by decide +kernel
theorem dL_isSale_132 : decode cL_isSale 132 = .ok (.aload_n 0, 1) := by decide +kernel
theorem dL_isSale_133 : decode cL_isSale 133 = .ok (.iconst 0, 1) := by decide +kernel
theorem dL_isSale_134 : decode cL_isSale 134 = .ok (.iconst 0, 1) := by decide +kernel
theorem dL_isSale_135 : decode cL_isSale 135 = .ok (.invokevirtual 136, 3) := by decide +kernel
theorem dL_isSale_138 : decode cL_isSale 138 = .ok (.bipush 10, 2) := by decide +kernel
theorem dL_isSale_140 : decode cL_isSale 140 = .ok (.if_icmp .ne 30, 3) := by decide +kernel
theorem dL_isSale_143 : decode cL_isSale 143 = .ok (.aload_n 0, 1) := by decide +kernel
theorem dL_isSale_144 : decode cL_isSale 144 = .ok (.iconst 0, 1) := by decide +kernel
theorem dL_isSale_145 : decode cL_isSale 145 = .ok (.iconst 1, 1) := by decide +kernel
theorem dL_isSale_146 : decode cL_isSale 146 = .ok (.invokevirtual 136, 3) := by decide +kernel
theorem dL_isSale_149 : decode cL_isSale 149 = .ok (.aload_n 0, 1) := by decide +kernel
theorem dL_isSale_150 : decode cL_isSale 150 = .ok (.iconst 2, 1) := by decide +kernel
theorem dL_isSale_151 : decode cL_isSale 151 = .ok (.invokevirtual 82, 3) := by decide +kernel
theorem dL_isSale_154 : decode cL_isSale 154 = .ok (.if_icmp .ne 16, 3) := by decide +kernel
theorem dL_isSale_157 : decode cL_isSale 157 = .ok (.aload_n 0, 1) := by decide +kernel
theorem dL_isSale_158 : decode cL_isSale 158 = .ok (.invokestatic 116, 3) := by decide +kernel
theorem dL_isSale_161 : decode cL_isSale 161 = .ok (.lload_n 1, 1) := by decide +kernel
theorem dL_isSale_162 : decode cL_isSale 162 = .ok (.lcmp, 1) := by decide +kernel
theorem dL_isSale_163 : decode cL_isSale 163 = .ok (.ifCond .ne 7, 3) := by decide +kernel
theorem dL_isSale_166 : decode cL_isSale 166 = .ok (.iconst 1, 1) := by decide +kernel
theorem dL_isSale_167 : decode cL_isSale 167 = .ok (.goto 4, 3) := by decide +kernel
theorem dL_isSale_170 : decode cL_isSale 170 = .ok (.iconst 0, 1) := by decide +kernel
theorem dL_isSale_171 : decode cL_isSale 171 = .ok (.ireturn, 1) := by decide +kernel
theorem dL_isSale_172 : decode cL_isSale 172 = .ok (.iload 7, 2) := by decide +kernel
theorem dL_isSale_174 : decode cL_isSale 174 = .ok (.iload 4, 2) := by decide +kernel
theorem dL_isSale_176 : decode cL_isSale 176 = .ok (.if_icmp .ne 50, 3) := by decide +kernel
theorem dL_isSale_179 : decode cL_isSale 179 = .ok (.aload_n 0, 1) := by decide +kernel
theorem dL_isSale_180 : decode cL_isSale 180 = .ok (.iconst 5, 1) := by decide +kernel
theorem dL_isSale_181 : decode cL_isSale 181 = .ok (.invokevirtual 82, 3) := by decide +kernel
theorem dL_isSale_184 : decode cL_isSale 184 = .ok (.iload 6, 2) := by decide +kernel
theorem dL_isSale_186 : decode cL_isSale 186 = .ok (.iload 4, 2) := by decide +kernel
theorem dL_isSale_188 : decode cL_isSale 188 = .ok (.iadd, 1) := by decide +kernel
theorem dL_isSale_189 : decode cL_isSale 189 = .ok (.if_icmp .ne 37, 3) := by decide +kernel
theorem dL_isSale_192 : decode cL_isSale 192 = .ok (.aload_n 0, 1) := by decide +kernel
theorem dL_isSale_193 : decode cL_isSale 193 = .ok (.iload_n 3, 1) := by decide +kernel
theorem dL_isSale_194 : decode cL_isSale 194 = .ok (.iconst 3, 1) := by decide +kernel
theorem dL_isSale_195 : decode cL_isSale 195 = .ok (.invokevirtual 88, 3) := by decide +kernel
theorem dL_isSale_198 : decode cL_isSale 198 = .ok (.iload 5, 2) := by decide +kernel
theorem dL_isSale_200 : decode cL_isSale 200 = .ok (.iload 4, 2) := by decide +kernel
theorem dL_isSale_202 : decode cL_isSale 202 = .ok (.isub, 1) := by decide +kernel
theorem dL_isSale_203 : decode cL_isSale 203 = .ok (.if_icmp .ne 23, 3) := by decide +kernel
theorem dL_isSale_206 : decode cL_isSale 206 = .ok (.aload_n 0, 1) := by decide +kernel
theorem dL_isSale_207 : decode cL_isSale 207 = .ok (.aload_n 0, 1) := by decide +kernel
theorem dL_isSale_208 : decode cL_isSale 208 = .ok (.iload_n 3, 1) := by decide +kernel
theorem dL_isSale_209 : decode cL_isSale 209 = .ok (.iconst 5, 1) := by decide +kernel
theorem dL_isSale_210 : decode cL_isSale 210 = .ok (.invokevirtual 88, 3) := by decide +kernel
theorem dL_isSale_213 : decode cL_isSale 213 = .ok (.iconst 2, 1) := by decide +kernel
theorem dL_isSale_214 : decode cL_isSale 214 = .ok (.invokevirtual 85, 3) := by decide +kernel
theorem dL_isSale_217 : decode cL_isSale 217 = .ok (.bipush 7, 2) := by decide +kernel
theorem dL_isSale_219 : decode cL_isSale 219 = .ok (.if_icmp .ne 7, 3) := by decide +kernel
theorem dL_isSale_222 : decode cL_isSale 222 = .ok (.iconst 1, 1) := by decide +kernel
theorem dL_isSale_223 : decode cL_isSale 223 = .ok (.goto 4, 3) := by decide +kernel
theorem dL_isSale_226 : decode cL_isSale 226 = .ok (.iconst 0, 1) := by decide +kernel
theorem dL_isSale_227 : decode cL_isSale 227 = .ok (.istore 8, 2) := by decide +kernel
theorem dL_isSale_229 : decode cL_isSale 229 = .ok (.iconst 0, 1) := by decide +kernel
theorem dL_isSale_230 : decode cL_isSale 230 = .ok (.istore 9, 2) := by decide +kernel
theorem dL_isSale_232 : decode cL_isSale 232 = .ok (.iload 8, 2) := by decide +kernel
theorem dL_isSale_234 : decode cL_isSale 234 = .ok (.ifCond .eq 36, 3) := by decide +kernel
theorem dL_isSale_237 : decode cL_isSale 237 = .ok (.iload 9, 2) := by decide +kernel
theorem dL_isSale_239 : decode cL_isSale 239 = .ok (.aload_n 0, 1) := by decide +kernel
theorem dL_isSale_240 : decode cL_isSale 240 = .ok (.iconst 1, 1) := by decide +kernel
theorem dL_isSale_241 : decode cL_isSale 241 = .ok (.invokevirtual 82, 3) := by decide +kernel
theorem dL_isSale_244 : decode cL_isSale 244 = .ok (.if_icmp .ge 26, 3) := by decide +kernel
theorem dL_isSale_247 : decode cL_isSale 247 = .ok (.aload_n 0, 1) := by decide +kernel
theorem dL_isSale_248 : decode cL_isSale 248 = .ok (.iload 9, 2) := by decide +kernel
theorem dL_isSale_250 : decode cL_isSale 250 = .ok (.iconst 4, 1) := by decide +kernel
theorem dL_isSale_251 : decode cL_isSale 251 = .ok (.invokevirtual 88, 3) := by decide +kernel
theorem dL_isSale_254 : decode cL_isSale 254 = .ok (.ifCond .ne 7, 3) := by decide +kernel
theorem dL_isSale_257 : decode cL_isSale 257 = .ok (.iconst 1, 1) := by decide +kernel
theorem dL_isSale_258 : decode cL_isSale 258 = .ok (.goto 4, 3) := by decide +kernel
theorem dL_isSale_261 : decode cL_isSale 261 = .ok (.iconst 0, 1) := by decide +kernel
theorem dL_isSale_262 : decode cL_isSale 262 = .ok (.istore 8, 2) := by decide +kernel
theorem dL_isSale_264 : decode cL_isSale 264 = .ok (.iinc 9 1, 3) := by decide +kernel
theorem dL_isSale_267 : decode cL_isSale 267 = .ok (.goto (-35), 3) := by decide +kernel
theorem dL_isSale_270 : decode cL_isSale 270 = .ok (.iload 8, 2) := by decide +kernel
theorem dL_isSale_272 : decode cL_isSale 272 = .ok (.ifCond .eq 23, 3) := by decide +kernel
theorem dL_isSale_275 : decode cL_isSale 275 = .ok (.aload_n 0, 1) := by decide +kernel
theorem dL_isSale_276 : decode cL_isSale 276 = .ok (.invokevirtual 75, 3) := by decide +kernel
theorem dL_isSale_279 : decode cL_isSale 279 = .ok (.ifCond .lt 16, 3) := by decide +kernel
theorem dL_isSale_282 : decode cL_isSale 282 = .ok (.aload_n 0, 1) := by decide +kernel
theorem dL_isSale_283 : decode cL_isSale 283 = .ok (.invokestatic 116, 3) := by decide +kernel
theorem dL_isSale_286 : decode cL_isSale 286 = .ok (.lload_n 1, 1) := by decide +kernel
theorem dL_isSale_287 : decode cL_isSale 287 = .ok (.lcmp, 1) := by decide +kernel
theorem dL_isSale_288 : decode cL_isSale 288 = .ok (.ifCond .ne 7, 3) := by decide +kernel
theorem dL_isSale_291 : decode cL_isSale 291 = .ok (.iconst 1, 1) := by decide +kernel
theorem dL_isSale_292 : decode cL_isSale 292 = .ok (.goto 4, 3) := by decide +kernel
theorem dL_isSale_295 : decode cL_isSale 295 = .ok (.iconst 0, 1) := by decide +kernel
theorem dL_isSale_296 : decode cL_isSale 296 = .ok (.ireturn, 1) := by decide +kernel
theorem dL_areOrders_0 : decode cL_areOrders 0 = .ok (.aload_n 0, 1) := by decide +kernel
theorem dL_areOrders_1 : decode cL_areOrders 1 = .ok (.iconst 0, 1) := by decide +kernel
theorem dL_areOrders_2 : decode cL_areOrders 2 = .ok (.invokevirtual 82, 3) := by decide +kernel
theorem dL_areOrders_5 : decode cL_areOrders 5 = .ok (.istore_n 1, 1) := by decide +kernel
theorem dL_areOrders_6 : decode cL_areOrders 6 = .ok (.aload_n 0, 1) := by decide +kernel
theorem dL_areOrders_7 : decode cL_areOrders 7 = .ok (.iconst 1, 1) := by decide +kernel
theorem dL_areOrders_8 : decode cL_areOrders 8 = .ok (.invokevirtual 82, 3) := by decide +kernel
theorem dL_areOrders_11 : decode cL_areOrders 11 = .ok (.istore_n 2, 1) := by decide +kernel
theorem dL_areOrders_12 : decode cL_areOrders 12 = .ok (.aload_n 0, 1) := by decide +kernel
theorem dL_areOrders_13 : decode cL_areOrders 13 = .ok (.iload_n 1, 1) := by decide +kernel
theorem dL_areOrders_14 : decode cL_areOrders 14 = .ok (.invokevirtual 143, 3) := by decide +kernel
theorem dL_areOrders_17 : decode cL_areOrders 17 = .ok (.sipush (-1011), 3) := by decide +kernel
theorem dL_areOrders_20 : decode cL_areOrders 20 = .ok (.if_icmp .ne 29, 3) := by decide +kernel
theorem dL_areOrders_23 : decode cL_areOrders 23 = .ok (.aload_n 0, 1) := by decide +kernel
theorem dL_areOrders_24 : decode cL_areOrders 24 = .ok (.iconst (-1), 1) := by decide +kernel
theorem dL_areOrders_25 : decode cL_areOrders 25 = .ok (.invokevirtual 143, 3) := by decide +kernel
theorem dL_areOrders_28 : decode cL_areOrders 28 = .ok (.sipush (-1011), 3) := by decide +kernel
theorem dL_areOrders_31 : decode cL_areOrders 31 = .ok (.if_icmp .ne 18, 3) := by decide +kernel
theorem dL_areOrders_34 : decode cL_areOrders 34 = .ok (.aload_n 0, 1) := by decide +kernel
theorem dL_areOrders_35 : decode cL_areOrders 35 = .ok (.iload_n 2, 1) := by decide +kernel
theorem dL_areOrders_36 : decode cL_areOrders 36 = .ok (.invokevirtual 146, 3) := by decide +kernel
theorem dL_areOrders_39 : decode cL_areOrders 39 = .ok (.sipush (-1011), 3) := by decide +kernel
theorem dL_areOrders_42 : decode cL_areOrders 42 = .ok (.if_icmp .ne 7, 3) := by decide +kernel
theorem dL_areOrders_45 : decode cL_areOrders 45 = .ok (.iconst 1, 1) := by decide +kernel
theorem dL_areOrders_46 : decode cL_areOrders 46 = .ok (.goto 4, 3) := by decide +kernel
theorem dL_areOrders_49 : decode cL_areOrders 49 = .ok (.iconst 0, 1) := by decide +kernel
theorem dL_areOrders_50 : decode cL_areOrders 50 = .ok (.istore_n 3, 1) := by decide +kernel
theorem dL_areOrders_51 : decode cL_areOrders 51 = .ok (.iconst 1, 1) := by decide +kernel
theorem dL_areOrders_52 : decode cL_areOrders 52 = .ok (.istore 4, 2) := by decide +kernel
theorem dL_areOrders_54 : decode cL_areOrders 54 = .ok (.iload_n 3, 1) := by decide +kernel
theorem dL_areOrders_55 : decode cL_areOrders 55 = .ok (.ifCond .eq 102, 3) := by decide +kernel
theorem dL_areOrders_58 : decode cL_areOrders 58 = .ok (.iload 4, 2) := by decide +kernel
theorem dL_areOrders_60 : decode cL_areOrders 60 = .ok (.iload_n 1, 1) := by decide +kernel
theorem dL_areOrders_61 : decode cL_areOrders 61 = .ok (.if_icmp .ge 96, 3) := by decide +kernel
theorem dL_areOrders_64 : decode cL_areOrders 64 = .ok (.aload_n 0, 1) := by decide +kernel
theorem dL_areOrders_65 : decode cL_areOrders 65 = .ok (.iload 4, 2) := by decide +kernel
theorem dL_areOrders_67 : decode cL_areOrders 67 = .ok (.iconst 1, 1) := by decide +kernel
theorem dL_areOrders_68 : decode cL_areOrders 68 = .ok (.isub, 1) := by decide +kernel
theorem dL_areOrders_69 : decode cL_areOrders 69 = .ok (.invokevirtual 143, 3) := by decide +kernel
theorem dL_areOrders_72 : decode cL_areOrders 72 = .ok (.istore 5, 2) := by decide +kernel
theorem dL_areOrders_74 : decode cL_areOrders 74 = .ok (.aload_n 0, 1) := by decide +kernel
theorem dL_areOrders_75 : decode cL_areOrders 75 = .ok (.iload 4, 2) := by decide +kernel
theorem dL_areOrders_77 : decode cL_areOrders 77 = .ok (.invokevirtual 143, 3) := by decide +kernel
theorem dL_areOrders_80 : decode cL_areOrders 80 = .ok (.istore 6, 2) := by decide +kernel
theorem dL_areOrders_82 : decode cL_areOrders 82 = .ok (.aload_n 0, 1) := by decide +kernel
theorem dL_areOrders_83 : decode cL_areOrders 83 = .ok (.iload 5, 2) := by decide +kernel
theorem dL_areOrders_85 : decode cL_areOrders 85 = .ok (.bipush 6, 2) := by decide +kernel
theorem dL_areOrders_87 : decode cL_areOrders 87 = .ok (.invokevirtual 85, 3) := by decide +kernel
theorem dL_areOrders_90 : decode cL_areOrders 90 = .ok (.aload_n 0, 1) := by decide +kernel
theorem dL_areOrders_91 : decode cL_areOrders 91 = .ok (.iload 6, 2) := by decide +kernel
theorem dL_areOrders_93 : decode cL_areOrders 93 = .ok (.bipush 6, 2) := by decide +kernel
theorem dL_areOrders_95 : decode cL_areOrders 95 = .ok (.invokevirtual 85, 3) := by decide +kernel
theorem dL_areOrders_98 : decode cL_areOrders 98 = .ok (.isub, 1) := by decide +kernel
theorem dL_areOrders_99 : decode cL_areOrders 99 = .ok (.istore 7, 2) := by decide +kernel
theorem dL_areOrders_101 : decode cL_areOrders 101 = .ok (.aload_n 0, 1) := by decide +kernel
theorem dL_areOrders_102 : decode cL_areOrders 102 = .ok (.iload 5, 2) := by decide +kernel
theorem dL_areOrders_104 : decode cL_areOrders 104 = .ok (.iconst 5, 1) := by decide +kernel
theorem dL_areOrders_105 : decode cL_areOrders 105 = .ok (.invokevirtual 85, 3) := by decide +kernel
theorem dL_areOrders_108 : decode cL_areOrders 108 = .ok (.aload_n 0, 1) := by decide +kernel
theorem dL_areOrders_109 : decode cL_areOrders 109 = .ok (.iload 6, 2) := by decide +kernel
theorem dL_areOrders_111 : decode cL_areOrders 111 = .ok (.iconst 5, 1) := by decide +kernel
theorem dL_areOrders_112 : decode cL_areOrders 112 = .ok (.invokevirtual 85, 3) := by decide +kernel
theorem dL_areOrders_115 : decode cL_areOrders 115 = .ok (.isub, 1) := by decide +kernel
theorem dL_areOrders_116 : decode cL_areOrders 116 = .ok (.istore 8, 2) := by decide +kernel
theorem dL_areOrders_118 : decode cL_areOrders 118 = .ok (.iload 7, 2) := by decide +kernel
theorem dL_areOrders_120 : decode cL_areOrders 120 = .ok (.ifCond .gt 25, 3) := by decide +kernel
theorem dL_areOrders_123 : decode cL_areOrders 123 = .ok (.iload 7, 2) := by decide +kernel
theorem dL_areOrders_125 : decode cL_areOrders 125 = .ok (.ifCond .ne 24, 3) := by decide +kernel
theorem dL_areOrders_128 : decode cL_areOrders 128 = .ok (.iload 8, 2) := by decide +kernel
theorem dL_areOrders_130 : decode cL_areOrders 130 = .ok (.ifCond .gt 15, 3) := by decide +kernel
theorem dL_areOrders_133 : decode cL_areOrders 133 = .ok (.iload 8, 2) := by decide +kernel
theorem dL_areOrders_135 : decode cL_areOrders 135 = .ok (.ifCond .ne 14, 3) := by decide +kernel
theorem dL_areOrders_138 : decode cL_areOrders 138 = .ok (.iload 5, 2) := by decide +kernel
theorem dL_areOrders_140 : decode cL_areOrders 140 = .ok (.iload 6, 2) := by decide +kernel
theorem dL_areOrders_142 : decode cL_areOrders 142 = .ok (.if_icmp .ge 7, 3) := by decide +kernel
theorem dL_areOrders_145 : decode cL_areOrders 145 = .ok (.iconst 1, 1) := by decide +kernel
theorem dL_areOrders_146 : decode cL_areOrders 146 = .ok (.goto 4, 3) := by decide +kernel
theorem dL_areOrders_149 : decode cL_areOrders 149 = .ok (.iconst 0, 1) := by decide +kernel
theorem dL_areOrders_150 : decode cL_areOrders 150 = .ok (.istore_n 3, 1) := by decide +kernel
theorem dL_areOrders_151 : decode cL_areOrders 151 = .ok (.iinc 4 1, 3) := by decide +kernel
theorem dL_areOrders_154 : decode cL_areOrders 154 = .ok (.goto (-100), 3) := by decide +kernel
theorem dL_areOrders_157 : decode cL_areOrders 157 = .ok (.iconst 1, 1) := by decide +kernel
theorem dL_areOrders_158 : decode cL_areOrders 158 = .ok (.istore 4, 2) := by decide +kernel
theorem dL_areOrders_160 : decode cL_areOrders 160 = .ok (.iload_n 3, 1) := by decide +kernel
theorem dL_areOrders_161 : decode cL_areOrders 161 = .ok (.ifCond .eq 122, 3) := by decide +kernel
theorem dL_areOrders_164 : decode cL_areOrders 164 = .ok (.iload 4, 2) := by decide +kernel
theorem dL_areOrders_166 : decode cL_areOrders 166 = .ok (.iload_n 2, 1) := by decide +kernel
theorem dL_areOrders_167 : decode cL_areOrders 167 = .ok (.if_icmp .ge 116, 3) := by decide +kernel
theorem dL_areOrders_170 : decode cL_areOrders 170 = .ok (.aload_n 0, 1) := by decide +kernel
theorem dL_areOrders_171 : decode cL_areOrders 171 = .ok (.iload 4, 2) := by decide +kernel
theorem dL_areOrders_173 : decode cL_areOrders 173 = .ok (.iconst 1, 1) := by decide +kernel
theorem dL_areOrders_174 : decode cL_areOrders 174 = .ok (.isub, 1) := by decide +kernel
theorem dL_areOrders_175 : decode cL_areOrders 175 = .ok (.invokevirtual 146, 3) := by decide +kernel
theorem dL_areOrders_178 : decode cL_areOrders 178 = .ok (.istore 5, 2) := by decide +kernel
theorem dL_areOrders_180 : decode cL_areOrders 180 = .ok (.aload_n 0, 1) := by decide +kernel
theorem dL_areOrders_181 : decode cL_areOrders 181 = .ok (.iload 4, 2) := by decide +kernel
theorem dL_areOrders_183 : decode cL_areOrders 183 = .ok (.invokevirtual 146, 3) := by decide +kernel
theorem dL_areOrders_186 : decode cL_areOrders 186 = .ok (.istore 6, 2) := by decide +kernel
theorem dL_areOrders_188 : decode cL_areOrders 188 = .ok (.aload_n 0, 1) := by decide +kernel
theorem dL_areOrders_189 : decode cL_areOrders 189 = .ok (.iload 5, 2) := by decide +kernel
theorem dL_areOrders_191 : decode cL_areOrders 191 = .ok (.iconst 3, 1) := by decide +kernel
theorem dL_areOrders_192 : decode cL_areOrders 192 = .ok (.invokevirtual 88, 3) := by decide +kernel
theorem dL_areOrders_195 : decode cL_areOrders 195 = .ok (.aload_n 0, 1) := by decide +kernel
theorem dL_areOrders_196 : decode cL_areOrders 196 = .ok (.iload 6, 2) := by decide +kernel
theorem dL_areOrders_198 : decode cL_areOrders 198 = .ok (.iconst 3, 1) := by decide +kernel
theorem dL_areOrders_199 : decode cL_areOrders 199 = .ok (.invokevirtual 88, 3) := by decide +kernel
theorem dL_areOrders_202 : decode cL_areOrders 202 = .ok (.isub, 1) := by decide +kernel
theorem dL_areOrders_203 : decode cL_areOrders 203 = .ok (.istore 7, 2) := by decide +kernel
theorem dL_areOrders_205 : decode cL_areOrders 205 = .ok (.aload_n 0, 1) := by decide +kernel
theorem dL_areOrders_206 : decode cL_areOrders 206 = .ok (.iload 5, 2) := by decide +kernel
theorem dL_areOrders_208 : decode cL_areOrders 208 = .ok (.iconst 5, 1) := by decide +kernel
theorem dL_areOrders_209 : decode cL_areOrders 209 = .ok (.invokevirtual 88, 3) := by decide +kernel
theorem dL_areOrders_212 : decode cL_areOrders 212 = .ok (.sipush (-1015), 3) := by decide +kernel
theorem dL_areOrders_215 : decode cL_areOrders 215 = .ok (.if_icmp .ne 7, 3) := by decide +kernel
theorem dL_areOrders_218 : decode cL_areOrders 218 = .ok (.iconst 0, 1) := by decide +kernel
theorem dL_areOrders_219 : decode cL_areOrders 219 = .ok (.goto 4, 3) := by decide +kernel
theorem dL_areOrders_222 : decode cL_areOrders 222 = .ok (.iconst 1, 1) := by decide +kernel
theorem dL_areOrders_223 : decode cL_areOrders 223 = .ok (.aload_n 0, 1) := by decide +kernel
theorem dL_areOrders_224 : decode cL_areOrders 224 = .ok (.iload 6, 2) := by decide +kernel
theorem dL_areOrders_226 : decode cL_areOrders 226 = .ok (.iconst 5, 1) := by decide +kernel
theorem dL_areOrders_227 : decode cL_areOrders 227 = .ok (.invokevirtual 88, 3) := by decide +kernel
theorem dL_areOrders_230 : decode cL_areOrders 230 = .ok (.sipush (-1015), 3) := by decide +kernel
theorem dL_areOrders_233 : decode cL_areOrders 233 = .ok (.if_icmp .ne 7, 3) := by decide +kernel
theorem dL_areOrders_236 : decode cL_areOrders 236 = .ok (.iconst 0, 1) := by decide +kernel
theorem dL_areOrders_237 : decode cL_areOrders 237 = .ok (.goto 4, 3) := by decide +kernel
theorem dL_areOrders_240 : decode cL_areOrders 240 = .ok (.iconst 1, 1) := by decide +kernel
theorem dL_areOrders_241 : decode cL_areOrders 241 = .ok (.isub, 1) := by decide +kernel
theorem dL_areOrders_242 : decode cL_areOrders 242 = .ok (.istore 8, 2) := by decide +kernel
theorem dL_areOrders_244 : decode cL_areOrders 244 = .ok (.iload 7, 2) := by decide +kernel
theorem dL_areOrders_246 : decode cL_areOrders 246 = .ok (.ifCond .gt 25, 3) := by decide +kernel
theorem dL_areOrders_249 : decode cL_areOrders 249 = .ok (.iload 7, 2) := by decide +kernel
theorem dL_areOrders_251 : decode cL_areOrders 251 = .ok (.ifCond .ne 24, 3) := by decide +kernel
theorem dL_areOrders_254 : decode cL_areOrders 254 = .ok (.iload 8, 2) := by decide +kernel
theorem dL_areOrders_256 : decode cL_areOrders 256 = .ok (.ifCond .gt 15, 3) := by decide +kernel
theorem dL_areOrders_259 : decode cL_areOrders 259 = .ok (.iload 8, 2) := by decide +kernel
theorem dL_areOrders_261 : decode cL_areOrders 261 = .ok (.ifCond .ne 14, 3) := by decide +kernel
theorem dL_areOrders_264 : decode cL_areOrders 264 = .ok (.iload 5, 2) := by decide +kernel
theorem dL_areOrders_266 : decode cL_areOrders 266 = .ok (.iload 6, 2) := by decide +kernel
theorem dL_areOrders_268 : decode cL_areOrders 268 = .ok (.if_icmp .ge 7, 3) := by decide +kernel
theorem dL_areOrders_271 : decode cL_areOrders 271 = .ok (.iconst 1, 1) := by decide +kernel
theorem dL_areOrders_272 : decode cL_areOrders 272 = .ok (.goto 4, 3) := by decide +kernel
theorem dL_areOrders_275 : decode cL_areOrders 275 = .ok (.iconst 0, 1) := by decide +kernel
theorem dL_areOrders_276 : decode cL_areOrders 276 = .ok (.istore_n 3, 1) := by decide +kernel
theorem dL_areOrders_277 : decode cL_areOrders 277 = .ok (.iinc 4 1, 3) := by decide +kernel
theorem dL_areOrders_280 : decode cL_areOrders 280 = .ok (.goto (-120), 3) := by decide +kernel
theorem dL_areOrders_283 : decode cL_areOrders 283 = .ok (.iload_n 3, 1) := by decide +kernel
theorem dL_areOrders_284 : decode cL_areOrders 284 = .ok (.ifCond .eq 46, 3) := by decide +kernel
theorem dL_areOrders_287 : decode cL_areOrders 287 = .ok (.aload_n 0, 1) := by decide +kernel
theorem dL_areOrders_288 : decode cL_areOrders 288 = .ok (.iconst 0, 1) := by decide +kernel
theorem dL_areOrders_289 : decode cL_areOrders 289 = .ok (.invokevirtual 94, 3) := by decide +kernel
theorem dL_areOrders_292 : decode cL_areOrders 292 = .ok (.aload_n 0, 1) := by decide +kernel
theorem dL_areOrders_293 : decode cL_areOrders 293 = .ok (.iconst 1, 1) := by decide +kernel
theorem dL_areOrders_294 : decode cL_areOrders 294 = .ok (.invokevirtual 94, 3) := by decide +kernel
theorem dL_areOrders_297 : decode cL_areOrders 297 = .ok (.iand, 1) := by decide +kernel
theorem dL_areOrders_298 : decode cL_areOrders 298 = .ok (.ifCond .ne 32, 3) := by decide +kernel
theorem dL_areOrders_301 : decode cL_areOrders 301 = .ok (.aload_n 0, 1) := by decide +kernel
theorem dL_areOrders_302 : decode cL_areOrders 302 = .ok (.iconst 0, 1) := by decide +kernel
theorem dL_areOrders_303 : decode cL_areOrders 303 = .ok (.invokevirtual 94, 3) := by decide +kernel
theorem dL_areOrders_306 : decode cL_areOrders 306 = .ok (.aload_n 0, 1) := by decide +kernel
theorem dL_areOrders_307 : decode cL_areOrders 307 = .ok (.iconst 1, 1) := by decide +kernel
theorem dL_areOrders_308 : decode cL_areOrders 308 = .ok (.invokevirtual 94, 3) := by decide +kernel
theorem dL_areOrders_311 : decode cL_areOrders 311 = .ok (.ior, 1) := by decide +kernel
theorem dL_areOrders_312 : decode cL_areOrders 312 = .ok (.aload_n 0, 1) := by decide +kernel
theorem dL_areOrders_313 : decode cL_areOrders 313 = .ok (.iconst 2, 1) := by decide +kernel
theorem dL_areOrders_314 : decode cL_areOrders 314 = .ok (.invokevirtual 94, 3) := by decide +kernel
theorem dL_areOrders_317 : decode cL_areOrders 317 = .ok (.ior, 1) := by decide +kernel
theorem dL_areOrders_318 : decode cL_areOrders 318 = .ok (.iconst 1, 1) := by decide +kernel
theorem dL_areOrders_319 : decode cL_areOrders 319 = .ok (.iload_n 1, 1) := by decide +kernel
theorem dL_areOrders_320 : decode cL_areOrders 320 = .ok (.ishl, 1) := by decide +kernel
theorem dL_areOrders_321 : decode cL_areOrders 321 = .ok (.iconst 1, 1) := by decide +kernel
theorem dL_areOrders_322 : decode cL_areOrders 322 = .ok (.isub, 1) := by decide +kernel
theorem dL_areOrders_323 : decode cL_areOrders 323 = .ok (.if_icmp .ne 7, 3) := by decide +kernel
theorem dL_areOrders_326 : decode cL_areOrders 326 = .ok (.iconst 1, 1) := by decide +kernel
theorem dL_areOrders_327 : decode cL_areOrders 327 = .ok (.goto 4, 3) := by decide +kernel
theorem dL_areOrders_330 : decode cL_areOrders 330 = .ok (.iconst 0, 1) := by decide +kernel
theorem dL_areOrders_331 : decode cL_areOrders 331 = .ok (.ireturn, 1) := by decide +kernel
theorem dL_isFit_0 : decode cL_isFit 0 = .ok (.aload_n 0, 1) := by decide +kernel
theorem dL_isFit_1 : decode cL_isFit 1 = .ok (.invokestatic 129, 3) := by decide +kernel
theorem dL_isFit_4 : decode cL_isFit 4 = .ok (.ifCond .eq 44, 3) := by decide +kernel
theorem dL_isFit_7 : decode cL_isFit 7 = .ok (.aload_n 0, 1) := by decide +kernel
theorem dL_isFit_8 : decode cL_isFit 8 = .ok (.invokestatic 149, 3) := by decide +kernel
theorem dL_isFit_11 : decode cL_isFit 11 = .ok (.ifCond .eq 37, 3) := by decide +kernel
theorem dL_isFit_14 : decode cL_isFit 14 = .ok (.aload_n 0, 1) := by decide +kernel
theorem dL_isFit_15 : decode cL_isFit 15 = .ok (.invokestatic 152, 3) := by decide +kernel
theorem dL_isFit_18 : decode cL_isFit 18 = .ok (.ifCond .eq 30, 3) := by decide +kernel
theorem dL_isFit_21 : decode cL_isFit 21 = .ok (.aload_n 0, 1) := by decide +kernel
theorem dL_isFit_22 : decode cL_isFit 22 = .ok (.iconst 1, 1) := by decide +kernel
theorem dL_isFit_23 : decode cL_isFit 23 = .ok (.invokestatic 155, 3) := by decide +kernel
theorem dL_isFit_26 : decode cL_isFit 26 = .ok (.ifCond .eq 22, 3) := by decide +kernel
theorem dL_isFit_29 : decode cL_isFit 29 = .ok (.aload_n 0, 1) := by decide +kernel
theorem dL_isFit_30 : decode cL_isFit 30 = .ok (.iconst 4, 1) := by decide +kernel
theorem dL_isFit_31 : decode cL_isFit 31 = .ok (.invokestatic 155, 3) := by decide +kernel
theorem dL_isFit_34 : decode cL_isFit 34 = .ok (.ifCond .eq 14, 3) := by decide +kernel
theorem dL_isFit_37 : decode cL_isFit 37 = .ok (.aload_n 0, 1) := by decide +kernel
theorem dL_isFit_38 : decode cL_isFit 38 = .ok (.invokestatic 159, 3) := by decide +kernel
theorem dL_isFit_41 : decode cL_isFit 41 = .ok (.ifCond .eq 7, 3) := by decide +kernel
theorem dL_isFit_44 : decode cL_isFit 44 = .ok (.iconst 1, 1) := by decide +kernel
theorem dL_isFit_45 : decode cL_isFit 45 = .ok (.goto 4, 3) := by decide +kernel
theorem dL_isFit_48 : decode cL_isFit 48 = .ok (.iconst 0, 1) := by decide +kernel
theorem dL_isFit_49 : decode cL_isFit 49 = .ok (.ireturn, 1) := by decide +kernel
theorem dL_law_0 : decode cL_law 0 = .ok (.new 1, 3) := by decide +kernel
theorem dL_law_3 : decode cL_law 3 = .ok (.dup, 1) := by decide +kernel
theorem dL_law_4 : decode cL_law 4 = .ok (.invokespecial 162, 3) := by decide +kernel
theorem dL_law_7 : decode cL_law 7 = .ok (.astore_n 1, 1) := by decide +kernel
theorem dL_law_8 : decode cL_law 8 = .ok (.iconst 0, 1) := by decide +kernel
theorem dL_law_9 : decode cL_law 9 = .ok (.istore_n 2, 1) := by decide +kernel
theorem dL_law_10 : decode cL_law 10 = .ok (.iload_n 2, 1) := by decide +kernel
theorem dL_law_11 : decode cL_law 11 = .ok (.iconst 4, 1) := by decide +kernel
theorem dL_law_12 : decode cL_law 12 = .ok (.if_icmp .ge 53, 3) := by decide +kernel
theorem dL_law_15 : decode cL_law 15 = .ok (.aload_n 1, 1) := by decide +kernel
theorem dL_law_16 : decode cL_law 16 = .ok (.iload_n 2, 1) := by decide +kernel
theorem dL_law_17 : decode cL_law 17 = .ok (.iconst 3, 1) := by decide +kernel
theorem dL_law_18 : decode cL_law 18 = .ok (.irem, 1) := by decide +kernel
theorem dL_law_19 : decode cL_law 19 = .ok (.iconst 3, 1) := by decide +kernel
theorem dL_law_20 : decode cL_law 20 = .ok (.iload_n 2, 1) := by decide +kernel
theorem dL_law_21 : decode cL_law 21 = .ok (.iadd, 1) := by decide +kernel
theorem dL_law_22 : decode cL_law 22 = .ok (.invokevirtual 24, 3) := by decide +kernel
theorem dL_law_25 : decode cL_law 25 = .ok (.pop, 1) := by decide +kernel
theorem dL_law_26 : decode cL_law 26 = .ok (.aload_n 1, 1) := by decide +kernel
theorem dL_law_27 : decode cL_law 27 = .ok (.iload_n 2, 1) := by decide +kernel
theorem dL_law_28 : decode cL_law 28 = .ok (.iconst 2, 1) := by decide +kernel
theorem dL_law_29 : decode cL_law 29 = .ok (.irem, 1) := by decide +kernel
theorem dL_law_30 : decode cL_law 30 = .ok (.iconst 2, 1) := by decide +kernel
theorem dL_law_31 : decode cL_law 31 = .ok (.iconst 2, 1) := by decide +kernel
theorem dL_law_32 : decode cL_law 32 = .ok (.iload_n 2, 1) := by decide +kernel
theorem dL_law_33 : decode cL_law 33 = .ok (.imul, 1) := by decide +kernel
theorem dL_law_34 : decode cL_law 34 = .ok (.iadd, 1) := by decide +kernel
theorem dL_law_35 : decode cL_law 35 = .ok (.iload_n 2, 1) := by decide +kernel
theorem dL_law_36 : decode cL_law 36 = .ok (.iconst 3, 1) := by decide +kernel
theorem dL_law_37 : decode cL_law 37 = .ok (.if_icmp .ne 7, 3) := by decide +kernel
theorem dL_law_40 : decode cL_law 40 = .ok (.iconst 2, 1) := by decide +kernel
theorem dL_law_41 : decode cL_law 41 = .ok (.goto 4, 3) := by decide +kernel
theorem dL_law_44 : decode cL_law 44 = .ok (.iconst 0, 1) := by decide +kernel
theorem dL_law_45 : decode cL_law 45 = .ok (.invokevirtual 28, 3) := by decide +kernel
theorem dL_law_48 : decode cL_law 48 = .ok (.pop, 1) := by decide +kernel
theorem dL_law_49 : decode cL_law 49 = .ok (.aload_n 1, 1) := by decide +kernel
theorem dL_law_50 : decode cL_law 50 = .ok (.iconst 2, 1) := by decide +kernel
theorem dL_law_51 : decode cL_law 51 = .ok (.iconst 4, 1) := by decide +kernel
theorem dL_law_52 : decode cL_law 52 = .ok (.iload_n 2, 1) := by decide +kernel
theorem dL_law_53 : decode cL_law 53 = .ok (.iadd, 1) := by decide +kernel
theorem dL_law_54 : decode cL_law 54 = .ok (.iconst 0, 1) := by decide +kernel
theorem dL_law_55 : decode cL_law 55 = .ok (.invokevirtual 28, 3) := by decide +kernel
theorem dL_law_58 : decode cL_law 58 = .ok (.pop, 1) := by decide +kernel
theorem dL_law_59 : decode cL_law 59 = .ok (.iinc 2 1, 3) := by decide +kernel
theorem dL_law_62 : decode cL_law 62 = .ok (.goto (-52), 3) := by decide +kernel
theorem dL_law_65 : decode cL_law 65 = .ok (.aload_n 1, 1) := by decide +kernel
theorem dL_law_66 : decode cL_law 66 = .ok (.invokevirtual 38, 3) := by decide +kernel
theorem dL_law_69 : decode cL_law 69 = .ok (.pop, 1) := by decide +kernel
theorem dL_law_70 : decode cL_law 70 = .ok (.aload_n 1, 1) := by decide +kernel
theorem dL_law_71 : decode cL_law 71 = .ok (.iconst 0, 1) := by decide +kernel
theorem dL_law_72 : decode cL_law 72 = .ok (.iconst 3, 1) := by decide +kernel
theorem dL_law_73 : decode cL_law 73 = .ok (.invokevirtual 41, 3) := by decide +kernel
theorem dL_law_76 : decode cL_law 76 = .ok (.pop, 1) := by decide +kernel
theorem dL_law_77 : decode cL_law 77 = .ok (.aload_n 0, 1) := by decide +kernel
theorem dL_law_78 : decode cL_law 78 = .ok (.arraylength, 1) := by decide +kernel
theorem dL_law_79 : decode cL_law 79 = .ok (.bipush 36, 2) := by decide +kernel
theorem dL_law_81 : decode cL_law 81 = .ok (.if_icmp .ge 8, 3) := by decide +kernel
theorem dL_law_84 : decode cL_law 84 = .ok (.aload_n 0, 1) := by decide +kernel
theorem dL_law_85 : decode cL_law 85 = .ok (.arraylength, 1) := by decide +kernel
theorem dL_law_86 : decode cL_law 86 = .ok (.goto 5, 3) := by decide +kernel
theorem dL_law_89 : decode cL_law 89 = .ok (.bipush 36, 2) := by decide +kernel
theorem dL_law_91 : decode cL_law 91 = .ok (.istore_n 2, 1) := by decide +kernel
theorem dL_law_92 : decode cL_law 92 = .ok (.iconst 0, 1) := by decide +kernel
theorem dL_law_93 : decode cL_law 93 = .ok (.istore_n 3, 1) := by decide +kernel
theorem dL_law_94 : decode cL_law 94 = .ok (.iload_n 3, 1) := by decide +kernel
theorem dL_law_95 : decode cL_law 95 = .ok (.iload_n 2, 1) := by decide +kernel
theorem dL_law_96 : decode cL_law 96 = .ok (.if_icmp .ge 62, 3) := by decide +kernel
theorem dL_law_99 : decode cL_law 99 = .ok (.aload_n 1, 1) := by decide +kernel
theorem dL_law_100 : decode cL_law 100 = .ok (.invokestatic 116, 3) := by decide +kernel
theorem dL_law_103 : decode cL_law 103 = .ok (.lstore 4, 2) := by decide +kernel
theorem dL_law_105 : decode cL_law 105 = .ok (.aload_n 1, 1) := by decide +kernel
theorem dL_law_106 : decode cL_law 106 = .ok (.aload_n 0, 1) := by decide +kernel
theorem dL_law_107 : decode cL_law 107 = .ok (.iload_n 3, 1) := by decide +kernel
theorem dL_law_108 : decode cL_law 108 = .ok (.invokestatic 163, 3) := by decide +kernel
theorem dL_law_111 : decode cL_law 111 = .ok (.invokestatic 167, 3) := by decide +kernel
theorem dL_law_114 : decode cL_law 114 = .ok (.istore 6, 2) := by decide +kernel
theorem dL_law_116 : decode cL_law 116 = .ok (.iload 6, 2) := by decide +kernel
theorem dL_law_118 : decode cL_law 118 = .ok (.sipush (-1014), 3) := by decide +kernel
theorem dL_law_121 : decode cL_law 121 = .ok (.if_icmp .eq 19, 3) := by decide +kernel
theorem dL_law_124 : decode cL_law 124 = .ok (.iload 6, 2) := by decide +kernel
theorem dL_law_126 : decode cL_law 126 = .ok (.sipush (-1012), 3) := by decide +kernel
theorem dL_law_129 : decode cL_law 129 = .ok (.if_icmp .eq 11, 3) := by decide +kernel
theorem dL_law_132 : decode cL_law 132 = .ok (.iload 6, 2) := by decide +kernel
theorem dL_law_134 : decode cL_law 134 = .ok (.sipush (-1011), 3) := by decide +kernel
theorem dL_law_137 : decode cL_law 137 = .ok (.if_icmp .ne 15, 3) := by decide +kernel
theorem dL_law_140 : decode cL_law 140 = .ok (.aload_n 1, 1) := by decide +kernel
theorem dL_law_141 : decode cL_law 141 = .ok (.invokestatic 116, 3) := by decide +kernel
theorem dL_law_144 : decode cL_law 144 = .ok (.lload 4, 2) := by decide +kernel
theorem dL_law_146 : decode cL_law 146 = .ok (.lcmp, 1) := by decide +kernel
theorem dL_law_147 : decode cL_law 147 = .ok (.ifCond .eq 5, 3) := by decide +kernel
theorem dL_law_150 : decode cL_law 150 = .ok (.iconst 0, 1) := by decide +kernel
theorem dL_law_151 : decode cL_law 151 = .ok (.ireturn, 1) := by decide +kernel
theorem dL_law_152 : decode cL_law 152 = .ok (.iinc 3 1, 3) := by decide +kernel
theorem dL_law_155 : decode cL_law 155 = .ok (.goto (-61), 3) := by decide +kernel
theorem dL_law_158 : decode cL_law 158 = .ok (.aload_n 1, 1) := by decide +kernel
theorem dL_law_159 : decode cL_law 159 = .ok (.invokestatic 171, 3) := by decide +kernel
theorem dL_law_162 : decode cL_law 162 = .ok (.istore_n 3, 1) := by decide +kernel
theorem dL_law_163 : decode cL_law 163 = .ok (.aload_n 1, 1) := by decide +kernel
theorem dL_law_164 : decode cL_law 164 = .ok (.invokevirtual 66, 3) := by decide +kernel
theorem dL_law_167 : decode cL_law 167 = .ok (.pop, 1) := by decide +kernel
theorem dL_law_168 : decode cL_law 168 = .ok (.aload_n 1, 1) := by decide +kernel
theorem dL_law_169 : decode cL_law 169 = .ok (.invokestatic 116, 3) := by decide +kernel
theorem dL_law_172 : decode cL_law 172 = .ok (.lstore 4, 2) := by decide +kernel
theorem dL_law_174 : decode cL_law 174 = .ok (.aload_n 1, 1) := by decide +kernel
theorem dL_law_175 : decode cL_law 175 = .ok (.invokevirtual 69, 3) := by decide +kernel
theorem dL_law_178 : decode cL_law 178 = .ok (.istore 6, 2) := by decide +kernel
theorem dL_law_180 : decode cL_law 180 = .ok (.iconst 0, 1) := by decide +kernel
theorem dL_law_181 : decode cL_law 181 = .ok (.istore 7, 2) := by decide +kernel
theorem dL_law_183 : decode cL_law 183 = .ok (.iload_n 3, 1) := by decide +kernel
theorem dL_law_184 : decode cL_law 184 = .ok (.ifCond .eq 94, 3) := by decide +kernel
theorem dL_law_187 : decode cL_law 187 = .ok (.iload 7, 2) := by decide +kernel
theorem dL_law_189 : decode cL_law 189 = .ok (.getstatic 56, 3) := by decide +kernel
theorem dL_law_192 : decode cL_law 192 = .ok (.arraylength, 1) := by decide +kernel
theorem dL_law_193 : decode cL_law 193 = .ok (.if_icmp .ge 85, 3) := by decide +kernel
theorem dL_law_196 : decode cL_law 196 = .ok (.aload_n 1, 1) := by decide +kernel
theorem dL_law_197 : decode cL_law 197 = .ok (.getstatic 56, 3) := by decide +kernel
theorem dL_law_200 : decode cL_law 200 = .ok (.iload 7, 2) := by decide +kernel
theorem dL_law_202 : decode cL_law 202 = .ok (.aaload, 1) := by decide +kernel
theorem dL_law_203 : decode cL_law 203 = .ok (.invokestatic 62, 3) := by decide +kernel
theorem dL_law_206 : decode cL_law 206 = .ok (.invokevirtual 66, 3) := by decide +kernel
theorem dL_law_209 : decode cL_law 209 = .ok (.istore 8, 2) := by decide +kernel
theorem dL_law_211 : decode cL_law 211 = .ok (.iload 8, 2) := by decide +kernel
theorem dL_law_213 : decode cL_law 213 = .ok (.sipush (-1014), 3) := by decide +kernel
theorem dL_law_216 : decode cL_law 216 = .ok (.if_icmp .ne 26, 3) := by decide +kernel
theorem dL_law_219 : decode cL_law 219 = .ok (.aload_n 1, 1) := by decide +kernel
theorem dL_law_220 : decode cL_law 220 = .ok (.iconst 0, 1) := by decide +kernel
theorem dL_law_221 : decode cL_law 221 = .ok (.iconst 0, 1) := by decide +kernel
theorem dL_law_222 : decode cL_law 222 = .ok (.invokevirtual 136, 3) := by decide +kernel
theorem dL_law_225 : decode cL_law 225 = .ok (.bipush 15, 2) := by decide +kernel
theorem dL_law_227 : decode cL_law 227 = .ok (.if_icmp .ne 43, 3) := by decide +kernel
theorem dL_law_230 : decode cL_law 230 = .ok (.aload_n 1, 1) := by decide +kernel
theorem dL_law_231 : decode cL_law 231 = .ok (.iconst 0, 1) := by decide +kernel
theorem dL_law_232 : decode cL_law 232 = .ok (.iconst 1, 1) := by decide +kernel
theorem dL_law_233 : decode cL_law 233 = .ok (.invokevirtual 136, 3) := by decide +kernel
theorem dL_law_236 : decode cL_law 236 = .ok (.ifCond .lt 34, 3) := by decide +kernel
theorem dL_law_239 : decode cL_law 239 = .ok (.goto 17, 3) := by decide +kernel
theorem dL_law_242 : decode cL_law 242 = .ok (.aload_n 1, 1) := by decide +kernel
theorem dL_law_243 : decode cL_law 243 = .ok (.invokestatic 129, 3) := by decide +kernel
theorem dL_law_246 : decode cL_law 246 = .ok (.ifCond .eq 24, 3) := by decide +kernel
theorem dL_law_249 : decode cL_law 249 = .ok (.aload_n 1, 1) := by decide +kernel
theorem dL_law_250 : decode cL_law 250 = .ok (.invokevirtual 75, 3) := by decide +kernel
theorem dL_law_253 : decode cL_law 253 = .ok (.ifCond .lt 17, 3) := by decide +kernel
theorem dL_law_256 : decode cL_law 256 = .ok (.aload_n 1, 1) := by decide +kernel
theorem dL_law_257 : decode cL_law 257 = .ok (.invokestatic 116, 3) := by decide +kernel
theorem dL_law_260 : decode cL_law 260 = .ok (.lload 4, 2) := by decide +kernel
theorem dL_law_262 : decode cL_law 262 = .ok (.lcmp, 1) := by decide +kernel
theorem dL_law_263 : decode cL_law 263 = .ok (.ifCond .ne 7, 3) := by decide +kernel
theorem dL_law_266 : decode cL_law 266 = .ok (.iconst 1, 1) := by decide +kernel
theorem dL_law_267 : decode cL_law 267 = .ok (.goto 4, 3) := by decide +kernel
theorem dL_law_270 : decode cL_law 270 = .ok (.iconst 0, 1) := by decide +kernel
theorem dL_law_271 : decode cL_law 271 = .ok (.istore_n 3, 1) := by decide +kernel
theorem dL_law_272 : decode cL_law 272 = .ok (.iinc 7 1, 3) := by decide +kernel
theorem dL_law_275 : decode cL_law 275 = .ok (.goto (-92), 3) := by decide +kernel
theorem dL_law_278 : decode cL_law 278 = .ok (.iconst 0, 1) := by decide +kernel
theorem dL_law_279 : decode cL_law 279 = .ok (.istore 7, 2) := by decide +kernel
theorem dL_law_281 : decode cL_law 281 = .ok (.iload_n 3, 1) := by decide +kernel
theorem dL_law_282 : decode cL_law 282 = .ok (.ifCond .eq 69, 3) := by decide +kernel
theorem dL_law_285 : decode cL_law 285 = .ok (.iload 7, 2) := by decide +kernel
theorem dL_law_287 : decode cL_law 287 = .ok (.iconst 3, 1) := by decide +kernel
theorem dL_law_288 : decode cL_law 288 = .ok (.if_icmp .ge 63, 3) := by decide +kernel
theorem dL_law_291 : decode cL_law 291 = .ok (.aload_n 1, 1) := by decide +kernel
theorem dL_law_292 : decode cL_law 292 = .ok (.invokevirtual 38, 3) := by decide +kernel
theorem dL_law_295 : decode cL_law 295 = .ok (.pop, 1) := by decide +kernel
theorem dL_law_296 : decode cL_law 296 = .ok (.aload_n 1, 1) := by decide +kernel
theorem dL_law_297 : decode cL_law 297 = .ok (.iload 7, 2) := by decide +kernel
theorem dL_law_299 : decode cL_law 299 = .ok (.iconst 4, 1) := by decide +kernel
theorem dL_law_300 : decode cL_law 300 = .ok (.invokevirtual 41, 3) := by decide +kernel
theorem dL_law_303 : decode cL_law 303 = .ok (.pop, 1) := by decide +kernel
theorem dL_law_304 : decode cL_law 304 = .ok (.aload_n 1, 1) := by decide +kernel
theorem dL_law_305 : decode cL_law 305 = .ok (.iload 7, 2) := by decide +kernel
theorem dL_law_307 : decode cL_law 307 = .ok (.iconst 1, 1) := by decide +kernel
theorem dL_law_308 : decode cL_law 308 = .ok (.iadd, 1) := by decide +kernel
theorem dL_law_309 : decode cL_law 309 = .ok (.iconst 2, 1) := by decide +kernel
theorem dL_law_310 : decode cL_law 310 = .ok (.iload 7, 2) := by decide +kernel
theorem dL_law_312 : decode cL_law 312 = .ok (.iadd, 1) := by decide +kernel
theorem dL_law_313 : decode cL_law 313 = .ok (.invokevirtual 41, 3) := by decide +kernel
theorem dL_law_316 : decode cL_law 316 = .ok (.pop, 1) := by decide +kernel
theorem dL_law_317 : decode cL_law 317 = .ok (.aload_n 1, 1) := by decide +kernel
theorem dL_law_318 : decode cL_law 318 = .ok (.iconst 1, 1) := by decide +kernel
theorem dL_law_319 : decode cL_law 319 = .ok (.iload 7, 2) := by decide +kernel
theorem dL_law_321 : decode cL_law 321 = .ok (.iadd, 1) := by decide +kernel
theorem dL_law_322 : decode cL_law 322 = .ok (.invokevirtual 47, 3) := by decide +kernel
theorem dL_law_325 : decode cL_law 325 = .ok (.pop, 1) := by decide +kernel
theorem dL_law_326 : decode cL_law 326 = .ok (.aload_n 1, 1) := by decide +kernel
theorem dL_law_327 : decode cL_law 327 = .ok (.iload 7, 2) := by decide +kernel
theorem dL_law_329 : decode cL_law 329 = .ok (.invokevirtual 53, 3) := by decide +kernel
theorem dL_law_332 : decode cL_law 332 = .ok (.pop, 1) := by decide +kernel
theorem dL_law_333 : decode cL_law 333 = .ok (.aload_n 1, 1) := by decide +kernel
theorem dL_law_334 : decode cL_law 334 = .ok (.iload 7, 2) := by decide +kernel
theorem dL_law_336 : decode cL_law 336 = .ok (.invokevirtual 50, 3) := by decide +kernel
theorem dL_law_339 : decode cL_law 339 = .ok (.pop, 1) := by decide +kernel
theorem dL_law_340 : decode cL_law 340 = .ok (.aload_n 1, 1) := by decide +kernel
theorem dL_law_341 : decode cL_law 341 = .ok (.invokestatic 171, 3) := by decide +kernel
theorem dL_law_344 : decode cL_law 344 = .ok (.istore_n 3, 1) := by decide +kernel
theorem dL_law_345 : decode cL_law 345 = .ok (.iinc 7 1, 3) := by decide +kernel
theorem dL_law_348 : decode cL_law 348 = .ok (.goto (-67), 3) := by decide +kernel
theorem dL_law_351 : decode cL_law 351 = .ok (.iload_n 3, 1) := by decide +kernel
theorem dL_law_352 : decode cL_law 352 = .ok (.ifCond .eq 36, 3) := by decide +kernel
theorem dL_law_355 : decode cL_law 355 = .ok (.aload_n 1, 1) := by decide +kernel
theorem dL_law_356 : decode cL_law 356 = .ok (.invokevirtual 72, 3) := by decide +kernel
theorem dL_law_359 : decode cL_law 359 = .ok (.iload 6, 2) := by decide +kernel
theorem dL_law_361 : decode cL_law 361 = .ok (.if_icmp .ne 27, 3) := by decide +kernel
theorem dL_law_364 : decode cL_law 364 = .ok (.aload_n 1, 1) := by decide +kernel
theorem dL_law_365 : decode cL_law 365 = .ok (.invokestatic 116, 3) := by decide +kernel
theorem dL_law_368 : decode cL_law 368 = .ok (.lload 4, 2) := by decide +kernel
theorem dL_law_370 : decode cL_law 370 = .ok (.lcmp, 1) := by decide +kernel
theorem dL_law_371 : decode cL_law 371 = .ok (.ifCond .ne 17, 3) := by decide +kernel
theorem dL_law_374 : decode cL_law 374 = .ok (.aload_n 1, 1) := by decide +kernel
theorem dL_law_375 : decode cL_law 375 = .ok (.invokevirtual 75, 3) := by decide +kernel
theorem dL_law_378 : decode cL_law 378 = .ok (.sipush (-1015), 3) := by decide +kernel
theorem dL_law_381 : decode cL_law 381 = .ok (.if_icmp .ne 7, 3) := by decide +kernel
theorem dL_law_384 : decode cL_law 384 = .ok (.iconst 1, 1) := by decide +kernel
theorem dL_law_385 : decode cL_law 385 = .ok (.goto 4, 3) := by decide +kernel
theorem dL_law_388 : decode cL_law 388 = .ok (.iconst 0, 1) := by decide +kernel
theorem dL_law_389 : decode cL_law 389 = .ok (.ireturn, 1) := by decide +kernel
