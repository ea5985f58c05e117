theorem d_V_put_54 : decode u_V_put.2.1 54 = .ok (.arraylength, 1) := by decide +kernel
theorem d_V_put_55 : decode u_V_put.2.1 55 = .ok (.isub, 1) := by decide +kernel
theorem d_V_put_56 : decode u_V_put.2.1 56 = .ok (.iload_n 1, 1) := by decide +kernel
theorem d_V_put_57 : decode u_V_put.2.1 57 = .ok (.iastore, 1) := by decide +kernel
theorem d_V_put_58 : decode u_V_put.2.1 58 = .ok (.aload_n 0, 1) := by decide +kernel
theorem d_V_put_59 : decode u_V_put.2.1 59 = .ok (.dup, 1) := by decide +kernel
theorem d_V_put_60 : decode u_V_put.2.1 60 = .ok (.getfield 17, 3) := by decide +kernel
theorem d_V_put_63 : decode u_V_put.2.1 63 = .ok (.iconst 1, 1) := by decide +kernel
theorem d_V_put_64 : decode u_V_put.2.1 64 = .ok (.iadd, 1) := by decide +kernel
theorem d_V_put_65 : decode u_V_put.2.1 65 = .ok (.putfield 17, 3) := by decide +kernel
theorem d_V_put_68 : decode u_V_put.2.1 68 = .ok (.iconst 1, 1) := by decide +kernel
theorem d_V_put_69 : decode u_V_put.2.1 69 = .ok (.ireturn, 1) := by decide +kernel
theorem d_V_peek_0 : decode u_V_peek.2.1 0 = .ok (.aload_n 0, 1) := by decide +kernel
theorem d_V_peek_1 : decode u_V_peek.2.1 1 = .ok (.getfield 17, 3) := by decide +kernel
theorem d_V_peek_4 : decode u_V_peek.2.1 4 = .ok (.ifCond .le 15, 3) := by decide +kernel
theorem d_V_peek_7 : decode u_V_peek.2.1 7 = .ok (.aload_n 0, 1) := by decide +kernel
theorem d_V_peek_8 : decode u_V_peek.2.1 8 = .ok (.getfield 7, 3) := by decide +kernel
theorem d_V_peek_11 : decode u_V_peek.2.1 11 = .ok (.aload_n 0, 1) := by decide +kernel
theorem d_V_peek_12 : decode u_V_peek.2.1 12 = .ok (.getfield 13, 3) := by decide +kernel
theorem d_V_peek_15 : decode u_V_peek.2.1 15 = .ok (.iaload, 1) := by decide +kernel
theorem d_V_peek_16 : decode u_V_peek.2.1 16 = .ok (.goto 4, 3) := by decide +kernel
theorem d_V_peek_19 : decode u_V_peek.2.1 19 = .ok (.iconst 0, 1) := by decide +kernel
theorem d_V_peek_20 : decode u_V_peek.2.1 20 = .ok (.ireturn, 1) := by decide +kernel
theorem d_V_take_0 : decode u_V_take.2.1 0 = .ok (.aload_n 0, 1) := by decide +kernel
theorem d_V_take_1 : decode u_V_take.2.1 1 = .ok (.getfield 17, 3) := by decide +kernel
theorem d_V_take_4 : decode u_V_take.2.1 4 = .ok (.ifCond .ne 5, 3) := by decide +kernel
theorem d_V_take_7 : decode u_V_take.2.1 7 = .ok (.iconst 0, 1) := by decide +kernel
theorem d_V_take_8 : decode u_V_take.2.1 8 = .ok (.ireturn, 1) := by decide +kernel
theorem d_V_take_9 : decode u_V_take.2.1 9 = .ok (.aload_n 0, 1) := by decide +kernel
theorem d_V_take_10 : decode u_V_take.2.1 10 = .ok (.getfield 7, 3) := by decide +kernel
theorem d_V_take_13 : decode u_V_take.2.1 13 = .ok (.aload_n 0, 1) := by decide +kernel
theorem d_V_take_14 : decode u_V_take.2.1 14 = .ok (.getfield 13, 3) := by decide +kernel
theorem d_V_take_17 : decode u_V_take.2.1 17 = .ok (.iaload, 1) := by decide +kernel
theorem d_V_take_18 : decode u_V_take.2.1 18 = .ok (.istore_n 1, 1) := by decide +kernel
theorem d_V_take_19 : decode u_V_take.2.1 19 = .ok (.aload_n 0, 1) := by decide +kernel
theorem d_V_take_20 : decode u_V_take.2.1 20 = .ok (.aload_n 0, 1) := by decide +kernel
theorem d_V_take_21 : decode u_V_take.2.1 21 = .ok (.getfield 13, 3) := by decide +kernel
theorem d_V_take_24 : decode u_V_take.2.1 24 = .ok (.iconst 1, 1) := by decide +kernel
theorem d_V_take_25 : decode u_V_take.2.1 25 = .ok (.iadd, 1) := by decide +kernel
theorem d_V_take_26 : decode u_V_take.2.1 26 = .ok (.aload_n 0, 1) := by decide +kernel
theorem d_V_take_27 : decode u_V_take.2.1 27 = .ok (.getfield 7, 3) := by decide +kernel
theorem d_V_take_30 : decode u_V_take.2.1 30 = .ok (.arraylength, 1) := by decide +kernel
theorem d_V_take_31 : decode u_V_take.2.1 31 = .ok (.if_icmp .ge 12, 3) := by decide +kernel
theorem d_V_take_34 : decode u_V_take.2.1 34 = .ok (.aload_n 0, 1) := by decide +kernel
theorem d_V_take_35 : decode u_V_take.2.1 35 = .ok (.getfield 13, 3) := by decide +kernel
theorem d_V_take_38 : decode u_V_take.2.1 38 = .ok (.iconst 1, 1) := by decide +kernel
theorem d_V_take_39 : decode u_V_take.2.1 39 = .ok (.iadd, 1) := by decide +kernel
theorem d_V_take_40 : decode u_V_take.2.1 40 = .ok (.goto 4, 3) := by decide +kernel
theorem d_V_take_43 : decode u_V_take.2.1 43 = .ok (.iconst 0, 1) := by decide +kernel
theorem d_V_take_44 : decode u_V_take.2.1 44 = .ok (.putfield 13, 3) := by decide +kernel
theorem d_V_take_47 : decode u_V_take.2.1 47 = .ok (.aload_n 0, 1) := by decide +kernel
theorem d_V_take_48 : decode u_V_take.2.1 48 = .ok (.dup, 1) := by decide +kernel
theorem d_V_take_49 : decode u_V_take.2.1 49 = .ok (.getfield 17, 3) := by decide +kernel
theorem d_V_take_52 : decode u_V_take.2.1 52 = .ok (.iconst 1, 1) := by decide +kernel
theorem d_V_take_53 : decode u_V_take.2.1 53 = .ok (.isub, 1) := by decide +kernel
theorem d_V_take_54 : decode u_V_take.2.1 54 = .ok (.putfield 17, 3) := by decide +kernel
theorem d_V_take_57 : decode u_V_take.2.1 57 = .ok (.iload_n 1, 1) := by decide +kernel
theorem d_V_take_58 : decode u_V_take.2.1 58 = .ok (.ireturn, 1) := by decide +kernel
theorem d_V_clear_0 : decode u_V_clear.2.1 0 = .ok (.aload_n 0, 1) := by decide +kernel
theorem d_V_clear_1 : decode u_V_clear.2.1 1 = .ok (.iconst 0, 1) := by decide +kernel
theorem d_V_clear_2 : decode u_V_clear.2.1 2 = .ok (.putfield 13, 3) := by decide +kernel
theorem d_V_clear_5 : decode u_V_clear.2.1 5 = .ok (.aload_n 0, 1) := by decide +kernel
theorem d_V_clear_6 : decode u_V_clear.2.1 6 = .ok (.iconst 0, 1) := by decide +kernel
theorem d_V_clear_7 : decode u_V_clear.2.1 7 = .ok (.putfield 17, 3) := by decide +kernel
theorem d_V_clear_10 : decode u_V_clear.2.1 10 = .ok (.return_, 1) := by decide +kernel
theorem d_M_init_0 : decode u_M_init.2.1 0 = .ok (.aload_n 0, 1) := by decide +kernel
theorem d_M_init_1 : decode u_M_init.2.1 1 = .ok (.invokespecial 1, 3) := by decide +kernel
theorem d_M_init_4 : decode u_M_init.2.1 4 = .ok (.aload_n 0, 1) := by decide +kernel
theorem d_M_init_5 : decode u_M_init.2.1 5 = .ok (.iconst 4, 1) := by decide +kernel
theorem d_M_init_6 : decode u_M_init.2.1 6 = .ok (.newarray .int, 2) := by decide +kernel
theorem d_M_init_8 : decode u_M_init.2.1 8 = .ok (.dup, 1) := by decide +kernel
theorem d_M_init_9 : decode u_M_init.2.1 9 = .ok (.iconst 0, 1) := by decide +kernel
theorem d_M_init_10 : decode u_M_init.2.1 10 = .ok (.iconst (-1), 1) := by decide +kernel
theorem d_M_init_11 : decode u_M_init.2.1 11 = .ok (.iastore, 1) := by decide +kernel
theorem d_M_init_12 : decode u_M_init.2.1 12 = .ok (.dup, 1) := by decide +kernel
theorem d_M_init_13 : decode u_M_init.2.1 13 = .ok (.iconst 1, 1) := by decide +kernel
theorem d_M_init_14 : decode u_M_init.2.1 14 = .ok (.iconst (-1), 1) := by decide +kernel
theorem d_M_init_15 : decode u_M_init.2.1 15 = .ok (.iastore, 1) := by decide +kernel
theorem d_M_init_16 : decode u_M_init.2.1 16 = .ok (.dup, 1) := by decide +kernel
theorem d_M_init_17 : decode u_M_init.2.1 17 = .ok (.iconst 2, 1) := by decide +kernel
theorem d_M_init_18 : decode u_M_init.2.1 18 = .ok (.iconst (-1), 1) := by decide +kernel
theorem d_M_init_19 : decode u_M_init.2.1 19 = .ok (.iastore, 1) := by decide +kernel
theorem d_M_init_20 : decode u_M_init.2.1 20 = .ok (.dup, 1) := by decide +kernel
theorem d_M_init_21 : decode u_M_init.2.1 21 = .ok (.iconst 3, 1) := by decide +kernel
theorem d_M_init_22 : decode u_M_init.2.1 22 = .ok (.iconst (-1), 1) := by decide +kernel
theorem d_M_init_23 : decode u_M_init.2.1 23 = .ok (.iastore, 1) := by decide +kernel
theorem d_M_init_24 : decode u_M_init.2.1 24 = .ok (.putfield 7, 3) := by decide +kernel
theorem d_M_init_27 : decode u_M_init.2.1 27 = .ok (.aload_n 0, 1) := by decide +kernel
theorem d_M_init_28 : decode u_M_init.2.1 28 = .ok (.iconst 4, 1) := by decide +kernel
theorem d_M_init_29 : decode u_M_init.2.1 29 = .ok (.newarray .int, 2) := by decide +kernel
theorem d_M_init_31 : decode u_M_init.2.1 31 = .ok (.putfield 13, 3) := by decide +kernel
theorem d_M_init_34 : decode u_M_init.2.1 34 = .ok (.aload_n 0, 1) := by decide +kernel
theorem d_M_init_35 : decode u_M_init.2.1 35 = .ok (.bipush 8, 2) := by decide +kernel
theorem d_M_init_37 : decode u_M_init.2.1 37 = .ok (.newarray .int, 2) := by decide +kernel
theorem d_M_init_39 : decode u_M_init.2.1 39 = .ok (.putfield 16, 3) := by decide +kernel
theorem d_M_init_42 : decode u_M_init.2.1 42 = .ok (.aload_n 0, 1) := by decide +kernel
theorem d_M_init_43 : decode u_M_init.2.1 43 = .ok (.bipush 8, 2) := by decide +kernel
theorem d_M_init_45 : decode u_M_init.2.1 45 = .ok (.newarray .int, 2) := by decide +kernel
theorem d_M_init_47 : decode u_M_init.2.1 47 = .ok (.putfield 19, 3) := by decide +kernel
theorem d_M_init_50 : decode u_M_init.2.1 50 = .ok (.aload_n 0, 1) := by decide +kernel
theorem d_M_init_51 : decode u_M_init.2.1 51 = .ok (.bipush 6, 2) := by decide +kernel
theorem d_M_init_53 : decode u_M_init.2.1 53 = .ok (.newarray .int, 2) := by decide +kernel
theorem d_M_init_55 : decode u_M_init.2.1 55 = .ok (.putfield 22, 3) := by decide +kernel
theorem d_M_init_58 : decode u_M_init.2.1 58 = .ok (.aload_n 0, 1) := by decide +kernel
theorem d_M_init_59 : decode u_M_init.2.1 59 = .ok (.bipush 6, 2) := by decide +kernel
theorem d_M_init_61 : decode u_M_init.2.1 61 = .ok (.newarray .int, 2) := by decide +kernel
theorem d_M_init_63 : decode u_M_init.2.1 63 = .ok (.putfield 25, 3) := by decide +kernel
theorem d_M_init_66 : decode u_M_init.2.1 66 = .ok (.aload_n 0, 1) := by decide +kernel
theorem d_M_init_67 : decode u_M_init.2.1 67 = .ok (.bipush 6, 2) := by decide +kernel
theorem d_M_init_69 : decode u_M_init.2.1 69 = .ok (.newarray .int, 2) := by decide +kernel
theorem d_M_init_71 : decode u_M_init.2.1 71 = .ok (.putfield 28, 3) := by decide +kernel
theorem d_M_init_74 : decode u_M_init.2.1 74 = .ok (.aload_n 0, 1) := by decide +kernel
theorem d_M_init_75 : decode u_M_init.2.1 75 = .ok (.bipush 6, 2) := by decide +kernel
theorem d_M_init_77 : decode u_M_init.2.1 77 = .ok (.newarray .int, 2) := by decide +kernel
theorem d_M_init_79 : decode u_M_init.2.1 79 = .ok (.putfield 31, 3) := by decide +kernel
theorem d_M_init_82 : decode u_M_init.2.1 82 = .ok (.aload_n 0, 1) := by decide +kernel
theorem d_M_init_83 : decode u_M_init.2.1 83 = .ok (.bipush 6, 2) := by decide +kernel
theorem d_M_init_85 : decode u_M_init.2.1 85 = .ok (.newarray .int, 2) := by decide +kernel
theorem d_M_init_87 : decode u_M_init.2.1 87 = .ok (.putfield 34, 3) := by decide +kernel
theorem d_M_init_90 : decode u_M_init.2.1 90 = .ok (.aload_n 0, 1) := by decide +kernel
theorem d_M_init_91 : decode u_M_init.2.1 91 = .ok (.bipush 24, 2) := by decide +kernel
theorem d_M_init_93 : decode u_M_init.2.1 93 = .ok (.newarray .int, 2) := by decide +kernel
theorem d_M_init_95 : decode u_M_init.2.1 95 = .ok (.putfield 37, 3) := by decide +kernel
theorem d_M_init_98 : decode u_M_init.2.1 98 = .ok (.aload_n 0, 1) := by decide +kernel
theorem d_M_init_99 : decode u_M_init.2.1 99 = .ok (.bipush 16, 2) := by decide +kernel
theorem d_M_init_101 : decode u_M_init.2.1 101 = .ok (.newarray .int, 2) := by decide +kernel
theorem d_M_init_103 : decode u_M_init.2.1 103 = .ok (.putfield 40, 3) := by decide +kernel
theorem d_M_init_106 : decode u_M_init.2.1 106 = .ok (.aload_n 0, 1) := by decide +kernel
theorem d_M_init_107 : decode u_M_init.2.1 107 = .ok (.bipush 64, 2) := by decide +kernel
theorem d_M_init_109 : decode u_M_init.2.1 109 = .ok (.newarray .int, 2) := by decide +kernel
theorem d_M_init_111 : decode u_M_init.2.1 111 = .ok (.putfield 43, 3) := by decide +kernel
theorem d_M_init_114 : decode u_M_init.2.1 114 = .ok (.aload_n 0, 1) := by decide +kernel
theorem d_M_init_115 : decode u_M_init.2.1 115 = .ok (.bipush 64, 2) := by decide +kernel
theorem d_M_init_117 : decode u_M_init.2.1 117 = .ok (.newarray .int, 2) := by decide +kernel
theorem d_M_init_119 : decode u_M_init.2.1 119 = .ok (.putfield 46, 3) := by decide +kernel
theorem d_M_init_122 : decode u_M_init.2.1 122 = .ok (.aload_n 0, 1) := by decide +kernel
theorem d_M_init_123 : decode u_M_init.2.1 123 = .ok (.bipush 64, 2) := by decide +kernel
theorem d_M_init_125 : decode u_M_init.2.1 125 = .ok (.newarray .int, 2) := by decide +kernel
theorem d_M_init_127 : decode u_M_init.2.1 127 = .ok (.putfield 49, 3) := by decide +kernel
theorem d_M_init_130 : decode u_M_init.2.1 130 = .ok (.aload_n 0, 1) := by decide +kernel
theorem d_M_init_131 : decode u_M_init.2.1 131 = .ok (.bipush 64, 2) := by decide +kernel
theorem d_M_init_133 : decode u_M_init.2.1 133 = .ok (.newarray .int, 2) := by decide +kernel
theorem d_M_init_135 : decode u_M_init.2.1 135 = .ok (.putfield 52, 3) := by decide +kernel
theorem d_M_init_138 : decode u_M_init.2.1 138 = .ok (.aload_n 0, 1) := by decide +kernel
theorem d_M_init_139 : decode u_M_init.2.1 139 = .ok (.bipush 16, 2) := by decide +kernel
theorem d_M_init_141 : decode u_M_init.2.1 141 = .ok (.newarray .int, 2) := by decide +kernel
theorem d_M_init_143 : decode u_M_init.2.1 143 = .ok (.putfield 55, 3) := by decide +kernel
theorem d_M_init_146 : decode u_M_init.2.1 146 = .ok (.aload_n 0, 1) := by decide +kernel
theorem d_M_init_147 : decode u_M_init.2.1 147 = .ok (.iconst 4, 1) := by decide +kernel
theorem d_M_init_148 : decode u_M_init.2.1 148 = .ok (.newarray .int, 2) := by decide +kernel
theorem d_M_init_150 : decode u_M_init.2.1 150 = .ok (.putfield 58, 3) := by decide +kernel
theorem d_M_init_153 : decode u_M_init.2.1 153 = .ok (.aload_n 0, 1) := by decide +kernel
theorem d_M_init_154 : decode u_M_init.2.1 154 = .ok (.iconst 4, 1) := by decide +kernel
theorem d_M_init_155 : decode u_M_init.2.1 155 = .ok (.newarray .int, 2) := by decide +kernel
theorem d_M_init_157 : decode u_M_init.2.1 157 = .ok (.putfield 61, 3) := by decide +kernel
theorem d_M_init_160 : decode u_M_init.2.1 160 = .ok (.aload_n 0, 1) := by decide +kernel
theorem d_M_init_161 : decode u_M_init.2.1 161 = .ok (.iconst 4, 1) := by decide +kernel
theorem d_M_init_162 : decode u_M_init.2.1 162 = .ok (.newarray .boolean, 2) := by decide +kernel
theorem d_M_init_164 : decode u_M_init.2.1 164 = .ok (.putfield 64, 3) := by decide +kernel
theorem d_M_init_167 : decode u_M_init.2.1 167 = .ok (.aload_n 0, 1) := by decide +kernel
theorem d_M_init_168 : decode u_M_init.2.1 168 = .ok (.iconst 4, 1) := by decide +kernel
theorem d_M_init_169 : decode u_M_init.2.1 169 = .ok (.newarray .boolean, 2) := by decide +kernel
theorem d_M_init_171 : decode u_M_init.2.1 171 = .ok (.putfield 68, 3) := by decide +kernel
theorem d_M_init_174 : decode u_M_init.2.1 174 = .ok (.aload_n 0, 1) := by decide +kernel
theorem d_M_init_175 : decode u_M_init.2.1 175 = .ok (.iconst 4, 1) := by decide +kernel
theorem d_M_init_176 : decode u_M_init.2.1 176 = .ok (.newarray .int, 2) := by decide +kernel
theorem d_M_init_178 : decode u_M_init.2.1 178 = .ok (.putfield 71, 3) := by decide +kernel
theorem d_M_init_181 : decode u_M_init.2.1 181 = .ok (.aload_n 0, 1) := by decide +kernel
theorem d_M_init_182 : decode u_M_init.2.1 182 = .ok (.bipush 32, 2) := by decide +kernel
theorem d_M_init_184 : decode u_M_init.2.1 184 = .ok (.newarray .int, 2) := by decide +kernel
theorem d_M_init_186 : decode u_M_init.2.1 186 = .ok (.putfield 74, 3) := by decide +kernel
theorem d_M_init_189 : decode u_M_init.2.1 189 = .ok (.aload_n 0, 1) := by decide +kernel
theorem d_M_init_190 : decode u_M_init.2.1 190 = .ok (.iconst 4, 1) := by decide +kernel
theorem d_M_init_191 : decode u_M_init.2.1 191 = .ok (.newarray .int, 2) := by decide +kernel
theorem d_M_init_193 : decode u_M_init.2.1 193 = .ok (.putfield 77, 3) := by decide +kernel
theorem d_M_init_196 : decode u_M_init.2.1 196 = .ok (.aload_n 0, 1) := by decide +kernel
theorem d_M_init_197 : decode u_M_init.2.1 197 = .ok (.bipush 64, 2) := by decide +kernel
theorem d_M_init_199 : decode u_M_init.2.1 199 = .ok (.newarray .int, 2) := by decide +kernel
theorem d_M_init_201 : decode u_M_init.2.1 201 = .ok (.putfield 80, 3) := by decide +kernel
theorem d_M_init_204 : decode u_M_init.2.1 204 = .ok (.return_, 1) := by decide +kernel
theorem d_M_in_0 : decode u_M_in.2.1 0 = .ok (.iload_n 0, 1) := by decide +kernel
theorem d_M_in_1 : decode u_M_in.2.1 1 = .ok (.iload_n 1, 1) := by decide +kernel
theorem d_M_in_2 : decode u_M_in.2.1 2 = .ok (.if_icmp .lt 12, 3) := by decide +kernel
theorem d_M_in_5 : decode u_M_in.2.1 5 = .ok (.iload_n 0, 1) := by decide +kernel
theorem d_M_in_6 : decode u_M_in.2.1 6 = .ok (.iload_n 2, 1) := by decide +kernel
theorem d_M_in_7 : decode u_M_in.2.1 7 = .ok (.if_icmp .gt 7, 3) := by decide +kernel
theorem d_M_in_10 : decode u_M_in.2.1 10 = .ok (.iconst 1, 1) := by decide +kernel
theorem d_M_in_11 : decode u_M_in.2.1 11 = .ok (.goto 4, 3) := by decide +kernel
theorem d_M_in_14 : decode u_M_in.2.1 14 = .ok (.iconst 0, 1) := by decide +kernel
theorem d_M_in_15 : decode u_M_in.2.1 15 = .ok (.ireturn, 1) := by decide +kernel
theorem d_M_isOne_0 : decode u_M_isOne.2.1 0 = .ok (.iload_n 0, 1) := by decide +kernel
theorem d_M_isOne_1 : decode u_M_isOne.2.1 1 = .ok (.iconst 0, 1) := by decide +kernel
theorem d_M_isOne_2 : decode u_M_isOne.2.1 2 = .ok (.iconst 3, 1) := by decide +kernel
theorem d_M_isOne_3 : decode u_M_isOne.2.1 3 = .ok (.invokestatic 83, 3) := by decide +kernel
theorem d_M_isOne_6 : decode u_M_isOne.2.1 6 = .ok (.ireturn, 1) := by decide +kernel
theorem d_M_region_0 : decode u_M_region.2.1 0 = .ok (.iload_n 1, 1) := by decide +kernel
theorem d_M_region_1 : decode u_M_region.2.1 1 = .ok (.invokestatic 87, 3) := by decide +kernel
theorem d_M_region_4 : decode u_M_region.2.1 4 = .ok (.ifCond .eq 25, 3) := by decide +kernel
theorem d_M_region_7 : decode u_M_region.2.1 7 = .ok (.iload_n 3, 1) := by decide +kernel
theorem d_M_region_8 : decode u_M_region.2.1 8 = .ok (.iconst 1, 1) := by decide +kernel
theorem d_M_region_9 : decode u_M_region.2.1 9 = .ok (.bipush 32, 2) := by decide +kernel
theorem d_M_region_11 : decode u_M_region.2.1 11 = .ok (.invokestatic 83, 3) := by decide +kernel
theorem d_M_region_14 : decode u_M_region.2.1 14 = .ok (.ifCond .eq 15, 3) := by decide +kernel
theorem d_M_region_17 : decode u_M_region.2.1 17 = .ok (.iload_n 2, 1) := by decide +kernel
theorem d_M_region_18 : decode u_M_region.2.1 18 = .ok (.iconst 0, 1) := by decide +kernel
theorem d_M_region_19 : decode u_M_region.2.1 19 = .ok (.bipush 64, 2) := by decide +kernel
theorem d_M_region_21 : decode u_M_region.2.1 21 = .ok (.iload_n 3, 1) := by decide +kernel
theorem d_M_region_22 : decode u_M_region.2.1 22 = .ok (.isub, 1) := by decide +kernel
theorem d_M_region_23 : decode u_M_region.2.1 23 = .ok (.invokestatic 83, 3) := by decide +kernel
theorem d_M_region_26 : decode u_M_region.2.1 26 = .ok (.ifCond .ne 5, 3) := by decide +kernel
theorem d_M_region_29 : decode u_M_region.2.1 29 = .ok (.iconst 0, 1) := by decide +kernel
theorem d_M_region_30 : decode u_M_region.2.1 30 = .ok (.ireturn, 1) := by decide +kernel
theorem d_M_region_31 : decode u_M_region.2.1 31 = .ok (.aload_n 0, 1) := by decide +kernel
theorem d_M_region_32 : decode u_M_region.2.1 32 = .ok (.getfield 7, 3) := by decide +kernel
theorem d_M_region_35 : decode u_M_region.2.1 35 = .ok (.iload_n 1, 1) := by decide +kernel
theorem d_M_region_36 : decode u_M_region.2.1 36 = .ok (.iload_n 2, 1) := by decide +kernel
theorem d_M_region_37 : decode u_M_region.2.1 37 = .ok (.iastore, 1) := by decide +kernel
theorem d_M_region_38 : decode u_M_region.2.1 38 = .ok (.aload_n 0, 1) := by decide +kernel
theorem d_M_region_39 : decode u_M_region.2.1 39 = .ok (.getfield 13, 3) := by decide +kernel
theorem d_M_region_42 : decode u_M_region.2.1 42 = .ok (.iload_n 1, 1) := by decide +kernel
theorem d_M_region_43 : decode u_M_region.2.1 43 = .ok (.iload_n 3, 1) := by decide +kernel
theorem d_M_region_44 : decode u_M_region.2.1 44 = .ok (.iastore, 1) := by decide +kernel
theorem d_M_region_45 : decode u_M_region.2.1 45 = .ok (.aload_n 0, 1) := by decide +kernel
theorem d_M_region_46 : decode u_M_region.2.1 46 = .ok (.iconst 0, 1) := by decide +kernel
theorem d_M_region_47 : decode u_M_region.2.1 47 = .ok (.putfield 91, 3) := by decide +kernel
theorem d_M_region_50 : decode u_M_region.2.1 50 = .ok (.iconst 1, 1) := by decide +kernel
theorem d_M_region_51 : decode u_M_region.2.1 51 = .ok (.ireturn, 1) := by decide +kernel
theorem d_M_window_0 : decode u_M_window.2.1 0 = .ok (.iload_n 1, 1) := by decide +kernel
theorem d_M_window_1 : decode u_M_window.2.1 1 = .ok (.invokestatic 87, 3) := by decide +kernel
theorem d_M_window_4 : decode u_M_window.2.1 4 = .ok (.ifCond .eq 22, 3) := by decide +kernel
theorem d_M_window_7 : decode u_M_window.2.1 7 = .ok (.iload_n 2, 1) := by decide +kernel
theorem d_M_window_8 : decode u_M_window.2.1 8 = .ok (.iconst 1, 1) := by decide +kernel
theorem d_M_window_9 : decode u_M_window.2.1 9 = .ok (.bipush 9, 2) := by decide +kernel
theorem d_M_window_11 : decode u_M_window.2.1 11 = .ok (.invokestatic 83, 3) := by decide +kernel
theorem d_M_window_14 : decode u_M_window.2.1 14 = .ok (.ifCond .eq 12, 3) := by decide +kernel
theorem d_M_window_17 : decode u_M_window.2.1 17 = .ok (.aload_n 0, 1) := by decide +kernel
theorem d_M_window_18 : decode u_M_window.2.1 18 = .ok (.getfield 95, 3) := by decide +kernel
theorem d_M_window_21 : decode u_M_window.2.1 21 = .ok (.bipush 8, 2) := by decide +kernel
theorem d_M_window_23 : decode u_M_window.2.1 23 = .ok (.if_icmp .ne 5, 3) := by decide +kernel
theorem d_M_window_26 : decode u_M_window.2.1 26 = .ok (.iconst 0, 1) := by decide +kernel
theorem d_M_window_27 : decode u_M_window.2.1 27 = .ok (.ireturn, 1) := by decide +kernel
theorem d_M_window_28 : decode u_M_window.2.1 28 = .ok (.aload_n 0, 1) := by decide +kernel
theorem d_M_window_29 : decode u_M_window.2.1 29 = .ok (.getfield 16, 3) := by decide +kernel
theorem d_M_window_32 : decode u_M_window.2.1 32 = .ok (.aload_n 0, 1) := by decide +kernel
theorem d_M_window_33 : decode u_M_window.2.1 33 = .ok (.getfield 95, 3) := by decide +kernel
theorem d_M_window_36 : decode u_M_window.2.1 36 = .ok (.iload_n 1, 1) := by decide +kernel
theorem d_M_window_37 : decode u_M_window.2.1 37 = .ok (.iastore, 1) := by decide +kernel
theorem d_M_window_38 : decode u_M_window.2.1 38 = .ok (.aload_n 0, 1) := by decide +kernel
theorem d_M_window_39 : decode u_M_window.2.1 39 = .ok (.getfield 19, 3) := by decide +kernel
theorem d_M_window_42 : decode u_M_window.2.1 42 = .ok (.aload_n 0, 1) := by decide +kernel
theorem d_M_window_43 : decode u_M_window.2.1 43 = .ok (.getfield 95, 3) := by decide +kernel
theorem d_M_window_46 : decode u_M_window.2.1 46 = .ok (.iload_n 2, 1) := by decide +kernel
theorem d_M_window_47 : decode u_M_window.2.1 47 = .ok (.iastore, 1) := by decide +kernel
theorem d_M_window_48 : decode u_M_window.2.1 48 = .ok (.aload_n 0, 1) := by decide +kernel
theorem d_M_window_49 : decode u_M_window.2.1 49 = .ok (.dup, 1) := by decide +kernel
theorem d_M_window_50 : decode u_M_window.2.1 50 = .ok (.getfield 95, 3) := by decide +kernel
theorem d_M_window_53 : decode u_M_window.2.1 53 = .ok (.iconst 1, 1) := by decide +kernel
theorem d_M_window_54 : decode u_M_window.2.1 54 = .ok (.iadd, 1) := by decide +kernel
theorem d_M_window_55 : decode u_M_window.2.1 55 = .ok (.putfield 95, 3) := by decide +kernel
theorem d_M_window_58 : decode u_M_window.2.1 58 = .ok (.aload_n 0, 1) := by decide +kernel
theorem d_M_window_59 : decode u_M_window.2.1 59 = .ok (.iconst 0, 1) := by decide +kernel
theorem d_M_window_60 : decode u_M_window.2.1 60 = .ok (.putfield 91, 3) := by decide +kernel
theorem d_M_window_63 : decode u_M_window.2.1 63 = .ok (.iconst 1, 1) := by decide +kernel
theorem d_M_window_64 : decode u_M_window.2.1 64 = .ok (.ireturn, 1) := by decide +kernel
theorem d_M_port_0 : decode u_M_port.2.1 0 = .ok (.iload_n 1, 1) := by decide +kernel
theorem d_M_port_1 : decode u_M_port.2.1 1 = .ok (.invokestatic 87, 3) := by decide +kernel
theorem d_M_port_4 : decode u_M_port.2.1 4 = .ok (.ifCond .eq 33, 3) := by decide +kernel
theorem d_M_port_7 : decode u_M_port.2.1 7 = .ok (.iload_n 2, 1) := by decide +kernel
theorem d_M_port_8 : decode u_M_port.2.1 8 = .ok (.invokestatic 87, 3) := by decide +kernel
theorem d_M_port_11 : decode u_M_port.2.1 11 = .ok (.ifCond .eq 26, 3) := by decide +kernel
theorem d_M_port_14 : decode u_M_port.2.1 14 = .ok (.iload_n 1, 1) := by decide +kernel
theorem d_M_port_15 : decode u_M_port.2.1 15 = .ok (.iload_n 2, 1) := by decide +kernel
theorem d_M_port_16 : decode u_M_port.2.1 16 = .ok (.if_icmp .eq 21, 3) := by decide +kernel
theorem d_M_port_19 : decode u_M_port.2.1 19 = .ok (.iload_n 3, 1) := by decide +kernel
theorem d_M_port_20 : decode u_M_port.2.1 20 = .ok (.iconst 0, 1) := by decide +kernel
theorem d_M_port_21 : decode u_M_port.2.1 21 = .ok (.iconst 4, 1) := by decide +kernel
theorem d_M_port_22 : decode u_M_port.2.1 22 = .ok (.invokestatic 83, 3) := by decide +kernel
theorem d_M_port_25 : decode u_M_port.2.1 25 = .ok (.ifCond .eq 12, 3) := by decide +kernel
theorem d_M_port_28 : decode u_M_port.2.1 28 = .ok (.aload_n 0, 1) := by decide +kernel
theorem d_M_port_29 : decode u_M_port.2.1 29 = .ok (.getfield 99, 3) := by decide +kernel
theorem d_M_port_32 : decode u_M_port.2.1 32 = .ok (.bipush 6, 2) := by decide +kernel
theorem d_M_port_34 : decode u_M_port.2.1 34 = .ok (.if_icmp .ne 5, 3) := by decide +kernel
theorem d_M_port_37 : decode u_M_port.2.1 37 = .ok (.iconst (-1), 1) := by decide +kernel
theorem d_M_port_38 : decode u_M_port.2.1 38 = .ok (.ireturn, 1) := by decide +kernel
theorem d_M_port_39 : decode u_M_port.2.1 39 = .ok (.aload_n 0, 1) := by decide +kernel
theorem d_M_port_40 : decode u_M_port.2.1 40 = .ok (.getfield 22, 3) := by decide +kernel
theorem d_M_port_43 : decode u_M_port.2.1 43 = .ok (.aload_n 0, 1) := by decide +kernel
theorem d_M_port_44 : decode u_M_port.2.1 44 = .ok (.getfield 99, 3) := by decide +kernel
theorem d_M_port_47 : decode u_M_port.2.1 47 = .ok (.iload_n 1, 1) := by decide +kernel
theorem d_M_port_48 : decode u_M_port.2.1 48 = .ok (.iastore, 1) := by decide +kernel
theorem d_M_port_49 : decode u_M_port.2.1 49 = .ok (.aload_n 0, 1) := by decide +kernel
theorem d_M_port_50 : decode u_M_port.2.1 50 = .ok (.getfield 25, 3) := by decide +kernel
theorem d_M_port_53 : decode u_M_port.2.1 53 = .ok (.aload_n 0, 1) := by decide +kernel
theorem d_M_port_54 : decode u_M_port.2.1 54 = .ok (.getfield 99, 3) := by decide +kernel
theorem d_M_port_57 : decode u_M_port.2.1 57 = .ok (.iload_n 2, 1) := by decide +kernel
theorem d_M_port_58 : decode u_M_port.2.1 58 = .ok (.iastore, 1) := by decide +kernel
theorem d_M_port_59 : decode u_M_port.2.1 59 = .ok (.aload_n 0, 1) := by decide +kernel
theorem d_M_port_60 : decode u_M_port.2.1 60 = .ok (.getfield 28, 3) := by decide +kernel
theorem d_M_port_63 : decode u_M_port.2.1 63 = .ok (.aload_n 0, 1) := by decide +kernel
theorem d_M_port_64 : decode u_M_port.2.1 64 = .ok (.getfield 99, 3) := by decide +kernel
theorem d_M_port_67 : decode u_M_port.2.1 67 = .ok (.iload_n 3, 1) := by decide +kernel
theorem d_M_port_68 : decode u_M_port.2.1 68 = .ok (.iastore, 1) := by decide +kernel
theorem d_M_port_69 : decode u_M_port.2.1 69 = .ok (.aload_n 0, 1) := by decide +kernel
theorem d_M_port_70 : decode u_M_port.2.1 70 = .ok (.getfield 31, 3) := by decide +kernel
theorem d_M_port_73 : decode u_M_port.2.1 73 = .ok (.aload_n 0, 1) := by decide +kernel
theorem d_M_port_74 : decode u_M_port.2.1 74 = .ok (.getfield 99, 3) := by decide +kernel
theorem d_M_port_77 : decode u_M_port.2.1 77 = .ok (.iconst 0, 1) := by decide +kernel
theorem d_M_port_78 : decode u_M_port.2.1 78 = .ok (.iastore, 1) := by decide +kernel
theorem d_M_port_79 : decode u_M_port.2.1 79 = .ok (.aload_n 0, 1) := by decide +kernel
theorem d_M_port_80 : decode u_M_port.2.1 80 = .ok (.dup, 1) := by decide +kernel
theorem d_M_port_81 : decode u_M_port.2.1 81 = .ok (.getfield 99, 3) := by decide +kernel
theorem d_M_port_84 : decode u_M_port.2.1 84 = .ok (.iconst 1, 1) := by decide +kernel
theorem d_M_port_85 : decode u_M_port.2.1 85 = .ok (.iadd, 1) := by decide +kernel
theorem d_M_port_86 : decode u_M_port.2.1 86 = .ok (.putfield 99, 3) := by decide +kernel
theorem d_M_port_89 : decode u_M_port.2.1 89 = .ok (.aload_n 0, 1) := by decide +kernel
theorem d_M_port_90 : decode u_M_port.2.1 90 = .ok (.iconst 0, 1) := by decide +kernel
theorem d_M_port_91 : decode u_M_port.2.1 91 = .ok (.putfield 91, 3) := by decide +kernel
theorem d_M_port_94 : decode u_M_port.2.1 94 = .ok (.aload_n 0, 1) := by decide +kernel
theorem d_M_port_95 : decode u_M_port.2.1 95 = .ok (.getfield 99, 3) := by decide +kernel
theorem d_M_port_98 : decode u_M_port.2.1 98 = .ok (.iconst 1, 1) := by decide +kernel
theorem d_M_port_99 : decode u_M_port.2.1 99 = .ok (.isub, 1) := by decide +kernel
theorem d_M_port_100 : decode u_M_port.2.1 100 = .ok (.ireturn, 1) := by decide +kernel
theorem d_M_action_0 : decode u_M_action.2.1 0 = .ok (.iload_n 1, 1) := by decide +kernel
theorem d_M_action_1 : decode u_M_action.2.1 1 = .ok (.invokestatic 87, 3) := by decide +kernel
theorem d_M_action_4 : decode u_M_action.2.1 4 = .ok (.ifCond .eq 21, 3) := by decide +kernel
theorem d_M_action_7 : decode u_M_action.2.1 7 = .ok (.iload_n 2, 1) := by decide +kernel
theorem d_M_action_8 : decode u_M_action.2.1 8 = .ok (.iconst 1, 1) := by decide +kernel
theorem d_M_action_9 : decode u_M_action.2.1 9 = .ok (.iconst 4, 1) := by decide +kernel
theorem d_M_action_10 : decode u_M_action.2.1 10 = .ok (.invokestatic 83, 3) := by decide +kernel
theorem d_M_action_13 : decode u_M_action.2.1 13 = .ok (.ifCond .eq 12, 3) := by decide +kernel
theorem d_M_action_16 : decode u_M_action.2.1 16 = .ok (.iload_n 3, 1) := by decide +kernel
theorem d_M_action_17 : decode u_M_action.2.1 17 = .ok (.iconst 0, 1) := by decide +kernel
theorem d_M_action_18 : decode u_M_action.2.1 18 = .ok (.iconst 2, 1) := by decide +kernel
theorem d_M_action_19 : decode u_M_action.2.1 19 = .ok (.invokestatic 83, 3) := by decide +kernel
theorem d_M_action_22 : decode u_M_action.2.1 22 = .ok (.ifCond .ne 5, 3) := by decide +kernel
theorem d_M_action_25 : decode u_M_action.2.1 25 = .ok (.iconst 0, 1) := by decide +kernel
theorem d_M_action_26 : decode u_M_action.2.1 26 = .ok (.ireturn, 1) := by decide +kernel
theorem d_M_action_27 : decode u_M_action.2.1 27 = .ok (.aload_n 0, 1) := by decide +kernel
theorem d_M_action_28 : decode u_M_action.2.1 28 = .ok (.getfield 40, 3) := by decide +kernel
theorem d_M_action_31 : decode u_M_action.2.1 31 = .ok (.iconst 4, 1) := by decide +kernel
theorem d_M_action_32 : decode u_M_action.2.1 32 = .ok (.iload_n 1, 1) := by decide +kernel
theorem d_M_action_33 : decode u_M_action.2.1 33 = .ok (.imul, 1) := by decide +kernel
theorem d_M_action_34 : decode u_M_action.2.1 34 = .ok (.iload_n 2, 1) := by decide +kernel
theorem d_M_action_35 : decode u_M_action.2.1 35 = .ok (.iadd, 1) := by decide +kernel
theorem d_M_action_36 : decode u_M_action.2.1 36 = .ok (.iconst 1, 1) := by decide +kernel
theorem d_M_action_37 : decode u_M_action.2.1 37 = .ok (.isub, 1) := by decide +kernel
theorem d_M_action_38 : decode u_M_action.2.1 38 = .ok (.iload_n 3, 1) := by decide +kernel
theorem d_M_action_39 : decode u_M_action.2.1 39 = .ok (.iastore, 1) := by decide +kernel
theorem d_M_action_40 : decode u_M_action.2.1 40 = .ok (.aload_n 0, 1) := by decide +kernel
theorem d_M_action_41 : decode u_M_action.2.1 41 = .ok (.iconst 0, 1) := by decide +kernel
theorem d_M_action_42 : decode u_M_action.2.1 42 = .ok (.putfield 91, 3) := by decide +kernel
theorem d_M_action_45 : decode u_M_action.2.1 45 = .ok (.iconst 1, 1) := by decide +kernel
theorem d_M_action_46 : decode u_M_action.2.1 46 = .ok (.ireturn, 1) := by decide +kernel
theorem d_M_code_0 : decode u_M_code.2.1 0 = .ok (.iload_n 1, 1) := by decide +kernel
theorem d_M_code_1 : decode u_M_code.2.1 1 = .ok (.invokestatic 87, 3) := by decide +kernel
theorem d_M_code_4 : decode u_M_code.2.1 4 = .ok (.ifCond .eq 13, 3) := by decide +kernel
theorem d_M_code_7 : decode u_M_code.2.1 7 = .ok (.iload_n 2, 1) := by decide +kernel
theorem d_M_code_8 : decode u_M_code.2.1 8 = .ok (.iconst 0, 1) := by decide +kernel
theorem d_M_code_9 : decode u_M_code.2.1 9 = .ok (.bipush 15, 2) := by decide +kernel
theorem d_M_code_11 : decode u_M_code.2.1 11 = .ok (.invokestatic 83, 3) := by decide +kernel
theorem d_M_code_14 : decode u_M_code.2.1 14 = .ok (.ifCond .ne 5, 3) := by decide +kernel
theorem d_M_code_17 : decode u_M_code.2.1 17 = .ok (.iconst 0, 1) := by decide +kernel
theorem d_M_code_18 : decode u_M_code.2.1 18 = .ok (.ireturn, 1) := by decide +kernel
theorem d_M_code_19 : decode u_M_code.2.1 19 = .ok (.bipush 16, 2) := by decide +kernel
theorem d_M_code_21 : decode u_M_code.2.1 21 = .ok (.iload_n 1, 1) := by decide +kernel
theorem d_M_code_22 : decode u_M_code.2.1 22 = .ok (.imul, 1) := by decide +kernel
theorem d_M_code_23 : decode u_M_code.2.1 23 = .ok (.iload_n 2, 1) := by decide +kernel
theorem d_M_code_24 : decode u_M_code.2.1 24 = .ok (.iadd, 1) := by decide +kernel
theorem d_M_code_25 : decode u_M_code.2.1 25 = .ok (.istore 6, 2) := by decide +kernel
theorem d_M_code_27 : decode u_M_code.2.1 27 = .ok (.aload_n 0, 1) := by decide +kernel
theorem d_M_code_28 : decode u_M_code.2.1 28 = .ok (.getfield 43, 3) := by decide +kernel
theorem d_M_code_31 : decode u_M_code.2.1 31 = .ok (.iload 6, 2) := by decide +kernel
theorem d_M_code_33 : decode u_M_code.2.1 33 = .ok (.iload_n 3, 1) := by decide +kernel
theorem d_M_code_34 : decode u_M_code.2.1 34 = .ok (.iastore, 1) := by decide +kernel
theorem d_M_code_35 : decode u_M_code.2.1 35 = .ok (.aload_n 0, 1) := by decide +kernel
theorem d_M_code_36 : decode u_M_code.2.1 36 = .ok (.getfield 46, 3) := by decide +kernel
theorem d_M_code_39 : decode u_M_code.2.1 39 = .ok (.iload 6, 2) := by decide +kernel
theorem d_M_code_41 : decode u_M_code.2.1 41 = .ok (.iload 4, 2) := by decide +kernel
theorem d_M_code_43 : decode u_M_code.2.1 43 = .ok (.iastore, 1) := by decide +kernel
theorem d_M_code_44 : decode u_M_code.2.1 44 = .ok (.aload_n 0, 1) := by decide +kernel
theorem d_M_code_45 : decode u_M_code.2.1 45 = .ok (.getfield 49, 3) := by decide +kernel
theorem d_M_code_48 : decode u_M_code.2.1 48 = .ok (.iload 6, 2) := by decide +kernel
theorem d_M_code_50 : decode u_M_code.2.1 50 = .ok (.iload 5, 2) := by decide +kernel
theorem d_M_code_52 : decode u_M_code.2.1 52 = .ok (.iastore, 1) := by decide +kernel
theorem d_M_code_53 : decode u_M_code.2.1 53 = .ok (.aload_n 0, 1) := by decide +kernel
theorem d_M_code_54 : decode u_M_code.2.1 54 = .ok (.iconst 0, 1) := by decide +kernel
theorem d_M_code_55 : decode u_M_code.2.1 55 = .ok (.putfield 91, 3) := by decide +kernel
theorem d_M_code_58 : decode u_M_code.2.1 58 = .ok (.iconst 1, 1) := by decide +kernel
theorem d_M_code_59 : decode u_M_code.2.1 59 = .ok (.ireturn, 1) := by decide +kernel
theorem d_M_takesPart_0 : decode u_M_takesPart.2.1 0 = .ok (.aload_n 0, 1) := by decide +kernel
theorem d_M_takesPart_1 : decode u_M_takesPart.2.1 1 = .ok (.getfield 7, 3) := by decide +kernel
theorem d_M_takesPart_4 : decode u_M_takesPart.2.1 4 = .ok (.iload_n 1, 1) := by decide +kernel
theorem d_M_takesPart_5 : decode u_M_takesPart.2.1 5 = .ok (.iaload, 1) := by decide +kernel
theorem d_M_takesPart_6 : decode u_M_takesPart.2.1 6 = .ok (.ifCond .lt 7, 3) := by decide +kernel
theorem d_M_takesPart_9 : decode u_M_takesPart.2.1 9 = .ok (.iconst 1, 1) := by decide +kernel
theorem d_M_takesPart_10 : decode u_M_takesPart.2.1 10 = .ok (.goto 4, 3) := by decide +kernel
theorem d_M_takesPart_13 : decode u_M_takesPart.2.1 13 = .ok (.iconst 0, 1) := by decide +kernel
theorem d_M_takesPart_14 : decode u_M_takesPart.2.1 14 = .ok (.ireturn, 1) := by decide +kernel
theorem d_M_wrong_0 : decode u_M_wrong.2.1 0 = .ok (.iconst 0, 1) := by decide +kernel
theorem d_M_wrong_1 : decode u_M_wrong.2.1 1 = .ok (.istore_n 1, 1) := by decide +kernel
theorem d_M_wrong_2 : decode u_M_wrong.2.1 2 = .ok (.iconst 1, 1) := by decide +kernel
theorem d_M_wrong_3 : decode u_M_wrong.2.1 3 = .ok (.istore_n 2, 1) := by decide +kernel
theorem d_M_wrong_4 : decode u_M_wrong.2.1 4 = .ok (.iconst 1, 1) := by decide +kernel
theorem d_M_wrong_5 : decode u_M_wrong.2.1 5 = .ok (.istore_n 3, 1) := by decide +kernel
theorem d_M_wrong_6 : decode u_M_wrong.2.1 6 = .ok (.iconst 1, 1) := by decide +kernel
theorem d_M_wrong_7 : decode u_M_wrong.2.1 7 = .ok (.istore 4, 2) := by decide +kernel
theorem d_M_wrong_9 : decode u_M_wrong.2.1 9 = .ok (.iconst 0, 1) := by decide +kernel
theorem d_M_wrong_10 : decode u_M_wrong.2.1 10 = .ok (.istore 5, 2) := by decide +kernel
theorem d_M_wrong_12 : decode u_M_wrong.2.1 12 = .ok (.iload 5, 2) := by decide +kernel
theorem d_M_wrong_14 : decode u_M_wrong.2.1 14 = .ok (.iconst 4, 1) := by decide +kernel
theorem d_M_wrong_15 : decode u_M_wrong.2.1 15 = .ok (.if_icmp .ge 200, 3) := by decide +kernel
theorem d_M_wrong_18 : decode u_M_wrong.2.1 18 = .ok (.iload_n 1, 1) := by decide +kernel
theorem d_M_wrong_19 : decode u_M_wrong.2.1 19 = .ok (.ifCond .ne 12, 3) := by decide +kernel
theorem d_M_wrong_22 : decode u_M_wrong.2.1 22 = .ok (.aload_n 0, 1) := by decide +kernel
theorem d_M_wrong_23 : decode u_M_wrong.2.1 23 = .ok (.iload 5, 2) := by decide +kernel
theorem d_M_wrong_25 : decode u_M_wrong.2.1 25 = .ok (.invokevirtual 102, 3) := by decide +kernel
theorem d_M_wrong_28 : decode u_M_wrong.2.1 28 = .ok (.ifCond .eq 7, 3) := by decide +kernel
theorem d_M_wrong_31 : decode u_M_wrong.2.1 31 = .ok (.iconst 1, 1) := by decide +kernel
theorem d_M_wrong_32 : decode u_M_wrong.2.1 32 = .ok (.goto 4, 3) := by decide +kernel
theorem d_M_wrong_35 : decode u_M_wrong.2.1 35 = .ok (.iconst 0, 1) := by decide +kernel
theorem d_M_wrong_36 : decode u_M_wrong.2.1 36 = .ok (.istore_n 1, 1) := by decide +kernel
theorem d_M_wrong_37 : decode u_M_wrong.2.1 37 = .ok (.iconst 0, 1) := by decide +kernel
theorem d_M_wrong_38 : decode u_M_wrong.2.1 38 = .ok (.istore 6, 2) := by decide +kernel
theorem d_M_wrong_40 : decode u_M_wrong.2.1 40 = .ok (.iconst 0, 1) := by decide +kernel
theorem d_M_wrong_41 : decode u_M_wrong.2.1 41 = .ok (.istore 7, 2) := by decide +kernel
theorem d_M_wrong_43 : decode u_M_wrong.2.1 43 = .ok (.iload 7, 2) := by decide +kernel
theorem d_M_wrong_45 : decode u_M_wrong.2.1 45 = .ok (.aload_n 0, 1) := by decide +kernel
theorem d_M_wrong_46 : decode u_M_wrong.2.1 46 = .ok (.getfield 95, 3) := by decide +kernel
theorem d_M_wrong_49 : decode u_M_wrong.2.1 49 = .ok (.if_icmp .ge 33, 3) := by decide +kernel
theorem d_M_wrong_52 : decode u_M_wrong.2.1 52 = .ok (.iload 6, 2) := by decide +kernel
theorem d_M_wrong_54 : decode u_M_wrong.2.1 54 = .ok (.ifCond .ne 15, 3) := by decide +kernel
theorem d_M_wrong_57 : decode u_M_wrong.2.1 57 = .ok (.aload_n 0, 1) := by decide +kernel
theorem d_M_wrong_58 : decode u_M_wrong.2.1 58 = .ok (.getfield 16, 3) := by decide +kernel
theorem d_M_wrong_61 : decode u_M_wrong.2.1 61 = .ok (.iload 7, 2) := by decide +kernel
theorem d_M_wrong_63 : decode u_M_wrong.2.1 63 = .ok (.iaload, 1) := by decide +kernel
theorem d_M_wrong_64 : decode u_M_wrong.2.1 64 = .ok (.iload 5, 2) := by decide +kernel
theorem d_M_wrong_66 : decode u_M_wrong.2.1 66 = .ok (.if_icmp .ne 7, 3) := by decide +kernel
theorem d_M_wrong_69 : decode u_M_wrong.2.1 69 = .ok (.iconst 1, 1) := by decide +kernel
theorem d_M_wrong_70 : decode u_M_wrong.2.1 70 = .ok (.goto 4, 3) := by decide +kernel
theorem d_M_wrong_73 : decode u_M_wrong.2.1 73 = .ok (.iconst 0, 1) := by decide +kernel
theorem d_M_wrong_74 : decode u_M_wrong.2.1 74 = .ok (.istore 6, 2) := by decide +kernel
theorem d_M_wrong_76 : decode u_M_wrong.2.1 76 = .ok (.iinc 7 1, 3) := by decide +kernel
theorem d_M_wrong_79 : decode u_M_wrong.2.1 79 = .ok (.goto (-36), 3) := by decide +kernel
theorem d_M_wrong_82 : decode u_M_wrong.2.1 82 = .ok (.iload_n 3, 1) := by decide +kernel
theorem d_M_wrong_83 : decode u_M_wrong.2.1 83 = .ok (.ifCond .eq 18, 3) := by decide +kernel
theorem d_M_wrong_86 : decode u_M_wrong.2.1 86 = .ok (.iload 6, 2) := by decide +kernel
theorem d_M_wrong_88 : decode u_M_wrong.2.1 88 = .ok (.aload_n 0, 1) := by decide +kernel
theorem d_M_wrong_89 : decode u_M_wrong.2.1 89 = .ok (.iload 5, 2) := by decide +kernel
theorem d_M_wrong_91 : decode u_M_wrong.2.1 91 = .ok (.invokevirtual 102, 3) := by decide +kernel
theorem d_M_wrong_94 : decode u_M_wrong.2.1 94 = .ok (.if_icmp .ne 7, 3) := by decide +kernel
theorem d_M_wrong_97 : decode u_M_wrong.2.1 97 = .ok (.iconst 1, 1) := by decide +kernel
theorem d_M_wrong_98 : decode u_M_wrong.2.1 98 = .ok (.goto 4, 3) := by decide +kernel
theorem d_M_wrong_101 : decode u_M_wrong.2.1 101 = .ok (.iconst 0, 1) := by decide +kernel
theorem d_M_wrong_102 : decode u_M_wrong.2.1 102 = .ok (.istore_n 3, 1) := by decide +kernel
theorem d_M_wrong_103 : decode u_M_wrong.2.1 103 = .ok (.iconst 0, 1) := by decide +kernel
theorem d_M_wrong_104 : decode u_M_wrong.2.1 104 = .ok (.istore 7, 2) := by decide +kernel
theorem d_M_wrong_106 : decode u_M_wrong.2.1 106 = .ok (.iload 7, 2) := by decide +kernel
theorem d_M_wrong_108 : decode u_M_wrong.2.1 108 = .ok (.iload 5, 2) := by decide +kernel
theorem d_M_wrong_110 : decode u_M_wrong.2.1 110 = .ok (.if_icmp .ge 99, 3) := by decide +kernel
theorem d_M_wrong_113 : decode u_M_wrong.2.1 113 = .ok (.aload_n 0, 1) := by decide +kernel
theorem d_M_wrong_114 : decode u_M_wrong.2.1 114 = .ok (.iload 5, 2) := by decide +kernel
theorem d_M_wrong_116 : decode u_M_wrong.2.1 116 = .ok (.invokevirtual 102, 3) := by decide +kernel
theorem d_M_wrong_119 : decode u_M_wrong.2.1 119 = .ok (.ifCond .eq 16, 3) := by decide +kernel
theorem d_M_wrong_122 : decode u_M_wrong.2.1 122 = .ok (.aload_n 0, 1) := by decide +kernel
theorem d_M_wrong_123 : decode u_M_wrong.2.1 123 = .ok (.iload 7, 2) := by decide +kernel
theorem d_M_wrong_125 : decode u_M_wrong.2.1 125 = .ok (.invokevirtual 102, 3) := by decide +kernel
theorem d_M_wrong_128 : decode u_M_wrong.2.1 128 = .ok (.ifCond .eq 7, 3) := by decide +kernel
theorem d_M_wrong_131 : decode u_M_wrong.2.1 131 = .ok (.iconst 1, 1) := by decide +kernel
theorem d_M_wrong_132 : decode u_M_wrong.2.1 132 = .ok (.goto 4, 3) := by decide +kernel
theorem d_M_wrong_135 : decode u_M_wrong.2.1 135 = .ok (.iconst 0, 1) := by decide +kernel
theorem d_M_wrong_136 : decode u_M_wrong.2.1 136 = .ok (.istore 8, 2) := by decide +kernel
theorem d_M_wrong_138 : decode u_M_wrong.2.1 138 = .ok (.iload_n 2, 1) := by decide +kernel
theorem d_M_wrong_139 : decode u_M_wrong.2.1 139 = .ok (.ifCond .eq 62, 3) := by decide +kernel
theorem d_M_wrong_142 : decode u_M_wrong.2.1 142 = .ok (.iload 8, 2) := by decide +kernel
theorem d_M_wrong_144 : decode u_M_wrong.2.1 144 = .ok (.ifCond .eq 53, 3) := by decide +kernel
theorem d_M_wrong_147 : decode u_M_wrong.2.1 147 = .ok (.aload_n 0, 1) := by decide +kernel
theorem d_M_wrong_148 : decode u_M_wrong.2.1 148 = .ok (.getfield 7, 3) := by decide +kernel
theorem d_M_wrong_151 : decode u_M_wrong.2.1 151 = .ok (.iload 5, 2) := by decide +kernel
theorem d_M_wrong_153 : decode u_M_wrong.2.1 153 = .ok (.iaload, 1) := by decide +kernel
theorem d_M_wrong_154 : decode u_M_wrong.2.1 154 = .ok (.aload_n 0, 1) := by decide +kernel
theorem d_M_wrong_155 : decode u_M_wrong.2.1 155 = .ok (.getfield 7, 3) := by decide +kernel
theorem d_M_wrong_158 : decode u_M_wrong.2.1 158 = .ok (.iload 7, 2) := by decide +kernel
theorem d_M_wrong_160 : decode u_M_wrong.2.1 160 = .ok (.iaload, 1) := by decide +kernel
theorem d_M_wrong_161 : decode u_M_wrong.2.1 161 = .ok (.aload_n 0, 1) := by decide +kernel
theorem d_M_wrong_162 : decode u_M_wrong.2.1 162 = .ok (.getfield 13, 3) := by decide +kernel
theorem d_M_wrong_165 : decode u_M_wrong.2.1 165 = .ok (.iload 7, 2) := by decide +kernel
theorem d_M_wrong_167 : decode u_M_wrong.2.1 167 = .ok (.iaload, 1) := by decide +kernel
theorem d_M_wrong_168 : decode u_M_wrong.2.1 168 = .ok (.iadd, 1) := by decide +kernel
theorem d_M_wrong_169 : decode u_M_wrong.2.1 169 = .ok (.if_icmp .ge 28, 3) := by decide +kernel
theorem d_M_wrong_172 : decode u_M_wrong.2.1 172 = .ok (.aload_n 0, 1) := by decide +kernel
theorem d_M_wrong_173 : decode u_M_wrong.2.1 173 = .ok (.getfield 7, 3) := by decide +kernel
theorem d_M_wrong_176 : decode u_M_wrong.2.1 176 = .ok (.iload 7, 2) := by decide +kernel
theorem d_M_wrong_178 : decode u_M_wrong.2.1 178 = .ok (.iaload, 1) := by decide +kernel
theorem d_M_wrong_179 : decode u_M_wrong.2.1 179 = .ok (.aload_n 0, 1) := by decide +kernel
theorem d_M_wrong_180 : decode u_M_wrong.2.1 180 = .ok (.getfield 7, 3) := by decide +kernel
theorem d_M_wrong_183 : decode u_M_wrong.2.1 183 = .ok (.iload 5, 2) := by decide +kernel
theorem d_M_wrong_185 : decode u_M_wrong.2.1 185 = .ok (.iaload, 1) := by decide +kernel
theorem d_M_wrong_186 : decode u_M_wrong.2.1 186 = .ok (.aload_n 0, 1) := by decide +kernel
theorem d_M_wrong_187 : decode u_M_wrong.2.1 187 = .ok (.getfield 13, 3) := by decide +kernel
theorem d_M_wrong_190 : decode u_M_wrong.2.1 190 = .ok (.iload 5, 2) := by decide +kernel
theorem d_M_wrong_192 : decode u_M_wrong.2.1 192 = .ok (.iaload, 1) := by decide +kernel
theorem d_M_wrong_193 : decode u_M_wrong.2.1 193 = .ok (.iadd, 1) := by decide +kernel
theorem d_M_wrong_194 : decode u_M_wrong.2.1 194 = .ok (.if_icmp .lt 7, 3) := by decide +kernel
theorem d_M_wrong_197 : decode u_M_wrong.2.1 197 = .ok (.iconst 1, 1) := by decide +kernel
theorem d_M_wrong_198 : decode u_M_wrong.2.1 198 = .ok (.goto 4, 3) := by decide +kernel
theorem d_M_wrong_201 : decode u_M_wrong.2.1 201 = .ok (.iconst 0, 1) := by decide +kernel
theorem d_M_wrong_202 : decode u_M_wrong.2.1 202 = .ok (.istore_n 2, 1) := by decide +kernel
theorem d_M_wrong_203 : decode u_M_wrong.2.1 203 = .ok (.iinc 7 1, 3) := by decide +kernel
theorem d_M_wrong_206 : decode u_M_wrong.2.1 206 = .ok (.goto (-100), 3) := by decide +kernel
theorem d_M_wrong_209 : decode u_M_wrong.2.1 209 = .ok (.iinc 5 1, 3) := by decide +kernel
theorem d_M_wrong_212 : decode u_M_wrong.2.1 212 = .ok (.goto (-200), 3) := by decide +kernel
theorem d_M_wrong_215 : decode u_M_wrong.2.1 215 = .ok (.iconst 0, 1) := by decide +kernel
theorem d_M_wrong_216 : decode u_M_wrong.2.1 216 = .ok (.istore 5, 2) := by decide +kernel
theorem d_M_wrong_218 : decode u_M_wrong.2.1 218 = .ok (.iload 5, 2) := by decide +kernel
theorem d_M_wrong_220 : decode u_M_wrong.2.1 220 = .ok (.aload_n 0, 1) := by decide +kernel
theorem d_M_wrong_221 : decode u_M_wrong.2.1 221 = .ok (.getfield 99, 3) := by decide +kernel
theorem d_M_wrong_224 : decode u_M_wrong.2.1 224 = .ok (.if_icmp .ge 49, 3) := by decide +kernel
theorem d_M_wrong_227 : decode u_M_wrong.2.1 227 = .ok (.iload 4, 2) := by decide +kernel
theorem d_M_wrong_229 : decode u_M_wrong.2.1 229 = .ok (.ifCond .eq 35, 3) := by decide +kernel
theorem d_M_wrong_232 : decode u_M_wrong.2.1 232 = .ok (.aload_n 0, 1) := by decide +kernel
theorem d_M_wrong_233 : decode u_M_wrong.2.1 233 = .ok (.aload_n 0, 1) := by decide +kernel
theorem d_M_wrong_234 : decode u_M_wrong.2.1 234 = .ok (.getfield 22, 3) := by decide +kernel
theorem d_M_wrong_237 : decode u_M_wrong.2.1 237 = .ok (.iload 5, 2) := by decide +kernel
theorem d_M_wrong_239 : decode u_M_wrong.2.1 239 = .ok (.iaload, 1) := by decide +kernel
theorem d_M_wrong_240 : decode u_M_wrong.2.1 240 = .ok (.invokevirtual 102, 3) := by decide +kernel
theorem d_M_wrong_243 : decode u_M_wrong.2.1 243 = .ok (.ifCond .eq 21, 3) := by decide +kernel
theorem d_M_wrong_246 : decode u_M_wrong.2.1 246 = .ok (.aload_n 0, 1) := by decide +kernel
theorem d_M_wrong_247 : decode u_M_wrong.2.1 247 = .ok (.aload_n 0, 1) := by decide +kernel
theorem d_M_wrong_248 : decode u_M_wrong.2.1 248 = .ok (.getfield 25, 3) := by decide +kernel
theorem d_M_wrong_251 : decode u_M_wrong.2.1 251 = .ok (.iload 5, 2) := by decide +kernel
theorem d_M_wrong_253 : decode u_M_wrong.2.1 253 = .ok (.iaload, 1) := by decide +kernel
theorem d_M_wrong_254 : decode u_M_wrong.2.1 254 = .ok (.invokevirtual 102, 3) := by decide +kernel
theorem d_M_wrong_257 : decode u_M_wrong.2.1 257 = .ok (.ifCond .eq 7, 3) := by decide +kernel
theorem d_M_wrong_260 : decode u_M_wrong.2.1 260 = .ok (.iconst 1, 1) := by decide +kernel
theorem d_M_wrong_261 : decode u_M_wrong.2.1 261 = .ok (.goto 4, 3) := by decide +kernel
theorem d_M_wrong_264 : decode u_M_wrong.2.1 264 = .ok (.iconst 0, 1) := by decide +kernel
theorem d_M_wrong_265 : decode u_M_wrong.2.1 265 = .ok (.istore 4, 2) := by decide +kernel
theorem d_M_wrong_267 : decode u_M_wrong.2.1 267 = .ok (.iinc 5 1, 3) := by decide +kernel
theorem d_M_wrong_270 : decode u_M_wrong.2.1 270 = .ok (.goto (-52), 3) := by decide +kernel
theorem d_M_wrong_273 : decode u_M_wrong.2.1 273 = .ok (.iload_n 1, 1) := by decide +kernel
theorem d_M_wrong_274 : decode u_M_wrong.2.1 274 = .ok (.ifCond .ne 7, 3) := by decide +kernel
theorem d_M_wrong_277 : decode u_M_wrong.2.1 277 = .ok (.iconst 1, 1) := by decide +kernel
theorem d_M_wrong_278 : decode u_M_wrong.2.1 278 = .ok (.goto 29, 3) := by decide +kernel
theorem d_M_wrong_281 : decode u_M_wrong.2.1 281 = .ok (.iload_n 2, 1) := by decide +kernel
theorem d_M_wrong_282 : decode u_M_wrong.2.1 282 = .ok (.ifCond .ne 7, 3) := by decide +kernel
theorem d_M_wrong_285 : decode u_M_wrong.2.1 285 = .ok (.iconst 2, 1) := by decide +kernel
theorem d_M_wrong_286 : decode u_M_wrong.2.1 286 = .ok (.goto 21, 3) := by decide +kernel
theorem d_M_wrong_289 : decode u_M_wrong.2.1 289 = .ok (.iload_n 3, 1) := by decide +kernel
theorem d_M_wrong_290 : decode u_M_wrong.2.1 290 = .ok (.ifCond .ne 7, 3) := by decide +kernel
theorem d_M_wrong_293 : decode u_M_wrong.2.1 293 = .ok (.iconst 3, 1) := by decide +kernel
theorem d_M_wrong_294 : decode u_M_wrong.2.1 294 = .ok (.goto 13, 3) := by decide +kernel
theorem d_M_wrong_297 : decode u_M_wrong.2.1 297 = .ok (.iload 4, 2) := by decide +kernel
theorem d_M_wrong_299 : decode u_M_wrong.2.1 299 = .ok (.ifCond .eq 7, 3) := by decide +kernel
theorem d_M_wrong_302 : decode u_M_wrong.2.1 302 = .ok (.iconst 0, 1) := by decide +kernel
theorem d_M_wrong_303 : decode u_M_wrong.2.1 303 = .ok (.goto 4, 3) := by decide +kernel
theorem d_M_wrong_306 : decode u_M_wrong.2.1 306 = .ok (.iconst 4, 1) := by decide +kernel
theorem d_M_wrong_307 : decode u_M_wrong.2.1 307 = .ok (.ireturn, 1) := by decide +kernel
theorem d_M_start_0 : decode u_M_start.2.1 0 = .ok (.aload_n 0, 1) := by decide +kernel
theorem d_M_start_1 : decode u_M_start.2.1 1 = .ok (.invokevirtual 105, 3) := by decide +kernel
theorem d_M_start_4 : decode u_M_start.2.1 4 = .ok (.istore_n 1, 1) := by decide +kernel
theorem d_M_start_5 : decode u_M_start.2.1 5 = .ok (.iload_n 1, 1) := by decide +kernel
theorem d_M_start_6 : decode u_M_start.2.1 6 = .ok (.ifCond .le 5, 3) := by decide +kernel
theorem d_M_start_9 : decode u_M_start.2.1 9 = .ok (.iload_n 1, 1) := by decide +kernel
theorem d_M_start_10 : decode u_M_start.2.1 10 = .ok (.ireturn, 1) := by decide +kernel
theorem d_M_start_11 : decode u_M_start.2.1 11 = .ok (.iconst 0, 1) := by decide +kernel
theorem d_M_start_12 : decode u_M_start.2.1 12 = .ok (.istore_n 2, 1) := by decide +kernel
theorem d_M_start_13 : decode u_M_start.2.1 13 = .ok (.iload_n 2, 1) := by decide +kernel
theorem d_M_start_14 : decode u_M_start.2.1 14 = .ok (.bipush 64, 2) := by decide +kernel
theorem d_M_start_16 : decode u_M_start.2.1 16 = .ok (.if_icmp .ge 16, 3) := by decide +kernel
theorem d_M_start_19 : decode u_M_start.2.1 19 = .ok (.aload_n 0, 1) := by decide +kernel
theorem d_M_start_20 : decode u_M_start.2.1 20 = .ok (.getfield 52, 3) := by decide +kernel
theorem d_M_start_23 : decode u_M_start.2.1 23 = .ok (.iload_n 2, 1) := by decide +kernel
theorem d_M_start_24 : decode u_M_start.2.1 24 = .ok (.iconst 0, 1) := by decide +kernel
theorem d_M_start_25 : decode u_M_start.2.1 25 = .ok (.iastore, 1) := by decide +kernel
theorem d_M_start_26 : decode u_M_start.2.1 26 = .ok (.iinc 2 1, 3) := by decide +kernel
theorem d_M_start_29 : decode u_M_start.2.1 29 = .ok (.goto (-16), 3) := by decide +kernel
theorem d_M_start_32 : decode u_M_start.2.1 32 = .ok (.iconst 0, 1) := by decide +kernel
theorem d_M_start_33 : decode u_M_start.2.1 33 = .ok (.istore_n 2, 1) := by decide +kernel
theorem d_M_start_34 : decode u_M_start.2.1 34 = .ok (.iload_n 2, 1) := by decide +kernel
theorem d_M_start_35 : decode u_M_start.2.1 35 = .ok (.bipush 16, 2) := by decide +kernel
theorem d_M_start_37 : decode u_M_start.2.1 37 = .ok (.if_icmp .ge 16, 3) := by decide +kernel
theorem d_M_start_40 : decode u_M_start.2.1 40 = .ok (.aload_n 0, 1) := by decide +kernel
theorem d_M_start_41 : decode u_M_start.2.1 41 = .ok (.getfield 55, 3) := by decide +kernel
theorem d_M_start_44 : decode u_M_start.2.1 44 = .ok (.iload_n 2, 1) := by decide +kernel
theorem d_M_start_45 : decode u_M_start.2.1 45 = .ok (.iconst 0, 1) := by decide +kernel
theorem d_M_start_46 : decode u_M_start.2.1 46 = .ok (.iastore, 1) := by decide +kernel
theorem d_M_start_47 : decode u_M_start.2.1 47 = .ok (.iinc 2 1, 3) := by decide +kernel
theorem d_M_start_50 : decode u_M_start.2.1 50 = .ok (.goto (-16), 3) := by decide +kernel
theorem d_M_start_53 : decode u_M_start.2.1 53 = .ok (.iconst 0, 1) := by decide +kernel
theorem d_M_start_54 : decode u_M_start.2.1 54 = .ok (.istore_n 2, 1) := by decide +kernel
theorem d_M_start_55 : decode u_M_start.2.1 55 = .ok (.iload_n 2, 1) := by decide +kernel
theorem d_M_start_56 : decode u_M_start.2.1 56 = .ok (.bipush 6, 2) := by decide +kernel
theorem d_M_start_58 : decode u_M_start.2.1 58 = .ok (.if_icmp .ge 16, 3) := by decide +kernel
theorem d_M_start_61 : decode u_M_start.2.1 61 = .ok (.aload_n 0, 1) := by decide +kernel
theorem d_M_start_62 : decode u_M_start.2.1 62 = .ok (.getfield 31, 3) := by decide +kernel
theorem d_M_start_65 : decode u_M_start.2.1 65 = .ok (.iload_n 2, 1) := by decide +kernel
theorem d_M_start_66 : decode u_M_start.2.1 66 = .ok (.iconst 0, 1) := by decide +kernel
theorem d_M_start_67 : decode u_M_start.2.1 67 = .ok (.iastore, 1) := by decide +kernel
theorem d_M_start_68 : decode u_M_start.2.1 68 = .ok (.iinc 2 1, 3) := by decide +kernel
theorem d_M_start_71 : decode u_M_start.2.1 71 = .ok (.goto (-16), 3) := by decide +kernel
theorem d_M_start_74 : decode u_M_start.2.1 74 = .ok (.iconst 0, 1) := by decide +kernel
theorem d_M_start_75 : decode u_M_start.2.1 75 = .ok (.istore_n 2, 1) := by decide +kernel
theorem d_M_start_76 : decode u_M_start.2.1 76 = .ok (.iload_n 2, 1) := by decide +kernel
theorem d_M_start_77 : decode u_M_start.2.1 77 = .ok (.iconst 4, 1) := by decide +kernel
theorem d_M_start_78 : decode u_M_start.2.1 78 = .ok (.if_icmp .ge 41, 3) := by decide +kernel
theorem d_M_start_81 : decode u_M_start.2.1 81 = .ok (.aload_n 0, 1) := by decide +kernel
theorem d_M_start_82 : decode u_M_start.2.1 82 = .ok (.getfield 58, 3) := by decide +kernel
theorem d_M_start_85 : decode u_M_start.2.1 85 = .ok (.iload_n 2, 1) := by decide +kernel
theorem d_M_start_86 : decode u_M_start.2.1 86 = .ok (.iconst 0, 1) := by decide +kernel
theorem d_M_start_87 : decode u_M_start.2.1 87 = .ok (.iastore, 1) := by decide +kernel
theorem d_M_start_88 : decode u_M_start.2.1 88 = .ok (.aload_n 0, 1) := by decide +kernel
theorem d_M_start_89 : decode u_M_start.2.1 89 = .ok (.getfield 61, 3) := by decide +kernel
theorem d_M_start_92 : decode u_M_start.2.1 92 = .ok (.iload_n 2, 1) := by decide +kernel
theorem d_M_start_93 : decode u_M_start.2.1 93 = .ok (.iconst 0, 1) := by decide +kernel
theorem d_M_start_94 : decode u_M_start.2.1 94 = .ok (.iastore, 1) := by decide +kernel
theorem d_M_start_95 : decode u_M_start.2.1 95 = .ok (.aload_n 0, 1) := by decide +kernel
theorem d_M_start_96 : decode u_M_start.2.1 96 = .ok (.getfield 64, 3) := by decide +kernel
theorem d_M_start_99 : decode u_M_start.2.1 99 = .ok (.iload_n 2, 1) := by decide +kernel
theorem d_M_start_100 : decode u_M_start.2.1 100 = .ok (.aload_n 0, 1) := by decide +kernel
theorem d_M_start_101 : decode u_M_start.2.1 101 = .ok (.iload_n 2, 1) := by decide +kernel
theorem d_M_start_102 : decode u_M_start.2.1 102 = .ok (.invokevirtual 102, 3) := by decide +kernel
theorem d_M_start_105 : decode u_M_start.2.1 105 = .ok (.bastore, 1) := by decide +kernel
theorem d_M_start_106 : decode u_M_start.2.1 106 = .ok (.aload_n 0, 1) := by decide +kernel
theorem d_M_start_107 : decode u_M_start.2.1 107 = .ok (.getfield 68, 3) := by decide +kernel
theorem d_M_start_110 : decode u_M_start.2.1 110 = .ok (.iload_n 2, 1) := by decide +kernel
theorem d_M_start_111 : decode u_M_start.2.1 111 = .ok (.iconst 0, 1) := by decide +kernel
theorem d_M_start_112 : decode u_M_start.2.1 112 = .ok (.bastore, 1) := by decide +kernel
theorem d_M_start_113 : decode u_M_start.2.1 113 = .ok (.iinc 2 1, 3) := by decide +kernel
theorem d_M_start_116 : decode u_M_start.2.1 116 = .ok (.goto (-40), 3) := by decide +kernel
theorem d_M_start_119 : decode u_M_start.2.1 119 = .ok (.aload_n 0, 1) := by decide +kernel
theorem d_M_start_120 : decode u_M_start.2.1 120 = .ok (.iconst 0, 1) := by decide +kernel
theorem d_M_start_121 : decode u_M_start.2.1 121 = .ok (.putfield 109, 3) := by decide +kernel
theorem d_M_start_124 : decode u_M_start.2.1 124 = .ok (.aload_n 0, 1) := by decide +kernel
theorem d_M_start_125 : decode u_M_start.2.1 125 = .ok (.iconst 0, 1) := by decide +kernel
theorem d_M_start_126 : decode u_M_start.2.1 126 = .ok (.putfield 112, 3) := by decide +kernel
theorem d_M_start_129 : decode u_M_start.2.1 129 = .ok (.aload_n 0, 1) := by decide +kernel
theorem d_M_start_130 : decode u_M_start.2.1 130 = .ok (.iconst 0, 1) := by decide +kernel
theorem d_M_start_131 : decode u_M_start.2.1 131 = .ok (.putfield 115, 3) := by decide +kernel
theorem d_M_start_134 : decode u_M_start.2.1 134 = .ok (.aload_n 0, 1) := by decide +kernel
theorem d_M_start_135 : decode u_M_start.2.1 135 = .ok (.iconst 1, 1) := by decide +kernel
theorem d_M_start_136 : decode u_M_start.2.1 136 = .ok (.putfield 91, 3) := by decide +kernel
theorem d_M_start_139 : decode u_M_start.2.1 139 = .ok (.iconst 0, 1) := by decide +kernel
theorem d_M_start_140 : decode u_M_start.2.1 140 = .ok (.ireturn, 1) := by decide +kernel
theorem d_M_input_0 : decode u_M_input.2.1 0 = .ok (.iload_n 1, 1) := by decide +kernel
theorem d_M_input_1 : decode u_M_input.2.1 1 = .ok (.invokestatic 87, 3) := by decide +kernel
theorem d_M_input_4 : decode u_M_input.2.1 4 = .ok (.ifCond .eq 14, 3) := by decide +kernel
theorem d_M_input_7 : decode u_M_input.2.1 7 = .ok (.aload_n 0, 1) := by decide +kernel
theorem d_M_input_8 : decode u_M_input.2.1 8 = .ok (.getfield 71, 3) := by decide +kernel
theorem d_M_input_11 : decode u_M_input.2.1 11 = .ok (.iload_n 1, 1) := by decide +kernel
theorem d_M_input_12 : decode u_M_input.2.1 12 = .ok (.iaload, 1) := by decide +kernel
theorem d_M_input_13 : decode u_M_input.2.1 13 = .ok (.bipush 8, 2) := by decide +kernel
theorem d_M_input_15 : decode u_M_input.2.1 15 = .ok (.if_icmp .ne 5, 3) := by decide +kernel
theorem d_M_input_18 : decode u_M_input.2.1 18 = .ok (.iconst (-1), 1) := by decide +kernel
theorem d_M_input_19 : decode u_M_input.2.1 19 = .ok (.ireturn, 1) := by decide +kernel
theorem d_M_input_20 : decode u_M_input.2.1 20 = .ok (.aload_n 0, 1) := by decide +kernel
theorem d_M_input_21 : decode u_M_input.2.1 21 = .ok (.getfield 74, 3) := by decide +kernel
theorem d_M_input_24 : decode u_M_input.2.1 24 = .ok (.bipush 8, 2) := by decide +kernel
theorem d_M_input_26 : decode u_M_input.2.1 26 = .ok (.iload_n 1, 1) := by decide +kernel
theorem d_M_input_27 : decode u_M_input.2.1 27 = .ok (.imul, 1) := by decide +kernel
theorem d_M_input_28 : decode u_M_input.2.1 28 = .ok (.aload_n 0, 1) := by decide +kernel
theorem d_M_input_29 : decode u_M_input.2.1 29 = .ok (.getfield 71, 3) := by decide +kernel
theorem d_M_input_32 : decode u_M_input.2.1 32 = .ok (.iload_n 1, 1) := by decide +kernel
theorem d_M_input_33 : decode u_M_input.2.1 33 = .ok (.iaload, 1) := by decide +kernel
theorem d_M_input_34 : decode u_M_input.2.1 34 = .ok (.iadd, 1) := by decide +kernel
theorem d_M_input_35 : decode u_M_input.2.1 35 = .ok (.iload_n 2, 1) := by decide +kernel
theorem d_M_input_36 : decode u_M_input.2.1 36 = .ok (.iastore, 1) := by decide +kernel
theorem d_M_input_37 : decode u_M_input.2.1 37 = .ok (.aload_n 0, 1) := by decide +kernel
theorem d_M_input_38 : decode u_M_input.2.1 38 = .ok (.getfield 71, 3) := by decide +kernel
theorem d_M_input_41 : decode u_M_input.2.1 41 = .ok (.iload_n 1, 1) := by decide +kernel
theorem d_M_input_42 : decode u_M_input.2.1 42 = .ok (.dup2, 1) := by decide +kernel
theorem d_M_input_43 : decode u_M_input.2.1 43 = .ok (.iaload, 1) := by decide +kernel
theorem d_M_input_44 : decode u_M_input.2.1 44 = .ok (.iconst 1, 1) := by decide +kernel
theorem d_M_input_45 : decode u_M_input.2.1 45 = .ok (.iadd, 1) := by decide +kernel
theorem d_M_input_46 : decode u_M_input.2.1 46 = .ok (.iastore, 1) := by decide +kernel
theorem d_M_input_47 : decode u_M_input.2.1 47 = .ok (.aload_n 0, 1) := by decide +kernel
theorem d_M_input_48 : decode u_M_input.2.1 48 = .ok (.getfield 71, 3) := by decide +kernel
theorem d_M_input_51 : decode u_M_input.2.1 51 = .ok (.iload_n 1, 1) := by decide +kernel
theorem d_M_input_52 : decode u_M_input.2.1 52 = .ok (.iaload, 1) := by decide +kernel
theorem d_M_input_53 : decode u_M_input.2.1 53 = .ok (.ireturn, 1) := by decide +kernel
theorem d_M_run_0 : decode u_M_run.2.1 0 = .ok (.aload_n 0, 1) := by decide +kernel
theorem d_M_run_1 : decode u_M_run.2.1 1 = .ok (.getfield 91, 3) := by decide +kernel
theorem d_M_run_4 : decode u_M_run.2.1 4 = .ok (.ifCond .eq 14, 3) := by decide +kernel
theorem d_M_run_7 : decode u_M_run.2.1 7 = .ok (.iload_n 1, 1) := by decide +kernel
theorem d_M_run_8 : decode u_M_run.2.1 8 = .ok (.iconst 0, 1) := by decide +kernel
theorem d_M_run_9 : decode u_M_run.2.1 9 = .ok (.sipush 200, 3) := by decide +kernel
theorem d_M_run_12 : decode u_M_run.2.1 12 = .ok (.invokestatic 83, 3) := by decide +kernel
theorem d_M_run_15 : decode u_M_run.2.1 15 = .ok (.ifCond .ne 5, 3) := by decide +kernel
theorem d_M_run_18 : decode u_M_run.2.1 18 = .ok (.iconst (-1), 1) := by decide +kernel
theorem d_M_run_19 : decode u_M_run.2.1 19 = .ok (.ireturn, 1) := by decide +kernel
theorem d_M_run_20 : decode u_M_run.2.1 20 = .ok (.aload_n 0, 1) := by decide +kernel
theorem d_M_run_21 : decode u_M_run.2.1 21 = .ok (.iconst 0, 1) := by decide +kernel
theorem d_M_run_22 : decode u_M_run.2.1 22 = .ok (.putfield 118, 3) := by decide +kernel
theorem d_M_run_25 : decode u_M_run.2.1 25 = .ok (.iconst 0, 1) := by decide +kernel
theorem d_M_run_26 : decode u_M_run.2.1 26 = .ok (.istore_n 2, 1) := by decide +kernel
theorem d_M_run_27 : decode u_M_run.2.1 27 = .ok (.iload_n 2, 1) := by decide +kernel
theorem d_M_run_28 : decode u_M_run.2.1 28 = .ok (.iload_n 1, 1) := by decide +kernel
theorem d_M_run_29 : decode u_M_run.2.1 29 = .ok (.if_icmp .ge 115, 3) := by decide +kernel
theorem d_M_run_32 : decode u_M_run.2.1 32 = .ok (.aload_n 0, 1) := by decide +kernel
theorem d_M_run_33 : decode u_M_run.2.1 33 = .ok (.getfield 16, 3) := by decide +kernel
theorem d_M_run_36 : decode u_M_run.2.1 36 = .ok (.aload_n 0, 1) := by decide +kernel
