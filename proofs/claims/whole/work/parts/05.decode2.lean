theorem d_D_carryOut_39 : decode u_D_carryOut.2.1 39 = .ok (.invokestatic 179, 3) := by decide +kernel
theorem d_D_carryOut_42 : decode u_D_carryOut.2.1 42 = .ok (.goto 12, 3) := by decide +kernel
theorem d_D_carryOut_45 : decode u_D_carryOut.2.1 45 = .ok (.aload_n 0, 1) := by decide +kernel
theorem d_D_carryOut_46 : decode u_D_carryOut.2.1 46 = .ok (.aload_n 1, 1) := by decide +kernel
theorem d_D_carryOut_47 : decode u_D_carryOut.2.1 47 = .ok (.iload_n 2, 1) := by decide +kernel
theorem d_D_carryOut_48 : decode u_D_carryOut.2.1 48 = .ok (.iload_n 3, 1) := by decide +kernel
theorem d_D_carryOut_49 : decode u_D_carryOut.2.1 49 = .ok (.iload 4, 2) := by decide +kernel
theorem d_D_carryOut_51 : decode u_D_carryOut.2.1 51 = .ok (.invokevirtual 182, 3) := by decide +kernel
theorem d_D_carryOut_54 : decode u_D_carryOut.2.1 54 = .ok (.return_, 1) := by decide +kernel
theorem d_D_compute_0 : decode u_D_compute.2.1 0 = .ok (.iload_n 3, 1) := by decide +kernel
theorem d_D_compute_1 : decode u_D_compute.2.1 1 = .ok (.invokestatic 185, 3) := by decide +kernel
theorem d_D_compute_4 : decode u_D_compute.2.1 4 = .ok (.istore 5, 2) := by decide +kernel
theorem d_D_compute_6 : decode u_D_compute.2.1 6 = .ok (.iload 4, 2) := by decide +kernel
theorem d_D_compute_8 : decode u_D_compute.2.1 8 = .ok (.invokestatic 185, 3) := by decide +kernel
theorem d_D_compute_11 : decode u_D_compute.2.1 11 = .ok (.istore 6, 2) := by decide +kernel
theorem d_D_compute_13 : decode u_D_compute.2.1 13 = .ok (.aload_n 1, 1) := by decide +kernel
theorem d_D_compute_14 : decode u_D_compute.2.1 14 = .ok (.getfield 188, 3) := by decide +kernel
theorem d_D_compute_17 : decode u_D_compute.2.1 17 = .ok (.astore 7, 2) := by decide +kernel
theorem d_D_compute_19 : decode u_D_compute.2.1 19 = .ok (.iload_n 2, 1) := by decide +kernel
theorem d_D_compute_20 : decode u_D_compute.2.1 20 = .ok (.tableswitch 153 1 6 #[40, 50, 69, 88, 107, 130], 40) := by decide +kernel
theorem d_D_compute_60 : decode u_D_compute.2.1 60 = .ok (.aload 7, 2) := by decide +kernel
theorem d_D_compute_62 : decode u_D_compute.2.1 62 = .ok (.iload 5, 2) := by decide +kernel
theorem d_D_compute_64 : decode u_D_compute.2.1 64 = .ok (.iload 4, 2) := by decide +kernel
theorem d_D_compute_66 : decode u_D_compute.2.1 66 = .ok (.iastore, 1) := by decide +kernel
theorem d_D_compute_67 : decode u_D_compute.2.1 67 = .ok (.goto 106, 3) := by decide +kernel
theorem d_D_compute_70 : decode u_D_compute.2.1 70 = .ok (.aload 7, 2) := by decide +kernel
theorem d_D_compute_72 : decode u_D_compute.2.1 72 = .ok (.iload 5, 2) := by decide +kernel
theorem d_D_compute_74 : decode u_D_compute.2.1 74 = .ok (.aload 7, 2) := by decide +kernel
theorem d_D_compute_76 : decode u_D_compute.2.1 76 = .ok (.iload 5, 2) := by decide +kernel
theorem d_D_compute_78 : decode u_D_compute.2.1 78 = .ok (.iaload, 1) := by decide +kernel
theorem d_D_compute_79 : decode u_D_compute.2.1 79 = .ok (.aload 7, 2) := by decide +kernel
theorem d_D_compute_81 : decode u_D_compute.2.1 81 = .ok (.iload 6, 2) := by decide +kernel
theorem d_D_compute_83 : decode u_D_compute.2.1 83 = .ok (.iaload, 1) := by decide +kernel
theorem d_D_compute_84 : decode u_D_compute.2.1 84 = .ok (.iadd, 1) := by decide +kernel
theorem d_D_compute_85 : decode u_D_compute.2.1 85 = .ok (.iastore, 1) := by decide +kernel
theorem d_D_compute_86 : decode u_D_compute.2.1 86 = .ok (.goto 87, 3) := by decide +kernel
theorem d_D_compute_89 : decode u_D_compute.2.1 89 = .ok (.aload 7, 2) := by decide +kernel
theorem d_D_compute_91 : decode u_D_compute.2.1 91 = .ok (.iload 5, 2) := by decide +kernel
theorem d_D_compute_93 : decode u_D_compute.2.1 93 = .ok (.aload 7, 2) := by decide +kernel
theorem d_D_compute_95 : decode u_D_compute.2.1 95 = .ok (.iload 5, 2) := by decide +kernel
theorem d_D_compute_97 : decode u_D_compute.2.1 97 = .ok (.iaload, 1) := by decide +kernel
theorem d_D_compute_98 : decode u_D_compute.2.1 98 = .ok (.aload 7, 2) := by decide +kernel
theorem d_D_compute_100 : decode u_D_compute.2.1 100 = .ok (.iload 6, 2) := by decide +kernel
theorem d_D_compute_102 : decode u_D_compute.2.1 102 = .ok (.iaload, 1) := by decide +kernel
theorem d_D_compute_103 : decode u_D_compute.2.1 103 = .ok (.isub, 1) := by decide +kernel
theorem d_D_compute_104 : decode u_D_compute.2.1 104 = .ok (.iastore, 1) := by decide +kernel
theorem d_D_compute_105 : decode u_D_compute.2.1 105 = .ok (.goto 68, 3) := by decide +kernel
theorem d_D_compute_108 : decode u_D_compute.2.1 108 = .ok (.aload 7, 2) := by decide +kernel
theorem d_D_compute_110 : decode u_D_compute.2.1 110 = .ok (.iload 5, 2) := by decide +kernel
theorem d_D_compute_112 : decode u_D_compute.2.1 112 = .ok (.aload 7, 2) := by decide +kernel
theorem d_D_compute_114 : decode u_D_compute.2.1 114 = .ok (.iload 5, 2) := by decide +kernel
theorem d_D_compute_116 : decode u_D_compute.2.1 116 = .ok (.iaload, 1) := by decide +kernel
theorem d_D_compute_117 : decode u_D_compute.2.1 117 = .ok (.aload 7, 2) := by decide +kernel
theorem d_D_compute_119 : decode u_D_compute.2.1 119 = .ok (.iload 6, 2) := by decide +kernel
theorem d_D_compute_121 : decode u_D_compute.2.1 121 = .ok (.iaload, 1) := by decide +kernel
theorem d_D_compute_122 : decode u_D_compute.2.1 122 = .ok (.ixor, 1) := by decide +kernel
theorem d_D_compute_123 : decode u_D_compute.2.1 123 = .ok (.iastore, 1) := by decide +kernel
theorem d_D_compute_124 : decode u_D_compute.2.1 124 = .ok (.goto 49, 3) := by decide +kernel
theorem d_D_compute_127 : decode u_D_compute.2.1 127 = .ok (.aload 7, 2) := by decide +kernel
theorem d_D_compute_129 : decode u_D_compute.2.1 129 = .ok (.iload 5, 2) := by decide +kernel
theorem d_D_compute_131 : decode u_D_compute.2.1 131 = .ok (.aload_n 0, 1) := by decide +kernel
theorem d_D_compute_132 : decode u_D_compute.2.1 132 = .ok (.getfield 9, 3) := by decide +kernel
theorem d_D_compute_135 : decode u_D_compute.2.1 135 = .ok (.aload_n 1, 1) := by decide +kernel
theorem d_D_compute_136 : decode u_D_compute.2.1 136 = .ok (.getfield 46, 3) := by decide +kernel
theorem d_D_compute_139 : decode u_D_compute.2.1 139 = .ok (.aload 7, 2) := by decide +kernel
theorem d_D_compute_141 : decode u_D_compute.2.1 141 = .ok (.iload 6, 2) := by decide +kernel
theorem d_D_compute_143 : decode u_D_compute.2.1 143 = .ok (.iaload, 1) := by decide +kernel
theorem d_D_compute_144 : decode u_D_compute.2.1 144 = .ok (.iadd, 1) := by decide +kernel
theorem d_D_compute_145 : decode u_D_compute.2.1 145 = .ok (.iaload, 1) := by decide +kernel
theorem d_D_compute_146 : decode u_D_compute.2.1 146 = .ok (.iastore, 1) := by decide +kernel
theorem d_D_compute_147 : decode u_D_compute.2.1 147 = .ok (.goto 26, 3) := by decide +kernel
theorem d_D_compute_150 : decode u_D_compute.2.1 150 = .ok (.aload_n 0, 1) := by decide +kernel
theorem d_D_compute_151 : decode u_D_compute.2.1 151 = .ok (.getfield 9, 3) := by decide +kernel
theorem d_D_compute_154 : decode u_D_compute.2.1 154 = .ok (.aload_n 1, 1) := by decide +kernel
theorem d_D_compute_155 : decode u_D_compute.2.1 155 = .ok (.getfield 46, 3) := by decide +kernel
theorem d_D_compute_158 : decode u_D_compute.2.1 158 = .ok (.aload 7, 2) := by decide +kernel
theorem d_D_compute_160 : decode u_D_compute.2.1 160 = .ok (.iload 6, 2) := by decide +kernel
theorem d_D_compute_162 : decode u_D_compute.2.1 162 = .ok (.iaload, 1) := by decide +kernel
theorem d_D_compute_163 : decode u_D_compute.2.1 163 = .ok (.iadd, 1) := by decide +kernel
theorem d_D_compute_164 : decode u_D_compute.2.1 164 = .ok (.aload 7, 2) := by decide +kernel
theorem d_D_compute_166 : decode u_D_compute.2.1 166 = .ok (.iload 5, 2) := by decide +kernel
theorem d_D_compute_168 : decode u_D_compute.2.1 168 = .ok (.iaload, 1) := by decide +kernel
theorem d_D_compute_169 : decode u_D_compute.2.1 169 = .ok (.iastore, 1) := by decide +kernel
theorem d_D_compute_170 : decode u_D_compute.2.1 170 = .ok (.goto 3, 3) := by decide +kernel
theorem d_D_compute_173 : decode u_D_compute.2.1 173 = .ok (.return_, 1) := by decide +kernel
theorem d_D_jump_0 : decode u_D_jump.2.1 0 = .ok (.iload_n 1, 1) := by decide +kernel
theorem d_D_jump_1 : decode u_D_jump.2.1 1 = .ok (.bipush 7, 2) := by decide +kernel
theorem d_D_jump_3 : decode u_D_jump.2.1 3 = .ok (.if_icmp .eq 15, 3) := by decide +kernel
theorem d_D_jump_6 : decode u_D_jump.2.1 6 = .ok (.aload_n 0, 1) := by decide +kernel
theorem d_D_jump_7 : decode u_D_jump.2.1 7 = .ok (.getfield 188, 3) := by decide +kernel
theorem d_D_jump_10 : decode u_D_jump.2.1 10 = .ok (.iload_n 2, 1) := by decide +kernel
theorem d_D_jump_11 : decode u_D_jump.2.1 11 = .ok (.invokestatic 185, 3) := by decide +kernel
theorem d_D_jump_14 : decode u_D_jump.2.1 14 = .ok (.iaload, 1) := by decide +kernel
theorem d_D_jump_15 : decode u_D_jump.2.1 15 = .ok (.ifCond .eq 8, 3) := by decide +kernel
theorem d_D_jump_18 : decode u_D_jump.2.1 18 = .ok (.aload_n 0, 1) := by decide +kernel
theorem d_D_jump_19 : decode u_D_jump.2.1 19 = .ok (.iload_n 3, 1) := by decide +kernel
theorem d_D_jump_20 : decode u_D_jump.2.1 20 = .ok (.putfield 159, 3) := by decide +kernel
theorem d_D_jump_23 : decode u_D_jump.2.1 23 = .ok (.return_, 1) := by decide +kernel
theorem d_D_communicate_0 : decode u_D_communicate.2.1 0 = .ok (.iload_n 3, 1) := by decide +kernel
theorem d_D_communicate_1 : decode u_D_communicate.2.1 1 = .ok (.invokestatic 185, 3) := by decide +kernel
theorem d_D_communicate_4 : decode u_D_communicate.2.1 4 = .ok (.istore 5, 2) := by decide +kernel
theorem d_D_communicate_6 : decode u_D_communicate.2.1 6 = .ok (.iload 4, 2) := by decide +kernel
theorem d_D_communicate_8 : decode u_D_communicate.2.1 8 = .ok (.invokestatic 185, 3) := by decide +kernel
theorem d_D_communicate_11 : decode u_D_communicate.2.1 11 = .ok (.istore 6, 2) := by decide +kernel
theorem d_D_communicate_13 : decode u_D_communicate.2.1 13 = .ok (.iload_n 2, 1) := by decide +kernel
theorem d_D_communicate_14 : decode u_D_communicate.2.1 14 = .ok (.tableswitch 130 9 14 #[38, 63, 88, 97, 111, 122], 38) := by decide +kernel
theorem d_D_communicate_52 : decode u_D_communicate.2.1 52 = .ok (.aload_n 0, 1) := by decide +kernel
theorem d_D_communicate_53 : decode u_D_communicate.2.1 53 = .ok (.getfield 22, 3) := by decide +kernel
theorem d_D_communicate_56 : decode u_D_communicate.2.1 56 = .ok (.iload_n 3, 1) := by decide +kernel
theorem d_D_communicate_57 : decode u_D_communicate.2.1 57 = .ok (.aaload, 1) := by decide +kernel
theorem d_D_communicate_58 : decode u_D_communicate.2.1 58 = .ok (.aload_n 1, 1) := by decide +kernel
theorem d_D_communicate_59 : decode u_D_communicate.2.1 59 = .ok (.getfield 188, 3) := by decide +kernel
theorem d_D_communicate_62 : decode u_D_communicate.2.1 62 = .ok (.iload 6, 2) := by decide +kernel
theorem d_D_communicate_64 : decode u_D_communicate.2.1 64 = .ok (.aload_n 0, 1) := by decide +kernel
theorem d_D_communicate_65 : decode u_D_communicate.2.1 65 = .ok (.getfield 30, 3) := by decide +kernel
theorem d_D_communicate_68 : decode u_D_communicate.2.1 68 = .ok (.getfield 191, 3) := by decide +kernel
theorem d_D_communicate_71 : decode u_D_communicate.2.1 71 = .ok (.invokevirtual 194, 3) := by decide +kernel
theorem d_D_communicate_74 : decode u_D_communicate.2.1 74 = .ok (.goto 70, 3) := by decide +kernel
theorem d_D_communicate_77 : decode u_D_communicate.2.1 77 = .ok (.aload_n 0, 1) := by decide +kernel
theorem d_D_communicate_78 : decode u_D_communicate.2.1 78 = .ok (.getfield 22, 3) := by decide +kernel
theorem d_D_communicate_81 : decode u_D_communicate.2.1 81 = .ok (.iload_n 3, 1) := by decide +kernel
theorem d_D_communicate_82 : decode u_D_communicate.2.1 82 = .ok (.aaload, 1) := by decide +kernel
theorem d_D_communicate_83 : decode u_D_communicate.2.1 83 = .ok (.aload_n 1, 1) := by decide +kernel
theorem d_D_communicate_84 : decode u_D_communicate.2.1 84 = .ok (.getfield 188, 3) := by decide +kernel
theorem d_D_communicate_87 : decode u_D_communicate.2.1 87 = .ok (.iload 6, 2) := by decide +kernel
theorem d_D_communicate_89 : decode u_D_communicate.2.1 89 = .ok (.aload_n 0, 1) := by decide +kernel
theorem d_D_communicate_90 : decode u_D_communicate.2.1 90 = .ok (.getfield 30, 3) := by decide +kernel
theorem d_D_communicate_93 : decode u_D_communicate.2.1 93 = .ok (.getfield 191, 3) := by decide +kernel
theorem d_D_communicate_96 : decode u_D_communicate.2.1 96 = .ok (.invokevirtual 198, 3) := by decide +kernel
theorem d_D_communicate_99 : decode u_D_communicate.2.1 99 = .ok (.goto 45, 3) := by decide +kernel
theorem d_D_communicate_102 : decode u_D_communicate.2.1 102 = .ok (.aload_n 1, 1) := by decide +kernel
theorem d_D_communicate_103 : decode u_D_communicate.2.1 103 = .ok (.iload 5, 2) := by decide +kernel
theorem d_D_communicate_105 : decode u_D_communicate.2.1 105 = .ok (.invokevirtual 201, 3) := by decide +kernel
theorem d_D_communicate_108 : decode u_D_communicate.2.1 108 = .ok (.goto 36, 3) := by decide +kernel
theorem d_D_communicate_111 : decode u_D_communicate.2.1 111 = .ok (.aload_n 1, 1) := by decide +kernel
theorem d_D_communicate_112 : decode u_D_communicate.2.1 112 = .ok (.aload_n 1, 1) := by decide +kernel
theorem d_D_communicate_113 : decode u_D_communicate.2.1 113 = .ok (.getfield 188, 3) := by decide +kernel
theorem d_D_communicate_116 : decode u_D_communicate.2.1 116 = .ok (.iload 5, 2) := by decide +kernel
theorem d_D_communicate_118 : decode u_D_communicate.2.1 118 = .ok (.iaload, 1) := by decide +kernel
theorem d_D_communicate_119 : decode u_D_communicate.2.1 119 = .ok (.invokevirtual 204, 3) := by decide +kernel
theorem d_D_communicate_122 : decode u_D_communicate.2.1 122 = .ok (.goto 22, 3) := by decide +kernel
theorem d_D_communicate_125 : decode u_D_communicate.2.1 125 = .ok (.aload_n 0, 1) := by decide +kernel
theorem d_D_communicate_126 : decode u_D_communicate.2.1 126 = .ok (.getfield 30, 3) := by decide +kernel
theorem d_D_communicate_129 : decode u_D_communicate.2.1 129 = .ok (.iconst 1, 1) := by decide +kernel
theorem d_D_communicate_130 : decode u_D_communicate.2.1 130 = .ok (.putfield 149, 3) := by decide +kernel
theorem d_D_communicate_133 : decode u_D_communicate.2.1 133 = .ok (.goto 11, 3) := by decide +kernel
theorem d_D_communicate_136 : decode u_D_communicate.2.1 136 = .ok (.aload_n 1, 1) := by decide +kernel
theorem d_D_communicate_137 : decode u_D_communicate.2.1 137 = .ok (.iconst 0, 1) := by decide +kernel
theorem d_D_communicate_138 : decode u_D_communicate.2.1 138 = .ok (.putfield 146, 3) := by decide +kernel
theorem d_D_communicate_141 : decode u_D_communicate.2.1 141 = .ok (.goto 3, 3) := by decide +kernel
theorem d_D_communicate_144 : decode u_D_communicate.2.1 144 = .ok (.return_, 1) := by decide +kernel
theorem d_D_registerNamed_0 : decode u_D_registerNamed.2.1 0 = .ok (.iload_n 0, 1) := by decide +kernel
theorem d_D_registerNamed_1 : decode u_D_registerNamed.2.1 1 = .ok (.iconst 4, 1) := by decide +kernel
theorem d_D_registerNamed_2 : decode u_D_registerNamed.2.1 2 = .ok (.invokestatic 207, 3) := by decide +kernel
theorem d_D_registerNamed_5 : decode u_D_registerNamed.2.1 5 = .ok (.ireturn, 1) := by decide +kernel
theorem d_D_answerFault_0 : decode u_D_answerFault.2.1 0 = .ok (.aload_n 0, 1) := by decide +kernel
theorem d_D_answerFault_1 : decode u_D_answerFault.2.1 1 = .ok (.getfield 15, 3) := by decide +kernel
theorem d_D_answerFault_4 : decode u_D_answerFault.2.1 4 = .ok (.iload_n 1, 1) := by decide +kernel
theorem d_D_answerFault_5 : decode u_D_answerFault.2.1 5 = .ok (.aaload, 1) := by decide +kernel
theorem d_D_answerFault_6 : decode u_D_answerFault.2.1 6 = .ok (.astore_n 3, 1) := by decide +kernel
theorem d_D_answerFault_7 : decode u_D_answerFault.2.1 7 = .ok (.aload_n 3, 1) := by decide +kernel
theorem d_D_answerFault_8 : decode u_D_answerFault.2.1 8 = .ok (.dup, 1) := by decide +kernel
theorem d_D_answerFault_9 : decode u_D_answerFault.2.1 9 = .ok (.getfield 213, 3) := by decide +kernel
theorem d_D_answerFault_12 : decode u_D_answerFault.2.1 12 = .ok (.iconst 1, 1) := by decide +kernel
theorem d_D_answerFault_13 : decode u_D_answerFault.2.1 13 = .ok (.iadd, 1) := by decide +kernel
theorem d_D_answerFault_14 : decode u_D_answerFault.2.1 14 = .ok (.putfield 213, 3) := by decide +kernel
theorem d_D_answerFault_17 : decode u_D_answerFault.2.1 17 = .ok (.aload_n 3, 1) := by decide +kernel
theorem d_D_answerFault_18 : decode u_D_answerFault.2.1 18 = .ok (.getfield 67, 3) := by decide +kernel
theorem d_D_answerFault_21 : decode u_D_answerFault.2.1 21 = .ok (.iload_n 2, 1) := by decide +kernel
theorem d_D_answerFault_22 : decode u_D_answerFault.2.1 22 = .ok (.iconst 1, 1) := by decide +kernel
theorem d_D_answerFault_23 : decode u_D_answerFault.2.1 23 = .ok (.isub, 1) := by decide +kernel
theorem d_D_answerFault_24 : decode u_D_answerFault.2.1 24 = .ok (.iaload, 1) := by decide +kernel
theorem d_D_answerFault_25 : decode u_D_answerFault.2.1 25 = .ok (.lookupswitch 57 #[(1, 27), (2, 35)], 27) := by decide +kernel
theorem d_D_answerFault_52 : decode u_D_answerFault.2.1 52 = .ok (.aload_n 0, 1) := by decide +kernel
theorem d_D_answerFault_53 : decode u_D_answerFault.2.1 53 = .ok (.iload_n 1, 1) := by decide +kernel
theorem d_D_answerFault_54 : decode u_D_answerFault.2.1 54 = .ok (.invokevirtual 216, 3) := by decide +kernel
theorem d_D_answerFault_57 : decode u_D_answerFault.2.1 57 = .ok (.goto 30, 3) := by decide +kernel
theorem d_D_answerFault_60 : decode u_D_answerFault.2.1 60 = .ok (.aload_n 3, 1) := by decide +kernel
theorem d_D_answerFault_61 : decode u_D_answerFault.2.1 61 = .ok (.iload_n 2, 1) := by decide +kernel
theorem d_D_answerFault_62 : decode u_D_answerFault.2.1 62 = .ok (.iconst 4, 1) := by decide +kernel
theorem d_D_answerFault_63 : decode u_D_answerFault.2.1 63 = .ok (.if_icmp .ne 7, 3) := by decide +kernel
theorem d_D_answerFault_66 : decode u_D_answerFault.2.1 66 = .ok (.iconst 0, 1) := by decide +kernel
theorem d_D_answerFault_67 : decode u_D_answerFault.2.1 67 = .ok (.goto 9, 3) := by decide +kernel
theorem d_D_answerFault_70 : decode u_D_answerFault.2.1 70 = .ok (.aload_n 3, 1) := by decide +kernel
theorem d_D_answerFault_71 : decode u_D_answerFault.2.1 71 = .ok (.getfield 159, 3) := by decide +kernel
theorem d_D_answerFault_74 : decode u_D_answerFault.2.1 74 = .ok (.iconst 1, 1) := by decide +kernel
theorem d_D_answerFault_75 : decode u_D_answerFault.2.1 75 = .ok (.iadd, 1) := by decide +kernel
theorem d_D_answerFault_76 : decode u_D_answerFault.2.1 76 = .ok (.putfield 159, 3) := by decide +kernel
theorem d_D_answerFault_79 : decode u_D_answerFault.2.1 79 = .ok (.goto 8, 3) := by decide +kernel
theorem d_D_answerFault_82 : decode u_D_answerFault.2.1 82 = .ok (.aload_n 3, 1) := by decide +kernel
theorem d_D_answerFault_83 : decode u_D_answerFault.2.1 83 = .ok (.iconst 0, 1) := by decide +kernel
theorem d_D_answerFault_84 : decode u_D_answerFault.2.1 84 = .ok (.putfield 146, 3) := by decide +kernel
theorem d_D_answerFault_87 : decode u_D_answerFault.2.1 87 = .ok (.return_, 1) := by decide +kernel
theorem d_D_restart_0 : decode u_D_restart.2.1 0 = .ok (.aload_n 0, 1) := by decide +kernel
theorem d_D_restart_1 : decode u_D_restart.2.1 1 = .ok (.getfield 15, 3) := by decide +kernel
theorem d_D_restart_4 : decode u_D_restart.2.1 4 = .ok (.iload_n 1, 1) := by decide +kernel
theorem d_D_restart_5 : decode u_D_restart.2.1 5 = .ok (.aaload, 1) := by decide +kernel
theorem d_D_restart_6 : decode u_D_restart.2.1 6 = .ok (.astore_n 2, 1) := by decide +kernel
theorem d_D_restart_7 : decode u_D_restart.2.1 7 = .ok (.aload_n 2, 1) := by decide +kernel
theorem d_D_restart_8 : decode u_D_restart.2.1 8 = .ok (.invokevirtual 219, 3) := by decide +kernel
theorem d_D_restart_11 : decode u_D_restart.2.1 11 = .ok (.iconst 0, 1) := by decide +kernel
theorem d_D_restart_12 : decode u_D_restart.2.1 12 = .ok (.istore_n 3, 1) := by decide +kernel
theorem d_D_restart_13 : decode u_D_restart.2.1 13 = .ok (.iload_n 3, 1) := by decide +kernel
theorem d_D_restart_14 : decode u_D_restart.2.1 14 = .ok (.aload_n 2, 1) := by decide +kernel
theorem d_D_restart_15 : decode u_D_restart.2.1 15 = .ok (.getfield 49, 3) := by decide +kernel
theorem d_D_restart_18 : decode u_D_restart.2.1 18 = .ok (.if_icmp .ge 21, 3) := by decide +kernel
theorem d_D_restart_21 : decode u_D_restart.2.1 21 = .ok (.aload_n 0, 1) := by decide +kernel
theorem d_D_restart_22 : decode u_D_restart.2.1 22 = .ok (.getfield 9, 3) := by decide +kernel
theorem d_D_restart_25 : decode u_D_restart.2.1 25 = .ok (.aload_n 2, 1) := by decide +kernel
theorem d_D_restart_26 : decode u_D_restart.2.1 26 = .ok (.getfield 46, 3) := by decide +kernel
theorem d_D_restart_29 : decode u_D_restart.2.1 29 = .ok (.iload_n 3, 1) := by decide +kernel
theorem d_D_restart_30 : decode u_D_restart.2.1 30 = .ok (.iadd, 1) := by decide +kernel
theorem d_D_restart_31 : decode u_D_restart.2.1 31 = .ok (.iconst 0, 1) := by decide +kernel
theorem d_D_restart_32 : decode u_D_restart.2.1 32 = .ok (.iastore, 1) := by decide +kernel
theorem d_D_restart_33 : decode u_D_restart.2.1 33 = .ok (.iinc 3 1, 3) := by decide +kernel
theorem d_D_restart_36 : decode u_D_restart.2.1 36 = .ok (.goto (-23), 3) := by decide +kernel
theorem d_D_restart_39 : decode u_D_restart.2.1 39 = .ok (.iconst 0, 1) := by decide +kernel
theorem d_D_restart_40 : decode u_D_restart.2.1 40 = .ok (.istore_n 3, 1) := by decide +kernel
theorem d_D_restart_41 : decode u_D_restart.2.1 41 = .ok (.iload_n 3, 1) := by decide +kernel
theorem d_D_restart_42 : decode u_D_restart.2.1 42 = .ok (.aload_n 0, 1) := by decide +kernel
theorem d_D_restart_43 : decode u_D_restart.2.1 43 = .ok (.getfield 34, 3) := by decide +kernel
theorem d_D_restart_46 : decode u_D_restart.2.1 46 = .ok (.if_icmp .ge 34, 3) := by decide +kernel
theorem d_D_restart_49 : decode u_D_restart.2.1 49 = .ok (.aload_n 0, 1) := by decide +kernel
theorem d_D_restart_50 : decode u_D_restart.2.1 50 = .ok (.getfield 22, 3) := by decide +kernel
theorem d_D_restart_53 : decode u_D_restart.2.1 53 = .ok (.iload_n 3, 1) := by decide +kernel
theorem d_D_restart_54 : decode u_D_restart.2.1 54 = .ok (.aaload, 1) := by decide +kernel
theorem d_D_restart_55 : decode u_D_restart.2.1 55 = .ok (.getfield 61, 3) := by decide +kernel
theorem d_D_restart_58 : decode u_D_restart.2.1 58 = .ok (.iload_n 1, 1) := by decide +kernel
theorem d_D_restart_59 : decode u_D_restart.2.1 59 = .ok (.if_icmp .ne 15, 3) := by decide +kernel
theorem d_D_restart_62 : decode u_D_restart.2.1 62 = .ok (.aload_n 0, 1) := by decide +kernel
theorem d_D_restart_63 : decode u_D_restart.2.1 63 = .ok (.getfield 22, 3) := by decide +kernel
theorem d_D_restart_66 : decode u_D_restart.2.1 66 = .ok (.iload_n 3, 1) := by decide +kernel
theorem d_D_restart_67 : decode u_D_restart.2.1 67 = .ok (.aaload, 1) := by decide +kernel
theorem d_D_restart_68 : decode u_D_restart.2.1 68 = .ok (.getfield 112, 3) := by decide +kernel
theorem d_D_restart_71 : decode u_D_restart.2.1 71 = .ok (.invokevirtual 139, 3) := by decide +kernel
theorem d_D_restart_74 : decode u_D_restart.2.1 74 = .ok (.iinc 3 1, 3) := by decide +kernel
theorem d_D_restart_77 : decode u_D_restart.2.1 77 = .ok (.goto (-36), 3) := by decide +kernel
theorem d_D_restart_80 : decode u_D_restart.2.1 80 = .ok (.return_, 1) := by decide +kernel
theorem d_P_init_0 : decode u_P_init.2.1 0 = .ok (.aload_n 0, 1) := by decide +kernel
theorem d_P_init_1 : decode u_P_init.2.1 1 = .ok (.invokespecial 3, 3) := by decide +kernel
theorem d_P_init_4 : decode u_P_init.2.1 4 = .ok (.aload_n 0, 1) := by decide +kernel
theorem d_P_init_5 : decode u_P_init.2.1 5 = .ok (.bipush 16, 2) := by decide +kernel
theorem d_P_init_7 : decode u_P_init.2.1 7 = .ok (.newarray .int, 2) := by decide +kernel
theorem d_P_init_9 : decode u_P_init.2.1 9 = .ok (.putfield 9, 3) := by decide +kernel
theorem d_P_init_12 : decode u_P_init.2.1 12 = .ok (.aload_n 0, 1) := by decide +kernel
theorem d_P_init_13 : decode u_P_init.2.1 13 = .ok (.bipush 16, 2) := by decide +kernel
theorem d_P_init_15 : decode u_P_init.2.1 15 = .ok (.newarray .int, 2) := by decide +kernel
theorem d_P_init_17 : decode u_P_init.2.1 17 = .ok (.putfield 15, 3) := by decide +kernel
theorem d_P_init_20 : decode u_P_init.2.1 20 = .ok (.aload_n 0, 1) := by decide +kernel
theorem d_P_init_21 : decode u_P_init.2.1 21 = .ok (.bipush 16, 2) := by decide +kernel
theorem d_P_init_23 : decode u_P_init.2.1 23 = .ok (.newarray .int, 2) := by decide +kernel
theorem d_P_init_25 : decode u_P_init.2.1 25 = .ok (.putfield 18, 3) := by decide +kernel
theorem d_P_init_28 : decode u_P_init.2.1 28 = .ok (.aload_n 0, 1) := by decide +kernel
theorem d_P_init_29 : decode u_P_init.2.1 29 = .ok (.iconst 4, 1) := by decide +kernel
theorem d_P_init_30 : decode u_P_init.2.1 30 = .ok (.newarray .int, 2) := by decide +kernel
theorem d_P_init_32 : decode u_P_init.2.1 32 = .ok (.putfield 21, 3) := by decide +kernel
theorem d_P_init_35 : decode u_P_init.2.1 35 = .ok (.aload_n 0, 1) := by decide +kernel
theorem d_P_init_36 : decode u_P_init.2.1 36 = .ok (.iconst 4, 1) := by decide +kernel
theorem d_P_init_37 : decode u_P_init.2.1 37 = .ok (.newarray .int, 2) := by decide +kernel
theorem d_P_init_39 : decode u_P_init.2.1 39 = .ok (.putfield 24, 3) := by decide +kernel
theorem d_P_init_42 : decode u_P_init.2.1 42 = .ok (.aload_n 0, 1) := by decide +kernel
theorem d_P_init_43 : decode u_P_init.2.1 43 = .ok (.new 27, 3) := by decide +kernel
theorem d_P_init_46 : decode u_P_init.2.1 46 = .ok (.dup, 1) := by decide +kernel
theorem d_P_init_47 : decode u_P_init.2.1 47 = .ok (.bipush 8, 2) := by decide +kernel
theorem d_P_init_49 : decode u_P_init.2.1 49 = .ok (.invokespecial 29, 3) := by decide +kernel
theorem d_P_init_52 : decode u_P_init.2.1 52 = .ok (.putfield 32, 3) := by decide +kernel
theorem d_P_init_55 : decode u_P_init.2.1 55 = .ok (.aload_n 0, 1) := by decide +kernel
theorem d_P_init_56 : decode u_P_init.2.1 56 = .ok (.bipush 16, 2) := by decide +kernel
theorem d_P_init_58 : decode u_P_init.2.1 58 = .ok (.newarray .int, 2) := by decide +kernel
theorem d_P_init_60 : decode u_P_init.2.1 60 = .ok (.putfield 36, 3) := by decide +kernel
theorem d_P_init_63 : decode u_P_init.2.1 63 = .ok (.return_, 1) := by decide +kernel
theorem d_P_takesPart_0 : decode u_P_takesPart.2.1 0 = .ok (.aload_n 0, 1) := by decide +kernel
theorem d_P_takesPart_1 : decode u_P_takesPart.2.1 1 = .ok (.getfield 39, 3) := by decide +kernel
theorem d_P_takesPart_4 : decode u_P_takesPart.2.1 4 = .ok (.ifCond .le 7, 3) := by decide +kernel
theorem d_P_takesPart_7 : decode u_P_takesPart.2.1 7 = .ok (.iconst 1, 1) := by decide +kernel
theorem d_P_takesPart_8 : decode u_P_takesPart.2.1 8 = .ok (.goto 4, 3) := by decide +kernel
theorem d_P_takesPart_11 : decode u_P_takesPart.2.1 11 = .ok (.iconst 0, 1) := by decide +kernel
theorem d_P_takesPart_12 : decode u_P_takesPart.2.1 12 = .ok (.ireturn, 1) := by decide +kernel
theorem d_P_overlaps_0 : decode u_P_overlaps.2.1 0 = .ok (.aload_n 0, 1) := by decide +kernel
theorem d_P_overlaps_1 : decode u_P_overlaps.2.1 1 = .ok (.invokevirtual 43, 3) := by decide +kernel
theorem d_P_overlaps_4 : decode u_P_overlaps.2.1 4 = .ok (.ifCond .eq 46, 3) := by decide +kernel
theorem d_P_overlaps_7 : decode u_P_overlaps.2.1 7 = .ok (.aload_n 1, 1) := by decide +kernel
theorem d_P_overlaps_8 : decode u_P_overlaps.2.1 8 = .ok (.invokevirtual 43, 3) := by decide +kernel
theorem d_P_overlaps_11 : decode u_P_overlaps.2.1 11 = .ok (.ifCond .eq 39, 3) := by decide +kernel
theorem d_P_overlaps_14 : decode u_P_overlaps.2.1 14 = .ok (.aload_n 0, 1) := by decide +kernel
theorem d_P_overlaps_15 : decode u_P_overlaps.2.1 15 = .ok (.getfield 47, 3) := by decide +kernel
theorem d_P_overlaps_18 : decode u_P_overlaps.2.1 18 = .ok (.aload_n 1, 1) := by decide +kernel
theorem d_P_overlaps_19 : decode u_P_overlaps.2.1 19 = .ok (.getfield 47, 3) := by decide +kernel
theorem d_P_overlaps_22 : decode u_P_overlaps.2.1 22 = .ok (.aload_n 1, 1) := by decide +kernel
theorem d_P_overlaps_23 : decode u_P_overlaps.2.1 23 = .ok (.getfield 39, 3) := by decide +kernel
theorem d_P_overlaps_26 : decode u_P_overlaps.2.1 26 = .ok (.iadd, 1) := by decide +kernel
theorem d_P_overlaps_27 : decode u_P_overlaps.2.1 27 = .ok (.if_icmp .ge 23, 3) := by decide +kernel
theorem d_P_overlaps_30 : decode u_P_overlaps.2.1 30 = .ok (.aload_n 1, 1) := by decide +kernel
theorem d_P_overlaps_31 : decode u_P_overlaps.2.1 31 = .ok (.getfield 47, 3) := by decide +kernel
theorem d_P_overlaps_34 : decode u_P_overlaps.2.1 34 = .ok (.aload_n 0, 1) := by decide +kernel
theorem d_P_overlaps_35 : decode u_P_overlaps.2.1 35 = .ok (.getfield 47, 3) := by decide +kernel
theorem d_P_overlaps_38 : decode u_P_overlaps.2.1 38 = .ok (.aload_n 0, 1) := by decide +kernel
theorem d_P_overlaps_39 : decode u_P_overlaps.2.1 39 = .ok (.getfield 39, 3) := by decide +kernel
theorem d_P_overlaps_42 : decode u_P_overlaps.2.1 42 = .ok (.iadd, 1) := by decide +kernel
theorem d_P_overlaps_43 : decode u_P_overlaps.2.1 43 = .ok (.if_icmp .ge 7, 3) := by decide +kernel
theorem d_P_overlaps_46 : decode u_P_overlaps.2.1 46 = .ok (.iconst 1, 1) := by decide +kernel
theorem d_P_overlaps_47 : decode u_P_overlaps.2.1 47 = .ok (.goto 4, 3) := by decide +kernel
theorem d_P_overlaps_50 : decode u_P_overlaps.2.1 50 = .ok (.iconst 0, 1) := by decide +kernel
theorem d_P_overlaps_51 : decode u_P_overlaps.2.1 51 = .ok (.ireturn, 1) := by decide +kernel
theorem d_P_beginAnew_0 : decode u_P_beginAnew.2.1 0 = .ok (.aload_n 0, 1) := by decide +kernel
theorem d_P_beginAnew_1 : decode u_P_beginAnew.2.1 1 = .ok (.invokevirtual 50, 3) := by decide +kernel
theorem d_P_beginAnew_4 : decode u_P_beginAnew.2.1 4 = .ok (.aload_n 0, 1) := by decide +kernel
theorem d_P_beginAnew_5 : decode u_P_beginAnew.2.1 5 = .ok (.aload_n 0, 1) := by decide +kernel
theorem d_P_beginAnew_6 : decode u_P_beginAnew.2.1 6 = .ok (.invokevirtual 43, 3) := by decide +kernel
theorem d_P_beginAnew_9 : decode u_P_beginAnew.2.1 9 = .ok (.putfield 53, 3) := by decide +kernel
theorem d_P_beginAnew_12 : decode u_P_beginAnew.2.1 12 = .ok (.aload_n 0, 1) := by decide +kernel
theorem d_P_beginAnew_13 : decode u_P_beginAnew.2.1 13 = .ok (.iconst 0, 1) := by decide +kernel
theorem d_P_beginAnew_14 : decode u_P_beginAnew.2.1 14 = .ok (.putfield 57, 3) := by decide +kernel
theorem d_P_beginAnew_17 : decode u_P_beginAnew.2.1 17 = .ok (.return_, 1) := by decide +kernel
theorem d_P_clearRegistersAndPlace_0 : decode u_P_clearRegistersAndPlace.2.1 0 = .ok (.iconst 0, 1) := by decide +kernel
theorem d_P_clearRegistersAndPlace_1 : decode u_P_clearRegistersAndPlace.2.1 1 = .ok (.istore_n 1, 1) := by decide +kernel
theorem d_P_clearRegistersAndPlace_2 : decode u_P_clearRegistersAndPlace.2.1 2 = .ok (.iload_n 1, 1) := by decide +kernel
theorem d_P_clearRegistersAndPlace_3 : decode u_P_clearRegistersAndPlace.2.1 3 = .ok (.iconst 4, 1) := by decide +kernel
theorem d_P_clearRegistersAndPlace_4 : decode u_P_clearRegistersAndPlace.2.1 4 = .ok (.if_icmp .ge 16, 3) := by decide +kernel
theorem d_P_clearRegistersAndPlace_7 : decode u_P_clearRegistersAndPlace.2.1 7 = .ok (.aload_n 0, 1) := by decide +kernel
theorem d_P_clearRegistersAndPlace_8 : decode u_P_clearRegistersAndPlace.2.1 8 = .ok (.getfield 24, 3) := by decide +kernel
theorem d_P_clearRegistersAndPlace_11 : decode u_P_clearRegistersAndPlace.2.1 11 = .ok (.iload_n 1, 1) := by decide +kernel
theorem d_P_clearRegistersAndPlace_12 : decode u_P_clearRegistersAndPlace.2.1 12 = .ok (.iconst 0, 1) := by decide +kernel
theorem d_P_clearRegistersAndPlace_13 : decode u_P_clearRegistersAndPlace.2.1 13 = .ok (.iastore, 1) := by decide +kernel
theorem d_P_clearRegistersAndPlace_14 : decode u_P_clearRegistersAndPlace.2.1 14 = .ok (.iinc 1 1, 3) := by decide +kernel
theorem d_P_clearRegistersAndPlace_17 : decode u_P_clearRegistersAndPlace.2.1 17 = .ok (.goto (-15), 3) := by decide +kernel
theorem d_P_clearRegistersAndPlace_20 : decode u_P_clearRegistersAndPlace.2.1 20 = .ok (.aload_n 0, 1) := by decide +kernel
theorem d_P_clearRegistersAndPlace_21 : decode u_P_clearRegistersAndPlace.2.1 21 = .ok (.iconst 0, 1) := by decide +kernel
theorem d_P_clearRegistersAndPlace_22 : decode u_P_clearRegistersAndPlace.2.1 22 = .ok (.putfield 60, 3) := by decide +kernel
theorem d_P_clearRegistersAndPlace_25 : decode u_P_clearRegistersAndPlace.2.1 25 = .ok (.return_, 1) := by decide +kernel
theorem d_P_hasWord_0 : decode u_P_hasWord.2.1 0 = .ok (.aload_n 0, 1) := by decide +kernel
theorem d_P_hasWord_1 : decode u_P_hasWord.2.1 1 = .ok (.getfield 24, 3) := by decide +kernel
theorem d_P_hasWord_4 : decode u_P_hasWord.2.1 4 = .ok (.iload_n 1, 1) := by decide +kernel
theorem d_P_hasWord_5 : decode u_P_hasWord.2.1 5 = .ok (.invokestatic 63, 3) := by decide +kernel
theorem d_P_hasWord_8 : decode u_P_hasWord.2.1 8 = .ok (.iaload, 1) := by decide +kernel
theorem d_P_hasWord_9 : decode u_P_hasWord.2.1 9 = .ok (.istore_n 2, 1) := by decide +kernel
theorem d_P_hasWord_10 : decode u_P_hasWord.2.1 10 = .ok (.iload_n 2, 1) := by decide +kernel
theorem d_P_hasWord_11 : decode u_P_hasWord.2.1 11 = .ok (.ifCond .lt 15, 3) := by decide +kernel
theorem d_P_hasWord_14 : decode u_P_hasWord.2.1 14 = .ok (.iload_n 2, 1) := by decide +kernel
theorem d_P_hasWord_15 : decode u_P_hasWord.2.1 15 = .ok (.aload_n 0, 1) := by decide +kernel
theorem d_P_hasWord_16 : decode u_P_hasWord.2.1 16 = .ok (.getfield 39, 3) := by decide +kernel
theorem d_P_hasWord_19 : decode u_P_hasWord.2.1 19 = .ok (.if_icmp .ge 7, 3) := by decide +kernel
theorem d_P_hasWord_22 : decode u_P_hasWord.2.1 22 = .ok (.iconst 1, 1) := by decide +kernel
theorem d_P_hasWord_23 : decode u_P_hasWord.2.1 23 = .ok (.goto 4, 3) := by decide +kernel
theorem d_P_hasWord_26 : decode u_P_hasWord.2.1 26 = .ok (.iconst 0, 1) := by decide +kernel
theorem d_P_hasWord_27 : decode u_P_hasWord.2.1 27 = .ok (.ireturn, 1) := by decide +kernel
theorem d_P_takeInput_0 : decode u_P_takeInput.2.1 0 = .ok (.aload_n 0, 1) := by decide +kernel
theorem d_P_takeInput_1 : decode u_P_takeInput.2.1 1 = .ok (.getfield 32, 3) := by decide +kernel
theorem d_P_takeInput_4 : decode u_P_takeInput.2.1 4 = .ok (.getfield 67, 3) := by decide +kernel
theorem d_P_takeInput_7 : decode u_P_takeInput.2.1 7 = .ok (.ifCond .le 7, 3) := by decide +kernel
theorem d_P_takeInput_10 : decode u_P_takeInput.2.1 10 = .ok (.iconst 1, 1) := by decide +kernel
theorem d_P_takeInput_11 : decode u_P_takeInput.2.1 11 = .ok (.goto 4, 3) := by decide +kernel
theorem d_P_takeInput_14 : decode u_P_takeInput.2.1 14 = .ok (.iconst 0, 1) := by decide +kernel
theorem d_P_takeInput_15 : decode u_P_takeInput.2.1 15 = .ok (.istore_n 2, 1) := by decide +kernel
theorem d_P_takeInput_16 : decode u_P_takeInput.2.1 16 = .ok (.aload_n 0, 1) := by decide +kernel
theorem d_P_takeInput_17 : decode u_P_takeInput.2.1 17 = .ok (.getfield 24, 3) := by decide +kernel
theorem d_P_takeInput_20 : decode u_P_takeInput.2.1 20 = .ok (.iload_n 1, 1) := by decide +kernel
theorem d_P_takeInput_21 : decode u_P_takeInput.2.1 21 = .ok (.aload_n 0, 1) := by decide +kernel
theorem d_P_takeInput_22 : decode u_P_takeInput.2.1 22 = .ok (.getfield 32, 3) := by decide +kernel
theorem d_P_takeInput_25 : decode u_P_takeInput.2.1 25 = .ok (.invokevirtual 70, 3) := by decide +kernel
theorem d_P_takeInput_28 : decode u_P_takeInput.2.1 28 = .ok (.iastore, 1) := by decide +kernel
theorem d_P_takeInput_29 : decode u_P_takeInput.2.1 29 = .ok (.aload_n 0, 1) := by decide +kernel
theorem d_P_takeInput_30 : decode u_P_takeInput.2.1 30 = .ok (.getfield 24, 3) := by decide +kernel
theorem d_P_takeInput_33 : decode u_P_takeInput.2.1 33 = .ok (.iconst 3, 1) := by decide +kernel
theorem d_P_takeInput_34 : decode u_P_takeInput.2.1 34 = .ok (.iload_n 2, 1) := by decide +kernel
theorem d_P_takeInput_35 : decode u_P_takeInput.2.1 35 = .ok (.ifCond .eq 7, 3) := by decide +kernel
theorem d_P_takeInput_38 : decode u_P_takeInput.2.1 38 = .ok (.iconst 1, 1) := by decide +kernel
theorem d_P_takeInput_39 : decode u_P_takeInput.2.1 39 = .ok (.goto 4, 3) := by decide +kernel
theorem d_P_takeInput_42 : decode u_P_takeInput.2.1 42 = .ok (.iconst 0, 1) := by decide +kernel
theorem d_P_takeInput_43 : decode u_P_takeInput.2.1 43 = .ok (.iastore, 1) := by decide +kernel
theorem d_P_takeInput_44 : decode u_P_takeInput.2.1 44 = .ok (.return_, 1) := by decide +kernel
theorem d_P_putOut_0 : decode u_P_putOut.2.1 0 = .ok (.aload_n 0, 1) := by decide +kernel
theorem d_P_putOut_1 : decode u_P_putOut.2.1 1 = .ok (.getfield 74, 3) := by decide +kernel
theorem d_P_putOut_4 : decode u_P_putOut.2.1 4 = .ok (.bipush 16, 2) := by decide +kernel
theorem d_P_putOut_6 : decode u_P_putOut.2.1 6 = .ok (.if_icmp .ge 13, 3) := by decide +kernel
theorem d_P_putOut_9 : decode u_P_putOut.2.1 9 = .ok (.aload_n 0, 1) := by decide +kernel
theorem d_P_putOut_10 : decode u_P_putOut.2.1 10 = .ok (.getfield 36, 3) := by decide +kernel
theorem d_P_putOut_13 : decode u_P_putOut.2.1 13 = .ok (.aload_n 0, 1) := by decide +kernel
theorem d_P_putOut_14 : decode u_P_putOut.2.1 14 = .ok (.getfield 74, 3) := by decide +kernel
theorem d_P_putOut_17 : decode u_P_putOut.2.1 17 = .ok (.iload_n 1, 1) := by decide +kernel
theorem d_P_putOut_18 : decode u_P_putOut.2.1 18 = .ok (.iastore, 1) := by decide +kernel
theorem d_P_putOut_19 : decode u_P_putOut.2.1 19 = .ok (.aload_n 0, 1) := by decide +kernel
theorem d_P_putOut_20 : decode u_P_putOut.2.1 20 = .ok (.dup, 1) := by decide +kernel
theorem d_P_putOut_21 : decode u_P_putOut.2.1 21 = .ok (.getfield 74, 3) := by decide +kernel
theorem d_P_putOut_24 : decode u_P_putOut.2.1 24 = .ok (.iconst 1, 1) := by decide +kernel
theorem d_P_putOut_25 : decode u_P_putOut.2.1 25 = .ok (.iadd, 1) := by decide +kernel
theorem d_P_putOut_26 : decode u_P_putOut.2.1 26 = .ok (.putfield 74, 3) := by decide +kernel
theorem d_P_putOut_29 : decode u_P_putOut.2.1 29 = .ok (.return_, 1) := by decide +kernel
theorem d_P_outputAt_0 : decode u_P_outputAt.2.1 0 = .ok (.iload_n 1, 1) := by decide +kernel
theorem d_P_outputAt_1 : decode u_P_outputAt.2.1 1 = .ok (.ifCond .lt 26, 3) := by decide +kernel
theorem d_P_outputAt_4 : decode u_P_outputAt.2.1 4 = .ok (.iload_n 1, 1) := by decide +kernel
theorem d_P_outputAt_5 : decode u_P_outputAt.2.1 5 = .ok (.bipush 16, 2) := by decide +kernel
theorem d_P_outputAt_7 : decode u_P_outputAt.2.1 7 = .ok (.if_icmp .ge 20, 3) := by decide +kernel
theorem d_P_outputAt_10 : decode u_P_outputAt.2.1 10 = .ok (.iload_n 1, 1) := by decide +kernel
theorem d_P_outputAt_11 : decode u_P_outputAt.2.1 11 = .ok (.aload_n 0, 1) := by decide +kernel
theorem d_P_outputAt_12 : decode u_P_outputAt.2.1 12 = .ok (.getfield 74, 3) := by decide +kernel
theorem d_P_outputAt_15 : decode u_P_outputAt.2.1 15 = .ok (.if_icmp .ge 12, 3) := by decide +kernel
theorem d_P_outputAt_18 : decode u_P_outputAt.2.1 18 = .ok (.aload_n 0, 1) := by decide +kernel
theorem d_P_outputAt_19 : decode u_P_outputAt.2.1 19 = .ok (.getfield 36, 3) := by decide +kernel
theorem d_P_outputAt_22 : decode u_P_outputAt.2.1 22 = .ok (.iload_n 1, 1) := by decide +kernel
theorem d_P_outputAt_23 : decode u_P_outputAt.2.1 23 = .ok (.iaload, 1) := by decide +kernel
theorem d_P_outputAt_24 : decode u_P_outputAt.2.1 24 = .ok (.goto 4, 3) := by decide +kernel
theorem d_P_outputAt_27 : decode u_P_outputAt.2.1 27 = .ok (.iconst 0, 1) := by decide +kernel
theorem d_P_outputAt_28 : decode u_P_outputAt.2.1 28 = .ok (.ireturn, 1) := by decide +kernel
theorem d_P_tell_0 : decode u_P_tell.2.1 0 = .ok (.iload_n 1, 1) := by decide +kernel
theorem d_P_tell_1 : decode u_P_tell.2.1 1 = .ok (.tableswitch 94 0 8 #[51, 51, 51, 51, 58, 63, 76, 81, 86], 51) := by decide +kernel
theorem d_P_tell_52 : decode u_P_tell.2.1 52 = .ok (.aload_n 0, 1) := by decide +kernel
theorem d_P_tell_53 : decode u_P_tell.2.1 53 = .ok (.getfield 24, 3) := by decide +kernel
theorem d_P_tell_56 : decode u_P_tell.2.1 56 = .ok (.iload_n 1, 1) := by decide +kernel
theorem d_P_tell_57 : decode u_P_tell.2.1 57 = .ok (.iaload, 1) := by decide +kernel
theorem d_P_tell_58 : decode u_P_tell.2.1 58 = .ok (.ireturn, 1) := by decide +kernel
theorem d_P_tell_59 : decode u_P_tell.2.1 59 = .ok (.aload_n 0, 1) := by decide +kernel
theorem d_P_tell_60 : decode u_P_tell.2.1 60 = .ok (.getfield 60, 3) := by decide +kernel
theorem d_P_tell_63 : decode u_P_tell.2.1 63 = .ok (.ireturn, 1) := by decide +kernel
theorem d_P_tell_64 : decode u_P_tell.2.1 64 = .ok (.aload_n 0, 1) := by decide +kernel
theorem d_P_tell_65 : decode u_P_tell.2.1 65 = .ok (.getfield 53, 3) := by decide +kernel
theorem d_P_tell_68 : decode u_P_tell.2.1 68 = .ok (.ifCond .eq 7, 3) := by decide +kernel
theorem d_P_tell_71 : decode u_P_tell.2.1 71 = .ok (.iconst 1, 1) := by decide +kernel
theorem d_P_tell_72 : decode u_P_tell.2.1 72 = .ok (.goto 4, 3) := by decide +kernel
theorem d_P_tell_75 : decode u_P_tell.2.1 75 = .ok (.iconst 0, 1) := by decide +kernel
theorem d_P_tell_76 : decode u_P_tell.2.1 76 = .ok (.ireturn, 1) := by decide +kernel
theorem d_P_tell_77 : decode u_P_tell.2.1 77 = .ok (.aload_n 0, 1) := by decide +kernel
theorem d_P_tell_78 : decode u_P_tell.2.1 78 = .ok (.getfield 57, 3) := by decide +kernel
theorem d_P_tell_81 : decode u_P_tell.2.1 81 = .ok (.ireturn, 1) := by decide +kernel
theorem d_P_tell_82 : decode u_P_tell.2.1 82 = .ok (.aload_n 0, 1) := by decide +kernel
theorem d_P_tell_83 : decode u_P_tell.2.1 83 = .ok (.getfield 74, 3) := by decide +kernel
theorem d_P_tell_86 : decode u_P_tell.2.1 86 = .ok (.ireturn, 1) := by decide +kernel
theorem d_P_tell_87 : decode u_P_tell.2.1 87 = .ok (.aload_n 0, 1) := by decide +kernel
theorem d_P_tell_88 : decode u_P_tell.2.1 88 = .ok (.getfield 32, 3) := by decide +kernel
theorem d_P_tell_91 : decode u_P_tell.2.1 91 = .ok (.getfield 67, 3) := by decide +kernel
theorem d_P_tell_94 : decode u_P_tell.2.1 94 = .ok (.ireturn, 1) := by decide +kernel
theorem d_P_tell_95 : decode u_P_tell.2.1 95 = .ok (.iconst (-1), 1) := by decide +kernel
theorem d_P_tell_96 : decode u_P_tell.2.1 96 = .ok (.ireturn, 1) := by decide +kernel
theorem d_Q_init_0 : decode u_Q_init.2.1 0 = .ok (.aload_n 0, 1) := by decide +kernel
theorem d_Q_init_1 : decode u_Q_init.2.1 1 = .ok (.invokespecial 3, 3) := by decide +kernel
theorem d_Q_init_4 : decode u_Q_init.2.1 4 = .ok (.aload_n 0, 1) := by decide +kernel
theorem d_Q_init_5 : decode u_Q_init.2.1 5 = .ok (.new 9, 3) := by decide +kernel
theorem d_Q_init_8 : decode u_Q_init.2.1 8 = .ok (.dup, 1) := by decide +kernel
theorem d_Q_init_9 : decode u_Q_init.2.1 9 = .ok (.iconst 4, 1) := by decide +kernel
theorem d_Q_init_10 : decode u_Q_init.2.1 10 = .ok (.invokespecial 11, 3) := by decide +kernel
theorem d_Q_init_13 : decode u_Q_init.2.1 13 = .ok (.putfield 14, 3) := by decide +kernel
theorem d_Q_init_16 : decode u_Q_init.2.1 16 = .ok (.return_, 1) := by decide +kernel
theorem d_Q_isSampling_0 : decode u_Q_isSampling.2.1 0 = .ok (.aload_n 0, 1) := by decide +kernel
theorem d_Q_isSampling_1 : decode u_Q_isSampling.2.1 1 = .ok (.getfield 20, 3) := by decide +kernel
theorem d_Q_isSampling_4 : decode u_Q_isSampling.2.1 4 = .ok (.ifCond .ne 7, 3) := by decide +kernel
theorem d_Q_isSampling_7 : decode u_Q_isSampling.2.1 7 = .ok (.iconst 1, 1) := by decide +kernel
theorem d_Q_isSampling_8 : decode u_Q_isSampling.2.1 8 = .ok (.goto 4, 3) := by decide +kernel
theorem d_Q_isSampling_11 : decode u_Q_isSampling.2.1 11 = .ok (.iconst 0, 1) := by decide +kernel
theorem d_Q_isSampling_12 : decode u_Q_isSampling.2.1 12 = .ok (.ireturn, 1) := by decide +kernel
theorem d_Q_send_0 : decode u_Q_send.2.1 0 = .ok (.aload_n 0, 1) := by decide +kernel
theorem d_Q_send_1 : decode u_Q_send.2.1 1 = .ok (.invokevirtual 24, 3) := by decide +kernel
theorem d_Q_send_4 : decode u_Q_send.2.1 4 = .ok (.ifCond .eq 28, 3) := by decide +kernel
theorem d_Q_send_7 : decode u_Q_send.2.1 7 = .ok (.aload_n 0, 1) := by decide +kernel
theorem d_Q_send_8 : decode u_Q_send.2.1 8 = .ok (.getfield 14, 3) := by decide +kernel
theorem d_Q_send_11 : decode u_Q_send.2.1 11 = .ok (.invokevirtual 28, 3) := by decide +kernel
theorem d_Q_send_14 : decode u_Q_send.2.1 14 = .ok (.aload_n 0, 1) := by decide +kernel
theorem d_Q_send_15 : decode u_Q_send.2.1 15 = .ok (.getfield 14, 3) := by decide +kernel
theorem d_Q_send_18 : decode u_Q_send.2.1 18 = .ok (.aload_n 1, 1) := by decide +kernel
theorem d_Q_send_19 : decode u_Q_send.2.1 19 = .ok (.iload_n 2, 1) := by decide +kernel
theorem d_Q_send_20 : decode u_Q_send.2.1 20 = .ok (.iaload, 1) := by decide +kernel
theorem d_Q_send_21 : decode u_Q_send.2.1 21 = .ok (.iconst 1, 1) := by decide +kernel
theorem d_Q_send_22 : decode u_Q_send.2.1 22 = .ok (.invokevirtual 31, 3) := by decide +kernel
theorem d_Q_send_25 : decode u_Q_send.2.1 25 = .ok (.pop, 1) := by decide +kernel
theorem d_Q_send_26 : decode u_Q_send.2.1 26 = .ok (.aload_n 0, 1) := by decide +kernel
theorem d_Q_send_27 : decode u_Q_send.2.1 27 = .ok (.iload_n 3, 1) := by decide +kernel
theorem d_Q_send_28 : decode u_Q_send.2.1 28 = .ok (.putfield 35, 3) := by decide +kernel
theorem d_Q_send_31 : decode u_Q_send.2.1 31 = .ok (.return_, 1) := by decide +kernel
theorem d_Q_send_32 : decode u_Q_send.2.1 32 = .ok (.aload_n 1, 1) := by decide +kernel
theorem d_Q_send_33 : decode u_Q_send.2.1 33 = .ok (.iconst 3, 1) := by decide +kernel
theorem d_Q_send_34 : decode u_Q_send.2.1 34 = .ok (.aload_n 0, 1) := by decide +kernel
theorem d_Q_send_35 : decode u_Q_send.2.1 35 = .ok (.getfield 14, 3) := by decide +kernel
theorem d_Q_send_38 : decode u_Q_send.2.1 38 = .ok (.aload_n 1, 1) := by decide +kernel
theorem d_Q_send_39 : decode u_Q_send.2.1 39 = .ok (.iload_n 2, 1) := by decide +kernel
theorem d_Q_send_40 : decode u_Q_send.2.1 40 = .ok (.iaload, 1) := by decide +kernel
theorem d_Q_send_41 : decode u_Q_send.2.1 41 = .ok (.aload_n 0, 1) := by decide +kernel
theorem d_Q_send_42 : decode u_Q_send.2.1 42 = .ok (.getfield 20, 3) := by decide +kernel
theorem d_Q_send_45 : decode u_Q_send.2.1 45 = .ok (.invokevirtual 31, 3) := by decide +kernel
theorem d_Q_send_48 : decode u_Q_send.2.1 48 = .ok (.ifCond .eq 7, 3) := by decide +kernel
theorem d_Q_send_51 : decode u_Q_send.2.1 51 = .ok (.iconst 1, 1) := by decide +kernel
theorem d_Q_send_52 : decode u_Q_send.2.1 52 = .ok (.goto 4, 3) := by decide +kernel
theorem d_Q_send_55 : decode u_Q_send.2.1 55 = .ok (.iconst 0, 1) := by decide +kernel
theorem d_Q_send_56 : decode u_Q_send.2.1 56 = .ok (.iastore, 1) := by decide +kernel
theorem d_Q_send_57 : decode u_Q_send.2.1 57 = .ok (.return_, 1) := by decide +kernel
theorem d_Q_receive_0 : decode u_Q_receive.2.1 0 = .ok (.aload_n 0, 1) := by decide +kernel
theorem d_Q_receive_1 : decode u_Q_receive.2.1 1 = .ok (.getfield 14, 3) := by decide +kernel
theorem d_Q_receive_4 : decode u_Q_receive.2.1 4 = .ok (.getfield 38, 3) := by decide +kernel
theorem d_Q_receive_7 : decode u_Q_receive.2.1 7 = .ok (.ifCond .ne 21, 3) := by decide +kernel
theorem d_Q_receive_10 : decode u_Q_receive.2.1 10 = .ok (.aload_n 1, 1) := by decide +kernel
theorem d_Q_receive_11 : decode u_Q_receive.2.1 11 = .ok (.iconst 3, 1) := by decide +kernel
theorem d_Q_receive_12 : decode u_Q_receive.2.1 12 = .ok (.aload_n 0, 1) := by decide +kernel
theorem d_Q_receive_13 : decode u_Q_receive.2.1 13 = .ok (.invokevirtual 24, 3) := by decide +kernel
theorem d_Q_receive_16 : decode u_Q_receive.2.1 16 = .ok (.ifCond .eq 7, 3) := by decide +kernel
theorem d_Q_receive_19 : decode u_Q_receive.2.1 19 = .ok (.iconst (-1), 1) := by decide +kernel
theorem d_Q_receive_20 : decode u_Q_receive.2.1 20 = .ok (.goto 4, 3) := by decide +kernel
theorem d_Q_receive_23 : decode u_Q_receive.2.1 23 = .ok (.iconst 0, 1) := by decide +kernel
theorem d_Q_receive_24 : decode u_Q_receive.2.1 24 = .ok (.iastore, 1) := by decide +kernel
theorem d_Q_receive_25 : decode u_Q_receive.2.1 25 = .ok (.goto 51, 3) := by decide +kernel
theorem d_Q_receive_28 : decode u_Q_receive.2.1 28 = .ok (.aload_n 0, 1) := by decide +kernel
theorem d_Q_receive_29 : decode u_Q_receive.2.1 29 = .ok (.invokevirtual 24, 3) := by decide +kernel
theorem d_Q_receive_32 : decode u_Q_receive.2.1 32 = .ok (.ifCond .eq 30, 3) := by decide +kernel
theorem d_Q_receive_35 : decode u_Q_receive.2.1 35 = .ok (.aload_n 1, 1) := by decide +kernel
theorem d_Q_receive_36 : decode u_Q_receive.2.1 36 = .ok (.iload_n 2, 1) := by decide +kernel
theorem d_Q_receive_37 : decode u_Q_receive.2.1 37 = .ok (.aload_n 0, 1) := by decide +kernel
theorem d_Q_receive_38 : decode u_Q_receive.2.1 38 = .ok (.getfield 14, 3) := by decide +kernel
theorem d_Q_receive_41 : decode u_Q_receive.2.1 41 = .ok (.invokevirtual 41, 3) := by decide +kernel
theorem d_Q_receive_44 : decode u_Q_receive.2.1 44 = .ok (.iastore, 1) := by decide +kernel
theorem d_Q_receive_45 : decode u_Q_receive.2.1 45 = .ok (.aload_n 1, 1) := by decide +kernel
theorem d_Q_receive_46 : decode u_Q_receive.2.1 46 = .ok (.iconst 3, 1) := by decide +kernel
theorem d_Q_receive_47 : decode u_Q_receive.2.1 47 = .ok (.iload_n 3, 1) := by decide +kernel
theorem d_Q_receive_48 : decode u_Q_receive.2.1 48 = .ok (.aload_n 0, 1) := by decide +kernel
theorem d_Q_receive_49 : decode u_Q_receive.2.1 49 = .ok (.getfield 35, 3) := by decide +kernel
theorem d_Q_receive_52 : decode u_Q_receive.2.1 52 = .ok (.isub, 1) := by decide +kernel
theorem d_Q_receive_53 : decode u_Q_receive.2.1 53 = .ok (.bipush 99, 2) := by decide +kernel
theorem d_Q_receive_55 : decode u_Q_receive.2.1 55 = .ok (.invokestatic 45, 3) := by decide +kernel
theorem d_Q_receive_58 : decode u_Q_receive.2.1 58 = .ok (.iastore, 1) := by decide +kernel
theorem d_Q_receive_59 : decode u_Q_receive.2.1 59 = .ok (.goto 17, 3) := by decide +kernel
theorem d_Q_receive_62 : decode u_Q_receive.2.1 62 = .ok (.aload_n 1, 1) := by decide +kernel
theorem d_Q_receive_63 : decode u_Q_receive.2.1 63 = .ok (.iload_n 2, 1) := by decide +kernel
theorem d_Q_receive_64 : decode u_Q_receive.2.1 64 = .ok (.aload_n 0, 1) := by decide +kernel
theorem d_Q_receive_65 : decode u_Q_receive.2.1 65 = .ok (.getfield 14, 3) := by decide +kernel
theorem d_Q_receive_68 : decode u_Q_receive.2.1 68 = .ok (.invokevirtual 51, 3) := by decide +kernel
theorem d_Q_receive_71 : decode u_Q_receive.2.1 71 = .ok (.iastore, 1) := by decide +kernel
theorem d_Q_receive_72 : decode u_Q_receive.2.1 72 = .ok (.aload_n 1, 1) := by decide +kernel
theorem d_Q_receive_73 : decode u_Q_receive.2.1 73 = .ok (.iconst 3, 1) := by decide +kernel
theorem d_Q_receive_74 : decode u_Q_receive.2.1 74 = .ok (.iconst 1, 1) := by decide +kernel
theorem d_Q_receive_75 : decode u_Q_receive.2.1 75 = .ok (.iastore, 1) := by decide +kernel
theorem d_Q_receive_76 : decode u_Q_receive.2.1 76 = .ok (.return_, 1) := by decide +kernel
theorem d_F_init_0 : decode u_F_init.2.1 0 = .ok (.aload_n 0, 1) := by decide +kernel
theorem d_F_init_1 : decode u_F_init.2.1 1 = .ok (.invokespecial 3, 3) := by decide +kernel
theorem d_F_init_4 : decode u_F_init.2.1 4 = .ok (.aload_n 0, 1) := by decide +kernel
theorem d_F_init_5 : decode u_F_init.2.1 5 = .ok (.bipush 8, 2) := by decide +kernel
theorem d_F_init_7 : decode u_F_init.2.1 7 = .ok (.newarray .int, 2) := by decide +kernel
theorem d_F_init_9 : decode u_F_init.2.1 9 = .ok (.putfield 9, 3) := by decide +kernel
theorem d_F_init_12 : decode u_F_init.2.1 12 = .ok (.aload_n 0, 1) := by decide +kernel
theorem d_F_init_13 : decode u_F_init.2.1 13 = .ok (.bipush 8, 2) := by decide +kernel
theorem d_F_init_15 : decode u_F_init.2.1 15 = .ok (.newarray .int, 2) := by decide +kernel
theorem d_F_init_17 : decode u_F_init.2.1 17 = .ok (.putfield 15, 3) := by decide +kernel
theorem d_F_init_20 : decode u_F_init.2.1 20 = .ok (.return_, 1) := by decide +kernel
theorem d_F_isFull_0 : decode u_F_isFull.2.1 0 = .ok (.aload_n 0, 1) := by decide +kernel
theorem d_F_isFull_1 : decode u_F_isFull.2.1 1 = .ok (.getfield 18, 3) := by decide +kernel
theorem d_F_isFull_4 : decode u_F_isFull.2.1 4 = .ok (.bipush 8, 2) := by decide +kernel
theorem d_F_isFull_6 : decode u_F_isFull.2.1 6 = .ok (.if_icmp .lt 7, 3) := by decide +kernel
theorem d_F_isFull_9 : decode u_F_isFull.2.1 9 = .ok (.iconst 1, 1) := by decide +kernel
theorem d_F_isFull_10 : decode u_F_isFull.2.1 10 = .ok (.goto 4, 3) := by decide +kernel
theorem d_F_isFull_13 : decode u_F_isFull.2.1 13 = .ok (.iconst 0, 1) := by decide +kernel
theorem d_F_isFull_14 : decode u_F_isFull.2.1 14 = .ok (.ireturn, 1) := by decide +kernel
theorem d_F_append_0 : decode u_F_append.2.1 0 = .ok (.aload_n 0, 1) := by decide +kernel
theorem d_F_append_1 : decode u_F_append.2.1 1 = .ok (.getfield 9, 3) := by decide +kernel
theorem d_F_append_4 : decode u_F_append.2.1 4 = .ok (.aload_n 0, 1) := by decide +kernel
theorem d_F_append_5 : decode u_F_append.2.1 5 = .ok (.getfield 18, 3) := by decide +kernel
theorem d_F_append_8 : decode u_F_append.2.1 8 = .ok (.iload_n 1, 1) := by decide +kernel
theorem d_F_append_9 : decode u_F_append.2.1 9 = .ok (.iastore, 1) := by decide +kernel
theorem d_F_append_10 : decode u_F_append.2.1 10 = .ok (.aload_n 0, 1) := by decide +kernel
theorem d_F_append_11 : decode u_F_append.2.1 11 = .ok (.getfield 15, 3) := by decide +kernel
theorem d_F_append_14 : decode u_F_append.2.1 14 = .ok (.aload_n 0, 1) := by decide +kernel
theorem d_F_append_15 : decode u_F_append.2.1 15 = .ok (.getfield 18, 3) := by decide +kernel
theorem d_F_append_18 : decode u_F_append.2.1 18 = .ok (.iload_n 2, 1) := by decide +kernel
theorem d_F_append_19 : decode u_F_append.2.1 19 = .ok (.iastore, 1) := by decide +kernel
theorem d_F_append_20 : decode u_F_append.2.1 20 = .ok (.aload_n 0, 1) := by decide +kernel
theorem d_F_append_21 : decode u_F_append.2.1 21 = .ok (.dup, 1) := by decide +kernel
theorem d_F_append_22 : decode u_F_append.2.1 22 = .ok (.getfield 18, 3) := by decide +kernel
theorem d_F_append_25 : decode u_F_append.2.1 25 = .ok (.iconst 1, 1) := by decide +kernel
theorem d_F_append_26 : decode u_F_append.2.1 26 = .ok (.iadd, 1) := by decide +kernel
theorem d_F_append_27 : decode u_F_append.2.1 27 = .ok (.putfield 18, 3) := by decide +kernel
theorem d_F_append_30 : decode u_F_append.2.1 30 = .ok (.return_, 1) := by decide +kernel
theorem d_F_hasWindowOf_0 : decode u_F_hasWindowOf.2.1 0 = .ok (.iconst 0, 1) := by decide +kernel
theorem d_F_hasWindowOf_1 : decode u_F_hasWindowOf.2.1 1 = .ok (.istore_n 2, 1) := by decide +kernel
theorem d_F_hasWindowOf_2 : decode u_F_hasWindowOf.2.1 2 = .ok (.iload_n 2, 1) := by decide +kernel
theorem d_F_hasWindowOf_3 : decode u_F_hasWindowOf.2.1 3 = .ok (.aload_n 0, 1) := by decide +kernel
theorem d_F_hasWindowOf_4 : decode u_F_hasWindowOf.2.1 4 = .ok (.getfield 18, 3) := by decide +kernel
theorem d_F_hasWindowOf_7 : decode u_F_hasWindowOf.2.1 7 = .ok (.if_icmp .ge 21, 3) := by decide +kernel
theorem d_F_hasWindowOf_10 : decode u_F_hasWindowOf.2.1 10 = .ok (.aload_n 0, 1) := by decide +kernel
theorem d_F_hasWindowOf_11 : decode u_F_hasWindowOf.2.1 11 = .ok (.getfield 9, 3) := by decide +kernel
theorem d_F_hasWindowOf_14 : decode u_F_hasWindowOf.2.1 14 = .ok (.iload_n 2, 1) := by decide +kernel
theorem d_F_hasWindowOf_15 : decode u_F_hasWindowOf.2.1 15 = .ok (.iaload, 1) := by decide +kernel
theorem d_F_hasWindowOf_16 : decode u_F_hasWindowOf.2.1 16 = .ok (.iload_n 1, 1) := by decide +kernel
theorem d_F_hasWindowOf_17 : decode u_F_hasWindowOf.2.1 17 = .ok (.if_icmp .ne 5, 3) := by decide +kernel
theorem d_F_hasWindowOf_20 : decode u_F_hasWindowOf.2.1 20 = .ok (.iconst 1, 1) := by decide +kernel
theorem d_F_hasWindowOf_21 : decode u_F_hasWindowOf.2.1 21 = .ok (.ireturn, 1) := by decide +kernel
theorem d_F_hasWindowOf_22 : decode u_F_hasWindowOf.2.1 22 = .ok (.iinc 2 1, 3) := by decide +kernel
theorem d_F_hasWindowOf_25 : decode u_F_hasWindowOf.2.1 25 = .ok (.goto (-23), 3) := by decide +kernel
theorem d_F_hasWindowOf_28 : decode u_F_hasWindowOf.2.1 28 = .ok (.iconst 0, 1) := by decide +kernel
theorem d_F_hasWindowOf_29 : decode u_F_hasWindowOf.2.1 29 = .ok (.ireturn, 1) := by decide +kernel
theorem d_F_beginAnew_0 : decode u_F_beginAnew.2.1 0 = .ok (.aload_n 0, 1) := by decide +kernel
theorem d_F_beginAnew_1 : decode u_F_beginAnew.2.1 1 = .ok (.iconst 0, 1) := by decide +kernel
theorem d_F_beginAnew_2 : decode u_F_beginAnew.2.1 2 = .ok (.putfield 22, 3) := by decide +kernel
theorem d_F_beginAnew_5 : decode u_F_beginAnew.2.1 5 = .ok (.aload_n 0, 1) := by decide +kernel
theorem d_F_beginAnew_6 : decode u_F_beginAnew.2.1 6 = .ok (.iconst 0, 1) := by decide +kernel
theorem d_F_beginAnew_7 : decode u_F_beginAnew.2.1 7 = .ok (.putfield 25, 3) := by decide +kernel
theorem d_F_beginAnew_10 : decode u_F_beginAnew.2.1 10 = .ok (.aload_n 0, 1) := by decide +kernel
theorem d_F_beginAnew_11 : decode u_F_beginAnew.2.1 11 = .ok (.iconst 0, 1) := by decide +kernel
theorem d_F_beginAnew_12 : decode u_F_beginAnew.2.1 12 = .ok (.putfield 28, 3) := by decide +kernel
theorem d_F_beginAnew_15 : decode u_F_beginAnew.2.1 15 = .ok (.aload_n 0, 1) := by decide +kernel
theorem d_F_beginAnew_16 : decode u_F_beginAnew.2.1 16 = .ok (.iconst 0, 1) := by decide +kernel
theorem d_F_beginAnew_17 : decode u_F_beginAnew.2.1 17 = .ok (.putfield 31, 3) := by decide +kernel
theorem d_F_beginAnew_20 : decode u_F_beginAnew.2.1 20 = .ok (.return_, 1) := by decide +kernel
theorem d_F_partitionAtHand_0 : decode u_F_partitionAtHand.2.1 0 = .ok (.aload_n 0, 1) := by decide +kernel
theorem d_F_partitionAtHand_1 : decode u_F_partitionAtHand.2.1 1 = .ok (.getfield 9, 3) := by decide +kernel
theorem d_F_partitionAtHand_4 : decode u_F_partitionAtHand.2.1 4 = .ok (.aload_n 0, 1) := by decide +kernel
theorem d_F_partitionAtHand_5 : decode u_F_partitionAtHand.2.1 5 = .ok (.getfield 22, 3) := by decide +kernel
theorem d_F_partitionAtHand_8 : decode u_F_partitionAtHand.2.1 8 = .ok (.iaload, 1) := by decide +kernel
theorem d_F_partitionAtHand_9 : decode u_F_partitionAtHand.2.1 9 = .ok (.ireturn, 1) := by decide +kernel
theorem d_F_endTick_0 : decode u_F_endTick.2.1 0 = .ok (.aload_n 0, 1) := by decide +kernel
theorem d_F_endTick_1 : decode u_F_endTick.2.1 1 = .ok (.dup, 1) := by decide +kernel
theorem d_F_endTick_2 : decode u_F_endTick.2.1 2 = .ok (.getfield 28, 3) := by decide +kernel
theorem d_F_endTick_5 : decode u_F_endTick.2.1 5 = .ok (.iconst 1, 1) := by decide +kernel
theorem d_F_endTick_6 : decode u_F_endTick.2.1 6 = .ok (.iadd, 1) := by decide +kernel
theorem d_F_endTick_7 : decode u_F_endTick.2.1 7 = .ok (.putfield 28, 3) := by decide +kernel
theorem d_F_endTick_10 : decode u_F_endTick.2.1 10 = .ok (.aload_n 0, 1) := by decide +kernel
theorem d_F_endTick_11 : decode u_F_endTick.2.1 11 = .ok (.dup, 1) := by decide +kernel
theorem d_F_endTick_12 : decode u_F_endTick.2.1 12 = .ok (.getfield 25, 3) := by decide +kernel
theorem d_F_endTick_15 : decode u_F_endTick.2.1 15 = .ok (.iconst 1, 1) := by decide +kernel
theorem d_F_endTick_16 : decode u_F_endTick.2.1 16 = .ok (.iadd, 1) := by decide +kernel
theorem d_F_endTick_17 : decode u_F_endTick.2.1 17 = .ok (.putfield 25, 3) := by decide +kernel
theorem d_F_endTick_20 : decode u_F_endTick.2.1 20 = .ok (.aload_n 0, 1) := by decide +kernel
theorem d_F_endTick_21 : decode u_F_endTick.2.1 21 = .ok (.getfield 25, 3) := by decide +kernel
theorem d_F_endTick_24 : decode u_F_endTick.2.1 24 = .ok (.aload_n 0, 1) := by decide +kernel
theorem d_F_endTick_25 : decode u_F_endTick.2.1 25 = .ok (.getfield 15, 3) := by decide +kernel
theorem d_F_endTick_28 : decode u_F_endTick.2.1 28 = .ok (.aload_n 0, 1) := by decide +kernel
theorem d_F_endTick_29 : decode u_F_endTick.2.1 29 = .ok (.getfield 22, 3) := by decide +kernel
theorem d_F_endTick_32 : decode u_F_endTick.2.1 32 = .ok (.iaload, 1) := by decide +kernel
theorem d_F_endTick_33 : decode u_F_endTick.2.1 33 = .ok (.if_icmp .lt 40, 3) := by decide +kernel
theorem d_F_endTick_36 : decode u_F_endTick.2.1 36 = .ok (.aload_n 0, 1) := by decide +kernel
theorem d_F_endTick_37 : decode u_F_endTick.2.1 37 = .ok (.aload_n 0, 1) := by decide +kernel
theorem d_F_endTick_38 : decode u_F_endTick.2.1 38 = .ok (.getfield 22, 3) := by decide +kernel
theorem d_F_endTick_41 : decode u_F_endTick.2.1 41 = .ok (.iconst 1, 1) := by decide +kernel
theorem d_F_endTick_42 : decode u_F_endTick.2.1 42 = .ok (.iadd, 1) := by decide +kernel
theorem d_F_endTick_43 : decode u_F_endTick.2.1 43 = .ok (.aload_n 0, 1) := by decide +kernel
theorem d_F_endTick_44 : decode u_F_endTick.2.1 44 = .ok (.getfield 18, 3) := by decide +kernel
theorem d_F_endTick_47 : decode u_F_endTick.2.1 47 = .ok (.if_icmp .ge 12, 3) := by decide +kernel
theorem d_F_endTick_50 : decode u_F_endTick.2.1 50 = .ok (.aload_n 0, 1) := by decide +kernel
theorem d_F_endTick_51 : decode u_F_endTick.2.1 51 = .ok (.getfield 22, 3) := by decide +kernel
theorem d_F_endTick_54 : decode u_F_endTick.2.1 54 = .ok (.iconst 1, 1) := by decide +kernel
theorem d_F_endTick_55 : decode u_F_endTick.2.1 55 = .ok (.iadd, 1) := by decide +kernel
theorem d_F_endTick_56 : decode u_F_endTick.2.1 56 = .ok (.goto 4, 3) := by decide +kernel
theorem d_F_endTick_59 : decode u_F_endTick.2.1 59 = .ok (.iconst 0, 1) := by decide +kernel
theorem d_F_endTick_60 : decode u_F_endTick.2.1 60 = .ok (.putfield 22, 3) := by decide +kernel
theorem d_F_endTick_63 : decode u_F_endTick.2.1 63 = .ok (.aload_n 0, 1) := by decide +kernel
theorem d_F_endTick_64 : decode u_F_endTick.2.1 64 = .ok (.iconst 0, 1) := by decide +kernel
theorem d_F_endTick_65 : decode u_F_endTick.2.1 65 = .ok (.putfield 25, 3) := by decide +kernel
theorem d_F_endTick_68 : decode u_F_endTick.2.1 68 = .ok (.aload_n 0, 1) := by decide +kernel
theorem d_F_endTick_69 : decode u_F_endTick.2.1 69 = .ok (.iconst 0, 1) := by decide +kernel
theorem d_F_endTick_70 : decode u_F_endTick.2.1 70 = .ok (.putfield 31, 3) := by decide +kernel
theorem d_F_endTick_73 : decode u_F_endTick.2.1 73 = .ok (.return_, 1) := by decide +kernel
theorem d_F_tell_0 : decode u_F_tell.2.1 0 = .ok (.iload_n 1, 1) := by decide +kernel
theorem d_F_tell_1 : decode u_F_tell.2.1 1 = .ok (.tableswitch 42 0 2 #[27, 32, 37], 27) := by decide +kernel
theorem d_F_tell_28 : decode u_F_tell.2.1 28 = .ok (.aload_n 0, 1) := by decide +kernel
theorem d_F_tell_29 : decode u_F_tell.2.1 29 = .ok (.getfield 22, 3) := by decide +kernel
theorem d_F_tell_32 : decode u_F_tell.2.1 32 = .ok (.ireturn, 1) := by decide +kernel
theorem d_F_tell_33 : decode u_F_tell.2.1 33 = .ok (.aload_n 0, 1) := by decide +kernel
theorem d_F_tell_34 : decode u_F_tell.2.1 34 = .ok (.getfield 25, 3) := by decide +kernel
theorem d_F_tell_37 : decode u_F_tell.2.1 37 = .ok (.ireturn, 1) := by decide +kernel
theorem d_F_tell_38 : decode u_F_tell.2.1 38 = .ok (.aload_n 0, 1) := by decide +kernel
theorem d_F_tell_39 : decode u_F_tell.2.1 39 = .ok (.getfield 28, 3) := by decide +kernel
theorem d_F_tell_42 : decode u_F_tell.2.1 42 = .ok (.ireturn, 1) := by decide +kernel
theorem d_F_tell_43 : decode u_F_tell.2.1 43 = .ok (.iconst (-1), 1) := by decide +kernel
theorem d_F_tell_44 : decode u_F_tell.2.1 44 = .ok (.ireturn, 1) := by decide +kernel
theorem d_V_init_0 : decode u_V_init.2.1 0 = .ok (.aload_n 0, 1) := by decide +kernel
theorem d_V_init_1 : decode u_V_init.2.1 1 = .ok (.invokespecial 1, 3) := by decide +kernel
theorem d_V_init_4 : decode u_V_init.2.1 4 = .ok (.aload_n 0, 1) := by decide +kernel
theorem d_V_init_5 : decode u_V_init.2.1 5 = .ok (.iload_n 1, 1) := by decide +kernel
theorem d_V_init_6 : decode u_V_init.2.1 6 = .ok (.newarray .int, 2) := by decide +kernel
theorem d_V_init_8 : decode u_V_init.2.1 8 = .ok (.putfield 7, 3) := by decide +kernel
theorem d_V_init_11 : decode u_V_init.2.1 11 = .ok (.aload_n 0, 1) := by decide +kernel
theorem d_V_init_12 : decode u_V_init.2.1 12 = .ok (.iconst 0, 1) := by decide +kernel
theorem d_V_init_13 : decode u_V_init.2.1 13 = .ok (.putfield 13, 3) := by decide +kernel
theorem d_V_init_16 : decode u_V_init.2.1 16 = .ok (.aload_n 0, 1) := by decide +kernel
theorem d_V_init_17 : decode u_V_init.2.1 17 = .ok (.iconst 0, 1) := by decide +kernel
theorem d_V_init_18 : decode u_V_init.2.1 18 = .ok (.putfield 17, 3) := by decide +kernel
theorem d_V_init_21 : decode u_V_init.2.1 21 = .ok (.return_, 1) := by decide +kernel
theorem d_V_put_0 : decode u_V_put.2.1 0 = .ok (.aload_n 0, 1) := by decide +kernel
theorem d_V_put_1 : decode u_V_put.2.1 1 = .ok (.getfield 17, 3) := by decide +kernel
theorem d_V_put_4 : decode u_V_put.2.1 4 = .ok (.iload_n 2, 1) := by decide +kernel
theorem d_V_put_5 : decode u_V_put.2.1 5 = .ok (.if_icmp .ge 15, 3) := by decide +kernel
theorem d_V_put_8 : decode u_V_put.2.1 8 = .ok (.aload_n 0, 1) := by decide +kernel
theorem d_V_put_9 : decode u_V_put.2.1 9 = .ok (.getfield 17, 3) := by decide +kernel
theorem d_V_put_12 : decode u_V_put.2.1 12 = .ok (.aload_n 0, 1) := by decide +kernel
theorem d_V_put_13 : decode u_V_put.2.1 13 = .ok (.getfield 7, 3) := by decide +kernel
theorem d_V_put_16 : decode u_V_put.2.1 16 = .ok (.arraylength, 1) := by decide +kernel
theorem d_V_put_17 : decode u_V_put.2.1 17 = .ok (.if_icmp .lt 5, 3) := by decide +kernel
theorem d_V_put_20 : decode u_V_put.2.1 20 = .ok (.iconst 0, 1) := by decide +kernel
theorem d_V_put_21 : decode u_V_put.2.1 21 = .ok (.ireturn, 1) := by decide +kernel
theorem d_V_put_22 : decode u_V_put.2.1 22 = .ok (.aload_n 0, 1) := by decide +kernel
theorem d_V_put_23 : decode u_V_put.2.1 23 = .ok (.getfield 13, 3) := by decide +kernel
theorem d_V_put_26 : decode u_V_put.2.1 26 = .ok (.aload_n 0, 1) := by decide +kernel
theorem d_V_put_27 : decode u_V_put.2.1 27 = .ok (.getfield 17, 3) := by decide +kernel
theorem d_V_put_30 : decode u_V_put.2.1 30 = .ok (.iadd, 1) := by decide +kernel
theorem d_V_put_31 : decode u_V_put.2.1 31 = .ok (.istore_n 3, 1) := by decide +kernel
theorem d_V_put_32 : decode u_V_put.2.1 32 = .ok (.aload_n 0, 1) := by decide +kernel
theorem d_V_put_33 : decode u_V_put.2.1 33 = .ok (.getfield 7, 3) := by decide +kernel
theorem d_V_put_36 : decode u_V_put.2.1 36 = .ok (.iload_n 3, 1) := by decide +kernel
theorem d_V_put_37 : decode u_V_put.2.1 37 = .ok (.aload_n 0, 1) := by decide +kernel
theorem d_V_put_38 : decode u_V_put.2.1 38 = .ok (.getfield 7, 3) := by decide +kernel
theorem d_V_put_41 : decode u_V_put.2.1 41 = .ok (.arraylength, 1) := by decide +kernel
theorem d_V_put_42 : decode u_V_put.2.1 42 = .ok (.if_icmp .ge 7, 3) := by decide +kernel
theorem d_V_put_45 : decode u_V_put.2.1 45 = .ok (.iload_n 3, 1) := by decide +kernel
theorem d_V_put_46 : decode u_V_put.2.1 46 = .ok (.goto 10, 3) := by decide +kernel
theorem d_V_put_49 : decode u_V_put.2.1 49 = .ok (.iload_n 3, 1) := by decide +kernel
theorem d_V_put_50 : decode u_V_put.2.1 50 = .ok (.aload_n 0, 1) := by decide +kernel
theorem d_V_put_51 : decode u_V_put.2.1 51 = .ok (.getfield 7, 3) := by decide +kernel
