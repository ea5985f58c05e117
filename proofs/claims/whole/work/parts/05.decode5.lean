theorem d_M_react_6 : decode u_M_react.2.1 6 = .ok (.imul, 1) := by decide +kernel
theorem d_M_react_7 : decode u_M_react.2.1 7 = .ok (.iload_n 2, 1) := by decide +kernel
theorem d_M_react_8 : decode u_M_react.2.1 8 = .ok (.iadd, 1) := by decide +kernel
theorem d_M_react_9 : decode u_M_react.2.1 9 = .ok (.iconst 1, 1) := by decide +kernel
theorem d_M_react_10 : decode u_M_react.2.1 10 = .ok (.isub, 1) := by decide +kernel
theorem d_M_react_11 : decode u_M_react.2.1 11 = .ok (.iaload, 1) := by decide +kernel
theorem d_M_react_12 : decode u_M_react.2.1 12 = .ok (.istore_n 3, 1) := by decide +kernel
theorem d_M_react_13 : decode u_M_react.2.1 13 = .ok (.aload_n 0, 1) := by decide +kernel
theorem d_M_react_14 : decode u_M_react.2.1 14 = .ok (.getfield 61, 3) := by decide +kernel
theorem d_M_react_17 : decode u_M_react.2.1 17 = .ok (.iload_n 1, 1) := by decide +kernel
theorem d_M_react_18 : decode u_M_react.2.1 18 = .ok (.dup2, 1) := by decide +kernel
theorem d_M_react_19 : decode u_M_react.2.1 19 = .ok (.iaload, 1) := by decide +kernel
theorem d_M_react_20 : decode u_M_react.2.1 20 = .ok (.iconst 1, 1) := by decide +kernel
theorem d_M_react_21 : decode u_M_react.2.1 21 = .ok (.iadd, 1) := by decide +kernel
theorem d_M_react_22 : decode u_M_react.2.1 22 = .ok (.iastore, 1) := by decide +kernel
theorem d_M_react_23 : decode u_M_react.2.1 23 = .ok (.iload_n 3, 1) := by decide +kernel
theorem d_M_react_24 : decode u_M_react.2.1 24 = .ok (.ifCond .ne 10, 3) := by decide +kernel
theorem d_M_react_27 : decode u_M_react.2.1 27 = .ok (.aload_n 0, 1) := by decide +kernel
theorem d_M_react_28 : decode u_M_react.2.1 28 = .ok (.getfield 64, 3) := by decide +kernel
theorem d_M_react_31 : decode u_M_react.2.1 31 = .ok (.iload_n 1, 1) := by decide +kernel
theorem d_M_react_32 : decode u_M_react.2.1 32 = .ok (.iconst 0, 1) := by decide +kernel
theorem d_M_react_33 : decode u_M_react.2.1 33 = .ok (.bastore, 1) := by decide +kernel
theorem d_M_react_34 : decode u_M_react.2.1 34 = .ok (.iload_n 3, 1) := by decide +kernel
theorem d_M_react_35 : decode u_M_react.2.1 35 = .ok (.iconst 2, 1) := by decide +kernel
theorem d_M_react_36 : decode u_M_react.2.1 36 = .ok (.if_icmp .ne 26, 3) := by decide +kernel
theorem d_M_react_39 : decode u_M_react.2.1 39 = .ok (.aload_n 0, 1) := by decide +kernel
theorem d_M_react_40 : decode u_M_react.2.1 40 = .ok (.getfield 58, 3) := by decide +kernel
theorem d_M_react_43 : decode u_M_react.2.1 43 = .ok (.iload_n 1, 1) := by decide +kernel
theorem d_M_react_44 : decode u_M_react.2.1 44 = .ok (.iload_n 2, 1) := by decide +kernel
theorem d_M_react_45 : decode u_M_react.2.1 45 = .ok (.iconst 4, 1) := by decide +kernel
theorem d_M_react_46 : decode u_M_react.2.1 46 = .ok (.if_icmp .ne 7, 3) := by decide +kernel
theorem d_M_react_49 : decode u_M_react.2.1 49 = .ok (.iconst 0, 1) := by decide +kernel
theorem d_M_react_50 : decode u_M_react.2.1 50 = .ok (.goto 11, 3) := by decide +kernel
theorem d_M_react_53 : decode u_M_react.2.1 53 = .ok (.aload_n 0, 1) := by decide +kernel
theorem d_M_react_54 : decode u_M_react.2.1 54 = .ok (.getfield 58, 3) := by decide +kernel
theorem d_M_react_57 : decode u_M_react.2.1 57 = .ok (.iload_n 1, 1) := by decide +kernel
theorem d_M_react_58 : decode u_M_react.2.1 58 = .ok (.iaload, 1) := by decide +kernel
theorem d_M_react_59 : decode u_M_react.2.1 59 = .ok (.iconst 1, 1) := by decide +kernel
theorem d_M_react_60 : decode u_M_react.2.1 60 = .ok (.iadd, 1) := by decide +kernel
theorem d_M_react_61 : decode u_M_react.2.1 61 = .ok (.iastore, 1) := by decide +kernel
theorem d_M_react_62 : decode u_M_react.2.1 62 = .ok (.iload_n 3, 1) := by decide +kernel
theorem d_M_react_63 : decode u_M_react.2.1 63 = .ok (.iconst 1, 1) := by decide +kernel
theorem d_M_react_64 : decode u_M_react.2.1 64 = .ok (.if_icmp .eq 4, 3) := by decide +kernel
theorem d_M_react_67 : decode u_M_react.2.1 67 = .ok (.return_, 1) := by decide +kernel
theorem d_M_react_68 : decode u_M_react.2.1 68 = .ok (.aload_n 0, 1) := by decide +kernel
theorem d_M_react_69 : decode u_M_react.2.1 69 = .ok (.getfield 58, 3) := by decide +kernel
theorem d_M_react_72 : decode u_M_react.2.1 72 = .ok (.iload_n 1, 1) := by decide +kernel
theorem d_M_react_73 : decode u_M_react.2.1 73 = .ok (.iconst 0, 1) := by decide +kernel
theorem d_M_react_74 : decode u_M_react.2.1 74 = .ok (.iastore, 1) := by decide +kernel
theorem d_M_react_75 : decode u_M_react.2.1 75 = .ok (.iconst 4, 1) := by decide +kernel
theorem d_M_react_76 : decode u_M_react.2.1 76 = .ok (.iload_n 1, 1) := by decide +kernel
theorem d_M_react_77 : decode u_M_react.2.1 77 = .ok (.imul, 1) := by decide +kernel
theorem d_M_react_78 : decode u_M_react.2.1 78 = .ok (.istore 4, 2) := by decide +kernel
theorem d_M_react_80 : decode u_M_react.2.1 80 = .ok (.iload 4, 2) := by decide +kernel
theorem d_M_react_82 : decode u_M_react.2.1 82 = .ok (.iconst 4, 1) := by decide +kernel
theorem d_M_react_83 : decode u_M_react.2.1 83 = .ok (.iload_n 1, 1) := by decide +kernel
theorem d_M_react_84 : decode u_M_react.2.1 84 = .ok (.imul, 1) := by decide +kernel
theorem d_M_react_85 : decode u_M_react.2.1 85 = .ok (.iconst 4, 1) := by decide +kernel
theorem d_M_react_86 : decode u_M_react.2.1 86 = .ok (.iadd, 1) := by decide +kernel
theorem d_M_react_87 : decode u_M_react.2.1 87 = .ok (.if_icmp .ge 17, 3) := by decide +kernel
theorem d_M_react_90 : decode u_M_react.2.1 90 = .ok (.aload_n 0, 1) := by decide +kernel
theorem d_M_react_91 : decode u_M_react.2.1 91 = .ok (.getfield 55, 3) := by decide +kernel
theorem d_M_react_94 : decode u_M_react.2.1 94 = .ok (.iload 4, 2) := by decide +kernel
theorem d_M_react_96 : decode u_M_react.2.1 96 = .ok (.iconst 0, 1) := by decide +kernel
theorem d_M_react_97 : decode u_M_react.2.1 97 = .ok (.iastore, 1) := by decide +kernel
theorem d_M_react_98 : decode u_M_react.2.1 98 = .ok (.iinc 4 1, 3) := by decide +kernel
theorem d_M_react_101 : decode u_M_react.2.1 101 = .ok (.goto (-21), 3) := by decide +kernel
theorem d_M_react_104 : decode u_M_react.2.1 104 = .ok (.aload_n 0, 1) := by decide +kernel
theorem d_M_react_105 : decode u_M_react.2.1 105 = .ok (.getfield 7, 3) := by decide +kernel
theorem d_M_react_108 : decode u_M_react.2.1 108 = .ok (.iload_n 1, 1) := by decide +kernel
theorem d_M_react_109 : decode u_M_react.2.1 109 = .ok (.iaload, 1) := by decide +kernel
theorem d_M_react_110 : decode u_M_react.2.1 110 = .ok (.istore 4, 2) := by decide +kernel
theorem d_M_react_112 : decode u_M_react.2.1 112 = .ok (.iload 4, 2) := by decide +kernel
theorem d_M_react_114 : decode u_M_react.2.1 114 = .ok (.aload_n 0, 1) := by decide +kernel
theorem d_M_react_115 : decode u_M_react.2.1 115 = .ok (.getfield 7, 3) := by decide +kernel
theorem d_M_react_118 : decode u_M_react.2.1 118 = .ok (.iload_n 1, 1) := by decide +kernel
theorem d_M_react_119 : decode u_M_react.2.1 119 = .ok (.iaload, 1) := by decide +kernel
theorem d_M_react_120 : decode u_M_react.2.1 120 = .ok (.aload_n 0, 1) := by decide +kernel
theorem d_M_react_121 : decode u_M_react.2.1 121 = .ok (.getfield 13, 3) := by decide +kernel
theorem d_M_react_124 : decode u_M_react.2.1 124 = .ok (.iload_n 1, 1) := by decide +kernel
theorem d_M_react_125 : decode u_M_react.2.1 125 = .ok (.iaload, 1) := by decide +kernel
theorem d_M_react_126 : decode u_M_react.2.1 126 = .ok (.iadd, 1) := by decide +kernel
theorem d_M_react_127 : decode u_M_react.2.1 127 = .ok (.if_icmp .ge 17, 3) := by decide +kernel
theorem d_M_react_130 : decode u_M_react.2.1 130 = .ok (.aload_n 0, 1) := by decide +kernel
theorem d_M_react_131 : decode u_M_react.2.1 131 = .ok (.getfield 52, 3) := by decide +kernel
theorem d_M_react_134 : decode u_M_react.2.1 134 = .ok (.iload 4, 2) := by decide +kernel
theorem d_M_react_136 : decode u_M_react.2.1 136 = .ok (.iconst 0, 1) := by decide +kernel
theorem d_M_react_137 : decode u_M_react.2.1 137 = .ok (.iastore, 1) := by decide +kernel
theorem d_M_react_138 : decode u_M_react.2.1 138 = .ok (.iinc 4 1, 3) := by decide +kernel
theorem d_M_react_141 : decode u_M_react.2.1 141 = .ok (.goto (-29), 3) := by decide +kernel
theorem d_M_react_144 : decode u_M_react.2.1 144 = .ok (.iconst 0, 1) := by decide +kernel
theorem d_M_react_145 : decode u_M_react.2.1 145 = .ok (.istore 4, 2) := by decide +kernel
theorem d_M_react_147 : decode u_M_react.2.1 147 = .ok (.iload 4, 2) := by decide +kernel
theorem d_M_react_149 : decode u_M_react.2.1 149 = .ok (.aload_n 0, 1) := by decide +kernel
theorem d_M_react_150 : decode u_M_react.2.1 150 = .ok (.getfield 99, 3) := by decide +kernel
theorem d_M_react_153 : decode u_M_react.2.1 153 = .ok (.if_icmp .ge 38, 3) := by decide +kernel
theorem d_M_react_156 : decode u_M_react.2.1 156 = .ok (.aload_n 0, 1) := by decide +kernel
theorem d_M_react_157 : decode u_M_react.2.1 157 = .ok (.getfield 31, 3) := by decide +kernel
theorem d_M_react_160 : decode u_M_react.2.1 160 = .ok (.iload 4, 2) := by decide +kernel
theorem d_M_react_162 : decode u_M_react.2.1 162 = .ok (.aload_n 0, 1) := by decide +kernel
theorem d_M_react_163 : decode u_M_react.2.1 163 = .ok (.getfield 25, 3) := by decide +kernel
theorem d_M_react_166 : decode u_M_react.2.1 166 = .ok (.iload 4, 2) := by decide +kernel
theorem d_M_react_168 : decode u_M_react.2.1 168 = .ok (.iaload, 1) := by decide +kernel
theorem d_M_react_169 : decode u_M_react.2.1 169 = .ok (.iload_n 1, 1) := by decide +kernel
theorem d_M_react_170 : decode u_M_react.2.1 170 = .ok (.if_icmp .ne 7, 3) := by decide +kernel
theorem d_M_react_173 : decode u_M_react.2.1 173 = .ok (.iconst 0, 1) := by decide +kernel
theorem d_M_react_174 : decode u_M_react.2.1 174 = .ok (.goto 10, 3) := by decide +kernel
theorem d_M_react_177 : decode u_M_react.2.1 177 = .ok (.aload_n 0, 1) := by decide +kernel
theorem d_M_react_178 : decode u_M_react.2.1 178 = .ok (.getfield 31, 3) := by decide +kernel
theorem d_M_react_181 : decode u_M_react.2.1 181 = .ok (.iload 4, 2) := by decide +kernel
theorem d_M_react_183 : decode u_M_react.2.1 183 = .ok (.iaload, 1) := by decide +kernel
theorem d_M_react_184 : decode u_M_react.2.1 184 = .ok (.iastore, 1) := by decide +kernel
theorem d_M_react_185 : decode u_M_react.2.1 185 = .ok (.iinc 4 1, 3) := by decide +kernel
theorem d_M_react_188 : decode u_M_react.2.1 188 = .ok (.goto (-41), 3) := by decide +kernel
theorem d_M_react_191 : decode u_M_react.2.1 191 = .ok (.return_, 1) := by decide +kernel
theorem d_M_output_0 : decode u_M_output.2.1 0 = .ok (.iload_n 1, 1) := by decide +kernel
theorem d_M_output_1 : decode u_M_output.2.1 1 = .ok (.invokestatic 87, 3) := by decide +kernel
theorem d_M_output_4 : decode u_M_output.2.1 4 = .ok (.ifCond .eq 37, 3) := by decide +kernel
theorem d_M_output_7 : decode u_M_output.2.1 7 = .ok (.iload_n 2, 1) := by decide +kernel
theorem d_M_output_8 : decode u_M_output.2.1 8 = .ok (.iconst 0, 1) := by decide +kernel
theorem d_M_output_9 : decode u_M_output.2.1 9 = .ok (.bipush 15, 2) := by decide +kernel
theorem d_M_output_11 : decode u_M_output.2.1 11 = .ok (.invokestatic 83, 3) := by decide +kernel
theorem d_M_output_14 : decode u_M_output.2.1 14 = .ok (.ifCond .eq 27, 3) := by decide +kernel
theorem d_M_output_17 : decode u_M_output.2.1 17 = .ok (.iload_n 2, 1) := by decide +kernel
theorem d_M_output_18 : decode u_M_output.2.1 18 = .ok (.aload_n 0, 1) := by decide +kernel
theorem d_M_output_19 : decode u_M_output.2.1 19 = .ok (.getfield 77, 3) := by decide +kernel
theorem d_M_output_22 : decode u_M_output.2.1 22 = .ok (.iload_n 1, 1) := by decide +kernel
theorem d_M_output_23 : decode u_M_output.2.1 23 = .ok (.iaload, 1) := by decide +kernel
theorem d_M_output_24 : decode u_M_output.2.1 24 = .ok (.if_icmp .ge 17, 3) := by decide +kernel
theorem d_M_output_27 : decode u_M_output.2.1 27 = .ok (.aload_n 0, 1) := by decide +kernel
theorem d_M_output_28 : decode u_M_output.2.1 28 = .ok (.getfield 80, 3) := by decide +kernel
theorem d_M_output_31 : decode u_M_output.2.1 31 = .ok (.bipush 16, 2) := by decide +kernel
theorem d_M_output_33 : decode u_M_output.2.1 33 = .ok (.iload_n 1, 1) := by decide +kernel
theorem d_M_output_34 : decode u_M_output.2.1 34 = .ok (.imul, 1) := by decide +kernel
theorem d_M_output_35 : decode u_M_output.2.1 35 = .ok (.iload_n 2, 1) := by decide +kernel
theorem d_M_output_36 : decode u_M_output.2.1 36 = .ok (.iadd, 1) := by decide +kernel
theorem d_M_output_37 : decode u_M_output.2.1 37 = .ok (.iaload, 1) := by decide +kernel
theorem d_M_output_38 : decode u_M_output.2.1 38 = .ok (.goto 4, 3) := by decide +kernel
theorem d_M_output_41 : decode u_M_output.2.1 41 = .ok (.iconst 0, 1) := by decide +kernel
theorem d_M_output_42 : decode u_M_output.2.1 42 = .ok (.ireturn, 1) := by decide +kernel
theorem d_M_about_0 : decode u_M_about.2.1 0 = .ok (.iload_n 1, 1) := by decide +kernel
theorem d_M_about_1 : decode u_M_about.2.1 1 = .ok (.invokestatic 87, 3) := by decide +kernel
theorem d_M_about_4 : decode u_M_about.2.1 4 = .ok (.ifCond .eq 13, 3) := by decide +kernel
theorem d_M_about_7 : decode u_M_about.2.1 7 = .ok (.iload_n 2, 1) := by decide +kernel
theorem d_M_about_8 : decode u_M_about.2.1 8 = .ok (.iconst 0, 1) := by decide +kernel
theorem d_M_about_9 : decode u_M_about.2.1 9 = .ok (.bipush 8, 2) := by decide +kernel
theorem d_M_about_11 : decode u_M_about.2.1 11 = .ok (.invokestatic 83, 3) := by decide +kernel
theorem d_M_about_14 : decode u_M_about.2.1 14 = .ok (.ifCond .ne 5, 3) := by decide +kernel
theorem d_M_about_17 : decode u_M_about.2.1 17 = .ok (.iconst (-1), 1) := by decide +kernel
theorem d_M_about_18 : decode u_M_about.2.1 18 = .ok (.ireturn, 1) := by decide +kernel
theorem d_M_about_19 : decode u_M_about.2.1 19 = .ok (.iload_n 2, 1) := by decide +kernel
theorem d_M_about_20 : decode u_M_about.2.1 20 = .ok (.iconst 4, 1) := by decide +kernel
theorem d_M_about_21 : decode u_M_about.2.1 21 = .ok (.if_icmp .ge 14, 3) := by decide +kernel
theorem d_M_about_24 : decode u_M_about.2.1 24 = .ok (.aload_n 0, 1) := by decide +kernel
theorem d_M_about_25 : decode u_M_about.2.1 25 = .ok (.getfield 55, 3) := by decide +kernel
theorem d_M_about_28 : decode u_M_about.2.1 28 = .ok (.iconst 4, 1) := by decide +kernel
theorem d_M_about_29 : decode u_M_about.2.1 29 = .ok (.iload_n 1, 1) := by decide +kernel
theorem d_M_about_30 : decode u_M_about.2.1 30 = .ok (.imul, 1) := by decide +kernel
theorem d_M_about_31 : decode u_M_about.2.1 31 = .ok (.iload_n 2, 1) := by decide +kernel
theorem d_M_about_32 : decode u_M_about.2.1 32 = .ok (.iadd, 1) := by decide +kernel
theorem d_M_about_33 : decode u_M_about.2.1 33 = .ok (.iaload, 1) := by decide +kernel
theorem d_M_about_34 : decode u_M_about.2.1 34 = .ok (.ireturn, 1) := by decide +kernel
theorem d_M_about_35 : decode u_M_about.2.1 35 = .ok (.iload_n 2, 1) := by decide +kernel
theorem d_M_about_36 : decode u_M_about.2.1 36 = .ok (.iconst 4, 1) := by decide +kernel
theorem d_M_about_37 : decode u_M_about.2.1 37 = .ok (.if_icmp .ne 10, 3) := by decide +kernel
theorem d_M_about_40 : decode u_M_about.2.1 40 = .ok (.aload_n 0, 1) := by decide +kernel
theorem d_M_about_41 : decode u_M_about.2.1 41 = .ok (.getfield 58, 3) := by decide +kernel
theorem d_M_about_44 : decode u_M_about.2.1 44 = .ok (.iload_n 1, 1) := by decide +kernel
theorem d_M_about_45 : decode u_M_about.2.1 45 = .ok (.iaload, 1) := by decide +kernel
theorem d_M_about_46 : decode u_M_about.2.1 46 = .ok (.ireturn, 1) := by decide +kernel
theorem d_M_about_47 : decode u_M_about.2.1 47 = .ok (.iload_n 2, 1) := by decide +kernel
theorem d_M_about_48 : decode u_M_about.2.1 48 = .ok (.iconst 5, 1) := by decide +kernel
theorem d_M_about_49 : decode u_M_about.2.1 49 = .ok (.if_icmp .ne 18, 3) := by decide +kernel
theorem d_M_about_52 : decode u_M_about.2.1 52 = .ok (.aload_n 0, 1) := by decide +kernel
theorem d_M_about_53 : decode u_M_about.2.1 53 = .ok (.getfield 64, 3) := by decide +kernel
theorem d_M_about_56 : decode u_M_about.2.1 56 = .ok (.iload_n 1, 1) := by decide +kernel
theorem d_M_about_57 : decode u_M_about.2.1 57 = .ok (.baload, 1) := by decide +kernel
theorem d_M_about_58 : decode u_M_about.2.1 58 = .ok (.ifCond .eq 7, 3) := by decide +kernel
theorem d_M_about_61 : decode u_M_about.2.1 61 = .ok (.iconst 1, 1) := by decide +kernel
theorem d_M_about_62 : decode u_M_about.2.1 62 = .ok (.goto 4, 3) := by decide +kernel
theorem d_M_about_65 : decode u_M_about.2.1 65 = .ok (.iconst 0, 1) := by decide +kernel
theorem d_M_about_66 : decode u_M_about.2.1 66 = .ok (.ireturn, 1) := by decide +kernel
theorem d_M_about_67 : decode u_M_about.2.1 67 = .ok (.iload_n 2, 1) := by decide +kernel
theorem d_M_about_68 : decode u_M_about.2.1 68 = .ok (.bipush 6, 2) := by decide +kernel
theorem d_M_about_70 : decode u_M_about.2.1 70 = .ok (.if_icmp .ne 12, 3) := by decide +kernel
theorem d_M_about_73 : decode u_M_about.2.1 73 = .ok (.aload_n 0, 1) := by decide +kernel
theorem d_M_about_74 : decode u_M_about.2.1 74 = .ok (.getfield 61, 3) := by decide +kernel
theorem d_M_about_77 : decode u_M_about.2.1 77 = .ok (.iload_n 1, 1) := by decide +kernel
theorem d_M_about_78 : decode u_M_about.2.1 78 = .ok (.iaload, 1) := by decide +kernel
theorem d_M_about_79 : decode u_M_about.2.1 79 = .ok (.goto 24, 3) := by decide +kernel
theorem d_M_about_82 : decode u_M_about.2.1 82 = .ok (.iload_n 2, 1) := by decide +kernel
theorem d_M_about_83 : decode u_M_about.2.1 83 = .ok (.bipush 7, 2) := by decide +kernel
theorem d_M_about_85 : decode u_M_about.2.1 85 = .ok (.if_icmp .ne 12, 3) := by decide +kernel
theorem d_M_about_88 : decode u_M_about.2.1 88 = .ok (.aload_n 0, 1) := by decide +kernel
theorem d_M_about_89 : decode u_M_about.2.1 89 = .ok (.getfield 77, 3) := by decide +kernel
theorem d_M_about_92 : decode u_M_about.2.1 92 = .ok (.iload_n 1, 1) := by decide +kernel
theorem d_M_about_93 : decode u_M_about.2.1 93 = .ok (.iaload, 1) := by decide +kernel
theorem d_M_about_94 : decode u_M_about.2.1 94 = .ok (.goto 9, 3) := by decide +kernel
theorem d_M_about_97 : decode u_M_about.2.1 97 = .ok (.aload_n 0, 1) := by decide +kernel
theorem d_M_about_98 : decode u_M_about.2.1 98 = .ok (.getfield 71, 3) := by decide +kernel
theorem d_M_about_101 : decode u_M_about.2.1 101 = .ok (.iload_n 1, 1) := by decide +kernel
theorem d_M_about_102 : decode u_M_about.2.1 102 = .ok (.iaload, 1) := by decide +kernel
theorem d_M_about_103 : decode u_M_about.2.1 103 = .ok (.ireturn, 1) := by decide +kernel
theorem d_M_word_0 : decode u_M_word.2.1 0 = .ok (.iload_n 1, 1) := by decide +kernel
theorem d_M_word_1 : decode u_M_word.2.1 1 = .ok (.iconst 0, 1) := by decide +kernel
theorem d_M_word_2 : decode u_M_word.2.1 2 = .ok (.bipush 63, 2) := by decide +kernel
theorem d_M_word_4 : decode u_M_word.2.1 4 = .ok (.invokestatic 83, 3) := by decide +kernel
theorem d_M_word_7 : decode u_M_word.2.1 7 = .ok (.ifCond .eq 12, 3) := by decide +kernel
theorem d_M_word_10 : decode u_M_word.2.1 10 = .ok (.aload_n 0, 1) := by decide +kernel
theorem d_M_word_11 : decode u_M_word.2.1 11 = .ok (.getfield 52, 3) := by decide +kernel
theorem d_M_word_14 : decode u_M_word.2.1 14 = .ok (.iload_n 1, 1) := by decide +kernel
theorem d_M_word_15 : decode u_M_word.2.1 15 = .ok (.iaload, 1) := by decide +kernel
theorem d_M_word_16 : decode u_M_word.2.1 16 = .ok (.goto 4, 3) := by decide +kernel
theorem d_M_word_19 : decode u_M_word.2.1 19 = .ok (.iconst 0, 1) := by decide +kernel
theorem d_M_word_20 : decode u_M_word.2.1 20 = .ok (.ireturn, 1) := by decide +kernel
theorem d_M_waiting_0 : decode u_M_waiting.2.1 0 = .ok (.iload_n 1, 1) := by decide +kernel
theorem d_M_waiting_1 : decode u_M_waiting.2.1 1 = .ok (.iconst 0, 1) := by decide +kernel
theorem d_M_waiting_2 : decode u_M_waiting.2.1 2 = .ok (.aload_n 0, 1) := by decide +kernel
theorem d_M_waiting_3 : decode u_M_waiting.2.1 3 = .ok (.getfield 99, 3) := by decide +kernel
theorem d_M_waiting_6 : decode u_M_waiting.2.1 6 = .ok (.iconst 1, 1) := by decide +kernel
theorem d_M_waiting_7 : decode u_M_waiting.2.1 7 = .ok (.isub, 1) := by decide +kernel
theorem d_M_waiting_8 : decode u_M_waiting.2.1 8 = .ok (.invokestatic 83, 3) := by decide +kernel
theorem d_M_waiting_11 : decode u_M_waiting.2.1 11 = .ok (.ifCond .eq 12, 3) := by decide +kernel
theorem d_M_waiting_14 : decode u_M_waiting.2.1 14 = .ok (.aload_n 0, 1) := by decide +kernel
theorem d_M_waiting_15 : decode u_M_waiting.2.1 15 = .ok (.getfield 31, 3) := by decide +kernel
theorem d_M_waiting_18 : decode u_M_waiting.2.1 18 = .ok (.iload_n 1, 1) := by decide +kernel
theorem d_M_waiting_19 : decode u_M_waiting.2.1 19 = .ok (.iaload, 1) := by decide +kernel
theorem d_M_waiting_20 : decode u_M_waiting.2.1 20 = .ok (.goto 4, 3) := by decide +kernel
theorem d_M_waiting_23 : decode u_M_waiting.2.1 23 = .ok (.iconst (-1), 1) := by decide +kernel
theorem d_M_waiting_24 : decode u_M_waiting.2.1 24 = .ok (.ireturn, 1) := by decide +kernel
theorem d_M_clock_0 : decode u_M_clock.2.1 0 = .ok (.aload_n 0, 1) := by decide +kernel
theorem d_M_clock_1 : decode u_M_clock.2.1 1 = .ok (.getfield 91, 3) := by decide +kernel
theorem d_M_clock_4 : decode u_M_clock.2.1 4 = .ok (.ifCond .ne 7, 3) := by decide +kernel
theorem d_M_clock_7 : decode u_M_clock.2.1 7 = .ok (.iconst (-1), 1) := by decide +kernel
theorem d_M_clock_8 : decode u_M_clock.2.1 8 = .ok (.goto 39, 3) := by decide +kernel
theorem d_M_clock_11 : decode u_M_clock.2.1 11 = .ok (.iload_n 1, 1) := by decide +kernel
theorem d_M_clock_12 : decode u_M_clock.2.1 12 = .ok (.ifCond .ne 10, 3) := by decide +kernel
theorem d_M_clock_15 : decode u_M_clock.2.1 15 = .ok (.aload_n 0, 1) := by decide +kernel
theorem d_M_clock_16 : decode u_M_clock.2.1 16 = .ok (.getfield 109, 3) := by decide +kernel
theorem d_M_clock_19 : decode u_M_clock.2.1 19 = .ok (.goto 28, 3) := by decide +kernel
theorem d_M_clock_22 : decode u_M_clock.2.1 22 = .ok (.iload_n 1, 1) := by decide +kernel
theorem d_M_clock_23 : decode u_M_clock.2.1 23 = .ok (.iconst 1, 1) := by decide +kernel
theorem d_M_clock_24 : decode u_M_clock.2.1 24 = .ok (.if_icmp .ne 10, 3) := by decide +kernel
theorem d_M_clock_27 : decode u_M_clock.2.1 27 = .ok (.aload_n 0, 1) := by decide +kernel
theorem d_M_clock_28 : decode u_M_clock.2.1 28 = .ok (.getfield 112, 3) := by decide +kernel
theorem d_M_clock_31 : decode u_M_clock.2.1 31 = .ok (.goto 16, 3) := by decide +kernel
theorem d_M_clock_34 : decode u_M_clock.2.1 34 = .ok (.iload_n 1, 1) := by decide +kernel
theorem d_M_clock_35 : decode u_M_clock.2.1 35 = .ok (.iconst 2, 1) := by decide +kernel
theorem d_M_clock_36 : decode u_M_clock.2.1 36 = .ok (.if_icmp .ne 10, 3) := by decide +kernel
theorem d_M_clock_39 : decode u_M_clock.2.1 39 = .ok (.aload_n 0, 1) := by decide +kernel
theorem d_M_clock_40 : decode u_M_clock.2.1 40 = .ok (.getfield 115, 3) := by decide +kernel
theorem d_M_clock_43 : decode u_M_clock.2.1 43 = .ok (.goto 4, 3) := by decide +kernel
theorem d_M_clock_46 : decode u_M_clock.2.1 46 = .ok (.iconst (-1), 1) := by decide +kernel
theorem d_M_clock_47 : decode u_M_clock.2.1 47 = .ok (.ireturn, 1) := by decide +kernel
theorem d_J_floorMod_0 : decode u_J_floorMod.2.1 0 = .ok (.iload_n 0, 1) := by decide +kernel
theorem d_J_floorMod_1 : decode u_J_floorMod.2.1 1 = .ok (.iload_n 1, 1) := by decide +kernel
theorem d_J_floorMod_2 : decode u_J_floorMod.2.1 2 = .ok (.irem, 1) := by decide +kernel
theorem d_J_floorMod_3 : decode u_J_floorMod.2.1 3 = .ok (.istore_n 2, 1) := by decide +kernel
theorem d_J_floorMod_4 : decode u_J_floorMod.2.1 4 = .ok (.iload_n 0, 1) := by decide +kernel
theorem d_J_floorMod_5 : decode u_J_floorMod.2.1 5 = .ok (.iload_n 1, 1) := by decide +kernel
theorem d_J_floorMod_6 : decode u_J_floorMod.2.1 6 = .ok (.ixor, 1) := by decide +kernel
theorem d_J_floorMod_7 : decode u_J_floorMod.2.1 7 = .ok (.ifCond .ge 11, 3) := by decide +kernel
theorem d_J_floorMod_10 : decode u_J_floorMod.2.1 10 = .ok (.iload_n 2, 1) := by decide +kernel
theorem d_J_floorMod_11 : decode u_J_floorMod.2.1 11 = .ok (.ifCond .eq 7, 3) := by decide +kernel
theorem d_J_floorMod_14 : decode u_J_floorMod.2.1 14 = .ok (.iload_n 2, 1) := by decide +kernel
theorem d_J_floorMod_15 : decode u_J_floorMod.2.1 15 = .ok (.iload_n 1, 1) := by decide +kernel
theorem d_J_floorMod_16 : decode u_J_floorMod.2.1 16 = .ok (.iadd, 1) := by decide +kernel
theorem d_J_floorMod_17 : decode u_J_floorMod.2.1 17 = .ok (.ireturn, 1) := by decide +kernel
theorem d_J_floorMod_18 : decode u_J_floorMod.2.1 18 = .ok (.iload_n 2, 1) := by decide +kernel
theorem d_J_floorMod_19 : decode u_J_floorMod.2.1 19 = .ok (.ireturn, 1) := by decide +kernel
theorem d_J_min_0 : decode u_J_min.2.1 0 = .ok (.iload_n 0, 1) := by decide +kernel
theorem d_J_min_1 : decode u_J_min.2.1 1 = .ok (.iload_n 1, 1) := by decide +kernel
theorem d_J_min_2 : decode u_J_min.2.1 2 = .ok (.if_icmp .gt 7, 3) := by decide +kernel
theorem d_J_min_5 : decode u_J_min.2.1 5 = .ok (.iload_n 0, 1) := by decide +kernel
theorem d_J_min_6 : decode u_J_min.2.1 6 = .ok (.goto 4, 3) := by decide +kernel
theorem d_J_min_9 : decode u_J_min.2.1 9 = .ok (.iload_n 1, 1) := by decide +kernel
theorem d_J_min_10 : decode u_J_min.2.1 10 = .ok (.ireturn, 1) := by decide +kernel
theorem d_L_law_0 : decode u_L_law.2.1 0 = .ok (.new 7, 3) := by decide +kernel
theorem d_L_law_3 : decode u_L_law.2.1 3 = .ok (.dup, 1) := by decide +kernel
theorem d_L_law_4 : decode u_L_law.2.1 4 = .ok (.invokespecial 9, 3) := by decide +kernel
theorem d_L_law_7 : decode u_L_law.2.1 7 = .ok (.astore_n 1, 1) := by decide +kernel
theorem d_L_law_8 : decode u_L_law.2.1 8 = .ok (.new 10, 3) := by decide +kernel
theorem d_L_law_11 : decode u_L_law.2.1 11 = .ok (.dup, 1) := by decide +kernel
theorem d_L_law_12 : decode u_L_law.2.1 12 = .ok (.invokespecial 12, 3) := by decide +kernel
theorem d_L_law_15 : decode u_L_law.2.1 15 = .ok (.astore_n 2, 1) := by decide +kernel
theorem d_L_law_16 : decode u_L_law.2.1 16 = .ok (.iconst 0, 1) := by decide +kernel
theorem d_L_law_17 : decode u_L_law.2.1 17 = .ok (.istore_n 3, 1) := by decide +kernel
theorem d_L_law_18 : decode u_L_law.2.1 18 = .ok (.iload_n 3, 1) := by decide +kernel
theorem d_L_law_19 : decode u_L_law.2.1 19 = .ok (.aload_n 0, 1) := by decide +kernel
theorem d_L_law_20 : decode u_L_law.2.1 20 = .ok (.arraylength, 1) := by decide +kernel
theorem d_L_law_21 : decode u_L_law.2.1 21 = .ok (.bipush 6, 2) := by decide +kernel
theorem d_L_law_23 : decode u_L_law.2.1 23 = .ok (.isub, 1) := by decide +kernel
theorem d_L_law_24 : decode u_L_law.2.1 24 = .ok (.if_icmp .gt 511, 3) := by decide +kernel
theorem d_L_law_27 : decode u_L_law.2.1 27 = .ok (.aload_n 0, 1) := by decide +kernel
theorem d_L_law_28 : decode u_L_law.2.1 28 = .ok (.iload_n 3, 1) := by decide +kernel
theorem d_L_law_29 : decode u_L_law.2.1 29 = .ok (.iaload, 1) := by decide +kernel
theorem d_L_law_30 : decode u_L_law.2.1 30 = .ok (.bipush 15, 2) := by decide +kernel
theorem d_L_law_32 : decode u_L_law.2.1 32 = .ok (.iand, 1) := by decide +kernel
theorem d_L_law_33 : decode u_L_law.2.1 33 = .ok (.tableswitch 496 0 12 #[67, 110, 143, 186, 229, 292, 305, 338, 361, 394, 427, 450, 473], 67) := by decide +kernel
theorem d_L_law_100 : decode u_L_law.2.1 100 = .ok (.aload_n 1, 1) := by decide +kernel
theorem d_L_law_101 : decode u_L_law.2.1 101 = .ok (.aload_n 0, 1) := by decide +kernel
theorem d_L_law_102 : decode u_L_law.2.1 102 = .ok (.iload_n 3, 1) := by decide +kernel
theorem d_L_law_103 : decode u_L_law.2.1 103 = .ok (.iconst 1, 1) := by decide +kernel
theorem d_L_law_104 : decode u_L_law.2.1 104 = .ok (.iadd, 1) := by decide +kernel
theorem d_L_law_105 : decode u_L_law.2.1 105 = .ok (.iaload, 1) := by decide +kernel
theorem d_L_law_106 : decode u_L_law.2.1 106 = .ok (.aload_n 0, 1) := by decide +kernel
theorem d_L_law_107 : decode u_L_law.2.1 107 = .ok (.iload_n 3, 1) := by decide +kernel
theorem d_L_law_108 : decode u_L_law.2.1 108 = .ok (.iconst 2, 1) := by decide +kernel
theorem d_L_law_109 : decode u_L_law.2.1 109 = .ok (.iadd, 1) := by decide +kernel
theorem d_L_law_110 : decode u_L_law.2.1 110 = .ok (.iaload, 1) := by decide +kernel
theorem d_L_law_111 : decode u_L_law.2.1 111 = .ok (.aload_n 0, 1) := by decide +kernel
theorem d_L_law_112 : decode u_L_law.2.1 112 = .ok (.iload_n 3, 1) := by decide +kernel
theorem d_L_law_113 : decode u_L_law.2.1 113 = .ok (.iconst 3, 1) := by decide +kernel
theorem d_L_law_114 : decode u_L_law.2.1 114 = .ok (.iadd, 1) := by decide +kernel
theorem d_L_law_115 : decode u_L_law.2.1 115 = .ok (.iaload, 1) := by decide +kernel
theorem d_L_law_116 : decode u_L_law.2.1 116 = .ok (.invokevirtual 13, 3) := by decide +kernel
theorem d_L_law_119 : decode u_L_law.2.1 119 = .ok (.aload_n 2, 1) := by decide +kernel
theorem d_L_law_120 : decode u_L_law.2.1 120 = .ok (.aload_n 0, 1) := by decide +kernel
theorem d_L_law_121 : decode u_L_law.2.1 121 = .ok (.iload_n 3, 1) := by decide +kernel
theorem d_L_law_122 : decode u_L_law.2.1 122 = .ok (.iconst 1, 1) := by decide +kernel
theorem d_L_law_123 : decode u_L_law.2.1 123 = .ok (.iadd, 1) := by decide +kernel
theorem d_L_law_124 : decode u_L_law.2.1 124 = .ok (.iaload, 1) := by decide +kernel
theorem d_L_law_125 : decode u_L_law.2.1 125 = .ok (.aload_n 0, 1) := by decide +kernel
theorem d_L_law_126 : decode u_L_law.2.1 126 = .ok (.iload_n 3, 1) := by decide +kernel
theorem d_L_law_127 : decode u_L_law.2.1 127 = .ok (.iconst 2, 1) := by decide +kernel
theorem d_L_law_128 : decode u_L_law.2.1 128 = .ok (.iadd, 1) := by decide +kernel
theorem d_L_law_129 : decode u_L_law.2.1 129 = .ok (.iaload, 1) := by decide +kernel
theorem d_L_law_130 : decode u_L_law.2.1 130 = .ok (.aload_n 0, 1) := by decide +kernel
theorem d_L_law_131 : decode u_L_law.2.1 131 = .ok (.iload_n 3, 1) := by decide +kernel
theorem d_L_law_132 : decode u_L_law.2.1 132 = .ok (.iconst 3, 1) := by decide +kernel
theorem d_L_law_133 : decode u_L_law.2.1 133 = .ok (.iadd, 1) := by decide +kernel
theorem d_L_law_134 : decode u_L_law.2.1 134 = .ok (.iaload, 1) := by decide +kernel
theorem d_L_law_135 : decode u_L_law.2.1 135 = .ok (.invokevirtual 17, 3) := by decide +kernel
theorem d_L_law_138 : decode u_L_law.2.1 138 = .ok (.if_icmp .eq 391, 3) := by decide +kernel
theorem d_L_law_141 : decode u_L_law.2.1 141 = .ok (.iconst 0, 1) := by decide +kernel
theorem d_L_law_142 : decode u_L_law.2.1 142 = .ok (.ireturn, 1) := by decide +kernel
theorem d_L_law_143 : decode u_L_law.2.1 143 = .ok (.aload_n 1, 1) := by decide +kernel
theorem d_L_law_144 : decode u_L_law.2.1 144 = .ok (.aload_n 0, 1) := by decide +kernel
theorem d_L_law_145 : decode u_L_law.2.1 145 = .ok (.iload_n 3, 1) := by decide +kernel
theorem d_L_law_146 : decode u_L_law.2.1 146 = .ok (.iconst 1, 1) := by decide +kernel
theorem d_L_law_147 : decode u_L_law.2.1 147 = .ok (.iadd, 1) := by decide +kernel
theorem d_L_law_148 : decode u_L_law.2.1 148 = .ok (.iaload, 1) := by decide +kernel
theorem d_L_law_149 : decode u_L_law.2.1 149 = .ok (.aload_n 0, 1) := by decide +kernel
theorem d_L_law_150 : decode u_L_law.2.1 150 = .ok (.iload_n 3, 1) := by decide +kernel
theorem d_L_law_151 : decode u_L_law.2.1 151 = .ok (.iconst 2, 1) := by decide +kernel
theorem d_L_law_152 : decode u_L_law.2.1 152 = .ok (.iadd, 1) := by decide +kernel
theorem d_L_law_153 : decode u_L_law.2.1 153 = .ok (.iaload, 1) := by decide +kernel
theorem d_L_law_154 : decode u_L_law.2.1 154 = .ok (.invokevirtual 18, 3) := by decide +kernel
theorem d_L_law_157 : decode u_L_law.2.1 157 = .ok (.aload_n 2, 1) := by decide +kernel
theorem d_L_law_158 : decode u_L_law.2.1 158 = .ok (.aload_n 0, 1) := by decide +kernel
theorem d_L_law_159 : decode u_L_law.2.1 159 = .ok (.iload_n 3, 1) := by decide +kernel
theorem d_L_law_160 : decode u_L_law.2.1 160 = .ok (.iconst 1, 1) := by decide +kernel
theorem d_L_law_161 : decode u_L_law.2.1 161 = .ok (.iadd, 1) := by decide +kernel
theorem d_L_law_162 : decode u_L_law.2.1 162 = .ok (.iaload, 1) := by decide +kernel
theorem d_L_law_163 : decode u_L_law.2.1 163 = .ok (.aload_n 0, 1) := by decide +kernel
theorem d_L_law_164 : decode u_L_law.2.1 164 = .ok (.iload_n 3, 1) := by decide +kernel
theorem d_L_law_165 : decode u_L_law.2.1 165 = .ok (.iconst 2, 1) := by decide +kernel
theorem d_L_law_166 : decode u_L_law.2.1 166 = .ok (.iadd, 1) := by decide +kernel
theorem d_L_law_167 : decode u_L_law.2.1 167 = .ok (.iaload, 1) := by decide +kernel
theorem d_L_law_168 : decode u_L_law.2.1 168 = .ok (.invokevirtual 22, 3) := by decide +kernel
theorem d_L_law_171 : decode u_L_law.2.1 171 = .ok (.if_icmp .eq 358, 3) := by decide +kernel
theorem d_L_law_174 : decode u_L_law.2.1 174 = .ok (.iconst 0, 1) := by decide +kernel
theorem d_L_law_175 : decode u_L_law.2.1 175 = .ok (.ireturn, 1) := by decide +kernel
theorem d_L_law_176 : decode u_L_law.2.1 176 = .ok (.aload_n 1, 1) := by decide +kernel
theorem d_L_law_177 : decode u_L_law.2.1 177 = .ok (.aload_n 0, 1) := by decide +kernel
theorem d_L_law_178 : decode u_L_law.2.1 178 = .ok (.iload_n 3, 1) := by decide +kernel
theorem d_L_law_179 : decode u_L_law.2.1 179 = .ok (.iconst 1, 1) := by decide +kernel
theorem d_L_law_180 : decode u_L_law.2.1 180 = .ok (.iadd, 1) := by decide +kernel
theorem d_L_law_181 : decode u_L_law.2.1 181 = .ok (.iaload, 1) := by decide +kernel
theorem d_L_law_182 : decode u_L_law.2.1 182 = .ok (.aload_n 0, 1) := by decide +kernel
theorem d_L_law_183 : decode u_L_law.2.1 183 = .ok (.iload_n 3, 1) := by decide +kernel
theorem d_L_law_184 : decode u_L_law.2.1 184 = .ok (.iconst 2, 1) := by decide +kernel
theorem d_L_law_185 : decode u_L_law.2.1 185 = .ok (.iadd, 1) := by decide +kernel
theorem d_L_law_186 : decode u_L_law.2.1 186 = .ok (.iaload, 1) := by decide +kernel
theorem d_L_law_187 : decode u_L_law.2.1 187 = .ok (.aload_n 0, 1) := by decide +kernel
theorem d_L_law_188 : decode u_L_law.2.1 188 = .ok (.iload_n 3, 1) := by decide +kernel
theorem d_L_law_189 : decode u_L_law.2.1 189 = .ok (.iconst 3, 1) := by decide +kernel
theorem d_L_law_190 : decode u_L_law.2.1 190 = .ok (.iadd, 1) := by decide +kernel
theorem d_L_law_191 : decode u_L_law.2.1 191 = .ok (.iaload, 1) := by decide +kernel
theorem d_L_law_192 : decode u_L_law.2.1 192 = .ok (.invokevirtual 23, 3) := by decide +kernel
theorem d_L_law_195 : decode u_L_law.2.1 195 = .ok (.aload_n 2, 1) := by decide +kernel
theorem d_L_law_196 : decode u_L_law.2.1 196 = .ok (.aload_n 0, 1) := by decide +kernel
theorem d_L_law_197 : decode u_L_law.2.1 197 = .ok (.iload_n 3, 1) := by decide +kernel
theorem d_L_law_198 : decode u_L_law.2.1 198 = .ok (.iconst 1, 1) := by decide +kernel
theorem d_L_law_199 : decode u_L_law.2.1 199 = .ok (.iadd, 1) := by decide +kernel
theorem d_L_law_200 : decode u_L_law.2.1 200 = .ok (.iaload, 1) := by decide +kernel
theorem d_L_law_201 : decode u_L_law.2.1 201 = .ok (.aload_n 0, 1) := by decide +kernel
theorem d_L_law_202 : decode u_L_law.2.1 202 = .ok (.iload_n 3, 1) := by decide +kernel
theorem d_L_law_203 : decode u_L_law.2.1 203 = .ok (.iconst 2, 1) := by decide +kernel
theorem d_L_law_204 : decode u_L_law.2.1 204 = .ok (.iadd, 1) := by decide +kernel
theorem d_L_law_205 : decode u_L_law.2.1 205 = .ok (.iaload, 1) := by decide +kernel
theorem d_L_law_206 : decode u_L_law.2.1 206 = .ok (.aload_n 0, 1) := by decide +kernel
theorem d_L_law_207 : decode u_L_law.2.1 207 = .ok (.iload_n 3, 1) := by decide +kernel
theorem d_L_law_208 : decode u_L_law.2.1 208 = .ok (.iconst 3, 1) := by decide +kernel
theorem d_L_law_209 : decode u_L_law.2.1 209 = .ok (.iadd, 1) := by decide +kernel
theorem d_L_law_210 : decode u_L_law.2.1 210 = .ok (.iaload, 1) := by decide +kernel
theorem d_L_law_211 : decode u_L_law.2.1 211 = .ok (.invokevirtual 27, 3) := by decide +kernel
theorem d_L_law_214 : decode u_L_law.2.1 214 = .ok (.if_icmp .eq 315, 3) := by decide +kernel
theorem d_L_law_217 : decode u_L_law.2.1 217 = .ok (.iconst 0, 1) := by decide +kernel
theorem d_L_law_218 : decode u_L_law.2.1 218 = .ok (.ireturn, 1) := by decide +kernel
theorem d_L_law_219 : decode u_L_law.2.1 219 = .ok (.aload_n 1, 1) := by decide +kernel
theorem d_L_law_220 : decode u_L_law.2.1 220 = .ok (.aload_n 0, 1) := by decide +kernel
theorem d_L_law_221 : decode u_L_law.2.1 221 = .ok (.iload_n 3, 1) := by decide +kernel
theorem d_L_law_222 : decode u_L_law.2.1 222 = .ok (.iconst 1, 1) := by decide +kernel
theorem d_L_law_223 : decode u_L_law.2.1 223 = .ok (.iadd, 1) := by decide +kernel
theorem d_L_law_224 : decode u_L_law.2.1 224 = .ok (.iaload, 1) := by decide +kernel
theorem d_L_law_225 : decode u_L_law.2.1 225 = .ok (.aload_n 0, 1) := by decide +kernel
theorem d_L_law_226 : decode u_L_law.2.1 226 = .ok (.iload_n 3, 1) := by decide +kernel
theorem d_L_law_227 : decode u_L_law.2.1 227 = .ok (.iconst 2, 1) := by decide +kernel
theorem d_L_law_228 : decode u_L_law.2.1 228 = .ok (.iadd, 1) := by decide +kernel
theorem d_L_law_229 : decode u_L_law.2.1 229 = .ok (.iaload, 1) := by decide +kernel
theorem d_L_law_230 : decode u_L_law.2.1 230 = .ok (.aload_n 0, 1) := by decide +kernel
theorem d_L_law_231 : decode u_L_law.2.1 231 = .ok (.iload_n 3, 1) := by decide +kernel
theorem d_L_law_232 : decode u_L_law.2.1 232 = .ok (.iconst 3, 1) := by decide +kernel
theorem d_L_law_233 : decode u_L_law.2.1 233 = .ok (.iadd, 1) := by decide +kernel
theorem d_L_law_234 : decode u_L_law.2.1 234 = .ok (.iaload, 1) := by decide +kernel
theorem d_L_law_235 : decode u_L_law.2.1 235 = .ok (.invokevirtual 28, 3) := by decide +kernel
theorem d_L_law_238 : decode u_L_law.2.1 238 = .ok (.aload_n 2, 1) := by decide +kernel
theorem d_L_law_239 : decode u_L_law.2.1 239 = .ok (.aload_n 0, 1) := by decide +kernel
theorem d_L_law_240 : decode u_L_law.2.1 240 = .ok (.iload_n 3, 1) := by decide +kernel
theorem d_L_law_241 : decode u_L_law.2.1 241 = .ok (.iconst 1, 1) := by decide +kernel
theorem d_L_law_242 : decode u_L_law.2.1 242 = .ok (.iadd, 1) := by decide +kernel
theorem d_L_law_243 : decode u_L_law.2.1 243 = .ok (.iaload, 1) := by decide +kernel
theorem d_L_law_244 : decode u_L_law.2.1 244 = .ok (.aload_n 0, 1) := by decide +kernel
theorem d_L_law_245 : decode u_L_law.2.1 245 = .ok (.iload_n 3, 1) := by decide +kernel
theorem d_L_law_246 : decode u_L_law.2.1 246 = .ok (.iconst 2, 1) := by decide +kernel
theorem d_L_law_247 : decode u_L_law.2.1 247 = .ok (.iadd, 1) := by decide +kernel
theorem d_L_law_248 : decode u_L_law.2.1 248 = .ok (.iaload, 1) := by decide +kernel
theorem d_L_law_249 : decode u_L_law.2.1 249 = .ok (.aload_n 0, 1) := by decide +kernel
theorem d_L_law_250 : decode u_L_law.2.1 250 = .ok (.iload_n 3, 1) := by decide +kernel
theorem d_L_law_251 : decode u_L_law.2.1 251 = .ok (.iconst 3, 1) := by decide +kernel
theorem d_L_law_252 : decode u_L_law.2.1 252 = .ok (.iadd, 1) := by decide +kernel
theorem d_L_law_253 : decode u_L_law.2.1 253 = .ok (.iaload, 1) := by decide +kernel
theorem d_L_law_254 : decode u_L_law.2.1 254 = .ok (.invokevirtual 31, 3) := by decide +kernel
theorem d_L_law_257 : decode u_L_law.2.1 257 = .ok (.if_icmp .eq 272, 3) := by decide +kernel
theorem d_L_law_260 : decode u_L_law.2.1 260 = .ok (.iconst 0, 1) := by decide +kernel
theorem d_L_law_261 : decode u_L_law.2.1 261 = .ok (.ireturn, 1) := by decide +kernel
theorem d_L_law_262 : decode u_L_law.2.1 262 = .ok (.aload_n 1, 1) := by decide +kernel
theorem d_L_law_263 : decode u_L_law.2.1 263 = .ok (.aload_n 0, 1) := by decide +kernel
theorem d_L_law_264 : decode u_L_law.2.1 264 = .ok (.iload_n 3, 1) := by decide +kernel
theorem d_L_law_265 : decode u_L_law.2.1 265 = .ok (.iconst 1, 1) := by decide +kernel
theorem d_L_law_266 : decode u_L_law.2.1 266 = .ok (.iadd, 1) := by decide +kernel
theorem d_L_law_267 : decode u_L_law.2.1 267 = .ok (.iaload, 1) := by decide +kernel
theorem d_L_law_268 : decode u_L_law.2.1 268 = .ok (.aload_n 0, 1) := by decide +kernel
theorem d_L_law_269 : decode u_L_law.2.1 269 = .ok (.iload_n 3, 1) := by decide +kernel
theorem d_L_law_270 : decode u_L_law.2.1 270 = .ok (.iconst 2, 1) := by decide +kernel
theorem d_L_law_271 : decode u_L_law.2.1 271 = .ok (.iadd, 1) := by decide +kernel
theorem d_L_law_272 : decode u_L_law.2.1 272 = .ok (.iaload, 1) := by decide +kernel
theorem d_L_law_273 : decode u_L_law.2.1 273 = .ok (.aload_n 0, 1) := by decide +kernel
theorem d_L_law_274 : decode u_L_law.2.1 274 = .ok (.iload_n 3, 1) := by decide +kernel
theorem d_L_law_275 : decode u_L_law.2.1 275 = .ok (.iconst 3, 1) := by decide +kernel
theorem d_L_law_276 : decode u_L_law.2.1 276 = .ok (.iadd, 1) := by decide +kernel
theorem d_L_law_277 : decode u_L_law.2.1 277 = .ok (.iaload, 1) := by decide +kernel
theorem d_L_law_278 : decode u_L_law.2.1 278 = .ok (.aload_n 0, 1) := by decide +kernel
theorem d_L_law_279 : decode u_L_law.2.1 279 = .ok (.iload_n 3, 1) := by decide +kernel
theorem d_L_law_280 : decode u_L_law.2.1 280 = .ok (.iconst 4, 1) := by decide +kernel
theorem d_L_law_281 : decode u_L_law.2.1 281 = .ok (.iadd, 1) := by decide +kernel
theorem d_L_law_282 : decode u_L_law.2.1 282 = .ok (.iaload, 1) := by decide +kernel
theorem d_L_law_283 : decode u_L_law.2.1 283 = .ok (.aload_n 0, 1) := by decide +kernel
theorem d_L_law_284 : decode u_L_law.2.1 284 = .ok (.iload_n 3, 1) := by decide +kernel
theorem d_L_law_285 : decode u_L_law.2.1 285 = .ok (.iconst 5, 1) := by decide +kernel
theorem d_L_law_286 : decode u_L_law.2.1 286 = .ok (.iadd, 1) := by decide +kernel
theorem d_L_law_287 : decode u_L_law.2.1 287 = .ok (.iaload, 1) := by decide +kernel
theorem d_L_law_288 : decode u_L_law.2.1 288 = .ok (.invokevirtual 32, 3) := by decide +kernel
theorem d_L_law_291 : decode u_L_law.2.1 291 = .ok (.aload_n 2, 1) := by decide +kernel
theorem d_L_law_292 : decode u_L_law.2.1 292 = .ok (.aload_n 0, 1) := by decide +kernel
theorem d_L_law_293 : decode u_L_law.2.1 293 = .ok (.iload_n 3, 1) := by decide +kernel
theorem d_L_law_294 : decode u_L_law.2.1 294 = .ok (.iconst 1, 1) := by decide +kernel
theorem d_L_law_295 : decode u_L_law.2.1 295 = .ok (.iadd, 1) := by decide +kernel
theorem d_L_law_296 : decode u_L_law.2.1 296 = .ok (.iaload, 1) := by decide +kernel
theorem d_L_law_297 : decode u_L_law.2.1 297 = .ok (.aload_n 0, 1) := by decide +kernel
theorem d_L_law_298 : decode u_L_law.2.1 298 = .ok (.iload_n 3, 1) := by decide +kernel
theorem d_L_law_299 : decode u_L_law.2.1 299 = .ok (.iconst 2, 1) := by decide +kernel
theorem d_L_law_300 : decode u_L_law.2.1 300 = .ok (.iadd, 1) := by decide +kernel
theorem d_L_law_301 : decode u_L_law.2.1 301 = .ok (.iaload, 1) := by decide +kernel
theorem d_L_law_302 : decode u_L_law.2.1 302 = .ok (.aload_n 0, 1) := by decide +kernel
theorem d_L_law_303 : decode u_L_law.2.1 303 = .ok (.iload_n 3, 1) := by decide +kernel
theorem d_L_law_304 : decode u_L_law.2.1 304 = .ok (.iconst 3, 1) := by decide +kernel
theorem d_L_law_305 : decode u_L_law.2.1 305 = .ok (.iadd, 1) := by decide +kernel
theorem d_L_law_306 : decode u_L_law.2.1 306 = .ok (.iaload, 1) := by decide +kernel
theorem d_L_law_307 : decode u_L_law.2.1 307 = .ok (.aload_n 0, 1) := by decide +kernel
theorem d_L_law_308 : decode u_L_law.2.1 308 = .ok (.iload_n 3, 1) := by decide +kernel
theorem d_L_law_309 : decode u_L_law.2.1 309 = .ok (.iconst 4, 1) := by decide +kernel
theorem d_L_law_310 : decode u_L_law.2.1 310 = .ok (.iadd, 1) := by decide +kernel
theorem d_L_law_311 : decode u_L_law.2.1 311 = .ok (.iaload, 1) := by decide +kernel
theorem d_L_law_312 : decode u_L_law.2.1 312 = .ok (.aload_n 0, 1) := by decide +kernel
theorem d_L_law_313 : decode u_L_law.2.1 313 = .ok (.iload_n 3, 1) := by decide +kernel
theorem d_L_law_314 : decode u_L_law.2.1 314 = .ok (.iconst 5, 1) := by decide +kernel
theorem d_L_law_315 : decode u_L_law.2.1 315 = .ok (.iadd, 1) := by decide +kernel
theorem d_L_law_316 : decode u_L_law.2.1 316 = .ok (.iaload, 1) := by decide +kernel
theorem d_L_law_317 : decode u_L_law.2.1 317 = .ok (.invokevirtual 36, 3) := by decide +kernel
theorem d_L_law_320 : decode u_L_law.2.1 320 = .ok (.if_icmp .eq 209, 3) := by decide +kernel
theorem d_L_law_323 : decode u_L_law.2.1 323 = .ok (.iconst 0, 1) := by decide +kernel
theorem d_L_law_324 : decode u_L_law.2.1 324 = .ok (.ireturn, 1) := by decide +kernel
theorem d_L_law_325 : decode u_L_law.2.1 325 = .ok (.aload_n 1, 1) := by decide +kernel
theorem d_L_law_326 : decode u_L_law.2.1 326 = .ok (.invokevirtual 37, 3) := by decide +kernel
theorem d_L_law_329 : decode u_L_law.2.1 329 = .ok (.aload_n 2, 1) := by decide +kernel
theorem d_L_law_330 : decode u_L_law.2.1 330 = .ok (.invokevirtual 41, 3) := by decide +kernel
theorem d_L_law_333 : decode u_L_law.2.1 333 = .ok (.if_icmp .eq 196, 3) := by decide +kernel
theorem d_L_law_336 : decode u_L_law.2.1 336 = .ok (.iconst 0, 1) := by decide +kernel
theorem d_L_law_337 : decode u_L_law.2.1 337 = .ok (.ireturn, 1) := by decide +kernel
theorem d_L_law_338 : decode u_L_law.2.1 338 = .ok (.aload_n 1, 1) := by decide +kernel
theorem d_L_law_339 : decode u_L_law.2.1 339 = .ok (.aload_n 0, 1) := by decide +kernel
theorem d_L_law_340 : decode u_L_law.2.1 340 = .ok (.iload_n 3, 1) := by decide +kernel
theorem d_L_law_341 : decode u_L_law.2.1 341 = .ok (.iconst 1, 1) := by decide +kernel
theorem d_L_law_342 : decode u_L_law.2.1 342 = .ok (.iadd, 1) := by decide +kernel
theorem d_L_law_343 : decode u_L_law.2.1 343 = .ok (.iaload, 1) := by decide +kernel
theorem d_L_law_344 : decode u_L_law.2.1 344 = .ok (.aload_n 0, 1) := by decide +kernel
theorem d_L_law_345 : decode u_L_law.2.1 345 = .ok (.iload_n 3, 1) := by decide +kernel
theorem d_L_law_346 : decode u_L_law.2.1 346 = .ok (.iconst 2, 1) := by decide +kernel
theorem d_L_law_347 : decode u_L_law.2.1 347 = .ok (.iadd, 1) := by decide +kernel
theorem d_L_law_348 : decode u_L_law.2.1 348 = .ok (.iaload, 1) := by decide +kernel
theorem d_L_law_349 : decode u_L_law.2.1 349 = .ok (.invokevirtual 42, 3) := by decide +kernel
theorem d_L_law_352 : decode u_L_law.2.1 352 = .ok (.aload_n 2, 1) := by decide +kernel
theorem d_L_law_353 : decode u_L_law.2.1 353 = .ok (.aload_n 0, 1) := by decide +kernel
theorem d_L_law_354 : decode u_L_law.2.1 354 = .ok (.iload_n 3, 1) := by decide +kernel
theorem d_L_law_355 : decode u_L_law.2.1 355 = .ok (.iconst 1, 1) := by decide +kernel
theorem d_L_law_356 : decode u_L_law.2.1 356 = .ok (.iadd, 1) := by decide +kernel
theorem d_L_law_357 : decode u_L_law.2.1 357 = .ok (.iaload, 1) := by decide +kernel
theorem d_L_law_358 : decode u_L_law.2.1 358 = .ok (.aload_n 0, 1) := by decide +kernel
theorem d_L_law_359 : decode u_L_law.2.1 359 = .ok (.iload_n 3, 1) := by decide +kernel
theorem d_L_law_360 : decode u_L_law.2.1 360 = .ok (.iconst 2, 1) := by decide +kernel
theorem d_L_law_361 : decode u_L_law.2.1 361 = .ok (.iadd, 1) := by decide +kernel
theorem d_L_law_362 : decode u_L_law.2.1 362 = .ok (.iaload, 1) := by decide +kernel
theorem d_L_law_363 : decode u_L_law.2.1 363 = .ok (.invokevirtual 46, 3) := by decide +kernel
theorem d_L_law_366 : decode u_L_law.2.1 366 = .ok (.if_icmp .eq 163, 3) := by decide +kernel
theorem d_L_law_369 : decode u_L_law.2.1 369 = .ok (.iconst 0, 1) := by decide +kernel
theorem d_L_law_370 : decode u_L_law.2.1 370 = .ok (.ireturn, 1) := by decide +kernel
theorem d_L_law_371 : decode u_L_law.2.1 371 = .ok (.aload_n 1, 1) := by decide +kernel
theorem d_L_law_372 : decode u_L_law.2.1 372 = .ok (.aload_n 0, 1) := by decide +kernel
theorem d_L_law_373 : decode u_L_law.2.1 373 = .ok (.iload_n 3, 1) := by decide +kernel
theorem d_L_law_374 : decode u_L_law.2.1 374 = .ok (.iconst 1, 1) := by decide +kernel
theorem d_L_law_375 : decode u_L_law.2.1 375 = .ok (.iadd, 1) := by decide +kernel
theorem d_L_law_376 : decode u_L_law.2.1 376 = .ok (.iaload, 1) := by decide +kernel
theorem d_L_law_377 : decode u_L_law.2.1 377 = .ok (.invokevirtual 47, 3) := by decide +kernel
theorem d_L_law_380 : decode u_L_law.2.1 380 = .ok (.aload_n 2, 1) := by decide +kernel
theorem d_L_law_381 : decode u_L_law.2.1 381 = .ok (.aload_n 0, 1) := by decide +kernel
theorem d_L_law_382 : decode u_L_law.2.1 382 = .ok (.iload_n 3, 1) := by decide +kernel
theorem d_L_law_383 : decode u_L_law.2.1 383 = .ok (.iconst 1, 1) := by decide +kernel
theorem d_L_law_384 : decode u_L_law.2.1 384 = .ok (.iadd, 1) := by decide +kernel
theorem d_L_law_385 : decode u_L_law.2.1 385 = .ok (.iaload, 1) := by decide +kernel
theorem d_L_law_386 : decode u_L_law.2.1 386 = .ok (.invokevirtual 51, 3) := by decide +kernel
theorem d_L_law_389 : decode u_L_law.2.1 389 = .ok (.if_icmp .eq 140, 3) := by decide +kernel
theorem d_L_law_392 : decode u_L_law.2.1 392 = .ok (.iconst 0, 1) := by decide +kernel
theorem d_L_law_393 : decode u_L_law.2.1 393 = .ok (.ireturn, 1) := by decide +kernel
theorem d_L_law_394 : decode u_L_law.2.1 394 = .ok (.aload_n 1, 1) := by decide +kernel
theorem d_L_law_395 : decode u_L_law.2.1 395 = .ok (.aload_n 0, 1) := by decide +kernel
theorem d_L_law_396 : decode u_L_law.2.1 396 = .ok (.iload_n 3, 1) := by decide +kernel
theorem d_L_law_397 : decode u_L_law.2.1 397 = .ok (.iconst 1, 1) := by decide +kernel
theorem d_L_law_398 : decode u_L_law.2.1 398 = .ok (.iadd, 1) := by decide +kernel
theorem d_L_law_399 : decode u_L_law.2.1 399 = .ok (.iaload, 1) := by decide +kernel
theorem d_L_law_400 : decode u_L_law.2.1 400 = .ok (.aload_n 0, 1) := by decide +kernel
theorem d_L_law_401 : decode u_L_law.2.1 401 = .ok (.iload_n 3, 1) := by decide +kernel
theorem d_L_law_402 : decode u_L_law.2.1 402 = .ok (.iconst 2, 1) := by decide +kernel
theorem d_L_law_403 : decode u_L_law.2.1 403 = .ok (.iadd, 1) := by decide +kernel
theorem d_L_law_404 : decode u_L_law.2.1 404 = .ok (.iaload, 1) := by decide +kernel
theorem d_L_law_405 : decode u_L_law.2.1 405 = .ok (.invokevirtual 52, 3) := by decide +kernel
theorem d_L_law_408 : decode u_L_law.2.1 408 = .ok (.aload_n 2, 1) := by decide +kernel
theorem d_L_law_409 : decode u_L_law.2.1 409 = .ok (.aload_n 0, 1) := by decide +kernel
theorem d_L_law_410 : decode u_L_law.2.1 410 = .ok (.iload_n 3, 1) := by decide +kernel
theorem d_L_law_411 : decode u_L_law.2.1 411 = .ok (.iconst 1, 1) := by decide +kernel
theorem d_L_law_412 : decode u_L_law.2.1 412 = .ok (.iadd, 1) := by decide +kernel
theorem d_L_law_413 : decode u_L_law.2.1 413 = .ok (.iaload, 1) := by decide +kernel
theorem d_L_law_414 : decode u_L_law.2.1 414 = .ok (.aload_n 0, 1) := by decide +kernel
theorem d_L_law_415 : decode u_L_law.2.1 415 = .ok (.iload_n 3, 1) := by decide +kernel
theorem d_L_law_416 : decode u_L_law.2.1 416 = .ok (.iconst 2, 1) := by decide +kernel
theorem d_L_law_417 : decode u_L_law.2.1 417 = .ok (.iadd, 1) := by decide +kernel
theorem d_L_law_418 : decode u_L_law.2.1 418 = .ok (.iaload, 1) := by decide +kernel
theorem d_L_law_419 : decode u_L_law.2.1 419 = .ok (.invokevirtual 55, 3) := by decide +kernel
theorem d_L_law_422 : decode u_L_law.2.1 422 = .ok (.if_icmp .eq 107, 3) := by decide +kernel
theorem d_L_law_425 : decode u_L_law.2.1 425 = .ok (.iconst 0, 1) := by decide +kernel
theorem d_L_law_426 : decode u_L_law.2.1 426 = .ok (.ireturn, 1) := by decide +kernel
theorem d_L_law_427 : decode u_L_law.2.1 427 = .ok (.aload_n 1, 1) := by decide +kernel
theorem d_L_law_428 : decode u_L_law.2.1 428 = .ok (.aload_n 0, 1) := by decide +kernel
theorem d_L_law_429 : decode u_L_law.2.1 429 = .ok (.iload_n 3, 1) := by decide +kernel
theorem d_L_law_430 : decode u_L_law.2.1 430 = .ok (.iconst 1, 1) := by decide +kernel
theorem d_L_law_431 : decode u_L_law.2.1 431 = .ok (.iadd, 1) := by decide +kernel
theorem d_L_law_432 : decode u_L_law.2.1 432 = .ok (.iaload, 1) := by decide +kernel
theorem d_L_law_433 : decode u_L_law.2.1 433 = .ok (.aload_n 0, 1) := by decide +kernel
theorem d_L_law_434 : decode u_L_law.2.1 434 = .ok (.iload_n 3, 1) := by decide +kernel
theorem d_L_law_435 : decode u_L_law.2.1 435 = .ok (.iconst 2, 1) := by decide +kernel
theorem d_L_law_436 : decode u_L_law.2.1 436 = .ok (.iadd, 1) := by decide +kernel
theorem d_L_law_437 : decode u_L_law.2.1 437 = .ok (.iaload, 1) := by decide +kernel
theorem d_L_law_438 : decode u_L_law.2.1 438 = .ok (.invokevirtual 56, 3) := by decide +kernel
theorem d_L_law_441 : decode u_L_law.2.1 441 = .ok (.aload_n 2, 1) := by decide +kernel
theorem d_L_law_442 : decode u_L_law.2.1 442 = .ok (.aload_n 0, 1) := by decide +kernel
theorem d_L_law_443 : decode u_L_law.2.1 443 = .ok (.iload_n 3, 1) := by decide +kernel
theorem d_L_law_444 : decode u_L_law.2.1 444 = .ok (.iconst 1, 1) := by decide +kernel
theorem d_L_law_445 : decode u_L_law.2.1 445 = .ok (.iadd, 1) := by decide +kernel
theorem d_L_law_446 : decode u_L_law.2.1 446 = .ok (.iaload, 1) := by decide +kernel
theorem d_L_law_447 : decode u_L_law.2.1 447 = .ok (.aload_n 0, 1) := by decide +kernel
theorem d_L_law_448 : decode u_L_law.2.1 448 = .ok (.iload_n 3, 1) := by decide +kernel
theorem d_L_law_449 : decode u_L_law.2.1 449 = .ok (.iconst 2, 1) := by decide +kernel
theorem d_L_law_450 : decode u_L_law.2.1 450 = .ok (.iadd, 1) := by decide +kernel
theorem d_L_law_451 : decode u_L_law.2.1 451 = .ok (.iaload, 1) := by decide +kernel
theorem d_L_law_452 : decode u_L_law.2.1 452 = .ok (.invokevirtual 59, 3) := by decide +kernel
theorem d_L_law_455 : decode u_L_law.2.1 455 = .ok (.if_icmp .eq 74, 3) := by decide +kernel
theorem d_L_law_458 : decode u_L_law.2.1 458 = .ok (.iconst 0, 1) := by decide +kernel
theorem d_L_law_459 : decode u_L_law.2.1 459 = .ok (.ireturn, 1) := by decide +kernel
theorem d_L_law_460 : decode u_L_law.2.1 460 = .ok (.aload_n 1, 1) := by decide +kernel
theorem d_L_law_461 : decode u_L_law.2.1 461 = .ok (.aload_n 0, 1) := by decide +kernel
theorem d_L_law_462 : decode u_L_law.2.1 462 = .ok (.iload_n 3, 1) := by decide +kernel
theorem d_L_law_463 : decode u_L_law.2.1 463 = .ok (.iconst 1, 1) := by decide +kernel
theorem d_L_law_464 : decode u_L_law.2.1 464 = .ok (.iadd, 1) := by decide +kernel
theorem d_L_law_465 : decode u_L_law.2.1 465 = .ok (.iaload, 1) := by decide +kernel
theorem d_L_law_466 : decode u_L_law.2.1 466 = .ok (.invokevirtual 60, 3) := by decide +kernel
theorem d_L_law_469 : decode u_L_law.2.1 469 = .ok (.aload_n 2, 1) := by decide +kernel
theorem d_L_law_470 : decode u_L_law.2.1 470 = .ok (.aload_n 0, 1) := by decide +kernel
theorem d_L_law_471 : decode u_L_law.2.1 471 = .ok (.iload_n 3, 1) := by decide +kernel
theorem d_L_law_472 : decode u_L_law.2.1 472 = .ok (.iconst 1, 1) := by decide +kernel
theorem d_L_law_473 : decode u_L_law.2.1 473 = .ok (.iadd, 1) := by decide +kernel
theorem d_L_law_474 : decode u_L_law.2.1 474 = .ok (.iaload, 1) := by decide +kernel
theorem d_L_law_475 : decode u_L_law.2.1 475 = .ok (.invokevirtual 63, 3) := by decide +kernel
theorem d_L_law_478 : decode u_L_law.2.1 478 = .ok (.if_icmp .eq 51, 3) := by decide +kernel
theorem d_L_law_481 : decode u_L_law.2.1 481 = .ok (.iconst 0, 1) := by decide +kernel
theorem d_L_law_482 : decode u_L_law.2.1 482 = .ok (.ireturn, 1) := by decide +kernel
theorem d_L_law_483 : decode u_L_law.2.1 483 = .ok (.aload_n 1, 1) := by decide +kernel
theorem d_L_law_484 : decode u_L_law.2.1 484 = .ok (.aload_n 0, 1) := by decide +kernel
theorem d_L_law_485 : decode u_L_law.2.1 485 = .ok (.iload_n 3, 1) := by decide +kernel
theorem d_L_law_486 : decode u_L_law.2.1 486 = .ok (.iconst 1, 1) := by decide +kernel
theorem d_L_law_487 : decode u_L_law.2.1 487 = .ok (.iadd, 1) := by decide +kernel
theorem d_L_law_488 : decode u_L_law.2.1 488 = .ok (.iaload, 1) := by decide +kernel
theorem d_L_law_489 : decode u_L_law.2.1 489 = .ok (.invokevirtual 64, 3) := by decide +kernel
theorem d_L_law_492 : decode u_L_law.2.1 492 = .ok (.aload_n 2, 1) := by decide +kernel
theorem d_L_law_493 : decode u_L_law.2.1 493 = .ok (.aload_n 0, 1) := by decide +kernel
theorem d_L_law_494 : decode u_L_law.2.1 494 = .ok (.iload_n 3, 1) := by decide +kernel
theorem d_L_law_495 : decode u_L_law.2.1 495 = .ok (.iconst 1, 1) := by decide +kernel
theorem d_L_law_496 : decode u_L_law.2.1 496 = .ok (.iadd, 1) := by decide +kernel
theorem d_L_law_497 : decode u_L_law.2.1 497 = .ok (.iaload, 1) := by decide +kernel
theorem d_L_law_498 : decode u_L_law.2.1 498 = .ok (.invokevirtual 67, 3) := by decide +kernel
theorem d_L_law_501 : decode u_L_law.2.1 501 = .ok (.if_icmp .eq 28, 3) := by decide +kernel
theorem d_L_law_504 : decode u_L_law.2.1 504 = .ok (.iconst 0, 1) := by decide +kernel
theorem d_L_law_505 : decode u_L_law.2.1 505 = .ok (.ireturn, 1) := by decide +kernel
theorem d_L_law_506 : decode u_L_law.2.1 506 = .ok (.aload_n 1, 1) := by decide +kernel
theorem d_L_law_507 : decode u_L_law.2.1 507 = .ok (.aload_n 0, 1) := by decide +kernel
theorem d_L_law_508 : decode u_L_law.2.1 508 = .ok (.iload_n 3, 1) := by decide +kernel
theorem d_L_law_509 : decode u_L_law.2.1 509 = .ok (.iconst 1, 1) := by decide +kernel
theorem d_L_law_510 : decode u_L_law.2.1 510 = .ok (.iadd, 1) := by decide +kernel
theorem d_L_law_511 : decode u_L_law.2.1 511 = .ok (.iaload, 1) := by decide +kernel
theorem d_L_law_512 : decode u_L_law.2.1 512 = .ok (.invokevirtual 68, 3) := by decide +kernel
theorem d_L_law_515 : decode u_L_law.2.1 515 = .ok (.aload_n 2, 1) := by decide +kernel
theorem d_L_law_516 : decode u_L_law.2.1 516 = .ok (.aload_n 0, 1) := by decide +kernel
theorem d_L_law_517 : decode u_L_law.2.1 517 = .ok (.iload_n 3, 1) := by decide +kernel
theorem d_L_law_518 : decode u_L_law.2.1 518 = .ok (.iconst 1, 1) := by decide +kernel
theorem d_L_law_519 : decode u_L_law.2.1 519 = .ok (.iadd, 1) := by decide +kernel
theorem d_L_law_520 : decode u_L_law.2.1 520 = .ok (.iaload, 1) := by decide +kernel
theorem d_L_law_521 : decode u_L_law.2.1 521 = .ok (.invokevirtual 71, 3) := by decide +kernel
theorem d_L_law_524 : decode u_L_law.2.1 524 = .ok (.if_icmp .eq 5, 3) := by decide +kernel
theorem d_L_law_527 : decode u_L_law.2.1 527 = .ok (.iconst 0, 1) := by decide +kernel
theorem d_L_law_528 : decode u_L_law.2.1 528 = .ok (.ireturn, 1) := by decide +kernel
theorem d_L_law_529 : decode u_L_law.2.1 529 = .ok (.iinc 3 6, 3) := by decide +kernel
theorem d_L_law_532 : decode u_L_law.2.1 532 = .ok (.goto (-514), 3) := by decide +kernel
theorem d_L_law_535 : decode u_L_law.2.1 535 = .ok (.iconst 1, 1) := by decide +kernel
theorem d_L_law_536 : decode u_L_law.2.1 536 = .ok (.ireturn, 1) := by decide +kernel
