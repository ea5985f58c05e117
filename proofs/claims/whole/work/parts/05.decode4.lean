theorem d_M_run_37 : decode u_M_run.2.1 37 = .ok (.getfield 109, 3) := by decide +kernel
theorem d_M_run_40 : decode u_M_run.2.1 40 = .ok (.iaload, 1) := by decide +kernel
theorem d_M_run_41 : decode u_M_run.2.1 41 = .ok (.istore_n 3, 1) := by decide +kernel
theorem d_M_run_42 : decode u_M_run.2.1 42 = .ok (.aload_n 0, 1) := by decide +kernel
theorem d_M_run_43 : decode u_M_run.2.1 43 = .ok (.getfield 64, 3) := by decide +kernel
theorem d_M_run_46 : decode u_M_run.2.1 46 = .ok (.iload_n 3, 1) := by decide +kernel
theorem d_M_run_47 : decode u_M_run.2.1 47 = .ok (.baload, 1) := by decide +kernel
theorem d_M_run_48 : decode u_M_run.2.1 48 = .ok (.ifCond .eq 27, 3) := by decide +kernel
theorem d_M_run_51 : decode u_M_run.2.1 51 = .ok (.aload_n 0, 1) := by decide +kernel
theorem d_M_run_52 : decode u_M_run.2.1 52 = .ok (.getfield 68, 3) := by decide +kernel
theorem d_M_run_55 : decode u_M_run.2.1 55 = .ok (.iload_n 3, 1) := by decide +kernel
theorem d_M_run_56 : decode u_M_run.2.1 56 = .ok (.baload, 1) := by decide +kernel
theorem d_M_run_57 : decode u_M_run.2.1 57 = .ok (.ifCond .ne 18, 3) := by decide +kernel
theorem d_M_run_60 : decode u_M_run.2.1 60 = .ok (.aload_n 0, 1) := by decide +kernel
theorem d_M_run_61 : decode u_M_run.2.1 61 = .ok (.dup, 1) := by decide +kernel
theorem d_M_run_62 : decode u_M_run.2.1 62 = .ok (.getfield 118, 3) := by decide +kernel
theorem d_M_run_65 : decode u_M_run.2.1 65 = .ok (.iconst 1, 1) := by decide +kernel
theorem d_M_run_66 : decode u_M_run.2.1 66 = .ok (.iadd, 1) := by decide +kernel
theorem d_M_run_67 : decode u_M_run.2.1 67 = .ok (.putfield 118, 3) := by decide +kernel
theorem d_M_run_70 : decode u_M_run.2.1 70 = .ok (.aload_n 0, 1) := by decide +kernel
theorem d_M_run_71 : decode u_M_run.2.1 71 = .ok (.iload_n 3, 1) := by decide +kernel
theorem d_M_run_72 : decode u_M_run.2.1 72 = .ok (.invokevirtual 121, 3) := by decide +kernel
theorem d_M_run_75 : decode u_M_run.2.1 75 = .ok (.aload_n 0, 1) := by decide +kernel
theorem d_M_run_76 : decode u_M_run.2.1 76 = .ok (.dup, 1) := by decide +kernel
theorem d_M_run_77 : decode u_M_run.2.1 77 = .ok (.getfield 115, 3) := by decide +kernel
theorem d_M_run_80 : decode u_M_run.2.1 80 = .ok (.iconst 1, 1) := by decide +kernel
theorem d_M_run_81 : decode u_M_run.2.1 81 = .ok (.iadd, 1) := by decide +kernel
theorem d_M_run_82 : decode u_M_run.2.1 82 = .ok (.putfield 115, 3) := by decide +kernel
theorem d_M_run_85 : decode u_M_run.2.1 85 = .ok (.aload_n 0, 1) := by decide +kernel
theorem d_M_run_86 : decode u_M_run.2.1 86 = .ok (.dup, 1) := by decide +kernel
theorem d_M_run_87 : decode u_M_run.2.1 87 = .ok (.getfield 112, 3) := by decide +kernel
theorem d_M_run_90 : decode u_M_run.2.1 90 = .ok (.iconst 1, 1) := by decide +kernel
theorem d_M_run_91 : decode u_M_run.2.1 91 = .ok (.iadd, 1) := by decide +kernel
theorem d_M_run_92 : decode u_M_run.2.1 92 = .ok (.putfield 112, 3) := by decide +kernel
theorem d_M_run_95 : decode u_M_run.2.1 95 = .ok (.aload_n 0, 1) := by decide +kernel
theorem d_M_run_96 : decode u_M_run.2.1 96 = .ok (.getfield 112, 3) := by decide +kernel
theorem d_M_run_99 : decode u_M_run.2.1 99 = .ok (.aload_n 0, 1) := by decide +kernel
theorem d_M_run_100 : decode u_M_run.2.1 100 = .ok (.getfield 19, 3) := by decide +kernel
theorem d_M_run_103 : decode u_M_run.2.1 103 = .ok (.aload_n 0, 1) := by decide +kernel
theorem d_M_run_104 : decode u_M_run.2.1 104 = .ok (.getfield 109, 3) := by decide +kernel
theorem d_M_run_107 : decode u_M_run.2.1 107 = .ok (.iaload, 1) := by decide +kernel
theorem d_M_run_108 : decode u_M_run.2.1 108 = .ok (.if_icmp .ne 30, 3) := by decide +kernel
theorem d_M_run_111 : decode u_M_run.2.1 111 = .ok (.aload_n 0, 1) := by decide +kernel
theorem d_M_run_112 : decode u_M_run.2.1 112 = .ok (.getfield 68, 3) := by decide +kernel
theorem d_M_run_115 : decode u_M_run.2.1 115 = .ok (.iload_n 3, 1) := by decide +kernel
theorem d_M_run_116 : decode u_M_run.2.1 116 = .ok (.iconst 0, 1) := by decide +kernel
theorem d_M_run_117 : decode u_M_run.2.1 117 = .ok (.bastore, 1) := by decide +kernel
theorem d_M_run_118 : decode u_M_run.2.1 118 = .ok (.aload_n 0, 1) := by decide +kernel
theorem d_M_run_119 : decode u_M_run.2.1 119 = .ok (.iconst 0, 1) := by decide +kernel
theorem d_M_run_120 : decode u_M_run.2.1 120 = .ok (.putfield 112, 3) := by decide +kernel
theorem d_M_run_123 : decode u_M_run.2.1 123 = .ok (.aload_n 0, 1) := by decide +kernel
theorem d_M_run_124 : decode u_M_run.2.1 124 = .ok (.aload_n 0, 1) := by decide +kernel
theorem d_M_run_125 : decode u_M_run.2.1 125 = .ok (.getfield 109, 3) := by decide +kernel
theorem d_M_run_128 : decode u_M_run.2.1 128 = .ok (.iconst 1, 1) := by decide +kernel
theorem d_M_run_129 : decode u_M_run.2.1 129 = .ok (.iadd, 1) := by decide +kernel
theorem d_M_run_130 : decode u_M_run.2.1 130 = .ok (.aload_n 0, 1) := by decide +kernel
theorem d_M_run_131 : decode u_M_run.2.1 131 = .ok (.getfield 95, 3) := by decide +kernel
theorem d_M_run_134 : decode u_M_run.2.1 134 = .ok (.irem, 1) := by decide +kernel
theorem d_M_run_135 : decode u_M_run.2.1 135 = .ok (.putfield 109, 3) := by decide +kernel
theorem d_M_run_138 : decode u_M_run.2.1 138 = .ok (.iinc 2 1, 3) := by decide +kernel
theorem d_M_run_141 : decode u_M_run.2.1 141 = .ok (.goto (-114), 3) := by decide +kernel
theorem d_M_run_144 : decode u_M_run.2.1 144 = .ok (.aload_n 0, 1) := by decide +kernel
theorem d_M_run_145 : decode u_M_run.2.1 145 = .ok (.getfield 118, 3) := by decide +kernel
theorem d_M_run_148 : decode u_M_run.2.1 148 = .ok (.ireturn, 1) := by decide +kernel
theorem d_M_step_0 : decode u_M_step.2.1 0 = .ok (.aload_n 0, 1) := by decide +kernel
theorem d_M_step_1 : decode u_M_step.2.1 1 = .ok (.getfield 58, 3) := by decide +kernel
theorem d_M_step_4 : decode u_M_step.2.1 4 = .ok (.iload_n 1, 1) := by decide +kernel
theorem d_M_step_5 : decode u_M_step.2.1 5 = .ok (.iaload, 1) := by decide +kernel
theorem d_M_step_6 : decode u_M_step.2.1 6 = .ok (.istore_n 2, 1) := by decide +kernel
theorem d_M_step_7 : decode u_M_step.2.1 7 = .ok (.iconst 4, 1) := by decide +kernel
theorem d_M_step_8 : decode u_M_step.2.1 8 = .ok (.istore_n 3, 1) := by decide +kernel
theorem d_M_step_9 : decode u_M_step.2.1 9 = .ok (.iload_n 2, 1) := by decide +kernel
theorem d_M_step_10 : decode u_M_step.2.1 10 = .ok (.iconst 0, 1) := by decide +kernel
theorem d_M_step_11 : decode u_M_step.2.1 11 = .ok (.bipush 15, 2) := by decide +kernel
theorem d_M_step_13 : decode u_M_step.2.1 13 = .ok (.invokestatic 83, 3) := by decide +kernel
theorem d_M_step_16 : decode u_M_step.2.1 16 = .ok (.ifCond .eq 131, 3) := by decide +kernel
theorem d_M_step_19 : decode u_M_step.2.1 19 = .ok (.bipush 16, 2) := by decide +kernel
theorem d_M_step_21 : decode u_M_step.2.1 21 = .ok (.iload_n 1, 1) := by decide +kernel
theorem d_M_step_22 : decode u_M_step.2.1 22 = .ok (.imul, 1) := by decide +kernel
theorem d_M_step_23 : decode u_M_step.2.1 23 = .ok (.iload_n 2, 1) := by decide +kernel
theorem d_M_step_24 : decode u_M_step.2.1 24 = .ok (.iadd, 1) := by decide +kernel
theorem d_M_step_25 : decode u_M_step.2.1 25 = .ok (.istore 4, 2) := by decide +kernel
theorem d_M_step_27 : decode u_M_step.2.1 27 = .ok (.aload_n 0, 1) := by decide +kernel
theorem d_M_step_28 : decode u_M_step.2.1 28 = .ok (.getfield 43, 3) := by decide +kernel
theorem d_M_step_31 : decode u_M_step.2.1 31 = .ok (.iload 4, 2) := by decide +kernel
theorem d_M_step_33 : decode u_M_step.2.1 33 = .ok (.iaload, 1) := by decide +kernel
theorem d_M_step_34 : decode u_M_step.2.1 34 = .ok (.iconst 5, 1) := by decide +kernel
theorem d_M_step_35 : decode u_M_step.2.1 35 = .ok (.if_icmp .lt 15, 3) := by decide +kernel
theorem d_M_step_38 : decode u_M_step.2.1 38 = .ok (.aload_n 0, 1) := by decide +kernel
theorem d_M_step_39 : decode u_M_step.2.1 39 = .ok (.getfield 43, 3) := by decide +kernel
theorem d_M_step_42 : decode u_M_step.2.1 42 = .ok (.iload 4, 2) := by decide +kernel
theorem d_M_step_44 : decode u_M_step.2.1 44 = .ok (.iaload, 1) := by decide +kernel
theorem d_M_step_45 : decode u_M_step.2.1 45 = .ok (.bipush 10, 2) := by decide +kernel
theorem d_M_step_47 : decode u_M_step.2.1 47 = .ok (.if_icmp .le 32, 3) := by decide +kernel
theorem d_M_step_50 : decode u_M_step.2.1 50 = .ok (.aload_n 0, 1) := by decide +kernel
theorem d_M_step_51 : decode u_M_step.2.1 51 = .ok (.iload_n 1, 1) := by decide +kernel
theorem d_M_step_52 : decode u_M_step.2.1 52 = .ok (.aload_n 0, 1) := by decide +kernel
theorem d_M_step_53 : decode u_M_step.2.1 53 = .ok (.getfield 43, 3) := by decide +kernel
theorem d_M_step_56 : decode u_M_step.2.1 56 = .ok (.iload 4, 2) := by decide +kernel
theorem d_M_step_58 : decode u_M_step.2.1 58 = .ok (.iaload, 1) := by decide +kernel
theorem d_M_step_59 : decode u_M_step.2.1 59 = .ok (.aload_n 0, 1) := by decide +kernel
theorem d_M_step_60 : decode u_M_step.2.1 60 = .ok (.getfield 46, 3) := by decide +kernel
theorem d_M_step_63 : decode u_M_step.2.1 63 = .ok (.iload 4, 2) := by decide +kernel
theorem d_M_step_65 : decode u_M_step.2.1 65 = .ok (.iaload, 1) := by decide +kernel
theorem d_M_step_66 : decode u_M_step.2.1 66 = .ok (.aload_n 0, 1) := by decide +kernel
theorem d_M_step_67 : decode u_M_step.2.1 67 = .ok (.getfield 49, 3) := by decide +kernel
theorem d_M_step_70 : decode u_M_step.2.1 70 = .ok (.iload 4, 2) := by decide +kernel
theorem d_M_step_72 : decode u_M_step.2.1 72 = .ok (.iaload, 1) := by decide +kernel
theorem d_M_step_73 : decode u_M_step.2.1 73 = .ok (.invokevirtual 125, 3) := by decide +kernel
theorem d_M_step_76 : decode u_M_step.2.1 76 = .ok (.goto 70, 3) := by decide +kernel
theorem d_M_step_79 : decode u_M_step.2.1 79 = .ok (.aload_n 0, 1) := by decide +kernel
theorem d_M_step_80 : decode u_M_step.2.1 80 = .ok (.getfield 43, 3) := by decide +kernel
theorem d_M_step_83 : decode u_M_step.2.1 83 = .ok (.iload 4, 2) := by decide +kernel
theorem d_M_step_85 : decode u_M_step.2.1 85 = .ok (.iaload, 1) := by decide +kernel
theorem d_M_step_86 : decode u_M_step.2.1 86 = .ok (.bipush 9, 2) := by decide +kernel
theorem d_M_step_88 : decode u_M_step.2.1 88 = .ok (.if_icmp .ge 32, 3) := by decide +kernel
theorem d_M_step_91 : decode u_M_step.2.1 91 = .ok (.aload_n 0, 1) := by decide +kernel
theorem d_M_step_92 : decode u_M_step.2.1 92 = .ok (.iload_n 1, 1) := by decide +kernel
theorem d_M_step_93 : decode u_M_step.2.1 93 = .ok (.aload_n 0, 1) := by decide +kernel
theorem d_M_step_94 : decode u_M_step.2.1 94 = .ok (.getfield 43, 3) := by decide +kernel
theorem d_M_step_97 : decode u_M_step.2.1 97 = .ok (.iload 4, 2) := by decide +kernel
theorem d_M_step_99 : decode u_M_step.2.1 99 = .ok (.iaload, 1) := by decide +kernel
theorem d_M_step_100 : decode u_M_step.2.1 100 = .ok (.aload_n 0, 1) := by decide +kernel
theorem d_M_step_101 : decode u_M_step.2.1 101 = .ok (.getfield 46, 3) := by decide +kernel
theorem d_M_step_104 : decode u_M_step.2.1 104 = .ok (.iload 4, 2) := by decide +kernel
theorem d_M_step_106 : decode u_M_step.2.1 106 = .ok (.iaload, 1) := by decide +kernel
theorem d_M_step_107 : decode u_M_step.2.1 107 = .ok (.aload_n 0, 1) := by decide +kernel
theorem d_M_step_108 : decode u_M_step.2.1 108 = .ok (.getfield 49, 3) := by decide +kernel
theorem d_M_step_111 : decode u_M_step.2.1 111 = .ok (.iload 4, 2) := by decide +kernel
theorem d_M_step_113 : decode u_M_step.2.1 113 = .ok (.iaload, 1) := by decide +kernel
theorem d_M_step_114 : decode u_M_step.2.1 114 = .ok (.invokevirtual 129, 3) := by decide +kernel
theorem d_M_step_117 : decode u_M_step.2.1 117 = .ok (.goto 29, 3) := by decide +kernel
theorem d_M_step_120 : decode u_M_step.2.1 120 = .ok (.aload_n 0, 1) := by decide +kernel
theorem d_M_step_121 : decode u_M_step.2.1 121 = .ok (.iload_n 1, 1) := by decide +kernel
theorem d_M_step_122 : decode u_M_step.2.1 122 = .ok (.aload_n 0, 1) := by decide +kernel
theorem d_M_step_123 : decode u_M_step.2.1 123 = .ok (.getfield 43, 3) := by decide +kernel
theorem d_M_step_126 : decode u_M_step.2.1 126 = .ok (.iload 4, 2) := by decide +kernel
theorem d_M_step_128 : decode u_M_step.2.1 128 = .ok (.iaload, 1) := by decide +kernel
theorem d_M_step_129 : decode u_M_step.2.1 129 = .ok (.aload_n 0, 1) := by decide +kernel
theorem d_M_step_130 : decode u_M_step.2.1 130 = .ok (.getfield 46, 3) := by decide +kernel
theorem d_M_step_133 : decode u_M_step.2.1 133 = .ok (.iload 4, 2) := by decide +kernel
theorem d_M_step_135 : decode u_M_step.2.1 135 = .ok (.iaload, 1) := by decide +kernel
theorem d_M_step_136 : decode u_M_step.2.1 136 = .ok (.aload_n 0, 1) := by decide +kernel
theorem d_M_step_137 : decode u_M_step.2.1 137 = .ok (.getfield 49, 3) := by decide +kernel
theorem d_M_step_140 : decode u_M_step.2.1 140 = .ok (.iload 4, 2) := by decide +kernel
theorem d_M_step_142 : decode u_M_step.2.1 142 = .ok (.iaload, 1) := by decide +kernel
theorem d_M_step_143 : decode u_M_step.2.1 143 = .ok (.invokevirtual 132, 3) := by decide +kernel
theorem d_M_step_146 : decode u_M_step.2.1 146 = .ok (.istore_n 3, 1) := by decide +kernel
theorem d_M_step_147 : decode u_M_step.2.1 147 = .ok (.iload_n 3, 1) := by decide +kernel
theorem d_M_step_148 : decode u_M_step.2.1 148 = .ok (.ifCond .le 9, 3) := by decide +kernel
theorem d_M_step_151 : decode u_M_step.2.1 151 = .ok (.aload_n 0, 1) := by decide +kernel
theorem d_M_step_152 : decode u_M_step.2.1 152 = .ok (.iload_n 1, 1) := by decide +kernel
theorem d_M_step_153 : decode u_M_step.2.1 153 = .ok (.iload_n 3, 1) := by decide +kernel
theorem d_M_step_154 : decode u_M_step.2.1 154 = .ok (.invokevirtual 135, 3) := by decide +kernel
theorem d_M_step_157 : decode u_M_step.2.1 157 = .ok (.return_, 1) := by decide +kernel
theorem d_M_goOn_0 : decode u_M_goOn.2.1 0 = .ok (.aload_n 0, 1) := by decide +kernel
theorem d_M_goOn_1 : decode u_M_goOn.2.1 1 = .ok (.getfield 58, 3) := by decide +kernel
theorem d_M_goOn_4 : decode u_M_goOn.2.1 4 = .ok (.iload_n 1, 1) := by decide +kernel
theorem d_M_goOn_5 : decode u_M_goOn.2.1 5 = .ok (.dup2, 1) := by decide +kernel
theorem d_M_goOn_6 : decode u_M_goOn.2.1 6 = .ok (.iaload, 1) := by decide +kernel
theorem d_M_goOn_7 : decode u_M_goOn.2.1 7 = .ok (.iconst 1, 1) := by decide +kernel
theorem d_M_goOn_8 : decode u_M_goOn.2.1 8 = .ok (.iadd, 1) := by decide +kernel
theorem d_M_goOn_9 : decode u_M_goOn.2.1 9 = .ok (.iastore, 1) := by decide +kernel
theorem d_M_goOn_10 : decode u_M_goOn.2.1 10 = .ok (.return_, 1) := by decide +kernel
theorem d_M_simple_0 : decode u_M_simple.2.1 0 = .ok (.iconst 4, 1) := by decide +kernel
theorem d_M_simple_1 : decode u_M_simple.2.1 1 = .ok (.iload_n 1, 1) := by decide +kernel
theorem d_M_simple_2 : decode u_M_simple.2.1 2 = .ok (.imul, 1) := by decide +kernel
theorem d_M_simple_3 : decode u_M_simple.2.1 3 = .ok (.iload_n 3, 1) := by decide +kernel
theorem d_M_simple_4 : decode u_M_simple.2.1 4 = .ok (.iconst 3, 1) := by decide +kernel
theorem d_M_simple_5 : decode u_M_simple.2.1 5 = .ok (.iand, 1) := by decide +kernel
theorem d_M_simple_6 : decode u_M_simple.2.1 6 = .ok (.iadd, 1) := by decide +kernel
theorem d_M_simple_7 : decode u_M_simple.2.1 7 = .ok (.istore 5, 2) := by decide +kernel
theorem d_M_simple_9 : decode u_M_simple.2.1 9 = .ok (.aload_n 0, 1) := by decide +kernel
theorem d_M_simple_10 : decode u_M_simple.2.1 10 = .ok (.getfield 55, 3) := by decide +kernel
theorem d_M_simple_13 : decode u_M_simple.2.1 13 = .ok (.iconst 4, 1) := by decide +kernel
theorem d_M_simple_14 : decode u_M_simple.2.1 14 = .ok (.iload_n 1, 1) := by decide +kernel
theorem d_M_simple_15 : decode u_M_simple.2.1 15 = .ok (.imul, 1) := by decide +kernel
theorem d_M_simple_16 : decode u_M_simple.2.1 16 = .ok (.iload 4, 2) := by decide +kernel
theorem d_M_simple_18 : decode u_M_simple.2.1 18 = .ok (.iconst 3, 1) := by decide +kernel
theorem d_M_simple_19 : decode u_M_simple.2.1 19 = .ok (.iand, 1) := by decide +kernel
theorem d_M_simple_20 : decode u_M_simple.2.1 20 = .ok (.iadd, 1) := by decide +kernel
theorem d_M_simple_21 : decode u_M_simple.2.1 21 = .ok (.iaload, 1) := by decide +kernel
theorem d_M_simple_22 : decode u_M_simple.2.1 22 = .ok (.istore 6, 2) := by decide +kernel
theorem d_M_simple_24 : decode u_M_simple.2.1 24 = .ok (.iload_n 2, 1) := by decide +kernel
theorem d_M_simple_25 : decode u_M_simple.2.1 25 = .ok (.ifCond .lt 9, 3) := by decide +kernel
theorem d_M_simple_28 : decode u_M_simple.2.1 28 = .ok (.iload_n 2, 1) := by decide +kernel
theorem d_M_simple_29 : decode u_M_simple.2.1 29 = .ok (.bipush 14, 2) := by decide +kernel
theorem d_M_simple_31 : decode u_M_simple.2.1 31 = .ok (.if_icmp .le 5, 3) := by decide +kernel
theorem d_M_simple_34 : decode u_M_simple.2.1 34 = .ok (.iconst 3, 1) := by decide +kernel
theorem d_M_simple_35 : decode u_M_simple.2.1 35 = .ok (.ireturn, 1) := by decide +kernel
theorem d_M_simple_36 : decode u_M_simple.2.1 36 = .ok (.aload_n 0, 1) := by decide +kernel
theorem d_M_simple_37 : decode u_M_simple.2.1 37 = .ok (.iload_n 1, 1) := by decide +kernel
theorem d_M_simple_38 : decode u_M_simple.2.1 38 = .ok (.invokevirtual 139, 3) := by decide +kernel
theorem d_M_simple_41 : decode u_M_simple.2.1 41 = .ok (.iload_n 2, 1) := by decide +kernel
theorem d_M_simple_42 : decode u_M_simple.2.1 42 = .ok (.iconst 1, 1) := by decide +kernel
theorem d_M_simple_43 : decode u_M_simple.2.1 43 = .ok (.if_icmp .ne 12, 3) := by decide +kernel
theorem d_M_simple_46 : decode u_M_simple.2.1 46 = .ok (.aload_n 0, 1) := by decide +kernel
theorem d_M_simple_47 : decode u_M_simple.2.1 47 = .ok (.getfield 55, 3) := by decide +kernel
theorem d_M_simple_50 : decode u_M_simple.2.1 50 = .ok (.iload 5, 2) := by decide +kernel
theorem d_M_simple_52 : decode u_M_simple.2.1 52 = .ok (.iload 4, 2) := by decide +kernel
theorem d_M_simple_54 : decode u_M_simple.2.1 54 = .ok (.iastore, 1) := by decide +kernel
theorem d_M_simple_55 : decode u_M_simple.2.1 55 = .ok (.iload_n 2, 1) := by decide +kernel
theorem d_M_simple_56 : decode u_M_simple.2.1 56 = .ok (.iconst 2, 1) := by decide +kernel
theorem d_M_simple_57 : decode u_M_simple.2.1 57 = .ok (.if_icmp .ne 20, 3) := by decide +kernel
theorem d_M_simple_60 : decode u_M_simple.2.1 60 = .ok (.aload_n 0, 1) := by decide +kernel
theorem d_M_simple_61 : decode u_M_simple.2.1 61 = .ok (.getfield 55, 3) := by decide +kernel
theorem d_M_simple_64 : decode u_M_simple.2.1 64 = .ok (.iload 5, 2) := by decide +kernel
theorem d_M_simple_66 : decode u_M_simple.2.1 66 = .ok (.aload_n 0, 1) := by decide +kernel
theorem d_M_simple_67 : decode u_M_simple.2.1 67 = .ok (.getfield 55, 3) := by decide +kernel
theorem d_M_simple_70 : decode u_M_simple.2.1 70 = .ok (.iload 5, 2) := by decide +kernel
theorem d_M_simple_72 : decode u_M_simple.2.1 72 = .ok (.iaload, 1) := by decide +kernel
theorem d_M_simple_73 : decode u_M_simple.2.1 73 = .ok (.iload 6, 2) := by decide +kernel
theorem d_M_simple_75 : decode u_M_simple.2.1 75 = .ok (.iadd, 1) := by decide +kernel
theorem d_M_simple_76 : decode u_M_simple.2.1 76 = .ok (.iastore, 1) := by decide +kernel
theorem d_M_simple_77 : decode u_M_simple.2.1 77 = .ok (.iload_n 2, 1) := by decide +kernel
theorem d_M_simple_78 : decode u_M_simple.2.1 78 = .ok (.iconst 3, 1) := by decide +kernel
theorem d_M_simple_79 : decode u_M_simple.2.1 79 = .ok (.if_icmp .ne 20, 3) := by decide +kernel
theorem d_M_simple_82 : decode u_M_simple.2.1 82 = .ok (.aload_n 0, 1) := by decide +kernel
theorem d_M_simple_83 : decode u_M_simple.2.1 83 = .ok (.getfield 55, 3) := by decide +kernel
theorem d_M_simple_86 : decode u_M_simple.2.1 86 = .ok (.iload 5, 2) := by decide +kernel
theorem d_M_simple_88 : decode u_M_simple.2.1 88 = .ok (.aload_n 0, 1) := by decide +kernel
theorem d_M_simple_89 : decode u_M_simple.2.1 89 = .ok (.getfield 55, 3) := by decide +kernel
theorem d_M_simple_92 : decode u_M_simple.2.1 92 = .ok (.iload 5, 2) := by decide +kernel
theorem d_M_simple_94 : decode u_M_simple.2.1 94 = .ok (.iaload, 1) := by decide +kernel
theorem d_M_simple_95 : decode u_M_simple.2.1 95 = .ok (.iload 6, 2) := by decide +kernel
theorem d_M_simple_97 : decode u_M_simple.2.1 97 = .ok (.isub, 1) := by decide +kernel
theorem d_M_simple_98 : decode u_M_simple.2.1 98 = .ok (.iastore, 1) := by decide +kernel
theorem d_M_simple_99 : decode u_M_simple.2.1 99 = .ok (.iload_n 2, 1) := by decide +kernel
theorem d_M_simple_100 : decode u_M_simple.2.1 100 = .ok (.iconst 4, 1) := by decide +kernel
theorem d_M_simple_101 : decode u_M_simple.2.1 101 = .ok (.if_icmp .ne 20, 3) := by decide +kernel
theorem d_M_simple_104 : decode u_M_simple.2.1 104 = .ok (.aload_n 0, 1) := by decide +kernel
theorem d_M_simple_105 : decode u_M_simple.2.1 105 = .ok (.getfield 55, 3) := by decide +kernel
theorem d_M_simple_108 : decode u_M_simple.2.1 108 = .ok (.iload 5, 2) := by decide +kernel
theorem d_M_simple_110 : decode u_M_simple.2.1 110 = .ok (.aload_n 0, 1) := by decide +kernel
theorem d_M_simple_111 : decode u_M_simple.2.1 111 = .ok (.getfield 55, 3) := by decide +kernel
theorem d_M_simple_114 : decode u_M_simple.2.1 114 = .ok (.iload 5, 2) := by decide +kernel
theorem d_M_simple_116 : decode u_M_simple.2.1 116 = .ok (.iaload, 1) := by decide +kernel
theorem d_M_simple_117 : decode u_M_simple.2.1 117 = .ok (.iload 6, 2) := by decide +kernel
theorem d_M_simple_119 : decode u_M_simple.2.1 119 = .ok (.ixor, 1) := by decide +kernel
theorem d_M_simple_120 : decode u_M_simple.2.1 120 = .ok (.iastore, 1) := by decide +kernel
theorem d_M_simple_121 : decode u_M_simple.2.1 121 = .ok (.iload_n 2, 1) := by decide +kernel
theorem d_M_simple_122 : decode u_M_simple.2.1 122 = .ok (.bipush 11, 2) := by decide +kernel
theorem d_M_simple_124 : decode u_M_simple.2.1 124 = .ok (.if_icmp .ne 131, 3) := by decide +kernel
theorem d_M_simple_127 : decode u_M_simple.2.1 127 = .ok (.aload_n 0, 1) := by decide +kernel
theorem d_M_simple_128 : decode u_M_simple.2.1 128 = .ok (.getfield 71, 3) := by decide +kernel
theorem d_M_simple_131 : decode u_M_simple.2.1 131 = .ok (.iload_n 1, 1) := by decide +kernel
theorem d_M_simple_132 : decode u_M_simple.2.1 132 = .ok (.iaload, 1) := by decide +kernel
theorem d_M_simple_133 : decode u_M_simple.2.1 133 = .ok (.ifCond .le 7, 3) := by decide +kernel
theorem d_M_simple_136 : decode u_M_simple.2.1 136 = .ok (.iconst 1, 1) := by decide +kernel
theorem d_M_simple_137 : decode u_M_simple.2.1 137 = .ok (.goto 4, 3) := by decide +kernel
theorem d_M_simple_140 : decode u_M_simple.2.1 140 = .ok (.iconst 0, 1) := by decide +kernel
theorem d_M_simple_141 : decode u_M_simple.2.1 141 = .ok (.istore 7, 2) := by decide +kernel
theorem d_M_simple_143 : decode u_M_simple.2.1 143 = .ok (.aload_n 0, 1) := by decide +kernel
theorem d_M_simple_144 : decode u_M_simple.2.1 144 = .ok (.getfield 55, 3) := by decide +kernel
theorem d_M_simple_147 : decode u_M_simple.2.1 147 = .ok (.iload 5, 2) := by decide +kernel
theorem d_M_simple_149 : decode u_M_simple.2.1 149 = .ok (.iload 7, 2) := by decide +kernel
theorem d_M_simple_151 : decode u_M_simple.2.1 151 = .ok (.ifCond .eq 15, 3) := by decide +kernel
theorem d_M_simple_154 : decode u_M_simple.2.1 154 = .ok (.aload_n 0, 1) := by decide +kernel
theorem d_M_simple_155 : decode u_M_simple.2.1 155 = .ok (.getfield 74, 3) := by decide +kernel
theorem d_M_simple_158 : decode u_M_simple.2.1 158 = .ok (.bipush 8, 2) := by decide +kernel
theorem d_M_simple_160 : decode u_M_simple.2.1 160 = .ok (.iload_n 1, 1) := by decide +kernel
theorem d_M_simple_161 : decode u_M_simple.2.1 161 = .ok (.imul, 1) := by decide +kernel
theorem d_M_simple_162 : decode u_M_simple.2.1 162 = .ok (.iaload, 1) := by decide +kernel
theorem d_M_simple_163 : decode u_M_simple.2.1 163 = .ok (.goto 4, 3) := by decide +kernel
theorem d_M_simple_166 : decode u_M_simple.2.1 166 = .ok (.iconst 0, 1) := by decide +kernel
theorem d_M_simple_167 : decode u_M_simple.2.1 167 = .ok (.iastore, 1) := by decide +kernel
theorem d_M_simple_168 : decode u_M_simple.2.1 168 = .ok (.aload_n 0, 1) := by decide +kernel
theorem d_M_simple_169 : decode u_M_simple.2.1 169 = .ok (.getfield 71, 3) := by decide +kernel
theorem d_M_simple_172 : decode u_M_simple.2.1 172 = .ok (.iload_n 1, 1) := by decide +kernel
theorem d_M_simple_173 : decode u_M_simple.2.1 173 = .ok (.iload 7, 2) := by decide +kernel
theorem d_M_simple_175 : decode u_M_simple.2.1 175 = .ok (.ifCond .eq 14, 3) := by decide +kernel
theorem d_M_simple_178 : decode u_M_simple.2.1 178 = .ok (.aload_n 0, 1) := by decide +kernel
theorem d_M_simple_179 : decode u_M_simple.2.1 179 = .ok (.getfield 71, 3) := by decide +kernel
theorem d_M_simple_182 : decode u_M_simple.2.1 182 = .ok (.iload_n 1, 1) := by decide +kernel
theorem d_M_simple_183 : decode u_M_simple.2.1 183 = .ok (.iaload, 1) := by decide +kernel
theorem d_M_simple_184 : decode u_M_simple.2.1 184 = .ok (.iconst 1, 1) := by decide +kernel
theorem d_M_simple_185 : decode u_M_simple.2.1 185 = .ok (.isub, 1) := by decide +kernel
theorem d_M_simple_186 : decode u_M_simple.2.1 186 = .ok (.goto 4, 3) := by decide +kernel
theorem d_M_simple_189 : decode u_M_simple.2.1 189 = .ok (.iconst 0, 1) := by decide +kernel
theorem d_M_simple_190 : decode u_M_simple.2.1 190 = .ok (.iastore, 1) := by decide +kernel
theorem d_M_simple_191 : decode u_M_simple.2.1 191 = .ok (.bipush 8, 2) := by decide +kernel
theorem d_M_simple_193 : decode u_M_simple.2.1 193 = .ok (.iload_n 1, 1) := by decide +kernel
theorem d_M_simple_194 : decode u_M_simple.2.1 194 = .ok (.imul, 1) := by decide +kernel
theorem d_M_simple_195 : decode u_M_simple.2.1 195 = .ok (.istore 8, 2) := by decide +kernel
theorem d_M_simple_197 : decode u_M_simple.2.1 197 = .ok (.iload 8, 2) := by decide +kernel
theorem d_M_simple_199 : decode u_M_simple.2.1 199 = .ok (.bipush 8, 2) := by decide +kernel
theorem d_M_simple_201 : decode u_M_simple.2.1 201 = .ok (.iload_n 1, 1) := by decide +kernel
theorem d_M_simple_202 : decode u_M_simple.2.1 202 = .ok (.imul, 1) := by decide +kernel
theorem d_M_simple_203 : decode u_M_simple.2.1 203 = .ok (.aload_n 0, 1) := by decide +kernel
theorem d_M_simple_204 : decode u_M_simple.2.1 204 = .ok (.getfield 71, 3) := by decide +kernel
theorem d_M_simple_207 : decode u_M_simple.2.1 207 = .ok (.iload_n 1, 1) := by decide +kernel
theorem d_M_simple_208 : decode u_M_simple.2.1 208 = .ok (.iaload, 1) := by decide +kernel
theorem d_M_simple_209 : decode u_M_simple.2.1 209 = .ok (.iadd, 1) := by decide +kernel
theorem d_M_simple_210 : decode u_M_simple.2.1 210 = .ok (.if_icmp .ge 25, 3) := by decide +kernel
theorem d_M_simple_213 : decode u_M_simple.2.1 213 = .ok (.aload_n 0, 1) := by decide +kernel
theorem d_M_simple_214 : decode u_M_simple.2.1 214 = .ok (.getfield 74, 3) := by decide +kernel
theorem d_M_simple_217 : decode u_M_simple.2.1 217 = .ok (.iload 8, 2) := by decide +kernel
theorem d_M_simple_219 : decode u_M_simple.2.1 219 = .ok (.aload_n 0, 1) := by decide +kernel
theorem d_M_simple_220 : decode u_M_simple.2.1 220 = .ok (.getfield 74, 3) := by decide +kernel
theorem d_M_simple_223 : decode u_M_simple.2.1 223 = .ok (.iload 8, 2) := by decide +kernel
theorem d_M_simple_225 : decode u_M_simple.2.1 225 = .ok (.iconst 1, 1) := by decide +kernel
theorem d_M_simple_226 : decode u_M_simple.2.1 226 = .ok (.iadd, 1) := by decide +kernel
theorem d_M_simple_227 : decode u_M_simple.2.1 227 = .ok (.iaload, 1) := by decide +kernel
theorem d_M_simple_228 : decode u_M_simple.2.1 228 = .ok (.iastore, 1) := by decide +kernel
theorem d_M_simple_229 : decode u_M_simple.2.1 229 = .ok (.iinc 8 1, 3) := by decide +kernel
theorem d_M_simple_232 : decode u_M_simple.2.1 232 = .ok (.goto (-35), 3) := by decide +kernel
theorem d_M_simple_235 : decode u_M_simple.2.1 235 = .ok (.aload_n 0, 1) := by decide +kernel
theorem d_M_simple_236 : decode u_M_simple.2.1 236 = .ok (.getfield 55, 3) := by decide +kernel
theorem d_M_simple_239 : decode u_M_simple.2.1 239 = .ok (.iconst 4, 1) := by decide +kernel
theorem d_M_simple_240 : decode u_M_simple.2.1 240 = .ok (.iload_n 1, 1) := by decide +kernel
theorem d_M_simple_241 : decode u_M_simple.2.1 241 = .ok (.imul, 1) := by decide +kernel
theorem d_M_simple_242 : decode u_M_simple.2.1 242 = .ok (.iconst 3, 1) := by decide +kernel
theorem d_M_simple_243 : decode u_M_simple.2.1 243 = .ok (.iadd, 1) := by decide +kernel
theorem d_M_simple_244 : decode u_M_simple.2.1 244 = .ok (.iload 7, 2) := by decide +kernel
theorem d_M_simple_246 : decode u_M_simple.2.1 246 = .ok (.ifCond .eq 7, 3) := by decide +kernel
theorem d_M_simple_249 : decode u_M_simple.2.1 249 = .ok (.iconst 1, 1) := by decide +kernel
theorem d_M_simple_250 : decode u_M_simple.2.1 250 = .ok (.goto 4, 3) := by decide +kernel
theorem d_M_simple_253 : decode u_M_simple.2.1 253 = .ok (.iconst 0, 1) := by decide +kernel
theorem d_M_simple_254 : decode u_M_simple.2.1 254 = .ok (.iastore, 1) := by decide +kernel
theorem d_M_simple_255 : decode u_M_simple.2.1 255 = .ok (.iload_n 2, 1) := by decide +kernel
theorem d_M_simple_256 : decode u_M_simple.2.1 256 = .ok (.bipush 12, 2) := by decide +kernel
theorem d_M_simple_258 : decode u_M_simple.2.1 258 = .ok (.if_icmp .ne 47, 3) := by decide +kernel
theorem d_M_simple_261 : decode u_M_simple.2.1 261 = .ok (.aload_n 0, 1) := by decide +kernel
theorem d_M_simple_262 : decode u_M_simple.2.1 262 = .ok (.getfield 77, 3) := by decide +kernel
theorem d_M_simple_265 : decode u_M_simple.2.1 265 = .ok (.iload_n 1, 1) := by decide +kernel
theorem d_M_simple_266 : decode u_M_simple.2.1 266 = .ok (.iaload, 1) := by decide +kernel
theorem d_M_simple_267 : decode u_M_simple.2.1 267 = .ok (.bipush 16, 2) := by decide +kernel
theorem d_M_simple_269 : decode u_M_simple.2.1 269 = .ok (.if_icmp .ge 26, 3) := by decide +kernel
theorem d_M_simple_272 : decode u_M_simple.2.1 272 = .ok (.aload_n 0, 1) := by decide +kernel
theorem d_M_simple_273 : decode u_M_simple.2.1 273 = .ok (.getfield 80, 3) := by decide +kernel
theorem d_M_simple_276 : decode u_M_simple.2.1 276 = .ok (.bipush 16, 2) := by decide +kernel
theorem d_M_simple_278 : decode u_M_simple.2.1 278 = .ok (.iload_n 1, 1) := by decide +kernel
theorem d_M_simple_279 : decode u_M_simple.2.1 279 = .ok (.imul, 1) := by decide +kernel
theorem d_M_simple_280 : decode u_M_simple.2.1 280 = .ok (.aload_n 0, 1) := by decide +kernel
theorem d_M_simple_281 : decode u_M_simple.2.1 281 = .ok (.getfield 77, 3) := by decide +kernel
theorem d_M_simple_284 : decode u_M_simple.2.1 284 = .ok (.iload_n 1, 1) := by decide +kernel
theorem d_M_simple_285 : decode u_M_simple.2.1 285 = .ok (.iaload, 1) := by decide +kernel
theorem d_M_simple_286 : decode u_M_simple.2.1 286 = .ok (.iadd, 1) := by decide +kernel
theorem d_M_simple_287 : decode u_M_simple.2.1 287 = .ok (.aload_n 0, 1) := by decide +kernel
theorem d_M_simple_288 : decode u_M_simple.2.1 288 = .ok (.getfield 55, 3) := by decide +kernel
theorem d_M_simple_291 : decode u_M_simple.2.1 291 = .ok (.iload 5, 2) := by decide +kernel
theorem d_M_simple_293 : decode u_M_simple.2.1 293 = .ok (.iaload, 1) := by decide +kernel
theorem d_M_simple_294 : decode u_M_simple.2.1 294 = .ok (.iastore, 1) := by decide +kernel
theorem d_M_simple_295 : decode u_M_simple.2.1 295 = .ok (.aload_n 0, 1) := by decide +kernel
theorem d_M_simple_296 : decode u_M_simple.2.1 296 = .ok (.getfield 77, 3) := by decide +kernel
theorem d_M_simple_299 : decode u_M_simple.2.1 299 = .ok (.iload_n 1, 1) := by decide +kernel
theorem d_M_simple_300 : decode u_M_simple.2.1 300 = .ok (.dup2, 1) := by decide +kernel
theorem d_M_simple_301 : decode u_M_simple.2.1 301 = .ok (.iaload, 1) := by decide +kernel
theorem d_M_simple_302 : decode u_M_simple.2.1 302 = .ok (.iconst 1, 1) := by decide +kernel
theorem d_M_simple_303 : decode u_M_simple.2.1 303 = .ok (.iadd, 1) := by decide +kernel
theorem d_M_simple_304 : decode u_M_simple.2.1 304 = .ok (.iastore, 1) := by decide +kernel
theorem d_M_simple_305 : decode u_M_simple.2.1 305 = .ok (.iload_n 2, 1) := by decide +kernel
theorem d_M_simple_306 : decode u_M_simple.2.1 306 = .ok (.bipush 13, 2) := by decide +kernel
theorem d_M_simple_308 : decode u_M_simple.2.1 308 = .ok (.if_icmp .ne 10, 3) := by decide +kernel
theorem d_M_simple_311 : decode u_M_simple.2.1 311 = .ok (.aload_n 0, 1) := by decide +kernel
theorem d_M_simple_312 : decode u_M_simple.2.1 312 = .ok (.getfield 68, 3) := by decide +kernel
theorem d_M_simple_315 : decode u_M_simple.2.1 315 = .ok (.iload_n 1, 1) := by decide +kernel
theorem d_M_simple_316 : decode u_M_simple.2.1 316 = .ok (.iconst 1, 1) := by decide +kernel
theorem d_M_simple_317 : decode u_M_simple.2.1 317 = .ok (.bastore, 1) := by decide +kernel
theorem d_M_simple_318 : decode u_M_simple.2.1 318 = .ok (.iload_n 2, 1) := by decide +kernel
theorem d_M_simple_319 : decode u_M_simple.2.1 319 = .ok (.bipush 14, 2) := by decide +kernel
theorem d_M_simple_321 : decode u_M_simple.2.1 321 = .ok (.if_icmp .ne 10, 3) := by decide +kernel
theorem d_M_simple_324 : decode u_M_simple.2.1 324 = .ok (.aload_n 0, 1) := by decide +kernel
theorem d_M_simple_325 : decode u_M_simple.2.1 325 = .ok (.getfield 64, 3) := by decide +kernel
theorem d_M_simple_328 : decode u_M_simple.2.1 328 = .ok (.iload_n 1, 1) := by decide +kernel
theorem d_M_simple_329 : decode u_M_simple.2.1 329 = .ok (.iconst 0, 1) := by decide +kernel
theorem d_M_simple_330 : decode u_M_simple.2.1 330 = .ok (.bastore, 1) := by decide +kernel
theorem d_M_simple_331 : decode u_M_simple.2.1 331 = .ok (.iconst 0, 1) := by decide +kernel
theorem d_M_simple_332 : decode u_M_simple.2.1 332 = .ok (.ireturn, 1) := by decide +kernel
theorem d_M_inside_0 : decode u_M_inside.2.1 0 = .ok (.iconst 4, 1) := by decide +kernel
theorem d_M_inside_1 : decode u_M_inside.2.1 1 = .ok (.iload_n 1, 1) := by decide +kernel
theorem d_M_inside_2 : decode u_M_inside.2.1 2 = .ok (.imul, 1) := by decide +kernel
theorem d_M_inside_3 : decode u_M_inside.2.1 3 = .ok (.iload_n 3, 1) := by decide +kernel
theorem d_M_inside_4 : decode u_M_inside.2.1 4 = .ok (.iconst 3, 1) := by decide +kernel
theorem d_M_inside_5 : decode u_M_inside.2.1 5 = .ok (.iand, 1) := by decide +kernel
theorem d_M_inside_6 : decode u_M_inside.2.1 6 = .ok (.iadd, 1) := by decide +kernel
theorem d_M_inside_7 : decode u_M_inside.2.1 7 = .ok (.istore 5, 2) := by decide +kernel
theorem d_M_inside_9 : decode u_M_inside.2.1 9 = .ok (.aload_n 0, 1) := by decide +kernel
theorem d_M_inside_10 : decode u_M_inside.2.1 10 = .ok (.getfield 55, 3) := by decide +kernel
theorem d_M_inside_13 : decode u_M_inside.2.1 13 = .ok (.iconst 4, 1) := by decide +kernel
theorem d_M_inside_14 : decode u_M_inside.2.1 14 = .ok (.iload_n 1, 1) := by decide +kernel
theorem d_M_inside_15 : decode u_M_inside.2.1 15 = .ok (.imul, 1) := by decide +kernel
theorem d_M_inside_16 : decode u_M_inside.2.1 16 = .ok (.iload 4, 2) := by decide +kernel
theorem d_M_inside_18 : decode u_M_inside.2.1 18 = .ok (.iconst 3, 1) := by decide +kernel
theorem d_M_inside_19 : decode u_M_inside.2.1 19 = .ok (.iand, 1) := by decide +kernel
theorem d_M_inside_20 : decode u_M_inside.2.1 20 = .ok (.iadd, 1) := by decide +kernel
theorem d_M_inside_21 : decode u_M_inside.2.1 21 = .ok (.iaload, 1) := by decide +kernel
theorem d_M_inside_22 : decode u_M_inside.2.1 22 = .ok (.istore 6, 2) := by decide +kernel
theorem d_M_inside_24 : decode u_M_inside.2.1 24 = .ok (.iload_n 2, 1) := by decide +kernel
theorem d_M_inside_25 : decode u_M_inside.2.1 25 = .ok (.bipush 7, 2) := by decide +kernel
theorem d_M_inside_27 : decode u_M_inside.2.1 27 = .ok (.if_icmp .ge 22, 3) := by decide +kernel
theorem d_M_inside_30 : decode u_M_inside.2.1 30 = .ok (.iload 6, 2) := by decide +kernel
theorem d_M_inside_32 : decode u_M_inside.2.1 32 = .ok (.iconst 0, 1) := by decide +kernel
theorem d_M_inside_33 : decode u_M_inside.2.1 33 = .ok (.aload_n 0, 1) := by decide +kernel
theorem d_M_inside_34 : decode u_M_inside.2.1 34 = .ok (.getfield 13, 3) := by decide +kernel
theorem d_M_inside_37 : decode u_M_inside.2.1 37 = .ok (.iload_n 1, 1) := by decide +kernel
theorem d_M_inside_38 : decode u_M_inside.2.1 38 = .ok (.iaload, 1) := by decide +kernel
theorem d_M_inside_39 : decode u_M_inside.2.1 39 = .ok (.iconst 1, 1) := by decide +kernel
theorem d_M_inside_40 : decode u_M_inside.2.1 40 = .ok (.isub, 1) := by decide +kernel
theorem d_M_inside_41 : decode u_M_inside.2.1 41 = .ok (.invokestatic 83, 3) := by decide +kernel
theorem d_M_inside_44 : decode u_M_inside.2.1 44 = .ok (.ifCond .ne 5, 3) := by decide +kernel
theorem d_M_inside_47 : decode u_M_inside.2.1 47 = .ok (.iconst 1, 1) := by decide +kernel
theorem d_M_inside_48 : decode u_M_inside.2.1 48 = .ok (.ireturn, 1) := by decide +kernel
theorem d_M_inside_49 : decode u_M_inside.2.1 49 = .ok (.aload_n 0, 1) := by decide +kernel
theorem d_M_inside_50 : decode u_M_inside.2.1 50 = .ok (.iload_n 1, 1) := by decide +kernel
theorem d_M_inside_51 : decode u_M_inside.2.1 51 = .ok (.invokevirtual 139, 3) := by decide +kernel
theorem d_M_inside_54 : decode u_M_inside.2.1 54 = .ok (.iload_n 2, 1) := by decide +kernel
theorem d_M_inside_55 : decode u_M_inside.2.1 55 = .ok (.iconst 5, 1) := by decide +kernel
theorem d_M_inside_56 : decode u_M_inside.2.1 56 = .ok (.if_icmp .ne 24, 3) := by decide +kernel
theorem d_M_inside_59 : decode u_M_inside.2.1 59 = .ok (.aload_n 0, 1) := by decide +kernel
theorem d_M_inside_60 : decode u_M_inside.2.1 60 = .ok (.getfield 55, 3) := by decide +kernel
theorem d_M_inside_63 : decode u_M_inside.2.1 63 = .ok (.iload 5, 2) := by decide +kernel
theorem d_M_inside_65 : decode u_M_inside.2.1 65 = .ok (.aload_n 0, 1) := by decide +kernel
theorem d_M_inside_66 : decode u_M_inside.2.1 66 = .ok (.getfield 52, 3) := by decide +kernel
theorem d_M_inside_69 : decode u_M_inside.2.1 69 = .ok (.aload_n 0, 1) := by decide +kernel
theorem d_M_inside_70 : decode u_M_inside.2.1 70 = .ok (.getfield 7, 3) := by decide +kernel
theorem d_M_inside_73 : decode u_M_inside.2.1 73 = .ok (.iload_n 1, 1) := by decide +kernel
theorem d_M_inside_74 : decode u_M_inside.2.1 74 = .ok (.iaload, 1) := by decide +kernel
theorem d_M_inside_75 : decode u_M_inside.2.1 75 = .ok (.iload 6, 2) := by decide +kernel
theorem d_M_inside_77 : decode u_M_inside.2.1 77 = .ok (.iadd, 1) := by decide +kernel
theorem d_M_inside_78 : decode u_M_inside.2.1 78 = .ok (.iaload, 1) := by decide +kernel
theorem d_M_inside_79 : decode u_M_inside.2.1 79 = .ok (.iastore, 1) := by decide +kernel
theorem d_M_inside_80 : decode u_M_inside.2.1 80 = .ok (.iload_n 2, 1) := by decide +kernel
theorem d_M_inside_81 : decode u_M_inside.2.1 81 = .ok (.bipush 6, 2) := by decide +kernel
theorem d_M_inside_83 : decode u_M_inside.2.1 83 = .ok (.if_icmp .ne 24, 3) := by decide +kernel
theorem d_M_inside_86 : decode u_M_inside.2.1 86 = .ok (.aload_n 0, 1) := by decide +kernel
theorem d_M_inside_87 : decode u_M_inside.2.1 87 = .ok (.getfield 52, 3) := by decide +kernel
theorem d_M_inside_90 : decode u_M_inside.2.1 90 = .ok (.aload_n 0, 1) := by decide +kernel
theorem d_M_inside_91 : decode u_M_inside.2.1 91 = .ok (.getfield 7, 3) := by decide +kernel
theorem d_M_inside_94 : decode u_M_inside.2.1 94 = .ok (.iload_n 1, 1) := by decide +kernel
theorem d_M_inside_95 : decode u_M_inside.2.1 95 = .ok (.iaload, 1) := by decide +kernel
theorem d_M_inside_96 : decode u_M_inside.2.1 96 = .ok (.iload 6, 2) := by decide +kernel
theorem d_M_inside_98 : decode u_M_inside.2.1 98 = .ok (.iadd, 1) := by decide +kernel
theorem d_M_inside_99 : decode u_M_inside.2.1 99 = .ok (.aload_n 0, 1) := by decide +kernel
theorem d_M_inside_100 : decode u_M_inside.2.1 100 = .ok (.getfield 55, 3) := by decide +kernel
theorem d_M_inside_103 : decode u_M_inside.2.1 103 = .ok (.iload 5, 2) := by decide +kernel
theorem d_M_inside_105 : decode u_M_inside.2.1 105 = .ok (.iaload, 1) := by decide +kernel
theorem d_M_inside_106 : decode u_M_inside.2.1 106 = .ok (.iastore, 1) := by decide +kernel
theorem d_M_inside_107 : decode u_M_inside.2.1 107 = .ok (.iload_n 2, 1) := by decide +kernel
theorem d_M_inside_108 : decode u_M_inside.2.1 108 = .ok (.bipush 7, 2) := by decide +kernel
theorem d_M_inside_110 : decode u_M_inside.2.1 110 = .ok (.if_icmp .eq 19, 3) := by decide +kernel
theorem d_M_inside_113 : decode u_M_inside.2.1 113 = .ok (.iload_n 2, 1) := by decide +kernel
theorem d_M_inside_114 : decode u_M_inside.2.1 114 = .ok (.bipush 8, 2) := by decide +kernel
theorem d_M_inside_116 : decode u_M_inside.2.1 116 = .ok (.if_icmp .ne 21, 3) := by decide +kernel
theorem d_M_inside_119 : decode u_M_inside.2.1 119 = .ok (.aload_n 0, 1) := by decide +kernel
theorem d_M_inside_120 : decode u_M_inside.2.1 120 = .ok (.getfield 55, 3) := by decide +kernel
theorem d_M_inside_123 : decode u_M_inside.2.1 123 = .ok (.iload 5, 2) := by decide +kernel
theorem d_M_inside_125 : decode u_M_inside.2.1 125 = .ok (.iaload, 1) := by decide +kernel
theorem d_M_inside_126 : decode u_M_inside.2.1 126 = .ok (.ifCond .eq 11, 3) := by decide +kernel
theorem d_M_inside_129 : decode u_M_inside.2.1 129 = .ok (.aload_n 0, 1) := by decide +kernel
theorem d_M_inside_130 : decode u_M_inside.2.1 130 = .ok (.getfield 58, 3) := by decide +kernel
theorem d_M_inside_133 : decode u_M_inside.2.1 133 = .ok (.iload_n 1, 1) := by decide +kernel
theorem d_M_inside_134 : decode u_M_inside.2.1 134 = .ok (.iload 4, 2) := by decide +kernel
theorem d_M_inside_136 : decode u_M_inside.2.1 136 = .ok (.iastore, 1) := by decide +kernel
theorem d_M_inside_137 : decode u_M_inside.2.1 137 = .ok (.iconst 0, 1) := by decide +kernel
theorem d_M_inside_138 : decode u_M_inside.2.1 138 = .ok (.ireturn, 1) := by decide +kernel
theorem d_M_message_0 : decode u_M_message.2.1 0 = .ok (.iconst 4, 1) := by decide +kernel
theorem d_M_message_1 : decode u_M_message.2.1 1 = .ok (.iload_n 1, 1) := by decide +kernel
theorem d_M_message_2 : decode u_M_message.2.1 2 = .ok (.imul, 1) := by decide +kernel
theorem d_M_message_3 : decode u_M_message.2.1 3 = .ok (.iload 4, 2) := by decide +kernel
theorem d_M_message_5 : decode u_M_message.2.1 5 = .ok (.iconst 3, 1) := by decide +kernel
theorem d_M_message_6 : decode u_M_message.2.1 6 = .ok (.iand, 1) := by decide +kernel
theorem d_M_message_7 : decode u_M_message.2.1 7 = .ok (.iadd, 1) := by decide +kernel
theorem d_M_message_8 : decode u_M_message.2.1 8 = .ok (.istore 5, 2) := by decide +kernel
theorem d_M_message_10 : decode u_M_message.2.1 10 = .ok (.iconst 4, 1) := by decide +kernel
theorem d_M_message_11 : decode u_M_message.2.1 11 = .ok (.iload_n 1, 1) := by decide +kernel
theorem d_M_message_12 : decode u_M_message.2.1 12 = .ok (.imul, 1) := by decide +kernel
theorem d_M_message_13 : decode u_M_message.2.1 13 = .ok (.iconst 3, 1) := by decide +kernel
theorem d_M_message_14 : decode u_M_message.2.1 14 = .ok (.iadd, 1) := by decide +kernel
theorem d_M_message_15 : decode u_M_message.2.1 15 = .ok (.istore 6, 2) := by decide +kernel
theorem d_M_message_17 : decode u_M_message.2.1 17 = .ok (.iload_n 3, 1) := by decide +kernel
theorem d_M_message_18 : decode u_M_message.2.1 18 = .ok (.iconst 0, 1) := by decide +kernel
theorem d_M_message_19 : decode u_M_message.2.1 19 = .ok (.aload_n 0, 1) := by decide +kernel
theorem d_M_message_20 : decode u_M_message.2.1 20 = .ok (.getfield 99, 3) := by decide +kernel
theorem d_M_message_23 : decode u_M_message.2.1 23 = .ok (.iconst 1, 1) := by decide +kernel
theorem d_M_message_24 : decode u_M_message.2.1 24 = .ok (.isub, 1) := by decide +kernel
theorem d_M_message_25 : decode u_M_message.2.1 25 = .ok (.invokestatic 83, 3) := by decide +kernel
theorem d_M_message_28 : decode u_M_message.2.1 28 = .ok (.ifCond .eq 28, 3) := by decide +kernel
theorem d_M_message_31 : decode u_M_message.2.1 31 = .ok (.iload_n 2, 1) := by decide +kernel
theorem d_M_message_32 : decode u_M_message.2.1 32 = .ok (.bipush 9, 2) := by decide +kernel
theorem d_M_message_34 : decode u_M_message.2.1 34 = .ok (.if_icmp .ne 12, 3) := by decide +kernel
theorem d_M_message_37 : decode u_M_message.2.1 37 = .ok (.aload_n 0, 1) := by decide +kernel
theorem d_M_message_38 : decode u_M_message.2.1 38 = .ok (.getfield 22, 3) := by decide +kernel
theorem d_M_message_41 : decode u_M_message.2.1 41 = .ok (.iload_n 3, 1) := by decide +kernel
theorem d_M_message_42 : decode u_M_message.2.1 42 = .ok (.iaload, 1) := by decide +kernel
theorem d_M_message_43 : decode u_M_message.2.1 43 = .ok (.goto 9, 3) := by decide +kernel
theorem d_M_message_46 : decode u_M_message.2.1 46 = .ok (.aload_n 0, 1) := by decide +kernel
theorem d_M_message_47 : decode u_M_message.2.1 47 = .ok (.getfield 25, 3) := by decide +kernel
theorem d_M_message_50 : decode u_M_message.2.1 50 = .ok (.iload_n 3, 1) := by decide +kernel
theorem d_M_message_51 : decode u_M_message.2.1 51 = .ok (.iaload, 1) := by decide +kernel
theorem d_M_message_52 : decode u_M_message.2.1 52 = .ok (.iload_n 1, 1) := by decide +kernel
theorem d_M_message_53 : decode u_M_message.2.1 53 = .ok (.if_icmp .eq 5, 3) := by decide +kernel
theorem d_M_message_56 : decode u_M_message.2.1 56 = .ok (.iconst 2, 1) := by decide +kernel
theorem d_M_message_57 : decode u_M_message.2.1 57 = .ok (.ireturn, 1) := by decide +kernel
theorem d_M_message_58 : decode u_M_message.2.1 58 = .ok (.aload_n 0, 1) := by decide +kernel
theorem d_M_message_59 : decode u_M_message.2.1 59 = .ok (.iload_n 1, 1) := by decide +kernel
theorem d_M_message_60 : decode u_M_message.2.1 60 = .ok (.invokevirtual 139, 3) := by decide +kernel
theorem d_M_message_63 : decode u_M_message.2.1 63 = .ok (.iload_n 2, 1) := by decide +kernel
theorem d_M_message_64 : decode u_M_message.2.1 64 = .ok (.bipush 9, 2) := by decide +kernel
theorem d_M_message_66 : decode u_M_message.2.1 66 = .ok (.if_icmp .ne 47, 3) := by decide +kernel
theorem d_M_message_69 : decode u_M_message.2.1 69 = .ok (.aload_n 0, 1) := by decide +kernel
theorem d_M_message_70 : decode u_M_message.2.1 70 = .ok (.getfield 28, 3) := by decide +kernel
theorem d_M_message_73 : decode u_M_message.2.1 73 = .ok (.iload_n 3, 1) := by decide +kernel
theorem d_M_message_74 : decode u_M_message.2.1 74 = .ok (.iaload, 1) := by decide +kernel
theorem d_M_message_75 : decode u_M_message.2.1 75 = .ok (.ifCond .ne 38, 3) := by decide +kernel
theorem d_M_message_78 : decode u_M_message.2.1 78 = .ok (.aload_n 0, 1) := by decide +kernel
theorem d_M_message_79 : decode u_M_message.2.1 79 = .ok (.getfield 37, 3) := by decide +kernel
theorem d_M_message_82 : decode u_M_message.2.1 82 = .ok (.iconst 4, 1) := by decide +kernel
theorem d_M_message_83 : decode u_M_message.2.1 83 = .ok (.iload_n 3, 1) := by decide +kernel
theorem d_M_message_84 : decode u_M_message.2.1 84 = .ok (.imul, 1) := by decide +kernel
theorem d_M_message_85 : decode u_M_message.2.1 85 = .ok (.aload_n 0, 1) := by decide +kernel
theorem d_M_message_86 : decode u_M_message.2.1 86 = .ok (.getfield 55, 3) := by decide +kernel
theorem d_M_message_89 : decode u_M_message.2.1 89 = .ok (.iload 5, 2) := by decide +kernel
theorem d_M_message_91 : decode u_M_message.2.1 91 = .ok (.iaload, 1) := by decide +kernel
theorem d_M_message_92 : decode u_M_message.2.1 92 = .ok (.iastore, 1) := by decide +kernel
theorem d_M_message_93 : decode u_M_message.2.1 93 = .ok (.aload_n 0, 1) := by decide +kernel
theorem d_M_message_94 : decode u_M_message.2.1 94 = .ok (.getfield 34, 3) := by decide +kernel
theorem d_M_message_97 : decode u_M_message.2.1 97 = .ok (.iload_n 3, 1) := by decide +kernel
theorem d_M_message_98 : decode u_M_message.2.1 98 = .ok (.aload_n 0, 1) := by decide +kernel
theorem d_M_message_99 : decode u_M_message.2.1 99 = .ok (.getfield 115, 3) := by decide +kernel
theorem d_M_message_102 : decode u_M_message.2.1 102 = .ok (.iastore, 1) := by decide +kernel
theorem d_M_message_103 : decode u_M_message.2.1 103 = .ok (.aload_n 0, 1) := by decide +kernel
theorem d_M_message_104 : decode u_M_message.2.1 104 = .ok (.getfield 31, 3) := by decide +kernel
theorem d_M_message_107 : decode u_M_message.2.1 107 = .ok (.iload_n 3, 1) := by decide +kernel
theorem d_M_message_108 : decode u_M_message.2.1 108 = .ok (.iconst 1, 1) := by decide +kernel
theorem d_M_message_109 : decode u_M_message.2.1 109 = .ok (.iastore, 1) := by decide +kernel
theorem d_M_message_110 : decode u_M_message.2.1 110 = .ok (.goto 288, 3) := by decide +kernel
theorem d_M_message_113 : decode u_M_message.2.1 113 = .ok (.iload_n 2, 1) := by decide +kernel
theorem d_M_message_114 : decode u_M_message.2.1 114 = .ok (.bipush 9, 2) := by decide +kernel
theorem d_M_message_116 : decode u_M_message.2.1 116 = .ok (.if_icmp .ne 100, 3) := by decide +kernel
theorem d_M_message_119 : decode u_M_message.2.1 119 = .ok (.aload_n 0, 1) := by decide +kernel
theorem d_M_message_120 : decode u_M_message.2.1 120 = .ok (.getfield 31, 3) := by decide +kernel
theorem d_M_message_123 : decode u_M_message.2.1 123 = .ok (.iload_n 3, 1) := by decide +kernel
theorem d_M_message_124 : decode u_M_message.2.1 124 = .ok (.iaload, 1) := by decide +kernel
theorem d_M_message_125 : decode u_M_message.2.1 125 = .ok (.aload_n 0, 1) := by decide +kernel
theorem d_M_message_126 : decode u_M_message.2.1 126 = .ok (.getfield 28, 3) := by decide +kernel
theorem d_M_message_129 : decode u_M_message.2.1 129 = .ok (.iload_n 3, 1) := by decide +kernel
theorem d_M_message_130 : decode u_M_message.2.1 130 = .ok (.iaload, 1) := by decide +kernel
theorem d_M_message_131 : decode u_M_message.2.1 131 = .ok (.if_icmp .ge 7, 3) := by decide +kernel
theorem d_M_message_134 : decode u_M_message.2.1 134 = .ok (.iconst 1, 1) := by decide +kernel
theorem d_M_message_135 : decode u_M_message.2.1 135 = .ok (.goto 4, 3) := by decide +kernel
theorem d_M_message_138 : decode u_M_message.2.1 138 = .ok (.iconst 0, 1) := by decide +kernel
theorem d_M_message_139 : decode u_M_message.2.1 139 = .ok (.istore 7, 2) := by decide +kernel
theorem d_M_message_141 : decode u_M_message.2.1 141 = .ok (.iload 7, 2) := by decide +kernel
theorem d_M_message_143 : decode u_M_message.2.1 143 = .ok (.ifCond .eq 25, 3) := by decide +kernel
theorem d_M_message_146 : decode u_M_message.2.1 146 = .ok (.aload_n 0, 1) := by decide +kernel
theorem d_M_message_147 : decode u_M_message.2.1 147 = .ok (.getfield 37, 3) := by decide +kernel
theorem d_M_message_150 : decode u_M_message.2.1 150 = .ok (.iconst 4, 1) := by decide +kernel
theorem d_M_message_151 : decode u_M_message.2.1 151 = .ok (.iload_n 3, 1) := by decide +kernel
theorem d_M_message_152 : decode u_M_message.2.1 152 = .ok (.imul, 1) := by decide +kernel
theorem d_M_message_153 : decode u_M_message.2.1 153 = .ok (.aload_n 0, 1) := by decide +kernel
theorem d_M_message_154 : decode u_M_message.2.1 154 = .ok (.getfield 31, 3) := by decide +kernel
theorem d_M_message_157 : decode u_M_message.2.1 157 = .ok (.iload_n 3, 1) := by decide +kernel
theorem d_M_message_158 : decode u_M_message.2.1 158 = .ok (.iaload, 1) := by decide +kernel
theorem d_M_message_159 : decode u_M_message.2.1 159 = .ok (.iadd, 1) := by decide +kernel
theorem d_M_message_160 : decode u_M_message.2.1 160 = .ok (.aload_n 0, 1) := by decide +kernel
theorem d_M_message_161 : decode u_M_message.2.1 161 = .ok (.getfield 55, 3) := by decide +kernel
theorem d_M_message_164 : decode u_M_message.2.1 164 = .ok (.iload 5, 2) := by decide +kernel
theorem d_M_message_166 : decode u_M_message.2.1 166 = .ok (.iaload, 1) := by decide +kernel
theorem d_M_message_167 : decode u_M_message.2.1 167 = .ok (.iastore, 1) := by decide +kernel
theorem d_M_message_168 : decode u_M_message.2.1 168 = .ok (.aload_n 0, 1) := by decide +kernel
theorem d_M_message_169 : decode u_M_message.2.1 169 = .ok (.getfield 31, 3) := by decide +kernel
theorem d_M_message_172 : decode u_M_message.2.1 172 = .ok (.iload_n 3, 1) := by decide +kernel
theorem d_M_message_173 : decode u_M_message.2.1 173 = .ok (.iload 7, 2) := by decide +kernel
theorem d_M_message_175 : decode u_M_message.2.1 175 = .ok (.ifCond .eq 14, 3) := by decide +kernel
theorem d_M_message_178 : decode u_M_message.2.1 178 = .ok (.aload_n 0, 1) := by decide +kernel
theorem d_M_message_179 : decode u_M_message.2.1 179 = .ok (.getfield 31, 3) := by decide +kernel
theorem d_M_message_182 : decode u_M_message.2.1 182 = .ok (.iload_n 3, 1) := by decide +kernel
theorem d_M_message_183 : decode u_M_message.2.1 183 = .ok (.iaload, 1) := by decide +kernel
theorem d_M_message_184 : decode u_M_message.2.1 184 = .ok (.iconst 1, 1) := by decide +kernel
theorem d_M_message_185 : decode u_M_message.2.1 185 = .ok (.iadd, 1) := by decide +kernel
theorem d_M_message_186 : decode u_M_message.2.1 186 = .ok (.goto 9, 3) := by decide +kernel
theorem d_M_message_189 : decode u_M_message.2.1 189 = .ok (.aload_n 0, 1) := by decide +kernel
theorem d_M_message_190 : decode u_M_message.2.1 190 = .ok (.getfield 31, 3) := by decide +kernel
theorem d_M_message_193 : decode u_M_message.2.1 193 = .ok (.iload_n 3, 1) := by decide +kernel
theorem d_M_message_194 : decode u_M_message.2.1 194 = .ok (.iaload, 1) := by decide +kernel
theorem d_M_message_195 : decode u_M_message.2.1 195 = .ok (.iastore, 1) := by decide +kernel
theorem d_M_message_196 : decode u_M_message.2.1 196 = .ok (.aload_n 0, 1) := by decide +kernel
theorem d_M_message_197 : decode u_M_message.2.1 197 = .ok (.getfield 55, 3) := by decide +kernel
theorem d_M_message_200 : decode u_M_message.2.1 200 = .ok (.iload 6, 2) := by decide +kernel
theorem d_M_message_202 : decode u_M_message.2.1 202 = .ok (.iload 7, 2) := by decide +kernel
theorem d_M_message_204 : decode u_M_message.2.1 204 = .ok (.ifCond .eq 7, 3) := by decide +kernel
theorem d_M_message_207 : decode u_M_message.2.1 207 = .ok (.iconst 1, 1) := by decide +kernel
theorem d_M_message_208 : decode u_M_message.2.1 208 = .ok (.goto 4, 3) := by decide +kernel
theorem d_M_message_211 : decode u_M_message.2.1 211 = .ok (.iconst 0, 1) := by decide +kernel
theorem d_M_message_212 : decode u_M_message.2.1 212 = .ok (.iastore, 1) := by decide +kernel
theorem d_M_message_213 : decode u_M_message.2.1 213 = .ok (.goto 185, 3) := by decide +kernel
theorem d_M_message_216 : decode u_M_message.2.1 216 = .ok (.aload_n 0, 1) := by decide +kernel
theorem d_M_message_217 : decode u_M_message.2.1 217 = .ok (.getfield 31, 3) := by decide +kernel
theorem d_M_message_220 : decode u_M_message.2.1 220 = .ok (.iload_n 3, 1) := by decide +kernel
theorem d_M_message_221 : decode u_M_message.2.1 221 = .ok (.iaload, 1) := by decide +kernel
theorem d_M_message_222 : decode u_M_message.2.1 222 = .ok (.ifCond .ne 27, 3) := by decide +kernel
theorem d_M_message_225 : decode u_M_message.2.1 225 = .ok (.aload_n 0, 1) := by decide +kernel
theorem d_M_message_226 : decode u_M_message.2.1 226 = .ok (.getfield 55, 3) := by decide +kernel
theorem d_M_message_229 : decode u_M_message.2.1 229 = .ok (.iload 6, 2) := by decide +kernel
theorem d_M_message_231 : decode u_M_message.2.1 231 = .ok (.aload_n 0, 1) := by decide +kernel
theorem d_M_message_232 : decode u_M_message.2.1 232 = .ok (.getfield 28, 3) := by decide +kernel
theorem d_M_message_235 : decode u_M_message.2.1 235 = .ok (.iload_n 3, 1) := by decide +kernel
theorem d_M_message_236 : decode u_M_message.2.1 236 = .ok (.iaload, 1) := by decide +kernel
theorem d_M_message_237 : decode u_M_message.2.1 237 = .ok (.ifCond .ne 7, 3) := by decide +kernel
theorem d_M_message_240 : decode u_M_message.2.1 240 = .ok (.iconst (-1), 1) := by decide +kernel
theorem d_M_message_241 : decode u_M_message.2.1 241 = .ok (.goto 4, 3) := by decide +kernel
theorem d_M_message_244 : decode u_M_message.2.1 244 = .ok (.iconst 0, 1) := by decide +kernel
theorem d_M_message_245 : decode u_M_message.2.1 245 = .ok (.iastore, 1) := by decide +kernel
theorem d_M_message_246 : decode u_M_message.2.1 246 = .ok (.goto 152, 3) := by decide +kernel
theorem d_M_message_249 : decode u_M_message.2.1 249 = .ok (.aload_n 0, 1) := by decide +kernel
theorem d_M_message_250 : decode u_M_message.2.1 250 = .ok (.getfield 55, 3) := by decide +kernel
theorem d_M_message_253 : decode u_M_message.2.1 253 = .ok (.iload 5, 2) := by decide +kernel
theorem d_M_message_255 : decode u_M_message.2.1 255 = .ok (.aload_n 0, 1) := by decide +kernel
theorem d_M_message_256 : decode u_M_message.2.1 256 = .ok (.getfield 37, 3) := by decide +kernel
theorem d_M_message_259 : decode u_M_message.2.1 259 = .ok (.iconst 4, 1) := by decide +kernel
theorem d_M_message_260 : decode u_M_message.2.1 260 = .ok (.iload_n 3, 1) := by decide +kernel
theorem d_M_message_261 : decode u_M_message.2.1 261 = .ok (.imul, 1) := by decide +kernel
theorem d_M_message_262 : decode u_M_message.2.1 262 = .ok (.iaload, 1) := by decide +kernel
theorem d_M_message_263 : decode u_M_message.2.1 263 = .ok (.iastore, 1) := by decide +kernel
theorem d_M_message_264 : decode u_M_message.2.1 264 = .ok (.aload_n 0, 1) := by decide +kernel
theorem d_M_message_265 : decode u_M_message.2.1 265 = .ok (.getfield 31, 3) := by decide +kernel
theorem d_M_message_268 : decode u_M_message.2.1 268 = .ok (.iload_n 3, 1) := by decide +kernel
theorem d_M_message_269 : decode u_M_message.2.1 269 = .ok (.aload_n 0, 1) := by decide +kernel
theorem d_M_message_270 : decode u_M_message.2.1 270 = .ok (.getfield 28, 3) := by decide +kernel
theorem d_M_message_273 : decode u_M_message.2.1 273 = .ok (.iload_n 3, 1) := by decide +kernel
theorem d_M_message_274 : decode u_M_message.2.1 274 = .ok (.iaload, 1) := by decide +kernel
theorem d_M_message_275 : decode u_M_message.2.1 275 = .ok (.ifCond .ne 7, 3) := by decide +kernel
theorem d_M_message_278 : decode u_M_message.2.1 278 = .ok (.iconst 1, 1) := by decide +kernel
theorem d_M_message_279 : decode u_M_message.2.1 279 = .ok (.goto 11, 3) := by decide +kernel
theorem d_M_message_282 : decode u_M_message.2.1 282 = .ok (.aload_n 0, 1) := by decide +kernel
theorem d_M_message_283 : decode u_M_message.2.1 283 = .ok (.getfield 31, 3) := by decide +kernel
theorem d_M_message_286 : decode u_M_message.2.1 286 = .ok (.iload_n 3, 1) := by decide +kernel
theorem d_M_message_287 : decode u_M_message.2.1 287 = .ok (.iaload, 1) := by decide +kernel
theorem d_M_message_288 : decode u_M_message.2.1 288 = .ok (.iconst 1, 1) := by decide +kernel
theorem d_M_message_289 : decode u_M_message.2.1 289 = .ok (.isub, 1) := by decide +kernel
theorem d_M_message_290 : decode u_M_message.2.1 290 = .ok (.iastore, 1) := by decide +kernel
theorem d_M_message_291 : decode u_M_message.2.1 291 = .ok (.iconst 4, 1) := by decide +kernel
theorem d_M_message_292 : decode u_M_message.2.1 292 = .ok (.iload_n 3, 1) := by decide +kernel
theorem d_M_message_293 : decode u_M_message.2.1 293 = .ok (.imul, 1) := by decide +kernel
theorem d_M_message_294 : decode u_M_message.2.1 294 = .ok (.istore 7, 2) := by decide +kernel
theorem d_M_message_296 : decode u_M_message.2.1 296 = .ok (.iload 7, 2) := by decide +kernel
theorem d_M_message_298 : decode u_M_message.2.1 298 = .ok (.iconst 4, 1) := by decide +kernel
theorem d_M_message_299 : decode u_M_message.2.1 299 = .ok (.iload_n 3, 1) := by decide +kernel
theorem d_M_message_300 : decode u_M_message.2.1 300 = .ok (.imul, 1) := by decide +kernel
theorem d_M_message_301 : decode u_M_message.2.1 301 = .ok (.aload_n 0, 1) := by decide +kernel
theorem d_M_message_302 : decode u_M_message.2.1 302 = .ok (.getfield 31, 3) := by decide +kernel
theorem d_M_message_305 : decode u_M_message.2.1 305 = .ok (.iload_n 3, 1) := by decide +kernel
theorem d_M_message_306 : decode u_M_message.2.1 306 = .ok (.iaload, 1) := by decide +kernel
theorem d_M_message_307 : decode u_M_message.2.1 307 = .ok (.iadd, 1) := by decide +kernel
theorem d_M_message_308 : decode u_M_message.2.1 308 = .ok (.if_icmp .ge 34, 3) := by decide +kernel
theorem d_M_message_311 : decode u_M_message.2.1 311 = .ok (.aload_n 0, 1) := by decide +kernel
theorem d_M_message_312 : decode u_M_message.2.1 312 = .ok (.getfield 28, 3) := by decide +kernel
theorem d_M_message_315 : decode u_M_message.2.1 315 = .ok (.iload_n 3, 1) := by decide +kernel
theorem d_M_message_316 : decode u_M_message.2.1 316 = .ok (.iaload, 1) := by decide +kernel
theorem d_M_message_317 : decode u_M_message.2.1 317 = .ok (.ifCond .le 25, 3) := by decide +kernel
theorem d_M_message_320 : decode u_M_message.2.1 320 = .ok (.aload_n 0, 1) := by decide +kernel
theorem d_M_message_321 : decode u_M_message.2.1 321 = .ok (.getfield 37, 3) := by decide +kernel
theorem d_M_message_324 : decode u_M_message.2.1 324 = .ok (.iload 7, 2) := by decide +kernel
theorem d_M_message_326 : decode u_M_message.2.1 326 = .ok (.aload_n 0, 1) := by decide +kernel
theorem d_M_message_327 : decode u_M_message.2.1 327 = .ok (.getfield 37, 3) := by decide +kernel
theorem d_M_message_330 : decode u_M_message.2.1 330 = .ok (.iload 7, 2) := by decide +kernel
theorem d_M_message_332 : decode u_M_message.2.1 332 = .ok (.iconst 1, 1) := by decide +kernel
theorem d_M_message_333 : decode u_M_message.2.1 333 = .ok (.iadd, 1) := by decide +kernel
theorem d_M_message_334 : decode u_M_message.2.1 334 = .ok (.iaload, 1) := by decide +kernel
theorem d_M_message_335 : decode u_M_message.2.1 335 = .ok (.iastore, 1) := by decide +kernel
theorem d_M_message_336 : decode u_M_message.2.1 336 = .ok (.iinc 7 1, 3) := by decide +kernel
theorem d_M_message_339 : decode u_M_message.2.1 339 = .ok (.goto (-43), 3) := by decide +kernel
theorem d_M_message_342 : decode u_M_message.2.1 342 = .ok (.aload_n 0, 1) := by decide +kernel
theorem d_M_message_343 : decode u_M_message.2.1 343 = .ok (.getfield 115, 3) := by decide +kernel
theorem d_M_message_346 : decode u_M_message.2.1 346 = .ok (.aload_n 0, 1) := by decide +kernel
theorem d_M_message_347 : decode u_M_message.2.1 347 = .ok (.getfield 34, 3) := by decide +kernel
theorem d_M_message_350 : decode u_M_message.2.1 350 = .ok (.iload_n 3, 1) := by decide +kernel
theorem d_M_message_351 : decode u_M_message.2.1 351 = .ok (.iaload, 1) := by decide +kernel
theorem d_M_message_352 : decode u_M_message.2.1 352 = .ok (.isub, 1) := by decide +kernel
theorem d_M_message_353 : decode u_M_message.2.1 353 = .ok (.bipush 99, 2) := by decide +kernel
theorem d_M_message_355 : decode u_M_message.2.1 355 = .ok (.if_icmp .ge 17, 3) := by decide +kernel
theorem d_M_message_358 : decode u_M_message.2.1 358 = .ok (.aload_n 0, 1) := by decide +kernel
theorem d_M_message_359 : decode u_M_message.2.1 359 = .ok (.getfield 115, 3) := by decide +kernel
theorem d_M_message_362 : decode u_M_message.2.1 362 = .ok (.aload_n 0, 1) := by decide +kernel
theorem d_M_message_363 : decode u_M_message.2.1 363 = .ok (.getfield 34, 3) := by decide +kernel
theorem d_M_message_366 : decode u_M_message.2.1 366 = .ok (.iload_n 3, 1) := by decide +kernel
theorem d_M_message_367 : decode u_M_message.2.1 367 = .ok (.iaload, 1) := by decide +kernel
theorem d_M_message_368 : decode u_M_message.2.1 368 = .ok (.isub, 1) := by decide +kernel
theorem d_M_message_369 : decode u_M_message.2.1 369 = .ok (.goto 5, 3) := by decide +kernel
theorem d_M_message_372 : decode u_M_message.2.1 372 = .ok (.bipush 99, 2) := by decide +kernel
theorem d_M_message_374 : decode u_M_message.2.1 374 = .ok (.istore 7, 2) := by decide +kernel
theorem d_M_message_376 : decode u_M_message.2.1 376 = .ok (.aload_n 0, 1) := by decide +kernel
theorem d_M_message_377 : decode u_M_message.2.1 377 = .ok (.getfield 55, 3) := by decide +kernel
theorem d_M_message_380 : decode u_M_message.2.1 380 = .ok (.iload 6, 2) := by decide +kernel
theorem d_M_message_382 : decode u_M_message.2.1 382 = .ok (.aload_n 0, 1) := by decide +kernel
theorem d_M_message_383 : decode u_M_message.2.1 383 = .ok (.getfield 28, 3) := by decide +kernel
theorem d_M_message_386 : decode u_M_message.2.1 386 = .ok (.iload_n 3, 1) := by decide +kernel
theorem d_M_message_387 : decode u_M_message.2.1 387 = .ok (.iaload, 1) := by decide +kernel
theorem d_M_message_388 : decode u_M_message.2.1 388 = .ok (.ifCond .ne 8, 3) := by decide +kernel
theorem d_M_message_391 : decode u_M_message.2.1 391 = .ok (.iload 7, 2) := by decide +kernel
theorem d_M_message_393 : decode u_M_message.2.1 393 = .ok (.goto 4, 3) := by decide +kernel
theorem d_M_message_396 : decode u_M_message.2.1 396 = .ok (.iconst 1, 1) := by decide +kernel
theorem d_M_message_397 : decode u_M_message.2.1 397 = .ok (.iastore, 1) := by decide +kernel
theorem d_M_message_398 : decode u_M_message.2.1 398 = .ok (.iconst 0, 1) := by decide +kernel
theorem d_M_message_399 : decode u_M_message.2.1 399 = .ok (.ireturn, 1) := by decide +kernel
theorem d_M_react_0 : decode u_M_react.2.1 0 = .ok (.aload_n 0, 1) := by decide +kernel
theorem d_M_react_1 : decode u_M_react.2.1 1 = .ok (.getfield 40, 3) := by decide +kernel
theorem d_M_react_4 : decode u_M_react.2.1 4 = .ok (.iconst 4, 1) := by decide +kernel
theorem d_M_react_5 : decode u_M_react.2.1 5 = .ok (.iload_n 1, 1) := by decide +kernel
