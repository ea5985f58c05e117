theorem d_D_init_0 : decode u_D_init.2.1 0 = .ok (.aload_n 0, 1) := by decide +kernel
theorem d_D_init_1 : decode u_D_init.2.1 1 = .ok (.invokespecial 1, 3) := by decide +kernel
theorem d_D_init_4 : decode u_D_init.2.1 4 = .ok (.aload_n 0, 1) := by decide +kernel
theorem d_D_init_5 : decode u_D_init.2.1 5 = .ok (.bipush 64, 2) := by decide +kernel
theorem d_D_init_7 : decode u_D_init.2.1 7 = .ok (.newarray .int, 2) := by decide +kernel
theorem d_D_init_9 : decode u_D_init.2.1 9 = .ok (.putfield 9, 3) := by decide +kernel
theorem d_D_init_12 : decode u_D_init.2.1 12 = .ok (.aload_n 0, 1) := by decide +kernel
theorem d_D_init_13 : decode u_D_init.2.1 13 = .ok (.iconst 4, 1) := by decide +kernel
theorem d_D_init_14 : decode u_D_init.2.1 14 = .ok (.anewarray 13, 3) := by decide +kernel
theorem d_D_init_17 : decode u_D_init.2.1 17 = .ok (.putfield 15, 3) := by decide +kernel
theorem d_D_init_20 : decode u_D_init.2.1 20 = .ok (.iconst 0, 1) := by decide +kernel
theorem d_D_init_21 : decode u_D_init.2.1 21 = .ok (.istore_n 1, 1) := by decide +kernel
theorem d_D_init_22 : decode u_D_init.2.1 22 = .ok (.iload_n 1, 1) := by decide +kernel
theorem d_D_init_23 : decode u_D_init.2.1 23 = .ok (.iconst 4, 1) := by decide +kernel
theorem d_D_init_24 : decode u_D_init.2.1 24 = .ok (.if_icmp .ge 22, 3) := by decide +kernel
theorem d_D_init_27 : decode u_D_init.2.1 27 = .ok (.aload_n 0, 1) := by decide +kernel
theorem d_D_init_28 : decode u_D_init.2.1 28 = .ok (.getfield 15, 3) := by decide +kernel
theorem d_D_init_31 : decode u_D_init.2.1 31 = .ok (.iload_n 1, 1) := by decide +kernel
theorem d_D_init_32 : decode u_D_init.2.1 32 = .ok (.new 13, 3) := by decide +kernel
theorem d_D_init_35 : decode u_D_init.2.1 35 = .ok (.dup, 1) := by decide +kernel
theorem d_D_init_36 : decode u_D_init.2.1 36 = .ok (.invokespecial 19, 3) := by decide +kernel
theorem d_D_init_39 : decode u_D_init.2.1 39 = .ok (.aastore, 1) := by decide +kernel
theorem d_D_init_40 : decode u_D_init.2.1 40 = .ok (.iinc 1 1, 3) := by decide +kernel
theorem d_D_init_43 : decode u_D_init.2.1 43 = .ok (.goto (-21), 3) := by decide +kernel
theorem d_D_init_46 : decode u_D_init.2.1 46 = .ok (.aload_n 0, 1) := by decide +kernel
theorem d_D_init_47 : decode u_D_init.2.1 47 = .ok (.bipush 6, 2) := by decide +kernel
theorem d_D_init_49 : decode u_D_init.2.1 49 = .ok (.anewarray 20, 3) := by decide +kernel
theorem d_D_init_52 : decode u_D_init.2.1 52 = .ok (.putfield 22, 3) := by decide +kernel
theorem d_D_init_55 : decode u_D_init.2.1 55 = .ok (.iconst 0, 1) := by decide +kernel
theorem d_D_init_56 : decode u_D_init.2.1 56 = .ok (.istore_n 1, 1) := by decide +kernel
theorem d_D_init_57 : decode u_D_init.2.1 57 = .ok (.iload_n 1, 1) := by decide +kernel
theorem d_D_init_58 : decode u_D_init.2.1 58 = .ok (.bipush 6, 2) := by decide +kernel
theorem d_D_init_60 : decode u_D_init.2.1 60 = .ok (.if_icmp .ge 22, 3) := by decide +kernel
theorem d_D_init_63 : decode u_D_init.2.1 63 = .ok (.aload_n 0, 1) := by decide +kernel
theorem d_D_init_64 : decode u_D_init.2.1 64 = .ok (.getfield 22, 3) := by decide +kernel
theorem d_D_init_67 : decode u_D_init.2.1 67 = .ok (.iload_n 1, 1) := by decide +kernel
theorem d_D_init_68 : decode u_D_init.2.1 68 = .ok (.new 20, 3) := by decide +kernel
theorem d_D_init_71 : decode u_D_init.2.1 71 = .ok (.dup, 1) := by decide +kernel
theorem d_D_init_72 : decode u_D_init.2.1 72 = .ok (.invokespecial 26, 3) := by decide +kernel
theorem d_D_init_75 : decode u_D_init.2.1 75 = .ok (.aastore, 1) := by decide +kernel
theorem d_D_init_76 : decode u_D_init.2.1 76 = .ok (.iinc 1 1, 3) := by decide +kernel
theorem d_D_init_79 : decode u_D_init.2.1 79 = .ok (.goto (-22), 3) := by decide +kernel
theorem d_D_init_82 : decode u_D_init.2.1 82 = .ok (.aload_n 0, 1) := by decide +kernel
theorem d_D_init_83 : decode u_D_init.2.1 83 = .ok (.new 27, 3) := by decide +kernel
theorem d_D_init_86 : decode u_D_init.2.1 86 = .ok (.dup, 1) := by decide +kernel
theorem d_D_init_87 : decode u_D_init.2.1 87 = .ok (.invokespecial 29, 3) := by decide +kernel
theorem d_D_init_90 : decode u_D_init.2.1 90 = .ok (.putfield 30, 3) := by decide +kernel
theorem d_D_init_93 : decode u_D_init.2.1 93 = .ok (.aload_n 0, 1) := by decide +kernel
theorem d_D_init_94 : decode u_D_init.2.1 94 = .ok (.iconst 0, 1) := by decide +kernel
theorem d_D_init_95 : decode u_D_init.2.1 95 = .ok (.putfield 34, 3) := by decide +kernel
theorem d_D_init_98 : decode u_D_init.2.1 98 = .ok (.aload_n 0, 1) := by decide +kernel
theorem d_D_init_99 : decode u_D_init.2.1 99 = .ok (.iconst 0, 1) := by decide +kernel
theorem d_D_init_100 : decode u_D_init.2.1 100 = .ok (.putfield 38, 3) := by decide +kernel
theorem d_D_init_103 : decode u_D_init.2.1 103 = .ok (.return_, 1) := by decide +kernel
theorem d_D_region_0 : decode u_D_region.2.1 0 = .ok (.iload_n 1, 1) := by decide +kernel
theorem d_D_region_1 : decode u_D_region.2.1 1 = .ok (.invokestatic 42, 3) := by decide +kernel
theorem d_D_region_4 : decode u_D_region.2.1 4 = .ok (.ifCond .eq 14, 3) := by decide +kernel
theorem d_D_region_7 : decode u_D_region.2.1 7 = .ok (.iload_n 3, 1) := by decide +kernel
theorem d_D_region_8 : decode u_D_region.2.1 8 = .ok (.iconst 1, 1) := by decide +kernel
theorem d_D_region_9 : decode u_D_region.2.1 9 = .ok (.if_icmp .lt 9, 3) := by decide +kernel
theorem d_D_region_12 : decode u_D_region.2.1 12 = .ok (.iload_n 3, 1) := by decide +kernel
theorem d_D_region_13 : decode u_D_region.2.1 13 = .ok (.bipush 32, 2) := by decide +kernel
theorem d_D_region_15 : decode u_D_region.2.1 15 = .ok (.if_icmp .le 5, 3) := by decide +kernel
theorem d_D_region_18 : decode u_D_region.2.1 18 = .ok (.iconst 0, 1) := by decide +kernel
theorem d_D_region_19 : decode u_D_region.2.1 19 = .ok (.ireturn, 1) := by decide +kernel
theorem d_D_region_20 : decode u_D_region.2.1 20 = .ok (.iload_n 2, 1) := by decide +kernel
theorem d_D_region_21 : decode u_D_region.2.1 21 = .ok (.ifCond .lt 11, 3) := by decide +kernel
theorem d_D_region_24 : decode u_D_region.2.1 24 = .ok (.iload_n 2, 1) := by decide +kernel
theorem d_D_region_25 : decode u_D_region.2.1 25 = .ok (.bipush 64, 2) := by decide +kernel
theorem d_D_region_27 : decode u_D_region.2.1 27 = .ok (.iload_n 3, 1) := by decide +kernel
theorem d_D_region_28 : decode u_D_region.2.1 28 = .ok (.isub, 1) := by decide +kernel
theorem d_D_region_29 : decode u_D_region.2.1 29 = .ok (.if_icmp .le 5, 3) := by decide +kernel
theorem d_D_region_32 : decode u_D_region.2.1 32 = .ok (.iconst 0, 1) := by decide +kernel
theorem d_D_region_33 : decode u_D_region.2.1 33 = .ok (.ireturn, 1) := by decide +kernel
theorem d_D_region_34 : decode u_D_region.2.1 34 = .ok (.aload_n 0, 1) := by decide +kernel
theorem d_D_region_35 : decode u_D_region.2.1 35 = .ok (.getfield 15, 3) := by decide +kernel
theorem d_D_region_38 : decode u_D_region.2.1 38 = .ok (.iload_n 1, 1) := by decide +kernel
theorem d_D_region_39 : decode u_D_region.2.1 39 = .ok (.aaload, 1) := by decide +kernel
theorem d_D_region_40 : decode u_D_region.2.1 40 = .ok (.iload_n 2, 1) := by decide +kernel
theorem d_D_region_41 : decode u_D_region.2.1 41 = .ok (.putfield 46, 3) := by decide +kernel
theorem d_D_region_44 : decode u_D_region.2.1 44 = .ok (.aload_n 0, 1) := by decide +kernel
theorem d_D_region_45 : decode u_D_region.2.1 45 = .ok (.getfield 15, 3) := by decide +kernel
theorem d_D_region_48 : decode u_D_region.2.1 48 = .ok (.iload_n 1, 1) := by decide +kernel
theorem d_D_region_49 : decode u_D_region.2.1 49 = .ok (.aaload, 1) := by decide +kernel
theorem d_D_region_50 : decode u_D_region.2.1 50 = .ok (.iload_n 3, 1) := by decide +kernel
theorem d_D_region_51 : decode u_D_region.2.1 51 = .ok (.putfield 49, 3) := by decide +kernel
theorem d_D_region_54 : decode u_D_region.2.1 54 = .ok (.aload_n 0, 1) := by decide +kernel
theorem d_D_region_55 : decode u_D_region.2.1 55 = .ok (.iconst 0, 1) := by decide +kernel
theorem d_D_region_56 : decode u_D_region.2.1 56 = .ok (.putfield 38, 3) := by decide +kernel
theorem d_D_region_59 : decode u_D_region.2.1 59 = .ok (.iconst 1, 1) := by decide +kernel
theorem d_D_region_60 : decode u_D_region.2.1 60 = .ok (.ireturn, 1) := by decide +kernel
theorem d_D_window_0 : decode u_D_window.2.1 0 = .ok (.iload_n 1, 1) := by decide +kernel
theorem d_D_window_1 : decode u_D_window.2.1 1 = .ok (.invokestatic 42, 3) := by decide +kernel
theorem d_D_window_4 : decode u_D_window.2.1 4 = .ok (.ifCond .eq 24, 3) := by decide +kernel
theorem d_D_window_7 : decode u_D_window.2.1 7 = .ok (.iload_n 2, 1) := by decide +kernel
theorem d_D_window_8 : decode u_D_window.2.1 8 = .ok (.iconst 1, 1) := by decide +kernel
theorem d_D_window_9 : decode u_D_window.2.1 9 = .ok (.if_icmp .lt 19, 3) := by decide +kernel
theorem d_D_window_12 : decode u_D_window.2.1 12 = .ok (.iload_n 2, 1) := by decide +kernel
theorem d_D_window_13 : decode u_D_window.2.1 13 = .ok (.bipush 9, 2) := by decide +kernel
theorem d_D_window_15 : decode u_D_window.2.1 15 = .ok (.if_icmp .gt 13, 3) := by decide +kernel
theorem d_D_window_18 : decode u_D_window.2.1 18 = .ok (.aload_n 0, 1) := by decide +kernel
theorem d_D_window_19 : decode u_D_window.2.1 19 = .ok (.getfield 30, 3) := by decide +kernel
theorem d_D_window_22 : decode u_D_window.2.1 22 = .ok (.invokevirtual 52, 3) := by decide +kernel
theorem d_D_window_25 : decode u_D_window.2.1 25 = .ok (.ifCond .eq 5, 3) := by decide +kernel
theorem d_D_window_28 : decode u_D_window.2.1 28 = .ok (.iconst 0, 1) := by decide +kernel
theorem d_D_window_29 : decode u_D_window.2.1 29 = .ok (.ireturn, 1) := by decide +kernel
theorem d_D_window_30 : decode u_D_window.2.1 30 = .ok (.aload_n 0, 1) := by decide +kernel
theorem d_D_window_31 : decode u_D_window.2.1 31 = .ok (.getfield 30, 3) := by decide +kernel
theorem d_D_window_34 : decode u_D_window.2.1 34 = .ok (.iload_n 1, 1) := by decide +kernel
theorem d_D_window_35 : decode u_D_window.2.1 35 = .ok (.iload_n 2, 1) := by decide +kernel
theorem d_D_window_36 : decode u_D_window.2.1 36 = .ok (.invokevirtual 56, 3) := by decide +kernel
theorem d_D_window_39 : decode u_D_window.2.1 39 = .ok (.aload_n 0, 1) := by decide +kernel
theorem d_D_window_40 : decode u_D_window.2.1 40 = .ok (.iconst 0, 1) := by decide +kernel
theorem d_D_window_41 : decode u_D_window.2.1 41 = .ok (.putfield 38, 3) := by decide +kernel
theorem d_D_window_44 : decode u_D_window.2.1 44 = .ok (.iconst 1, 1) := by decide +kernel
theorem d_D_window_45 : decode u_D_window.2.1 45 = .ok (.ireturn, 1) := by decide +kernel
theorem d_D_port_0 : decode u_D_port.2.1 0 = .ok (.iload_n 1, 1) := by decide +kernel
theorem d_D_port_1 : decode u_D_port.2.1 1 = .ok (.invokestatic 42, 3) := by decide +kernel
theorem d_D_port_4 : decode u_D_port.2.1 4 = .ok (.ifCond .eq 15, 3) := by decide +kernel
theorem d_D_port_7 : decode u_D_port.2.1 7 = .ok (.iload_n 2, 1) := by decide +kernel
theorem d_D_port_8 : decode u_D_port.2.1 8 = .ok (.invokestatic 42, 3) := by decide +kernel
theorem d_D_port_11 : decode u_D_port.2.1 11 = .ok (.ifCond .eq 8, 3) := by decide +kernel
theorem d_D_port_14 : decode u_D_port.2.1 14 = .ok (.iload_n 1, 1) := by decide +kernel
theorem d_D_port_15 : decode u_D_port.2.1 15 = .ok (.iload_n 2, 1) := by decide +kernel
theorem d_D_port_16 : decode u_D_port.2.1 16 = .ok (.if_icmp .ne 5, 3) := by decide +kernel
theorem d_D_port_19 : decode u_D_port.2.1 19 = .ok (.iconst (-1), 1) := by decide +kernel
theorem d_D_port_20 : decode u_D_port.2.1 20 = .ok (.ireturn, 1) := by decide +kernel
theorem d_D_port_21 : decode u_D_port.2.1 21 = .ok (.iload_n 3, 1) := by decide +kernel
theorem d_D_port_22 : decode u_D_port.2.1 22 = .ok (.ifCond .lt 17, 3) := by decide +kernel
theorem d_D_port_25 : decode u_D_port.2.1 25 = .ok (.iload_n 3, 1) := by decide +kernel
theorem d_D_port_26 : decode u_D_port.2.1 26 = .ok (.iconst 4, 1) := by decide +kernel
theorem d_D_port_27 : decode u_D_port.2.1 27 = .ok (.if_icmp .gt 12, 3) := by decide +kernel
theorem d_D_port_30 : decode u_D_port.2.1 30 = .ok (.aload_n 0, 1) := by decide +kernel
theorem d_D_port_31 : decode u_D_port.2.1 31 = .ok (.getfield 34, 3) := by decide +kernel
theorem d_D_port_34 : decode u_D_port.2.1 34 = .ok (.bipush 6, 2) := by decide +kernel
theorem d_D_port_36 : decode u_D_port.2.1 36 = .ok (.if_icmp .lt 5, 3) := by decide +kernel
theorem d_D_port_39 : decode u_D_port.2.1 39 = .ok (.iconst (-1), 1) := by decide +kernel
theorem d_D_port_40 : decode u_D_port.2.1 40 = .ok (.ireturn, 1) := by decide +kernel
theorem d_D_port_41 : decode u_D_port.2.1 41 = .ok (.aload_n 0, 1) := by decide +kernel
theorem d_D_port_42 : decode u_D_port.2.1 42 = .ok (.getfield 34, 3) := by decide +kernel
theorem d_D_port_45 : decode u_D_port.2.1 45 = .ok (.istore 4, 2) := by decide +kernel
theorem d_D_port_47 : decode u_D_port.2.1 47 = .ok (.aload_n 0, 1) := by decide +kernel
theorem d_D_port_48 : decode u_D_port.2.1 48 = .ok (.getfield 22, 3) := by decide +kernel
theorem d_D_port_51 : decode u_D_port.2.1 51 = .ok (.iload 4, 2) := by decide +kernel
theorem d_D_port_53 : decode u_D_port.2.1 53 = .ok (.aaload, 1) := by decide +kernel
theorem d_D_port_54 : decode u_D_port.2.1 54 = .ok (.iload_n 1, 1) := by decide +kernel
theorem d_D_port_55 : decode u_D_port.2.1 55 = .ok (.putfield 60, 3) := by decide +kernel
theorem d_D_port_58 : decode u_D_port.2.1 58 = .ok (.aload_n 0, 1) := by decide +kernel
theorem d_D_port_59 : decode u_D_port.2.1 59 = .ok (.getfield 22, 3) := by decide +kernel
theorem d_D_port_62 : decode u_D_port.2.1 62 = .ok (.iload 4, 2) := by decide +kernel
theorem d_D_port_64 : decode u_D_port.2.1 64 = .ok (.aaload, 1) := by decide +kernel
theorem d_D_port_65 : decode u_D_port.2.1 65 = .ok (.iload_n 2, 1) := by decide +kernel
theorem d_D_port_66 : decode u_D_port.2.1 66 = .ok (.putfield 61, 3) := by decide +kernel
theorem d_D_port_69 : decode u_D_port.2.1 69 = .ok (.aload_n 0, 1) := by decide +kernel
theorem d_D_port_70 : decode u_D_port.2.1 70 = .ok (.getfield 22, 3) := by decide +kernel
theorem d_D_port_73 : decode u_D_port.2.1 73 = .ok (.iload 4, 2) := by decide +kernel
theorem d_D_port_75 : decode u_D_port.2.1 75 = .ok (.aaload, 1) := by decide +kernel
theorem d_D_port_76 : decode u_D_port.2.1 76 = .ok (.iload_n 3, 1) := by decide +kernel
theorem d_D_port_77 : decode u_D_port.2.1 77 = .ok (.putfield 64, 3) := by decide +kernel
theorem d_D_port_80 : decode u_D_port.2.1 80 = .ok (.aload_n 0, 1) := by decide +kernel
theorem d_D_port_81 : decode u_D_port.2.1 81 = .ok (.dup, 1) := by decide +kernel
theorem d_D_port_82 : decode u_D_port.2.1 82 = .ok (.getfield 34, 3) := by decide +kernel
theorem d_D_port_85 : decode u_D_port.2.1 85 = .ok (.iconst 1, 1) := by decide +kernel
theorem d_D_port_86 : decode u_D_port.2.1 86 = .ok (.iadd, 1) := by decide +kernel
theorem d_D_port_87 : decode u_D_port.2.1 87 = .ok (.putfield 34, 3) := by decide +kernel
theorem d_D_port_90 : decode u_D_port.2.1 90 = .ok (.aload_n 0, 1) := by decide +kernel
theorem d_D_port_91 : decode u_D_port.2.1 91 = .ok (.iconst 0, 1) := by decide +kernel
theorem d_D_port_92 : decode u_D_port.2.1 92 = .ok (.putfield 38, 3) := by decide +kernel
theorem d_D_port_95 : decode u_D_port.2.1 95 = .ok (.iload 4, 2) := by decide +kernel
theorem d_D_port_97 : decode u_D_port.2.1 97 = .ok (.ireturn, 1) := by decide +kernel
theorem d_D_action_0 : decode u_D_action.2.1 0 = .ok (.iload_n 1, 1) := by decide +kernel
theorem d_D_action_1 : decode u_D_action.2.1 1 = .ok (.invokestatic 42, 3) := by decide +kernel
theorem d_D_action_4 : decode u_D_action.2.1 4 = .ok (.ifCond .eq 22, 3) := by decide +kernel
theorem d_D_action_7 : decode u_D_action.2.1 7 = .ok (.iload_n 2, 1) := by decide +kernel
theorem d_D_action_8 : decode u_D_action.2.1 8 = .ok (.iconst 1, 1) := by decide +kernel
theorem d_D_action_9 : decode u_D_action.2.1 9 = .ok (.if_icmp .lt 17, 3) := by decide +kernel
theorem d_D_action_12 : decode u_D_action.2.1 12 = .ok (.iload_n 2, 1) := by decide +kernel
theorem d_D_action_13 : decode u_D_action.2.1 13 = .ok (.iconst 4, 1) := by decide +kernel
theorem d_D_action_14 : decode u_D_action.2.1 14 = .ok (.if_icmp .gt 12, 3) := by decide +kernel
theorem d_D_action_17 : decode u_D_action.2.1 17 = .ok (.iload_n 3, 1) := by decide +kernel
theorem d_D_action_18 : decode u_D_action.2.1 18 = .ok (.ifCond .lt 8, 3) := by decide +kernel
theorem d_D_action_21 : decode u_D_action.2.1 21 = .ok (.iload_n 3, 1) := by decide +kernel
theorem d_D_action_22 : decode u_D_action.2.1 22 = .ok (.iconst 2, 1) := by decide +kernel
theorem d_D_action_23 : decode u_D_action.2.1 23 = .ok (.if_icmp .le 5, 3) := by decide +kernel
theorem d_D_action_26 : decode u_D_action.2.1 26 = .ok (.iconst 0, 1) := by decide +kernel
theorem d_D_action_27 : decode u_D_action.2.1 27 = .ok (.ireturn, 1) := by decide +kernel
theorem d_D_action_28 : decode u_D_action.2.1 28 = .ok (.aload_n 0, 1) := by decide +kernel
theorem d_D_action_29 : decode u_D_action.2.1 29 = .ok (.getfield 15, 3) := by decide +kernel
theorem d_D_action_32 : decode u_D_action.2.1 32 = .ok (.iload_n 1, 1) := by decide +kernel
theorem d_D_action_33 : decode u_D_action.2.1 33 = .ok (.aaload, 1) := by decide +kernel
theorem d_D_action_34 : decode u_D_action.2.1 34 = .ok (.getfield 67, 3) := by decide +kernel
theorem d_D_action_37 : decode u_D_action.2.1 37 = .ok (.iload_n 2, 1) := by decide +kernel
theorem d_D_action_38 : decode u_D_action.2.1 38 = .ok (.iconst 1, 1) := by decide +kernel
theorem d_D_action_39 : decode u_D_action.2.1 39 = .ok (.isub, 1) := by decide +kernel
theorem d_D_action_40 : decode u_D_action.2.1 40 = .ok (.iload_n 3, 1) := by decide +kernel
theorem d_D_action_41 : decode u_D_action.2.1 41 = .ok (.iastore, 1) := by decide +kernel
theorem d_D_action_42 : decode u_D_action.2.1 42 = .ok (.aload_n 0, 1) := by decide +kernel
theorem d_D_action_43 : decode u_D_action.2.1 43 = .ok (.iconst 0, 1) := by decide +kernel
theorem d_D_action_44 : decode u_D_action.2.1 44 = .ok (.putfield 38, 3) := by decide +kernel
theorem d_D_action_47 : decode u_D_action.2.1 47 = .ok (.iconst 1, 1) := by decide +kernel
theorem d_D_action_48 : decode u_D_action.2.1 48 = .ok (.ireturn, 1) := by decide +kernel
theorem d_D_code_0 : decode u_D_code.2.1 0 = .ok (.iload_n 1, 1) := by decide +kernel
theorem d_D_code_1 : decode u_D_code.2.1 1 = .ok (.invokestatic 42, 3) := by decide +kernel
theorem d_D_code_4 : decode u_D_code.2.1 4 = .ok (.ifCond .eq 13, 3) := by decide +kernel
theorem d_D_code_7 : decode u_D_code.2.1 7 = .ok (.iload_n 2, 1) := by decide +kernel
theorem d_D_code_8 : decode u_D_code.2.1 8 = .ok (.ifCond .lt 9, 3) := by decide +kernel
theorem d_D_code_11 : decode u_D_code.2.1 11 = .ok (.iload_n 2, 1) := by decide +kernel
theorem d_D_code_12 : decode u_D_code.2.1 12 = .ok (.bipush 16, 2) := by decide +kernel
theorem d_D_code_14 : decode u_D_code.2.1 14 = .ok (.if_icmp .lt 5, 3) := by decide +kernel
theorem d_D_code_17 : decode u_D_code.2.1 17 = .ok (.iconst 0, 1) := by decide +kernel
theorem d_D_code_18 : decode u_D_code.2.1 18 = .ok (.ireturn, 1) := by decide +kernel
theorem d_D_code_19 : decode u_D_code.2.1 19 = .ok (.aload_n 0, 1) := by decide +kernel
theorem d_D_code_20 : decode u_D_code.2.1 20 = .ok (.getfield 15, 3) := by decide +kernel
theorem d_D_code_23 : decode u_D_code.2.1 23 = .ok (.iload_n 1, 1) := by decide +kernel
theorem d_D_code_24 : decode u_D_code.2.1 24 = .ok (.aaload, 1) := by decide +kernel
theorem d_D_code_25 : decode u_D_code.2.1 25 = .ok (.getfield 70, 3) := by decide +kernel
theorem d_D_code_28 : decode u_D_code.2.1 28 = .ok (.iload_n 2, 1) := by decide +kernel
theorem d_D_code_29 : decode u_D_code.2.1 29 = .ok (.iload_n 3, 1) := by decide +kernel
theorem d_D_code_30 : decode u_D_code.2.1 30 = .ok (.iastore, 1) := by decide +kernel
theorem d_D_code_31 : decode u_D_code.2.1 31 = .ok (.aload_n 0, 1) := by decide +kernel
theorem d_D_code_32 : decode u_D_code.2.1 32 = .ok (.getfield 15, 3) := by decide +kernel
theorem d_D_code_35 : decode u_D_code.2.1 35 = .ok (.iload_n 1, 1) := by decide +kernel
theorem d_D_code_36 : decode u_D_code.2.1 36 = .ok (.aaload, 1) := by decide +kernel
theorem d_D_code_37 : decode u_D_code.2.1 37 = .ok (.getfield 73, 3) := by decide +kernel
theorem d_D_code_40 : decode u_D_code.2.1 40 = .ok (.iload_n 2, 1) := by decide +kernel
theorem d_D_code_41 : decode u_D_code.2.1 41 = .ok (.iload 4, 2) := by decide +kernel
theorem d_D_code_43 : decode u_D_code.2.1 43 = .ok (.iastore, 1) := by decide +kernel
theorem d_D_code_44 : decode u_D_code.2.1 44 = .ok (.aload_n 0, 1) := by decide +kernel
theorem d_D_code_45 : decode u_D_code.2.1 45 = .ok (.getfield 15, 3) := by decide +kernel
theorem d_D_code_48 : decode u_D_code.2.1 48 = .ok (.iload_n 1, 1) := by decide +kernel
theorem d_D_code_49 : decode u_D_code.2.1 49 = .ok (.aaload, 1) := by decide +kernel
theorem d_D_code_50 : decode u_D_code.2.1 50 = .ok (.getfield 76, 3) := by decide +kernel
theorem d_D_code_53 : decode u_D_code.2.1 53 = .ok (.iload_n 2, 1) := by decide +kernel
theorem d_D_code_54 : decode u_D_code.2.1 54 = .ok (.iload 5, 2) := by decide +kernel
theorem d_D_code_56 : decode u_D_code.2.1 56 = .ok (.iastore, 1) := by decide +kernel
theorem d_D_code_57 : decode u_D_code.2.1 57 = .ok (.aload_n 0, 1) := by decide +kernel
theorem d_D_code_58 : decode u_D_code.2.1 58 = .ok (.iconst 0, 1) := by decide +kernel
theorem d_D_code_59 : decode u_D_code.2.1 59 = .ok (.putfield 38, 3) := by decide +kernel
theorem d_D_code_62 : decode u_D_code.2.1 62 = .ok (.iconst 1, 1) := by decide +kernel
theorem d_D_code_63 : decode u_D_code.2.1 63 = .ok (.ireturn, 1) := by decide +kernel
theorem d_D_start_0 : decode u_D_start.2.1 0 = .ok (.aload_n 0, 1) := by decide +kernel
theorem d_D_start_1 : decode u_D_start.2.1 1 = .ok (.invokevirtual 79, 3) := by decide +kernel
theorem d_D_start_4 : decode u_D_start.2.1 4 = .ok (.istore_n 1, 1) := by decide +kernel
theorem d_D_start_5 : decode u_D_start.2.1 5 = .ok (.iload_n 1, 1) := by decide +kernel
theorem d_D_start_6 : decode u_D_start.2.1 6 = .ok (.ifCond .ne 7, 3) := by decide +kernel
theorem d_D_start_9 : decode u_D_start.2.1 9 = .ok (.aload_n 0, 1) := by decide +kernel
theorem d_D_start_10 : decode u_D_start.2.1 10 = .ok (.invokevirtual 83, 3) := by decide +kernel
theorem d_D_start_13 : decode u_D_start.2.1 13 = .ok (.iload_n 1, 1) := by decide +kernel
theorem d_D_start_14 : decode u_D_start.2.1 14 = .ok (.ireturn, 1) := by decide +kernel
theorem d_D_input_0 : decode u_D_input.2.1 0 = .ok (.iload_n 1, 1) := by decide +kernel
theorem d_D_input_1 : decode u_D_input.2.1 1 = .ok (.invokestatic 42, 3) := by decide +kernel
theorem d_D_input_4 : decode u_D_input.2.1 4 = .ok (.ifCond .ne 5, 3) := by decide +kernel
theorem d_D_input_7 : decode u_D_input.2.1 7 = .ok (.iconst (-1), 1) := by decide +kernel
theorem d_D_input_8 : decode u_D_input.2.1 8 = .ok (.ireturn, 1) := by decide +kernel
theorem d_D_input_9 : decode u_D_input.2.1 9 = .ok (.aload_n 0, 1) := by decide +kernel
theorem d_D_input_10 : decode u_D_input.2.1 10 = .ok (.getfield 15, 3) := by decide +kernel
theorem d_D_input_13 : decode u_D_input.2.1 13 = .ok (.iload_n 1, 1) := by decide +kernel
theorem d_D_input_14 : decode u_D_input.2.1 14 = .ok (.aaload, 1) := by decide +kernel
theorem d_D_input_15 : decode u_D_input.2.1 15 = .ok (.getfield 86, 3) := by decide +kernel
theorem d_D_input_18 : decode u_D_input.2.1 18 = .ok (.astore_n 3, 1) := by decide +kernel
theorem d_D_input_19 : decode u_D_input.2.1 19 = .ok (.aload_n 3, 1) := by decide +kernel
theorem d_D_input_20 : decode u_D_input.2.1 20 = .ok (.iload_n 2, 1) := by decide +kernel
theorem d_D_input_21 : decode u_D_input.2.1 21 = .ok (.bipush 8, 2) := by decide +kernel
theorem d_D_input_23 : decode u_D_input.2.1 23 = .ok (.invokevirtual 90, 3) := by decide +kernel
theorem d_D_input_26 : decode u_D_input.2.1 26 = .ok (.ifCond .eq 10, 3) := by decide +kernel
theorem d_D_input_29 : decode u_D_input.2.1 29 = .ok (.aload_n 3, 1) := by decide +kernel
theorem d_D_input_30 : decode u_D_input.2.1 30 = .ok (.getfield 96, 3) := by decide +kernel
theorem d_D_input_33 : decode u_D_input.2.1 33 = .ok (.goto 4, 3) := by decide +kernel
theorem d_D_input_36 : decode u_D_input.2.1 36 = .ok (.iconst (-1), 1) := by decide +kernel
theorem d_D_input_37 : decode u_D_input.2.1 37 = .ok (.ireturn, 1) := by decide +kernel
theorem d_D_run_0 : decode u_D_run.2.1 0 = .ok (.aload_n 0, 1) := by decide +kernel
theorem d_D_run_1 : decode u_D_run.2.1 1 = .ok (.getfield 38, 3) := by decide +kernel
theorem d_D_run_4 : decode u_D_run.2.1 4 = .ok (.ifCond .eq 14, 3) := by decide +kernel
theorem d_D_run_7 : decode u_D_run.2.1 7 = .ok (.iload_n 1, 1) := by decide +kernel
theorem d_D_run_8 : decode u_D_run.2.1 8 = .ok (.ifCond .lt 10, 3) := by decide +kernel
theorem d_D_run_11 : decode u_D_run.2.1 11 = .ok (.iload_n 1, 1) := by decide +kernel
theorem d_D_run_12 : decode u_D_run.2.1 12 = .ok (.sipush 200, 3) := by decide +kernel
theorem d_D_run_15 : decode u_D_run.2.1 15 = .ok (.if_icmp .le 5, 3) := by decide +kernel
theorem d_D_run_18 : decode u_D_run.2.1 18 = .ok (.iconst (-1), 1) := by decide +kernel
theorem d_D_run_19 : decode u_D_run.2.1 19 = .ok (.ireturn, 1) := by decide +kernel
theorem d_D_run_20 : decode u_D_run.2.1 20 = .ok (.iconst 0, 1) := by decide +kernel
theorem d_D_run_21 : decode u_D_run.2.1 21 = .ok (.istore_n 2, 1) := by decide +kernel
theorem d_D_run_22 : decode u_D_run.2.1 22 = .ok (.iconst 0, 1) := by decide +kernel
theorem d_D_run_23 : decode u_D_run.2.1 23 = .ok (.istore_n 3, 1) := by decide +kernel
theorem d_D_run_24 : decode u_D_run.2.1 24 = .ok (.iload_n 3, 1) := by decide +kernel
theorem d_D_run_25 : decode u_D_run.2.1 25 = .ok (.iload_n 1, 1) := by decide +kernel
theorem d_D_run_26 : decode u_D_run.2.1 26 = .ok (.if_icmp .ge 19, 3) := by decide +kernel
theorem d_D_run_29 : decode u_D_run.2.1 29 = .ok (.aload_n 0, 1) := by decide +kernel
theorem d_D_run_30 : decode u_D_run.2.1 30 = .ok (.invokevirtual 99, 3) := by decide +kernel
theorem d_D_run_33 : decode u_D_run.2.1 33 = .ok (.ifCond .eq 6, 3) := by decide +kernel
theorem d_D_run_36 : decode u_D_run.2.1 36 = .ok (.iinc 2 1, 3) := by decide +kernel
theorem d_D_run_39 : decode u_D_run.2.1 39 = .ok (.iinc 3 1, 3) := by decide +kernel
theorem d_D_run_42 : decode u_D_run.2.1 42 = .ok (.goto (-18), 3) := by decide +kernel
theorem d_D_run_45 : decode u_D_run.2.1 45 = .ok (.iload_n 2, 1) := by decide +kernel
theorem d_D_run_46 : decode u_D_run.2.1 46 = .ok (.ireturn, 1) := by decide +kernel
theorem d_D_output_0 : decode u_D_output.2.1 0 = .ok (.iload_n 1, 1) := by decide +kernel
theorem d_D_output_1 : decode u_D_output.2.1 1 = .ok (.invokestatic 42, 3) := by decide +kernel
theorem d_D_output_4 : decode u_D_output.2.1 4 = .ok (.ifCond .eq 16, 3) := by decide +kernel
theorem d_D_output_7 : decode u_D_output.2.1 7 = .ok (.aload_n 0, 1) := by decide +kernel
theorem d_D_output_8 : decode u_D_output.2.1 8 = .ok (.getfield 15, 3) := by decide +kernel
theorem d_D_output_11 : decode u_D_output.2.1 11 = .ok (.iload_n 1, 1) := by decide +kernel
theorem d_D_output_12 : decode u_D_output.2.1 12 = .ok (.aaload, 1) := by decide +kernel
theorem d_D_output_13 : decode u_D_output.2.1 13 = .ok (.iload_n 2, 1) := by decide +kernel
theorem d_D_output_14 : decode u_D_output.2.1 14 = .ok (.invokevirtual 102, 3) := by decide +kernel
theorem d_D_output_17 : decode u_D_output.2.1 17 = .ok (.goto 4, 3) := by decide +kernel
theorem d_D_output_20 : decode u_D_output.2.1 20 = .ok (.iconst 0, 1) := by decide +kernel
theorem d_D_output_21 : decode u_D_output.2.1 21 = .ok (.ireturn, 1) := by decide +kernel
theorem d_D_about_0 : decode u_D_about.2.1 0 = .ok (.iload_n 1, 1) := by decide +kernel
theorem d_D_about_1 : decode u_D_about.2.1 1 = .ok (.invokestatic 42, 3) := by decide +kernel
theorem d_D_about_4 : decode u_D_about.2.1 4 = .ok (.ifCond .eq 16, 3) := by decide +kernel
theorem d_D_about_7 : decode u_D_about.2.1 7 = .ok (.aload_n 0, 1) := by decide +kernel
theorem d_D_about_8 : decode u_D_about.2.1 8 = .ok (.getfield 15, 3) := by decide +kernel
theorem d_D_about_11 : decode u_D_about.2.1 11 = .ok (.iload_n 1, 1) := by decide +kernel
theorem d_D_about_12 : decode u_D_about.2.1 12 = .ok (.aaload, 1) := by decide +kernel
theorem d_D_about_13 : decode u_D_about.2.1 13 = .ok (.iload_n 2, 1) := by decide +kernel
theorem d_D_about_14 : decode u_D_about.2.1 14 = .ok (.invokevirtual 106, 3) := by decide +kernel
theorem d_D_about_17 : decode u_D_about.2.1 17 = .ok (.goto 4, 3) := by decide +kernel
theorem d_D_about_20 : decode u_D_about.2.1 20 = .ok (.iconst (-1), 1) := by decide +kernel
theorem d_D_about_21 : decode u_D_about.2.1 21 = .ok (.ireturn, 1) := by decide +kernel
theorem d_D_word_0 : decode u_D_word.2.1 0 = .ok (.iload_n 1, 1) := by decide +kernel
theorem d_D_word_1 : decode u_D_word.2.1 1 = .ok (.ifCond .lt 18, 3) := by decide +kernel
theorem d_D_word_4 : decode u_D_word.2.1 4 = .ok (.iload_n 1, 1) := by decide +kernel
theorem d_D_word_5 : decode u_D_word.2.1 5 = .ok (.bipush 64, 2) := by decide +kernel
theorem d_D_word_7 : decode u_D_word.2.1 7 = .ok (.if_icmp .ge 12, 3) := by decide +kernel
theorem d_D_word_10 : decode u_D_word.2.1 10 = .ok (.aload_n 0, 1) := by decide +kernel
theorem d_D_word_11 : decode u_D_word.2.1 11 = .ok (.getfield 9, 3) := by decide +kernel
theorem d_D_word_14 : decode u_D_word.2.1 14 = .ok (.iload_n 1, 1) := by decide +kernel
theorem d_D_word_15 : decode u_D_word.2.1 15 = .ok (.iaload, 1) := by decide +kernel
theorem d_D_word_16 : decode u_D_word.2.1 16 = .ok (.goto 4, 3) := by decide +kernel
theorem d_D_word_19 : decode u_D_word.2.1 19 = .ok (.iconst 0, 1) := by decide +kernel
theorem d_D_word_20 : decode u_D_word.2.1 20 = .ok (.ireturn, 1) := by decide +kernel
theorem d_D_waiting_0 : decode u_D_waiting.2.1 0 = .ok (.aload_n 0, 1) := by decide +kernel
theorem d_D_waiting_1 : decode u_D_waiting.2.1 1 = .ok (.iload_n 1, 1) := by decide +kernel
theorem d_D_waiting_2 : decode u_D_waiting.2.1 2 = .ok (.invokevirtual 109, 3) := by decide +kernel
theorem d_D_waiting_5 : decode u_D_waiting.2.1 5 = .ok (.ifCond .eq 18, 3) := by decide +kernel
theorem d_D_waiting_8 : decode u_D_waiting.2.1 8 = .ok (.aload_n 0, 1) := by decide +kernel
theorem d_D_waiting_9 : decode u_D_waiting.2.1 9 = .ok (.getfield 22, 3) := by decide +kernel
theorem d_D_waiting_12 : decode u_D_waiting.2.1 12 = .ok (.iload_n 1, 1) := by decide +kernel
theorem d_D_waiting_13 : decode u_D_waiting.2.1 13 = .ok (.aaload, 1) := by decide +kernel
theorem d_D_waiting_14 : decode u_D_waiting.2.1 14 = .ok (.getfield 112, 3) := by decide +kernel
theorem d_D_waiting_17 : decode u_D_waiting.2.1 17 = .ok (.getfield 96, 3) := by decide +kernel
theorem d_D_waiting_20 : decode u_D_waiting.2.1 20 = .ok (.goto 4, 3) := by decide +kernel
theorem d_D_waiting_23 : decode u_D_waiting.2.1 23 = .ok (.iconst (-1), 1) := by decide +kernel
theorem d_D_waiting_24 : decode u_D_waiting.2.1 24 = .ok (.ireturn, 1) := by decide +kernel
theorem d_D_clock_0 : decode u_D_clock.2.1 0 = .ok (.aload_n 0, 1) := by decide +kernel
theorem d_D_clock_1 : decode u_D_clock.2.1 1 = .ok (.getfield 38, 3) := by decide +kernel
theorem d_D_clock_4 : decode u_D_clock.2.1 4 = .ok (.ifCond .eq 14, 3) := by decide +kernel
theorem d_D_clock_7 : decode u_D_clock.2.1 7 = .ok (.aload_n 0, 1) := by decide +kernel
theorem d_D_clock_8 : decode u_D_clock.2.1 8 = .ok (.getfield 30, 3) := by decide +kernel
theorem d_D_clock_11 : decode u_D_clock.2.1 11 = .ok (.iload_n 1, 1) := by decide +kernel
theorem d_D_clock_12 : decode u_D_clock.2.1 12 = .ok (.invokevirtual 115, 3) := by decide +kernel
theorem d_D_clock_15 : decode u_D_clock.2.1 15 = .ok (.goto 4, 3) := by decide +kernel
theorem d_D_clock_18 : decode u_D_clock.2.1 18 = .ok (.iconst (-1), 1) := by decide +kernel
theorem d_D_clock_19 : decode u_D_clock.2.1 19 = .ok (.ireturn, 1) := by decide +kernel
theorem d_D_isPartition_0 : decode u_D_isPartition.2.1 0 = .ok (.iload_n 0, 1) := by decide +kernel
theorem d_D_isPartition_1 : decode u_D_isPartition.2.1 1 = .ok (.ifCond .lt 12, 3) := by decide +kernel
theorem d_D_isPartition_4 : decode u_D_isPartition.2.1 4 = .ok (.iload_n 0, 1) := by decide +kernel
theorem d_D_isPartition_5 : decode u_D_isPartition.2.1 5 = .ok (.iconst 4, 1) := by decide +kernel
theorem d_D_isPartition_6 : decode u_D_isPartition.2.1 6 = .ok (.if_icmp .ge 7, 3) := by decide +kernel
theorem d_D_isPartition_9 : decode u_D_isPartition.2.1 9 = .ok (.iconst 1, 1) := by decide +kernel
theorem d_D_isPartition_10 : decode u_D_isPartition.2.1 10 = .ok (.goto 4, 3) := by decide +kernel
theorem d_D_isPartition_13 : decode u_D_isPartition.2.1 13 = .ok (.iconst 0, 1) := by decide +kernel
theorem d_D_isPartition_14 : decode u_D_isPartition.2.1 14 = .ok (.ireturn, 1) := by decide +kernel
theorem d_D_isPort_0 : decode u_D_isPort.2.1 0 = .ok (.iload_n 1, 1) := by decide +kernel
theorem d_D_isPort_1 : decode u_D_isPort.2.1 1 = .ok (.ifCond .lt 15, 3) := by decide +kernel
theorem d_D_isPort_4 : decode u_D_isPort.2.1 4 = .ok (.iload_n 1, 1) := by decide +kernel
theorem d_D_isPort_5 : decode u_D_isPort.2.1 5 = .ok (.aload_n 0, 1) := by decide +kernel
theorem d_D_isPort_6 : decode u_D_isPort.2.1 6 = .ok (.getfield 34, 3) := by decide +kernel
theorem d_D_isPort_9 : decode u_D_isPort.2.1 9 = .ok (.if_icmp .ge 7, 3) := by decide +kernel
theorem d_D_isPort_12 : decode u_D_isPort.2.1 12 = .ok (.iconst 1, 1) := by decide +kernel
theorem d_D_isPort_13 : decode u_D_isPort.2.1 13 = .ok (.goto 4, 3) := by decide +kernel
theorem d_D_isPort_16 : decode u_D_isPort.2.1 16 = .ok (.iconst 0, 1) := by decide +kernel
theorem d_D_isPort_17 : decode u_D_isPort.2.1 17 = .ok (.ireturn, 1) := by decide +kernel
theorem d_D_checkTable_0 : decode u_D_checkTable.2.1 0 = .ok (.aload_n 0, 1) := by decide +kernel
theorem d_D_checkTable_1 : decode u_D_checkTable.2.1 1 = .ok (.invokevirtual 116, 3) := by decide +kernel
theorem d_D_checkTable_4 : decode u_D_checkTable.2.1 4 = .ok (.ifCond .ne 5, 3) := by decide +kernel
theorem d_D_checkTable_7 : decode u_D_checkTable.2.1 7 = .ok (.iconst 1, 1) := by decide +kernel
theorem d_D_checkTable_8 : decode u_D_checkTable.2.1 8 = .ok (.ireturn, 1) := by decide +kernel
theorem d_D_checkTable_9 : decode u_D_checkTable.2.1 9 = .ok (.aload_n 0, 1) := by decide +kernel
theorem d_D_checkTable_10 : decode u_D_checkTable.2.1 10 = .ok (.invokevirtual 119, 3) := by decide +kernel
theorem d_D_checkTable_13 : decode u_D_checkTable.2.1 13 = .ok (.ifCond .eq 5, 3) := by decide +kernel
theorem d_D_checkTable_16 : decode u_D_checkTable.2.1 16 = .ok (.iconst 2, 1) := by decide +kernel
theorem d_D_checkTable_17 : decode u_D_checkTable.2.1 17 = .ok (.ireturn, 1) := by decide +kernel
theorem d_D_checkTable_18 : decode u_D_checkTable.2.1 18 = .ok (.aload_n 0, 1) := by decide +kernel
theorem d_D_checkTable_19 : decode u_D_checkTable.2.1 19 = .ok (.invokevirtual 122, 3) := by decide +kernel
theorem d_D_checkTable_22 : decode u_D_checkTable.2.1 22 = .ok (.ifCond .ne 5, 3) := by decide +kernel
theorem d_D_checkTable_25 : decode u_D_checkTable.2.1 25 = .ok (.iconst 3, 1) := by decide +kernel
theorem d_D_checkTable_26 : decode u_D_checkTable.2.1 26 = .ok (.ireturn, 1) := by decide +kernel
theorem d_D_checkTable_27 : decode u_D_checkTable.2.1 27 = .ok (.aload_n 0, 1) := by decide +kernel
theorem d_D_checkTable_28 : decode u_D_checkTable.2.1 28 = .ok (.invokevirtual 125, 3) := by decide +kernel
theorem d_D_checkTable_31 : decode u_D_checkTable.2.1 31 = .ok (.ifCond .eq 7, 3) := by decide +kernel
theorem d_D_checkTable_34 : decode u_D_checkTable.2.1 34 = .ok (.iconst 0, 1) := by decide +kernel
theorem d_D_checkTable_35 : decode u_D_checkTable.2.1 35 = .ok (.goto 4, 3) := by decide +kernel
theorem d_D_checkTable_38 : decode u_D_checkTable.2.1 38 = .ok (.iconst 4, 1) := by decide +kernel
theorem d_D_checkTable_39 : decode u_D_checkTable.2.1 39 = .ok (.ireturn, 1) := by decide +kernel
theorem d_D_somebodyTakesPart_0 : decode u_D_somebodyTakesPart.2.1 0 = .ok (.iconst 0, 1) := by decide +kernel
theorem d_D_somebodyTakesPart_1 : decode u_D_somebodyTakesPart.2.1 1 = .ok (.istore_n 1, 1) := by decide +kernel
theorem d_D_somebodyTakesPart_2 : decode u_D_somebodyTakesPart.2.1 2 = .ok (.iload_n 1, 1) := by decide +kernel
theorem d_D_somebodyTakesPart_3 : decode u_D_somebodyTakesPart.2.1 3 = .ok (.iconst 4, 1) := by decide +kernel
theorem d_D_somebodyTakesPart_4 : decode u_D_somebodyTakesPart.2.1 4 = .ok (.if_icmp .ge 23, 3) := by decide +kernel
theorem d_D_somebodyTakesPart_7 : decode u_D_somebodyTakesPart.2.1 7 = .ok (.aload_n 0, 1) := by decide +kernel
theorem d_D_somebodyTakesPart_8 : decode u_D_somebodyTakesPart.2.1 8 = .ok (.getfield 15, 3) := by decide +kernel
theorem d_D_somebodyTakesPart_11 : decode u_D_somebodyTakesPart.2.1 11 = .ok (.iload_n 1, 1) := by decide +kernel
theorem d_D_somebodyTakesPart_12 : decode u_D_somebodyTakesPart.2.1 12 = .ok (.aaload, 1) := by decide +kernel
theorem d_D_somebodyTakesPart_13 : decode u_D_somebodyTakesPart.2.1 13 = .ok (.invokevirtual 128, 3) := by decide +kernel
theorem d_D_somebodyTakesPart_16 : decode u_D_somebodyTakesPart.2.1 16 = .ok (.ifCond .eq 5, 3) := by decide +kernel
theorem d_D_somebodyTakesPart_19 : decode u_D_somebodyTakesPart.2.1 19 = .ok (.iconst 1, 1) := by decide +kernel
theorem d_D_somebodyTakesPart_20 : decode u_D_somebodyTakesPart.2.1 20 = .ok (.ireturn, 1) := by decide +kernel
theorem d_D_somebodyTakesPart_21 : decode u_D_somebodyTakesPart.2.1 21 = .ok (.iinc 1 1, 3) := by decide +kernel
theorem d_D_somebodyTakesPart_24 : decode u_D_somebodyTakesPart.2.1 24 = .ok (.goto (-22), 3) := by decide +kernel
theorem d_D_somebodyTakesPart_27 : decode u_D_somebodyTakesPart.2.1 27 = .ok (.iconst 0, 1) := by decide +kernel
theorem d_D_somebodyTakesPart_28 : decode u_D_somebodyTakesPart.2.1 28 = .ok (.ireturn, 1) := by decide +kernel
theorem d_D_someRegionsOverlap_0 : decode u_D_someRegionsOverlap.2.1 0 = .ok (.iconst 0, 1) := by decide +kernel
theorem d_D_someRegionsOverlap_1 : decode u_D_someRegionsOverlap.2.1 1 = .ok (.istore_n 1, 1) := by decide +kernel
theorem d_D_someRegionsOverlap_2 : decode u_D_someRegionsOverlap.2.1 2 = .ok (.iload_n 1, 1) := by decide +kernel
theorem d_D_someRegionsOverlap_3 : decode u_D_someRegionsOverlap.2.1 3 = .ok (.iconst 4, 1) := by decide +kernel
theorem d_D_someRegionsOverlap_4 : decode u_D_someRegionsOverlap.2.1 4 = .ok (.if_icmp .ge 44, 3) := by decide +kernel
theorem d_D_someRegionsOverlap_7 : decode u_D_someRegionsOverlap.2.1 7 = .ok (.iload_n 1, 1) := by decide +kernel
theorem d_D_someRegionsOverlap_8 : decode u_D_someRegionsOverlap.2.1 8 = .ok (.iconst 1, 1) := by decide +kernel
theorem d_D_someRegionsOverlap_9 : decode u_D_someRegionsOverlap.2.1 9 = .ok (.iadd, 1) := by decide +kernel
theorem d_D_someRegionsOverlap_10 : decode u_D_someRegionsOverlap.2.1 10 = .ok (.istore_n 2, 1) := by decide +kernel
theorem d_D_someRegionsOverlap_11 : decode u_D_someRegionsOverlap.2.1 11 = .ok (.iload_n 2, 1) := by decide +kernel
theorem d_D_someRegionsOverlap_12 : decode u_D_someRegionsOverlap.2.1 12 = .ok (.iconst 4, 1) := by decide +kernel
theorem d_D_someRegionsOverlap_13 : decode u_D_someRegionsOverlap.2.1 13 = .ok (.if_icmp .ge 29, 3) := by decide +kernel
theorem d_D_someRegionsOverlap_16 : decode u_D_someRegionsOverlap.2.1 16 = .ok (.aload_n 0, 1) := by decide +kernel
theorem d_D_someRegionsOverlap_17 : decode u_D_someRegionsOverlap.2.1 17 = .ok (.getfield 15, 3) := by decide +kernel
theorem d_D_someRegionsOverlap_20 : decode u_D_someRegionsOverlap.2.1 20 = .ok (.iload_n 1, 1) := by decide +kernel
theorem d_D_someRegionsOverlap_21 : decode u_D_someRegionsOverlap.2.1 21 = .ok (.aaload, 1) := by decide +kernel
theorem d_D_someRegionsOverlap_22 : decode u_D_someRegionsOverlap.2.1 22 = .ok (.aload_n 0, 1) := by decide +kernel
theorem d_D_someRegionsOverlap_23 : decode u_D_someRegionsOverlap.2.1 23 = .ok (.getfield 15, 3) := by decide +kernel
theorem d_D_someRegionsOverlap_26 : decode u_D_someRegionsOverlap.2.1 26 = .ok (.iload_n 2, 1) := by decide +kernel
theorem d_D_someRegionsOverlap_27 : decode u_D_someRegionsOverlap.2.1 27 = .ok (.aaload, 1) := by decide +kernel
theorem d_D_someRegionsOverlap_28 : decode u_D_someRegionsOverlap.2.1 28 = .ok (.invokevirtual 131, 3) := by decide +kernel
theorem d_D_someRegionsOverlap_31 : decode u_D_someRegionsOverlap.2.1 31 = .ok (.ifCond .eq 5, 3) := by decide +kernel
theorem d_D_someRegionsOverlap_34 : decode u_D_someRegionsOverlap.2.1 34 = .ok (.iconst 1, 1) := by decide +kernel
theorem d_D_someRegionsOverlap_35 : decode u_D_someRegionsOverlap.2.1 35 = .ok (.ireturn, 1) := by decide +kernel
theorem d_D_someRegionsOverlap_36 : decode u_D_someRegionsOverlap.2.1 36 = .ok (.iinc 2 1, 3) := by decide +kernel
theorem d_D_someRegionsOverlap_39 : decode u_D_someRegionsOverlap.2.1 39 = .ok (.goto (-28), 3) := by decide +kernel
theorem d_D_someRegionsOverlap_42 : decode u_D_someRegionsOverlap.2.1 42 = .ok (.iinc 1 1, 3) := by decide +kernel
theorem d_D_someRegionsOverlap_45 : decode u_D_someRegionsOverlap.2.1 45 = .ok (.goto (-43), 3) := by decide +kernel
theorem d_D_someRegionsOverlap_48 : decode u_D_someRegionsOverlap.2.1 48 = .ok (.iconst 0, 1) := by decide +kernel
theorem d_D_someRegionsOverlap_49 : decode u_D_someRegionsOverlap.2.1 49 = .ok (.ireturn, 1) := by decide +kernel
theorem d_D_windowsFit_0 : decode u_D_windowsFit.2.1 0 = .ok (.iconst 0, 1) := by decide +kernel
theorem d_D_windowsFit_1 : decode u_D_windowsFit.2.1 1 = .ok (.istore_n 1, 1) := by decide +kernel
theorem d_D_windowsFit_2 : decode u_D_windowsFit.2.1 2 = .ok (.iload_n 1, 1) := by decide +kernel
theorem d_D_windowsFit_3 : decode u_D_windowsFit.2.1 3 = .ok (.iconst 4, 1) := by decide +kernel
theorem d_D_windowsFit_4 : decode u_D_windowsFit.2.1 4 = .ok (.if_icmp .ge 31, 3) := by decide +kernel
theorem d_D_windowsFit_7 : decode u_D_windowsFit.2.1 7 = .ok (.aload_n 0, 1) := by decide +kernel
theorem d_D_windowsFit_8 : decode u_D_windowsFit.2.1 8 = .ok (.getfield 15, 3) := by decide +kernel
theorem d_D_windowsFit_11 : decode u_D_windowsFit.2.1 11 = .ok (.iload_n 1, 1) := by decide +kernel
theorem d_D_windowsFit_12 : decode u_D_windowsFit.2.1 12 = .ok (.aaload, 1) := by decide +kernel
theorem d_D_windowsFit_13 : decode u_D_windowsFit.2.1 13 = .ok (.invokevirtual 128, 3) := by decide +kernel
theorem d_D_windowsFit_16 : decode u_D_windowsFit.2.1 16 = .ok (.aload_n 0, 1) := by decide +kernel
theorem d_D_windowsFit_17 : decode u_D_windowsFit.2.1 17 = .ok (.getfield 30, 3) := by decide +kernel
theorem d_D_windowsFit_20 : decode u_D_windowsFit.2.1 20 = .ok (.iload_n 1, 1) := by decide +kernel
theorem d_D_windowsFit_21 : decode u_D_windowsFit.2.1 21 = .ok (.invokevirtual 135, 3) := by decide +kernel
theorem d_D_windowsFit_24 : decode u_D_windowsFit.2.1 24 = .ok (.if_icmp .eq 5, 3) := by decide +kernel
theorem d_D_windowsFit_27 : decode u_D_windowsFit.2.1 27 = .ok (.iconst 0, 1) := by decide +kernel
theorem d_D_windowsFit_28 : decode u_D_windowsFit.2.1 28 = .ok (.ireturn, 1) := by decide +kernel
theorem d_D_windowsFit_29 : decode u_D_windowsFit.2.1 29 = .ok (.iinc 1 1, 3) := by decide +kernel
theorem d_D_windowsFit_32 : decode u_D_windowsFit.2.1 32 = .ok (.goto (-30), 3) := by decide +kernel
theorem d_D_windowsFit_35 : decode u_D_windowsFit.2.1 35 = .ok (.iconst 1, 1) := by decide +kernel
theorem d_D_windowsFit_36 : decode u_D_windowsFit.2.1 36 = .ok (.ireturn, 1) := by decide +kernel
theorem d_D_portsFit_0 : decode u_D_portsFit.2.1 0 = .ok (.iconst 0, 1) := by decide +kernel
theorem d_D_portsFit_1 : decode u_D_portsFit.2.1 1 = .ok (.istore_n 1, 1) := by decide +kernel
theorem d_D_portsFit_2 : decode u_D_portsFit.2.1 2 = .ok (.iload_n 1, 1) := by decide +kernel
theorem d_D_portsFit_3 : decode u_D_portsFit.2.1 3 = .ok (.aload_n 0, 1) := by decide +kernel
theorem d_D_portsFit_4 : decode u_D_portsFit.2.1 4 = .ok (.getfield 34, 3) := by decide +kernel
theorem d_D_portsFit_7 : decode u_D_portsFit.2.1 7 = .ok (.if_icmp .ge 51, 3) := by decide +kernel
theorem d_D_portsFit_10 : decode u_D_portsFit.2.1 10 = .ok (.aload_n 0, 1) := by decide +kernel
theorem d_D_portsFit_11 : decode u_D_portsFit.2.1 11 = .ok (.getfield 15, 3) := by decide +kernel
theorem d_D_portsFit_14 : decode u_D_portsFit.2.1 14 = .ok (.aload_n 0, 1) := by decide +kernel
theorem d_D_portsFit_15 : decode u_D_portsFit.2.1 15 = .ok (.getfield 22, 3) := by decide +kernel
theorem d_D_portsFit_18 : decode u_D_portsFit.2.1 18 = .ok (.iload_n 1, 1) := by decide +kernel
theorem d_D_portsFit_19 : decode u_D_portsFit.2.1 19 = .ok (.aaload, 1) := by decide +kernel
theorem d_D_portsFit_20 : decode u_D_portsFit.2.1 20 = .ok (.getfield 60, 3) := by decide +kernel
theorem d_D_portsFit_23 : decode u_D_portsFit.2.1 23 = .ok (.aaload, 1) := by decide +kernel
theorem d_D_portsFit_24 : decode u_D_portsFit.2.1 24 = .ok (.invokevirtual 128, 3) := by decide +kernel
theorem d_D_portsFit_27 : decode u_D_portsFit.2.1 27 = .ok (.ifCond .eq 23, 3) := by decide +kernel
theorem d_D_portsFit_30 : decode u_D_portsFit.2.1 30 = .ok (.aload_n 0, 1) := by decide +kernel
theorem d_D_portsFit_31 : decode u_D_portsFit.2.1 31 = .ok (.getfield 15, 3) := by decide +kernel
theorem d_D_portsFit_34 : decode u_D_portsFit.2.1 34 = .ok (.aload_n 0, 1) := by decide +kernel
theorem d_D_portsFit_35 : decode u_D_portsFit.2.1 35 = .ok (.getfield 22, 3) := by decide +kernel
theorem d_D_portsFit_38 : decode u_D_portsFit.2.1 38 = .ok (.iload_n 1, 1) := by decide +kernel
theorem d_D_portsFit_39 : decode u_D_portsFit.2.1 39 = .ok (.aaload, 1) := by decide +kernel
theorem d_D_portsFit_40 : decode u_D_portsFit.2.1 40 = .ok (.getfield 61, 3) := by decide +kernel
theorem d_D_portsFit_43 : decode u_D_portsFit.2.1 43 = .ok (.aaload, 1) := by decide +kernel
theorem d_D_portsFit_44 : decode u_D_portsFit.2.1 44 = .ok (.invokevirtual 128, 3) := by decide +kernel
theorem d_D_portsFit_47 : decode u_D_portsFit.2.1 47 = .ok (.ifCond .ne 5, 3) := by decide +kernel
theorem d_D_portsFit_50 : decode u_D_portsFit.2.1 50 = .ok (.iconst 0, 1) := by decide +kernel
theorem d_D_portsFit_51 : decode u_D_portsFit.2.1 51 = .ok (.ireturn, 1) := by decide +kernel
theorem d_D_portsFit_52 : decode u_D_portsFit.2.1 52 = .ok (.iinc 1 1, 3) := by decide +kernel
theorem d_D_portsFit_55 : decode u_D_portsFit.2.1 55 = .ok (.goto (-53), 3) := by decide +kernel
theorem d_D_portsFit_58 : decode u_D_portsFit.2.1 58 = .ok (.iconst 1, 1) := by decide +kernel
theorem d_D_portsFit_59 : decode u_D_portsFit.2.1 59 = .ok (.ireturn, 1) := by decide +kernel
theorem d_D_beginAnew_0 : decode u_D_beginAnew.2.1 0 = .ok (.iconst 0, 1) := by decide +kernel
theorem d_D_beginAnew_1 : decode u_D_beginAnew.2.1 1 = .ok (.istore_n 1, 1) := by decide +kernel
theorem d_D_beginAnew_2 : decode u_D_beginAnew.2.1 2 = .ok (.iload_n 1, 1) := by decide +kernel
theorem d_D_beginAnew_3 : decode u_D_beginAnew.2.1 3 = .ok (.bipush 64, 2) := by decide +kernel
theorem d_D_beginAnew_5 : decode u_D_beginAnew.2.1 5 = .ok (.if_icmp .ge 16, 3) := by decide +kernel
theorem d_D_beginAnew_8 : decode u_D_beginAnew.2.1 8 = .ok (.aload_n 0, 1) := by decide +kernel
theorem d_D_beginAnew_9 : decode u_D_beginAnew.2.1 9 = .ok (.getfield 9, 3) := by decide +kernel
theorem d_D_beginAnew_12 : decode u_D_beginAnew.2.1 12 = .ok (.iload_n 1, 1) := by decide +kernel
theorem d_D_beginAnew_13 : decode u_D_beginAnew.2.1 13 = .ok (.iconst 0, 1) := by decide +kernel
theorem d_D_beginAnew_14 : decode u_D_beginAnew.2.1 14 = .ok (.iastore, 1) := by decide +kernel
theorem d_D_beginAnew_15 : decode u_D_beginAnew.2.1 15 = .ok (.iinc 1 1, 3) := by decide +kernel
theorem d_D_beginAnew_18 : decode u_D_beginAnew.2.1 18 = .ok (.goto (-16), 3) := by decide +kernel
theorem d_D_beginAnew_21 : decode u_D_beginAnew.2.1 21 = .ok (.iconst 0, 1) := by decide +kernel
theorem d_D_beginAnew_22 : decode u_D_beginAnew.2.1 22 = .ok (.istore_n 1, 1) := by decide +kernel
theorem d_D_beginAnew_23 : decode u_D_beginAnew.2.1 23 = .ok (.iload_n 1, 1) := by decide +kernel
theorem d_D_beginAnew_24 : decode u_D_beginAnew.2.1 24 = .ok (.iconst 4, 1) := by decide +kernel
theorem d_D_beginAnew_25 : decode u_D_beginAnew.2.1 25 = .ok (.if_icmp .ge 18, 3) := by decide +kernel
theorem d_D_beginAnew_28 : decode u_D_beginAnew.2.1 28 = .ok (.aload_n 0, 1) := by decide +kernel
theorem d_D_beginAnew_29 : decode u_D_beginAnew.2.1 29 = .ok (.getfield 15, 3) := by decide +kernel
theorem d_D_beginAnew_32 : decode u_D_beginAnew.2.1 32 = .ok (.iload_n 1, 1) := by decide +kernel
theorem d_D_beginAnew_33 : decode u_D_beginAnew.2.1 33 = .ok (.aaload, 1) := by decide +kernel
theorem d_D_beginAnew_34 : decode u_D_beginAnew.2.1 34 = .ok (.invokevirtual 138, 3) := by decide +kernel
theorem d_D_beginAnew_37 : decode u_D_beginAnew.2.1 37 = .ok (.iinc 1 1, 3) := by decide +kernel
theorem d_D_beginAnew_40 : decode u_D_beginAnew.2.1 40 = .ok (.goto (-17), 3) := by decide +kernel
theorem d_D_beginAnew_43 : decode u_D_beginAnew.2.1 43 = .ok (.iconst 0, 1) := by decide +kernel
theorem d_D_beginAnew_44 : decode u_D_beginAnew.2.1 44 = .ok (.istore_n 1, 1) := by decide +kernel
theorem d_D_beginAnew_45 : decode u_D_beginAnew.2.1 45 = .ok (.iload_n 1, 1) := by decide +kernel
theorem d_D_beginAnew_46 : decode u_D_beginAnew.2.1 46 = .ok (.aload_n 0, 1) := by decide +kernel
theorem d_D_beginAnew_47 : decode u_D_beginAnew.2.1 47 = .ok (.getfield 34, 3) := by decide +kernel
theorem d_D_beginAnew_50 : decode u_D_beginAnew.2.1 50 = .ok (.if_icmp .ge 21, 3) := by decide +kernel
theorem d_D_beginAnew_53 : decode u_D_beginAnew.2.1 53 = .ok (.aload_n 0, 1) := by decide +kernel
theorem d_D_beginAnew_54 : decode u_D_beginAnew.2.1 54 = .ok (.getfield 22, 3) := by decide +kernel
theorem d_D_beginAnew_57 : decode u_D_beginAnew.2.1 57 = .ok (.iload_n 1, 1) := by decide +kernel
theorem d_D_beginAnew_58 : decode u_D_beginAnew.2.1 58 = .ok (.aaload, 1) := by decide +kernel
theorem d_D_beginAnew_59 : decode u_D_beginAnew.2.1 59 = .ok (.getfield 112, 3) := by decide +kernel
theorem d_D_beginAnew_62 : decode u_D_beginAnew.2.1 62 = .ok (.invokevirtual 139, 3) := by decide +kernel
theorem d_D_beginAnew_65 : decode u_D_beginAnew.2.1 65 = .ok (.iinc 1 1, 3) := by decide +kernel
theorem d_D_beginAnew_68 : decode u_D_beginAnew.2.1 68 = .ok (.goto (-23), 3) := by decide +kernel
theorem d_D_beginAnew_71 : decode u_D_beginAnew.2.1 71 = .ok (.aload_n 0, 1) := by decide +kernel
theorem d_D_beginAnew_72 : decode u_D_beginAnew.2.1 72 = .ok (.getfield 30, 3) := by decide +kernel
theorem d_D_beginAnew_75 : decode u_D_beginAnew.2.1 75 = .ok (.invokevirtual 142, 3) := by decide +kernel
theorem d_D_beginAnew_78 : decode u_D_beginAnew.2.1 78 = .ok (.aload_n 0, 1) := by decide +kernel
theorem d_D_beginAnew_79 : decode u_D_beginAnew.2.1 79 = .ok (.iconst 1, 1) := by decide +kernel
theorem d_D_beginAnew_80 : decode u_D_beginAnew.2.1 80 = .ok (.putfield 38, 3) := by decide +kernel
theorem d_D_beginAnew_83 : decode u_D_beginAnew.2.1 83 = .ok (.return_, 1) := by decide +kernel
theorem d_D_passTick_0 : decode u_D_passTick.2.1 0 = .ok (.aload_n 0, 1) := by decide +kernel
theorem d_D_passTick_1 : decode u_D_passTick.2.1 1 = .ok (.getfield 30, 3) := by decide +kernel
theorem d_D_passTick_4 : decode u_D_passTick.2.1 4 = .ok (.invokevirtual 143, 3) := by decide +kernel
theorem d_D_passTick_7 : decode u_D_passTick.2.1 7 = .ok (.istore_n 1, 1) := by decide +kernel
theorem d_D_passTick_8 : decode u_D_passTick.2.1 8 = .ok (.aload_n 0, 1) := by decide +kernel
theorem d_D_passTick_9 : decode u_D_passTick.2.1 9 = .ok (.getfield 15, 3) := by decide +kernel
theorem d_D_passTick_12 : decode u_D_passTick.2.1 12 = .ok (.iload_n 1, 1) := by decide +kernel
theorem d_D_passTick_13 : decode u_D_passTick.2.1 13 = .ok (.aaload, 1) := by decide +kernel
theorem d_D_passTick_14 : decode u_D_passTick.2.1 14 = .ok (.getfield 146, 3) := by decide +kernel
theorem d_D_passTick_17 : decode u_D_passTick.2.1 17 = .ok (.ifCond .eq 17, 3) := by decide +kernel
theorem d_D_passTick_20 : decode u_D_passTick.2.1 20 = .ok (.aload_n 0, 1) := by decide +kernel
theorem d_D_passTick_21 : decode u_D_passTick.2.1 21 = .ok (.getfield 30, 3) := by decide +kernel
theorem d_D_passTick_24 : decode u_D_passTick.2.1 24 = .ok (.getfield 149, 3) := by decide +kernel
theorem d_D_passTick_27 : decode u_D_passTick.2.1 27 = .ok (.ifCond .ne 7, 3) := by decide +kernel
theorem d_D_passTick_30 : decode u_D_passTick.2.1 30 = .ok (.iconst 1, 1) := by decide +kernel
theorem d_D_passTick_31 : decode u_D_passTick.2.1 31 = .ok (.goto 4, 3) := by decide +kernel
theorem d_D_passTick_34 : decode u_D_passTick.2.1 34 = .ok (.iconst 0, 1) := by decide +kernel
theorem d_D_passTick_35 : decode u_D_passTick.2.1 35 = .ok (.istore_n 2, 1) := by decide +kernel
theorem d_D_passTick_36 : decode u_D_passTick.2.1 36 = .ok (.iload_n 2, 1) := by decide +kernel
theorem d_D_passTick_37 : decode u_D_passTick.2.1 37 = .ok (.ifCond .eq 8, 3) := by decide +kernel
theorem d_D_passTick_40 : decode u_D_passTick.2.1 40 = .ok (.aload_n 0, 1) := by decide +kernel
theorem d_D_passTick_41 : decode u_D_passTick.2.1 41 = .ok (.iload_n 1, 1) := by decide +kernel
theorem d_D_passTick_42 : decode u_D_passTick.2.1 42 = .ok (.invokevirtual 152, 3) := by decide +kernel
theorem d_D_passTick_45 : decode u_D_passTick.2.1 45 = .ok (.aload_n 0, 1) := by decide +kernel
theorem d_D_passTick_46 : decode u_D_passTick.2.1 46 = .ok (.getfield 30, 3) := by decide +kernel
theorem d_D_passTick_49 : decode u_D_passTick.2.1 49 = .ok (.invokevirtual 156, 3) := by decide +kernel
theorem d_D_passTick_52 : decode u_D_passTick.2.1 52 = .ok (.iload_n 2, 1) := by decide +kernel
theorem d_D_passTick_53 : decode u_D_passTick.2.1 53 = .ok (.ireturn, 1) := by decide +kernel
theorem d_D_doInstruction_0 : decode u_D_doInstruction.2.1 0 = .ok (.aload_n 0, 1) := by decide +kernel
theorem d_D_doInstruction_1 : decode u_D_doInstruction.2.1 1 = .ok (.getfield 15, 3) := by decide +kernel
theorem d_D_doInstruction_4 : decode u_D_doInstruction.2.1 4 = .ok (.iload_n 1, 1) := by decide +kernel
theorem d_D_doInstruction_5 : decode u_D_doInstruction.2.1 5 = .ok (.aaload, 1) := by decide +kernel
theorem d_D_doInstruction_6 : decode u_D_doInstruction.2.1 6 = .ok (.astore_n 2, 1) := by decide +kernel
theorem d_D_doInstruction_7 : decode u_D_doInstruction.2.1 7 = .ok (.aload_n 2, 1) := by decide +kernel
theorem d_D_doInstruction_8 : decode u_D_doInstruction.2.1 8 = .ok (.getfield 159, 3) := by decide +kernel
theorem d_D_doInstruction_11 : decode u_D_doInstruction.2.1 11 = .ok (.istore_n 3, 1) := by decide +kernel
theorem d_D_doInstruction_12 : decode u_D_doInstruction.2.1 12 = .ok (.iload_n 3, 1) := by decide +kernel
theorem d_D_doInstruction_13 : decode u_D_doInstruction.2.1 13 = .ok (.ifCond .lt 9, 3) := by decide +kernel
theorem d_D_doInstruction_16 : decode u_D_doInstruction.2.1 16 = .ok (.iload_n 3, 1) := by decide +kernel
theorem d_D_doInstruction_17 : decode u_D_doInstruction.2.1 17 = .ok (.bipush 16, 2) := by decide +kernel
theorem d_D_doInstruction_19 : decode u_D_doInstruction.2.1 19 = .ok (.if_icmp .lt 10, 3) := by decide +kernel
theorem d_D_doInstruction_22 : decode u_D_doInstruction.2.1 22 = .ok (.aload_n 0, 1) := by decide +kernel
theorem d_D_doInstruction_23 : decode u_D_doInstruction.2.1 23 = .ok (.iload_n 1, 1) := by decide +kernel
theorem d_D_doInstruction_24 : decode u_D_doInstruction.2.1 24 = .ok (.iconst 4, 1) := by decide +kernel
theorem d_D_doInstruction_25 : decode u_D_doInstruction.2.1 25 = .ok (.invokevirtual 162, 3) := by decide +kernel
theorem d_D_doInstruction_28 : decode u_D_doInstruction.2.1 28 = .ok (.return_, 1) := by decide +kernel
theorem d_D_doInstruction_29 : decode u_D_doInstruction.2.1 29 = .ok (.aload_n 0, 1) := by decide +kernel
theorem d_D_doInstruction_30 : decode u_D_doInstruction.2.1 30 = .ok (.iload_n 1, 1) := by decide +kernel
theorem d_D_doInstruction_31 : decode u_D_doInstruction.2.1 31 = .ok (.aload_n 2, 1) := by decide +kernel
theorem d_D_doInstruction_32 : decode u_D_doInstruction.2.1 32 = .ok (.getfield 70, 3) := by decide +kernel
theorem d_D_doInstruction_35 : decode u_D_doInstruction.2.1 35 = .ok (.iload_n 3, 1) := by decide +kernel
theorem d_D_doInstruction_36 : decode u_D_doInstruction.2.1 36 = .ok (.iaload, 1) := by decide +kernel
theorem d_D_doInstruction_37 : decode u_D_doInstruction.2.1 37 = .ok (.aload_n 2, 1) := by decide +kernel
theorem d_D_doInstruction_38 : decode u_D_doInstruction.2.1 38 = .ok (.getfield 73, 3) := by decide +kernel
theorem d_D_doInstruction_41 : decode u_D_doInstruction.2.1 41 = .ok (.iload_n 3, 1) := by decide +kernel
theorem d_D_doInstruction_42 : decode u_D_doInstruction.2.1 42 = .ok (.iaload, 1) := by decide +kernel
theorem d_D_doInstruction_43 : decode u_D_doInstruction.2.1 43 = .ok (.aload_n 2, 1) := by decide +kernel
theorem d_D_doInstruction_44 : decode u_D_doInstruction.2.1 44 = .ok (.getfield 76, 3) := by decide +kernel
theorem d_D_doInstruction_47 : decode u_D_doInstruction.2.1 47 = .ok (.iload_n 3, 1) := by decide +kernel
theorem d_D_doInstruction_48 : decode u_D_doInstruction.2.1 48 = .ok (.iaload, 1) := by decide +kernel
theorem d_D_doInstruction_49 : decode u_D_doInstruction.2.1 49 = .ok (.invokevirtual 165, 3) := by decide +kernel
theorem d_D_doInstruction_52 : decode u_D_doInstruction.2.1 52 = .ok (.istore 4, 2) := by decide +kernel
theorem d_D_doInstruction_54 : decode u_D_doInstruction.2.1 54 = .ok (.iload 4, 2) := by decide +kernel
theorem d_D_doInstruction_56 : decode u_D_doInstruction.2.1 56 = .ok (.ifCond .eq 11, 3) := by decide +kernel
theorem d_D_doInstruction_59 : decode u_D_doInstruction.2.1 59 = .ok (.aload_n 0, 1) := by decide +kernel
theorem d_D_doInstruction_60 : decode u_D_doInstruction.2.1 60 = .ok (.iload_n 1, 1) := by decide +kernel
theorem d_D_doInstruction_61 : decode u_D_doInstruction.2.1 61 = .ok (.iload 4, 2) := by decide +kernel
theorem d_D_doInstruction_63 : decode u_D_doInstruction.2.1 63 = .ok (.invokevirtual 162, 3) := by decide +kernel
theorem d_D_doInstruction_66 : decode u_D_doInstruction.2.1 66 = .ok (.return_, 1) := by decide +kernel
theorem d_D_doInstruction_67 : decode u_D_doInstruction.2.1 67 = .ok (.aload_n 0, 1) := by decide +kernel
theorem d_D_doInstruction_68 : decode u_D_doInstruction.2.1 68 = .ok (.aload_n 2, 1) := by decide +kernel
theorem d_D_doInstruction_69 : decode u_D_doInstruction.2.1 69 = .ok (.aload_n 2, 1) := by decide +kernel
theorem d_D_doInstruction_70 : decode u_D_doInstruction.2.1 70 = .ok (.getfield 70, 3) := by decide +kernel
theorem d_D_doInstruction_73 : decode u_D_doInstruction.2.1 73 = .ok (.iload_n 3, 1) := by decide +kernel
theorem d_D_doInstruction_74 : decode u_D_doInstruction.2.1 74 = .ok (.iaload, 1) := by decide +kernel
theorem d_D_doInstruction_75 : decode u_D_doInstruction.2.1 75 = .ok (.aload_n 2, 1) := by decide +kernel
theorem d_D_doInstruction_76 : decode u_D_doInstruction.2.1 76 = .ok (.getfield 73, 3) := by decide +kernel
theorem d_D_doInstruction_79 : decode u_D_doInstruction.2.1 79 = .ok (.iload_n 3, 1) := by decide +kernel
theorem d_D_doInstruction_80 : decode u_D_doInstruction.2.1 80 = .ok (.iaload, 1) := by decide +kernel
theorem d_D_doInstruction_81 : decode u_D_doInstruction.2.1 81 = .ok (.aload_n 2, 1) := by decide +kernel
theorem d_D_doInstruction_82 : decode u_D_doInstruction.2.1 82 = .ok (.getfield 76, 3) := by decide +kernel
theorem d_D_doInstruction_85 : decode u_D_doInstruction.2.1 85 = .ok (.iload_n 3, 1) := by decide +kernel
theorem d_D_doInstruction_86 : decode u_D_doInstruction.2.1 86 = .ok (.iaload, 1) := by decide +kernel
theorem d_D_doInstruction_87 : decode u_D_doInstruction.2.1 87 = .ok (.invokevirtual 169, 3) := by decide +kernel
theorem d_D_doInstruction_90 : decode u_D_doInstruction.2.1 90 = .ok (.return_, 1) := by decide +kernel
theorem d_D_faultAhead_0 : decode u_D_faultAhead.2.1 0 = .ok (.iload_n 2, 1) := by decide +kernel
theorem d_D_faultAhead_1 : decode u_D_faultAhead.2.1 1 = .ok (.tableswitch 113 5 10 #[39, 39, 113, 113, 59, 86], 39) := by decide +kernel
theorem d_D_faultAhead_40 : decode u_D_faultAhead.2.1 40 = .ok (.aload_n 0, 1) := by decide +kernel
theorem d_D_faultAhead_41 : decode u_D_faultAhead.2.1 41 = .ok (.getfield 15, 3) := by decide +kernel
theorem d_D_faultAhead_44 : decode u_D_faultAhead.2.1 44 = .ok (.iload_n 1, 1) := by decide +kernel
theorem d_D_faultAhead_45 : decode u_D_faultAhead.2.1 45 = .ok (.aaload, 1) := by decide +kernel
theorem d_D_faultAhead_46 : decode u_D_faultAhead.2.1 46 = .ok (.iload 4, 2) := by decide +kernel
theorem d_D_faultAhead_48 : decode u_D_faultAhead.2.1 48 = .ok (.invokevirtual 173, 3) := by decide +kernel
theorem d_D_faultAhead_51 : decode u_D_faultAhead.2.1 51 = .ok (.ifCond .eq 7, 3) := by decide +kernel
theorem d_D_faultAhead_54 : decode u_D_faultAhead.2.1 54 = .ok (.iconst 0, 1) := by decide +kernel
theorem d_D_faultAhead_55 : decode u_D_faultAhead.2.1 55 = .ok (.goto 4, 3) := by decide +kernel
theorem d_D_faultAhead_58 : decode u_D_faultAhead.2.1 58 = .ok (.iconst 1, 1) := by decide +kernel
theorem d_D_faultAhead_59 : decode u_D_faultAhead.2.1 59 = .ok (.ireturn, 1) := by decide +kernel
theorem d_D_faultAhead_60 : decode u_D_faultAhead.2.1 60 = .ok (.aload_n 0, 1) := by decide +kernel
theorem d_D_faultAhead_61 : decode u_D_faultAhead.2.1 61 = .ok (.iload_n 3, 1) := by decide +kernel
theorem d_D_faultAhead_62 : decode u_D_faultAhead.2.1 62 = .ok (.invokevirtual 109, 3) := by decide +kernel
theorem d_D_faultAhead_65 : decode u_D_faultAhead.2.1 65 = .ok (.ifCond .eq 20, 3) := by decide +kernel
theorem d_D_faultAhead_68 : decode u_D_faultAhead.2.1 68 = .ok (.aload_n 0, 1) := by decide +kernel
theorem d_D_faultAhead_69 : decode u_D_faultAhead.2.1 69 = .ok (.getfield 22, 3) := by decide +kernel
theorem d_D_faultAhead_72 : decode u_D_faultAhead.2.1 72 = .ok (.iload_n 3, 1) := by decide +kernel
theorem d_D_faultAhead_73 : decode u_D_faultAhead.2.1 73 = .ok (.aaload, 1) := by decide +kernel
theorem d_D_faultAhead_74 : decode u_D_faultAhead.2.1 74 = .ok (.getfield 60, 3) := by decide +kernel
theorem d_D_faultAhead_77 : decode u_D_faultAhead.2.1 77 = .ok (.iload_n 1, 1) := by decide +kernel
theorem d_D_faultAhead_78 : decode u_D_faultAhead.2.1 78 = .ok (.if_icmp .ne 7, 3) := by decide +kernel
theorem d_D_faultAhead_81 : decode u_D_faultAhead.2.1 81 = .ok (.iconst 0, 1) := by decide +kernel
theorem d_D_faultAhead_82 : decode u_D_faultAhead.2.1 82 = .ok (.goto 4, 3) := by decide +kernel
theorem d_D_faultAhead_85 : decode u_D_faultAhead.2.1 85 = .ok (.iconst 2, 1) := by decide +kernel
theorem d_D_faultAhead_86 : decode u_D_faultAhead.2.1 86 = .ok (.ireturn, 1) := by decide +kernel
theorem d_D_faultAhead_87 : decode u_D_faultAhead.2.1 87 = .ok (.aload_n 0, 1) := by decide +kernel
theorem d_D_faultAhead_88 : decode u_D_faultAhead.2.1 88 = .ok (.iload_n 3, 1) := by decide +kernel
theorem d_D_faultAhead_89 : decode u_D_faultAhead.2.1 89 = .ok (.invokevirtual 109, 3) := by decide +kernel
theorem d_D_faultAhead_92 : decode u_D_faultAhead.2.1 92 = .ok (.ifCond .eq 20, 3) := by decide +kernel
theorem d_D_faultAhead_95 : decode u_D_faultAhead.2.1 95 = .ok (.aload_n 0, 1) := by decide +kernel
theorem d_D_faultAhead_96 : decode u_D_faultAhead.2.1 96 = .ok (.getfield 22, 3) := by decide +kernel
theorem d_D_faultAhead_99 : decode u_D_faultAhead.2.1 99 = .ok (.iload_n 3, 1) := by decide +kernel
theorem d_D_faultAhead_100 : decode u_D_faultAhead.2.1 100 = .ok (.aaload, 1) := by decide +kernel
theorem d_D_faultAhead_101 : decode u_D_faultAhead.2.1 101 = .ok (.getfield 61, 3) := by decide +kernel
theorem d_D_faultAhead_104 : decode u_D_faultAhead.2.1 104 = .ok (.iload_n 1, 1) := by decide +kernel
theorem d_D_faultAhead_105 : decode u_D_faultAhead.2.1 105 = .ok (.if_icmp .ne 7, 3) := by decide +kernel
theorem d_D_faultAhead_108 : decode u_D_faultAhead.2.1 108 = .ok (.iconst 0, 1) := by decide +kernel
theorem d_D_faultAhead_109 : decode u_D_faultAhead.2.1 109 = .ok (.goto 4, 3) := by decide +kernel
theorem d_D_faultAhead_112 : decode u_D_faultAhead.2.1 112 = .ok (.iconst 2, 1) := by decide +kernel
theorem d_D_faultAhead_113 : decode u_D_faultAhead.2.1 113 = .ok (.ireturn, 1) := by decide +kernel
theorem d_D_faultAhead_114 : decode u_D_faultAhead.2.1 114 = .ok (.iload_n 2, 1) := by decide +kernel
theorem d_D_faultAhead_115 : decode u_D_faultAhead.2.1 115 = .ok (.ifCond .lt 9, 3) := by decide +kernel
theorem d_D_faultAhead_118 : decode u_D_faultAhead.2.1 118 = .ok (.iload_n 2, 1) := by decide +kernel
theorem d_D_faultAhead_119 : decode u_D_faultAhead.2.1 119 = .ok (.bipush 14, 2) := by decide +kernel
theorem d_D_faultAhead_121 : decode u_D_faultAhead.2.1 121 = .ok (.if_icmp .le 7, 3) := by decide +kernel
theorem d_D_faultAhead_124 : decode u_D_faultAhead.2.1 124 = .ok (.iconst 3, 1) := by decide +kernel
theorem d_D_faultAhead_125 : decode u_D_faultAhead.2.1 125 = .ok (.goto 4, 3) := by decide +kernel
theorem d_D_faultAhead_128 : decode u_D_faultAhead.2.1 128 = .ok (.iconst 0, 1) := by decide +kernel
theorem d_D_faultAhead_129 : decode u_D_faultAhead.2.1 129 = .ok (.ireturn, 1) := by decide +kernel
theorem d_D_carryOut_0 : decode u_D_carryOut.2.1 0 = .ok (.aload_n 1, 1) := by decide +kernel
theorem d_D_carryOut_1 : decode u_D_carryOut.2.1 1 = .ok (.dup, 1) := by decide +kernel
theorem d_D_carryOut_2 : decode u_D_carryOut.2.1 2 = .ok (.getfield 159, 3) := by decide +kernel
theorem d_D_carryOut_5 : decode u_D_carryOut.2.1 5 = .ok (.iconst 1, 1) := by decide +kernel
theorem d_D_carryOut_6 : decode u_D_carryOut.2.1 6 = .ok (.iadd, 1) := by decide +kernel
theorem d_D_carryOut_7 : decode u_D_carryOut.2.1 7 = .ok (.putfield 159, 3) := by decide +kernel
theorem d_D_carryOut_10 : decode u_D_carryOut.2.1 10 = .ok (.iload_n 2, 1) := by decide +kernel
theorem d_D_carryOut_11 : decode u_D_carryOut.2.1 11 = .ok (.bipush 6, 2) := by decide +kernel
theorem d_D_carryOut_13 : decode u_D_carryOut.2.1 13 = .ok (.if_icmp .gt 15, 3) := by decide +kernel
theorem d_D_carryOut_16 : decode u_D_carryOut.2.1 16 = .ok (.aload_n 0, 1) := by decide +kernel
theorem d_D_carryOut_17 : decode u_D_carryOut.2.1 17 = .ok (.aload_n 1, 1) := by decide +kernel
theorem d_D_carryOut_18 : decode u_D_carryOut.2.1 18 = .ok (.iload_n 2, 1) := by decide +kernel
theorem d_D_carryOut_19 : decode u_D_carryOut.2.1 19 = .ok (.iload_n 3, 1) := by decide +kernel
theorem d_D_carryOut_20 : decode u_D_carryOut.2.1 20 = .ok (.iload 4, 2) := by decide +kernel
theorem d_D_carryOut_22 : decode u_D_carryOut.2.1 22 = .ok (.invokevirtual 176, 3) := by decide +kernel
theorem d_D_carryOut_25 : decode u_D_carryOut.2.1 25 = .ok (.goto 29, 3) := by decide +kernel
theorem d_D_carryOut_28 : decode u_D_carryOut.2.1 28 = .ok (.iload_n 2, 1) := by decide +kernel
theorem d_D_carryOut_29 : decode u_D_carryOut.2.1 29 = .ok (.bipush 8, 2) := by decide +kernel
theorem d_D_carryOut_31 : decode u_D_carryOut.2.1 31 = .ok (.if_icmp .gt 14, 3) := by decide +kernel
theorem d_D_carryOut_34 : decode u_D_carryOut.2.1 34 = .ok (.aload_n 1, 1) := by decide +kernel
theorem d_D_carryOut_35 : decode u_D_carryOut.2.1 35 = .ok (.iload_n 2, 1) := by decide +kernel
theorem d_D_carryOut_36 : decode u_D_carryOut.2.1 36 = .ok (.iload_n 3, 1) := by decide +kernel
theorem d_D_carryOut_37 : decode u_D_carryOut.2.1 37 = .ok (.iload 4, 2) := by decide +kernel
