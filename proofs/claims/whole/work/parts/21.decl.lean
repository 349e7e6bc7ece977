theorem dd_L_init_0 : decode bb_L_init 0 = .ok (.aload_n 0, 1) := by decide +kernel
theorem dd_L_init_1 : decode bb_L_init 1 = .ok (.invokespecial 1, 3) := by decide +kernel
theorem dd_L_init_4 : decode bb_L_init 4 = .ok (.aload_n 0, 1) := by decide +kernel
theorem dd_L_init_5 : decode bb_L_init 5 = .ok (.new 7, 3) := by decide +kernel
theorem dd_L_init_8 : decode bb_L_init 8 = .ok (.dup, 1) := by decide +kernel
theorem dd_L_init_9 : decode bb_L_init 9 = .ok (.invokespecial 9, 3) := by decide +kernel
theorem dd_L_init_12 : decode bb_L_init 12 = .ok (.putfield 10, 3) := by decide +kernel
theorem dd_L_init_15 : decode bb_L_init 15 = .ok (.aload_n 0, 1) := by decide +kernel
theorem dd_L_init_16 : decode bb_L_init 16 = .ok (.new 7, 3) := by decide +kernel
theorem dd_L_init_19 : decode bb_L_init 19 = .ok (.dup, 1) := by decide +kernel
theorem dd_L_init_20 : decode bb_L_init 20 = .ok (.invokespecial 9, 3) := by decide +kernel
theorem dd_L_init_23 : decode bb_L_init 23 = .ok (.putfield 16, 3) := by decide +kernel
theorem dd_L_init_26 : decode bb_L_init 26 = .ok (.aload_n 0, 1) := by decide +kernel
theorem dd_L_init_27 : decode bb_L_init 27 = .ok (.iconst 0, 1) := by decide +kernel
theorem dd_L_init_28 : decode bb_L_init 28 = .ok (.putfield 19, 3) := by decide +kernel
theorem dd_L_init_31 : decode bb_L_init 31 = .ok (.aload_n 0, 1) := by decide +kernel
theorem dd_L_init_32 : decode bb_L_init 32 = .ok (.iconst 0, 1) := by decide +kernel
theorem dd_L_init_33 : decode bb_L_init 33 = .ok (.putfield 23, 3) := by decide +kernel
theorem dd_L_init_36 : decode bb_L_init 36 = .ok (.aload_n 0, 1) := by decide +kernel
theorem dd_L_init_37 : decode bb_L_init 37 = .ok (.iconst (-1), 1) := by decide +kernel
theorem dd_L_init_38 : decode bb_L_init 38 = .ok (.putfield 27, 3) := by decide +kernel
theorem dd_L_init_41 : decode bb_L_init 41 = .ok (.aload_n 0, 1) := by decide +kernel
theorem dd_L_init_42 : decode bb_L_init 42 = .ok (.iconst 0, 1) := by decide +kernel
theorem dd_L_init_43 : decode bb_L_init 43 = .ok (.putfield 30, 3) := by decide +kernel
theorem dd_L_init_46 : decode bb_L_init 46 = .ok (.return_, 1) := by decide +kernel
theorem dd_L_clear_0 : decode bb_L_clear 0 = .ok (.aload_n 0, 1) := by decide +kernel
theorem dd_L_clear_1 : decode bb_L_clear 1 = .ok (.getfield 10, 3) := by decide +kernel
theorem dd_L_clear_4 : decode bb_L_clear 4 = .ok (.invokevirtual 33, 3) := by decide +kernel
theorem dd_L_clear_7 : decode bb_L_clear 7 = .ok (.aload_n 0, 1) := by decide +kernel
theorem dd_L_clear_8 : decode bb_L_clear 8 = .ok (.getfield 16, 3) := by decide +kernel
theorem dd_L_clear_11 : decode bb_L_clear 11 = .ok (.invokevirtual 33, 3) := by decide +kernel
theorem dd_L_clear_14 : decode bb_L_clear 14 = .ok (.aload_n 0, 1) := by decide +kernel
theorem dd_L_clear_15 : decode bb_L_clear 15 = .ok (.iconst 0, 1) := by decide +kernel
theorem dd_L_clear_16 : decode bb_L_clear 16 = .ok (.putfield 19, 3) := by decide +kernel
theorem dd_L_clear_19 : decode bb_L_clear 19 = .ok (.aload_n 0, 1) := by decide +kernel
theorem dd_L_clear_20 : decode bb_L_clear 20 = .ok (.iconst 0, 1) := by decide +kernel
theorem dd_L_clear_21 : decode bb_L_clear 21 = .ok (.putfield 23, 3) := by decide +kernel
theorem dd_L_clear_24 : decode bb_L_clear 24 = .ok (.aload_n 0, 1) := by decide +kernel
theorem dd_L_clear_25 : decode bb_L_clear 25 = .ok (.iconst (-1), 1) := by decide +kernel
theorem dd_L_clear_26 : decode bb_L_clear 26 = .ok (.putfield 27, 3) := by decide +kernel
theorem dd_L_clear_29 : decode bb_L_clear 29 = .ok (.aload_n 0, 1) := by decide +kernel
theorem dd_L_clear_30 : decode bb_L_clear 30 = .ok (.iconst 0, 1) := by decide +kernel
theorem dd_L_clear_31 : decode bb_L_clear 31 = .ok (.putfield 30, 3) := by decide +kernel
theorem dd_L_clear_34 : decode bb_L_clear 34 = .ok (.return_, 1) := by decide +kernel
theorem dd_L_define_0 : decode bb_L_define 0 = .ok (.iload_n 1, 1) := by decide +kernel
theorem dd_L_define_1 : decode bb_L_define 1 = .ok (.ifCond .eq 11, 3) := by decide +kernel
theorem dd_L_define_4 : decode bb_L_define 4 = .ok (.iload 4, 2) := by decide +kernel
theorem dd_L_define_6 : decode bb_L_define 6 = .ok (.invokestatic 36, 3) := by decide +kernel
theorem dd_L_define_9 : decode bb_L_define 9 = .ok (.goto 8, 3) := by decide +kernel
theorem dd_L_define_12 : decode bb_L_define 12 = .ok (.iload 4, 2) := by decide +kernel
theorem dd_L_define_14 : decode bb_L_define 14 = .ok (.invokestatic 42, 3) := by decide +kernel
theorem dd_L_define_17 : decode bb_L_define 17 = .ok (.istore 5, 2) := by decide +kernel
theorem dd_L_define_19 : decode bb_L_define 19 = .ok (.aload_n 0, 1) := by decide +kernel
theorem dd_L_define_20 : decode bb_L_define 20 = .ok (.invokevirtual 45, 3) := by decide +kernel
theorem dd_L_define_23 : decode bb_L_define 23 = .ok (.ifCond .eq 15, 3) := by decide +kernel
theorem dd_L_define_26 : decode bb_L_define 26 = .ok (.aload_n 0, 1) := by decide +kernel
theorem dd_L_define_27 : decode bb_L_define 27 = .ok (.getfield 10, 3) := by decide +kernel
theorem dd_L_define_30 : decode bb_L_define 30 = .ok (.invokevirtual 49, 3) := by decide +kernel
theorem dd_L_define_33 : decode bb_L_define 33 = .ok (.bipush 64, 2) := by decide +kernel
theorem dd_L_define_35 : decode bb_L_define 35 = .ok (.if_icmp .lt 5, 3) := by decide +kernel
theorem dd_L_define_38 : decode bb_L_define 38 = .ok (.iconst (-1), 1) := by decide +kernel
theorem dd_L_define_39 : decode bb_L_define 39 = .ok (.ireturn, 1) := by decide +kernel
theorem dd_L_define_40 : decode bb_L_define 40 = .ok (.lload_n 2, 1) := by decide +kernel
theorem dd_L_define_41 : decode bb_L_define 41 = .ok (.lconst 0, 1) := by decide +kernel
theorem dd_L_define_42 : decode bb_L_define 42 = .ok (.lcmp, 1) := by decide +kernel
theorem dd_L_define_43 : decode bb_L_define 43 = .ok (.ifCond .le 16, 3) := by decide +kernel
theorem dd_L_define_46 : decode bb_L_define 46 = .ok (.iload 5, 2) := by decide +kernel
theorem dd_L_define_48 : decode bb_L_define 48 = .ok (.ifCond .eq 11, 3) := by decide +kernel
theorem dd_L_define_51 : decode bb_L_define 51 = .ok (.aload_n 0, 1) := by decide +kernel
theorem dd_L_define_52 : decode bb_L_define 52 = .ok (.lload_n 2, 1) := by decide +kernel
theorem dd_L_define_53 : decode bb_L_define 53 = .ok (.invokevirtual 53, 3) := by decide +kernel
theorem dd_L_define_56 : decode bb_L_define 56 = .ok (.ifnull 5, 3) := by decide +kernel
theorem dd_L_define_59 : decode bb_L_define 59 = .ok (.iconst (-1), 1) := by decide +kernel
theorem dd_L_define_60 : decode bb_L_define 60 = .ok (.ireturn, 1) := by decide +kernel
theorem dd_L_define_61 : decode bb_L_define 61 = .ok (.new 57, 3) := by decide +kernel
theorem dd_L_define_64 : decode bb_L_define 64 = .ok (.dup, 1) := by decide +kernel
theorem dd_L_define_65 : decode bb_L_define 65 = .ok (.aload_n 0, 1) := by decide +kernel
theorem dd_L_define_66 : decode bb_L_define 66 = .ok (.getfield 10, 3) := by decide +kernel
theorem dd_L_define_69 : decode bb_L_define 69 = .ok (.invokevirtual 49, 3) := by decide +kernel
theorem dd_L_define_72 : decode bb_L_define 72 = .ok (.iload_n 1, 1) := by decide +kernel
theorem dd_L_define_73 : decode bb_L_define 73 = .ok (.lload_n 2, 1) := by decide +kernel
theorem dd_L_define_74 : decode bb_L_define 74 = .ok (.iload 4, 2) := by decide +kernel
theorem dd_L_define_76 : decode bb_L_define 76 = .ok (.invokespecial 59, 3) := by decide +kernel
theorem dd_L_define_79 : decode bb_L_define 79 = .ok (.astore 6, 2) := by decide +kernel
theorem dd_L_define_81 : decode bb_L_define 81 = .ok (.aload_n 0, 1) := by decide +kernel
theorem dd_L_define_82 : decode bb_L_define 82 = .ok (.getfield 10, 3) := by decide +kernel
theorem dd_L_define_85 : decode bb_L_define 85 = .ok (.aload 6, 2) := by decide +kernel
theorem dd_L_define_87 : decode bb_L_define 87 = .ok (.invokevirtual 62, 3) := by decide +kernel
theorem dd_L_define_90 : decode bb_L_define 90 = .ok (.pop, 1) := by decide +kernel
theorem dd_L_define_91 : decode bb_L_define 91 = .ok (.aload_n 0, 1) := by decide +kernel
theorem dd_L_define_92 : decode bb_L_define 92 = .ok (.iconst 0, 1) := by decide +kernel
theorem dd_L_define_93 : decode bb_L_define 93 = .ok (.putfield 19, 3) := by decide +kernel
theorem dd_L_define_96 : decode bb_L_define 96 = .ok (.aload 6, 2) := by decide +kernel
theorem dd_L_define_98 : decode bb_L_define 98 = .ok (.getfield 66, 3) := by decide +kernel
theorem dd_L_define_101 : decode bb_L_define 101 = .ok (.ireturn, 1) := by decide +kernel
theorem dd_L_parameter_0 : decode bb_L_parameter 0 = .ok (.aload_n 0, 1) := by decide +kernel
theorem dd_L_parameter_1 : decode bb_L_parameter 1 = .ok (.invokevirtual 69, 3) := by decide +kernel
theorem dd_L_parameter_4 : decode bb_L_parameter 4 = .ok (.astore 4, 2) := by decide +kernel
theorem dd_L_parameter_6 : decode bb_L_parameter 6 = .ok (.aload 4, 2) := by decide +kernel
theorem dd_L_parameter_8 : decode bb_L_parameter 8 = .ok (.ifnull 21, 3) := by decide +kernel
theorem dd_L_parameter_11 : decode bb_L_parameter 11 = .ok (.aload 4, 2) := by decide +kernel
theorem dd_L_parameter_13 : decode bb_L_parameter 13 = .ok (.getfield 73, 3) := by decide +kernel
theorem dd_L_parameter_16 : decode bb_L_parameter 16 = .ok (.ifCond .ne 13, 3) := by decide +kernel
theorem dd_L_parameter_19 : decode bb_L_parameter 19 = .ok (.aload 4, 2) := by decide +kernel
theorem dd_L_parameter_21 : decode bb_L_parameter 21 = .ok (.getfield 76, 3) := by decide +kernel
theorem dd_L_parameter_24 : decode bb_L_parameter 24 = .ok (.bipush 8, 2) := by decide +kernel
theorem dd_L_parameter_26 : decode bb_L_parameter 26 = .ok (.if_icmp .lt 5, 3) := by decide +kernel
theorem dd_L_parameter_29 : decode bb_L_parameter 29 = .ok (.iconst (-1), 1) := by decide +kernel
theorem dd_L_parameter_30 : decode bb_L_parameter 30 = .ok (.ireturn, 1) := by decide +kernel
theorem dd_L_parameter_31 : decode bb_L_parameter 31 = .ok (.lload_n 1, 1) := by decide +kernel
theorem dd_L_parameter_32 : decode bb_L_parameter 32 = .ok (.lconst 0, 1) := by decide +kernel
theorem dd_L_parameter_33 : decode bb_L_parameter 33 = .ok (.lcmp, 1) := by decide +kernel
theorem dd_L_parameter_34 : decode bb_L_parameter 34 = .ok (.ifCond .le 20, 3) := by decide +kernel
theorem dd_L_parameter_37 : decode bb_L_parameter 37 = .ok (.iload_n 3, 1) := by decide +kernel
theorem dd_L_parameter_38 : decode bb_L_parameter 38 = .ok (.invokestatic 42, 3) := by decide +kernel
theorem dd_L_parameter_41 : decode bb_L_parameter 41 = .ok (.ifCond .eq 13, 3) := by decide +kernel
theorem dd_L_parameter_44 : decode bb_L_parameter 44 = .ok (.aload 4, 2) := by decide +kernel
theorem dd_L_parameter_46 : decode bb_L_parameter 46 = .ok (.lload_n 1, 1) := by decide +kernel
theorem dd_L_parameter_47 : decode bb_L_parameter 47 = .ok (.invokevirtual 79, 3) := by decide +kernel
theorem dd_L_parameter_50 : decode bb_L_parameter 50 = .ok (.iconst (-1), 1) := by decide +kernel
theorem dd_L_parameter_51 : decode bb_L_parameter 51 = .ok (.if_icmp .eq 5, 3) := by decide +kernel
theorem dd_L_parameter_54 : decode bb_L_parameter 54 = .ok (.iconst (-1), 1) := by decide +kernel
theorem dd_L_parameter_55 : decode bb_L_parameter 55 = .ok (.ireturn, 1) := by decide +kernel
theorem dd_L_parameter_56 : decode bb_L_parameter 56 = .ok (.aload 4, 2) := by decide +kernel
theorem dd_L_parameter_58 : decode bb_L_parameter 58 = .ok (.lload_n 1, 1) := by decide +kernel
theorem dd_L_parameter_59 : decode bb_L_parameter 59 = .ok (.iload_n 3, 1) := by decide +kernel
theorem dd_L_parameter_60 : decode bb_L_parameter 60 = .ok (.invokevirtual 83, 3) := by decide +kernel
theorem dd_L_parameter_63 : decode bb_L_parameter 63 = .ok (.aload_n 0, 1) := by decide +kernel
theorem dd_L_parameter_64 : decode bb_L_parameter 64 = .ok (.iconst 0, 1) := by decide +kernel
theorem dd_L_parameter_65 : decode bb_L_parameter 65 = .ok (.putfield 19, 3) := by decide +kernel
theorem dd_L_parameter_68 : decode bb_L_parameter 68 = .ok (.aload 4, 2) := by decide +kernel
theorem dd_L_parameter_70 : decode bb_L_parameter 70 = .ok (.getfield 76, 3) := by decide +kernel
theorem dd_L_parameter_73 : decode bb_L_parameter 73 = .ok (.ireturn, 1) := by decide +kernel
theorem dd_L_node_0 : decode bb_L_node 0 = .ok (.aload_n 0, 1) := by decide +kernel
theorem dd_L_node_1 : decode bb_L_node 1 = .ok (.invokevirtual 69, 3) := by decide +kernel
theorem dd_L_node_4 : decode bb_L_node 4 = .ok (.astore 7, 2) := by decide +kernel
theorem dd_L_node_6 : decode bb_L_node 6 = .ok (.aload 7, 2) := by decide +kernel
theorem dd_L_node_8 : decode bb_L_node 8 = .ok (.ifnull 24, 3) := by decide +kernel
theorem dd_L_node_11 : decode bb_L_node 11 = .ok (.aload 7, 2) := by decide +kernel
theorem dd_L_node_13 : decode bb_L_node 13 = .ok (.invokevirtual 87, 3) := by decide +kernel
theorem dd_L_node_16 : decode bb_L_node 16 = .ok (.ifCond .ne 16, 3) := by decide +kernel
theorem dd_L_node_19 : decode bb_L_node 19 = .ok (.aload_n 0, 1) := by decide +kernel
theorem dd_L_node_20 : decode bb_L_node 20 = .ok (.getfield 16, 3) := by decide +kernel
theorem dd_L_node_23 : decode bb_L_node 23 = .ok (.invokevirtual 49, 3) := by decide +kernel
theorem dd_L_node_26 : decode bb_L_node 26 = .ok (.sipush 4096, 3) := by decide +kernel
theorem dd_L_node_29 : decode bb_L_node 29 = .ok (.if_icmp .lt 5, 3) := by decide +kernel
theorem dd_L_node_32 : decode bb_L_node 32 = .ok (.iconst (-1), 1) := by decide +kernel
theorem dd_L_node_33 : decode bb_L_node 33 = .ok (.ireturn, 1) := by decide +kernel
theorem dd_L_node_34 : decode bb_L_node 34 = .ok (.iload_n 1, 1) := by decide +kernel
theorem dd_L_node_35 : decode bb_L_node 35 = .ok (.invokestatic 90, 3) := by decide +kernel
theorem dd_L_node_38 : decode bb_L_node 38 = .ok (.ifCond .eq 15, 3) := by decide +kernel
theorem dd_L_node_41 : decode bb_L_node 41 = .ok (.iload_n 1, 1) := by decide +kernel
theorem dd_L_node_42 : decode bb_L_node 42 = .ok (.invokestatic 95, 3) := by decide +kernel
theorem dd_L_node_45 : decode bb_L_node 45 = .ok (.aload 7, 2) := by decide +kernel
theorem dd_L_node_47 : decode bb_L_node 47 = .ok (.invokevirtual 98, 3) := by decide +kernel
theorem dd_L_node_50 : decode bb_L_node 50 = .ok (.if_icmp .eq 5, 3) := by decide +kernel
theorem dd_L_node_53 : decode bb_L_node 53 = .ok (.iconst (-1), 1) := by decide +kernel
theorem dd_L_node_54 : decode bb_L_node 54 = .ok (.ireturn, 1) := by decide +kernel
theorem dd_L_node_55 : decode bb_L_node 55 = .ok (.iload_n 1, 1) := by decide +kernel
theorem dd_L_node_56 : decode bb_L_node 56 = .ok (.iload 6, 2) := by decide +kernel
theorem dd_L_node_58 : decode bb_L_node 58 = .ok (.invokestatic 101, 3) := by decide +kernel
theorem dd_L_node_61 : decode bb_L_node 61 = .ok (.ifCond .eq 13, 3) := by decide +kernel
theorem dd_L_node_64 : decode bb_L_node 64 = .ok (.iload_n 1, 1) := by decide +kernel
theorem dd_L_node_65 : decode bb_L_node 65 = .ok (.lload_n 2, 1) := by decide +kernel
theorem dd_L_node_66 : decode bb_L_node 66 = .ok (.lload 4, 2) := by decide +kernel
theorem dd_L_node_68 : decode bb_L_node 68 = .ok (.invokestatic 105, 3) := by decide +kernel
theorem dd_L_node_71 : decode bb_L_node 71 = .ok (.ifCond .ne 5, 3) := by decide +kernel
theorem dd_L_node_74 : decode bb_L_node 74 = .ok (.iconst (-1), 1) := by decide +kernel
theorem dd_L_node_75 : decode bb_L_node 75 = .ok (.ireturn, 1) := by decide +kernel
theorem dd_L_node_76 : decode bb_L_node 76 = .ok (.new 109, 3) := by decide +kernel
theorem dd_L_node_79 : decode bb_L_node 79 = .ok (.dup, 1) := by decide +kernel
theorem dd_L_node_80 : decode bb_L_node 80 = .ok (.aload_n 0, 1) := by decide +kernel
theorem dd_L_node_81 : decode bb_L_node 81 = .ok (.getfield 16, 3) := by decide +kernel
theorem dd_L_node_84 : decode bb_L_node 84 = .ok (.invokevirtual 49, 3) := by decide +kernel
theorem dd_L_node_87 : decode bb_L_node 87 = .ok (.aload 7, 2) := by decide +kernel
theorem dd_L_node_89 : decode bb_L_node 89 = .ok (.iload_n 1, 1) := by decide +kernel
theorem dd_L_node_90 : decode bb_L_node 90 = .ok (.lload_n 2, 1) := by decide +kernel
theorem dd_L_node_91 : decode bb_L_node 91 = .ok (.lload 4, 2) := by decide +kernel
theorem dd_L_node_93 : decode bb_L_node 93 = .ok (.iload 6, 2) := by decide +kernel
theorem dd_L_node_95 : decode bb_L_node 95 = .ok (.invokespecial 111, 3) := by decide +kernel
theorem dd_L_node_98 : decode bb_L_node 98 = .ok (.astore 8, 2) := by decide +kernel
theorem dd_L_node_100 : decode bb_L_node 100 = .ok (.aload_n 0, 1) := by decide +kernel
theorem dd_L_node_101 : decode bb_L_node 101 = .ok (.getfield 16, 3) := by decide +kernel
theorem dd_L_node_104 : decode bb_L_node 104 = .ok (.aload 8, 2) := by decide +kernel
theorem dd_L_node_106 : decode bb_L_node 106 = .ok (.invokevirtual 62, 3) := by decide +kernel
theorem dd_L_node_109 : decode bb_L_node 109 = .ok (.pop, 1) := by decide +kernel
theorem dd_L_node_110 : decode bb_L_node 110 = .ok (.aload 7, 2) := by decide +kernel
theorem dd_L_node_112 : decode bb_L_node 112 = .ok (.aload 8, 2) := by decide +kernel
theorem dd_L_node_114 : decode bb_L_node 114 = .ok (.invokevirtual 114, 3) := by decide +kernel
theorem dd_L_node_117 : decode bb_L_node 117 = .ok (.aload_n 0, 1) := by decide +kernel
theorem dd_L_node_118 : decode bb_L_node 118 = .ok (.iconst 0, 1) := by decide +kernel
theorem dd_L_node_119 : decode bb_L_node 119 = .ok (.putfield 19, 3) := by decide +kernel
theorem dd_L_node_122 : decode bb_L_node 122 = .ok (.aload 8, 2) := by decide +kernel
theorem dd_L_node_124 : decode bb_L_node 124 = .ok (.getfield 118, 3) := by decide +kernel
theorem dd_L_node_127 : decode bb_L_node 127 = .ok (.ireturn, 1) := by decide +kernel
theorem dd_L_check_0 : decode bb_L_check 0 = .ok (.aload_n 0, 1) := by decide +kernel
theorem dd_L_check_1 : decode bb_L_check 1 = .ok (.invokevirtual 45, 3) := by decide +kernel
theorem dd_L_check_4 : decode bb_L_check 4 = .ok (.ifCond .ne 5, 3) := by decide +kernel
theorem dd_L_check_7 : decode bb_L_check 7 = .ok (.iconst (-1), 1) := by decide +kernel
theorem dd_L_check_8 : decode bb_L_check 8 = .ok (.ireturn, 1) := by decide +kernel
theorem dd_L_check_9 : decode bb_L_check 9 = .ok (.aload_n 0, 1) := by decide +kernel
theorem dd_L_check_10 : decode bb_L_check 10 = .ok (.iconst 0, 1) := by decide +kernel
theorem dd_L_check_11 : decode bb_L_check 11 = .ok (.putfield 23, 3) := by decide +kernel
theorem dd_L_check_14 : decode bb_L_check 14 = .ok (.aload_n 0, 1) := by decide +kernel
theorem dd_L_check_15 : decode bb_L_check 15 = .ok (.iconst (-1), 1) := by decide +kernel
theorem dd_L_check_16 : decode bb_L_check 16 = .ok (.putfield 27, 3) := by decide +kernel
theorem dd_L_check_19 : decode bb_L_check 19 = .ok (.aload_n 0, 1) := by decide +kernel
theorem dd_L_check_20 : decode bb_L_check 20 = .ok (.iconst 0, 1) := by decide +kernel
theorem dd_L_check_21 : decode bb_L_check 21 = .ok (.putfield 30, 3) := by decide +kernel
theorem dd_L_check_24 : decode bb_L_check 24 = .ok (.aload_n 0, 1) := by decide +kernel
theorem dd_L_check_25 : decode bb_L_check 25 = .ok (.invokevirtual 119, 3) := by decide +kernel
theorem dd_L_check_28 : decode bb_L_check 28 = .ok (.aload_n 0, 1) := by decide +kernel
theorem dd_L_check_29 : decode bb_L_check 29 = .ok (.aload_n 0, 1) := by decide +kernel
theorem dd_L_check_30 : decode bb_L_check 30 = .ok (.getfield 23, 3) := by decide +kernel
theorem dd_L_check_33 : decode bb_L_check 33 = .ok (.ifCond .ne 7, 3) := by decide +kernel
theorem dd_L_check_36 : decode bb_L_check 36 = .ok (.iconst 1, 1) := by decide +kernel
theorem dd_L_check_37 : decode bb_L_check 37 = .ok (.goto 4, 3) := by decide +kernel
theorem dd_L_check_40 : decode bb_L_check 40 = .ok (.iconst 0, 1) := by decide +kernel
theorem dd_L_check_41 : decode bb_L_check 41 = .ok (.putfield 19, 3) := by decide +kernel
theorem dd_L_check_44 : decode bb_L_check 44 = .ok (.aload_n 0, 1) := by decide +kernel
theorem dd_L_check_45 : decode bb_L_check 45 = .ok (.getfield 23, 3) := by decide +kernel
theorem dd_L_check_48 : decode bb_L_check 48 = .ok (.ireturn, 1) := by decide +kernel
theorem dd_L_type_0 : decode bb_L_type 0 = .ok (.aload_n 0, 1) := by decide +kernel
theorem dd_L_type_1 : decode bb_L_type 1 = .ok (.iload_n 1, 1) := by decide +kernel
theorem dd_L_type_2 : decode bb_L_type 2 = .ok (.invokevirtual 122, 3) := by decide +kernel
theorem dd_L_type_5 : decode bb_L_type 5 = .ok (.astore_n 2, 1) := by decide +kernel
theorem dd_L_type_6 : decode bb_L_type 6 = .ok (.aload_n 2, 1) := by decide +kernel
theorem dd_L_type_7 : decode bb_L_type 7 = .ok (.ifnonnull 7, 3) := by decide +kernel
theorem dd_L_type_10 : decode bb_L_type 10 = .ok (.iconst (-1), 1) := by decide +kernel
theorem dd_L_type_11 : decode bb_L_type 11 = .ok (.goto 7, 3) := by decide +kernel
theorem dd_L_type_14 : decode bb_L_type 14 = .ok (.aload_n 2, 1) := by decide +kernel
theorem dd_L_type_15 : decode bb_L_type 15 = .ok (.getfield 126, 3) := by decide +kernel
theorem dd_L_type_18 : decode bb_L_type 18 = .ok (.ireturn, 1) := by decide +kernel
theorem dd_L_binder_0 : decode bb_L_binder 0 = .ok (.aload_n 0, 1) := by decide +kernel
theorem dd_L_binder_1 : decode bb_L_binder 1 = .ok (.iload_n 1, 1) := by decide +kernel
theorem dd_L_binder_2 : decode bb_L_binder 2 = .ok (.invokevirtual 122, 3) := by decide +kernel
theorem dd_L_binder_5 : decode bb_L_binder 5 = .ok (.astore_n 2, 1) := by decide +kernel
theorem dd_L_binder_6 : decode bb_L_binder 6 = .ok (.aload_n 2, 1) := by decide +kernel
theorem dd_L_binder_7 : decode bb_L_binder 7 = .ok (.ifnonnull 7, 3) := by decide +kernel
theorem dd_L_binder_10 : decode bb_L_binder 10 = .ok (.iconst (-1), 1) := by decide +kernel
theorem dd_L_binder_11 : decode bb_L_binder 11 = .ok (.goto 7, 3) := by decide +kernel
theorem dd_L_binder_14 : decode bb_L_binder 14 = .ok (.aload_n 2, 1) := by decide +kernel
theorem dd_L_binder_15 : decode bb_L_binder 15 = .ok (.getfield 129, 3) := by decide +kernel
theorem dd_L_binder_18 : decode bb_L_binder 18 = .ok (.ireturn, 1) := by decide +kernel
theorem dd_L_target_0 : decode bb_L_target 0 = .ok (.aload_n 0, 1) := by decide +kernel
theorem dd_L_target_1 : decode bb_L_target 1 = .ok (.iload_n 1, 1) := by decide +kernel
theorem dd_L_target_2 : decode bb_L_target 2 = .ok (.invokevirtual 122, 3) := by decide +kernel
theorem dd_L_target_5 : decode bb_L_target 5 = .ok (.astore_n 2, 1) := by decide +kernel
theorem dd_L_target_6 : decode bb_L_target 6 = .ok (.aload_n 2, 1) := by decide +kernel
theorem dd_L_target_7 : decode bb_L_target 7 = .ok (.ifnull 10, 3) := by decide +kernel
theorem dd_L_target_10 : decode bb_L_target 10 = .ok (.aload_n 2, 1) := by decide +kernel
theorem dd_L_target_11 : decode bb_L_target 11 = .ok (.getfield 132, 3) := by decide +kernel
theorem dd_L_target_14 : decode bb_L_target 14 = .ok (.ifnonnull 7, 3) := by decide +kernel
theorem dd_L_target_17 : decode bb_L_target 17 = .ok (.iconst (-1), 1) := by decide +kernel
theorem dd_L_target_18 : decode bb_L_target 18 = .ok (.goto 10, 3) := by decide +kernel
theorem dd_L_target_21 : decode bb_L_target 21 = .ok (.aload_n 2, 1) := by decide +kernel
theorem dd_L_target_22 : decode bb_L_target 22 = .ok (.getfield 132, 3) := by decide +kernel
theorem dd_L_target_25 : decode bb_L_target 25 = .ok (.getfield 66, 3) := by decide +kernel
theorem dd_L_target_28 : decode bb_L_target 28 = .ok (.ireturn, 1) := by decide +kernel
theorem dd_L_of_0 : decode bb_L_of 0 = .ok (.aload_n 0, 1) := by decide +kernel
theorem dd_L_of_1 : decode bb_L_of 1 = .ok (.iload_n 1, 1) := by decide +kernel
theorem dd_L_of_2 : decode bb_L_of 2 = .ok (.invokevirtual 136, 3) := by decide +kernel
theorem dd_L_of_5 : decode bb_L_of 5 = .ok (.astore_n 3, 1) := by decide +kernel
theorem dd_L_of_6 : decode bb_L_of 6 = .ok (.aload_n 3, 1) := by decide +kernel
theorem dd_L_of_7 : decode bb_L_of 7 = .ok (.ifnonnull 5, 3) := by decide +kernel
theorem dd_L_of_10 : decode bb_L_of 10 = .ok (.iconst (-1), 1) := by decide +kernel
theorem dd_L_of_11 : decode bb_L_of 11 = .ok (.ireturn, 1) := by decide +kernel
theorem dd_L_of_12 : decode bb_L_of 12 = .ok (.iload_n 2, 1) := by decide +kernel
theorem dd_L_of_13 : decode bb_L_of 13 = .ok (.tableswitch 68 0 3 #[31, 36, 41, 60], 31) := by decide +kernel
theorem dd_L_of_44 : decode bb_L_of 44 = .ok (.aload_n 3, 1) := by decide +kernel
theorem dd_L_of_45 : decode bb_L_of 45 = .ok (.getfield 139, 3) := by decide +kernel
theorem dd_L_of_48 : decode bb_L_of 48 = .ok (.ireturn, 1) := by decide +kernel
theorem dd_L_of_49 : decode bb_L_of 49 = .ok (.aload_n 3, 1) := by decide +kernel
theorem dd_L_of_50 : decode bb_L_of 50 = .ok (.getfield 142, 3) := by decide +kernel
theorem dd_L_of_53 : decode bb_L_of 53 = .ok (.ireturn, 1) := by decide +kernel
theorem dd_L_of_54 : decode bb_L_of 54 = .ok (.aload_n 3, 1) := by decide +kernel
theorem dd_L_of_55 : decode bb_L_of 55 = .ok (.getfield 145, 3) := by decide +kernel
theorem dd_L_of_58 : decode bb_L_of 58 = .ok (.ifnonnull 7, 3) := by decide +kernel
theorem dd_L_of_61 : decode bb_L_of 61 = .ok (.iconst (-1), 1) := by decide +kernel
theorem dd_L_of_62 : decode bb_L_of 62 = .ok (.goto 10, 3) := by decide +kernel
theorem dd_L_of_65 : decode bb_L_of 65 = .ok (.aload_n 3, 1) := by decide +kernel
theorem dd_L_of_66 : decode bb_L_of 66 = .ok (.getfield 145, 3) := by decide +kernel
theorem dd_L_of_69 : decode bb_L_of 69 = .ok (.getfield 118, 3) := by decide +kernel
theorem dd_L_of_72 : decode bb_L_of 72 = .ok (.ireturn, 1) := by decide +kernel
theorem dd_L_of_73 : decode bb_L_of 73 = .ok (.aload_n 3, 1) := by decide +kernel
theorem dd_L_of_74 : decode bb_L_of 74 = .ok (.getfield 149, 3) := by decide +kernel
theorem dd_L_of_77 : decode bb_L_of 77 = .ok (.getfield 66, 3) := by decide +kernel
theorem dd_L_of_80 : decode bb_L_of 80 = .ok (.ireturn, 1) := by decide +kernel
theorem dd_L_of_81 : decode bb_L_of 81 = .ok (.iconst (-1), 1) := by decide +kernel
theorem dd_L_of_82 : decode bb_L_of 82 = .ok (.ireturn, 1) := by decide +kernel
theorem dd_L_look_0 : decode bb_L_look 0 = .ok (.iload_n 1, 1) := by decide +kernel
theorem dd_L_look_1 : decode bb_L_look 1 = .ok (.tableswitch 94 0 5 #[39, 47, 55, 60, 65, 78], 39) := by decide +kernel
theorem dd_L_look_40 : decode bb_L_look 40 = .ok (.aload_n 0, 1) := by decide +kernel
theorem dd_L_look_41 : decode bb_L_look 41 = .ok (.getfield 10, 3) := by decide +kernel
theorem dd_L_look_44 : decode bb_L_look 44 = .ok (.invokevirtual 49, 3) := by decide +kernel
theorem dd_L_look_47 : decode bb_L_look 47 = .ok (.ireturn, 1) := by decide +kernel
theorem dd_L_look_48 : decode bb_L_look 48 = .ok (.aload_n 0, 1) := by decide +kernel
theorem dd_L_look_49 : decode bb_L_look 49 = .ok (.getfield 16, 3) := by decide +kernel
theorem dd_L_look_52 : decode bb_L_look 52 = .ok (.invokevirtual 49, 3) := by decide +kernel
theorem dd_L_look_55 : decode bb_L_look 55 = .ok (.ireturn, 1) := by decide +kernel
theorem dd_L_look_56 : decode bb_L_look 56 = .ok (.aload_n 0, 1) := by decide +kernel
theorem dd_L_look_57 : decode bb_L_look 57 = .ok (.getfield 23, 3) := by decide +kernel
theorem dd_L_look_60 : decode bb_L_look 60 = .ok (.ireturn, 1) := by decide +kernel
theorem dd_L_look_61 : decode bb_L_look 61 = .ok (.aload_n 0, 1) := by decide +kernel
theorem dd_L_look_62 : decode bb_L_look 62 = .ok (.getfield 27, 3) := by decide +kernel
theorem dd_L_look_65 : decode bb_L_look 65 = .ok (.ireturn, 1) := by decide +kernel
theorem dd_L_look_66 : decode bb_L_look 66 = .ok (.aload_n 0, 1) := by decide +kernel
theorem dd_L_look_67 : decode bb_L_look 67 = .ok (.invokevirtual 45, 3) := by decide +kernel
theorem dd_L_look_70 : decode bb_L_look 70 = .ok (.ifCond .eq 7, 3) := by decide +kernel
theorem dd_L_look_73 : decode bb_L_look 73 = .ok (.iconst 1, 1) := by decide +kernel
theorem dd_L_look_74 : decode bb_L_look 74 = .ok (.goto 4, 3) := by decide +kernel
theorem dd_L_look_77 : decode bb_L_look 77 = .ok (.iconst 0, 1) := by decide +kernel
theorem dd_L_look_78 : decode bb_L_look 78 = .ok (.ireturn, 1) := by decide +kernel
theorem dd_L_look_79 : decode bb_L_look 79 = .ok (.aload_n 0, 1) := by decide +kernel
theorem dd_L_look_80 : decode bb_L_look 80 = .ok (.getfield 19, 3) := by decide +kernel
theorem dd_L_look_83 : decode bb_L_look 83 = .ok (.ifCond .eq 10, 3) := by decide +kernel
theorem dd_L_look_86 : decode bb_L_look 86 = .ok (.aload_n 0, 1) := by decide +kernel
theorem dd_L_look_87 : decode bb_L_look 87 = .ok (.getfield 30, 3) := by decide +kernel
theorem dd_L_look_90 : decode bb_L_look 90 = .ok (.goto 4, 3) := by decide +kernel
theorem dd_L_look_93 : decode bb_L_look 93 = .ok (.iconst (-1), 1) := by decide +kernel
theorem dd_L_look_94 : decode bb_L_look 94 = .ok (.ireturn, 1) := by decide +kernel
theorem dd_L_look_95 : decode bb_L_look 95 = .ok (.iconst (-1), 1) := by decide +kernel
theorem dd_L_look_96 : decode bb_L_look 96 = .ok (.ireturn, 1) := by decide +kernel
theorem dd_L_lastDefinition_0 : decode bb_L_lastDefinition 0 = .ok (.aload_n 0, 1) := by decide +kernel
theorem dd_L_lastDefinition_1 : decode bb_L_lastDefinition 1 = .ok (.getfield 10, 3) := by decide +kernel
theorem dd_L_lastDefinition_4 : decode bb_L_lastDefinition 4 = .ok (.invokevirtual 49, 3) := by decide +kernel
theorem dd_L_lastDefinition_7 : decode bb_L_lastDefinition 7 = .ok (.istore_n 1, 1) := by decide +kernel
theorem dd_L_lastDefinition_8 : decode bb_L_lastDefinition 8 = .ok (.iload_n 1, 1) := by decide +kernel
theorem dd_L_lastDefinition_9 : decode bb_L_lastDefinition 9 = .ok (.ifCond .ne 7, 3) := by decide +kernel
theorem dd_L_lastDefinition_12 : decode bb_L_lastDefinition 12 = .ok (.aconst_null, 1) := by decide +kernel
theorem dd_L_lastDefinition_13 : decode bb_L_lastDefinition 13 = .ok (.goto 16, 3) := by decide +kernel
theorem dd_L_lastDefinition_16 : decode bb_L_lastDefinition 16 = .ok (.aload_n 0, 1) := by decide +kernel
theorem dd_L_lastDefinition_17 : decode bb_L_lastDefinition 17 = .ok (.getfield 10, 3) := by decide +kernel
theorem dd_L_lastDefinition_20 : decode bb_L_lastDefinition 20 = .ok (.iload_n 1, 1) := by decide +kernel
theorem dd_L_lastDefinition_21 : decode bb_L_lastDefinition 21 = .ok (.iconst 1, 1) := by decide +kernel
theorem dd_L_lastDefinition_22 : decode bb_L_lastDefinition 22 = .ok (.isub, 1) := by decide +kernel
theorem dd_L_lastDefinition_23 : decode bb_L_lastDefinition 23 = .ok (.invokevirtual 152, 3) := by decide +kernel
theorem dd_L_lastDefinition_26 : decode bb_L_lastDefinition 26 = .ok (.checkcast 57, 3) := by decide +kernel
theorem dd_L_lastDefinition_29 : decode bb_L_lastDefinition 29 = .ok (.areturn, 1) := by decide +kernel
theorem dd_L_lastIsWhole_0 : decode bb_L_lastIsWhole 0 = .ok (.aload_n 0, 1) := by decide +kernel
theorem dd_L_lastIsWhole_1 : decode bb_L_lastIsWhole 1 = .ok (.invokevirtual 69, 3) := by decide +kernel
theorem dd_L_lastIsWhole_4 : decode bb_L_lastIsWhole 4 = .ok (.astore_n 1, 1) := by decide +kernel
theorem dd_L_lastIsWhole_5 : decode bb_L_lastIsWhole 5 = .ok (.aload_n 1, 1) := by decide +kernel
theorem dd_L_lastIsWhole_6 : decode bb_L_lastIsWhole 6 = .ok (.ifnull 10, 3) := by decide +kernel
theorem dd_L_lastIsWhole_9 : decode bb_L_lastIsWhole 9 = .ok (.aload_n 1, 1) := by decide +kernel
theorem dd_L_lastIsWhole_10 : decode bb_L_lastIsWhole 10 = .ok (.invokevirtual 87, 3) := by decide +kernel
theorem dd_L_lastIsWhole_13 : decode bb_L_lastIsWhole 13 = .ok (.ifCond .eq 7, 3) := by decide +kernel
theorem dd_L_lastIsWhole_16 : decode bb_L_lastIsWhole 16 = .ok (.iconst 1, 1) := by decide +kernel
theorem dd_L_lastIsWhole_17 : decode bb_L_lastIsWhole 17 = .ok (.goto 4, 3) := by decide +kernel
theorem dd_L_lastIsWhole_20 : decode bb_L_lastIsWhole 20 = .ok (.iconst 0, 1) := by decide +kernel
theorem dd_L_lastIsWhole_21 : decode bb_L_lastIsWhole 21 = .ok (.ireturn, 1) := by decide +kernel
theorem dd_L_definitionNamed_0 : decode bb_L_definitionNamed 0 = .ok (.iconst 0, 1) := by decide +kernel
theorem dd_L_definitionNamed_1 : decode bb_L_definitionNamed 1 = .ok (.istore_n 3, 1) := by decide +kernel
theorem dd_L_definitionNamed_2 : decode bb_L_definitionNamed 2 = .ok (.iload_n 3, 1) := by decide +kernel
theorem dd_L_definitionNamed_3 : decode bb_L_definitionNamed 3 = .ok (.aload_n 0, 1) := by decide +kernel
theorem dd_L_definitionNamed_4 : decode bb_L_definitionNamed 4 = .ok (.getfield 10, 3) := by decide +kernel
theorem dd_L_definitionNamed_7 : decode bb_L_definitionNamed 7 = .ok (.invokevirtual 49, 3) := by decide +kernel
theorem dd_L_definitionNamed_10 : decode bb_L_definitionNamed 10 = .ok (.if_icmp .ge 35, 3) := by decide +kernel
theorem dd_L_definitionNamed_13 : decode bb_L_definitionNamed 13 = .ok (.aload_n 0, 1) := by decide +kernel
theorem dd_L_definitionNamed_14 : decode bb_L_definitionNamed 14 = .ok (.getfield 10, 3) := by decide +kernel
theorem dd_L_definitionNamed_17 : decode bb_L_definitionNamed 17 = .ok (.iload_n 3, 1) := by decide +kernel
theorem dd_L_definitionNamed_18 : decode bb_L_definitionNamed 18 = .ok (.invokevirtual 152, 3) := by decide +kernel
theorem dd_L_definitionNamed_21 : decode bb_L_definitionNamed 21 = .ok (.checkcast 57, 3) := by decide +kernel
theorem dd_L_definitionNamed_24 : decode bb_L_definitionNamed 24 = .ok (.astore 4, 2) := by decide +kernel
theorem dd_L_definitionNamed_26 : decode bb_L_definitionNamed 26 = .ok (.aload 4, 2) := by decide +kernel
theorem dd_L_definitionNamed_28 : decode bb_L_definitionNamed 28 = .ok (.getfield 156, 3) := by decide +kernel
theorem dd_L_definitionNamed_31 : decode bb_L_definitionNamed 31 = .ok (.lload_n 1, 1) := by decide +kernel
theorem dd_L_definitionNamed_32 : decode bb_L_definitionNamed 32 = .ok (.lcmp, 1) := by decide +kernel
theorem dd_L_definitionNamed_33 : decode bb_L_definitionNamed 33 = .ok (.ifCond .ne 6, 3) := by decide +kernel
theorem dd_L_definitionNamed_36 : decode bb_L_definitionNamed 36 = .ok (.aload 4, 2) := by decide +kernel
theorem dd_L_definitionNamed_38 : decode bb_L_definitionNamed 38 = .ok (.areturn, 1) := by decide +kernel
theorem dd_L_definitionNamed_39 : decode bb_L_definitionNamed 39 = .ok (.iinc 3 1, 3) := by decide +kernel
theorem dd_L_definitionNamed_42 : decode bb_L_definitionNamed 42 = .ok (.goto (-40), 3) := by decide +kernel
theorem dd_L_definitionNamed_45 : decode bb_L_definitionNamed 45 = .ok (.aconst_null, 1) := by decide +kernel
theorem dd_L_definitionNamed_46 : decode bb_L_definitionNamed 46 = .ok (.areturn, 1) := by decide +kernel
theorem dd_L_nodeAt_0 : decode bb_L_nodeAt 0 = .ok (.iload_n 1, 1) := by decide +kernel
theorem dd_L_nodeAt_1 : decode bb_L_nodeAt 1 = .ok (.ifCond .lt 14, 3) := by decide +kernel
theorem dd_L_nodeAt_4 : decode bb_L_nodeAt 4 = .ok (.iload_n 1, 1) := by decide +kernel
theorem dd_L_nodeAt_5 : decode bb_L_nodeAt 5 = .ok (.aload_n 0, 1) := by decide +kernel
theorem dd_L_nodeAt_6 : decode bb_L_nodeAt 6 = .ok (.getfield 16, 3) := by decide +kernel
theorem dd_L_nodeAt_9 : decode bb_L_nodeAt 9 = .ok (.invokevirtual 49, 3) := by decide +kernel
theorem dd_L_nodeAt_12 : decode bb_L_nodeAt 12 = .ok (.if_icmp .lt 7, 3) := by decide +kernel
theorem dd_L_nodeAt_15 : decode bb_L_nodeAt 15 = .ok (.aconst_null, 1) := by decide +kernel
theorem dd_L_nodeAt_16 : decode bb_L_nodeAt 16 = .ok (.goto 14, 3) := by decide +kernel
theorem dd_L_nodeAt_19 : decode bb_L_nodeAt 19 = .ok (.aload_n 0, 1) := by decide +kernel
theorem dd_L_nodeAt_20 : decode bb_L_nodeAt 20 = .ok (.getfield 16, 3) := by decide +kernel
theorem dd_L_nodeAt_23 : decode bb_L_nodeAt 23 = .ok (.iload_n 1, 1) := by decide +kernel
theorem dd_L_nodeAt_24 : decode bb_L_nodeAt 24 = .ok (.invokevirtual 152, 3) := by decide +kernel
theorem dd_L_nodeAt_27 : decode bb_L_nodeAt 27 = .ok (.checkcast 109, 3) := by decide +kernel
theorem dd_L_nodeAt_30 : decode bb_L_nodeAt 30 = .ok (.areturn, 1) := by decide +kernel
theorem dd_L_knownNode_0 : decode bb_L_knownNode 0 = .ok (.aload_n 0, 1) := by decide +kernel
theorem dd_L_knownNode_1 : decode bb_L_knownNode 1 = .ok (.getfield 19, 3) := by decide +kernel
theorem dd_L_knownNode_4 : decode bb_L_knownNode 4 = .ok (.ifCond .eq 11, 3) := by decide +kernel
theorem dd_L_knownNode_7 : decode bb_L_knownNode 7 = .ok (.aload_n 0, 1) := by decide +kernel
theorem dd_L_knownNode_8 : decode bb_L_knownNode 8 = .ok (.iload_n 1, 1) := by decide +kernel
theorem dd_L_knownNode_9 : decode bb_L_knownNode 9 = .ok (.invokevirtual 136, 3) := by decide +kernel
theorem dd_L_knownNode_12 : decode bb_L_knownNode 12 = .ok (.goto 4, 3) := by decide +kernel
theorem dd_L_knownNode_15 : decode bb_L_knownNode 15 = .ok (.aconst_null, 1) := by decide +kernel
theorem dd_L_knownNode_16 : decode bb_L_knownNode 16 = .ok (.areturn, 1) := by decide +kernel
theorem dd_L_lookAtAll_0 : decode bb_L_lookAtAll 0 = .ok (.aload_n 0, 1) := by decide +kernel
theorem dd_L_lookAtAll_1 : decode bb_L_lookAtAll 1 = .ok (.invokevirtual 160, 3) := by decide +kernel
theorem dd_L_lookAtAll_4 : decode bb_L_lookAtAll 4 = .ok (.ifCond .ne 9, 3) := by decide +kernel
theorem dd_L_lookAtAll_7 : decode bb_L_lookAtAll 7 = .ok (.aload_n 0, 1) := by decide +kernel
theorem dd_L_lookAtAll_8 : decode bb_L_lookAtAll 8 = .ok (.iconst 4, 1) := by decide +kernel
theorem dd_L_lookAtAll_9 : decode bb_L_lookAtAll 9 = .ok (.putfield 23, 3) := by decide +kernel
theorem dd_L_lookAtAll_12 : decode bb_L_lookAtAll 12 = .ok (.return_, 1) := by decide +kernel
theorem dd_L_lookAtAll_13 : decode bb_L_lookAtAll 13 = .ok (.iconst 0, 1) := by decide +kernel
theorem dd_L_lookAtAll_14 : decode bb_L_lookAtAll 14 = .ok (.istore_n 1, 1) := by decide +kernel
theorem dd_L_lookAtAll_15 : decode bb_L_lookAtAll 15 = .ok (.iload_n 1, 1) := by decide +kernel
theorem dd_L_lookAtAll_16 : decode bb_L_lookAtAll 16 = .ok (.aload_n 0, 1) := by decide +kernel
theorem dd_L_lookAtAll_17 : decode bb_L_lookAtAll 17 = .ok (.getfield 16, 3) := by decide +kernel
theorem dd_L_lookAtAll_20 : decode bb_L_lookAtAll 20 = .ok (.invokevirtual 49, 3) := by decide +kernel
theorem dd_L_lookAtAll_23 : decode bb_L_lookAtAll 23 = .ok (.if_icmp .ge 31, 3) := by decide +kernel
theorem dd_L_lookAtAll_26 : decode bb_L_lookAtAll 26 = .ok (.aload_n 0, 1) := by decide +kernel
theorem dd_L_lookAtAll_27 : decode bb_L_lookAtAll 27 = .ok (.getfield 23, 3) := by decide +kernel
theorem dd_L_lookAtAll_30 : decode bb_L_lookAtAll 30 = .ok (.ifCond .ne 24, 3) := by decide +kernel
theorem dd_L_lookAtAll_33 : decode bb_L_lookAtAll 33 = .ok (.aload_n 0, 1) := by decide +kernel
theorem dd_L_lookAtAll_34 : decode bb_L_lookAtAll 34 = .ok (.aload_n 0, 1) := by decide +kernel
theorem dd_L_lookAtAll_35 : decode bb_L_lookAtAll 35 = .ok (.getfield 16, 3) := by decide +kernel
theorem dd_L_lookAtAll_38 : decode bb_L_lookAtAll 38 = .ok (.iload_n 1, 1) := by decide +kernel
theorem dd_L_lookAtAll_39 : decode bb_L_lookAtAll 39 = .ok (.invokevirtual 152, 3) := by decide +kernel
theorem dd_L_lookAtAll_42 : decode bb_L_lookAtAll 42 = .ok (.checkcast 109, 3) := by decide +kernel
theorem dd_L_lookAtAll_45 : decode bb_L_lookAtAll 45 = .ok (.invokevirtual 163, 3) := by decide +kernel
theorem dd_L_lookAtAll_48 : decode bb_L_lookAtAll 48 = .ok (.iinc 1 1, 3) := by decide +kernel
theorem dd_L_lookAtAll_51 : decode bb_L_lookAtAll 51 = .ok (.goto (-36), 3) := by decide +kernel
theorem dd_L_lookAtAll_54 : decode bb_L_lookAtAll 54 = .ok (.return_, 1) := by decide +kernel
theorem dd_L_endsInMain_0 : decode bb_L_endsInMain 0 = .ok (.aload_n 0, 1) := by decide +kernel
theorem dd_L_endsInMain_1 : decode bb_L_endsInMain 1 = .ok (.invokevirtual 69, 3) := by decide +kernel
theorem dd_L_endsInMain_4 : decode bb_L_endsInMain 4 = .ok (.astore_n 1, 1) := by decide +kernel
theorem dd_L_endsInMain_5 : decode bb_L_endsInMain 5 = .ok (.aload_n 1, 1) := by decide +kernel
theorem dd_L_endsInMain_6 : decode bb_L_endsInMain 6 = .ok (.ifnull 50, 3) := by decide +kernel
theorem dd_L_endsInMain_9 : decode bb_L_endsInMain 9 = .ok (.aload_n 1, 1) := by decide +kernel
theorem dd_L_endsInMain_10 : decode bb_L_endsInMain 10 = .ok (.getfield 166, 3) := by decide +kernel
theorem dd_L_endsInMain_13 : decode bb_L_endsInMain 13 = .ok (.ifCond .ne 43, 3) := by decide +kernel
theorem dd_L_endsInMain_16 : decode bb_L_endsInMain 16 = .ok (.aload_n 1, 1) := by decide +kernel
theorem dd_L_endsInMain_17 : decode bb_L_endsInMain 17 = .ok (.getfield 156, 3) := by decide +kernel
theorem dd_L_endsInMain_20 : decode bb_L_endsInMain 20 = .ok (.ldc2_w 169, 3) := by decide +kernel
theorem dd_L_endsInMain_23 : decode bb_L_endsInMain 23 = .ok (.lcmp, 1) := by decide +kernel
theorem dd_L_endsInMain_24 : decode bb_L_endsInMain 24 = .ok (.ifCond .ne 32, 3) := by decide +kernel
theorem dd_L_endsInMain_27 : decode bb_L_endsInMain 27 = .ok (.aload_n 1, 1) := by decide +kernel
theorem dd_L_endsInMain_28 : decode bb_L_endsInMain 28 = .ok (.getfield 171, 3) := by decide +kernel
theorem dd_L_endsInMain_31 : decode bb_L_endsInMain 31 = .ok (.iconst 3, 1) := by decide +kernel
theorem dd_L_endsInMain_32 : decode bb_L_endsInMain 32 = .ok (.if_icmp .ne 24, 3) := by decide +kernel
theorem dd_L_endsInMain_35 : decode bb_L_endsInMain 35 = .ok (.aload_n 1, 1) := by decide +kernel
theorem dd_L_endsInMain_36 : decode bb_L_endsInMain 36 = .ok (.getfield 76, 3) := by decide +kernel
theorem dd_L_endsInMain_39 : decode bb_L_endsInMain 39 = .ok (.iconst 1, 1) := by decide +kernel
theorem dd_L_endsInMain_40 : decode bb_L_endsInMain 40 = .ok (.if_icmp .ne 16, 3) := by decide +kernel
theorem dd_L_endsInMain_43 : decode bb_L_endsInMain 43 = .ok (.aload_n 1, 1) := by decide +kernel
theorem dd_L_endsInMain_44 : decode bb_L_endsInMain 44 = .ok (.iconst 0, 1) := by decide +kernel
theorem dd_L_endsInMain_45 : decode bb_L_endsInMain 45 = .ok (.invokevirtual 172, 3) := by decide +kernel
theorem dd_L_endsInMain_48 : decode bb_L_endsInMain 48 = .ok (.iconst 3, 1) := by decide +kernel
theorem dd_L_endsInMain_49 : decode bb_L_endsInMain 49 = .ok (.if_icmp .ne 7, 3) := by decide +kernel
theorem dd_L_endsInMain_52 : decode bb_L_endsInMain 52 = .ok (.iconst 1, 1) := by decide +kernel
theorem dd_L_endsInMain_53 : decode bb_L_endsInMain 53 = .ok (.goto 4, 3) := by decide +kernel
theorem dd_L_endsInMain_56 : decode bb_L_endsInMain 56 = .ok (.iconst 0, 1) := by decide +kernel
theorem dd_L_endsInMain_57 : decode bb_L_endsInMain 57 = .ok (.ireturn, 1) := by decide +kernel
theorem dd_L_lookAt_0 : decode bb_L_lookAt 0 = .ok (.aload_n 0, 1) := by decide +kernel
theorem dd_L_lookAt_1 : decode bb_L_lookAt 1 = .ok (.aload_n 1, 1) := by decide +kernel
theorem dd_L_lookAt_2 : decode bb_L_lookAt 2 = .ok (.invokevirtual 176, 3) := by decide +kernel
theorem dd_L_lookAt_5 : decode bb_L_lookAt 5 = .ok (.ifCond .ne 17, 3) := by decide +kernel
theorem dd_L_lookAt_8 : decode bb_L_lookAt 8 = .ok (.aload_n 0, 1) := by decide +kernel
theorem dd_L_lookAt_9 : decode bb_L_lookAt 9 = .ok (.iconst 5, 1) := by decide +kernel
theorem dd_L_lookAt_10 : decode bb_L_lookAt 10 = .ok (.putfield 23, 3) := by decide +kernel
theorem dd_L_lookAt_13 : decode bb_L_lookAt 13 = .ok (.aload_n 0, 1) := by decide +kernel
theorem dd_L_lookAt_14 : decode bb_L_lookAt 14 = .ok (.aload_n 1, 1) := by decide +kernel
theorem dd_L_lookAt_15 : decode bb_L_lookAt 15 = .ok (.getfield 118, 3) := by decide +kernel
theorem dd_L_lookAt_18 : decode bb_L_lookAt 18 = .ok (.putfield 27, 3) := by decide +kernel
theorem dd_L_lookAt_21 : decode bb_L_lookAt 21 = .ok (.return_, 1) := by decide +kernel
theorem dd_L_lookAt_22 : decode bb_L_lookAt 22 = .ok (.aload_n 0, 1) := by decide +kernel
theorem dd_L_lookAt_23 : decode bb_L_lookAt 23 = .ok (.aload_n 0, 1) := by decide +kernel
theorem dd_L_lookAt_24 : decode bb_L_lookAt 24 = .ok (.getfield 30, 3) := by decide +kernel
theorem dd_L_lookAt_27 : decode bb_L_lookAt 27 = .ok (.aload_n 1, 1) := by decide +kernel
theorem dd_L_lookAt_28 : decode bb_L_lookAt 28 = .ok (.getfield 180, 3) := by decide +kernel
theorem dd_L_lookAt_31 : decode bb_L_lookAt 31 = .ok (.invokestatic 183, 3) := by decide +kernel
theorem dd_L_lookAt_34 : decode bb_L_lookAt 34 = .ok (.putfield 30, 3) := by decide +kernel
theorem dd_L_lookAt_37 : decode bb_L_lookAt 37 = .ok (.aload_n 1, 1) := by decide +kernel
theorem dd_L_lookAt_38 : decode bb_L_lookAt 38 = .ok (.getfield 142, 3) := by decide +kernel
theorem dd_L_lookAt_41 : decode bb_L_lookAt 41 = .ok (.ifCond .ne 10, 3) := by decide +kernel
theorem dd_L_lookAt_44 : decode bb_L_lookAt 44 = .ok (.aload_n 1, 1) := by decide +kernel
theorem dd_L_lookAt_45 : decode bb_L_lookAt 45 = .ok (.invokestatic 189, 3) := by decide +kernel
theorem dd_L_lookAt_48 : decode bb_L_lookAt 48 = .ok (.goto 4, 3) := by decide +kernel
theorem dd_L_lookAt_51 : decode bb_L_lookAt 51 = .ok (.aconst_null, 1) := by decide +kernel
theorem dd_L_lookAt_52 : decode bb_L_lookAt 52 = .ok (.astore_n 2, 1) := by decide +kernel
theorem dd_L_lookAt_53 : decode bb_L_lookAt 53 = .ok (.aload_n 2, 1) := by decide +kernel
theorem dd_L_lookAt_54 : decode bb_L_lookAt 54 = .ok (.ifnull 17, 3) := by decide +kernel
theorem dd_L_lookAt_57 : decode bb_L_lookAt 57 = .ok (.aload_n 0, 1) := by decide +kernel
theorem dd_L_lookAt_58 : decode bb_L_lookAt 58 = .ok (.bipush 6, 2) := by decide +kernel
theorem dd_L_lookAt_60 : decode bb_L_lookAt 60 = .ok (.putfield 23, 3) := by decide +kernel
theorem dd_L_lookAt_63 : decode bb_L_lookAt 63 = .ok (.aload_n 0, 1) := by decide +kernel
theorem dd_L_lookAt_64 : decode bb_L_lookAt 64 = .ok (.aload_n 2, 1) := by decide +kernel
theorem dd_L_lookAt_65 : decode bb_L_lookAt 65 = .ok (.getfield 118, 3) := by decide +kernel
theorem dd_L_lookAt_68 : decode bb_L_lookAt 68 = .ok (.putfield 27, 3) := by decide +kernel
theorem dd_L_lookAt_71 : decode bb_L_lookAt 71 = .ok (.return_, 1) := by decide +kernel
theorem dd_L_arriveAt_0 : decode bb_L_arriveAt 0 = .ok (.aload_n 1, 1) := by decide +kernel
theorem dd_L_arriveAt_1 : decode bb_L_arriveAt 1 = .ok (.invokevirtual 193, 3) := by decide +kernel
theorem dd_L_arriveAt_4 : decode bb_L_arriveAt 4 = .ok (.aload_n 1, 1) := by decide +kernel
theorem dd_L_arriveAt_5 : decode bb_L_arriveAt 5 = .ok (.getfield 139, 3) := by decide +kernel
theorem dd_L_arriveAt_8 : decode bb_L_arriveAt 8 = .ok (.iconst 1, 1) := by decide +kernel
theorem dd_L_arriveAt_9 : decode bb_L_arriveAt 9 = .ok (.if_icmp .ne 8, 3) := by decide +kernel
theorem dd_L_arriveAt_12 : decode bb_L_arriveAt 12 = .ok (.aload_n 1, 1) := by decide +kernel
theorem dd_L_arriveAt_13 : decode bb_L_arriveAt 13 = .ok (.invokevirtual 196, 3) := by decide +kernel
theorem dd_L_arriveAt_16 : decode bb_L_arriveAt 16 = .ok (.ireturn, 1) := by decide +kernel
theorem dd_L_arriveAt_17 : decode bb_L_arriveAt 17 = .ok (.aload_n 1, 1) := by decide +kernel
theorem dd_L_arriveAt_18 : decode bb_L_arriveAt 18 = .ok (.getfield 139, 3) := by decide +kernel
theorem dd_L_arriveAt_21 : decode bb_L_arriveAt 21 = .ok (.invokestatic 199, 3) := by decide +kernel
theorem dd_L_arriveAt_24 : decode bb_L_arriveAt 24 = .ok (.ifCond .eq 16, 3) := by decide +kernel
theorem dd_L_arriveAt_27 : decode bb_L_arriveAt 27 = .ok (.aload_n 1, 1) := by decide +kernel
theorem dd_L_arriveAt_28 : decode bb_L_arriveAt 28 = .ok (.aload_n 0, 1) := by decide +kernel
theorem dd_L_arriveAt_29 : decode bb_L_arriveAt 29 = .ok (.aload_n 1, 1) := by decide +kernel
theorem dd_L_arriveAt_30 : decode bb_L_arriveAt 30 = .ok (.getfield 202, 3) := by decide +kernel
theorem dd_L_arriveAt_33 : decode bb_L_arriveAt 33 = .ok (.invokevirtual 53, 3) := by decide +kernel
theorem dd_L_arriveAt_36 : decode bb_L_arriveAt 36 = .ok (.invokevirtual 205, 3) := by decide +kernel
theorem dd_L_arriveAt_39 : decode bb_L_arriveAt 39 = .ok (.ireturn, 1) := by decide +kernel
theorem dd_L_arriveAt_40 : decode bb_L_arriveAt 40 = .ok (.aload_n 1, 1) := by decide +kernel
theorem dd_L_arriveAt_41 : decode bb_L_arriveAt 41 = .ok (.aload_n 1, 1) := by decide +kernel
theorem dd_L_arriveAt_42 : decode bb_L_arriveAt 42 = .ok (.getfield 139, 3) := by decide +kernel
theorem dd_L_arriveAt_45 : decode bb_L_arriveAt 45 = .ok (.invokestatic 209, 3) := by decide +kernel
theorem dd_L_arriveAt_48 : decode bb_L_arriveAt 48 = .ok (.putfield 126, 3) := by decide +kernel
theorem dd_L_arriveAt_51 : decode bb_L_arriveAt 51 = .ok (.iconst 1, 1) := by decide +kernel
theorem dd_L_arriveAt_52 : decode bb_L_arriveAt 52 = .ok (.ireturn, 1) := by decide +kernel
theorem dd_L_firstMisfit_0 : decode bb_L_firstMisfit 0 = .ok (.aload_n 0, 1) := by decide +kernel
theorem dd_L_firstMisfit_1 : decode bb_L_firstMisfit 1 = .ok (.astore_n 1, 1) := by decide +kernel
theorem dd_L_firstMisfit_2 : decode bb_L_firstMisfit 2 = .ok (.aload_n 1, 1) := by decide +kernel
theorem dd_L_firstMisfit_3 : decode bb_L_firstMisfit 3 = .ok (.ifnull 53, 3) := by decide +kernel
theorem dd_L_firstMisfit_6 : decode bb_L_firstMisfit 6 = .ok (.aload_n 1, 1) := by decide +kernel
theorem dd_L_firstMisfit_7 : decode bb_L_firstMisfit 7 = .ok (.invokevirtual 212, 3) := by decide +kernel
theorem dd_L_firstMisfit_10 : decode bb_L_firstMisfit 10 = .ok (.ifCond .ne 5, 3) := by decide +kernel
theorem dd_L_firstMisfit_13 : decode bb_L_firstMisfit 13 = .ok (.aload_n 1, 1) := by decide +kernel
theorem dd_L_firstMisfit_14 : decode bb_L_firstMisfit 14 = .ok (.areturn, 1) := by decide +kernel
theorem dd_L_firstMisfit_15 : decode bb_L_firstMisfit 15 = .ok (.aload_n 1, 1) := by decide +kernel
theorem dd_L_firstMisfit_16 : decode bb_L_firstMisfit 16 = .ok (.getfield 145, 3) := by decide +kernel
theorem dd_L_firstMisfit_19 : decode bb_L_firstMisfit 19 = .ok (.ifnull 18, 3) := by decide +kernel
theorem dd_L_firstMisfit_22 : decode bb_L_firstMisfit 22 = .ok (.aload_n 1, 1) := by decide +kernel
theorem dd_L_firstMisfit_23 : decode bb_L_firstMisfit 23 = .ok (.getfield 145, 3) := by decide +kernel
theorem dd_L_firstMisfit_26 : decode bb_L_firstMisfit 26 = .ok (.aload_n 1, 1) := by decide +kernel
theorem dd_L_firstMisfit_27 : decode bb_L_firstMisfit 27 = .ok (.getfield 215, 3) := by decide +kernel
theorem dd_L_firstMisfit_30 : decode bb_L_firstMisfit 30 = .ok (.aload_n 1, 1) := by decide +kernel
theorem dd_L_firstMisfit_31 : decode bb_L_firstMisfit 31 = .ok (.getfield 126, 3) := by decide +kernel
theorem dd_L_firstMisfit_34 : decode bb_L_firstMisfit 34 = .ok (.invokevirtual 218, 3) := by decide +kernel
theorem dd_L_firstMisfit_37 : decode bb_L_firstMisfit 37 = .ok (.aload_n 1, 1) := by decide +kernel
theorem dd_L_firstMisfit_38 : decode bb_L_firstMisfit 38 = .ok (.invokevirtual 222, 3) := by decide +kernel
theorem dd_L_firstMisfit_41 : decode bb_L_firstMisfit 41 = .ok (.ifCond .eq 10, 3) := by decide +kernel
theorem dd_L_firstMisfit_44 : decode bb_L_firstMisfit 44 = .ok (.aload_n 1, 1) := by decide +kernel
theorem dd_L_firstMisfit_45 : decode bb_L_firstMisfit 45 = .ok (.getfield 145, 3) := by decide +kernel
theorem dd_L_firstMisfit_48 : decode bb_L_firstMisfit 48 = .ok (.goto 4, 3) := by decide +kernel
theorem dd_L_firstMisfit_51 : decode bb_L_firstMisfit 51 = .ok (.aconst_null, 1) := by decide +kernel
theorem dd_L_firstMisfit_52 : decode bb_L_firstMisfit 52 = .ok (.astore_n 1, 1) := by decide +kernel
theorem dd_L_firstMisfit_53 : decode bb_L_firstMisfit 53 = .ok (.goto (-51), 3) := by decide +kernel
theorem dd_L_firstMisfit_56 : decode bb_L_firstMisfit 56 = .ok (.aconst_null, 1) := by decide +kernel
theorem dd_L_firstMisfit_57 : decode bb_L_firstMisfit 57 = .ok (.areturn, 1) := by decide +kernel
