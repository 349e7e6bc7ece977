theorem dd_M_init_0 : decode bb_M_init 0 = .ok (.aload_n 0, 1) := by decide +kernel
theorem dd_M_init_1 : decode bb_M_init 1 = .ok (.invokespecial 1, 3) := by decide +kernel
theorem dd_M_init_4 : decode bb_M_init 4 = .ok (.aload_n 0, 1) := by decide +kernel
theorem dd_M_init_5 : decode bb_M_init 5 = .ok (.bipush 64, 2) := by decide +kernel
theorem dd_M_init_7 : decode bb_M_init 7 = .ok (.newarray .boolean, 2) := by decide +kernel
theorem dd_M_init_9 : decode bb_M_init 9 = .ok (.putfield 7, 3) := by decide +kernel
theorem dd_M_init_12 : decode bb_M_init 12 = .ok (.aload_n 0, 1) := by decide +kernel
theorem dd_M_init_13 : decode bb_M_init 13 = .ok (.bipush 64, 2) := by decide +kernel
theorem dd_M_init_15 : decode bb_M_init 15 = .ok (.newarray .long, 2) := by decide +kernel
theorem dd_M_init_17 : decode bb_M_init 17 = .ok (.putfield 13, 3) := by decide +kernel
theorem dd_M_init_20 : decode bb_M_init 20 = .ok (.aload_n 0, 1) := by decide +kernel
theorem dd_M_init_21 : decode bb_M_init 21 = .ok (.bipush 64, 2) := by decide +kernel
theorem dd_M_init_23 : decode bb_M_init 23 = .ok (.newarray .int, 2) := by decide +kernel
theorem dd_M_init_25 : decode bb_M_init 25 = .ok (.putfield 17, 3) := by decide +kernel
theorem dd_M_init_28 : decode bb_M_init 28 = .ok (.aload_n 0, 1) := by decide +kernel
theorem dd_M_init_29 : decode bb_M_init 29 = .ok (.bipush 64, 2) := by decide +kernel
theorem dd_M_init_31 : decode bb_M_init 31 = .ok (.newarray .int, 2) := by decide +kernel
theorem dd_M_init_33 : decode bb_M_init 33 = .ok (.putfield 21, 3) := by decide +kernel
theorem dd_M_init_36 : decode bb_M_init 36 = .ok (.aload_n 0, 1) := by decide +kernel
theorem dd_M_init_37 : decode bb_M_init 37 = .ok (.sipush 512, 3) := by decide +kernel
theorem dd_M_init_40 : decode bb_M_init 40 = .ok (.newarray .long, 2) := by decide +kernel
theorem dd_M_init_42 : decode bb_M_init 42 = .ok (.putfield 24, 3) := by decide +kernel
theorem dd_M_init_45 : decode bb_M_init 45 = .ok (.aload_n 0, 1) := by decide +kernel
theorem dd_M_init_46 : decode bb_M_init 46 = .ok (.sipush 512, 3) := by decide +kernel
theorem dd_M_init_49 : decode bb_M_init 49 = .ok (.newarray .int, 2) := by decide +kernel
theorem dd_M_init_51 : decode bb_M_init 51 = .ok (.putfield 27, 3) := by decide +kernel
theorem dd_M_init_54 : decode bb_M_init 54 = .ok (.aload_n 0, 1) := by decide +kernel
theorem dd_M_init_55 : decode bb_M_init 55 = .ok (.bipush 65, 2) := by decide +kernel
theorem dd_M_init_57 : decode bb_M_init 57 = .ok (.newarray .int, 2) := by decide +kernel
theorem dd_M_init_59 : decode bb_M_init 59 = .ok (.putfield 30, 3) := by decide +kernel
theorem dd_M_init_62 : decode bb_M_init 62 = .ok (.aload_n 0, 1) := by decide +kernel
theorem dd_M_init_63 : decode bb_M_init 63 = .ok (.sipush 4096, 3) := by decide +kernel
theorem dd_M_init_66 : decode bb_M_init 66 = .ok (.newarray .int, 2) := by decide +kernel
theorem dd_M_init_68 : decode bb_M_init 68 = .ok (.putfield 33, 3) := by decide +kernel
theorem dd_M_init_71 : decode bb_M_init 71 = .ok (.aload_n 0, 1) := by decide +kernel
theorem dd_M_init_72 : decode bb_M_init 72 = .ok (.sipush 4096, 3) := by decide +kernel
theorem dd_M_init_75 : decode bb_M_init 75 = .ok (.newarray .long, 2) := by decide +kernel
theorem dd_M_init_77 : decode bb_M_init 77 = .ok (.putfield 36, 3) := by decide +kernel
theorem dd_M_init_80 : decode bb_M_init 80 = .ok (.aload_n 0, 1) := by decide +kernel
theorem dd_M_init_81 : decode bb_M_init 81 = .ok (.sipush 4096, 3) := by decide +kernel
theorem dd_M_init_84 : decode bb_M_init 84 = .ok (.newarray .long, 2) := by decide +kernel
theorem dd_M_init_86 : decode bb_M_init 86 = .ok (.putfield 39, 3) := by decide +kernel
theorem dd_M_init_89 : decode bb_M_init 89 = .ok (.aload_n 0, 1) := by decide +kernel
theorem dd_M_init_90 : decode bb_M_init 90 = .ok (.sipush 4096, 3) := by decide +kernel
theorem dd_M_init_93 : decode bb_M_init 93 = .ok (.newarray .int, 2) := by decide +kernel
theorem dd_M_init_95 : decode bb_M_init 95 = .ok (.putfield 42, 3) := by decide +kernel
theorem dd_M_init_98 : decode bb_M_init 98 = .ok (.aload_n 0, 1) := by decide +kernel
theorem dd_M_init_99 : decode bb_M_init 99 = .ok (.sipush 4096, 3) := by decide +kernel
theorem dd_M_init_102 : decode bb_M_init 102 = .ok (.newarray .int, 2) := by decide +kernel
theorem dd_M_init_104 : decode bb_M_init 104 = .ok (.putfield 45, 3) := by decide +kernel
theorem dd_M_init_107 : decode bb_M_init 107 = .ok (.aload_n 0, 1) := by decide +kernel
theorem dd_M_init_108 : decode bb_M_init 108 = .ok (.sipush 4096, 3) := by decide +kernel
theorem dd_M_init_111 : decode bb_M_init 111 = .ok (.newarray .int, 2) := by decide +kernel
theorem dd_M_init_113 : decode bb_M_init 113 = .ok (.putfield 48, 3) := by decide +kernel
theorem dd_M_init_116 : decode bb_M_init 116 = .ok (.aload_n 0, 1) := by decide +kernel
theorem dd_M_init_117 : decode bb_M_init 117 = .ok (.sipush 4096, 3) := by decide +kernel
theorem dd_M_init_120 : decode bb_M_init 120 = .ok (.newarray .int, 2) := by decide +kernel
theorem dd_M_init_122 : decode bb_M_init 122 = .ok (.putfield 51, 3) := by decide +kernel
theorem dd_M_init_125 : decode bb_M_init 125 = .ok (.aload_n 0, 1) := by decide +kernel
theorem dd_M_init_126 : decode bb_M_init 126 = .ok (.sipush 4096, 3) := by decide +kernel
theorem dd_M_init_129 : decode bb_M_init 129 = .ok (.newarray .int, 2) := by decide +kernel
theorem dd_M_init_131 : decode bb_M_init 131 = .ok (.putfield 54, 3) := by decide +kernel
theorem dd_M_init_134 : decode bb_M_init 134 = .ok (.aload_n 0, 1) := by decide +kernel
theorem dd_M_init_135 : decode bb_M_init 135 = .ok (.sipush 4096, 3) := by decide +kernel
theorem dd_M_init_138 : decode bb_M_init 138 = .ok (.newarray .int, 2) := by decide +kernel
theorem dd_M_init_140 : decode bb_M_init 140 = .ok (.putfield 57, 3) := by decide +kernel
theorem dd_M_init_143 : decode bb_M_init 143 = .ok (.aload_n 0, 1) := by decide +kernel
theorem dd_M_init_144 : decode bb_M_init 144 = .ok (.sipush 4096, 3) := by decide +kernel
theorem dd_M_init_147 : decode bb_M_init 147 = .ok (.newarray .int, 2) := by decide +kernel
theorem dd_M_init_149 : decode bb_M_init 149 = .ok (.putfield 60, 3) := by decide +kernel
theorem dd_M_init_152 : decode bb_M_init 152 = .ok (.aload_n 0, 1) := by decide +kernel
theorem dd_M_init_153 : decode bb_M_init 153 = .ok (.sipush 4096, 3) := by decide +kernel
theorem dd_M_init_156 : decode bb_M_init 156 = .ok (.newarray .int, 2) := by decide +kernel
theorem dd_M_init_158 : decode bb_M_init 158 = .ok (.putfield 63, 3) := by decide +kernel
theorem dd_M_init_161 : decode bb_M_init 161 = .ok (.aload_n 0, 1) := by decide +kernel
theorem dd_M_init_162 : decode bb_M_init 162 = .ok (.iconst (-1), 1) := by decide +kernel
theorem dd_M_init_163 : decode bb_M_init 163 = .ok (.putfield 66, 3) := by decide +kernel
theorem dd_M_init_166 : decode bb_M_init 166 = .ok (.return_, 1) := by decide +kernel
theorem dd_M_clear_0 : decode bb_M_clear 0 = .ok (.aload_n 0, 1) := by decide +kernel
theorem dd_M_clear_1 : decode bb_M_clear 1 = .ok (.iconst 0, 1) := by decide +kernel
theorem dd_M_clear_2 : decode bb_M_clear 2 = .ok (.putfield 70, 3) := by decide +kernel
theorem dd_M_clear_5 : decode bb_M_clear 5 = .ok (.aload_n 0, 1) := by decide +kernel
theorem dd_M_clear_6 : decode bb_M_clear 6 = .ok (.iconst 0, 1) := by decide +kernel
theorem dd_M_clear_7 : decode bb_M_clear 7 = .ok (.putfield 73, 3) := by decide +kernel
theorem dd_M_clear_10 : decode bb_M_clear 10 = .ok (.aload_n 0, 1) := by decide +kernel
theorem dd_M_clear_11 : decode bb_M_clear 11 = .ok (.iconst 0, 1) := by decide +kernel
theorem dd_M_clear_12 : decode bb_M_clear 12 = .ok (.putfield 76, 3) := by decide +kernel
theorem dd_M_clear_15 : decode bb_M_clear 15 = .ok (.aload_n 0, 1) := by decide +kernel
theorem dd_M_clear_16 : decode bb_M_clear 16 = .ok (.iconst 0, 1) := by decide +kernel
theorem dd_M_clear_17 : decode bb_M_clear 17 = .ok (.putfield 79, 3) := by decide +kernel
theorem dd_M_clear_20 : decode bb_M_clear 20 = .ok (.aload_n 0, 1) := by decide +kernel
theorem dd_M_clear_21 : decode bb_M_clear 21 = .ok (.iconst 0, 1) := by decide +kernel
theorem dd_M_clear_22 : decode bb_M_clear 22 = .ok (.putfield 83, 3) := by decide +kernel
theorem dd_M_clear_25 : decode bb_M_clear 25 = .ok (.aload_n 0, 1) := by decide +kernel
theorem dd_M_clear_26 : decode bb_M_clear 26 = .ok (.iconst (-1), 1) := by decide +kernel
theorem dd_M_clear_27 : decode bb_M_clear 27 = .ok (.putfield 66, 3) := by decide +kernel
theorem dd_M_clear_30 : decode bb_M_clear 30 = .ok (.return_, 1) := by decide +kernel
theorem dd_M_lacking_0 : decode bb_M_lacking 0 = .ok (.aload_n 0, 1) := by decide +kernel
theorem dd_M_lacking_1 : decode bb_M_lacking 1 = .ok (.getfield 73, 3) := by decide +kernel
theorem dd_M_lacking_4 : decode bb_M_lacking 4 = .ok (.ifCond .eq 21, 3) := by decide +kernel
theorem dd_M_lacking_7 : decode bb_M_lacking 7 = .ok (.aload_n 0, 1) := by decide +kernel
theorem dd_M_lacking_8 : decode bb_M_lacking 8 = .ok (.getfield 76, 3) := by decide +kernel
theorem dd_M_lacking_11 : decode bb_M_lacking 11 = .ok (.aload_n 0, 1) := by decide +kernel
theorem dd_M_lacking_12 : decode bb_M_lacking 12 = .ok (.getfield 30, 3) := by decide +kernel
theorem dd_M_lacking_15 : decode bb_M_lacking 15 = .ok (.aload_n 0, 1) := by decide +kernel
theorem dd_M_lacking_16 : decode bb_M_lacking 16 = .ok (.getfield 73, 3) := by decide +kernel
theorem dd_M_lacking_19 : decode bb_M_lacking 19 = .ok (.iconst 1, 1) := by decide +kernel
theorem dd_M_lacking_20 : decode bb_M_lacking 20 = .ok (.isub, 1) := by decide +kernel
theorem dd_M_lacking_21 : decode bb_M_lacking 21 = .ok (.iaload, 1) := by decide +kernel
theorem dd_M_lacking_22 : decode bb_M_lacking 22 = .ok (.if_icmp .ne 7, 3) := by decide +kernel
theorem dd_M_lacking_25 : decode bb_M_lacking 25 = .ok (.iconst (-1), 1) := by decide +kernel
theorem dd_M_lacking_26 : decode bb_M_lacking 26 = .ok (.goto 9, 3) := by decide +kernel
theorem dd_M_lacking_29 : decode bb_M_lacking 29 = .ok (.aload_n 0, 1) := by decide +kernel
theorem dd_M_lacking_30 : decode bb_M_lacking 30 = .ok (.getfield 76, 3) := by decide +kernel
theorem dd_M_lacking_33 : decode bb_M_lacking 33 = .ok (.iconst 1, 1) := by decide +kernel
theorem dd_M_lacking_34 : decode bb_M_lacking 34 = .ok (.isub, 1) := by decide +kernel
theorem dd_M_lacking_35 : decode bb_M_lacking 35 = .ok (.istore_n 1, 1) := by decide +kernel
theorem dd_M_lacking_36 : decode bb_M_lacking 36 = .ok (.iload_n 1, 1) := by decide +kernel
theorem dd_M_lacking_37 : decode bb_M_lacking 37 = .ok (.ifCond .lt 28, 3) := by decide +kernel
theorem dd_M_lacking_40 : decode bb_M_lacking 40 = .ok (.aload_n 0, 1) := by decide +kernel
theorem dd_M_lacking_41 : decode bb_M_lacking 41 = .ok (.getfield 54, 3) := by decide +kernel
theorem dd_M_lacking_44 : decode bb_M_lacking 44 = .ok (.iload_n 1, 1) := by decide +kernel
theorem dd_M_lacking_45 : decode bb_M_lacking 45 = .ok (.iaload, 1) := by decide +kernel
theorem dd_M_lacking_46 : decode bb_M_lacking 46 = .ok (.aload_n 0, 1) := by decide +kernel
theorem dd_M_lacking_47 : decode bb_M_lacking 47 = .ok (.getfield 42, 3) := by decide +kernel
theorem dd_M_lacking_50 : decode bb_M_lacking 50 = .ok (.iload_n 1, 1) := by decide +kernel
theorem dd_M_lacking_51 : decode bb_M_lacking 51 = .ok (.iaload, 1) := by decide +kernel
theorem dd_M_lacking_52 : decode bb_M_lacking 52 = .ok (.if_icmp .ne 13, 3) := by decide +kernel
theorem dd_M_lacking_55 : decode bb_M_lacking 55 = .ok (.aload_n 0, 1) := by decide +kernel
theorem dd_M_lacking_56 : decode bb_M_lacking 56 = .ok (.getfield 45, 3) := by decide +kernel
theorem dd_M_lacking_59 : decode bb_M_lacking 59 = .ok (.iload_n 1, 1) := by decide +kernel
theorem dd_M_lacking_60 : decode bb_M_lacking 60 = .ok (.iaload, 1) := by decide +kernel
theorem dd_M_lacking_61 : decode bb_M_lacking 61 = .ok (.istore_n 1, 1) := by decide +kernel
theorem dd_M_lacking_62 : decode bb_M_lacking 62 = .ok (.goto (-26), 3) := by decide +kernel
theorem dd_M_lacking_65 : decode bb_M_lacking 65 = .ok (.iload_n 1, 1) := by decide +kernel
theorem dd_M_lacking_66 : decode bb_M_lacking 66 = .ok (.ireturn, 1) := by decide +kernel
theorem dd_M_isWhole_0 : decode bb_M_isWhole 0 = .ok (.aload_n 0, 1) := by decide +kernel
theorem dd_M_isWhole_1 : decode bb_M_isWhole 1 = .ok (.getfield 73, 3) := by decide +kernel
theorem dd_M_isWhole_4 : decode bb_M_isWhole 4 = .ok (.ifCond .eq 28, 3) := by decide +kernel
theorem dd_M_isWhole_7 : decode bb_M_isWhole 7 = .ok (.aload_n 0, 1) := by decide +kernel
theorem dd_M_isWhole_8 : decode bb_M_isWhole 8 = .ok (.getfield 76, 3) := by decide +kernel
theorem dd_M_isWhole_11 : decode bb_M_isWhole 11 = .ok (.aload_n 0, 1) := by decide +kernel
theorem dd_M_isWhole_12 : decode bb_M_isWhole 12 = .ok (.getfield 30, 3) := by decide +kernel
theorem dd_M_isWhole_15 : decode bb_M_isWhole 15 = .ok (.aload_n 0, 1) := by decide +kernel
theorem dd_M_isWhole_16 : decode bb_M_isWhole 16 = .ok (.getfield 73, 3) := by decide +kernel
theorem dd_M_isWhole_19 : decode bb_M_isWhole 19 = .ok (.iconst 1, 1) := by decide +kernel
theorem dd_M_isWhole_20 : decode bb_M_isWhole 20 = .ok (.isub, 1) := by decide +kernel
theorem dd_M_isWhole_21 : decode bb_M_isWhole 21 = .ok (.iaload, 1) := by decide +kernel
theorem dd_M_isWhole_22 : decode bb_M_isWhole 22 = .ok (.if_icmp .le 14, 3) := by decide +kernel
theorem dd_M_isWhole_25 : decode bb_M_isWhole 25 = .ok (.aload_n 0, 1) := by decide +kernel
theorem dd_M_isWhole_26 : decode bb_M_isWhole 26 = .ok (.invokevirtual 86, 3) := by decide +kernel
theorem dd_M_isWhole_29 : decode bb_M_isWhole 29 = .ok (.ifCond .ge 7, 3) := by decide +kernel
theorem dd_M_isWhole_32 : decode bb_M_isWhole 32 = .ok (.iconst 1, 1) := by decide +kernel
theorem dd_M_isWhole_33 : decode bb_M_isWhole 33 = .ok (.goto 4, 3) := by decide +kernel
theorem dd_M_isWhole_36 : decode bb_M_isWhole 36 = .ok (.iconst 0, 1) := by decide +kernel
theorem dd_M_isWhole_37 : decode bb_M_isWhole 37 = .ok (.ireturn, 1) := by decide +kernel
theorem dd_M_define_0 : decode bb_M_define 0 = .ok (.aload_n 0, 1) := by decide +kernel
theorem dd_M_define_1 : decode bb_M_define 1 = .ok (.iconst 0, 1) := by decide +kernel
theorem dd_M_define_2 : decode bb_M_define 2 = .ok (.putfield 70, 3) := by decide +kernel
theorem dd_M_define_5 : decode bb_M_define 5 = .ok (.aload_n 0, 1) := by decide +kernel
theorem dd_M_define_6 : decode bb_M_define 6 = .ok (.invokevirtual 90, 3) := by decide +kernel
theorem dd_M_define_9 : decode bb_M_define 9 = .ok (.ifCond .eq 41, 3) := by decide +kernel
theorem dd_M_define_12 : decode bb_M_define 12 = .ok (.aload_n 0, 1) := by decide +kernel
theorem dd_M_define_13 : decode bb_M_define 13 = .ok (.getfield 73, 3) := by decide +kernel
theorem dd_M_define_16 : decode bb_M_define 16 = .ok (.bipush 64, 2) := by decide +kernel
theorem dd_M_define_18 : decode bb_M_define 18 = .ok (.if_icmp .ge 32, 3) := by decide +kernel
theorem dd_M_define_21 : decode bb_M_define 21 = .ok (.lload_n 2, 1) := by decide +kernel
theorem dd_M_define_22 : decode bb_M_define 22 = .ok (.lconst 0, 1) := by decide +kernel
theorem dd_M_define_23 : decode bb_M_define 23 = .ok (.lcmp, 1) := by decide +kernel
theorem dd_M_define_24 : decode bb_M_define 24 = .ok (.ifCond .le 26, 3) := by decide +kernel
theorem dd_M_define_27 : decode bb_M_define 27 = .ok (.iload 4, 2) := by decide +kernel
theorem dd_M_define_29 : decode bb_M_define 29 = .ok (.ifCond .lt 21, 3) := by decide +kernel
theorem dd_M_define_32 : decode bb_M_define 32 = .ok (.iload 4, 2) := by decide +kernel
theorem dd_M_define_34 : decode bb_M_define 34 = .ok (.iload_n 1, 1) := by decide +kernel
theorem dd_M_define_35 : decode bb_M_define 35 = .ok (.ifCond .eq 7, 3) := by decide +kernel
theorem dd_M_define_38 : decode bb_M_define 38 = .ok (.iconst 2, 1) := by decide +kernel
theorem dd_M_define_39 : decode bb_M_define 39 = .ok (.goto 4, 3) := by decide +kernel
theorem dd_M_define_42 : decode bb_M_define 42 = .ok (.iconst 4, 1) := by decide +kernel
theorem dd_M_define_43 : decode bb_M_define 43 = .ok (.if_icmp .ge 7, 3) := by decide +kernel
theorem dd_M_define_46 : decode bb_M_define 46 = .ok (.iconst 1, 1) := by decide +kernel
theorem dd_M_define_47 : decode bb_M_define 47 = .ok (.goto 4, 3) := by decide +kernel
theorem dd_M_define_50 : decode bb_M_define 50 = .ok (.iconst 0, 1) := by decide +kernel
theorem dd_M_define_51 : decode bb_M_define 51 = .ok (.istore 5, 2) := by decide +kernel
theorem dd_M_define_53 : decode bb_M_define 53 = .ok (.iconst 0, 1) := by decide +kernel
theorem dd_M_define_54 : decode bb_M_define 54 = .ok (.istore 6, 2) := by decide +kernel
theorem dd_M_define_56 : decode bb_M_define 56 = .ok (.iload 6, 2) := by decide +kernel
theorem dd_M_define_58 : decode bb_M_define 58 = .ok (.aload_n 0, 1) := by decide +kernel
theorem dd_M_define_59 : decode bb_M_define 59 = .ok (.getfield 73, 3) := by decide +kernel
theorem dd_M_define_62 : decode bb_M_define 62 = .ok (.if_icmp .ge 33, 3) := by decide +kernel
theorem dd_M_define_65 : decode bb_M_define 65 = .ok (.iload 5, 2) := by decide +kernel
theorem dd_M_define_67 : decode bb_M_define 67 = .ok (.ifCond .eq 19, 3) := by decide +kernel
theorem dd_M_define_70 : decode bb_M_define 70 = .ok (.aload_n 0, 1) := by decide +kernel
theorem dd_M_define_71 : decode bb_M_define 71 = .ok (.getfield 13, 3) := by decide +kernel
theorem dd_M_define_74 : decode bb_M_define 74 = .ok (.iload 6, 2) := by decide +kernel
theorem dd_M_define_76 : decode bb_M_define 76 = .ok (.laload, 1) := by decide +kernel
theorem dd_M_define_77 : decode bb_M_define 77 = .ok (.lload_n 2, 1) := by decide +kernel
theorem dd_M_define_78 : decode bb_M_define 78 = .ok (.lcmp, 1) := by decide +kernel
theorem dd_M_define_79 : decode bb_M_define 79 = .ok (.ifCond .eq 7, 3) := by decide +kernel
theorem dd_M_define_82 : decode bb_M_define 82 = .ok (.iconst 1, 1) := by decide +kernel
theorem dd_M_define_83 : decode bb_M_define 83 = .ok (.goto 4, 3) := by decide +kernel
theorem dd_M_define_86 : decode bb_M_define 86 = .ok (.iconst 0, 1) := by decide +kernel
theorem dd_M_define_87 : decode bb_M_define 87 = .ok (.istore 5, 2) := by decide +kernel
theorem dd_M_define_89 : decode bb_M_define 89 = .ok (.iinc 6 1, 3) := by decide +kernel
theorem dd_M_define_92 : decode bb_M_define 92 = .ok (.goto (-36), 3) := by decide +kernel
theorem dd_M_define_95 : decode bb_M_define 95 = .ok (.iload 5, 2) := by decide +kernel
theorem dd_M_define_97 : decode bb_M_define 97 = .ok (.ifCond .ne 5, 3) := by decide +kernel
theorem dd_M_define_100 : decode bb_M_define 100 = .ok (.iconst (-1), 1) := by decide +kernel
theorem dd_M_define_101 : decode bb_M_define 101 = .ok (.ireturn, 1) := by decide +kernel
theorem dd_M_define_102 : decode bb_M_define 102 = .ok (.aload_n 0, 1) := by decide +kernel
theorem dd_M_define_103 : decode bb_M_define 103 = .ok (.getfield 7, 3) := by decide +kernel
theorem dd_M_define_106 : decode bb_M_define 106 = .ok (.aload_n 0, 1) := by decide +kernel
theorem dd_M_define_107 : decode bb_M_define 107 = .ok (.getfield 73, 3) := by decide +kernel
theorem dd_M_define_110 : decode bb_M_define 110 = .ok (.iload_n 1, 1) := by decide +kernel
theorem dd_M_define_111 : decode bb_M_define 111 = .ok (.bastore, 1) := by decide +kernel
theorem dd_M_define_112 : decode bb_M_define 112 = .ok (.aload_n 0, 1) := by decide +kernel
theorem dd_M_define_113 : decode bb_M_define 113 = .ok (.getfield 13, 3) := by decide +kernel
theorem dd_M_define_116 : decode bb_M_define 116 = .ok (.aload_n 0, 1) := by decide +kernel
theorem dd_M_define_117 : decode bb_M_define 117 = .ok (.getfield 73, 3) := by decide +kernel
theorem dd_M_define_120 : decode bb_M_define 120 = .ok (.lload_n 2, 1) := by decide +kernel
theorem dd_M_define_121 : decode bb_M_define 121 = .ok (.lastore, 1) := by decide +kernel
theorem dd_M_define_122 : decode bb_M_define 122 = .ok (.aload_n 0, 1) := by decide +kernel
theorem dd_M_define_123 : decode bb_M_define 123 = .ok (.getfield 17, 3) := by decide +kernel
theorem dd_M_define_126 : decode bb_M_define 126 = .ok (.aload_n 0, 1) := by decide +kernel
theorem dd_M_define_127 : decode bb_M_define 127 = .ok (.getfield 73, 3) := by decide +kernel
theorem dd_M_define_130 : decode bb_M_define 130 = .ok (.iload 4, 2) := by decide +kernel
theorem dd_M_define_132 : decode bb_M_define 132 = .ok (.iastore, 1) := by decide +kernel
theorem dd_M_define_133 : decode bb_M_define 133 = .ok (.aload_n 0, 1) := by decide +kernel
theorem dd_M_define_134 : decode bb_M_define 134 = .ok (.getfield 21, 3) := by decide +kernel
theorem dd_M_define_137 : decode bb_M_define 137 = .ok (.aload_n 0, 1) := by decide +kernel
theorem dd_M_define_138 : decode bb_M_define 138 = .ok (.getfield 73, 3) := by decide +kernel
theorem dd_M_define_141 : decode bb_M_define 141 = .ok (.iconst 0, 1) := by decide +kernel
theorem dd_M_define_142 : decode bb_M_define 142 = .ok (.iastore, 1) := by decide +kernel
theorem dd_M_define_143 : decode bb_M_define 143 = .ok (.aload_n 0, 1) := by decide +kernel
theorem dd_M_define_144 : decode bb_M_define 144 = .ok (.getfield 30, 3) := by decide +kernel
theorem dd_M_define_147 : decode bb_M_define 147 = .ok (.aload_n 0, 1) := by decide +kernel
theorem dd_M_define_148 : decode bb_M_define 148 = .ok (.getfield 73, 3) := by decide +kernel
theorem dd_M_define_151 : decode bb_M_define 151 = .ok (.aload_n 0, 1) := by decide +kernel
theorem dd_M_define_152 : decode bb_M_define 152 = .ok (.getfield 76, 3) := by decide +kernel
theorem dd_M_define_155 : decode bb_M_define 155 = .ok (.iastore, 1) := by decide +kernel
theorem dd_M_define_156 : decode bb_M_define 156 = .ok (.aload_n 0, 1) := by decide +kernel
theorem dd_M_define_157 : decode bb_M_define 157 = .ok (.dup, 1) := by decide +kernel
theorem dd_M_define_158 : decode bb_M_define 158 = .ok (.getfield 73, 3) := by decide +kernel
theorem dd_M_define_161 : decode bb_M_define 161 = .ok (.iconst 1, 1) := by decide +kernel
theorem dd_M_define_162 : decode bb_M_define 162 = .ok (.iadd, 1) := by decide +kernel
theorem dd_M_define_163 : decode bb_M_define 163 = .ok (.putfield 73, 3) := by decide +kernel
theorem dd_M_define_166 : decode bb_M_define 166 = .ok (.aload_n 0, 1) := by decide +kernel
theorem dd_M_define_167 : decode bb_M_define 167 = .ok (.iconst 0, 1) := by decide +kernel
theorem dd_M_define_168 : decode bb_M_define 168 = .ok (.putfield 79, 3) := by decide +kernel
theorem dd_M_define_171 : decode bb_M_define 171 = .ok (.aload_n 0, 1) := by decide +kernel
theorem dd_M_define_172 : decode bb_M_define 172 = .ok (.getfield 73, 3) := by decide +kernel
theorem dd_M_define_175 : decode bb_M_define 175 = .ok (.iconst 1, 1) := by decide +kernel
theorem dd_M_define_176 : decode bb_M_define 176 = .ok (.isub, 1) := by decide +kernel
theorem dd_M_define_177 : decode bb_M_define 177 = .ok (.ireturn, 1) := by decide +kernel
theorem dd_M_parameter_0 : decode bb_M_parameter 0 = .ok (.aload_n 0, 1) := by decide +kernel
theorem dd_M_parameter_1 : decode bb_M_parameter 1 = .ok (.iconst 0, 1) := by decide +kernel
theorem dd_M_parameter_2 : decode bb_M_parameter 2 = .ok (.putfield 70, 3) := by decide +kernel
theorem dd_M_parameter_5 : decode bb_M_parameter 5 = .ok (.aload_n 0, 1) := by decide +kernel
theorem dd_M_parameter_6 : decode bb_M_parameter 6 = .ok (.getfield 73, 3) := by decide +kernel
theorem dd_M_parameter_9 : decode bb_M_parameter 9 = .ok (.iconst 1, 1) := by decide +kernel
theorem dd_M_parameter_10 : decode bb_M_parameter 10 = .ok (.isub, 1) := by decide +kernel
theorem dd_M_parameter_11 : decode bb_M_parameter 11 = .ok (.istore 4, 2) := by decide +kernel
theorem dd_M_parameter_13 : decode bb_M_parameter 13 = .ok (.aload_n 0, 1) := by decide +kernel
theorem dd_M_parameter_14 : decode bb_M_parameter 14 = .ok (.getfield 73, 3) := by decide +kernel
theorem dd_M_parameter_17 : decode bb_M_parameter 17 = .ok (.ifCond .eq 44, 3) := by decide +kernel
theorem dd_M_parameter_20 : decode bb_M_parameter 20 = .ok (.aload_n 0, 1) := by decide +kernel
theorem dd_M_parameter_21 : decode bb_M_parameter 21 = .ok (.getfield 21, 3) := by decide +kernel
theorem dd_M_parameter_24 : decode bb_M_parameter 24 = .ok (.iload 4, 2) := by decide +kernel
theorem dd_M_parameter_26 : decode bb_M_parameter 26 = .ok (.iaload, 1) := by decide +kernel
theorem dd_M_parameter_27 : decode bb_M_parameter 27 = .ok (.bipush 8, 2) := by decide +kernel
theorem dd_M_parameter_29 : decode bb_M_parameter 29 = .ok (.if_icmp .eq 32, 3) := by decide +kernel
theorem dd_M_parameter_32 : decode bb_M_parameter 32 = .ok (.aload_n 0, 1) := by decide +kernel
theorem dd_M_parameter_33 : decode bb_M_parameter 33 = .ok (.getfield 76, 3) := by decide +kernel
theorem dd_M_parameter_36 : decode bb_M_parameter 36 = .ok (.aload_n 0, 1) := by decide +kernel
theorem dd_M_parameter_37 : decode bb_M_parameter 37 = .ok (.getfield 30, 3) := by decide +kernel
theorem dd_M_parameter_40 : decode bb_M_parameter 40 = .ok (.iload 4, 2) := by decide +kernel
theorem dd_M_parameter_42 : decode bb_M_parameter 42 = .ok (.iaload, 1) := by decide +kernel
theorem dd_M_parameter_43 : decode bb_M_parameter 43 = .ok (.if_icmp .gt 18, 3) := by decide +kernel
theorem dd_M_parameter_46 : decode bb_M_parameter 46 = .ok (.lload_n 1, 1) := by decide +kernel
theorem dd_M_parameter_47 : decode bb_M_parameter 47 = .ok (.lconst 0, 1) := by decide +kernel
theorem dd_M_parameter_48 : decode bb_M_parameter 48 = .ok (.lcmp, 1) := by decide +kernel
theorem dd_M_parameter_49 : decode bb_M_parameter 49 = .ok (.ifCond .le 12, 3) := by decide +kernel
theorem dd_M_parameter_52 : decode bb_M_parameter 52 = .ok (.iload_n 3, 1) := by decide +kernel
theorem dd_M_parameter_53 : decode bb_M_parameter 53 = .ok (.ifCond .lt 8, 3) := by decide +kernel
theorem dd_M_parameter_56 : decode bb_M_parameter 56 = .ok (.iload_n 3, 1) := by decide +kernel
theorem dd_M_parameter_57 : decode bb_M_parameter 57 = .ok (.iconst 3, 1) := by decide +kernel
theorem dd_M_parameter_58 : decode bb_M_parameter 58 = .ok (.if_icmp .le 5, 3) := by decide +kernel
theorem dd_M_parameter_61 : decode bb_M_parameter 61 = .ok (.iconst (-1), 1) := by decide +kernel
theorem dd_M_parameter_62 : decode bb_M_parameter 62 = .ok (.ireturn, 1) := by decide +kernel
theorem dd_M_parameter_63 : decode bb_M_parameter 63 = .ok (.iconst 0, 1) := by decide +kernel
theorem dd_M_parameter_64 : decode bb_M_parameter 64 = .ok (.istore 5, 2) := by decide +kernel
theorem dd_M_parameter_66 : decode bb_M_parameter 66 = .ok (.iload 5, 2) := by decide +kernel
theorem dd_M_parameter_68 : decode bb_M_parameter 68 = .ok (.aload_n 0, 1) := by decide +kernel
theorem dd_M_parameter_69 : decode bb_M_parameter 69 = .ok (.getfield 21, 3) := by decide +kernel
theorem dd_M_parameter_72 : decode bb_M_parameter 72 = .ok (.iload 4, 2) := by decide +kernel
theorem dd_M_parameter_74 : decode bb_M_parameter 74 = .ok (.iaload, 1) := by decide +kernel
theorem dd_M_parameter_75 : decode bb_M_parameter 75 = .ok (.if_icmp .ge 29, 3) := by decide +kernel
theorem dd_M_parameter_78 : decode bb_M_parameter 78 = .ok (.aload_n 0, 1) := by decide +kernel
theorem dd_M_parameter_79 : decode bb_M_parameter 79 = .ok (.getfield 24, 3) := by decide +kernel
theorem dd_M_parameter_82 : decode bb_M_parameter 82 = .ok (.bipush 8, 2) := by decide +kernel
theorem dd_M_parameter_84 : decode bb_M_parameter 84 = .ok (.iload 4, 2) := by decide +kernel
theorem dd_M_parameter_86 : decode bb_M_parameter 86 = .ok (.imul, 1) := by decide +kernel
theorem dd_M_parameter_87 : decode bb_M_parameter 87 = .ok (.iload 5, 2) := by decide +kernel
theorem dd_M_parameter_89 : decode bb_M_parameter 89 = .ok (.iadd, 1) := by decide +kernel
theorem dd_M_parameter_90 : decode bb_M_parameter 90 = .ok (.laload, 1) := by decide +kernel
theorem dd_M_parameter_91 : decode bb_M_parameter 91 = .ok (.lload_n 1, 1) := by decide +kernel
theorem dd_M_parameter_92 : decode bb_M_parameter 92 = .ok (.lcmp, 1) := by decide +kernel
theorem dd_M_parameter_93 : decode bb_M_parameter 93 = .ok (.ifCond .ne 5, 3) := by decide +kernel
theorem dd_M_parameter_96 : decode bb_M_parameter 96 = .ok (.iconst (-1), 1) := by decide +kernel
theorem dd_M_parameter_97 : decode bb_M_parameter 97 = .ok (.ireturn, 1) := by decide +kernel
theorem dd_M_parameter_98 : decode bb_M_parameter 98 = .ok (.iinc 5 1, 3) := by decide +kernel
theorem dd_M_parameter_101 : decode bb_M_parameter 101 = .ok (.goto (-35), 3) := by decide +kernel
theorem dd_M_parameter_104 : decode bb_M_parameter 104 = .ok (.aload_n 0, 1) := by decide +kernel
theorem dd_M_parameter_105 : decode bb_M_parameter 105 = .ok (.getfield 24, 3) := by decide +kernel
theorem dd_M_parameter_108 : decode bb_M_parameter 108 = .ok (.bipush 8, 2) := by decide +kernel
theorem dd_M_parameter_110 : decode bb_M_parameter 110 = .ok (.iload 4, 2) := by decide +kernel
theorem dd_M_parameter_112 : decode bb_M_parameter 112 = .ok (.imul, 1) := by decide +kernel
theorem dd_M_parameter_113 : decode bb_M_parameter 113 = .ok (.aload_n 0, 1) := by decide +kernel
theorem dd_M_parameter_114 : decode bb_M_parameter 114 = .ok (.getfield 21, 3) := by decide +kernel
theorem dd_M_parameter_117 : decode bb_M_parameter 117 = .ok (.iload 4, 2) := by decide +kernel
theorem dd_M_parameter_119 : decode bb_M_parameter 119 = .ok (.iaload, 1) := by decide +kernel
theorem dd_M_parameter_120 : decode bb_M_parameter 120 = .ok (.iadd, 1) := by decide +kernel
theorem dd_M_parameter_121 : decode bb_M_parameter 121 = .ok (.lload_n 1, 1) := by decide +kernel
theorem dd_M_parameter_122 : decode bb_M_parameter 122 = .ok (.lastore, 1) := by decide +kernel
theorem dd_M_parameter_123 : decode bb_M_parameter 123 = .ok (.aload_n 0, 1) := by decide +kernel
theorem dd_M_parameter_124 : decode bb_M_parameter 124 = .ok (.getfield 27, 3) := by decide +kernel
theorem dd_M_parameter_127 : decode bb_M_parameter 127 = .ok (.bipush 8, 2) := by decide +kernel
theorem dd_M_parameter_129 : decode bb_M_parameter 129 = .ok (.iload 4, 2) := by decide +kernel
theorem dd_M_parameter_131 : decode bb_M_parameter 131 = .ok (.imul, 1) := by decide +kernel
theorem dd_M_parameter_132 : decode bb_M_parameter 132 = .ok (.aload_n 0, 1) := by decide +kernel
theorem dd_M_parameter_133 : decode bb_M_parameter 133 = .ok (.getfield 21, 3) := by decide +kernel
theorem dd_M_parameter_136 : decode bb_M_parameter 136 = .ok (.iload 4, 2) := by decide +kernel
theorem dd_M_parameter_138 : decode bb_M_parameter 138 = .ok (.iaload, 1) := by decide +kernel
theorem dd_M_parameter_139 : decode bb_M_parameter 139 = .ok (.iadd, 1) := by decide +kernel
theorem dd_M_parameter_140 : decode bb_M_parameter 140 = .ok (.iload_n 3, 1) := by decide +kernel
theorem dd_M_parameter_141 : decode bb_M_parameter 141 = .ok (.iastore, 1) := by decide +kernel
theorem dd_M_parameter_142 : decode bb_M_parameter 142 = .ok (.aload_n 0, 1) := by decide +kernel
theorem dd_M_parameter_143 : decode bb_M_parameter 143 = .ok (.getfield 21, 3) := by decide +kernel
theorem dd_M_parameter_146 : decode bb_M_parameter 146 = .ok (.iload 4, 2) := by decide +kernel
theorem dd_M_parameter_148 : decode bb_M_parameter 148 = .ok (.dup2, 1) := by decide +kernel
theorem dd_M_parameter_149 : decode bb_M_parameter 149 = .ok (.iaload, 1) := by decide +kernel
theorem dd_M_parameter_150 : decode bb_M_parameter 150 = .ok (.iconst 1, 1) := by decide +kernel
theorem dd_M_parameter_151 : decode bb_M_parameter 151 = .ok (.iadd, 1) := by decide +kernel
theorem dd_M_parameter_152 : decode bb_M_parameter 152 = .ok (.iastore, 1) := by decide +kernel
theorem dd_M_parameter_153 : decode bb_M_parameter 153 = .ok (.aload_n 0, 1) := by decide +kernel
theorem dd_M_parameter_154 : decode bb_M_parameter 154 = .ok (.iconst 0, 1) := by decide +kernel
theorem dd_M_parameter_155 : decode bb_M_parameter 155 = .ok (.putfield 79, 3) := by decide +kernel
theorem dd_M_parameter_158 : decode bb_M_parameter 158 = .ok (.aload_n 0, 1) := by decide +kernel
theorem dd_M_parameter_159 : decode bb_M_parameter 159 = .ok (.getfield 21, 3) := by decide +kernel
theorem dd_M_parameter_162 : decode bb_M_parameter 162 = .ok (.iload 4, 2) := by decide +kernel
theorem dd_M_parameter_164 : decode bb_M_parameter 164 = .ok (.iaload, 1) := by decide +kernel
theorem dd_M_parameter_165 : decode bb_M_parameter 165 = .ok (.ireturn, 1) := by decide +kernel
theorem dd_M_due_0 : decode bb_M_due 0 = .ok (.iload_n 0, 1) := by decide +kernel
theorem dd_M_due_1 : decode bb_M_due 1 = .ok (.bipush 14, 2) := by decide +kernel
theorem dd_M_due_3 : decode bb_M_due 3 = .ok (.if_icmp .eq 15, 3) := by decide +kernel
theorem dd_M_due_6 : decode bb_M_due 6 = .ok (.iload_n 0, 1) := by decide +kernel
theorem dd_M_due_7 : decode bb_M_due 7 = .ok (.bipush 15, 2) := by decide +kernel
theorem dd_M_due_9 : decode bb_M_due 9 = .ok (.if_icmp .eq 9, 3) := by decide +kernel
theorem dd_M_due_12 : decode bb_M_due 12 = .ok (.iload_n 0, 1) := by decide +kernel
theorem dd_M_due_13 : decode bb_M_due 13 = .ok (.bipush 23, 2) := by decide +kernel
theorem dd_M_due_15 : decode bb_M_due 15 = .ok (.if_icmp .ne 5, 3) := by decide +kernel
theorem dd_M_due_18 : decode bb_M_due 18 = .ok (.iconst (-1), 1) := by decide +kernel
theorem dd_M_due_19 : decode bb_M_due 19 = .ok (.ireturn, 1) := by decide +kernel
theorem dd_M_due_20 : decode bb_M_due 20 = .ok (.iload_n 0, 1) := by decide +kernel
theorem dd_M_due_21 : decode bb_M_due 21 = .ok (.iconst 3, 1) := by decide +kernel
theorem dd_M_due_22 : decode bb_M_due 22 = .ok (.if_icmp .ge 5, 3) := by decide +kernel
theorem dd_M_due_25 : decode bb_M_due 25 = .ok (.iconst 0, 1) := by decide +kernel
theorem dd_M_due_26 : decode bb_M_due 26 = .ok (.ireturn, 1) := by decide +kernel
theorem dd_M_due_27 : decode bb_M_due 27 = .ok (.iload_n 0, 1) := by decide +kernel
theorem dd_M_due_28 : decode bb_M_due 28 = .ok (.bipush 10, 2) := by decide +kernel
theorem dd_M_due_30 : decode bb_M_due 30 = .ok (.if_icmp .eq 21, 3) := by decide +kernel
theorem dd_M_due_33 : decode bb_M_due 33 = .ok (.iload_n 0, 1) := by decide +kernel
theorem dd_M_due_34 : decode bb_M_due 34 = .ok (.bipush 12, 2) := by decide +kernel
theorem dd_M_due_36 : decode bb_M_due 36 = .ok (.if_icmp .eq 15, 3) := by decide +kernel
theorem dd_M_due_39 : decode bb_M_due 39 = .ok (.iload_n 0, 1) := by decide +kernel
theorem dd_M_due_40 : decode bb_M_due 40 = .ok (.bipush 20, 2) := by decide +kernel
theorem dd_M_due_42 : decode bb_M_due 42 = .ok (.if_icmp .eq 9, 3) := by decide +kernel
theorem dd_M_due_45 : decode bb_M_due 45 = .ok (.iload_n 0, 1) := by decide +kernel
theorem dd_M_due_46 : decode bb_M_due 46 = .ok (.bipush 22, 2) := by decide +kernel
theorem dd_M_due_48 : decode bb_M_due 48 = .ok (.if_icmp .ne 7, 3) := by decide +kernel
theorem dd_M_due_51 : decode bb_M_due 51 = .ok (.iconst 3, 1) := by decide +kernel
theorem dd_M_due_52 : decode bb_M_due 52 = .ok (.goto 26, 3) := by decide +kernel
theorem dd_M_due_55 : decode bb_M_due 55 = .ok (.iload_n 0, 1) := by decide +kernel
theorem dd_M_due_56 : decode bb_M_due 56 = .ok (.bipush 16, 2) := by decide +kernel
theorem dd_M_due_58 : decode bb_M_due 58 = .ok (.if_icmp .eq 15, 3) := by decide +kernel
theorem dd_M_due_61 : decode bb_M_due 61 = .ok (.iload_n 0, 1) := by decide +kernel
theorem dd_M_due_62 : decode bb_M_due 62 = .ok (.bipush 17, 2) := by decide +kernel
theorem dd_M_due_64 : decode bb_M_due 64 = .ok (.if_icmp .eq 9, 3) := by decide +kernel
theorem dd_M_due_67 : decode bb_M_due 67 = .ok (.iload_n 0, 1) := by decide +kernel
theorem dd_M_due_68 : decode bb_M_due 68 = .ok (.bipush 19, 2) := by decide +kernel
theorem dd_M_due_70 : decode bb_M_due 70 = .ok (.if_icmp .ne 7, 3) := by decide +kernel
theorem dd_M_due_73 : decode bb_M_due 73 = .ok (.iconst 1, 1) := by decide +kernel
theorem dd_M_due_74 : decode bb_M_due 74 = .ok (.goto 4, 3) := by decide +kernel
theorem dd_M_due_77 : decode bb_M_due 77 = .ok (.iconst 2, 1) := by decide +kernel
theorem dd_M_due_78 : decode bb_M_due 78 = .ok (.ireturn, 1) := by decide +kernel
theorem dd_M_isChangeable_0 : decode bb_M_isChangeable 0 = .ok (.iload_n 0, 1) := by decide +kernel
theorem dd_M_isChangeable_1 : decode bb_M_isChangeable 1 = .ok (.bipush 16, 2) := by decide +kernel
theorem dd_M_isChangeable_3 : decode bb_M_isChangeable 3 = .ok (.if_icmp .eq 31, 3) := by decide +kernel
theorem dd_M_isChangeable_6 : decode bb_M_isChangeable 6 = .ok (.iload_n 0, 1) := by decide +kernel
theorem dd_M_isChangeable_7 : decode bb_M_isChangeable 7 = .ok (.bipush 17, 2) := by decide +kernel
theorem dd_M_isChangeable_9 : decode bb_M_isChangeable 9 = .ok (.if_icmp .eq 25, 3) := by decide +kernel
theorem dd_M_isChangeable_12 : decode bb_M_isChangeable 12 = .ok (.iload_n 1, 1) := by decide +kernel
theorem dd_M_isChangeable_13 : decode bb_M_isChangeable 13 = .ok (.ifCond .le 25, 3) := by decide +kernel
theorem dd_M_isChangeable_16 : decode bb_M_isChangeable 16 = .ok (.iload_n 0, 1) := by decide +kernel
theorem dd_M_isChangeable_17 : decode bb_M_isChangeable 17 = .ok (.bipush 18, 2) := by decide +kernel
theorem dd_M_isChangeable_19 : decode bb_M_isChangeable 19 = .ok (.if_icmp .eq 15, 3) := by decide +kernel
theorem dd_M_isChangeable_22 : decode bb_M_isChangeable 22 = .ok (.iload_n 0, 1) := by decide +kernel
theorem dd_M_isChangeable_23 : decode bb_M_isChangeable 23 = .ok (.bipush 20, 2) := by decide +kernel
theorem dd_M_isChangeable_25 : decode bb_M_isChangeable 25 = .ok (.if_icmp .lt 13, 3) := by decide +kernel
theorem dd_M_isChangeable_28 : decode bb_M_isChangeable 28 = .ok (.iload_n 0, 1) := by decide +kernel
theorem dd_M_isChangeable_29 : decode bb_M_isChangeable 29 = .ok (.bipush 22, 2) := by decide +kernel
theorem dd_M_isChangeable_31 : decode bb_M_isChangeable 31 = .ok (.if_icmp .gt 7, 3) := by decide +kernel
theorem dd_M_isChangeable_34 : decode bb_M_isChangeable 34 = .ok (.iconst 1, 1) := by decide +kernel
theorem dd_M_isChangeable_35 : decode bb_M_isChangeable 35 = .ok (.goto 4, 3) := by decide +kernel
theorem dd_M_isChangeable_38 : decode bb_M_isChangeable 38 = .ok (.iconst 0, 1) := by decide +kernel
theorem dd_M_isChangeable_39 : decode bb_M_isChangeable 39 = .ok (.ireturn, 1) := by decide +kernel
theorem dd_M_hasFirst_0 : decode bb_M_hasFirst 0 = .ok (.iload_n 0, 1) := by decide +kernel
theorem dd_M_hasFirst_1 : decode bb_M_hasFirst 1 = .ok (.iconst 1, 1) := by decide +kernel
theorem dd_M_hasFirst_2 : decode bb_M_hasFirst 2 = .ok (.if_icmp .eq 39, 3) := by decide +kernel
theorem dd_M_hasFirst_5 : decode bb_M_hasFirst 5 = .ok (.iload_n 0, 1) := by decide +kernel
theorem dd_M_hasFirst_6 : decode bb_M_hasFirst 6 = .ok (.bipush 11, 2) := by decide +kernel
theorem dd_M_hasFirst_8 : decode bb_M_hasFirst 8 = .ok (.if_icmp .eq 33, 3) := by decide +kernel
theorem dd_M_hasFirst_11 : decode bb_M_hasFirst 11 = .ok (.iload_n 0, 1) := by decide +kernel
theorem dd_M_hasFirst_12 : decode bb_M_hasFirst 12 = .ok (.bipush 12, 2) := by decide +kernel
theorem dd_M_hasFirst_14 : decode bb_M_hasFirst 14 = .ok (.if_icmp .eq 27, 3) := by decide +kernel
theorem dd_M_hasFirst_17 : decode bb_M_hasFirst 17 = .ok (.iload_n 0, 1) := by decide +kernel
theorem dd_M_hasFirst_18 : decode bb_M_hasFirst 18 = .ok (.bipush 14, 2) := by decide +kernel
theorem dd_M_hasFirst_20 : decode bb_M_hasFirst 20 = .ok (.if_icmp .eq 21, 3) := by decide +kernel
theorem dd_M_hasFirst_23 : decode bb_M_hasFirst 23 = .ok (.iload_n 0, 1) := by decide +kernel
theorem dd_M_hasFirst_24 : decode bb_M_hasFirst 24 = .ok (.bipush 15, 2) := by decide +kernel
theorem dd_M_hasFirst_26 : decode bb_M_hasFirst 26 = .ok (.if_icmp .eq 15, 3) := by decide +kernel
theorem dd_M_hasFirst_29 : decode bb_M_hasFirst 29 = .ok (.iload_n 0, 1) := by decide +kernel
theorem dd_M_hasFirst_30 : decode bb_M_hasFirst 30 = .ok (.bipush 18, 2) := by decide +kernel
theorem dd_M_hasFirst_32 : decode bb_M_hasFirst 32 = .ok (.if_icmp .eq 9, 3) := by decide +kernel
theorem dd_M_hasFirst_35 : decode bb_M_hasFirst 35 = .ok (.iload_n 0, 1) := by decide +kernel
theorem dd_M_hasFirst_36 : decode bb_M_hasFirst 36 = .ok (.bipush 21, 2) := by decide +kernel
theorem dd_M_hasFirst_38 : decode bb_M_hasFirst 38 = .ok (.if_icmp .lt 7, 3) := by decide +kernel
theorem dd_M_hasFirst_41 : decode bb_M_hasFirst 41 = .ok (.iconst 1, 1) := by decide +kernel
theorem dd_M_hasFirst_42 : decode bb_M_hasFirst 42 = .ok (.goto 4, 3) := by decide +kernel
theorem dd_M_hasFirst_45 : decode bb_M_hasFirst 45 = .ok (.iconst 0, 1) := by decide +kernel
theorem dd_M_hasFirst_46 : decode bb_M_hasFirst 46 = .ok (.ireturn, 1) := by decide +kernel
theorem dd_M_hasSecond_0 : decode bb_M_hasSecond 0 = .ok (.iload_n 0, 1) := by decide +kernel
theorem dd_M_hasSecond_1 : decode bb_M_hasSecond 1 = .ok (.bipush 12, 2) := by decide +kernel
theorem dd_M_hasSecond_3 : decode bb_M_hasSecond 3 = .ok (.if_icmp .eq 9, 3) := by decide +kernel
theorem dd_M_hasSecond_6 : decode bb_M_hasSecond 6 = .ok (.iload_n 0, 1) := by decide +kernel
theorem dd_M_hasSecond_7 : decode bb_M_hasSecond 7 = .ok (.bipush 22, 2) := by decide +kernel
theorem dd_M_hasSecond_9 : decode bb_M_hasSecond 9 = .ok (.if_icmp .ne 7, 3) := by decide +kernel
theorem dd_M_hasSecond_12 : decode bb_M_hasSecond 12 = .ok (.iconst 1, 1) := by decide +kernel
theorem dd_M_hasSecond_13 : decode bb_M_hasSecond 13 = .ok (.goto 4, 3) := by decide +kernel
theorem dd_M_hasSecond_16 : decode bb_M_hasSecond 16 = .ok (.iconst 0, 1) := by decide +kernel
theorem dd_M_hasSecond_17 : decode bb_M_hasSecond 17 = .ok (.ireturn, 1) := by decide +kernel
theorem dd_M_isNode_0 : decode bb_M_isNode 0 = .ok (.iload_n 0, 1) := by decide +kernel
theorem dd_M_isNode_1 : decode bb_M_isNode 1 = .ok (.ifCond .lt 13, 3) := by decide +kernel
theorem dd_M_isNode_4 : decode bb_M_isNode 4 = .ok (.iload_n 0, 1) := by decide +kernel
theorem dd_M_isNode_5 : decode bb_M_isNode 5 = .ok (.bipush 23, 2) := by decide +kernel
theorem dd_M_isNode_7 : decode bb_M_isNode 7 = .ok (.if_icmp .gt 7, 3) := by decide +kernel
theorem dd_M_isNode_10 : decode bb_M_isNode 10 = .ok (.iconst 1, 1) := by decide +kernel
theorem dd_M_isNode_11 : decode bb_M_isNode 11 = .ok (.goto 4, 3) := by decide +kernel
theorem dd_M_isNode_14 : decode bb_M_isNode 14 = .ok (.iconst 0, 1) := by decide +kernel
theorem dd_M_isNode_15 : decode bb_M_isNode 15 = .ok (.istore 6, 2) := by decide +kernel
theorem dd_M_isNode_17 : decode bb_M_isNode 17 = .ok (.iload 6, 2) := by decide +kernel
theorem dd_M_isNode_19 : decode bb_M_isNode 19 = .ok (.ifCond .eq 57, 3) := by decide +kernel
theorem dd_M_isNode_22 : decode bb_M_isNode 22 = .ok (.iload_n 0, 1) := by decide +kernel
theorem dd_M_isNode_23 : decode bb_M_isNode 23 = .ok (.invokestatic 94, 3) := by decide +kernel
theorem dd_M_isNode_26 : decode bb_M_isNode 26 = .ok (.ifCond .eq 12, 3) := by decide +kernel
theorem dd_M_isNode_29 : decode bb_M_isNode 29 = .ok (.lload_n 1, 1) := by decide +kernel
theorem dd_M_isNode_30 : decode bb_M_isNode 30 = .ok (.lconst 0, 1) := by decide +kernel
theorem dd_M_isNode_31 : decode bb_M_isNode 31 = .ok (.lcmp, 1) := by decide +kernel
theorem dd_M_isNode_32 : decode bb_M_isNode 32 = .ok (.ifCond .le 44, 3) := by decide +kernel
theorem dd_M_isNode_35 : decode bb_M_isNode 35 = .ok (.goto 9, 3) := by decide +kernel
theorem dd_M_isNode_38 : decode bb_M_isNode 38 = .ok (.lload_n 1, 1) := by decide +kernel
theorem dd_M_isNode_39 : decode bb_M_isNode 39 = .ok (.lconst 0, 1) := by decide +kernel
theorem dd_M_isNode_40 : decode bb_M_isNode 40 = .ok (.lcmp, 1) := by decide +kernel
theorem dd_M_isNode_41 : decode bb_M_isNode 41 = .ok (.ifCond .ne 35, 3) := by decide +kernel
theorem dd_M_isNode_44 : decode bb_M_isNode 44 = .ok (.iload_n 0, 1) := by decide +kernel
theorem dd_M_isNode_45 : decode bb_M_isNode 45 = .ok (.invokestatic 98, 3) := by decide +kernel
theorem dd_M_isNode_48 : decode bb_M_isNode 48 = .ok (.ifCond .eq 18, 3) := by decide +kernel
theorem dd_M_isNode_51 : decode bb_M_isNode 51 = .ok (.lload_n 3, 1) := by decide +kernel
theorem dd_M_isNode_52 : decode bb_M_isNode 52 = .ok (.lconst 0, 1) := by decide +kernel
theorem dd_M_isNode_53 : decode bb_M_isNode 53 = .ok (.lcmp, 1) := by decide +kernel
theorem dd_M_isNode_54 : decode bb_M_isNode 54 = .ok (.ifCond .le 22, 3) := by decide +kernel
theorem dd_M_isNode_57 : decode bb_M_isNode 57 = .ok (.lload_n 3, 1) := by decide +kernel
theorem dd_M_isNode_58 : decode bb_M_isNode 58 = .ok (.lload_n 1, 1) := by decide +kernel
theorem dd_M_isNode_59 : decode bb_M_isNode 59 = .ok (.lcmp, 1) := by decide +kernel
theorem dd_M_isNode_60 : decode bb_M_isNode 60 = .ok (.ifCond .eq 16, 3) := by decide +kernel
theorem dd_M_isNode_63 : decode bb_M_isNode 63 = .ok (.goto 9, 3) := by decide +kernel
theorem dd_M_isNode_66 : decode bb_M_isNode 66 = .ok (.lload_n 3, 1) := by decide +kernel
theorem dd_M_isNode_67 : decode bb_M_isNode 67 = .ok (.lconst 0, 1) := by decide +kernel
theorem dd_M_isNode_68 : decode bb_M_isNode 68 = .ok (.lcmp, 1) := by decide +kernel
theorem dd_M_isNode_69 : decode bb_M_isNode 69 = .ok (.ifCond .ne 7, 3) := by decide +kernel
theorem dd_M_isNode_72 : decode bb_M_isNode 72 = .ok (.iconst 1, 1) := by decide +kernel
theorem dd_M_isNode_73 : decode bb_M_isNode 73 = .ok (.goto 4, 3) := by decide +kernel
theorem dd_M_isNode_76 : decode bb_M_isNode 76 = .ok (.iconst 0, 1) := by decide +kernel
theorem dd_M_isNode_77 : decode bb_M_isNode 77 = .ok (.istore 6, 2) := by decide +kernel
theorem dd_M_isNode_79 : decode bb_M_isNode 79 = .ok (.iload 6, 2) := by decide +kernel
theorem dd_M_isNode_81 : decode bb_M_isNode 81 = .ok (.ifCond .eq 31, 3) := by decide +kernel
theorem dd_M_isNode_84 : decode bb_M_isNode 84 = .ok (.iload_n 0, 1) := by decide +kernel
theorem dd_M_isNode_85 : decode bb_M_isNode 85 = .ok (.invokestatic 101, 3) := by decide +kernel
theorem dd_M_isNode_88 : decode bb_M_isNode 88 = .ok (.ifCond .ge 11, 3) := by decide +kernel
theorem dd_M_isNode_91 : decode bb_M_isNode 91 = .ok (.iload 5, 2) := by decide +kernel
theorem dd_M_isNode_93 : decode bb_M_isNode 93 = .ok (.ifCond .lt 19, 3) := by decide +kernel
theorem dd_M_isNode_96 : decode bb_M_isNode 96 = .ok (.goto 12, 3) := by decide +kernel
theorem dd_M_isNode_99 : decode bb_M_isNode 99 = .ok (.iload 5, 2) := by decide +kernel
theorem dd_M_isNode_101 : decode bb_M_isNode 101 = .ok (.iload_n 0, 1) := by decide +kernel
theorem dd_M_isNode_102 : decode bb_M_isNode 102 = .ok (.invokestatic 101, 3) := by decide +kernel
theorem dd_M_isNode_105 : decode bb_M_isNode 105 = .ok (.if_icmp .ne 7, 3) := by decide +kernel
theorem dd_M_isNode_108 : decode bb_M_isNode 108 = .ok (.iconst 1, 1) := by decide +kernel
theorem dd_M_isNode_109 : decode bb_M_isNode 109 = .ok (.goto 4, 3) := by decide +kernel
theorem dd_M_isNode_112 : decode bb_M_isNode 112 = .ok (.iconst 0, 1) := by decide +kernel
theorem dd_M_isNode_113 : decode bb_M_isNode 113 = .ok (.ireturn, 1) := by decide +kernel
theorem dd_M_node_0 : decode bb_M_node 0 = .ok (.aload_n 0, 1) := by decide +kernel
theorem dd_M_node_1 : decode bb_M_node 1 = .ok (.iconst 0, 1) := by decide +kernel
theorem dd_M_node_2 : decode bb_M_node 2 = .ok (.putfield 70, 3) := by decide +kernel
theorem dd_M_node_5 : decode bb_M_node 5 = .ok (.aload_n 0, 1) := by decide +kernel
theorem dd_M_node_6 : decode bb_M_node 6 = .ok (.getfield 73, 3) := by decide +kernel
theorem dd_M_node_9 : decode bb_M_node 9 = .ok (.ifCond .eq 25, 3) := by decide +kernel
theorem dd_M_node_12 : decode bb_M_node 12 = .ok (.aload_n 0, 1) := by decide +kernel
theorem dd_M_node_13 : decode bb_M_node 13 = .ok (.getfield 76, 3) := by decide +kernel
theorem dd_M_node_16 : decode bb_M_node 16 = .ok (.sipush 4096, 3) := by decide +kernel
theorem dd_M_node_19 : decode bb_M_node 19 = .ok (.if_icmp .eq 15, 3) := by decide +kernel
theorem dd_M_node_22 : decode bb_M_node 22 = .ok (.iload_n 1, 1) := by decide +kernel
theorem dd_M_node_23 : decode bb_M_node 23 = .ok (.lload_n 2, 1) := by decide +kernel
theorem dd_M_node_24 : decode bb_M_node 24 = .ok (.lload 4, 2) := by decide +kernel
theorem dd_M_node_26 : decode bb_M_node 26 = .ok (.iload 6, 2) := by decide +kernel
theorem dd_M_node_28 : decode bb_M_node 28 = .ok (.invokestatic 105, 3) := by decide +kernel
theorem dd_M_node_31 : decode bb_M_node 31 = .ok (.ifCond .ne 5, 3) := by decide +kernel
theorem dd_M_node_34 : decode bb_M_node 34 = .ok (.iconst (-1), 1) := by decide +kernel
theorem dd_M_node_35 : decode bb_M_node 35 = .ok (.ireturn, 1) := by decide +kernel
theorem dd_M_node_36 : decode bb_M_node 36 = .ok (.aload_n 0, 1) := by decide +kernel
theorem dd_M_node_37 : decode bb_M_node 37 = .ok (.getfield 73, 3) := by decide +kernel
theorem dd_M_node_40 : decode bb_M_node 40 = .ok (.iconst 1, 1) := by decide +kernel
theorem dd_M_node_41 : decode bb_M_node 41 = .ok (.isub, 1) := by decide +kernel
theorem dd_M_node_42 : decode bb_M_node 42 = .ok (.istore 7, 2) := by decide +kernel
theorem dd_M_node_44 : decode bb_M_node 44 = .ok (.aload_n 0, 1) := by decide +kernel
theorem dd_M_node_45 : decode bb_M_node 45 = .ok (.getfield 76, 3) := by decide +kernel
theorem dd_M_node_48 : decode bb_M_node 48 = .ok (.aload_n 0, 1) := by decide +kernel
theorem dd_M_node_49 : decode bb_M_node 49 = .ok (.getfield 30, 3) := by decide +kernel
theorem dd_M_node_52 : decode bb_M_node 52 = .ok (.iload 7, 2) := by decide +kernel
theorem dd_M_node_54 : decode bb_M_node 54 = .ok (.iaload, 1) := by decide +kernel
theorem dd_M_node_55 : decode bb_M_node 55 = .ok (.if_icmp .le 7, 3) := by decide +kernel
theorem dd_M_node_58 : decode bb_M_node 58 = .ok (.iconst 1, 1) := by decide +kernel
theorem dd_M_node_59 : decode bb_M_node 59 = .ok (.goto 4, 3) := by decide +kernel
theorem dd_M_node_62 : decode bb_M_node 62 = .ok (.iconst 0, 1) := by decide +kernel
theorem dd_M_node_63 : decode bb_M_node 63 = .ok (.istore 8, 2) := by decide +kernel
theorem dd_M_node_65 : decode bb_M_node 65 = .ok (.aload_n 0, 1) := by decide +kernel
theorem dd_M_node_66 : decode bb_M_node 66 = .ok (.invokevirtual 86, 3) := by decide +kernel
theorem dd_M_node_69 : decode bb_M_node 69 = .ok (.istore 9, 2) := by decide +kernel
theorem dd_M_node_71 : decode bb_M_node 71 = .ok (.iload 8, 2) := by decide +kernel
theorem dd_M_node_73 : decode bb_M_node 73 = .ok (.ifCond .eq 10, 3) := by decide +kernel
theorem dd_M_node_76 : decode bb_M_node 76 = .ok (.iload 9, 2) := by decide +kernel
theorem dd_M_node_78 : decode bb_M_node 78 = .ok (.ifCond .ge 5, 3) := by decide +kernel
theorem dd_M_node_81 : decode bb_M_node 81 = .ok (.iconst (-1), 1) := by decide +kernel
theorem dd_M_node_82 : decode bb_M_node 82 = .ok (.ireturn, 1) := by decide +kernel
theorem dd_M_node_83 : decode bb_M_node 83 = .ok (.iload 9, 2) := by decide +kernel
theorem dd_M_node_85 : decode bb_M_node 85 = .ok (.ifCond .ge 13, 3) := by decide +kernel
theorem dd_M_node_88 : decode bb_M_node 88 = .ok (.aload_n 0, 1) := by decide +kernel
theorem dd_M_node_89 : decode bb_M_node 89 = .ok (.getfield 7, 3) := by decide +kernel
theorem dd_M_node_92 : decode bb_M_node 92 = .ok (.iload 7, 2) := by decide +kernel
theorem dd_M_node_94 : decode bb_M_node 94 = .ok (.baload, 1) := by decide +kernel
theorem dd_M_node_95 : decode bb_M_node 95 = .ok (.goto 20, 3) := by decide +kernel
theorem dd_M_node_98 : decode bb_M_node 98 = .ok (.aload_n 0, 1) := by decide +kernel
theorem dd_M_node_99 : decode bb_M_node 99 = .ok (.getfield 33, 3) := by decide +kernel
theorem dd_M_node_102 : decode bb_M_node 102 = .ok (.iload 9, 2) := by decide +kernel
theorem dd_M_node_104 : decode bb_M_node 104 = .ok (.iaload, 1) := by decide +kernel
theorem dd_M_node_105 : decode bb_M_node 105 = .ok (.aload_n 0, 1) := by decide +kernel
theorem dd_M_node_106 : decode bb_M_node 106 = .ok (.getfield 54, 3) := by decide +kernel
theorem dd_M_node_109 : decode bb_M_node 109 = .ok (.iload 9, 2) := by decide +kernel
theorem dd_M_node_111 : decode bb_M_node 111 = .ok (.iaload, 1) := by decide +kernel
theorem dd_M_node_112 : decode bb_M_node 112 = .ok (.invokestatic 109, 3) := by decide +kernel
theorem dd_M_node_115 : decode bb_M_node 115 = .ok (.istore 10, 2) := by decide +kernel
theorem dd_M_node_117 : decode bb_M_node 117 = .ok (.iload 10, 2) := by decide +kernel
theorem dd_M_node_119 : decode bb_M_node 119 = .ok (.iload_n 1, 1) := by decide +kernel
theorem dd_M_node_120 : decode bb_M_node 120 = .ok (.bipush 17, 2) := by decide +kernel
theorem dd_M_node_122 : decode bb_M_node 122 = .ok (.if_icmp .le 7, 3) := by decide +kernel
theorem dd_M_node_125 : decode bb_M_node 125 = .ok (.iconst 1, 1) := by decide +kernel
theorem dd_M_node_126 : decode bb_M_node 126 = .ok (.goto 4, 3) := by decide +kernel
theorem dd_M_node_129 : decode bb_M_node 129 = .ok (.iconst 0, 1) := by decide +kernel
theorem dd_M_node_130 : decode bb_M_node 130 = .ok (.if_icmp .eq 5, 3) := by decide +kernel
theorem dd_M_node_133 : decode bb_M_node 133 = .ok (.iconst (-1), 1) := by decide +kernel
theorem dd_M_node_134 : decode bb_M_node 134 = .ok (.ireturn, 1) := by decide +kernel
theorem dd_M_node_135 : decode bb_M_node 135 = .ok (.aload_n 0, 1) := by decide +kernel
theorem dd_M_node_136 : decode bb_M_node 136 = .ok (.getfield 76, 3) := by decide +kernel
theorem dd_M_node_139 : decode bb_M_node 139 = .ok (.istore 11, 2) := by decide +kernel
theorem dd_M_node_141 : decode bb_M_node 141 = .ok (.aload_n 0, 1) := by decide +kernel
theorem dd_M_node_142 : decode bb_M_node 142 = .ok (.dup, 1) := by decide +kernel
theorem dd_M_node_143 : decode bb_M_node 143 = .ok (.getfield 76, 3) := by decide +kernel
theorem dd_M_node_146 : decode bb_M_node 146 = .ok (.iconst 1, 1) := by decide +kernel
theorem dd_M_node_147 : decode bb_M_node 147 = .ok (.iadd, 1) := by decide +kernel
theorem dd_M_node_148 : decode bb_M_node 148 = .ok (.putfield 76, 3) := by decide +kernel
theorem dd_M_node_151 : decode bb_M_node 151 = .ok (.aload_n 0, 1) := by decide +kernel
theorem dd_M_node_152 : decode bb_M_node 152 = .ok (.getfield 33, 3) := by decide +kernel
theorem dd_M_node_155 : decode bb_M_node 155 = .ok (.iload 11, 2) := by decide +kernel
theorem dd_M_node_157 : decode bb_M_node 157 = .ok (.iload_n 1, 1) := by decide +kernel
theorem dd_M_node_158 : decode bb_M_node 158 = .ok (.iastore, 1) := by decide +kernel
theorem dd_M_node_159 : decode bb_M_node 159 = .ok (.aload_n 0, 1) := by decide +kernel
theorem dd_M_node_160 : decode bb_M_node 160 = .ok (.getfield 36, 3) := by decide +kernel
theorem dd_M_node_163 : decode bb_M_node 163 = .ok (.iload 11, 2) := by decide +kernel
theorem dd_M_node_165 : decode bb_M_node 165 = .ok (.lload_n 2, 1) := by decide +kernel
theorem dd_M_node_166 : decode bb_M_node 166 = .ok (.lastore, 1) := by decide +kernel
theorem dd_M_node_167 : decode bb_M_node 167 = .ok (.aload_n 0, 1) := by decide +kernel
theorem dd_M_node_168 : decode bb_M_node 168 = .ok (.getfield 39, 3) := by decide +kernel
theorem dd_M_node_171 : decode bb_M_node 171 = .ok (.iload 11, 2) := by decide +kernel
theorem dd_M_node_173 : decode bb_M_node 173 = .ok (.lload 4, 2) := by decide +kernel
theorem dd_M_node_175 : decode bb_M_node 175 = .ok (.lastore, 1) := by decide +kernel
theorem dd_M_node_176 : decode bb_M_node 176 = .ok (.aload_n 0, 1) := by decide +kernel
theorem dd_M_node_177 : decode bb_M_node 177 = .ok (.getfield 42, 3) := by decide +kernel
theorem dd_M_node_180 : decode bb_M_node 180 = .ok (.iload 11, 2) := by decide +kernel
theorem dd_M_node_182 : decode bb_M_node 182 = .ok (.iload 6, 2) := by decide +kernel
theorem dd_M_node_184 : decode bb_M_node 184 = .ok (.iastore, 1) := by decide +kernel
theorem dd_M_node_185 : decode bb_M_node 185 = .ok (.aload_n 0, 1) := by decide +kernel
theorem dd_M_node_186 : decode bb_M_node 186 = .ok (.getfield 45, 3) := by decide +kernel
theorem dd_M_node_189 : decode bb_M_node 189 = .ok (.iload 11, 2) := by decide +kernel
theorem dd_M_node_191 : decode bb_M_node 191 = .ok (.iload 9, 2) := by decide +kernel
theorem dd_M_node_193 : decode bb_M_node 193 = .ok (.iastore, 1) := by decide +kernel
theorem dd_M_node_194 : decode bb_M_node 194 = .ok (.aload_n 0, 1) := by decide +kernel
theorem dd_M_node_195 : decode bb_M_node 195 = .ok (.getfield 48, 3) := by decide +kernel
theorem dd_M_node_198 : decode bb_M_node 198 = .ok (.iload 11, 2) := by decide +kernel
theorem dd_M_node_200 : decode bb_M_node 200 = .ok (.iload 9, 2) := by decide +kernel
theorem dd_M_node_202 : decode bb_M_node 202 = .ok (.ifCond .ge 7, 3) := by decide +kernel
theorem dd_M_node_205 : decode bb_M_node 205 = .ok (.iconst 0, 1) := by decide +kernel
theorem dd_M_node_206 : decode bb_M_node 206 = .ok (.goto 10, 3) := by decide +kernel
theorem dd_M_node_209 : decode bb_M_node 209 = .ok (.aload_n 0, 1) := by decide +kernel
theorem dd_M_node_210 : decode bb_M_node 210 = .ok (.getfield 54, 3) := by decide +kernel
theorem dd_M_node_213 : decode bb_M_node 213 = .ok (.iload 9, 2) := by decide +kernel
theorem dd_M_node_215 : decode bb_M_node 215 = .ok (.iaload, 1) := by decide +kernel
theorem dd_M_node_216 : decode bb_M_node 216 = .ok (.iastore, 1) := by decide +kernel
theorem dd_M_node_217 : decode bb_M_node 217 = .ok (.aload_n 0, 1) := by decide +kernel
theorem dd_M_node_218 : decode bb_M_node 218 = .ok (.getfield 51, 3) := by decide +kernel
theorem dd_M_node_221 : decode bb_M_node 221 = .ok (.iload 11, 2) := by decide +kernel
theorem dd_M_node_223 : decode bb_M_node 223 = .ok (.iload 7, 2) := by decide +kernel
theorem dd_M_node_225 : decode bb_M_node 225 = .ok (.iastore, 1) := by decide +kernel
theorem dd_M_node_226 : decode bb_M_node 226 = .ok (.aload_n 0, 1) := by decide +kernel
theorem dd_M_node_227 : decode bb_M_node 227 = .ok (.getfield 54, 3) := by decide +kernel
theorem dd_M_node_230 : decode bb_M_node 230 = .ok (.iload 11, 2) := by decide +kernel
theorem dd_M_node_232 : decode bb_M_node 232 = .ok (.iconst 0, 1) := by decide +kernel
theorem dd_M_node_233 : decode bb_M_node 233 = .ok (.iastore, 1) := by decide +kernel
theorem dd_M_node_234 : decode bb_M_node 234 = .ok (.iload 9, 2) := by decide +kernel
theorem dd_M_node_236 : decode bb_M_node 236 = .ok (.ifCond .lt 14, 3) := by decide +kernel
theorem dd_M_node_239 : decode bb_M_node 239 = .ok (.aload_n 0, 1) := by decide +kernel
theorem dd_M_node_240 : decode bb_M_node 240 = .ok (.getfield 54, 3) := by decide +kernel
theorem dd_M_node_243 : decode bb_M_node 243 = .ok (.iload 9, 2) := by decide +kernel
theorem dd_M_node_245 : decode bb_M_node 245 = .ok (.dup2, 1) := by decide +kernel
theorem dd_M_node_246 : decode bb_M_node 246 = .ok (.iaload, 1) := by decide +kernel
theorem dd_M_node_247 : decode bb_M_node 247 = .ok (.iconst 1, 1) := by decide +kernel
theorem dd_M_node_248 : decode bb_M_node 248 = .ok (.iadd, 1) := by decide +kernel
theorem dd_M_node_249 : decode bb_M_node 249 = .ok (.iastore, 1) := by decide +kernel
theorem dd_M_node_250 : decode bb_M_node 250 = .ok (.aload_n 0, 1) := by decide +kernel
theorem dd_M_node_251 : decode bb_M_node 251 = .ok (.iconst 0, 1) := by decide +kernel
theorem dd_M_node_252 : decode bb_M_node 252 = .ok (.putfield 79, 3) := by decide +kernel
theorem dd_M_node_255 : decode bb_M_node 255 = .ok (.iload 11, 2) := by decide +kernel
theorem dd_M_node_257 : decode bb_M_node 257 = .ok (.ireturn, 1) := by decide +kernel
theorem dd_M_wrong_0 : decode bb_M_wrong 0 = .ok (.aload_n 0, 1) := by decide +kernel
theorem dd_M_wrong_1 : decode bb_M_wrong 1 = .ok (.getfield 83, 3) := by decide +kernel
theorem dd_M_wrong_4 : decode bb_M_wrong 4 = .ok (.ifCond .ne 13, 3) := by decide +kernel
theorem dd_M_wrong_7 : decode bb_M_wrong 7 = .ok (.aload_n 0, 1) := by decide +kernel
theorem dd_M_wrong_8 : decode bb_M_wrong 8 = .ok (.iload_n 1, 1) := by decide +kernel
theorem dd_M_wrong_9 : decode bb_M_wrong 9 = .ok (.putfield 83, 3) := by decide +kernel
theorem dd_M_wrong_12 : decode bb_M_wrong 12 = .ok (.aload_n 0, 1) := by decide +kernel
theorem dd_M_wrong_13 : decode bb_M_wrong 13 = .ok (.iload_n 2, 1) := by decide +kernel
theorem dd_M_wrong_14 : decode bb_M_wrong 14 = .ok (.putfield 66, 3) := by decide +kernel
theorem dd_M_wrong_17 : decode bb_M_wrong 17 = .ok (.iconst 0, 1) := by decide +kernel
theorem dd_M_wrong_18 : decode bb_M_wrong 18 = .ok (.ireturn, 1) := by decide +kernel
theorem dd_M_bindsIn_0 : decode bb_M_bindsIn 0 = .ok (.aload_n 0, 1) := by decide +kernel
theorem dd_M_bindsIn_1 : decode bb_M_bindsIn 1 = .ok (.getfield 33, 3) := by decide +kernel
theorem dd_M_bindsIn_4 : decode bb_M_bindsIn 4 = .ok (.iload_n 1, 1) := by decide +kernel
theorem dd_M_bindsIn_5 : decode bb_M_bindsIn 5 = .ok (.iaload, 1) := by decide +kernel
theorem dd_M_bindsIn_6 : decode bb_M_bindsIn 6 = .ok (.istore_n 3, 1) := by decide +kernel
theorem dd_M_bindsIn_7 : decode bb_M_bindsIn 7 = .ok (.iload_n 3, 1) := by decide +kernel
theorem dd_M_bindsIn_8 : decode bb_M_bindsIn 8 = .ok (.bipush 11, 2) := by decide +kernel
theorem dd_M_bindsIn_10 : decode bb_M_bindsIn 10 = .ok (.if_icmp .eq 15, 3) := by decide +kernel
theorem dd_M_bindsIn_13 : decode bb_M_bindsIn 13 = .ok (.iload_n 3, 1) := by decide +kernel
theorem dd_M_bindsIn_14 : decode bb_M_bindsIn 14 = .ok (.bipush 21, 2) := by decide +kernel
theorem dd_M_bindsIn_16 : decode bb_M_bindsIn 16 = .ok (.if_icmp .eq 9, 3) := by decide +kernel
theorem dd_M_bindsIn_19 : decode bb_M_bindsIn 19 = .ok (.iload_n 3, 1) := by decide +kernel
theorem dd_M_bindsIn_20 : decode bb_M_bindsIn 20 = .ok (.bipush 18, 2) := by decide +kernel
theorem dd_M_bindsIn_22 : decode bb_M_bindsIn 22 = .ok (.if_icmp .ne 8, 3) := by decide +kernel
theorem dd_M_bindsIn_25 : decode bb_M_bindsIn 25 = .ok (.iload_n 2, 1) := by decide +kernel
theorem dd_M_bindsIn_26 : decode bb_M_bindsIn 26 = .ok (.iconst 1, 1) := by decide +kernel
theorem dd_M_bindsIn_27 : decode bb_M_bindsIn 27 = .ok (.if_icmp .eq 15, 3) := by decide +kernel
theorem dd_M_bindsIn_30 : decode bb_M_bindsIn 30 = .ok (.iload_n 3, 1) := by decide +kernel
theorem dd_M_bindsIn_31 : decode bb_M_bindsIn 31 = .ok (.invokestatic 98, 3) := by decide +kernel
theorem dd_M_bindsIn_34 : decode bb_M_bindsIn 34 = .ok (.ifCond .eq 12, 3) := by decide +kernel
theorem dd_M_bindsIn_37 : decode bb_M_bindsIn 37 = .ok (.iload_n 2, 1) := by decide +kernel
theorem dd_M_bindsIn_38 : decode bb_M_bindsIn 38 = .ok (.iconst 2, 1) := by decide +kernel
theorem dd_M_bindsIn_39 : decode bb_M_bindsIn 39 = .ok (.if_icmp .ne 7, 3) := by decide +kernel
theorem dd_M_bindsIn_42 : decode bb_M_bindsIn 42 = .ok (.iconst 1, 1) := by decide +kernel
theorem dd_M_bindsIn_43 : decode bb_M_bindsIn 43 = .ok (.goto 4, 3) := by decide +kernel
theorem dd_M_bindsIn_46 : decode bb_M_bindsIn 46 = .ok (.iconst 0, 1) := by decide +kernel
theorem dd_M_bindsIn_47 : decode bb_M_bindsIn 47 = .ok (.ireturn, 1) := by decide +kernel
theorem dd_M_there_0 : decode bb_M_there 0 = .ok (.aload_n 0, 1) := by decide +kernel
theorem dd_M_there_1 : decode bb_M_there 1 = .ok (.getfield 21, 3) := by decide +kernel
theorem dd_M_there_4 : decode bb_M_there 4 = .ok (.aload_n 0, 1) := by decide +kernel
theorem dd_M_there_5 : decode bb_M_there 5 = .ok (.getfield 51, 3) := by decide +kernel
theorem dd_M_there_8 : decode bb_M_there 8 = .ok (.iload_n 1, 1) := by decide +kernel
theorem dd_M_there_9 : decode bb_M_there 9 = .ok (.iaload, 1) := by decide +kernel
theorem dd_M_there_10 : decode bb_M_there 10 = .ok (.iaload, 1) := by decide +kernel
theorem dd_M_there_11 : decode bb_M_there 11 = .ok (.istore_n 2, 1) := by decide +kernel
theorem dd_M_there_12 : decode bb_M_there 12 = .ok (.iload_n 1, 1) := by decide +kernel
theorem dd_M_there_13 : decode bb_M_there 13 = .ok (.istore_n 3, 1) := by decide +kernel
theorem dd_M_there_14 : decode bb_M_there 14 = .ok (.aload_n 0, 1) := by decide +kernel
theorem dd_M_there_15 : decode bb_M_there 15 = .ok (.getfield 45, 3) := by decide +kernel
theorem dd_M_there_18 : decode bb_M_there 18 = .ok (.iload_n 3, 1) := by decide +kernel
theorem dd_M_there_19 : decode bb_M_there 19 = .ok (.iaload, 1) := by decide +kernel
theorem dd_M_there_20 : decode bb_M_there 20 = .ok (.ifCond .lt 61, 3) := by decide +kernel
theorem dd_M_there_23 : decode bb_M_there 23 = .ok (.iload_n 2, 1) := by decide +kernel
theorem dd_M_there_24 : decode bb_M_there 24 = .ok (.aload_n 0, 1) := by decide +kernel
theorem dd_M_there_25 : decode bb_M_there 25 = .ok (.aload_n 0, 1) := by decide +kernel
theorem dd_M_there_26 : decode bb_M_there 26 = .ok (.getfield 45, 3) := by decide +kernel
theorem dd_M_there_29 : decode bb_M_there 29 = .ok (.iload_n 3, 1) := by decide +kernel
theorem dd_M_there_30 : decode bb_M_there 30 = .ok (.iaload, 1) := by decide +kernel
theorem dd_M_there_31 : decode bb_M_there 31 = .ok (.aload_n 0, 1) := by decide +kernel
theorem dd_M_there_32 : decode bb_M_there 32 = .ok (.getfield 48, 3) := by decide +kernel
theorem dd_M_there_35 : decode bb_M_there 35 = .ok (.iload_n 3, 1) := by decide +kernel
theorem dd_M_there_36 : decode bb_M_there 36 = .ok (.iaload, 1) := by decide +kernel
theorem dd_M_there_37 : decode bb_M_there 37 = .ok (.invokevirtual 113, 3) := by decide +kernel
theorem dd_M_there_40 : decode bb_M_there 40 = .ok (.ifCond .ne 7, 3) := by decide +kernel
theorem dd_M_there_43 : decode bb_M_there 43 = .ok (.iconst 0, 1) := by decide +kernel
theorem dd_M_there_44 : decode bb_M_there 44 = .ok (.goto 25, 3) := by decide +kernel
theorem dd_M_there_47 : decode bb_M_there 47 = .ok (.aload_n 0, 1) := by decide +kernel
theorem dd_M_there_48 : decode bb_M_there 48 = .ok (.getfield 33, 3) := by decide +kernel
theorem dd_M_there_51 : decode bb_M_there 51 = .ok (.aload_n 0, 1) := by decide +kernel
theorem dd_M_there_52 : decode bb_M_there 52 = .ok (.getfield 45, 3) := by decide +kernel
theorem dd_M_there_55 : decode bb_M_there 55 = .ok (.iload_n 3, 1) := by decide +kernel
theorem dd_M_there_56 : decode bb_M_there 56 = .ok (.iaload, 1) := by decide +kernel
theorem dd_M_there_57 : decode bb_M_there 57 = .ok (.iaload, 1) := by decide +kernel
theorem dd_M_there_58 : decode bb_M_there 58 = .ok (.invokestatic 98, 3) := by decide +kernel
theorem dd_M_there_61 : decode bb_M_there 61 = .ok (.ifCond .eq 7, 3) := by decide +kernel
theorem dd_M_there_64 : decode bb_M_there 64 = .ok (.iconst 2, 1) := by decide +kernel
theorem dd_M_there_65 : decode bb_M_there 65 = .ok (.goto 4, 3) := by decide +kernel
theorem dd_M_there_68 : decode bb_M_there 68 = .ok (.iconst 1, 1) := by decide +kernel
theorem dd_M_there_69 : decode bb_M_there 69 = .ok (.iadd, 1) := by decide +kernel
theorem dd_M_there_70 : decode bb_M_there 70 = .ok (.istore_n 2, 1) := by decide +kernel
theorem dd_M_there_71 : decode bb_M_there 71 = .ok (.aload_n 0, 1) := by decide +kernel
theorem dd_M_there_72 : decode bb_M_there 72 = .ok (.getfield 45, 3) := by decide +kernel
theorem dd_M_there_75 : decode bb_M_there 75 = .ok (.iload_n 3, 1) := by decide +kernel
theorem dd_M_there_76 : decode bb_M_there 76 = .ok (.iaload, 1) := by decide +kernel
theorem dd_M_there_77 : decode bb_M_there 77 = .ok (.istore_n 3, 1) := by decide +kernel
theorem dd_M_there_78 : decode bb_M_there 78 = .ok (.goto (-64), 3) := by decide +kernel
theorem dd_M_there_81 : decode bb_M_there 81 = .ok (.iload_n 2, 1) := by decide +kernel
theorem dd_M_there_82 : decode bb_M_there 82 = .ok (.ireturn, 1) := by decide +kernel
theorem dd_M_binderOf_0 : decode bb_M_binderOf 0 = .ok (.iload_n 1, 1) := by decide +kernel
theorem dd_M_binderOf_1 : decode bb_M_binderOf 1 = .ok (.istore 4, 2) := by decide +kernel
theorem dd_M_binderOf_3 : decode bb_M_binderOf 3 = .ok (.aload_n 0, 1) := by decide +kernel
theorem dd_M_binderOf_4 : decode bb_M_binderOf 4 = .ok (.getfield 45, 3) := by decide +kernel
theorem dd_M_binderOf_7 : decode bb_M_binderOf 7 = .ok (.iload 4, 2) := by decide +kernel
theorem dd_M_binderOf_9 : decode bb_M_binderOf 9 = .ok (.iaload, 1) := by decide +kernel
theorem dd_M_binderOf_10 : decode bb_M_binderOf 10 = .ok (.ifCond .lt 67, 3) := by decide +kernel
theorem dd_M_binderOf_13 : decode bb_M_binderOf 13 = .ok (.aload_n 0, 1) := by decide +kernel
theorem dd_M_binderOf_14 : decode bb_M_binderOf 14 = .ok (.getfield 45, 3) := by decide +kernel
theorem dd_M_binderOf_17 : decode bb_M_binderOf 17 = .ok (.iload 4, 2) := by decide +kernel
theorem dd_M_binderOf_19 : decode bb_M_binderOf 19 = .ok (.iaload, 1) := by decide +kernel
theorem dd_M_binderOf_20 : decode bb_M_binderOf 20 = .ok (.istore 5, 2) := by decide +kernel
theorem dd_M_binderOf_22 : decode bb_M_binderOf 22 = .ok (.aload_n 0, 1) := by decide +kernel
theorem dd_M_binderOf_23 : decode bb_M_binderOf 23 = .ok (.iload 5, 2) := by decide +kernel
theorem dd_M_binderOf_25 : decode bb_M_binderOf 25 = .ok (.aload_n 0, 1) := by decide +kernel
theorem dd_M_binderOf_26 : decode bb_M_binderOf 26 = .ok (.getfield 48, 3) := by decide +kernel
theorem dd_M_binderOf_29 : decode bb_M_binderOf 29 = .ok (.iload 4, 2) := by decide +kernel
theorem dd_M_binderOf_31 : decode bb_M_binderOf 31 = .ok (.iaload, 1) := by decide +kernel
theorem dd_M_binderOf_32 : decode bb_M_binderOf 32 = .ok (.invokevirtual 113, 3) := by decide +kernel
theorem dd_M_binderOf_35 : decode bb_M_binderOf 35 = .ok (.ifCond .eq 30, 3) := by decide +kernel
theorem dd_M_binderOf_38 : decode bb_M_binderOf 38 = .ok (.aload_n 0, 1) := by decide +kernel
theorem dd_M_binderOf_39 : decode bb_M_binderOf 39 = .ok (.getfield 36, 3) := by decide +kernel
theorem dd_M_binderOf_42 : decode bb_M_binderOf 42 = .ok (.iload 5, 2) := by decide +kernel
theorem dd_M_binderOf_44 : decode bb_M_binderOf 44 = .ok (.laload, 1) := by decide +kernel
theorem dd_M_binderOf_45 : decode bb_M_binderOf 45 = .ok (.lload_n 2, 1) := by decide +kernel
theorem dd_M_binderOf_46 : decode bb_M_binderOf 46 = .ok (.lcmp, 1) := by decide +kernel
theorem dd_M_binderOf_47 : decode bb_M_binderOf 47 = .ok (.ifCond .eq 15, 3) := by decide +kernel
theorem dd_M_binderOf_50 : decode bb_M_binderOf 50 = .ok (.aload_n 0, 1) := by decide +kernel
theorem dd_M_binderOf_51 : decode bb_M_binderOf 51 = .ok (.getfield 39, 3) := by decide +kernel
theorem dd_M_binderOf_54 : decode bb_M_binderOf 54 = .ok (.iload 5, 2) := by decide +kernel
theorem dd_M_binderOf_56 : decode bb_M_binderOf 56 = .ok (.laload, 1) := by decide +kernel
theorem dd_M_binderOf_57 : decode bb_M_binderOf 57 = .ok (.lload_n 2, 1) := by decide +kernel
theorem dd_M_binderOf_58 : decode bb_M_binderOf 58 = .ok (.lcmp, 1) := by decide +kernel
theorem dd_M_binderOf_59 : decode bb_M_binderOf 59 = .ok (.ifCond .ne 6, 3) := by decide +kernel
theorem dd_M_binderOf_62 : decode bb_M_binderOf 62 = .ok (.iload 5, 2) := by decide +kernel
theorem dd_M_binderOf_64 : decode bb_M_binderOf 64 = .ok (.ireturn, 1) := by decide +kernel
theorem dd_M_binderOf_65 : decode bb_M_binderOf 65 = .ok (.aload_n 0, 1) := by decide +kernel
theorem dd_M_binderOf_66 : decode bb_M_binderOf 66 = .ok (.getfield 45, 3) := by decide +kernel
theorem dd_M_binderOf_69 : decode bb_M_binderOf 69 = .ok (.iload 4, 2) := by decide +kernel
theorem dd_M_binderOf_71 : decode bb_M_binderOf 71 = .ok (.iaload, 1) := by decide +kernel
theorem dd_M_binderOf_72 : decode bb_M_binderOf 72 = .ok (.istore 4, 2) := by decide +kernel
theorem dd_M_binderOf_74 : decode bb_M_binderOf 74 = .ok (.goto (-71), 3) := by decide +kernel
theorem dd_M_binderOf_77 : decode bb_M_binderOf 77 = .ok (.aload_n 0, 1) := by decide +kernel
theorem dd_M_binderOf_78 : decode bb_M_binderOf 78 = .ok (.getfield 51, 3) := by decide +kernel
theorem dd_M_binderOf_81 : decode bb_M_binderOf 81 = .ok (.iload_n 1, 1) := by decide +kernel
theorem dd_M_binderOf_82 : decode bb_M_binderOf 82 = .ok (.iaload, 1) := by decide +kernel
theorem dd_M_binderOf_83 : decode bb_M_binderOf 83 = .ok (.istore 4, 2) := by decide +kernel
theorem dd_M_binderOf_85 : decode bb_M_binderOf 85 = .ok (.iconst 0, 1) := by decide +kernel
theorem dd_M_binderOf_86 : decode bb_M_binderOf 86 = .ok (.istore 5, 2) := by decide +kernel
theorem dd_M_binderOf_88 : decode bb_M_binderOf 88 = .ok (.iload 5, 2) := by decide +kernel
theorem dd_M_binderOf_90 : decode bb_M_binderOf 90 = .ok (.aload_n 0, 1) := by decide +kernel
theorem dd_M_binderOf_91 : decode bb_M_binderOf 91 = .ok (.getfield 21, 3) := by decide +kernel
theorem dd_M_binderOf_94 : decode bb_M_binderOf 94 = .ok (.iload 4, 2) := by decide +kernel
theorem dd_M_binderOf_96 : decode bb_M_binderOf 96 = .ok (.iaload, 1) := by decide +kernel
theorem dd_M_binderOf_97 : decode bb_M_binderOf 97 = .ok (.if_icmp .ge 33, 3) := by decide +kernel
theorem dd_M_binderOf_100 : decode bb_M_binderOf 100 = .ok (.aload_n 0, 1) := by decide +kernel
theorem dd_M_binderOf_101 : decode bb_M_binderOf 101 = .ok (.getfield 24, 3) := by decide +kernel
theorem dd_M_binderOf_104 : decode bb_M_binderOf 104 = .ok (.bipush 8, 2) := by decide +kernel
theorem dd_M_binderOf_106 : decode bb_M_binderOf 106 = .ok (.iload 4, 2) := by decide +kernel
theorem dd_M_binderOf_108 : decode bb_M_binderOf 108 = .ok (.imul, 1) := by decide +kernel
theorem dd_M_binderOf_109 : decode bb_M_binderOf 109 = .ok (.iload 5, 2) := by decide +kernel
theorem dd_M_binderOf_111 : decode bb_M_binderOf 111 = .ok (.iadd, 1) := by decide +kernel
theorem dd_M_binderOf_112 : decode bb_M_binderOf 112 = .ok (.laload, 1) := by decide +kernel
theorem dd_M_binderOf_113 : decode bb_M_binderOf 113 = .ok (.lload_n 2, 1) := by decide +kernel
theorem dd_M_binderOf_114 : decode bb_M_binderOf 114 = .ok (.lcmp, 1) := by decide +kernel
theorem dd_M_binderOf_115 : decode bb_M_binderOf 115 = .ok (.ifCond .ne 9, 3) := by decide +kernel
theorem dd_M_binderOf_118 : decode bb_M_binderOf 118 = .ok (.bipush (-2), 2) := by decide +kernel
theorem dd_M_binderOf_120 : decode bb_M_binderOf 120 = .ok (.iload 5, 2) := by decide +kernel
theorem dd_M_binderOf_122 : decode bb_M_binderOf 122 = .ok (.isub, 1) := by decide +kernel
theorem dd_M_binderOf_123 : decode bb_M_binderOf 123 = .ok (.ireturn, 1) := by decide +kernel
theorem dd_M_binderOf_124 : decode bb_M_binderOf 124 = .ok (.iinc 5 1, 3) := by decide +kernel
theorem dd_M_binderOf_127 : decode bb_M_binderOf 127 = .ok (.goto (-39), 3) := by decide +kernel
theorem dd_M_binderOf_130 : decode bb_M_binderOf 130 = .ok (.iconst (-1), 1) := by decide +kernel
theorem dd_M_binderOf_131 : decode bb_M_binderOf 131 = .ok (.ireturn, 1) := by decide +kernel
theorem dd_M_targetOf_0 : decode bb_M_targetOf 0 = .ok (.iconst (-1), 1) := by decide +kernel
theorem dd_M_targetOf_1 : decode bb_M_targetOf 1 = .ok (.istore_n 2, 1) := by decide +kernel
theorem dd_M_targetOf_2 : decode bb_M_targetOf 2 = .ok (.iconst 0, 1) := by decide +kernel
theorem dd_M_targetOf_3 : decode bb_M_targetOf 3 = .ok (.istore_n 3, 1) := by decide +kernel
theorem dd_M_targetOf_4 : decode bb_M_targetOf 4 = .ok (.iload_n 3, 1) := by decide +kernel
theorem dd_M_targetOf_5 : decode bb_M_targetOf 5 = .ok (.aload_n 0, 1) := by decide +kernel
theorem dd_M_targetOf_6 : decode bb_M_targetOf 6 = .ok (.getfield 73, 3) := by decide +kernel
theorem dd_M_targetOf_9 : decode bb_M_targetOf 9 = .ok (.if_icmp .ge 31, 3) := by decide +kernel
theorem dd_M_targetOf_12 : decode bb_M_targetOf 12 = .ok (.aload_n 0, 1) := by decide +kernel
theorem dd_M_targetOf_13 : decode bb_M_targetOf 13 = .ok (.getfield 13, 3) := by decide +kernel
theorem dd_M_targetOf_16 : decode bb_M_targetOf 16 = .ok (.iload_n 3, 1) := by decide +kernel
theorem dd_M_targetOf_17 : decode bb_M_targetOf 17 = .ok (.laload, 1) := by decide +kernel
theorem dd_M_targetOf_18 : decode bb_M_targetOf 18 = .ok (.aload_n 0, 1) := by decide +kernel
theorem dd_M_targetOf_19 : decode bb_M_targetOf 19 = .ok (.getfield 36, 3) := by decide +kernel
theorem dd_M_targetOf_22 : decode bb_M_targetOf 22 = .ok (.iload_n 1, 1) := by decide +kernel
theorem dd_M_targetOf_23 : decode bb_M_targetOf 23 = .ok (.laload, 1) := by decide +kernel
theorem dd_M_targetOf_24 : decode bb_M_targetOf 24 = .ok (.lcmp, 1) := by decide +kernel
theorem dd_M_targetOf_25 : decode bb_M_targetOf 25 = .ok (.ifCond .ne 7, 3) := by decide +kernel
theorem dd_M_targetOf_28 : decode bb_M_targetOf 28 = .ok (.iload_n 3, 1) := by decide +kernel
theorem dd_M_targetOf_29 : decode bb_M_targetOf 29 = .ok (.goto 4, 3) := by decide +kernel
theorem dd_M_targetOf_32 : decode bb_M_targetOf 32 = .ok (.iload_n 2, 1) := by decide +kernel
theorem dd_M_targetOf_33 : decode bb_M_targetOf 33 = .ok (.istore_n 2, 1) := by decide +kernel
theorem dd_M_targetOf_34 : decode bb_M_targetOf 34 = .ok (.iinc 3 1, 3) := by decide +kernel
theorem dd_M_targetOf_37 : decode bb_M_targetOf 37 = .ok (.goto (-33), 3) := by decide +kernel
theorem dd_M_targetOf_40 : decode bb_M_targetOf 40 = .ok (.iload_n 2, 1) := by decide +kernel
theorem dd_M_targetOf_41 : decode bb_M_targetOf 41 = .ok (.ifCond .lt 63, 3) := by decide +kernel
theorem dd_M_targetOf_44 : decode bb_M_targetOf 44 = .ok (.aload_n 0, 1) := by decide +kernel
theorem dd_M_targetOf_45 : decode bb_M_targetOf 45 = .ok (.getfield 7, 3) := by decide +kernel
theorem dd_M_targetOf_48 : decode bb_M_targetOf 48 = .ok (.iload_n 2, 1) := by decide +kernel
theorem dd_M_targetOf_49 : decode bb_M_targetOf 49 = .ok (.ifCond .ge 7, 3) := by decide +kernel
theorem dd_M_targetOf_52 : decode bb_M_targetOf 52 = .ok (.iconst 0, 1) := by decide +kernel
theorem dd_M_targetOf_53 : decode bb_M_targetOf 53 = .ok (.goto 4, 3) := by decide +kernel
theorem dd_M_targetOf_56 : decode bb_M_targetOf 56 = .ok (.iload_n 2, 1) := by decide +kernel
theorem dd_M_targetOf_57 : decode bb_M_targetOf 57 = .ok (.baload, 1) := by decide +kernel
theorem dd_M_targetOf_58 : decode bb_M_targetOf 58 = .ok (.aload_n 0, 1) := by decide +kernel
theorem dd_M_targetOf_59 : decode bb_M_targetOf 59 = .ok (.getfield 33, 3) := by decide +kernel
theorem dd_M_targetOf_62 : decode bb_M_targetOf 62 = .ok (.iload_n 1, 1) := by decide +kernel
theorem dd_M_targetOf_63 : decode bb_M_targetOf 63 = .ok (.iaload, 1) := by decide +kernel
theorem dd_M_targetOf_64 : decode bb_M_targetOf 64 = .ok (.bipush 23, 2) := by decide +kernel
theorem dd_M_targetOf_66 : decode bb_M_targetOf 66 = .ok (.if_icmp .ne 7, 3) := by decide +kernel
theorem dd_M_targetOf_69 : decode bb_M_targetOf 69 = .ok (.iconst 1, 1) := by decide +kernel
theorem dd_M_targetOf_70 : decode bb_M_targetOf 70 = .ok (.goto 4, 3) := by decide +kernel
theorem dd_M_targetOf_73 : decode bb_M_targetOf 73 = .ok (.iconst 0, 1) := by decide +kernel
theorem dd_M_targetOf_74 : decode bb_M_targetOf 74 = .ok (.if_icmp .ne 30, 3) := by decide +kernel
theorem dd_M_targetOf_77 : decode bb_M_targetOf 77 = .ok (.aload_n 0, 1) := by decide +kernel
theorem dd_M_targetOf_78 : decode bb_M_targetOf 78 = .ok (.getfield 21, 3) := by decide +kernel
theorem dd_M_targetOf_81 : decode bb_M_targetOf 81 = .ok (.iload_n 2, 1) := by decide +kernel
theorem dd_M_targetOf_82 : decode bb_M_targetOf 82 = .ok (.ifCond .ge 7, 3) := by decide +kernel
theorem dd_M_targetOf_85 : decode bb_M_targetOf 85 = .ok (.iconst 0, 1) := by decide +kernel
theorem dd_M_targetOf_86 : decode bb_M_targetOf 86 = .ok (.goto 4, 3) := by decide +kernel
theorem dd_M_targetOf_89 : decode bb_M_targetOf 89 = .ok (.iload_n 2, 1) := by decide +kernel
theorem dd_M_targetOf_90 : decode bb_M_targetOf 90 = .ok (.iaload, 1) := by decide +kernel
theorem dd_M_targetOf_91 : decode bb_M_targetOf 91 = .ok (.aload_n 0, 1) := by decide +kernel
theorem dd_M_targetOf_92 : decode bb_M_targetOf 92 = .ok (.getfield 42, 3) := by decide +kernel
theorem dd_M_targetOf_95 : decode bb_M_targetOf 95 = .ok (.iload_n 1, 1) := by decide +kernel
theorem dd_M_targetOf_96 : decode bb_M_targetOf 96 = .ok (.iaload, 1) := by decide +kernel
theorem dd_M_targetOf_97 : decode bb_M_targetOf 97 = .ok (.if_icmp .ne 7, 3) := by decide +kernel
theorem dd_M_targetOf_100 : decode bb_M_targetOf 100 = .ok (.iconst 1, 1) := by decide +kernel
theorem dd_M_targetOf_101 : decode bb_M_targetOf 101 = .ok (.goto 4, 3) := by decide +kernel
theorem dd_M_targetOf_104 : decode bb_M_targetOf 104 = .ok (.iconst 0, 1) := by decide +kernel
theorem dd_M_targetOf_105 : decode bb_M_targetOf 105 = .ok (.istore_n 3, 1) := by decide +kernel
theorem dd_M_targetOf_106 : decode bb_M_targetOf 106 = .ok (.iload_n 3, 1) := by decide +kernel
theorem dd_M_targetOf_107 : decode bb_M_targetOf 107 = .ok (.ifCond .eq 7, 3) := by decide +kernel
theorem dd_M_targetOf_110 : decode bb_M_targetOf 110 = .ok (.iload_n 2, 1) := by decide +kernel
theorem dd_M_targetOf_111 : decode bb_M_targetOf 111 = .ok (.goto 4, 3) := by decide +kernel
theorem dd_M_targetOf_114 : decode bb_M_targetOf 114 = .ok (.iconst (-1), 1) := by decide +kernel
theorem dd_M_targetOf_115 : decode bb_M_targetOf 115 = .ok (.ireturn, 1) := by decide +kernel
theorem dd_M_partOf_0 : decode bb_M_partOf 0 = .ok (.iload_n 1, 1) := by decide +kernel
theorem dd_M_partOf_1 : decode bb_M_partOf 1 = .ok (.iconst 1, 1) := by decide +kernel
theorem dd_M_partOf_2 : decode bb_M_partOf 2 = .ok (.iadd, 1) := by decide +kernel
theorem dd_M_partOf_3 : decode bb_M_partOf 3 = .ok (.istore_n 3, 1) := by decide +kernel
theorem dd_M_partOf_4 : decode bb_M_partOf 4 = .ok (.aload_n 0, 1) := by decide +kernel
theorem dd_M_partOf_5 : decode bb_M_partOf 5 = .ok (.getfield 45, 3) := by decide +kernel
theorem dd_M_partOf_8 : decode bb_M_partOf 8 = .ok (.iload_n 3, 1) := by decide +kernel
theorem dd_M_partOf_9 : decode bb_M_partOf 9 = .ok (.iaload, 1) := by decide +kernel
theorem dd_M_partOf_10 : decode bb_M_partOf 10 = .ok (.iload_n 1, 1) := by decide +kernel
theorem dd_M_partOf_11 : decode bb_M_partOf 11 = .ok (.if_icmp .ne 13, 3) := by decide +kernel
theorem dd_M_partOf_14 : decode bb_M_partOf 14 = .ok (.aload_n 0, 1) := by decide +kernel
theorem dd_M_partOf_15 : decode bb_M_partOf 15 = .ok (.getfield 48, 3) := by decide +kernel
theorem dd_M_partOf_18 : decode bb_M_partOf 18 = .ok (.iload_n 3, 1) := by decide +kernel
theorem dd_M_partOf_19 : decode bb_M_partOf 19 = .ok (.iaload, 1) := by decide +kernel
theorem dd_M_partOf_20 : decode bb_M_partOf 20 = .ok (.iload_n 2, 1) := by decide +kernel
theorem dd_M_partOf_21 : decode bb_M_partOf 21 = .ok (.if_icmp .eq 9, 3) := by decide +kernel
theorem dd_M_partOf_24 : decode bb_M_partOf 24 = .ok (.iinc 3 1, 3) := by decide +kernel
theorem dd_M_partOf_27 : decode bb_M_partOf 27 = .ok (.goto (-23), 3) := by decide +kernel
theorem dd_M_partOf_30 : decode bb_M_partOf 30 = .ok (.iload_n 3, 1) := by decide +kernel
theorem dd_M_partOf_31 : decode bb_M_partOf 31 = .ok (.ireturn, 1) := by decide +kernel
theorem dd_M_comeTo_0 : decode bb_M_comeTo 0 = .ok (.aload_n 0, 1) := by decide +kernel
theorem dd_M_comeTo_1 : decode bb_M_comeTo 1 = .ok (.iload_n 1, 1) := by decide +kernel
theorem dd_M_comeTo_2 : decode bb_M_comeTo 2 = .ok (.invokevirtual 116, 3) := by decide +kernel
theorem dd_M_comeTo_5 : decode bb_M_comeTo 5 = .ok (.istore_n 2, 1) := by decide +kernel
theorem dd_M_comeTo_6 : decode bb_M_comeTo 6 = .ok (.iload_n 2, 1) := by decide +kernel
theorem dd_M_comeTo_7 : decode bb_M_comeTo 7 = .ok (.aload_n 0, 1) := by decide +kernel
theorem dd_M_comeTo_8 : decode bb_M_comeTo 8 = .ok (.getfield 33, 3) := by decide +kernel
theorem dd_M_comeTo_11 : decode bb_M_comeTo 11 = .ok (.iload_n 1, 1) := by decide +kernel
theorem dd_M_comeTo_12 : decode bb_M_comeTo 12 = .ok (.iaload, 1) := by decide +kernel
theorem dd_M_comeTo_13 : decode bb_M_comeTo 13 = .ok (.invokestatic 98, 3) := by decide +kernel
theorem dd_M_comeTo_16 : decode bb_M_comeTo 16 = .ok (.ifCond .eq 7, 3) := by decide +kernel
theorem dd_M_comeTo_19 : decode bb_M_comeTo 19 = .ok (.iconst 2, 1) := by decide +kernel
theorem dd_M_comeTo_20 : decode bb_M_comeTo 20 = .ok (.goto 17, 3) := by decide +kernel
theorem dd_M_comeTo_23 : decode bb_M_comeTo 23 = .ok (.aload_n 0, 1) := by decide +kernel
theorem dd_M_comeTo_24 : decode bb_M_comeTo 24 = .ok (.iload_n 1, 1) := by decide +kernel
theorem dd_M_comeTo_25 : decode bb_M_comeTo 25 = .ok (.iconst 1, 1) := by decide +kernel
theorem dd_M_comeTo_26 : decode bb_M_comeTo 26 = .ok (.invokevirtual 113, 3) := by decide +kernel
theorem dd_M_comeTo_29 : decode bb_M_comeTo 29 = .ok (.ifCond .eq 7, 3) := by decide +kernel
theorem dd_M_comeTo_32 : decode bb_M_comeTo 32 = .ok (.iconst 1, 1) := by decide +kernel
theorem dd_M_comeTo_33 : decode bb_M_comeTo 33 = .ok (.goto 4, 3) := by decide +kernel
theorem dd_M_comeTo_36 : decode bb_M_comeTo 36 = .ok (.iconst 0, 1) := by decide +kernel
theorem dd_M_comeTo_37 : decode bb_M_comeTo 37 = .ok (.iadd, 1) := by decide +kernel
theorem dd_M_comeTo_38 : decode bb_M_comeTo 38 = .ok (.istore_n 3, 1) := by decide +kernel
theorem dd_M_comeTo_39 : decode bb_M_comeTo 39 = .ok (.aload_n 0, 1) := by decide +kernel
theorem dd_M_comeTo_40 : decode bb_M_comeTo 40 = .ok (.iload_n 3, 1) := by decide +kernel
theorem dd_M_comeTo_41 : decode bb_M_comeTo 41 = .ok (.aload_n 0, 1) := by decide +kernel
theorem dd_M_comeTo_42 : decode bb_M_comeTo 42 = .ok (.getfield 119, 3) := by decide +kernel
theorem dd_M_comeTo_45 : decode bb_M_comeTo 45 = .ok (.if_icmp .le 7, 3) := by decide +kernel
theorem dd_M_comeTo_48 : decode bb_M_comeTo 48 = .ok (.iload_n 3, 1) := by decide +kernel
theorem dd_M_comeTo_49 : decode bb_M_comeTo 49 = .ok (.goto 7, 3) := by decide +kernel
theorem dd_M_comeTo_52 : decode bb_M_comeTo 52 = .ok (.aload_n 0, 1) := by decide +kernel
theorem dd_M_comeTo_53 : decode bb_M_comeTo 53 = .ok (.getfield 119, 3) := by decide +kernel
theorem dd_M_comeTo_56 : decode bb_M_comeTo 56 = .ok (.putfield 119, 3) := by decide +kernel
theorem dd_M_comeTo_59 : decode bb_M_comeTo 59 = .ok (.aload_n 0, 1) := by decide +kernel
theorem dd_M_comeTo_60 : decode bb_M_comeTo 60 = .ok (.getfield 60, 3) := by decide +kernel
theorem dd_M_comeTo_63 : decode bb_M_comeTo 63 = .ok (.iload_n 1, 1) := by decide +kernel
theorem dd_M_comeTo_64 : decode bb_M_comeTo 64 = .ok (.iconst (-1), 1) := by decide +kernel
theorem dd_M_comeTo_65 : decode bb_M_comeTo 65 = .ok (.iastore, 1) := by decide +kernel
theorem dd_M_comeTo_66 : decode bb_M_comeTo 66 = .ok (.aload_n 0, 1) := by decide +kernel
theorem dd_M_comeTo_67 : decode bb_M_comeTo 67 = .ok (.getfield 63, 3) := by decide +kernel
theorem dd_M_comeTo_70 : decode bb_M_comeTo 70 = .ok (.iload_n 1, 1) := by decide +kernel
theorem dd_M_comeTo_71 : decode bb_M_comeTo 71 = .ok (.iconst (-1), 1) := by decide +kernel
theorem dd_M_comeTo_72 : decode bb_M_comeTo 72 = .ok (.iastore, 1) := by decide +kernel
theorem dd_M_comeTo_73 : decode bb_M_comeTo 73 = .ok (.aload_n 0, 1) := by decide +kernel
theorem dd_M_comeTo_74 : decode bb_M_comeTo 74 = .ok (.getfield 33, 3) := by decide +kernel
theorem dd_M_comeTo_77 : decode bb_M_comeTo 77 = .ok (.iload_n 1, 1) := by decide +kernel
theorem dd_M_comeTo_78 : decode bb_M_comeTo 78 = .ok (.iaload, 1) := by decide +kernel
theorem dd_M_comeTo_79 : decode bb_M_comeTo 79 = .ok (.iconst 1, 1) := by decide +kernel
theorem dd_M_comeTo_80 : decode bb_M_comeTo 80 = .ok (.if_icmp .ne 45, 3) := by decide +kernel
theorem dd_M_comeTo_83 : decode bb_M_comeTo 83 = .ok (.aload_n 0, 1) := by decide +kernel
theorem dd_M_comeTo_84 : decode bb_M_comeTo 84 = .ok (.getfield 60, 3) := by decide +kernel
theorem dd_M_comeTo_87 : decode bb_M_comeTo 87 = .ok (.iload_n 1, 1) := by decide +kernel
theorem dd_M_comeTo_88 : decode bb_M_comeTo 88 = .ok (.aload_n 0, 1) := by decide +kernel
theorem dd_M_comeTo_89 : decode bb_M_comeTo 89 = .ok (.iload_n 1, 1) := by decide +kernel
theorem dd_M_comeTo_90 : decode bb_M_comeTo 90 = .ok (.aload_n 0, 1) := by decide +kernel
theorem dd_M_comeTo_91 : decode bb_M_comeTo 91 = .ok (.getfield 36, 3) := by decide +kernel
theorem dd_M_comeTo_94 : decode bb_M_comeTo 94 = .ok (.iload_n 1, 1) := by decide +kernel
theorem dd_M_comeTo_95 : decode bb_M_comeTo 95 = .ok (.laload, 1) := by decide +kernel
theorem dd_M_comeTo_96 : decode bb_M_comeTo 96 = .ok (.invokevirtual 122, 3) := by decide +kernel
theorem dd_M_comeTo_99 : decode bb_M_comeTo 99 = .ok (.iastore, 1) := by decide +kernel
theorem dd_M_comeTo_100 : decode bb_M_comeTo 100 = .ok (.aload_n 0, 1) := by decide +kernel
theorem dd_M_comeTo_101 : decode bb_M_comeTo 101 = .ok (.getfield 60, 3) := by decide +kernel
theorem dd_M_comeTo_104 : decode bb_M_comeTo 104 = .ok (.iload_n 1, 1) := by decide +kernel
theorem dd_M_comeTo_105 : decode bb_M_comeTo 105 = .ok (.iaload, 1) := by decide +kernel
theorem dd_M_comeTo_106 : decode bb_M_comeTo 106 = .ok (.iconst (-1), 1) := by decide +kernel
theorem dd_M_comeTo_107 : decode bb_M_comeTo 107 = .ok (.if_icmp .ne 12, 3) := by decide +kernel
theorem dd_M_comeTo_110 : decode bb_M_comeTo 110 = .ok (.aload_n 0, 1) := by decide +kernel
theorem dd_M_comeTo_111 : decode bb_M_comeTo 111 = .ok (.iconst 5, 1) := by decide +kernel
theorem dd_M_comeTo_112 : decode bb_M_comeTo 112 = .ok (.iload_n 1, 1) := by decide +kernel
theorem dd_M_comeTo_113 : decode bb_M_comeTo 113 = .ok (.invokevirtual 126, 3) := by decide +kernel
theorem dd_M_comeTo_116 : decode bb_M_comeTo 116 = .ok (.goto 4, 3) := by decide +kernel
theorem dd_M_comeTo_119 : decode bb_M_comeTo 119 = .ok (.iconst 0, 1) := by decide +kernel
theorem dd_M_comeTo_120 : decode bb_M_comeTo 120 = .ok (.istore 4, 2) := by decide +kernel
theorem dd_M_comeTo_122 : decode bb_M_comeTo 122 = .ok (.goto 47, 3) := by decide +kernel
theorem dd_M_comeTo_125 : decode bb_M_comeTo 125 = .ok (.aload_n 0, 1) := by decide +kernel
theorem dd_M_comeTo_126 : decode bb_M_comeTo 126 = .ok (.getfield 33, 3) := by decide +kernel
theorem dd_M_comeTo_129 : decode bb_M_comeTo 129 = .ok (.iload_n 1, 1) := by decide +kernel
theorem dd_M_comeTo_130 : decode bb_M_comeTo 130 = .ok (.iaload, 1) := by decide +kernel
theorem dd_M_comeTo_131 : decode bb_M_comeTo 131 = .ok (.invokestatic 101, 3) := by decide +kernel
theorem dd_M_comeTo_134 : decode bb_M_comeTo 134 = .ok (.ifCond .ge 35, 3) := by decide +kernel
theorem dd_M_comeTo_137 : decode bb_M_comeTo 137 = .ok (.aload_n 0, 1) := by decide +kernel
theorem dd_M_comeTo_138 : decode bb_M_comeTo 138 = .ok (.getfield 63, 3) := by decide +kernel
theorem dd_M_comeTo_141 : decode bb_M_comeTo 141 = .ok (.iload_n 1, 1) := by decide +kernel
theorem dd_M_comeTo_142 : decode bb_M_comeTo 142 = .ok (.aload_n 0, 1) := by decide +kernel
theorem dd_M_comeTo_143 : decode bb_M_comeTo 143 = .ok (.iload_n 1, 1) := by decide +kernel
theorem dd_M_comeTo_144 : decode bb_M_comeTo 144 = .ok (.invokevirtual 130, 3) := by decide +kernel
theorem dd_M_comeTo_147 : decode bb_M_comeTo 147 = .ok (.iastore, 1) := by decide +kernel
theorem dd_M_comeTo_148 : decode bb_M_comeTo 148 = .ok (.aload_n 0, 1) := by decide +kernel
theorem dd_M_comeTo_149 : decode bb_M_comeTo 149 = .ok (.getfield 63, 3) := by decide +kernel
theorem dd_M_comeTo_152 : decode bb_M_comeTo 152 = .ok (.iload_n 1, 1) := by decide +kernel
theorem dd_M_comeTo_153 : decode bb_M_comeTo 153 = .ok (.iaload, 1) := by decide +kernel
theorem dd_M_comeTo_154 : decode bb_M_comeTo 154 = .ok (.ifCond .ge 12, 3) := by decide +kernel
theorem dd_M_comeTo_157 : decode bb_M_comeTo 157 = .ok (.aload_n 0, 1) := by decide +kernel
theorem dd_M_comeTo_158 : decode bb_M_comeTo 158 = .ok (.iconst 5, 1) := by decide +kernel
theorem dd_M_comeTo_159 : decode bb_M_comeTo 159 = .ok (.iload_n 1, 1) := by decide +kernel
theorem dd_M_comeTo_160 : decode bb_M_comeTo 160 = .ok (.invokevirtual 126, 3) := by decide +kernel
theorem dd_M_comeTo_163 : decode bb_M_comeTo 163 = .ok (.goto 4, 3) := by decide +kernel
theorem dd_M_comeTo_166 : decode bb_M_comeTo 166 = .ok (.iconst 0, 1) := by decide +kernel
theorem dd_M_comeTo_167 : decode bb_M_comeTo 167 = .ok (.istore 4, 2) := by decide +kernel
theorem dd_M_comeTo_169 : decode bb_M_comeTo 169 = .ok (.return_, 1) := by decide +kernel
theorem dd_M_typeOfVariable_0 : decode bb_M_typeOfVariable 0 = .ok (.aload_n 0, 1) := by decide +kernel
theorem dd_M_typeOfVariable_1 : decode bb_M_typeOfVariable 1 = .ok (.getfield 60, 3) := by decide +kernel
theorem dd_M_typeOfVariable_4 : decode bb_M_typeOfVariable 4 = .ok (.iload_n 1, 1) := by decide +kernel
theorem dd_M_typeOfVariable_5 : decode bb_M_typeOfVariable 5 = .ok (.iaload, 1) := by decide +kernel
theorem dd_M_typeOfVariable_6 : decode bb_M_typeOfVariable 6 = .ok (.istore_n 2, 1) := by decide +kernel
theorem dd_M_typeOfVariable_7 : decode bb_M_typeOfVariable 7 = .ok (.iload_n 2, 1) := by decide +kernel
theorem dd_M_typeOfVariable_8 : decode bb_M_typeOfVariable 8 = .ok (.ifCond .ge 22, 3) := by decide +kernel
theorem dd_M_typeOfVariable_11 : decode bb_M_typeOfVariable 11 = .ok (.aload_n 0, 1) := by decide +kernel
theorem dd_M_typeOfVariable_12 : decode bb_M_typeOfVariable 12 = .ok (.getfield 27, 3) := by decide +kernel
theorem dd_M_typeOfVariable_15 : decode bb_M_typeOfVariable 15 = .ok (.bipush 8, 2) := by decide +kernel
theorem dd_M_typeOfVariable_17 : decode bb_M_typeOfVariable 17 = .ok (.aload_n 0, 1) := by decide +kernel
theorem dd_M_typeOfVariable_18 : decode bb_M_typeOfVariable 18 = .ok (.getfield 51, 3) := by decide +kernel
theorem dd_M_typeOfVariable_21 : decode bb_M_typeOfVariable 21 = .ok (.iload_n 1, 1) := by decide +kernel
theorem dd_M_typeOfVariable_22 : decode bb_M_typeOfVariable 22 = .ok (.iaload, 1) := by decide +kernel
theorem dd_M_typeOfVariable_23 : decode bb_M_typeOfVariable 23 = .ok (.imul, 1) := by decide +kernel
theorem dd_M_typeOfVariable_24 : decode bb_M_typeOfVariable 24 = .ok (.iconst 2, 1) := by decide +kernel
theorem dd_M_typeOfVariable_25 : decode bb_M_typeOfVariable 25 = .ok (.isub, 1) := by decide +kernel
theorem dd_M_typeOfVariable_26 : decode bb_M_typeOfVariable 26 = .ok (.iload_n 2, 1) := by decide +kernel
theorem dd_M_typeOfVariable_27 : decode bb_M_typeOfVariable 27 = .ok (.isub, 1) := by decide +kernel
theorem dd_M_typeOfVariable_28 : decode bb_M_typeOfVariable 28 = .ok (.iaload, 1) := by decide +kernel
theorem dd_M_typeOfVariable_29 : decode bb_M_typeOfVariable 29 = .ok (.ireturn, 1) := by decide +kernel
theorem dd_M_typeOfVariable_30 : decode bb_M_typeOfVariable 30 = .ok (.aload_n 0, 1) := by decide +kernel
theorem dd_M_typeOfVariable_31 : decode bb_M_typeOfVariable 31 = .ok (.getfield 33, 3) := by decide +kernel
theorem dd_M_typeOfVariable_34 : decode bb_M_typeOfVariable 34 = .ok (.iload_n 2, 1) := by decide +kernel
theorem dd_M_typeOfVariable_35 : decode bb_M_typeOfVariable 35 = .ok (.iaload, 1) := by decide +kernel
theorem dd_M_typeOfVariable_36 : decode bb_M_typeOfVariable 36 = .ok (.invokestatic 98, 3) := by decide +kernel
theorem dd_M_typeOfVariable_39 : decode bb_M_typeOfVariable 39 = .ok (.ifCond .eq 25, 3) := by decide +kernel
theorem dd_M_typeOfVariable_42 : decode bb_M_typeOfVariable 42 = .ok (.aload_n 0, 1) := by decide +kernel
theorem dd_M_typeOfVariable_43 : decode bb_M_typeOfVariable 43 = .ok (.getfield 36, 3) := by decide +kernel
theorem dd_M_typeOfVariable_46 : decode bb_M_typeOfVariable 46 = .ok (.iload_n 2, 1) := by decide +kernel
theorem dd_M_typeOfVariable_47 : decode bb_M_typeOfVariable 47 = .ok (.laload, 1) := by decide +kernel
theorem dd_M_typeOfVariable_48 : decode bb_M_typeOfVariable 48 = .ok (.aload_n 0, 1) := by decide +kernel
theorem dd_M_typeOfVariable_49 : decode bb_M_typeOfVariable 49 = .ok (.getfield 36, 3) := by decide +kernel
theorem dd_M_typeOfVariable_52 : decode bb_M_typeOfVariable 52 = .ok (.iload_n 1, 1) := by decide +kernel
theorem dd_M_typeOfVariable_53 : decode bb_M_typeOfVariable 53 = .ok (.laload, 1) := by decide +kernel
theorem dd_M_typeOfVariable_54 : decode bb_M_typeOfVariable 54 = .ok (.lcmp, 1) := by decide +kernel
theorem dd_M_typeOfVariable_55 : decode bb_M_typeOfVariable 55 = .ok (.ifCond .ne 7, 3) := by decide +kernel
theorem dd_M_typeOfVariable_58 : decode bb_M_typeOfVariable 58 = .ok (.iconst 0, 1) := by decide +kernel
theorem dd_M_typeOfVariable_59 : decode bb_M_typeOfVariable 59 = .ok (.goto 4, 3) := by decide +kernel
theorem dd_M_typeOfVariable_62 : decode bb_M_typeOfVariable 62 = .ok (.iconst 3, 1) := by decide +kernel
theorem dd_M_typeOfVariable_63 : decode bb_M_typeOfVariable 63 = .ok (.ireturn, 1) := by decide +kernel
theorem dd_M_typeOfVariable_64 : decode bb_M_typeOfVariable 64 = .ok (.aload_n 0, 1) := by decide +kernel
theorem dd_M_typeOfVariable_65 : decode bb_M_typeOfVariable 65 = .ok (.getfield 57, 3) := by decide +kernel
theorem dd_M_typeOfVariable_68 : decode bb_M_typeOfVariable 68 = .ok (.aload_n 0, 1) := by decide +kernel
theorem dd_M_typeOfVariable_69 : decode bb_M_typeOfVariable 69 = .ok (.iload_n 2, 1) := by decide +kernel
theorem dd_M_typeOfVariable_70 : decode bb_M_typeOfVariable 70 = .ok (.iconst 0, 1) := by decide +kernel
theorem dd_M_typeOfVariable_71 : decode bb_M_typeOfVariable 71 = .ok (.invokevirtual 133, 3) := by decide +kernel
theorem dd_M_typeOfVariable_74 : decode bb_M_typeOfVariable 74 = .ok (.iaload, 1) := by decide +kernel
theorem dd_M_typeOfVariable_75 : decode bb_M_typeOfVariable 75 = .ok (.istore_n 3, 1) := by decide +kernel
theorem dd_M_typeOfVariable_76 : decode bb_M_typeOfVariable 76 = .ok (.aload_n 0, 1) := by decide +kernel
theorem dd_M_typeOfVariable_77 : decode bb_M_typeOfVariable 77 = .ok (.getfield 33, 3) := by decide +kernel
theorem dd_M_typeOfVariable_80 : decode bb_M_typeOfVariable 80 = .ok (.iload_n 2, 1) := by decide +kernel
theorem dd_M_typeOfVariable_81 : decode bb_M_typeOfVariable 81 = .ok (.iaload, 1) := by decide +kernel
theorem dd_M_typeOfVariable_82 : decode bb_M_typeOfVariable 82 = .ok (.bipush 18, 2) := by decide +kernel
theorem dd_M_typeOfVariable_84 : decode bb_M_typeOfVariable 84 = .ok (.if_icmp .ne 16, 3) := by decide +kernel
theorem dd_M_typeOfVariable_87 : decode bb_M_typeOfVariable 87 = .ok (.iload_n 3, 1) := by decide +kernel
theorem dd_M_typeOfVariable_88 : decode bb_M_typeOfVariable 88 = .ok (.iconst 2, 1) := by decide +kernel
theorem dd_M_typeOfVariable_89 : decode bb_M_typeOfVariable 89 = .ok (.if_icmp .ne 7, 3) := by decide +kernel
theorem dd_M_typeOfVariable_92 : decode bb_M_typeOfVariable 92 = .ok (.iconst 0, 1) := by decide +kernel
theorem dd_M_typeOfVariable_93 : decode bb_M_typeOfVariable 93 = .ok (.goto 8, 3) := by decide +kernel
theorem dd_M_typeOfVariable_96 : decode bb_M_typeOfVariable 96 = .ok (.iconst 1, 1) := by decide +kernel
theorem dd_M_typeOfVariable_97 : decode bb_M_typeOfVariable 97 = .ok (.goto 4, 3) := by decide +kernel
theorem dd_M_typeOfVariable_100 : decode bb_M_typeOfVariable 100 = .ok (.iload_n 3, 1) := by decide +kernel
theorem dd_M_typeOfVariable_101 : decode bb_M_typeOfVariable 101 = .ok (.ireturn, 1) := by decide +kernel
theorem dd_M_typeOf_0 : decode bb_M_typeOf 0 = .ok (.aload_n 0, 1) := by decide +kernel
theorem dd_M_typeOf_1 : decode bb_M_typeOf 1 = .ok (.getfield 33, 3) := by decide +kernel
theorem dd_M_typeOf_4 : decode bb_M_typeOf 4 = .ok (.iload_n 1, 1) := by decide +kernel
theorem dd_M_typeOf_5 : decode bb_M_typeOf 5 = .ok (.iaload, 1) := by decide +kernel
theorem dd_M_typeOf_6 : decode bb_M_typeOf 6 = .ok (.istore_n 2, 1) := by decide +kernel
theorem dd_M_typeOf_7 : decode bb_M_typeOf 7 = .ok (.iload_n 2, 1) := by decide +kernel
theorem dd_M_typeOf_8 : decode bb_M_typeOf 8 = .ok (.iconst 1, 1) := by decide +kernel
theorem dd_M_typeOf_9 : decode bb_M_typeOf 9 = .ok (.if_icmp .ne 9, 3) := by decide +kernel
theorem dd_M_typeOf_12 : decode bb_M_typeOf 12 = .ok (.aload_n 0, 1) := by decide +kernel
theorem dd_M_typeOf_13 : decode bb_M_typeOf 13 = .ok (.iload_n 1, 1) := by decide +kernel
theorem dd_M_typeOf_14 : decode bb_M_typeOf 14 = .ok (.invokevirtual 136, 3) := by decide +kernel
theorem dd_M_typeOf_17 : decode bb_M_typeOf 17 = .ok (.ireturn, 1) := by decide +kernel
theorem dd_M_typeOf_18 : decode bb_M_typeOf 18 = .ok (.iload_n 2, 1) := by decide +kernel
theorem dd_M_typeOf_19 : decode bb_M_typeOf 19 = .ok (.ifCond .eq 14, 3) := by decide +kernel
theorem dd_M_typeOf_22 : decode bb_M_typeOf 22 = .ok (.iload_n 2, 1) := by decide +kernel
theorem dd_M_typeOf_23 : decode bb_M_typeOf 23 = .ok (.iconst 3, 1) := by decide +kernel
theorem dd_M_typeOf_24 : decode bb_M_typeOf 24 = .ok (.if_icmp .lt 11, 3) := by decide +kernel
theorem dd_M_typeOf_27 : decode bb_M_typeOf 27 = .ok (.iload_n 2, 1) := by decide +kernel
theorem dd_M_typeOf_28 : decode bb_M_typeOf 28 = .ok (.bipush 9, 2) := by decide +kernel
theorem dd_M_typeOf_30 : decode bb_M_typeOf 30 = .ok (.if_icmp .gt 5, 3) := by decide +kernel
theorem dd_M_typeOf_33 : decode bb_M_typeOf 33 = .ok (.iconst 0, 1) := by decide +kernel
theorem dd_M_typeOf_34 : decode bb_M_typeOf 34 = .ok (.ireturn, 1) := by decide +kernel
theorem dd_M_typeOf_35 : decode bb_M_typeOf 35 = .ok (.iload_n 2, 1) := by decide +kernel
theorem dd_M_typeOf_36 : decode bb_M_typeOf 36 = .ok (.iconst 2, 1) := by decide +kernel
theorem dd_M_typeOf_37 : decode bb_M_typeOf 37 = .ok (.if_icmp .eq 9, 3) := by decide +kernel
theorem dd_M_typeOf_40 : decode bb_M_typeOf 40 = .ok (.iload_n 2, 1) := by decide +kernel
theorem dd_M_typeOf_41 : decode bb_M_typeOf 41 = .ok (.bipush 13, 2) := by decide +kernel
theorem dd_M_typeOf_43 : decode bb_M_typeOf 43 = .ok (.if_icmp .ne 5, 3) := by decide +kernel
theorem dd_M_typeOf_46 : decode bb_M_typeOf 46 = .ok (.iconst 1, 1) := by decide +kernel
theorem dd_M_typeOf_47 : decode bb_M_typeOf 47 = .ok (.ireturn, 1) := by decide +kernel
theorem dd_M_typeOf_48 : decode bb_M_typeOf 48 = .ok (.iload_n 2, 1) := by decide +kernel
theorem dd_M_typeOf_49 : decode bb_M_typeOf 49 = .ok (.bipush 14, 2) := by decide +kernel
theorem dd_M_typeOf_51 : decode bb_M_typeOf 51 = .ok (.if_icmp .eq 15, 3) := by decide +kernel
theorem dd_M_typeOf_54 : decode bb_M_typeOf 54 = .ok (.iload_n 2, 1) := by decide +kernel
theorem dd_M_typeOf_55 : decode bb_M_typeOf 55 = .ok (.bipush 15, 2) := by decide +kernel
theorem dd_M_typeOf_57 : decode bb_M_typeOf 57 = .ok (.if_icmp .eq 9, 3) := by decide +kernel
theorem dd_M_typeOf_60 : decode bb_M_typeOf 60 = .ok (.iload_n 2, 1) := by decide +kernel
theorem dd_M_typeOf_61 : decode bb_M_typeOf 61 = .ok (.bipush 23, 2) := by decide +kernel
theorem dd_M_typeOf_63 : decode bb_M_typeOf 63 = .ok (.if_icmp .ne 15, 3) := by decide +kernel
theorem dd_M_typeOf_66 : decode bb_M_typeOf 66 = .ok (.aload_n 0, 1) := by decide +kernel
theorem dd_M_typeOf_67 : decode bb_M_typeOf 67 = .ok (.getfield 17, 3) := by decide +kernel
theorem dd_M_typeOf_70 : decode bb_M_typeOf 70 = .ok (.aload_n 0, 1) := by decide +kernel
theorem dd_M_typeOf_71 : decode bb_M_typeOf 71 = .ok (.getfield 63, 3) := by decide +kernel
theorem dd_M_typeOf_74 : decode bb_M_typeOf 74 = .ok (.iload_n 1, 1) := by decide +kernel
theorem dd_M_typeOf_75 : decode bb_M_typeOf 75 = .ok (.iaload, 1) := by decide +kernel
theorem dd_M_typeOf_76 : decode bb_M_typeOf 76 = .ok (.iaload, 1) := by decide +kernel
theorem dd_M_typeOf_77 : decode bb_M_typeOf 77 = .ok (.ireturn, 1) := by decide +kernel
theorem dd_M_typeOf_78 : decode bb_M_typeOf 78 = .ok (.iload_n 2, 1) := by decide +kernel
theorem dd_M_typeOf_79 : decode bb_M_typeOf 79 = .ok (.bipush 16, 2) := by decide +kernel
theorem dd_M_typeOf_81 : decode bb_M_typeOf 81 = .ok (.if_icmp .ne 7, 3) := by decide +kernel
theorem dd_M_typeOf_84 : decode bb_M_typeOf 84 = .ok (.iconst 2, 1) := by decide +kernel
theorem dd_M_typeOf_85 : decode bb_M_typeOf 85 = .ok (.goto 31, 3) := by decide +kernel
theorem dd_M_typeOf_88 : decode bb_M_typeOf 88 = .ok (.iload_n 2, 1) := by decide +kernel
theorem dd_M_typeOf_89 : decode bb_M_typeOf 89 = .ok (.bipush 17, 2) := by decide +kernel
theorem dd_M_typeOf_91 : decode bb_M_typeOf 91 = .ok (.if_icmp .ne 7, 3) := by decide +kernel
theorem dd_M_typeOf_94 : decode bb_M_typeOf 94 = .ok (.iconst 3, 1) := by decide +kernel
theorem dd_M_typeOf_95 : decode bb_M_typeOf 95 = .ok (.goto 21, 3) := by decide +kernel
theorem dd_M_typeOf_98 : decode bb_M_typeOf 98 = .ok (.aload_n 0, 1) := by decide +kernel
theorem dd_M_typeOf_99 : decode bb_M_typeOf 99 = .ok (.getfield 57, 3) := by decide +kernel
theorem dd_M_typeOf_102 : decode bb_M_typeOf 102 = .ok (.aload_n 0, 1) := by decide +kernel
theorem dd_M_typeOf_103 : decode bb_M_typeOf 103 = .ok (.iload_n 1, 1) := by decide +kernel
theorem dd_M_typeOf_104 : decode bb_M_typeOf 104 = .ok (.aload_n 0, 1) := by decide +kernel
theorem dd_M_typeOf_105 : decode bb_M_typeOf 105 = .ok (.getfield 42, 3) := by decide +kernel
theorem dd_M_typeOf_108 : decode bb_M_typeOf 108 = .ok (.iload_n 1, 1) := by decide +kernel
theorem dd_M_typeOf_109 : decode bb_M_typeOf 109 = .ok (.iaload, 1) := by decide +kernel
theorem dd_M_typeOf_110 : decode bb_M_typeOf 110 = .ok (.iconst 1, 1) := by decide +kernel
theorem dd_M_typeOf_111 : decode bb_M_typeOf 111 = .ok (.isub, 1) := by decide +kernel
theorem dd_M_typeOf_112 : decode bb_M_typeOf 112 = .ok (.invokevirtual 133, 3) := by decide +kernel
theorem dd_M_typeOf_115 : decode bb_M_typeOf 115 = .ok (.iaload, 1) := by decide +kernel
theorem dd_M_typeOf_116 : decode bb_M_typeOf 116 = .ok (.ireturn, 1) := by decide +kernel
theorem dd_M_canStand_0 : decode bb_M_canStand 0 = .ok (.aload_n 0, 1) := by decide +kernel
theorem dd_M_canStand_1 : decode bb_M_canStand 1 = .ok (.getfield 45, 3) := by decide +kernel
theorem dd_M_canStand_4 : decode bb_M_canStand 4 = .ok (.iload_n 1, 1) := by decide +kernel
theorem dd_M_canStand_5 : decode bb_M_canStand 5 = .ok (.iaload, 1) := by decide +kernel
theorem dd_M_canStand_6 : decode bb_M_canStand 6 = .ok (.istore_n 3, 1) := by decide +kernel
theorem dd_M_canStand_7 : decode bb_M_canStand 7 = .ok (.iload_n 3, 1) := by decide +kernel
theorem dd_M_canStand_8 : decode bb_M_canStand 8 = .ok (.ifCond .ge 24, 3) := by decide +kernel
theorem dd_M_canStand_11 : decode bb_M_canStand 11 = .ok (.iload_n 2, 1) := by decide +kernel
theorem dd_M_canStand_12 : decode bb_M_canStand 12 = .ok (.aload_n 0, 1) := by decide +kernel
theorem dd_M_canStand_13 : decode bb_M_canStand 13 = .ok (.getfield 17, 3) := by decide +kernel
theorem dd_M_canStand_16 : decode bb_M_canStand 16 = .ok (.aload_n 0, 1) := by decide +kernel
theorem dd_M_canStand_17 : decode bb_M_canStand 17 = .ok (.getfield 51, 3) := by decide +kernel
theorem dd_M_canStand_20 : decode bb_M_canStand 20 = .ok (.iload_n 1, 1) := by decide +kernel
theorem dd_M_canStand_21 : decode bb_M_canStand 21 = .ok (.iaload, 1) := by decide +kernel
theorem dd_M_canStand_22 : decode bb_M_canStand 22 = .ok (.iaload, 1) := by decide +kernel
theorem dd_M_canStand_23 : decode bb_M_canStand 23 = .ok (.if_icmp .ne 7, 3) := by decide +kernel
theorem dd_M_canStand_26 : decode bb_M_canStand 26 = .ok (.iconst 1, 1) := by decide +kernel
theorem dd_M_canStand_27 : decode bb_M_canStand 27 = .ok (.goto 4, 3) := by decide +kernel
theorem dd_M_canStand_30 : decode bb_M_canStand 30 = .ok (.iconst 0, 1) := by decide +kernel
theorem dd_M_canStand_31 : decode bb_M_canStand 31 = .ok (.ireturn, 1) := by decide +kernel
theorem dd_M_canStand_32 : decode bb_M_canStand 32 = .ok (.aload_n 0, 1) := by decide +kernel
theorem dd_M_canStand_33 : decode bb_M_canStand 33 = .ok (.getfield 48, 3) := by decide +kernel
theorem dd_M_canStand_36 : decode bb_M_canStand 36 = .ok (.iload_n 1, 1) := by decide +kernel
theorem dd_M_canStand_37 : decode bb_M_canStand 37 = .ok (.iaload, 1) := by decide +kernel
theorem dd_M_canStand_38 : decode bb_M_canStand 38 = .ok (.istore 4, 2) := by decide +kernel
theorem dd_M_canStand_40 : decode bb_M_canStand 40 = .ok (.aload_n 0, 1) := by decide +kernel
theorem dd_M_canStand_41 : decode bb_M_canStand 41 = .ok (.getfield 33, 3) := by decide +kernel
theorem dd_M_canStand_44 : decode bb_M_canStand 44 = .ok (.iload_n 3, 1) := by decide +kernel
theorem dd_M_canStand_45 : decode bb_M_canStand 45 = .ok (.iaload, 1) := by decide +kernel
theorem dd_M_canStand_46 : decode bb_M_canStand 46 = .ok (.istore 5, 2) := by decide +kernel
theorem dd_M_canStand_48 : decode bb_M_canStand 48 = .ok (.iload 5, 2) := by decide +kernel
theorem dd_M_canStand_50 : decode bb_M_canStand 50 = .ok (.invokestatic 101, 3) := by decide +kernel
theorem dd_M_canStand_53 : decode bb_M_canStand 53 = .ok (.ifCond .ge 30, 3) := by decide +kernel
theorem dd_M_canStand_56 : decode bb_M_canStand 56 = .ok (.iload_n 2, 1) := by decide +kernel
theorem dd_M_canStand_57 : decode bb_M_canStand 57 = .ok (.aload_n 0, 1) := by decide +kernel
theorem dd_M_canStand_58 : decode bb_M_canStand 58 = .ok (.getfield 27, 3) := by decide +kernel
theorem dd_M_canStand_61 : decode bb_M_canStand 61 = .ok (.bipush 8, 2) := by decide +kernel
theorem dd_M_canStand_63 : decode bb_M_canStand 63 = .ok (.aload_n 0, 1) := by decide +kernel
theorem dd_M_canStand_64 : decode bb_M_canStand 64 = .ok (.getfield 63, 3) := by decide +kernel
theorem dd_M_canStand_67 : decode bb_M_canStand 67 = .ok (.iload_n 3, 1) := by decide +kernel
theorem dd_M_canStand_68 : decode bb_M_canStand 68 = .ok (.iaload, 1) := by decide +kernel
theorem dd_M_canStand_69 : decode bb_M_canStand 69 = .ok (.imul, 1) := by decide +kernel
theorem dd_M_canStand_70 : decode bb_M_canStand 70 = .ok (.iload 4, 2) := by decide +kernel
theorem dd_M_canStand_72 : decode bb_M_canStand 72 = .ok (.iadd, 1) := by decide +kernel
theorem dd_M_canStand_73 : decode bb_M_canStand 73 = .ok (.iaload, 1) := by decide +kernel
theorem dd_M_canStand_74 : decode bb_M_canStand 74 = .ok (.if_icmp .ne 7, 3) := by decide +kernel
theorem dd_M_canStand_77 : decode bb_M_canStand 77 = .ok (.iconst 1, 1) := by decide +kernel
theorem dd_M_canStand_78 : decode bb_M_canStand 78 = .ok (.goto 4, 3) := by decide +kernel
theorem dd_M_canStand_81 : decode bb_M_canStand 81 = .ok (.iconst 0, 1) := by decide +kernel
theorem dd_M_canStand_82 : decode bb_M_canStand 82 = .ok (.ireturn, 1) := by decide +kernel
theorem dd_M_canStand_83 : decode bb_M_canStand 83 = .ok (.iload 5, 2) := by decide +kernel
theorem dd_M_canStand_85 : decode bb_M_canStand 85 = .ok (.bipush 9, 2) := by decide +kernel
theorem dd_M_canStand_87 : decode bb_M_canStand 87 = .ok (.if_icmp .gt 13, 3) := by decide +kernel
theorem dd_M_canStand_90 : decode bb_M_canStand 90 = .ok (.iload_n 2, 1) := by decide +kernel
theorem dd_M_canStand_91 : decode bb_M_canStand 91 = .ok (.ifCond .ne 7, 3) := by decide +kernel
theorem dd_M_canStand_94 : decode bb_M_canStand 94 = .ok (.iconst 1, 1) := by decide +kernel
theorem dd_M_canStand_95 : decode bb_M_canStand 95 = .ok (.goto 4, 3) := by decide +kernel
theorem dd_M_canStand_98 : decode bb_M_canStand 98 = .ok (.iconst 0, 1) := by decide +kernel
theorem dd_M_canStand_99 : decode bb_M_canStand 99 = .ok (.ireturn, 1) := by decide +kernel
theorem dd_M_canStand_100 : decode bb_M_canStand 100 = .ok (.iload 5, 2) := by decide +kernel
theorem dd_M_canStand_102 : decode bb_M_canStand 102 = .ok (.tableswitch 128 11 21 #[126, 128, 58, 128, 128, 78, 88, 99, 115, 128, 126], 58) := by decide +kernel
theorem dd_M_canStand_160 : decode bb_M_canStand 160 = .ok (.iload_n 2, 1) := by decide +kernel
theorem dd_M_canStand_161 : decode bb_M_canStand 161 = .ok (.iload 4, 2) := by decide +kernel
theorem dd_M_canStand_163 : decode bb_M_canStand 163 = .ok (.ifCond .ne 7, 3) := by decide +kernel
theorem dd_M_canStand_166 : decode bb_M_canStand 166 = .ok (.iconst 0, 1) := by decide +kernel
theorem dd_M_canStand_167 : decode bb_M_canStand 167 = .ok (.goto 4, 3) := by decide +kernel
theorem dd_M_canStand_170 : decode bb_M_canStand 170 = .ok (.iconst 3, 1) := by decide +kernel
theorem dd_M_canStand_171 : decode bb_M_canStand 171 = .ok (.if_icmp .ne 7, 3) := by decide +kernel
theorem dd_M_canStand_174 : decode bb_M_canStand 174 = .ok (.iconst 1, 1) := by decide +kernel
theorem dd_M_canStand_175 : decode bb_M_canStand 175 = .ok (.goto 4, 3) := by decide +kernel
theorem dd_M_canStand_178 : decode bb_M_canStand 178 = .ok (.iconst 0, 1) := by decide +kernel
theorem dd_M_canStand_179 : decode bb_M_canStand 179 = .ok (.ireturn, 1) := by decide +kernel
theorem dd_M_canStand_180 : decode bb_M_canStand 180 = .ok (.iload_n 2, 1) := by decide +kernel
theorem dd_M_canStand_181 : decode bb_M_canStand 181 = .ok (.ifCond .ne 7, 3) := by decide +kernel
theorem dd_M_canStand_184 : decode bb_M_canStand 184 = .ok (.iconst 1, 1) := by decide +kernel
theorem dd_M_canStand_185 : decode bb_M_canStand 185 = .ok (.goto 4, 3) := by decide +kernel
theorem dd_M_canStand_188 : decode bb_M_canStand 188 = .ok (.iconst 0, 1) := by decide +kernel
theorem dd_M_canStand_189 : decode bb_M_canStand 189 = .ok (.ireturn, 1) := by decide +kernel
theorem dd_M_canStand_190 : decode bb_M_canStand 190 = .ok (.iload_n 2, 1) := by decide +kernel
theorem dd_M_canStand_191 : decode bb_M_canStand 191 = .ok (.iconst 1, 1) := by decide +kernel
theorem dd_M_canStand_192 : decode bb_M_canStand 192 = .ok (.if_icmp .ne 7, 3) := by decide +kernel
theorem dd_M_canStand_195 : decode bb_M_canStand 195 = .ok (.iconst 1, 1) := by decide +kernel
theorem dd_M_canStand_196 : decode bb_M_canStand 196 = .ok (.goto 4, 3) := by decide +kernel
theorem dd_M_canStand_199 : decode bb_M_canStand 199 = .ok (.iconst 0, 1) := by decide +kernel
theorem dd_M_canStand_200 : decode bb_M_canStand 200 = .ok (.ireturn, 1) := by decide +kernel
theorem dd_M_canStand_201 : decode bb_M_canStand 201 = .ok (.iload 4, 2) := by decide +kernel
theorem dd_M_canStand_203 : decode bb_M_canStand 203 = .ok (.ifCond .gt 8, 3) := by decide +kernel
theorem dd_M_canStand_206 : decode bb_M_canStand 206 = .ok (.iload_n 2, 1) := by decide +kernel
theorem dd_M_canStand_207 : decode bb_M_canStand 207 = .ok (.iconst 1, 1) := by decide +kernel
theorem dd_M_canStand_208 : decode bb_M_canStand 208 = .ok (.if_icmp .le 7, 3) := by decide +kernel
theorem dd_M_canStand_211 : decode bb_M_canStand 211 = .ok (.iconst 1, 1) := by decide +kernel
theorem dd_M_canStand_212 : decode bb_M_canStand 212 = .ok (.goto 4, 3) := by decide +kernel
theorem dd_M_canStand_215 : decode bb_M_canStand 215 = .ok (.iconst 0, 1) := by decide +kernel
theorem dd_M_canStand_216 : decode bb_M_canStand 216 = .ok (.ireturn, 1) := by decide +kernel
theorem dd_M_canStand_217 : decode bb_M_canStand 217 = .ok (.iload_n 2, 1) := by decide +kernel
theorem dd_M_canStand_218 : decode bb_M_canStand 218 = .ok (.iconst 2, 1) := by decide +kernel
theorem dd_M_canStand_219 : decode bb_M_canStand 219 = .ok (.if_icmp .ge 7, 3) := by decide +kernel
theorem dd_M_canStand_222 : decode bb_M_canStand 222 = .ok (.iconst 1, 1) := by decide +kernel
theorem dd_M_canStand_223 : decode bb_M_canStand 223 = .ok (.goto 4, 3) := by decide +kernel
theorem dd_M_canStand_226 : decode bb_M_canStand 226 = .ok (.iconst 0, 1) := by decide +kernel
theorem dd_M_canStand_227 : decode bb_M_canStand 227 = .ok (.ireturn, 1) := by decide +kernel
theorem dd_M_canStand_228 : decode bb_M_canStand 228 = .ok (.iconst 1, 1) := by decide +kernel
theorem dd_M_canStand_229 : decode bb_M_canStand 229 = .ok (.ireturn, 1) := by decide +kernel
theorem dd_M_canStand_230 : decode bb_M_canStand 230 = .ok (.iload 4, 2) := by decide +kernel
theorem dd_M_canStand_232 : decode bb_M_canStand 232 = .ok (.ifCond .ne 28, 3) := by decide +kernel
theorem dd_M_canStand_235 : decode bb_M_canStand 235 = .ok (.iload_n 2, 1) := by decide +kernel
theorem dd_M_canStand_236 : decode bb_M_canStand 236 = .ok (.iload 5, 2) := by decide +kernel
theorem dd_M_canStand_238 : decode bb_M_canStand 238 = .ok (.invokestatic 98, 3) := by decide +kernel
theorem dd_M_canStand_241 : decode bb_M_canStand 241 = .ok (.ifCond .eq 7, 3) := by decide +kernel
theorem dd_M_canStand_244 : decode bb_M_canStand 244 = .ok (.iconst 1, 1) := by decide +kernel
theorem dd_M_canStand_245 : decode bb_M_canStand 245 = .ok (.goto 4, 3) := by decide +kernel
theorem dd_M_canStand_248 : decode bb_M_canStand 248 = .ok (.iconst 0, 1) := by decide +kernel
theorem dd_M_canStand_249 : decode bb_M_canStand 249 = .ok (.if_icmp .ne 7, 3) := by decide +kernel
theorem dd_M_canStand_252 : decode bb_M_canStand 252 = .ok (.iconst 1, 1) := by decide +kernel
theorem dd_M_canStand_253 : decode bb_M_canStand 253 = .ok (.goto 33, 3) := by decide +kernel
theorem dd_M_canStand_256 : decode bb_M_canStand 256 = .ok (.iconst 0, 1) := by decide +kernel
theorem dd_M_canStand_257 : decode bb_M_canStand 257 = .ok (.goto 29, 3) := by decide +kernel
theorem dd_M_canStand_260 : decode bb_M_canStand 260 = .ok (.iload 4, 2) := by decide +kernel
theorem dd_M_canStand_262 : decode bb_M_canStand 262 = .ok (.iconst 1, 1) := by decide +kernel
theorem dd_M_canStand_263 : decode bb_M_canStand 263 = .ok (.if_icmp .eq 18, 3) := by decide +kernel
theorem dd_M_canStand_266 : decode bb_M_canStand 266 = .ok (.iload_n 2, 1) := by decide +kernel
theorem dd_M_canStand_267 : decode bb_M_canStand 267 = .ok (.aload_n 0, 1) := by decide +kernel
theorem dd_M_canStand_268 : decode bb_M_canStand 268 = .ok (.getfield 57, 3) := by decide +kernel
theorem dd_M_canStand_271 : decode bb_M_canStand 271 = .ok (.aload_n 0, 1) := by decide +kernel
theorem dd_M_canStand_272 : decode bb_M_canStand 272 = .ok (.iload_n 3, 1) := by decide +kernel
theorem dd_M_canStand_273 : decode bb_M_canStand 273 = .ok (.iconst 1, 1) := by decide +kernel
theorem dd_M_canStand_274 : decode bb_M_canStand 274 = .ok (.invokevirtual 133, 3) := by decide +kernel
theorem dd_M_canStand_277 : decode bb_M_canStand 277 = .ok (.iaload, 1) := by decide +kernel
theorem dd_M_canStand_278 : decode bb_M_canStand 278 = .ok (.if_icmp .ne 7, 3) := by decide +kernel
theorem dd_M_canStand_281 : decode bb_M_canStand 281 = .ok (.iconst 1, 1) := by decide +kernel
theorem dd_M_canStand_282 : decode bb_M_canStand 282 = .ok (.goto 4, 3) := by decide +kernel
theorem dd_M_canStand_285 : decode bb_M_canStand 285 = .ok (.iconst 0, 1) := by decide +kernel
theorem dd_M_canStand_286 : decode bb_M_canStand 286 = .ok (.ireturn, 1) := by decide +kernel
theorem dd_M_leave_0 : decode bb_M_leave 0 = .ok (.aload_n 0, 1) := by decide +kernel
theorem dd_M_leave_1 : decode bb_M_leave 1 = .ok (.getfield 83, 3) := by decide +kernel
theorem dd_M_leave_4 : decode bb_M_leave 4 = .ok (.ifCond .ne 40, 3) := by decide +kernel
theorem dd_M_leave_7 : decode bb_M_leave 7 = .ok (.aload_n 0, 1) := by decide +kernel
theorem dd_M_leave_8 : decode bb_M_leave 8 = .ok (.getfield 57, 3) := by decide +kernel
theorem dd_M_leave_11 : decode bb_M_leave 11 = .ok (.iload_n 1, 1) := by decide +kernel
theorem dd_M_leave_12 : decode bb_M_leave 12 = .ok (.aload_n 0, 1) := by decide +kernel
theorem dd_M_leave_13 : decode bb_M_leave 13 = .ok (.iload_n 1, 1) := by decide +kernel
theorem dd_M_leave_14 : decode bb_M_leave 14 = .ok (.invokevirtual 139, 3) := by decide +kernel
theorem dd_M_leave_17 : decode bb_M_leave 17 = .ok (.iastore, 1) := by decide +kernel
theorem dd_M_leave_18 : decode bb_M_leave 18 = .ok (.aload_n 0, 1) := by decide +kernel
theorem dd_M_leave_19 : decode bb_M_leave 19 = .ok (.iload_n 1, 1) := by decide +kernel
theorem dd_M_leave_20 : decode bb_M_leave 20 = .ok (.aload_n 0, 1) := by decide +kernel
theorem dd_M_leave_21 : decode bb_M_leave 21 = .ok (.getfield 57, 3) := by decide +kernel
theorem dd_M_leave_24 : decode bb_M_leave 24 = .ok (.iload_n 1, 1) := by decide +kernel
theorem dd_M_leave_25 : decode bb_M_leave 25 = .ok (.iaload, 1) := by decide +kernel
theorem dd_M_leave_26 : decode bb_M_leave 26 = .ok (.invokevirtual 142, 3) := by decide +kernel
theorem dd_M_leave_29 : decode bb_M_leave 29 = .ok (.ifCond .eq 7, 3) := by decide +kernel
theorem dd_M_leave_32 : decode bb_M_leave 32 = .ok (.iconst 0, 1) := by decide +kernel
theorem dd_M_leave_33 : decode bb_M_leave 33 = .ok (.goto 10, 3) := by decide +kernel
theorem dd_M_leave_36 : decode bb_M_leave 36 = .ok (.aload_n 0, 1) := by decide +kernel
theorem dd_M_leave_37 : decode bb_M_leave 37 = .ok (.bipush 6, 2) := by decide +kernel
theorem dd_M_leave_39 : decode bb_M_leave 39 = .ok (.iload_n 1, 1) := by decide +kernel
theorem dd_M_leave_40 : decode bb_M_leave 40 = .ok (.invokevirtual 126, 3) := by decide +kernel
theorem dd_M_leave_43 : decode bb_M_leave 43 = .ok (.istore_n 2, 1) := by decide +kernel
theorem dd_M_leave_44 : decode bb_M_leave 44 = .ok (.return_, 1) := by decide +kernel
theorem dd_M_isEnd_0 : decode bb_M_isEnd 0 = .ok (.iload_n 2, 1) := by decide +kernel
theorem dd_M_isEnd_1 : decode bb_M_isEnd 1 = .ok (.iload_n 3, 1) := by decide +kernel
theorem dd_M_isEnd_2 : decode bb_M_isEnd 2 = .ok (.if_icmp .eq 13, 3) := by decide +kernel
theorem dd_M_isEnd_5 : decode bb_M_isEnd 5 = .ok (.aload_n 0, 1) := by decide +kernel
theorem dd_M_isEnd_6 : decode bb_M_isEnd 6 = .ok (.getfield 45, 3) := by decide +kernel
theorem dd_M_isEnd_9 : decode bb_M_isEnd 9 = .ok (.iload_n 2, 1) := by decide +kernel
theorem dd_M_isEnd_10 : decode bb_M_isEnd 10 = .ok (.iaload, 1) := by decide +kernel
theorem dd_M_isEnd_11 : decode bb_M_isEnd 11 = .ok (.iload_n 1, 1) := by decide +kernel
theorem dd_M_isEnd_12 : decode bb_M_isEnd 12 = .ok (.if_icmp .ge 7, 3) := by decide +kernel
theorem dd_M_isEnd_15 : decode bb_M_isEnd 15 = .ok (.iconst 1, 1) := by decide +kernel
theorem dd_M_isEnd_16 : decode bb_M_isEnd 16 = .ok (.goto 4, 3) := by decide +kernel
theorem dd_M_isEnd_19 : decode bb_M_isEnd 19 = .ok (.iconst 0, 1) := by decide +kernel
theorem dd_M_isEnd_20 : decode bb_M_isEnd 20 = .ok (.ireturn, 1) := by decide +kernel
theorem dd_M_isMain_0 : decode bb_M_isMain 0 = .ok (.aload_n 0, 1) := by decide +kernel
theorem dd_M_isMain_1 : decode bb_M_isMain 1 = .ok (.getfield 73, 3) := by decide +kernel
theorem dd_M_isMain_4 : decode bb_M_isMain 4 = .ok (.iconst 1, 1) := by decide +kernel
theorem dd_M_isMain_5 : decode bb_M_isMain 5 = .ok (.isub, 1) := by decide +kernel
theorem dd_M_isMain_6 : decode bb_M_isMain 6 = .ok (.istore_n 1, 1) := by decide +kernel
theorem dd_M_isMain_7 : decode bb_M_isMain 7 = .ok (.aload_n 0, 1) := by decide +kernel
theorem dd_M_isMain_8 : decode bb_M_isMain 8 = .ok (.getfield 73, 3) := by decide +kernel
theorem dd_M_isMain_11 : decode bb_M_isMain 11 = .ok (.ifCond .le 78, 3) := by decide +kernel
theorem dd_M_isMain_14 : decode bb_M_isMain 14 = .ok (.aload_n 0, 1) := by decide +kernel
theorem dd_M_isMain_15 : decode bb_M_isMain 15 = .ok (.getfield 7, 3) := by decide +kernel
theorem dd_M_isMain_18 : decode bb_M_isMain 18 = .ok (.iload_n 1, 1) := by decide +kernel
theorem dd_M_isMain_19 : decode bb_M_isMain 19 = .ok (.ifCond .ge 7, 3) := by decide +kernel
theorem dd_M_isMain_22 : decode bb_M_isMain 22 = .ok (.iconst 0, 1) := by decide +kernel
theorem dd_M_isMain_23 : decode bb_M_isMain 23 = .ok (.goto 4, 3) := by decide +kernel
theorem dd_M_isMain_26 : decode bb_M_isMain 26 = .ok (.iload_n 1, 1) := by decide +kernel
theorem dd_M_isMain_27 : decode bb_M_isMain 27 = .ok (.baload, 1) := by decide +kernel
theorem dd_M_isMain_28 : decode bb_M_isMain 28 = .ok (.ifCond .ne 61, 3) := by decide +kernel
theorem dd_M_isMain_31 : decode bb_M_isMain 31 = .ok (.aload_n 0, 1) := by decide +kernel
theorem dd_M_isMain_32 : decode bb_M_isMain 32 = .ok (.getfield 13, 3) := by decide +kernel
theorem dd_M_isMain_35 : decode bb_M_isMain 35 = .ok (.iload_n 1, 1) := by decide +kernel
theorem dd_M_isMain_36 : decode bb_M_isMain 36 = .ok (.ifCond .ge 7, 3) := by decide +kernel
theorem dd_M_isMain_39 : decode bb_M_isMain 39 = .ok (.iconst 0, 1) := by decide +kernel
theorem dd_M_isMain_40 : decode bb_M_isMain 40 = .ok (.goto 4, 3) := by decide +kernel
theorem dd_M_isMain_43 : decode bb_M_isMain 43 = .ok (.iload_n 1, 1) := by decide +kernel
theorem dd_M_isMain_44 : decode bb_M_isMain 44 = .ok (.laload, 1) := by decide +kernel
theorem dd_M_isMain_45 : decode bb_M_isMain 45 = .ok (.ldc2_w 145, 3) := by decide +kernel
theorem dd_M_isMain_48 : decode bb_M_isMain 48 = .ok (.lcmp, 1) := by decide +kernel
theorem dd_M_isMain_49 : decode bb_M_isMain 49 = .ok (.ifCond .ne 40, 3) := by decide +kernel
theorem dd_M_isMain_52 : decode bb_M_isMain 52 = .ok (.aload_n 0, 1) := by decide +kernel
theorem dd_M_isMain_53 : decode bb_M_isMain 53 = .ok (.getfield 21, 3) := by decide +kernel
theorem dd_M_isMain_56 : decode bb_M_isMain 56 = .ok (.iload_n 1, 1) := by decide +kernel
theorem dd_M_isMain_57 : decode bb_M_isMain 57 = .ok (.iaload, 1) := by decide +kernel
theorem dd_M_isMain_58 : decode bb_M_isMain 58 = .ok (.iconst 1, 1) := by decide +kernel
theorem dd_M_isMain_59 : decode bb_M_isMain 59 = .ok (.if_icmp .ne 30, 3) := by decide +kernel
theorem dd_M_isMain_62 : decode bb_M_isMain 62 = .ok (.aload_n 0, 1) := by decide +kernel
theorem dd_M_isMain_63 : decode bb_M_isMain 63 = .ok (.getfield 27, 3) := by decide +kernel
theorem dd_M_isMain_66 : decode bb_M_isMain 66 = .ok (.bipush 8, 2) := by decide +kernel
theorem dd_M_isMain_68 : decode bb_M_isMain 68 = .ok (.iload_n 1, 1) := by decide +kernel
theorem dd_M_isMain_69 : decode bb_M_isMain 69 = .ok (.imul, 1) := by decide +kernel
theorem dd_M_isMain_70 : decode bb_M_isMain 70 = .ok (.iaload, 1) := by decide +kernel
theorem dd_M_isMain_71 : decode bb_M_isMain 71 = .ok (.iconst 3, 1) := by decide +kernel
theorem dd_M_isMain_72 : decode bb_M_isMain 72 = .ok (.if_icmp .ne 17, 3) := by decide +kernel
theorem dd_M_isMain_75 : decode bb_M_isMain 75 = .ok (.aload_n 0, 1) := by decide +kernel
theorem dd_M_isMain_76 : decode bb_M_isMain 76 = .ok (.getfield 17, 3) := by decide +kernel
theorem dd_M_isMain_79 : decode bb_M_isMain 79 = .ok (.iload_n 1, 1) := by decide +kernel
theorem dd_M_isMain_80 : decode bb_M_isMain 80 = .ok (.iaload, 1) := by decide +kernel
theorem dd_M_isMain_81 : decode bb_M_isMain 81 = .ok (.iconst 3, 1) := by decide +kernel
theorem dd_M_isMain_82 : decode bb_M_isMain 82 = .ok (.if_icmp .ne 7, 3) := by decide +kernel
theorem dd_M_isMain_85 : decode bb_M_isMain 85 = .ok (.iconst 1, 1) := by decide +kernel
theorem dd_M_isMain_86 : decode bb_M_isMain 86 = .ok (.goto 4, 3) := by decide +kernel
theorem dd_M_isMain_89 : decode bb_M_isMain 89 = .ok (.iconst 0, 1) := by decide +kernel
theorem dd_M_isMain_90 : decode bb_M_isMain 90 = .ok (.ireturn, 1) := by decide +kernel
theorem dd_M_check_0 : decode bb_M_check 0 = .ok (.aload_n 0, 1) := by decide +kernel
theorem dd_M_check_1 : decode bb_M_check 1 = .ok (.iconst 0, 1) := by decide +kernel
theorem dd_M_check_2 : decode bb_M_check 2 = .ok (.putfield 70, 3) := by decide +kernel
theorem dd_M_check_5 : decode bb_M_check 5 = .ok (.aload_n 0, 1) := by decide +kernel
theorem dd_M_check_6 : decode bb_M_check 6 = .ok (.invokevirtual 90, 3) := by decide +kernel
theorem dd_M_check_9 : decode bb_M_check 9 = .ok (.ifCond .ne 5, 3) := by decide +kernel
theorem dd_M_check_12 : decode bb_M_check 12 = .ok (.iconst (-1), 1) := by decide +kernel
theorem dd_M_check_13 : decode bb_M_check 13 = .ok (.ireturn, 1) := by decide +kernel
theorem dd_M_check_14 : decode bb_M_check 14 = .ok (.aload_n 0, 1) := by decide +kernel
theorem dd_M_check_15 : decode bb_M_check 15 = .ok (.iconst 0, 1) := by decide +kernel
theorem dd_M_check_16 : decode bb_M_check 16 = .ok (.putfield 83, 3) := by decide +kernel
theorem dd_M_check_19 : decode bb_M_check 19 = .ok (.aload_n 0, 1) := by decide +kernel
theorem dd_M_check_20 : decode bb_M_check 20 = .ok (.iconst (-1), 1) := by decide +kernel
theorem dd_M_check_21 : decode bb_M_check 21 = .ok (.putfield 66, 3) := by decide +kernel
theorem dd_M_check_24 : decode bb_M_check 24 = .ok (.aload_n 0, 1) := by decide +kernel
theorem dd_M_check_25 : decode bb_M_check 25 = .ok (.iconst 0, 1) := by decide +kernel
theorem dd_M_check_26 : decode bb_M_check 26 = .ok (.putfield 119, 3) := by decide +kernel
theorem dd_M_check_29 : decode bb_M_check 29 = .ok (.aload_n 0, 1) := by decide +kernel
theorem dd_M_check_30 : decode bb_M_check 30 = .ok (.invokevirtual 147, 3) := by decide +kernel
theorem dd_M_check_33 : decode bb_M_check 33 = .ok (.ifCond .ne 10, 3) := by decide +kernel
theorem dd_M_check_36 : decode bb_M_check 36 = .ok (.aload_n 0, 1) := by decide +kernel
theorem dd_M_check_37 : decode bb_M_check 37 = .ok (.iconst 4, 1) := by decide +kernel
theorem dd_M_check_38 : decode bb_M_check 38 = .ok (.iconst (-1), 1) := by decide +kernel
theorem dd_M_check_39 : decode bb_M_check 39 = .ok (.invokevirtual 126, 3) := by decide +kernel
theorem dd_M_check_42 : decode bb_M_check 42 = .ok (.pop, 1) := by decide +kernel
theorem dd_M_check_43 : decode bb_M_check 43 = .ok (.iconst 0, 1) := by decide +kernel
theorem dd_M_check_44 : decode bb_M_check 44 = .ok (.istore_n 1, 1) := by decide +kernel
theorem dd_M_check_45 : decode bb_M_check 45 = .ok (.iload_n 1, 1) := by decide +kernel
theorem dd_M_check_46 : decode bb_M_check 46 = .ok (.aload_n 0, 1) := by decide +kernel
theorem dd_M_check_47 : decode bb_M_check 47 = .ok (.getfield 76, 3) := by decide +kernel
theorem dd_M_check_50 : decode bb_M_check 50 = .ok (.if_icmp .ge 64, 3) := by decide +kernel
theorem dd_M_check_53 : decode bb_M_check 53 = .ok (.aload_n 0, 1) := by decide +kernel
theorem dd_M_check_54 : decode bb_M_check 54 = .ok (.getfield 83, 3) := by decide +kernel
theorem dd_M_check_57 : decode bb_M_check 57 = .ok (.ifCond .ne 57, 3) := by decide +kernel
theorem dd_M_check_60 : decode bb_M_check 60 = .ok (.aload_n 0, 1) := by decide +kernel
theorem dd_M_check_61 : decode bb_M_check 61 = .ok (.iload_n 1, 1) := by decide +kernel
theorem dd_M_check_62 : decode bb_M_check 62 = .ok (.invokevirtual 150, 3) := by decide +kernel
theorem dd_M_check_65 : decode bb_M_check 65 = .ok (.iload_n 1, 1) := by decide +kernel
theorem dd_M_check_66 : decode bb_M_check 66 = .ok (.istore_n 2, 1) := by decide +kernel
theorem dd_M_check_67 : decode bb_M_check 67 = .ok (.iload_n 2, 1) := by decide +kernel
theorem dd_M_check_68 : decode bb_M_check 68 = .ok (.ifCond .lt 40, 3) := by decide +kernel
theorem dd_M_check_71 : decode bb_M_check 71 = .ok (.aload_n 0, 1) := by decide +kernel
theorem dd_M_check_72 : decode bb_M_check 72 = .ok (.getfield 83, 3) := by decide +kernel
theorem dd_M_check_75 : decode bb_M_check 75 = .ok (.ifCond .ne 33, 3) := by decide +kernel
theorem dd_M_check_78 : decode bb_M_check 78 = .ok (.aload_n 0, 1) := by decide +kernel
theorem dd_M_check_79 : decode bb_M_check 79 = .ok (.iload_n 2, 1) := by decide +kernel
theorem dd_M_check_80 : decode bb_M_check 80 = .ok (.iload_n 1, 1) := by decide +kernel
theorem dd_M_check_81 : decode bb_M_check 81 = .ok (.iconst 1, 1) := by decide +kernel
theorem dd_M_check_82 : decode bb_M_check 82 = .ok (.iadd, 1) := by decide +kernel
theorem dd_M_check_83 : decode bb_M_check 83 = .ok (.aload_n 0, 1) := by decide +kernel
theorem dd_M_check_84 : decode bb_M_check 84 = .ok (.getfield 76, 3) := by decide +kernel
theorem dd_M_check_87 : decode bb_M_check 87 = .ok (.invokevirtual 154, 3) := by decide +kernel
theorem dd_M_check_90 : decode bb_M_check 90 = .ok (.ifCond .eq 18, 3) := by decide +kernel
theorem dd_M_check_93 : decode bb_M_check 93 = .ok (.aload_n 0, 1) := by decide +kernel
theorem dd_M_check_94 : decode bb_M_check 94 = .ok (.iload_n 2, 1) := by decide +kernel
theorem dd_M_check_95 : decode bb_M_check 95 = .ok (.invokevirtual 158, 3) := by decide +kernel
theorem dd_M_check_98 : decode bb_M_check 98 = .ok (.aload_n 0, 1) := by decide +kernel
theorem dd_M_check_99 : decode bb_M_check 99 = .ok (.getfield 45, 3) := by decide +kernel
theorem dd_M_check_102 : decode bb_M_check 102 = .ok (.iload_n 2, 1) := by decide +kernel
theorem dd_M_check_103 : decode bb_M_check 103 = .ok (.iaload, 1) := by decide +kernel
theorem dd_M_check_104 : decode bb_M_check 104 = .ok (.istore_n 2, 1) := by decide +kernel
theorem dd_M_check_105 : decode bb_M_check 105 = .ok (.goto (-38), 3) := by decide +kernel
theorem dd_M_check_108 : decode bb_M_check 108 = .ok (.iinc 1 1, 3) := by decide +kernel
theorem dd_M_check_111 : decode bb_M_check 111 = .ok (.goto (-66), 3) := by decide +kernel
theorem dd_M_check_114 : decode bb_M_check 114 = .ok (.aload_n 0, 1) := by decide +kernel
theorem dd_M_check_115 : decode bb_M_check 115 = .ok (.aload_n 0, 1) := by decide +kernel
theorem dd_M_check_116 : decode bb_M_check 116 = .ok (.getfield 83, 3) := by decide +kernel
theorem dd_M_check_119 : decode bb_M_check 119 = .ok (.ifCond .ne 7, 3) := by decide +kernel
theorem dd_M_check_122 : decode bb_M_check 122 = .ok (.iconst 1, 1) := by decide +kernel
theorem dd_M_check_123 : decode bb_M_check 123 = .ok (.goto 4, 3) := by decide +kernel
theorem dd_M_check_126 : decode bb_M_check 126 = .ok (.iconst 0, 1) := by decide +kernel
theorem dd_M_check_127 : decode bb_M_check 127 = .ok (.putfield 79, 3) := by decide +kernel
theorem dd_M_check_130 : decode bb_M_check 130 = .ok (.aload_n 0, 1) := by decide +kernel
theorem dd_M_check_131 : decode bb_M_check 131 = .ok (.getfield 83, 3) := by decide +kernel
theorem dd_M_check_134 : decode bb_M_check 134 = .ok (.ireturn, 1) := by decide +kernel
theorem dd_M_isKnown_0 : decode bb_M_isKnown 0 = .ok (.aload_n 0, 1) := by decide +kernel
theorem dd_M_isKnown_1 : decode bb_M_isKnown 1 = .ok (.getfield 79, 3) := by decide +kernel
theorem dd_M_isKnown_4 : decode bb_M_isKnown 4 = .ok (.ifCond .eq 19, 3) := by decide +kernel
theorem dd_M_isKnown_7 : decode bb_M_isKnown 7 = .ok (.iload_n 1, 1) := by decide +kernel
theorem dd_M_isKnown_8 : decode bb_M_isKnown 8 = .ok (.ifCond .lt 15, 3) := by decide +kernel
theorem dd_M_isKnown_11 : decode bb_M_isKnown 11 = .ok (.iload_n 1, 1) := by decide +kernel
theorem dd_M_isKnown_12 : decode bb_M_isKnown 12 = .ok (.aload_n 0, 1) := by decide +kernel
theorem dd_M_isKnown_13 : decode bb_M_isKnown 13 = .ok (.getfield 76, 3) := by decide +kernel
theorem dd_M_isKnown_16 : decode bb_M_isKnown 16 = .ok (.if_icmp .ge 7, 3) := by decide +kernel
theorem dd_M_isKnown_19 : decode bb_M_isKnown 19 = .ok (.iconst 1, 1) := by decide +kernel
theorem dd_M_isKnown_20 : decode bb_M_isKnown 20 = .ok (.goto 4, 3) := by decide +kernel
theorem dd_M_isKnown_23 : decode bb_M_isKnown 23 = .ok (.iconst 0, 1) := by decide +kernel
theorem dd_M_isKnown_24 : decode bb_M_isKnown 24 = .ok (.ireturn, 1) := by decide +kernel
theorem dd_M_type_0 : decode bb_M_type 0 = .ok (.aload_n 0, 1) := by decide +kernel
theorem dd_M_type_1 : decode bb_M_type 1 = .ok (.iconst 0, 1) := by decide +kernel
theorem dd_M_type_2 : decode bb_M_type 2 = .ok (.putfield 70, 3) := by decide +kernel
theorem dd_M_type_5 : decode bb_M_type 5 = .ok (.aload_n 0, 1) := by decide +kernel
theorem dd_M_type_6 : decode bb_M_type 6 = .ok (.iload_n 1, 1) := by decide +kernel
theorem dd_M_type_7 : decode bb_M_type 7 = .ok (.invokevirtual 161, 3) := by decide +kernel
theorem dd_M_type_10 : decode bb_M_type 10 = .ok (.ifCond .eq 12, 3) := by decide +kernel
theorem dd_M_type_13 : decode bb_M_type 13 = .ok (.aload_n 0, 1) := by decide +kernel
theorem dd_M_type_14 : decode bb_M_type 14 = .ok (.getfield 57, 3) := by decide +kernel
theorem dd_M_type_17 : decode bb_M_type 17 = .ok (.iload_n 1, 1) := by decide +kernel
theorem dd_M_type_18 : decode bb_M_type 18 = .ok (.iaload, 1) := by decide +kernel
theorem dd_M_type_19 : decode bb_M_type 19 = .ok (.goto 4, 3) := by decide +kernel
theorem dd_M_type_22 : decode bb_M_type 22 = .ok (.iconst (-1), 1) := by decide +kernel
theorem dd_M_type_23 : decode bb_M_type 23 = .ok (.ireturn, 1) := by decide +kernel
theorem dd_M_binder_0 : decode bb_M_binder 0 = .ok (.aload_n 0, 1) := by decide +kernel
theorem dd_M_binder_1 : decode bb_M_binder 1 = .ok (.iconst 0, 1) := by decide +kernel
theorem dd_M_binder_2 : decode bb_M_binder 2 = .ok (.putfield 70, 3) := by decide +kernel
theorem dd_M_binder_5 : decode bb_M_binder 5 = .ok (.aload_n 0, 1) := by decide +kernel
theorem dd_M_binder_6 : decode bb_M_binder 6 = .ok (.iload_n 1, 1) := by decide +kernel
theorem dd_M_binder_7 : decode bb_M_binder 7 = .ok (.invokevirtual 161, 3) := by decide +kernel
theorem dd_M_binder_10 : decode bb_M_binder 10 = .ok (.ifCond .eq 12, 3) := by decide +kernel
theorem dd_M_binder_13 : decode bb_M_binder 13 = .ok (.aload_n 0, 1) := by decide +kernel
theorem dd_M_binder_14 : decode bb_M_binder 14 = .ok (.getfield 60, 3) := by decide +kernel
theorem dd_M_binder_17 : decode bb_M_binder 17 = .ok (.iload_n 1, 1) := by decide +kernel
theorem dd_M_binder_18 : decode bb_M_binder 18 = .ok (.iaload, 1) := by decide +kernel
theorem dd_M_binder_19 : decode bb_M_binder 19 = .ok (.goto 4, 3) := by decide +kernel
theorem dd_M_binder_22 : decode bb_M_binder 22 = .ok (.iconst (-1), 1) := by decide +kernel
theorem dd_M_binder_23 : decode bb_M_binder 23 = .ok (.ireturn, 1) := by decide +kernel
theorem dd_M_target_0 : decode bb_M_target 0 = .ok (.aload_n 0, 1) := by decide +kernel
theorem dd_M_target_1 : decode bb_M_target 1 = .ok (.iconst 0, 1) := by decide +kernel
theorem dd_M_target_2 : decode bb_M_target 2 = .ok (.putfield 70, 3) := by decide +kernel
theorem dd_M_target_5 : decode bb_M_target 5 = .ok (.aload_n 0, 1) := by decide +kernel
theorem dd_M_target_6 : decode bb_M_target 6 = .ok (.iload_n 1, 1) := by decide +kernel
theorem dd_M_target_7 : decode bb_M_target 7 = .ok (.invokevirtual 161, 3) := by decide +kernel
theorem dd_M_target_10 : decode bb_M_target 10 = .ok (.ifCond .eq 12, 3) := by decide +kernel
theorem dd_M_target_13 : decode bb_M_target 13 = .ok (.aload_n 0, 1) := by decide +kernel
theorem dd_M_target_14 : decode bb_M_target 14 = .ok (.getfield 63, 3) := by decide +kernel
theorem dd_M_target_17 : decode bb_M_target 17 = .ok (.iload_n 1, 1) := by decide +kernel
theorem dd_M_target_18 : decode bb_M_target 18 = .ok (.iaload, 1) := by decide +kernel
theorem dd_M_target_19 : decode bb_M_target 19 = .ok (.goto 4, 3) := by decide +kernel
theorem dd_M_target_22 : decode bb_M_target 22 = .ok (.iconst (-1), 1) := by decide +kernel
theorem dd_M_target_23 : decode bb_M_target 23 = .ok (.ireturn, 1) := by decide +kernel
theorem dd_M_of_0 : decode bb_M_of 0 = .ok (.aload_n 0, 1) := by decide +kernel
theorem dd_M_of_1 : decode bb_M_of 1 = .ok (.iconst 0, 1) := by decide +kernel
theorem dd_M_of_2 : decode bb_M_of 2 = .ok (.putfield 70, 3) := by decide +kernel
theorem dd_M_of_5 : decode bb_M_of 5 = .ok (.iload_n 1, 1) := by decide +kernel
theorem dd_M_of_6 : decode bb_M_of 6 = .ok (.ifCond .lt 11, 3) := by decide +kernel
theorem dd_M_of_9 : decode bb_M_of 9 = .ok (.iload_n 1, 1) := by decide +kernel
theorem dd_M_of_10 : decode bb_M_of 10 = .ok (.aload_n 0, 1) := by decide +kernel
theorem dd_M_of_11 : decode bb_M_of 11 = .ok (.getfield 76, 3) := by decide +kernel
theorem dd_M_of_14 : decode bb_M_of 14 = .ok (.if_icmp .lt 5, 3) := by decide +kernel
theorem dd_M_of_17 : decode bb_M_of 17 = .ok (.iconst (-1), 1) := by decide +kernel
theorem dd_M_of_18 : decode bb_M_of 18 = .ok (.ireturn, 1) := by decide +kernel
theorem dd_M_of_19 : decode bb_M_of 19 = .ok (.iload_n 2, 1) := by decide +kernel
theorem dd_M_of_20 : decode bb_M_of 20 = .ok (.ifCond .ne 12, 3) := by decide +kernel
theorem dd_M_of_23 : decode bb_M_of 23 = .ok (.aload_n 0, 1) := by decide +kernel
theorem dd_M_of_24 : decode bb_M_of 24 = .ok (.getfield 33, 3) := by decide +kernel
theorem dd_M_of_27 : decode bb_M_of 27 = .ok (.iload_n 1, 1) := by decide +kernel
theorem dd_M_of_28 : decode bb_M_of 28 = .ok (.iaload, 1) := by decide +kernel
theorem dd_M_of_29 : decode bb_M_of 29 = .ok (.goto 46, 3) := by decide +kernel
theorem dd_M_of_32 : decode bb_M_of 32 = .ok (.iload_n 2, 1) := by decide +kernel
theorem dd_M_of_33 : decode bb_M_of 33 = .ok (.iconst 1, 1) := by decide +kernel
theorem dd_M_of_34 : decode bb_M_of 34 = .ok (.if_icmp .ne 12, 3) := by decide +kernel
theorem dd_M_of_37 : decode bb_M_of 37 = .ok (.aload_n 0, 1) := by decide +kernel
theorem dd_M_of_38 : decode bb_M_of 38 = .ok (.getfield 42, 3) := by decide +kernel
theorem dd_M_of_41 : decode bb_M_of 41 = .ok (.iload_n 1, 1) := by decide +kernel
theorem dd_M_of_42 : decode bb_M_of 42 = .ok (.iaload, 1) := by decide +kernel
theorem dd_M_of_43 : decode bb_M_of 43 = .ok (.goto 32, 3) := by decide +kernel
theorem dd_M_of_46 : decode bb_M_of 46 = .ok (.iload_n 2, 1) := by decide +kernel
theorem dd_M_of_47 : decode bb_M_of 47 = .ok (.iconst 2, 1) := by decide +kernel
theorem dd_M_of_48 : decode bb_M_of 48 = .ok (.if_icmp .ne 12, 3) := by decide +kernel
theorem dd_M_of_51 : decode bb_M_of 51 = .ok (.aload_n 0, 1) := by decide +kernel
theorem dd_M_of_52 : decode bb_M_of 52 = .ok (.getfield 45, 3) := by decide +kernel
theorem dd_M_of_55 : decode bb_M_of 55 = .ok (.iload_n 1, 1) := by decide +kernel
theorem dd_M_of_56 : decode bb_M_of 56 = .ok (.iaload, 1) := by decide +kernel
theorem dd_M_of_57 : decode bb_M_of 57 = .ok (.goto 18, 3) := by decide +kernel
theorem dd_M_of_60 : decode bb_M_of 60 = .ok (.iload_n 2, 1) := by decide +kernel
theorem dd_M_of_61 : decode bb_M_of 61 = .ok (.iconst 3, 1) := by decide +kernel
theorem dd_M_of_62 : decode bb_M_of 62 = .ok (.if_icmp .ne 12, 3) := by decide +kernel
theorem dd_M_of_65 : decode bb_M_of 65 = .ok (.aload_n 0, 1) := by decide +kernel
theorem dd_M_of_66 : decode bb_M_of 66 = .ok (.getfield 51, 3) := by decide +kernel
theorem dd_M_of_69 : decode bb_M_of 69 = .ok (.iload_n 1, 1) := by decide +kernel
theorem dd_M_of_70 : decode bb_M_of 70 = .ok (.iaload, 1) := by decide +kernel
theorem dd_M_of_71 : decode bb_M_of 71 = .ok (.goto 4, 3) := by decide +kernel
theorem dd_M_of_74 : decode bb_M_of 74 = .ok (.iconst (-1), 1) := by decide +kernel
theorem dd_M_of_75 : decode bb_M_of 75 = .ok (.ireturn, 1) := by decide +kernel
theorem dd_M_look_0 : decode bb_M_look 0 = .ok (.aload_n 0, 1) := by decide +kernel
theorem dd_M_look_1 : decode bb_M_look 1 = .ok (.iconst 0, 1) := by decide +kernel
theorem dd_M_look_2 : decode bb_M_look 2 = .ok (.putfield 70, 3) := by decide +kernel
theorem dd_M_look_5 : decode bb_M_look 5 = .ok (.iload_n 1, 1) := by decide +kernel
theorem dd_M_look_6 : decode bb_M_look 6 = .ok (.tableswitch 87 0 5 #[38, 43, 48, 53, 58, 71], 38) := by decide +kernel
theorem dd_M_look_44 : decode bb_M_look 44 = .ok (.aload_n 0, 1) := by decide +kernel
theorem dd_M_look_45 : decode bb_M_look 45 = .ok (.getfield 73, 3) := by decide +kernel
theorem dd_M_look_48 : decode bb_M_look 48 = .ok (.ireturn, 1) := by decide +kernel
theorem dd_M_look_49 : decode bb_M_look 49 = .ok (.aload_n 0, 1) := by decide +kernel
theorem dd_M_look_50 : decode bb_M_look 50 = .ok (.getfield 76, 3) := by decide +kernel
theorem dd_M_look_53 : decode bb_M_look 53 = .ok (.ireturn, 1) := by decide +kernel
theorem dd_M_look_54 : decode bb_M_look 54 = .ok (.aload_n 0, 1) := by decide +kernel
theorem dd_M_look_55 : decode bb_M_look 55 = .ok (.getfield 83, 3) := by decide +kernel
theorem dd_M_look_58 : decode bb_M_look 58 = .ok (.ireturn, 1) := by decide +kernel
theorem dd_M_look_59 : decode bb_M_look 59 = .ok (.aload_n 0, 1) := by decide +kernel
theorem dd_M_look_60 : decode bb_M_look 60 = .ok (.getfield 66, 3) := by decide +kernel
theorem dd_M_look_63 : decode bb_M_look 63 = .ok (.ireturn, 1) := by decide +kernel
theorem dd_M_look_64 : decode bb_M_look 64 = .ok (.aload_n 0, 1) := by decide +kernel
theorem dd_M_look_65 : decode bb_M_look 65 = .ok (.invokevirtual 90, 3) := by decide +kernel
theorem dd_M_look_68 : decode bb_M_look 68 = .ok (.ifCond .eq 7, 3) := by decide +kernel
theorem dd_M_look_71 : decode bb_M_look 71 = .ok (.iconst 1, 1) := by decide +kernel
theorem dd_M_look_72 : decode bb_M_look 72 = .ok (.goto 4, 3) := by decide +kernel
theorem dd_M_look_75 : decode bb_M_look 75 = .ok (.iconst 0, 1) := by decide +kernel
theorem dd_M_look_76 : decode bb_M_look 76 = .ok (.ireturn, 1) := by decide +kernel
theorem dd_M_look_77 : decode bb_M_look 77 = .ok (.aload_n 0, 1) := by decide +kernel
theorem dd_M_look_78 : decode bb_M_look 78 = .ok (.getfield 79, 3) := by decide +kernel
theorem dd_M_look_81 : decode bb_M_look 81 = .ok (.ifCond .eq 10, 3) := by decide +kernel
theorem dd_M_look_84 : decode bb_M_look 84 = .ok (.aload_n 0, 1) := by decide +kernel
theorem dd_M_look_85 : decode bb_M_look 85 = .ok (.getfield 119, 3) := by decide +kernel
theorem dd_M_look_88 : decode bb_M_look 88 = .ok (.goto 4, 3) := by decide +kernel
theorem dd_M_look_91 : decode bb_M_look 91 = .ok (.iconst (-1), 1) := by decide +kernel
theorem dd_M_look_92 : decode bb_M_look 92 = .ok (.ireturn, 1) := by decide +kernel
theorem dd_M_look_93 : decode bb_M_look 93 = .ok (.iconst (-1), 1) := by decide +kernel
theorem dd_M_look_94 : decode bb_M_look 94 = .ok (.ireturn, 1) := by decide +kernel
